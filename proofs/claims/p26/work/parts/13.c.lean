theorem dX7_takeWord_0 : decode cX7_takeWord 0 = .ok (.aload_n 0, 1) := by decide +kernel
theorem dX7_takeWord_1 : decode cX7_takeWord 1 = .ok (.invokevirtual 29, 3) := by decide +kernel
theorem dX7_takeWord_4 : decode cX7_takeWord 4 = .ok (.aload_n 0, 1) := by decide +kernel
theorem dX7_takeWord_5 : decode cX7_takeWord 5 = .ok (.getfield 19, 3) := by decide +kernel
theorem dX7_takeWord_8 : decode cX7_takeWord 8 = .ok (.istore_n 2, 1) := by decide +kernel
theorem dX7_takeWord_9 : decode cX7_takeWord 9 = .ok (.aload_n 0, 1) := by decide +kernel
theorem dX7_takeWord_10 : decode cX7_takeWord 10 = .ok (.getfield 19, 3) := by decide +kernel
theorem dX7_takeWord_13 : decode cX7_takeWord 13 = .ok (.aload_n 0, 1) := by decide +kernel
theorem dX7_takeWord_14 : decode cX7_takeWord 14 = .ok (.getfield 15, 3) := by decide +kernel
theorem dX7_takeWord_17 : decode cX7_takeWord 17 = .ok (.if_icmp .ge 44, 3) := by decide +kernel
theorem dX7_takeWord_20 : decode cX7_takeWord 20 = .ok (.aload_n 0, 1) := by decide +kernel
theorem dX7_takeWord_21 : decode cX7_takeWord 21 = .ok (.getfield 9, 3) := by decide +kernel
theorem dX7_takeWord_24 : decode cX7_takeWord 24 = .ok (.aload_n 0, 1) := by decide +kernel
theorem dX7_takeWord_25 : decode cX7_takeWord 25 = .ok (.getfield 19, 3) := by decide +kernel
theorem dX7_takeWord_28 : decode cX7_takeWord 28 = .ok (.iaload, 1) := by decide +kernel
theorem dX7_takeWord_29 : decode cX7_takeWord 29 = .ok (.bipush 97, 2) := by decide +kernel
theorem dX7_takeWord_31 : decode cX7_takeWord 31 = .ok (.if_icmp .lt 30, 3) := by decide +kernel
theorem dX7_takeWord_34 : decode cX7_takeWord 34 = .ok (.aload_n 0, 1) := by decide +kernel
theorem dX7_takeWord_35 : decode cX7_takeWord 35 = .ok (.getfield 9, 3) := by decide +kernel
theorem dX7_takeWord_38 : decode cX7_takeWord 38 = .ok (.aload_n 0, 1) := by decide +kernel
theorem dX7_takeWord_39 : decode cX7_takeWord 39 = .ok (.getfield 19, 3) := by decide +kernel
theorem dX7_takeWord_42 : decode cX7_takeWord 42 = .ok (.iaload, 1) := by decide +kernel
theorem dX7_takeWord_43 : decode cX7_takeWord 43 = .ok (.bipush 122, 2) := by decide +kernel
theorem dX7_takeWord_45 : decode cX7_takeWord 45 = .ok (.if_icmp .gt 16, 3) := by decide +kernel
theorem dX7_takeWord_48 : decode cX7_takeWord 48 = .ok (.aload_n 0, 1) := by decide +kernel
theorem dX7_takeWord_49 : decode cX7_takeWord 49 = .ok (.dup, 1) := by decide +kernel
theorem dX7_takeWord_50 : decode cX7_takeWord 50 = .ok (.getfield 19, 3) := by decide +kernel
theorem dX7_takeWord_53 : decode cX7_takeWord 53 = .ok (.iconst 1, 1) := by decide +kernel
theorem dX7_takeWord_54 : decode cX7_takeWord 54 = .ok (.iadd, 1) := by decide +kernel
theorem dX7_takeWord_55 : decode cX7_takeWord 55 = .ok (.putfield 19, 3) := by decide +kernel
theorem dX7_takeWord_58 : decode cX7_takeWord 58 = .ok (.goto (-49), 3) := by decide +kernel
theorem dX7_takeWord_61 : decode cX7_takeWord 61 = .ok (.iconst 0, 1) := by decide +kernel
theorem dX7_takeWord_62 : decode cX7_takeWord 62 = .ok (.istore_n 3, 1) := by decide +kernel
theorem dX7_takeWord_63 : decode cX7_takeWord 63 = .ok (.iload_n 2, 1) := by decide +kernel
theorem dX7_takeWord_64 : decode cX7_takeWord 64 = .ok (.istore 4, 2) := by decide +kernel
theorem dX7_takeWord_66 : decode cX7_takeWord 66 = .ok (.iconst 1, 1) := by decide +kernel
theorem dX7_takeWord_67 : decode cX7_takeWord 67 = .ok (.istore 5, 2) := by decide +kernel
theorem dX7_takeWord_69 : decode cX7_takeWord 69 = .ok (.iconst 0, 1) := by decide +kernel
theorem dX7_takeWord_70 : decode cX7_takeWord 70 = .ok (.istore 6, 2) := by decide +kernel
theorem dX7_takeWord_72 : decode cX7_takeWord 72 = .ok (.iload 6, 2) := by decide +kernel
theorem dX7_takeWord_74 : decode cX7_takeWord 74 = .ok (.aload_n 1, 1) := by decide +kernel
theorem dX7_takeWord_75 : decode cX7_takeWord 75 = .ok (.invokevirtual 40, 3) := by decide +kernel
theorem dX7_takeWord_78 : decode cX7_takeWord 78 = .ok (.if_icmp .ge 88, 3) := by decide +kernel
theorem dX7_takeWord_81 : decode cX7_takeWord 81 = .ok (.aload_n 1, 1) := by decide +kernel
theorem dX7_takeWord_82 : decode cX7_takeWord 82 = .ok (.iload 6, 2) := by decide +kernel
theorem dX7_takeWord_84 : decode cX7_takeWord 84 = .ok (.invokevirtual 44, 3) := by decide +kernel
theorem dX7_takeWord_87 : decode cX7_takeWord 87 = .ok (.bipush 32, 2) := by decide +kernel
theorem dX7_takeWord_89 : decode cX7_takeWord 89 = .ok (.if_icmp .eq 46, 3) := by decide +kernel
theorem dX7_takeWord_92 : decode cX7_takeWord 92 = .ok (.iload 5, 2) := by decide +kernel
theorem dX7_takeWord_94 : decode cX7_takeWord 94 = .ok (.ifCond .eq 32, 3) := by decide +kernel
theorem dX7_takeWord_97 : decode cX7_takeWord 97 = .ok (.iload 4, 2) := by decide +kernel
theorem dX7_takeWord_99 : decode cX7_takeWord 99 = .ok (.aload_n 0, 1) := by decide +kernel
theorem dX7_takeWord_100 : decode cX7_takeWord 100 = .ok (.getfield 19, 3) := by decide +kernel
theorem dX7_takeWord_103 : decode cX7_takeWord 103 = .ok (.if_icmp .ge 23, 3) := by decide +kernel
theorem dX7_takeWord_106 : decode cX7_takeWord 106 = .ok (.aload_n 0, 1) := by decide +kernel
theorem dX7_takeWord_107 : decode cX7_takeWord 107 = .ok (.getfield 9, 3) := by decide +kernel
theorem dX7_takeWord_110 : decode cX7_takeWord 110 = .ok (.iload 4, 2) := by decide +kernel
theorem dX7_takeWord_112 : decode cX7_takeWord 112 = .ok (.iaload, 1) := by decide +kernel
theorem dX7_takeWord_113 : decode cX7_takeWord 113 = .ok (.aload_n 1, 1) := by decide +kernel
theorem dX7_takeWord_114 : decode cX7_takeWord 114 = .ok (.iload 6, 2) := by decide +kernel
theorem dX7_takeWord_116 : decode cX7_takeWord 116 = .ok (.invokevirtual 44, 3) := by decide +kernel
theorem dX7_takeWord_119 : decode cX7_takeWord 119 = .ok (.if_icmp .ne 7, 3) := by decide +kernel
theorem dX7_takeWord_122 : decode cX7_takeWord 122 = .ok (.iconst 1, 1) := by decide +kernel
theorem dX7_takeWord_123 : decode cX7_takeWord 123 = .ok (.goto 4, 3) := by decide +kernel
theorem dX7_takeWord_126 : decode cX7_takeWord 126 = .ok (.iconst 0, 1) := by decide +kernel
theorem dX7_takeWord_127 : decode cX7_takeWord 127 = .ok (.istore 5, 2) := by decide +kernel
theorem dX7_takeWord_129 : decode cX7_takeWord 129 = .ok (.iinc 4 1, 3) := by decide +kernel
theorem dX7_takeWord_132 : decode cX7_takeWord 132 = .ok (.goto 28, 3) := by decide +kernel
theorem dX7_takeWord_135 : decode cX7_takeWord 135 = .ok (.iload 5, 2) := by decide +kernel
theorem dX7_takeWord_137 : decode cX7_takeWord 137 = .ok (.ifCond .eq 14, 3) := by decide +kernel
theorem dX7_takeWord_140 : decode cX7_takeWord 140 = .ok (.iload 4, 2) := by decide +kernel
theorem dX7_takeWord_142 : decode cX7_takeWord 142 = .ok (.aload_n 0, 1) := by decide +kernel
theorem dX7_takeWord_143 : decode cX7_takeWord 143 = .ok (.getfield 19, 3) := by decide +kernel
theorem dX7_takeWord_146 : decode cX7_takeWord 146 = .ok (.if_icmp .ne 5, 3) := by decide +kernel
theorem dX7_takeWord_149 : decode cX7_takeWord 149 = .ok (.iload_n 3, 1) := by decide +kernel
theorem dX7_takeWord_150 : decode cX7_takeWord 150 = .ok (.ireturn, 1) := by decide +kernel
theorem dX7_takeWord_151 : decode cX7_takeWord 151 = .ok (.iinc 3 1, 3) := by decide +kernel
theorem dX7_takeWord_154 : decode cX7_takeWord 154 = .ok (.iload_n 2, 1) := by decide +kernel
theorem dX7_takeWord_155 : decode cX7_takeWord 155 = .ok (.istore 4, 2) := by decide +kernel
theorem dX7_takeWord_157 : decode cX7_takeWord 157 = .ok (.iconst 1, 1) := by decide +kernel
theorem dX7_takeWord_158 : decode cX7_takeWord 158 = .ok (.istore 5, 2) := by decide +kernel
theorem dX7_takeWord_160 : decode cX7_takeWord 160 = .ok (.iinc 6 1, 3) := by decide +kernel
theorem dX7_takeWord_163 : decode cX7_takeWord 163 = .ok (.goto (-91), 3) := by decide +kernel
theorem dX7_takeWord_166 : decode cX7_takeWord 166 = .ok (.aload_n 0, 1) := by decide +kernel
theorem dX7_takeWord_167 : decode cX7_takeWord 167 = .ok (.iload_n 2, 1) := by decide +kernel
theorem dX7_takeWord_168 : decode cX7_takeWord 168 = .ok (.putfield 19, 3) := by decide +kernel
theorem dX7_takeWord_171 : decode cX7_takeWord 171 = .ok (.iconst (-1), 1) := by decide +kernel
theorem dX7_takeWord_172 : decode cX7_takeWord 172 = .ok (.ireturn, 1) := by decide +kernel
set_option maxHeartbeats 4000000 in
set_option maxRecDepth 100000 in
theorem c_X7_takeWord (l : Launch) (D : va_G) (cs : Nat → ClassId) (kK kV : Nat → Nat) (a : Nat) (k0 : Nat) (a_bytes : Nat) (a__length : Int32) (a__place : Int32) (a__fault : Int32) (a_bytes_c : Nat → Int32) (hk0 : k0 < 6) (h_a__length : IV 0 400 a__length) (h_a__place : IV 0 400 a__place) (h_a_bytes_c : CI 400 0 255 a_bytes_c) (sz : Nat) : Met l yX7_takeWord (hz_w yX7_takeWord cX7_takeWord 7 (some .int)) ({ frames := 4, cells := 0, slots := 0, locals := 85 }) (va_Pc [.ref a, .ref (kK k0)] (hz_C D cs kK kV sz [(a, .inr (7, [.ref a_bytes, .int a__length, .int a__place, .int a__fault])), (a_bytes, .inl (cs 0, 400, .inl a_bytes_c))])) (va_Qi (fun (r : Int32) (_ : Unit) => True) (fun _ t => ∃ (o_a_2 : Int32), IV 0 400 o_a_2 ∧ va_P D classes [(a, .inr (7, [.ref a_bytes, .int a__length, .int o_a_2, .int a__fault])), (a_bytes, .inl (cs 0, 400, .inl a_bytes_c))] t.heap ∧ va_D (va_A [(a, .inr (7, [.ref a_bytes, .int a__length, .int a__place, .int a__fault])), (a_bytes, .inl (cs 0, 400, .inl a_bytes_c))] sz) [(a, .inr (7, [.ref a_bytes, .int a__length, .int o_a_2, .int a__fault])), (a_bytes, .inl (cs 0, 400, .inl a_bytes_c))]) (va_A [(a, .inr (7, [.ref a_bytes, .int a__length, .int a__place, .int a__fault])), (a_bytes, .inl (cs 0, 400, .inl a_bytes_c))] sz)) 0 0 (va_A [(a, .inr (7, [.ref a_bytes, .int a__length, .int a__place, .int a__fault])), (a_bytes, .inl (cs 0, 400, .inl a_bytes_c))] sz) := by
  refine Met.ofW (cc := cX7_takeWord) (maxL := 7) (ret := (some .int)) (by decide) rfl ?_
  intro p e s m args below meth c s₁ B hml hv
  obtain ⟨rfl, hsz, hP, hD0, hE⟩ := hv
  have hx := B.exec
  have hb := B.bytes
  have hr := B.returns
  have hT : ∀ w ∈ TB, w.before _ s = true := fun w h => atoms_spec (ws := hz_w yX7_takeWord cX7_takeWord 7 (some .int)) B.pre w (List.mem_cons_of_mem _ h)
  have hown : s.vm.findClass RX7 = some m.cls := findClass_of_methodNamed B.named
  have hlocks := B.notSynchronized
  clear B
  subst hsz
  have hD := hD0.self (sz := s.heap.size)
  generalize hAe : va_A [(a, .inr (7, [.ref a_bytes, .int a__length, .int a__place, .int a__fault])), (a_bytes, .inl (cs 0, 400, .inl a_bytes_c))] s.heap.size = A at hD hE ⊢
  have hA : ∀ q : Nat, s.heap.size ≤ q → A q := fun q h => by rw [← hAe]; exact Or.inr h
  clear hAe hD0
  have hS : va_S A s.heap s.heap [] := va_S.rf
  have hK := hE.1
  have hl := lv_entry ([.ref a, .ref (kK k0)]) (n := 7) (Nat.le_of_ble_eq_true rfl)
  rw [lg_entry_eq]
  generalize (lg_sl ([.ref a, .ref (kK k0)]) ++ List.replicate (7 - (lg_sl ([.ref a, .ref (kK k0)])).length) Slot.unset).toArray = ls at hl ⊢
  have hl : lv_has ls 7 [(0, .ref a), (1, .ref (kK k0))] := hl
  obtain ⟨H, eH⟩ : ∃ z, z = s.heap := ⟨_, rfl⟩
  have hP : va_P D classes [(a, .inr (7, [.ref a_bytes, .int a__length, .int a__place, .int a__fault])), (a_bytes, .inl (cs 0, 400, .inl a_bytes_c))] H := by rw [eH]; exact hP
  have hS : va_S A s.heap H [] := by rw [eH]; exact hS
  rw [← eH]
  clear eH
  obtain ⟨locs, el⟩ : ∃ z : List Loc, z = [] := ⟨_, rfl⟩
  rw [← el] at hS ⊢
  clear el
  have K72 : ∀ (n : Nat) (k72_L_6 : Int32) (k72_L_5 : Int32) (k72_L_4 : Int32) (k72_L_3 : Int32) (k72_L_2 : Int32) (k72_F_a_2 : Int32), (96 - k72_L_6.toInt + 1).toNat ≤ n → IV 0 400 k72_F_a_2 → IV 0 400 k72_L_2 → IV 0 496 k72_L_4 → IV 0 1 k72_L_5 → IV 0 96 k72_L_6 → k72_L_4.toInt ≤ k72_L_6.toInt + 400 → ∀ (H : Heap) (locs : List Loc), va_P D classes [(a, .inr (7, [.ref a_bytes, .int a__length, .int k72_F_a_2, .int a__fault])), (a_bytes, .inl (cs 0, 400, .inl a_bytes_c))] H → va_D A [(a, .inr (7, [.ref a_bytes, .int a__length, .int k72_F_a_2, .int a__fault])), (a_bytes, .inl (cs 0, 400, .inl a_bytes_c))] → va_S A s.heap H locs → ∀ ls : Array Slot, lv_has ls 7 [(6, .int k72_L_6), (5, .int k72_L_5), (4, .int k72_L_4), (3, .int k72_L_3), (2, .int k72_L_2), (0, .ref a), (1, .ref (kK k0))] → W p l e (headSpec (hz_w yX7_takeWord cX7_takeWord 7 (some .int)) ({ frames := 4, cells := 0, slots := 0, locals := 85 })).room s m [.ref a, .ref (kK k0)].toArray below meth c H locs 0 0 (MQ below (va_Qi (fun (r : Int32) (_ : Unit) => True) (fun _ t => ∃ (o_a_2 : Int32), IV 0 400 o_a_2 ∧ va_P D classes [(a, .inr (7, [.ref a_bytes, .int a__length, .int o_a_2, .int a__fault])), (a_bytes, .inl (cs 0, 400, .inl a_bytes_c))] t.heap ∧ va_D A [(a, .inr (7, [.ref a_bytes, .int a__length, .int o_a_2, .int a__fault])), (a_bytes, .inl (cs 0, 400, .inl a_bytes_c))]) A) [.ref a, .ref (kK k0)].toArray s 0 0 A) (F0 m 72 ls []) := by
    intro n
    induction n with
    | zero =>
      intro k72_L_6 k72_L_5 k72_L_4 k72_L_3 k72_L_2 k72_F_a_2 hn q72_2 q72_3 q72_4 q72_5 q72_6 y72_0 H locs hP hD hS ls hl
      exact absurd hn (by unfold IV at q72_6; omega)
    | succ n ih72 =>
      intro k72_L_6 k72_L_5 k72_L_4 k72_L_3 k72_L_2 k72_F_a_2 hn q72_2 q72_3 q72_4 q72_5 q72_6 y72_0 H locs hP hD hS ls hl
      have K160 : ∀ (k160_L_4 : Int32) (k160_L_5 : Int32) (k160_L_3 : Int32), IV 0 497 k160_L_4 → IV 0 1 k160_L_5 → IV 0 400 k72_F_a_2 → IV 0 400 k72_L_2 → IV 0 71 k72_L_6 → k160_L_4.toInt ≤ k72_L_6.toInt + 401 → ∀ (H : Heap) (locs : List Loc), va_P D classes [(a, .inr (7, [.ref a_bytes, .int a__length, .int k72_F_a_2, .int a__fault])), (a_bytes, .inl (cs 0, 400, .inl a_bytes_c))] H → va_D A [(a, .inr (7, [.ref a_bytes, .int a__length, .int k72_F_a_2, .int a__fault])), (a_bytes, .inl (cs 0, 400, .inl a_bytes_c))] → va_S A s.heap H locs → ∀ ls : Array Slot, lv_has ls 7 [(4, .int k160_L_4), (5, .int k160_L_5), (6, .int k72_L_6), (3, .int k160_L_3), (2, .int k72_L_2), (0, .ref a), (1, .ref (kK k0))] → W p l e (headSpec (hz_w yX7_takeWord cX7_takeWord 7 (some .int)) ({ frames := 4, cells := 0, slots := 0, locals := 85 })).room s m [.ref a, .ref (kK k0)].toArray below meth c H locs 0 0 (MQ below (va_Qi (fun (r : Int32) (_ : Unit) => True) (fun _ t => ∃ (o_a_2 : Int32), IV 0 400 o_a_2 ∧ va_P D classes [(a, .inr (7, [.ref a_bytes, .int a__length, .int o_a_2, .int a__fault])), (a_bytes, .inl (cs 0, 400, .inl a_bytes_c))] t.heap ∧ va_D A [(a, .inr (7, [.ref a_bytes, .int a__length, .int o_a_2, .int a__fault])), (a_bytes, .inl (cs 0, 400, .inl a_bytes_c))]) A) [.ref a, .ref (kK k0)].toArray s 0 0 A) (F0 m 160 ls []) := by
        intro k160_L_4 k160_L_5 k160_L_3 q160_2 q160_3 q160_4 q160_5 q160_6 y160_0 H locs hP hD hS ls hl
        obtain ⟨v1, ev1⟩ : ∃ z : Int32, z = k72_L_6 + 1 := ⟨_, rfl⟩
        have hv1 : IV 1 72 v1 := iv_add ev1 q160_6 (iv_c (a := 1) (b := 1) (by decide)) (by decide) (by decide)
        have dv1 : v1.toInt = k72_L_6.toInt + 1 := iv_addE ev1 q160_6 (iv_c (a := 1) (b := 1) (by decide)) (by decide) (by decide) (by decide)
        refine lv_iinc (v := v1) (lv' := [(6, .int v1), (4, .int k160_L_4), (5, .int k160_L_5), (3, .int k160_L_3), (2, .int k72_L_2), (0, .ref a), (1, .ref (kK k0))]) hx hb dX7_takeWord_160 hl (k := 2) rfl (by rw [ev1]; rfl) (by decide) rfl (fun ls hl => ?_)
        refine lv_goto (tgt := 72) hx hb dX7_takeWord_163 (by decide) ?_
        exact ih72 v1 k160_L_5 k160_L_4 k160_L_3 k72_L_2 k72_F_a_2 (by have h9 := q160_6; unfold IV at h9; have := dv1; omega) q160_4 q160_5 (by unfold IV; have i0 := q160_2; unfold IV at i0; have i0 := hv1; unfold IV at i0; have := dv1; have i0 := q160_6; unfold IV at i0; have := y160_0; have := y72_0; omega) q160_3 (iv_w hv1 (by decide) (by decide)) (by have i0 := q160_2; unfold IV at i0; have i0 := hv1; unfold IV at i0; have := dv1; have i0 := q160_6; unfold IV at i0; have := y160_0; have := y72_0; omega) H locs (hP.sub (ws' := [(a, .inr (7, [.ref a_bytes, .int a__length, .int k72_F_a_2, .int a__fault])), (a_bytes, .inl (cs 0, 400, .inl a_bytes_c))]) [0, 1] rfl) (hD.sub (ws' := [(a, .inr (7, [.ref a_bytes, .int a__length, .int k72_F_a_2, .int a__fault])), (a_bytes, .inl (cs 0, 400, .inl a_bytes_c))]) [0, 1] (by decide) rfl) hS ls (lv_sub hl [0, 2, 1, 3, 4, 5, 6] rfl)
      have K151 : IV 0 400 k72_F_a_2 → IV 0 400 k72_L_2 → IV 0 496 k72_L_4 → IV 0 1 k72_L_5 → IV 0 71 k72_L_6 → ∀ (H : Heap) (locs : List Loc), va_P D classes [(a, .inr (7, [.ref a_bytes, .int a__length, .int k72_F_a_2, .int a__fault])), (a_bytes, .inl (cs 0, 400, .inl a_bytes_c))] H → va_D A [(a, .inr (7, [.ref a_bytes, .int a__length, .int k72_F_a_2, .int a__fault])), (a_bytes, .inl (cs 0, 400, .inl a_bytes_c))] → va_S A s.heap H locs → ∀ ls : Array Slot, lv_has ls 7 [(6, .int k72_L_6), (5, .int k72_L_5), (4, .int k72_L_4), (3, .int k72_L_3), (2, .int k72_L_2), (0, .ref a), (1, .ref (kK k0))] → W p l e (headSpec (hz_w yX7_takeWord cX7_takeWord 7 (some .int)) ({ frames := 4, cells := 0, slots := 0, locals := 85 })).room s m [.ref a, .ref (kK k0)].toArray below meth c H locs 0 0 (MQ below (va_Qi (fun (r : Int32) (_ : Unit) => True) (fun _ t => ∃ (o_a_2 : Int32), IV 0 400 o_a_2 ∧ va_P D classes [(a, .inr (7, [.ref a_bytes, .int a__length, .int o_a_2, .int a__fault])), (a_bytes, .inl (cs 0, 400, .inl a_bytes_c))] t.heap ∧ va_D A [(a, .inr (7, [.ref a_bytes, .int a__length, .int o_a_2, .int a__fault])), (a_bytes, .inl (cs 0, 400, .inl a_bytes_c))]) A) [.ref a, .ref (kK k0)].toArray s 0 0 A) (F0 m 151 ls []) := by
        intro  q151_2 q151_3 q151_4 q151_5 q151_6 H locs hP hD hS ls hl
        obtain ⟨v2, ev2⟩ : ∃ z : Int32, z = k72_L_3 + 1 := ⟨_, rfl⟩
        refine lv_iinc (v := v2) (lv' := [(3, .int v2), (6, .int k72_L_6), (5, .int k72_L_5), (4, .int k72_L_4), (2, .int k72_L_2), (0, .ref a), (1, .ref (kK k0))]) hx hb dX7_takeWord_151 hl (k := 3) rfl (by rw [ev2]; rfl) (by decide) rfl (fun ls hl => ?_)
        refine lv_iload_n hx hb dX7_takeWord_154 rfl (lv_at hl 4 rfl) ?_
        refine lv_istore (lv' := [(4, .int k72_L_2), (3, .int v2), (6, .int k72_L_6), (5, .int k72_L_5), (2, .int k72_L_2), (0, .ref a), (1, .ref (kK k0))]) hx hb dX7_takeWord_155 hl (by decide) rfl (fun ls hl => ?_)
        refine lv_iconst (v := 1) hx hb dX7_takeWord_157 (by decide) ?_
        refine lv_istore (lv' := [(5, .int 1), (4, .int k72_L_2), (3, .int v2), (6, .int k72_L_6), (2, .int k72_L_2), (0, .ref a), (1, .ref (kK k0))]) hx hb dX7_takeWord_158 hl (by decide) rfl (fun ls hl => ?_)
        exact K160 k72_L_2 1 v2 (iv_w q151_3 (by decide) (by decide)) (iv_c (by decide)) q151_2 q151_3 q151_6 (by have i0 := q151_3; unfold IV at i0; have i0 := q151_6; unfold IV at i0; have := y72_0; omega) H locs (hP.sub (ws' := [(a, .inr (7, [.ref a_bytes, .int a__length, .int k72_F_a_2, .int a__fault])), (a_bytes, .inl (cs 0, 400, .inl a_bytes_c))]) [0, 1] rfl) (hD.sub (ws' := [(a, .inr (7, [.ref a_bytes, .int a__length, .int k72_F_a_2, .int a__fault])), (a_bytes, .inl (cs 0, 400, .inl a_bytes_c))]) [0, 1] (by decide) rfl) hS ls (lv_sub hl [1, 0, 3, 2, 4, 5, 6] rfl)
      have K127 : ∀ (k127_S_0 : Int32), IV 0 1 k127_S_0 → IV 0 400 k72_F_a_2 → IV 0 400 k72_L_2 → IV 0 496 k72_L_4 → IV 0 1 k72_L_5 → IV 0 71 k72_L_6 → ∀ (H : Heap) (locs : List Loc), va_P D classes [(a, .inr (7, [.ref a_bytes, .int a__length, .int k72_F_a_2, .int a__fault])), (a_bytes, .inl (cs 0, 400, .inl a_bytes_c))] H → va_D A [(a, .inr (7, [.ref a_bytes, .int a__length, .int k72_F_a_2, .int a__fault])), (a_bytes, .inl (cs 0, 400, .inl a_bytes_c))] → va_S A s.heap H locs → ∀ ls : Array Slot, lv_has ls 7 [(6, .int k72_L_6), (5, .int k72_L_5), (4, .int k72_L_4), (3, .int k72_L_3), (2, .int k72_L_2), (0, .ref a), (1, .ref (kK k0))] → W p l e (headSpec (hz_w yX7_takeWord cX7_takeWord 7 (some .int)) ({ frames := 4, cells := 0, slots := 0, locals := 85 })).room s m [.ref a, .ref (kK k0)].toArray below meth c H locs 0 0 (MQ below (va_Qi (fun (r : Int32) (_ : Unit) => True) (fun _ t => ∃ (o_a_2 : Int32), IV 0 400 o_a_2 ∧ va_P D classes [(a, .inr (7, [.ref a_bytes, .int a__length, .int o_a_2, .int a__fault])), (a_bytes, .inl (cs 0, 400, .inl a_bytes_c))] t.heap ∧ va_D A [(a, .inr (7, [.ref a_bytes, .int a__length, .int o_a_2, .int a__fault])), (a_bytes, .inl (cs 0, 400, .inl a_bytes_c))]) A) [.ref a, .ref (kK k0)].toArray s 0 0 A) (F0 m 127 ls [.int k127_S_0]) := by
        intro k127_S_0 q127_2 q127_3 q127_4 q127_5 q127_6 q127_7 H locs hP hD hS ls hl
        refine lv_istore (lv' := [(5, .int k127_S_0), (6, .int k72_L_6), (4, .int k72_L_4), (3, .int k72_L_3), (2, .int k72_L_2), (0, .ref a), (1, .ref (kK k0))]) hx hb dX7_takeWord_127 hl (by decide) rfl (fun ls hl => ?_)
        obtain ⟨v3, ev3⟩ : ∃ z : Int32, z = k72_L_4 + 1 := ⟨_, rfl⟩
        have hv3 : IV 1 497 v3 := iv_add ev3 q127_5 (iv_c (a := 1) (b := 1) (by decide)) (by decide) (by decide)
        have dv3 : v3.toInt = k72_L_4.toInt + 1 := iv_addE ev3 q127_5 (iv_c (a := 1) (b := 1) (by decide)) (by decide) (by decide) (by decide)
        refine lv_iinc (v := v3) (lv' := [(4, .int v3), (5, .int k127_S_0), (6, .int k72_L_6), (3, .int k72_L_3), (2, .int k72_L_2), (0, .ref a), (1, .ref (kK k0))]) hx hb dX7_takeWord_129 hl (k := 2) rfl (by rw [ev3]; rfl) (by decide) rfl (fun ls hl => ?_)
        refine lv_goto (tgt := 160) hx hb dX7_takeWord_132 (by decide) ?_
        exact K160 v3 k127_S_0 k72_L_3 (iv_w hv3 (by decide) (by decide)) q127_2 q127_3 q127_4 q127_7 (by have i0 := hv3; unfold IV at i0; have := dv3; have i0 := q127_5; unfold IV at i0; have i0 := q127_7; unfold IV at i0; have := y72_0; omega) H locs (hP.sub (ws' := [(a, .inr (7, [.ref a_bytes, .int a__length, .int k72_F_a_2, .int a__fault])), (a_bytes, .inl (cs 0, 400, .inl a_bytes_c))]) [0, 1] rfl) (hD.sub (ws' := [(a, .inr (7, [.ref a_bytes, .int a__length, .int k72_F_a_2, .int a__fault])), (a_bytes, .inl (cs 0, 400, .inl a_bytes_c))]) [0, 1] (by decide) rfl) hS ls (lv_sub hl [0, 1, 2, 3, 4, 5, 6] rfl)
      have K126 : IV 0 400 k72_F_a_2 → IV 0 400 k72_L_2 → IV 0 496 k72_L_4 → IV 0 1 k72_L_5 → IV 0 71 k72_L_6 → ∀ (H : Heap) (locs : List Loc), va_P D classes [(a, .inr (7, [.ref a_bytes, .int a__length, .int k72_F_a_2, .int a__fault])), (a_bytes, .inl (cs 0, 400, .inl a_bytes_c))] H → va_D A [(a, .inr (7, [.ref a_bytes, .int a__length, .int k72_F_a_2, .int a__fault])), (a_bytes, .inl (cs 0, 400, .inl a_bytes_c))] → va_S A s.heap H locs → ∀ ls : Array Slot, lv_has ls 7 [(6, .int k72_L_6), (5, .int k72_L_5), (4, .int k72_L_4), (3, .int k72_L_3), (2, .int k72_L_2), (0, .ref a), (1, .ref (kK k0))] → W p l e (headSpec (hz_w yX7_takeWord cX7_takeWord 7 (some .int)) ({ frames := 4, cells := 0, slots := 0, locals := 85 })).room s m [.ref a, .ref (kK k0)].toArray below meth c H locs 0 0 (MQ below (va_Qi (fun (r : Int32) (_ : Unit) => True) (fun _ t => ∃ (o_a_2 : Int32), IV 0 400 o_a_2 ∧ va_P D classes [(a, .inr (7, [.ref a_bytes, .int a__length, .int o_a_2, .int a__fault])), (a_bytes, .inl (cs 0, 400, .inl a_bytes_c))] t.heap ∧ va_D A [(a, .inr (7, [.ref a_bytes, .int a__length, .int o_a_2, .int a__fault])), (a_bytes, .inl (cs 0, 400, .inl a_bytes_c))]) A) [.ref a, .ref (kK k0)].toArray s 0 0 A) (F0 m 126 ls []) := by
        intro  q126_2 q126_3 q126_4 q126_5 q126_6 H locs hP hD hS ls hl
        refine lv_iconst (v := 0) hx hb dX7_takeWord_126 (by decide) ?_
        exact K127 0 (iv_c (by decide)) q126_2 q126_3 q126_4 q126_5 q126_6 H locs (hP.sub (ws' := [(a, .inr (7, [.ref a_bytes, .int a__length, .int k72_F_a_2, .int a__fault])), (a_bytes, .inl (cs 0, 400, .inl a_bytes_c))]) [0, 1] rfl) (hD.sub (ws' := [(a, .inr (7, [.ref a_bytes, .int a__length, .int k72_F_a_2, .int a__fault])), (a_bytes, .inl (cs 0, 400, .inl a_bytes_c))]) [0, 1] (by decide) rfl) hS ls (lv_sub hl [0, 1, 2, 3, 4, 5, 6] rfl)
      refine lv_iload hx hb dX7_takeWord_72 (lv_at hl 0 rfl) ?_
      refine lv_aload_n hx hb dX7_takeWord_74 rfl (lv_at hl 6 rfl) ?_
      refine va_calli (va_runV (As := []) (rest := [.int k72_L_6]) ⟨hx, hb, hml, hown, hT⟩ (c_J0_length_8abf5_47 l D cs kK kV k0 hk0) (cwV 0 hT (hz_gV q_634 q_635 q_637 q_636 q_638) rfl rfl rfl (by decide +kernel) ⟨(Nat.le_of_ble_eq_true rfl), (Nat.le_of_ble_eq_true rfl)⟩) ⟨hz_P.blind, vk_recv hE.2.2.2.1 (i := k0) hk0 hS, hz_P.mk (hP.sub (ws' := []) [] rfl) hE hS⟩ rfl rfl hl.1 rfl (lv_room (Nat.le_of_ble_eq_true rfl)) dX7_takeWord_75 ⟨(Nat.le_of_ble_eq_true rfl), (Nat.le_of_ble_eq_true rfl)⟩) hS (fun _ _ h => h.elim) (fun _ h => h.elim) (fun r4 u t H1 locs ht hvm hw hB hz1 hk1 hS => ?_)
      have hP := hz_keep hP hk1
      clear hk1 hB hz1
      generalize H1 = H at hP hS ⊢
      have hw_r4 := hw
      subst hw_r4
      have h5 : IV 0 72 (nI (hz_len.getD k0 0)) := hz_len72 _
      refine lv_icmp_ge (tgt := 166) hx hb dX7_takeWord_78 (by decide) (fun c6 => ?_) (fun c6 => ?_)
      · refine lv_aload_n hx hb dX7_takeWord_166 rfl (lv_at hl 5 rfl) ?_
        refine lv_iload_n hx hb dX7_takeWord_167 rfl (lv_at hl 4 rfl) ?_
        refine va_put (D := D) (ci := 7) (v := .int k72_L_2) (ty := .int) (C := RX7) (T := TX7) (N := 4) hx hb hT i_X7 tyX7 tyX7_ok nmX7 hown hK hP hD hS 0 rfl rfl 2 (by decide) (hT _ q_129) (fun _ h9 => h9) rfl (by decide +kernel) rfl rfl (Nat.le_of_ble_eq_true rfl) dX7_takeWord_168 (fun H locs hP hD hS => ?_)
        have hP : va_P D classes [(a, .inr (7, [.ref a_bytes, .int a__length, .int k72_L_2, .int a__fault])), (a_bytes, .inl (cs 0, 400, .inl a_bytes_c))] H := hP
        have hD : va_D A [(a, .inr (7, [.ref a_bytes, .int a__length, .int k72_L_2, .int a__fault])), (a_bytes, .inl (cs 0, 400, .inl a_bytes_c))] := hD
        refine lv_iconst (v := (-1)) hx hb dX7_takeWord_171 (by decide) ?_
        refine W.widen (k := 0) (n := 0) (Nat.le_of_ble_eq_true rfl) (Nat.le_of_ble_eq_true rfl) ?_
        exact W.iret (v := (-1)) hx hb hr (fun t ht hW => ⟨⟨(-1), (), rfl, trivial, k72_L_2, q72_3, by rw [ht]; exact hP.sub [0, 1] rfl, hD.sub [0, 1] (by decide) rfl⟩, hS.F ht⟩) hS.2.2 dX7_takeWord_172
      · have h7 : IV 0 71 k72_L_6 := iv_lt1 (Int32.not_le.mp c6) q72_6 h5 (by decide)
        have h8 : IV 1 72 (nI (hz_len.getD k0 0)) := iv_lt2 (Int32.not_le.mp c6) q72_6 h5 (by decide)
        refine lv_aload_n hx hb dX7_takeWord_81 rfl (lv_at hl 6 rfl) ?_
        refine lv_iload hx hb dX7_takeWord_82 (lv_at hl 0 rfl) ?_
        refine va_calli (va_runV (As := [.int k72_L_6]) (rest := []) ⟨hx, hb, hml, hown, hT⟩ (c_J0_charAt_5068e_49 l D cs kK kV k0 k72_L_6 hk0 h7 ((Int32.not_le.mp c6))) (cwV 1 hT (hz_gV q_639 q_640 q_641 q_636 q_642) rfl rfl rfl (by decide +kernel) ⟨(Nat.le_of_ble_eq_true rfl), (Nat.le_of_ble_eq_true rfl)⟩) ⟨hz_P.blind, vk_recv hE.2.2.2.1 (i := k0) hk0 hS, hz_P.mk (hP.sub (ws' := []) [] rfl) hE hS⟩ rfl rfl hl.1 rfl (lv_room (Nat.le_of_ble_eq_true rfl)) dX7_takeWord_84 ⟨(Nat.le_of_ble_eq_true rfl), (Nat.le_of_ble_eq_true rfl)⟩) hS (fun _ _ h => h.elim) (fun _ h => h.elim) (fun r9 u t H1 locs ht hvm hw hB hz1 hk1 hS => ?_)
        have hP := hz_keep hP hk1
        clear hk1 hB hz1
        generalize H1 = H at hP hS ⊢
        have hw_r9 := hw
        refine lv_bipush (v := 32) hx hb dX7_takeWord_87 (by decide) ?_
        refine lv_icmp_eq (tgt := 135) hx hb dX7_takeWord_89 (by decide) (fun c10 => ?_) (fun c10 => ?_)
        · have h11 : IV 32 32 r9 := iv_eq1 c10 iv_top (iv_c (a := 32) (b := 32) (by decide)) (by decide) (by decide)
          refine lv_iload hx hb dX7_takeWord_135 (lv_at hl 1 rfl) ?_
          refine lv_if_eq (tgt := 151) hx hb dX7_takeWord_137 (by decide) (fun c12 => ?_) (fun c12 => ?_)
          · have h13 : IV 0 0 k72_L_5 := iv_eq1 c12 q72_5 (iv_c (a := 0) (b := 0) (by decide)) (by decide) (by decide)
            exact K151 q72_2 q72_3 q72_4 (iv_w h13 (by decide) (by decide)) h7 H locs (hP.sub (ws' := [(a, .inr (7, [.ref a_bytes, .int a__length, .int k72_F_a_2, .int a__fault])), (a_bytes, .inl (cs 0, 400, .inl a_bytes_c))]) [0, 1] rfl) (hD.sub (ws' := [(a, .inr (7, [.ref a_bytes, .int a__length, .int k72_F_a_2, .int a__fault])), (a_bytes, .inl (cs 0, 400, .inl a_bytes_c))]) [0, 1] (by decide) rfl) hS ls (lv_sub hl [0, 1, 2, 3, 4, 5, 6] rfl)
          · have h14 : IV 1 1 k72_L_5 := iv_neL c12 q72_5 (by decide)
            refine lv_iload hx hb dX7_takeWord_140 (lv_at hl 2 rfl) ?_
            refine lv_aload_n hx hb dX7_takeWord_142 rfl (lv_at hl 5 rfl) ?_
            refine va_get (D := D) (ci := 7) (v := .int k72_F_a_2) (C := RX7) (T := TX7) (N := 4) hx hb hT i_X7 hown hK hP 0 rfl rfl 2 (by decide) (hT _ q_129) (fun _ h9 => h9) rfl dX7_takeWord_143 ?_
            refine lv_icmp_ne (tgt := 151) hx hb dX7_takeWord_146 (by decide) (fun c15 => ?_) (fun c15 => ?_)
            · exact K151 q72_2 q72_3 q72_4 (iv_w h14 (by decide) (by decide)) h7 H locs (hP.sub (ws' := [(a, .inr (7, [.ref a_bytes, .int a__length, .int k72_F_a_2, .int a__fault])), (a_bytes, .inl (cs 0, 400, .inl a_bytes_c))]) [0, 1] rfl) (hD.sub (ws' := [(a, .inr (7, [.ref a_bytes, .int a__length, .int k72_F_a_2, .int a__fault])), (a_bytes, .inl (cs 0, 400, .inl a_bytes_c))]) [0, 1] (by decide) rfl) hS ls (lv_sub hl [0, 1, 2, 3, 4, 5, 6] rfl)
            · have h16 : IV 0 400 k72_L_4 := iv_eq1 c15 q72_4 q72_2 (by decide) (by decide)
              refine lv_iload_n hx hb dX7_takeWord_149 rfl (lv_at hl 3 rfl) ?_
              refine W.widen (k := 0) (n := 0) (Nat.le_of_ble_eq_true rfl) (Nat.le_of_ble_eq_true rfl) ?_
              exact W.iret (v := k72_L_3) hx hb hr (fun t ht hW => ⟨⟨k72_L_3, (), rfl, trivial, k72_F_a_2, q72_2, by rw [ht]; exact hP.sub [0, 1] rfl, hD.sub [0, 1] (by decide) rfl⟩, hS.F ht⟩) hS.2.2 dX7_takeWord_150
        · refine lv_iload hx hb dX7_takeWord_92 (lv_at hl 1 rfl) ?_
          refine lv_if_eq (tgt := 126) hx hb dX7_takeWord_94 (by decide) (fun c17 => ?_) (fun c17 => ?_)
          · have h18 : IV 0 0 k72_L_5 := iv_eq1 c17 q72_5 (iv_c (a := 0) (b := 0) (by decide)) (by decide) (by decide)
            exact K126 q72_2 q72_3 q72_4 (iv_w h18 (by decide) (by decide)) h7 H locs (hP.sub (ws' := [(a, .inr (7, [.ref a_bytes, .int a__length, .int k72_F_a_2, .int a__fault])), (a_bytes, .inl (cs 0, 400, .inl a_bytes_c))]) [0, 1] rfl) (hD.sub (ws' := [(a, .inr (7, [.ref a_bytes, .int a__length, .int k72_F_a_2, .int a__fault])), (a_bytes, .inl (cs 0, 400, .inl a_bytes_c))]) [0, 1] (by decide) rfl) hS ls (lv_sub hl [0, 1, 2, 3, 4, 5, 6] rfl)
          · have h19 : IV 1 1 k72_L_5 := iv_neL c17 q72_5 (by decide)
            refine lv_iload hx hb dX7_takeWord_97 (lv_at hl 2 rfl) ?_
            refine lv_aload_n hx hb dX7_takeWord_99 rfl (lv_at hl 5 rfl) ?_
            refine va_get (D := D) (ci := 7) (v := .int k72_F_a_2) (C := RX7) (T := TX7) (N := 4) hx hb hT i_X7 hown hK hP 0 rfl rfl 2 (by decide) (hT _ q_129) (fun _ h9 => h9) rfl dX7_takeWord_100 ?_
            refine lv_icmp_ge (tgt := 126) hx hb dX7_takeWord_103 (by decide) (fun c20 => ?_) (fun c20 => ?_)
            · exact K126 q72_2 q72_3 q72_4 (iv_w h19 (by decide) (by decide)) h7 H locs (hP.sub (ws' := [(a, .inr (7, [.ref a_bytes, .int a__length, .int k72_F_a_2, .int a__fault])), (a_bytes, .inl (cs 0, 400, .inl a_bytes_c))]) [0, 1] rfl) (hD.sub (ws' := [(a, .inr (7, [.ref a_bytes, .int a__length, .int k72_F_a_2, .int a__fault])), (a_bytes, .inl (cs 0, 400, .inl a_bytes_c))]) [0, 1] (by decide) rfl) hS ls (lv_sub hl [0, 1, 2, 3, 4, 5, 6] rfl)
            · have h21 : IV 0 399 k72_L_4 := iv_lt1 (Int32.not_le.mp c20) q72_4 q72_2 (by decide)
              have h22 : IV 1 400 k72_F_a_2 := iv_lt2 (Int32.not_le.mp c20) q72_4 q72_2 (by decide)
              refine lv_aload_n hx hb dX7_takeWord_106 rfl (lv_at hl 5 rfl) ?_
              refine va_get (D := D) (ci := 7) (v := .ref a_bytes) (C := RX7) (T := TX7) (N := 4) hx hb hT i_X7 hown hK hP 0 rfl rfl 0 (by decide) (hT _ q_127) (fun _ h9 => h9) rfl dX7_takeWord_107 ?_
              refine lv_iload hx hb dX7_takeWord_110 (lv_at hl 2 rfl) ?_
              refine va_iald hx hb hK hP 1 0 rfl rfl (iv_v h21 (by decide) (by decide)) dX7_takeWord_112 ?_
              refine lv_topi (fun v23 ev23 => ?_)
              have hv23 : IV 0 255 v23 := iv_ci ev23 h_a_bytes_c (iv_v h21 (by decide) (by decide))
              refine lv_aload_n hx hb dX7_takeWord_113 rfl (lv_at hl 6 rfl) ?_
              refine lv_iload hx hb dX7_takeWord_114 (lv_at hl 0 rfl) ?_
              refine va_calli (va_runV (As := [.int k72_L_6]) (rest := [.int v23]) ⟨hx, hb, hml, hown, hT⟩ (c_J0_charAt_5068e_49 l D cs kK kV k0 k72_L_6 hk0 h7 ((Int32.not_le.mp c6))) (cwV 1 hT (hz_gV q_639 q_640 q_641 q_636 q_642) rfl rfl rfl (by decide +kernel) ⟨(Nat.le_of_ble_eq_true rfl), (Nat.le_of_ble_eq_true rfl)⟩) ⟨hz_P.blind, vk_recv hE.2.2.2.1 (i := k0) hk0 hS, hz_P.mk (hP.sub (ws' := []) [] rfl) hE hS⟩ rfl rfl hl.1 rfl (lv_room (Nat.le_of_ble_eq_true rfl)) dX7_takeWord_116 ⟨(Nat.le_of_ble_eq_true rfl), (Nat.le_of_ble_eq_true rfl)⟩) hS (fun _ _ h => h.elim) (fun _ h => h.elim) (fun r24 u t H1 locs ht hvm hw hB hz1 hk1 hS => ?_)
              have hP := hz_keep hP hk1
              clear hk1 hB hz1
              generalize H1 = H at hP hS ⊢
              have hw_r24 := hw
              refine lv_icmp_ne (tgt := 126) hx hb dX7_takeWord_119 (by decide) (fun c25 => ?_) (fun c25 => ?_)
              · exact K126 (iv_w h22 (by decide) (by decide)) q72_3 (iv_w h21 (by decide) (by decide)) (iv_w h19 (by decide) (by decide)) h7 H locs (hP.sub (ws' := [(a, .inr (7, [.ref a_bytes, .int a__length, .int k72_F_a_2, .int a__fault])), (a_bytes, .inl (cs 0, 400, .inl a_bytes_c))]) [0, 1] rfl) (hD.sub (ws' := [(a, .inr (7, [.ref a_bytes, .int a__length, .int k72_F_a_2, .int a__fault])), (a_bytes, .inl (cs 0, 400, .inl a_bytes_c))]) [0, 1] (by decide) rfl) hS ls (lv_sub hl [0, 1, 2, 3, 4, 5, 6] rfl)
              · have h26 : IV 0 255 r24 := iv_eq2 c25 hv23 iv_top (by decide) (by decide)
                refine lv_iconst (v := 1) hx hb dX7_takeWord_122 (by decide) ?_
                refine lv_goto (tgt := 127) hx hb dX7_takeWord_123 (by decide) ?_
                exact K127 1 (iv_c (by decide)) (iv_w h22 (by decide) (by decide)) q72_3 (iv_w h21 (by decide) (by decide)) (iv_w h19 (by decide) (by decide)) h7 H locs (hP.sub (ws' := [(a, .inr (7, [.ref a_bytes, .int a__length, .int k72_F_a_2, .int a__fault])), (a_bytes, .inl (cs 0, 400, .inl a_bytes_c))]) [0, 1] rfl) (hD.sub (ws' := [(a, .inr (7, [.ref a_bytes, .int a__length, .int k72_F_a_2, .int a__fault])), (a_bytes, .inl (cs 0, 400, .inl a_bytes_c))]) [0, 1] (by decide) rfl) hS ls (lv_sub hl [0, 1, 2, 3, 4, 5, 6] rfl)
  have K61 : ∀ (k61_L_2 : Int32) (k61_F_a_2 : Int32), IV 0 400 k61_F_a_2 → IV 0 400 k61_L_2 → ∀ (H : Heap) (locs : List Loc), va_P D classes [(a, .inr (7, [.ref a_bytes, .int a__length, .int k61_F_a_2, .int a__fault])), (a_bytes, .inl (cs 0, 400, .inl a_bytes_c))] H → va_D A [(a, .inr (7, [.ref a_bytes, .int a__length, .int k61_F_a_2, .int a__fault])), (a_bytes, .inl (cs 0, 400, .inl a_bytes_c))] → va_S A s.heap H locs → ∀ ls : Array Slot, lv_has ls 7 [(2, .int k61_L_2), (0, .ref a), (1, .ref (kK k0))] → W p l e (headSpec (hz_w yX7_takeWord cX7_takeWord 7 (some .int)) ({ frames := 4, cells := 0, slots := 0, locals := 85 })).room s m [.ref a, .ref (kK k0)].toArray below meth c H locs 0 0 (MQ below (va_Qi (fun (r : Int32) (_ : Unit) => True) (fun _ t => ∃ (o_a_2 : Int32), IV 0 400 o_a_2 ∧ va_P D classes [(a, .inr (7, [.ref a_bytes, .int a__length, .int o_a_2, .int a__fault])), (a_bytes, .inl (cs 0, 400, .inl a_bytes_c))] t.heap ∧ va_D A [(a, .inr (7, [.ref a_bytes, .int a__length, .int o_a_2, .int a__fault])), (a_bytes, .inl (cs 0, 400, .inl a_bytes_c))]) A) [.ref a, .ref (kK k0)].toArray s 0 0 A) (F0 m 61 ls []) := by
    intro k61_L_2 k61_F_a_2 q61_2 q61_3 H locs hP hD hS ls hl
    refine lv_iconst (v := 0) hx hb dX7_takeWord_61 (by decide) ?_
    refine lv_istore_n (lv' := [(3, .int 0), (2, .int k61_L_2), (0, .ref a), (1, .ref (kK k0))]) hx hb dX7_takeWord_62 rfl hl (by decide) rfl (fun ls hl => ?_)
    refine lv_iload_n hx hb dX7_takeWord_63 rfl (lv_at hl 1 rfl) ?_
    refine lv_istore (lv' := [(4, .int k61_L_2), (3, .int 0), (2, .int k61_L_2), (0, .ref a), (1, .ref (kK k0))]) hx hb dX7_takeWord_64 hl (by decide) rfl (fun ls hl => ?_)
    refine lv_iconst (v := 1) hx hb dX7_takeWord_66 (by decide) ?_
    refine lv_istore (lv' := [(5, .int 1), (4, .int k61_L_2), (3, .int 0), (2, .int k61_L_2), (0, .ref a), (1, .ref (kK k0))]) hx hb dX7_takeWord_67 hl (by decide) rfl (fun ls hl => ?_)
    refine lv_iconst (v := 0) hx hb dX7_takeWord_69 (by decide) ?_
    refine lv_istore (lv' := [(6, .int 0), (5, .int 1), (4, .int k61_L_2), (3, .int 0), (2, .int k61_L_2), (0, .ref a), (1, .ref (kK k0))]) hx hb dX7_takeWord_70 hl (by decide) rfl (fun ls hl => ?_)
    exact K72 _ 0 1 k61_L_2 0 k61_L_2 k61_F_a_2 (Nat.le_refl _) q61_2 q61_3 (iv_w q61_3 (by decide) (by decide)) (iv_c (by decide)) (iv_c (by decide)) (by have i0 := q61_3; unfold IV at i0; have e0 : (0 : Int32).toInt = 0 := (by decide); omega) H locs (hP.sub (ws' := [(a, .inr (7, [.ref a_bytes, .int a__length, .int k61_F_a_2, .int a__fault])), (a_bytes, .inl (cs 0, 400, .inl a_bytes_c))]) [0, 1] rfl) (hD.sub (ws' := [(a, .inr (7, [.ref a_bytes, .int a__length, .int k61_F_a_2, .int a__fault])), (a_bytes, .inl (cs 0, 400, .inl a_bytes_c))]) [0, 1] (by decide) rfl) hS ls (lv_sub hl [0, 1, 2, 3, 4, 5, 6] rfl)
  have K9 : ∀ (n : Nat) (k9_L_2 : Int32) (k9_F_a_2 : Int32), (400 - k9_F_a_2.toInt + 1).toNat ≤ n → IV 0 400 k9_F_a_2 → IV 0 400 k9_L_2 → ∀ (H : Heap) (locs : List Loc), va_P D classes [(a, .inr (7, [.ref a_bytes, .int a__length, .int k9_F_a_2, .int a__fault])), (a_bytes, .inl (cs 0, 400, .inl a_bytes_c))] H → va_D A [(a, .inr (7, [.ref a_bytes, .int a__length, .int k9_F_a_2, .int a__fault])), (a_bytes, .inl (cs 0, 400, .inl a_bytes_c))] → va_S A s.heap H locs → ∀ ls : Array Slot, lv_has ls 7 [(2, .int k9_L_2), (0, .ref a), (1, .ref (kK k0))] → W p l e (headSpec (hz_w yX7_takeWord cX7_takeWord 7 (some .int)) ({ frames := 4, cells := 0, slots := 0, locals := 85 })).room s m [.ref a, .ref (kK k0)].toArray below meth c H locs 0 0 (MQ below (va_Qi (fun (r : Int32) (_ : Unit) => True) (fun _ t => ∃ (o_a_2 : Int32), IV 0 400 o_a_2 ∧ va_P D classes [(a, .inr (7, [.ref a_bytes, .int a__length, .int o_a_2, .int a__fault])), (a_bytes, .inl (cs 0, 400, .inl a_bytes_c))] t.heap ∧ va_D A [(a, .inr (7, [.ref a_bytes, .int a__length, .int o_a_2, .int a__fault])), (a_bytes, .inl (cs 0, 400, .inl a_bytes_c))]) A) [.ref a, .ref (kK k0)].toArray s 0 0 A) (F0 m 9 ls []) := by
    intro n
    induction n with
    | zero =>
      intro k9_L_2 k9_F_a_2 hn q9_2 q9_3 H locs hP hD hS ls hl
      exact absurd hn (by unfold IV at q9_2; omega)
    | succ n ih9 =>
      intro k9_L_2 k9_F_a_2 hn q9_2 q9_3 H locs hP hD hS ls hl
      refine lv_aload_n hx hb dX7_takeWord_9 rfl (lv_at hl 1 rfl) ?_
      refine va_get (D := D) (ci := 7) (v := .int k9_F_a_2) (C := RX7) (T := TX7) (N := 4) hx hb hT i_X7 hown hK hP 0 rfl rfl 2 (by decide) (hT _ q_129) (fun _ h9 => h9) rfl dX7_takeWord_10 ?_
      refine lv_aload_n hx hb dX7_takeWord_13 rfl (lv_at hl 1 rfl) ?_
      refine va_get (D := D) (ci := 7) (v := .int a__length) (C := RX7) (T := TX7) (N := 4) hx hb hT i_X7 hown hK hP 0 rfl rfl 1 (by decide) (hT _ q_128) (fun _ h9 => h9) rfl dX7_takeWord_14 ?_
      refine lv_icmp_ge (tgt := 61) hx hb dX7_takeWord_17 (by decide) (fun c27 => ?_) (fun c27 => ?_)
      · exact K61 k9_L_2 k9_F_a_2 q9_2 q9_3 H locs (hP.sub (ws' := [(a, .inr (7, [.ref a_bytes, .int a__length, .int k9_F_a_2, .int a__fault])), (a_bytes, .inl (cs 0, 400, .inl a_bytes_c))]) [0, 1] rfl) (hD.sub (ws' := [(a, .inr (7, [.ref a_bytes, .int a__length, .int k9_F_a_2, .int a__fault])), (a_bytes, .inl (cs 0, 400, .inl a_bytes_c))]) [0, 1] (by decide) rfl) hS ls (lv_sub hl [0, 1, 2] rfl)
      · have h28 : IV 0 399 k9_F_a_2 := iv_lt1 (Int32.not_le.mp c27) q9_2 h_a__length (by decide)
        have h29 : IV 1 400 a__length := iv_lt2 (Int32.not_le.mp c27) q9_2 h_a__length (by decide)
        refine lv_aload_n hx hb dX7_takeWord_20 rfl (lv_at hl 1 rfl) ?_
        refine va_get (D := D) (ci := 7) (v := .ref a_bytes) (C := RX7) (T := TX7) (N := 4) hx hb hT i_X7 hown hK hP 0 rfl rfl 0 (by decide) (hT _ q_127) (fun _ h9 => h9) rfl dX7_takeWord_21 ?_
        refine lv_aload_n hx hb dX7_takeWord_24 rfl (lv_at hl 1 rfl) ?_
        refine va_get (D := D) (ci := 7) (v := .int k9_F_a_2) (C := RX7) (T := TX7) (N := 4) hx hb hT i_X7 hown hK hP 0 rfl rfl 2 (by decide) (hT _ q_129) (fun _ h9 => h9) rfl dX7_takeWord_25 ?_
        refine va_iald hx hb hK hP 1 0 rfl rfl (iv_v h28 (by decide) (by decide)) dX7_takeWord_28 ?_
        refine lv_topi (fun v30 ev30 => ?_)
        have hv30 : IV 0 255 v30 := iv_ci ev30 h_a_bytes_c (iv_v h28 (by decide) (by decide))
        refine lv_bipush (v := 97) hx hb dX7_takeWord_29 (by decide) ?_
        refine lv_icmp_lt (tgt := 61) hx hb dX7_takeWord_31 (by decide) (fun c31 => ?_) (fun c31 => ?_)
        · have h32 : IV 0 96 v30 := iv_lt1 c31 hv30 (iv_c (a := 97) (b := 97) (by decide)) (by decide)
          exact K61 k9_L_2 k9_F_a_2 (iv_w h28 (by decide) (by decide)) q9_3 H locs (hP.sub (ws' := [(a, .inr (7, [.ref a_bytes, .int a__length, .int k9_F_a_2, .int a__fault])), (a_bytes, .inl (cs 0, 400, .inl a_bytes_c))]) [0, 1] rfl) (hD.sub (ws' := [(a, .inr (7, [.ref a_bytes, .int a__length, .int k9_F_a_2, .int a__fault])), (a_bytes, .inl (cs 0, 400, .inl a_bytes_c))]) [0, 1] (by decide) rfl) hS ls (lv_sub hl [0, 1, 2] rfl)
        · have h33 : IV 97 255 v30 := iv_le2 (Int32.not_lt.mp c31) (iv_c (a := 97) (b := 97) (by decide)) hv30 (by decide)
          refine lv_aload_n hx hb dX7_takeWord_34 rfl (lv_at hl 1 rfl) ?_
          refine va_get (D := D) (ci := 7) (v := .ref a_bytes) (C := RX7) (T := TX7) (N := 4) hx hb hT i_X7 hown hK hP 0 rfl rfl 0 (by decide) (hT _ q_127) (fun _ h9 => h9) rfl dX7_takeWord_35 ?_
          refine lv_aload_n hx hb dX7_takeWord_38 rfl (lv_at hl 1 rfl) ?_
          refine va_get (D := D) (ci := 7) (v := .int k9_F_a_2) (C := RX7) (T := TX7) (N := 4) hx hb hT i_X7 hown hK hP 0 rfl rfl 2 (by decide) (hT _ q_129) (fun _ h9 => h9) rfl dX7_takeWord_39 ?_
          refine va_iald hx hb hK hP 1 0 rfl rfl (iv_v h28 (by decide) (by decide)) dX7_takeWord_42 ?_
          refine hz_ev v30 ev30.symm ?_
          refine lv_bipush (v := 122) hx hb dX7_takeWord_43 (by decide) ?_
          refine lv_icmp_gt (tgt := 61) hx hb dX7_takeWord_45 (by decide) (fun c34 => ?_) (fun c34 => ?_)
          · have h35 : IV 123 255 v30 := iv_lt2 c34 (iv_c (a := 122) (b := 122) (by decide)) h33 (by decide)
            exact K61 k9_L_2 k9_F_a_2 (iv_w h28 (by decide) (by decide)) q9_3 H locs (hP.sub (ws' := [(a, .inr (7, [.ref a_bytes, .int a__length, .int k9_F_a_2, .int a__fault])), (a_bytes, .inl (cs 0, 400, .inl a_bytes_c))]) [0, 1] rfl) (hD.sub (ws' := [(a, .inr (7, [.ref a_bytes, .int a__length, .int k9_F_a_2, .int a__fault])), (a_bytes, .inl (cs 0, 400, .inl a_bytes_c))]) [0, 1] (by decide) rfl) hS ls (lv_sub hl [0, 1, 2] rfl)
          · have h36 : IV 97 122 v30 := iv_le1 (Int32.not_lt.mp c34) h33 (iv_c (a := 122) (b := 122) (by decide)) (by decide)
            refine lv_aload_n hx hb dX7_takeWord_48 rfl (lv_at hl 1 rfl) ?_
            refine lv_dup hx hb dX7_takeWord_49 rfl ?_
            refine va_get (D := D) (ci := 7) (v := .int k9_F_a_2) (C := RX7) (T := TX7) (N := 4) hx hb hT i_X7 hown hK hP 0 rfl rfl 2 (by decide) (hT _ q_129) (fun _ h9 => h9) rfl dX7_takeWord_50 ?_
            refine lv_iconst (v := 1) hx hb dX7_takeWord_53 (by decide) ?_
            refine lv_iadd hx hb dX7_takeWord_54 ?_
            refine lv_topi (fun v37 ev37 => ?_)
            have hv37 : IV 1 400 v37 := iv_add ev37 h28 (iv_c (a := 1) (b := 1) (by decide)) (by decide) (by decide)
            have dv37 : v37.toInt = k9_F_a_2.toInt + 1 := iv_addE ev37 h28 (iv_c (a := 1) (b := 1) (by decide)) (by decide) (by decide) (by decide)
            refine va_put (D := D) (ci := 7) (v := .int v37) (ty := .int) (C := RX7) (T := TX7) (N := 4) hx hb hT i_X7 tyX7 tyX7_ok nmX7 hown hK hP hD hS 0 rfl rfl 2 (by decide) (hT _ q_129) (fun _ h9 => h9) rfl (by decide +kernel) rfl rfl (Nat.le_of_ble_eq_true rfl) dX7_takeWord_55 (fun H locs hP hD hS => ?_)
            have hP : va_P D classes [(a, .inr (7, [.ref a_bytes, .int a__length, .int v37, .int a__fault])), (a_bytes, .inl (cs 0, 400, .inl a_bytes_c))] H := hP
            have hD : va_D A [(a, .inr (7, [.ref a_bytes, .int a__length, .int v37, .int a__fault])), (a_bytes, .inl (cs 0, 400, .inl a_bytes_c))] := hD
            refine lv_goto (tgt := 9) hx hb dX7_takeWord_58 (by decide) ?_
            exact ih9 k9_L_2 v37 (by have h9 := h28; unfold IV at h9; have := dv37; omega) (iv_w hv37 (by decide) (by decide)) q9_3 H locs (hP.sub (ws' := [(a, .inr (7, [.ref a_bytes, .int a__length, .int v37, .int a__fault])), (a_bytes, .inl (cs 0, 400, .inl a_bytes_c))]) [0, 1] rfl) (hD.sub (ws' := [(a, .inr (7, [.ref a_bytes, .int a__length, .int v37, .int a__fault])), (a_bytes, .inl (cs 0, 400, .inl a_bytes_c))]) [0, 1] (by decide) rfl) hS ls (lv_sub hl [0, 1, 2] rfl)
  refine lv_aload_n hx hb dX7_takeWord_0 rfl (lv_at hl 0 rfl) ?_
  have hFc := va_free (wc := [(a, .inr (7, [.ref a_bytes, .int a__length, .int a__place, .int a__fault])), (a_bytes, .inl (cs 0, 400, .inl a_bytes_c))]) hD hS hA [0,1] rfl
  refine va_callv (va_runV (As := []) (rest := []) ⟨hx, hb, hml, hown, hT⟩ (c_X7_skipBlanks l D cs kK kV a a_bytes a__length a__place a__fault a_bytes_c h_a__length h_a__place h_a_bytes_c H.size) (cwV 0 hT (hz_gV q_631 q_437 q_438 q_221 q_439) rfl rfl rfl (by decide +kernel) ⟨(Nat.le_of_ble_eq_true rfl), (Nat.le_of_ble_eq_true rfl)⟩) ⟨hz_C.blind, va_recv hK hP (ci := 7) (q0 := 0) rfl rfl, hz_C.mk (hP.sub (ws' := [(a, .inr (7, [.ref a_bytes, .int a__length, .int a__place, .int a__fault])), (a_bytes, .inl (cs 0, 400, .inl a_bytes_c))]) [0,1] rfl) (hD.sub (ws' := [(a, .inr (7, [.ref a_bytes, .int a__length, .int a__place, .int a__fault])), (a_bytes, .inl (cs 0, 400, .inl a_bytes_c))]) [0,1] (by decide) rfl) hE hS hFc⟩ rfl rfl hl.1 rfl (lv_room (Nat.le_of_ble_eq_true rfl)) dX7_takeWord_1 ⟨(Nat.le_of_ble_eq_true rfl), (Nat.le_of_ble_eq_true rfl)⟩) hS (fun q _ h => hFc q h) hFc (fun u t H1 locs ht hvm hw hB hz1 hk1 hS => ?_)
  obtain ⟨o39, h40, hP1, hD1⟩ := hB
  rw [ht] at hP1
  obtain ⟨hP, hD⟩ := va_join (wr := []) (w1 := [(a, .inr (7, [.ref a_bytes, .int a__length, .int o39, .int a__fault])), (a_bytes, .inl (cs 0, 400, .inl a_bytes_c))]) hP hD [0, 1] [] rfl rfl (by decide) (by decide) hk1 hFc hP1 hD1
  generalize H1 = H at hP hS ⊢
  have hP : va_P D classes [(a, .inr (7, [.ref a_bytes, .int a__length, .int o39, .int a__fault])), (a_bytes, .inl (cs 0, 400, .inl a_bytes_c))] H := hP
  have hD : va_D A [(a, .inr (7, [.ref a_bytes, .int a__length, .int o39, .int a__fault])), (a_bytes, .inl (cs 0, 400, .inl a_bytes_c))] := hD
  clear hk1 hFc hP1 hD1 hz1
  refine lv_aload_n hx hb dX7_takeWord_4 rfl (lv_at hl 0 rfl) ?_
  refine va_get (D := D) (ci := 7) (v := .int o39) (C := RX7) (T := TX7) (N := 4) hx hb hT i_X7 hown hK hP 0 rfl rfl 2 (by decide) (hT _ q_129) (fun _ h9 => h9) rfl dX7_takeWord_5 ?_
  refine lv_istore_n (lv' := [(2, .int o39), (0, .ref a), (1, .ref (kK k0))]) hx hb dX7_takeWord_8 rfl hl (by decide) rfl (fun ls hl => ?_)
  exact K9 _ o39 o39 (Nat.le_refl _) h40 h40 H locs (hP.sub (ws' := [(a, .inr (7, [.ref a_bytes, .int a__length, .int o39, .int a__fault])), (a_bytes, .inl (cs 0, 400, .inl a_bytes_c))]) [0, 1] rfl) (hD.sub (ws' := [(a, .inr (7, [.ref a_bytes, .int a__length, .int o39, .int a__fault])), (a_bytes, .inl (cs 0, 400, .inl a_bytes_c))]) [0, 1] (by decide) rfl) hS ls (lv_sub hl [0, 1, 2] rfl)
theorem dX5_emit_0 : decode cX5_emit 0 = .ok (.aload_n 0, 1) := by decide +kernel
theorem dX5_emit_1 : decode cX5_emit 1 = .ok (.getfield 22, 3) := by decide +kernel
theorem dX5_emit_4 : decode cX5_emit 4 = .ok (.aload_n 0, 1) := by decide +kernel
theorem dX5_emit_5 : decode cX5_emit 5 = .ok (.getfield 9, 3) := by decide +kernel
theorem dX5_emit_8 : decode cX5_emit 8 = .ok (.arraylength, 1) := by decide +kernel
theorem dX5_emit_9 : decode cX5_emit 9 = .ok (.if_icmp .ge 23, 3) := by decide +kernel
theorem dX5_emit_12 : decode cX5_emit 12 = .ok (.aload_n 0, 1) := by decide +kernel
theorem dX5_emit_13 : decode cX5_emit 13 = .ok (.getfield 9, 3) := by decide +kernel
theorem dX5_emit_16 : decode cX5_emit 16 = .ok (.aload_n 0, 1) := by decide +kernel
theorem dX5_emit_17 : decode cX5_emit 17 = .ok (.getfield 22, 3) := by decide +kernel
theorem dX5_emit_20 : decode cX5_emit 20 = .ok (.iload_n 1, 1) := by decide +kernel
theorem dX5_emit_21 : decode cX5_emit 21 = .ok (.iastore, 1) := by decide +kernel
theorem dX5_emit_22 : decode cX5_emit 22 = .ok (.aload_n 0, 1) := by decide +kernel
theorem dX5_emit_23 : decode cX5_emit 23 = .ok (.dup, 1) := by decide +kernel
theorem dX5_emit_24 : decode cX5_emit 24 = .ok (.getfield 22, 3) := by decide +kernel
theorem dX5_emit_27 : decode cX5_emit 27 = .ok (.iconst 1, 1) := by decide +kernel
theorem dX5_emit_28 : decode cX5_emit 28 = .ok (.iadd, 1) := by decide +kernel
theorem dX5_emit_29 : decode cX5_emit 29 = .ok (.putfield 22, 3) := by decide +kernel
theorem dX5_emit_32 : decode cX5_emit 32 = .ok (.return_, 1) := by decide +kernel
set_option maxHeartbeats 4000000 in
set_option maxRecDepth 100000 in
theorem c_X5_emit (l : Launch) (D : va_G) (cs : Nat → ClassId) (kK kV : Nat → Nat) (a : Nat) (p0 : Int32) (a_tape : Nat) (a_code : Nat) (a__length : Int32) (a__parts : Int32) (a_code_c : Nat → Int32) (h_a__length : IV 0 400 a__length) (sz : Nat) : Met l yX5_emit (hz_w yX5_emit cX5_emit 2 none) ({ frames := 0, cells := 0, slots := 0, locals := 0 }) (va_Pc [.ref a, .int p0] (hz_C D cs kK kV sz [(a, .inr (5, [.ref a_tape, .ref a_code, .int a__length, .int a__parts])), (a_code, .inl (cs 0, 400, .inl a_code_c))])) (va_Qv (fun (_ : Unit) => True) (fun _ t => ∃ (o_a_2 : Int32), ∃ (o_a_code_c : Nat → Int32), IV 1 400 o_a_2 ∧ va_P D classes [(a, .inr (5, [.ref a_tape, .ref a_code, .int o_a_2, .int a__parts])), (a_code, .inl (cs 0, 400, .inl o_a_code_c))] t.heap ∧ va_D (va_A [(a, .inr (5, [.ref a_tape, .ref a_code, .int a__length, .int a__parts])), (a_code, .inl (cs 0, 400, .inl a_code_c))] sz) [(a, .inr (5, [.ref a_tape, .ref a_code, .int o_a_2, .int a__parts])), (a_code, .inl (cs 0, 400, .inl o_a_code_c))]) (va_A [(a, .inr (5, [.ref a_tape, .ref a_code, .int a__length, .int a__parts])), (a_code, .inl (cs 0, 400, .inl a_code_c))] sz)) 0 0 (va_A [(a, .inr (5, [.ref a_tape, .ref a_code, .int a__length, .int a__parts])), (a_code, .inl (cs 0, 400, .inl a_code_c))] sz) := by
  refine Met.ofW (cc := cX5_emit) (maxL := 2) (ret := none) (by decide) rfl ?_
  intro p e s m args below meth c s₁ B hml hv
  obtain ⟨rfl, hsz, hP, hD0, hE⟩ := hv
  have hx := B.exec
  have hb := B.bytes
  have hr := B.returns
  have hT : ∀ w ∈ TB, w.before _ s = true := fun w h => atoms_spec (ws := hz_w yX5_emit cX5_emit 2 none) B.pre w (List.mem_cons_of_mem _ h)
  have hown : s.vm.findClass RX5 = some m.cls := findClass_of_methodNamed B.named
  have hlocks := B.notSynchronized
  clear B
  subst hsz
  have hD := hD0.self (sz := s.heap.size)
  generalize hAe : va_A [(a, .inr (5, [.ref a_tape, .ref a_code, .int a__length, .int a__parts])), (a_code, .inl (cs 0, 400, .inl a_code_c))] s.heap.size = A at hD hE ⊢
  have hA : ∀ q : Nat, s.heap.size ≤ q → A q := fun q h => by rw [← hAe]; exact Or.inr h
  clear hAe hD0
  have hS : va_S A s.heap s.heap [] := va_S.rf
  have hK := hE.1
  have hl := lv_entry ([.ref a, .int p0]) (n := 2) (Nat.le_of_ble_eq_true rfl)
  rw [lg_entry_eq]
  generalize (lg_sl ([.ref a, .int p0]) ++ List.replicate (2 - (lg_sl ([.ref a, .int p0])).length) Slot.unset).toArray = ls at hl ⊢
  have hl : lv_has ls 2 [(0, .ref a), (1, .int p0)] := hl
  obtain ⟨H, eH⟩ : ∃ z, z = s.heap := ⟨_, rfl⟩
  have hP : va_P D classes [(a, .inr (5, [.ref a_tape, .ref a_code, .int a__length, .int a__parts])), (a_code, .inl (cs 0, 400, .inl a_code_c))] H := by rw [eH]; exact hP
  have hS : va_S A s.heap H [] := by rw [eH]; exact hS
  rw [← eH]
  clear eH
  obtain ⟨locs, el⟩ : ∃ z : List Loc, z = [] := ⟨_, rfl⟩
  rw [← el] at hS ⊢
  clear el
  refine lv_aload_n hx hb dX5_emit_0 rfl (lv_at hl 0 rfl) ?_
  refine va_get (D := D) (ci := 5) (v := .int a__length) (C := RX5) (T := TX5) (N := 4) hx hb hT i_X5 hown hK hP 0 rfl rfl 2 (by decide) (hT _ q_105) (fun _ h9 => h9) rfl dX5_emit_1 ?_
  refine lv_aload_n hx hb dX5_emit_4 rfl (lv_at hl 0 rfl) ?_
  refine va_get (D := D) (ci := 5) (v := .ref a_code) (C := RX5) (T := TX5) (N := 4) hx hb hT i_X5 hown hK hP 0 rfl rfl 1 (by decide) (hT _ q_103) (fun _ h9 => h9) rfl dX5_emit_5 ?_
  refine va_alen (v := 400) hx hb hK hP 1 0 rfl rfl rfl dX5_emit_8 ?_
  refine lv_icmp_ge (tgt := 32) hx hb dX5_emit_9 (by decide) (fun c1 => ?_) (fun c1 => ?_)
  · have h2 : IV 400 400 a__length := iv_le2 c1 (iv_c (a := 400) (b := 400) (by decide)) h_a__length (by decide)
    refine W.widen (k := 0) (n := 0) (Nat.le_of_ble_eq_true rfl) (Nat.le_of_ble_eq_true rfl) ?_
    exact W.vret hx hb hr (fun t ht hW => ⟨⟨(), rfl, trivial, a__length, a_code_c, (iv_w h2 (by decide) (by decide)), by rw [ht]; exact hP.sub [0, 1] rfl, hD.sub [0, 1] (by decide) rfl⟩, hS.F ht⟩) hS.2.2 dX5_emit_32
  · have h3 : IV 0 399 a__length := iv_lt1 (Int32.not_le.mp c1) h_a__length (iv_c (a := 400) (b := 400) (by decide)) (by decide)
    refine lv_aload_n hx hb dX5_emit_12 rfl (lv_at hl 0 rfl) ?_
    refine va_get (D := D) (ci := 5) (v := .ref a_code) (C := RX5) (T := TX5) (N := 4) hx hb hT i_X5 hown hK hP 0 rfl rfl 1 (by decide) (hT _ q_103) (fun _ h9 => h9) rfl dX5_emit_13 ?_
    refine lv_aload_n hx hb dX5_emit_16 rfl (lv_at hl 0 rfl) ?_
    refine va_get (D := D) (ci := 5) (v := .int a__length) (C := RX5) (T := TX5) (N := 4) hx hb hT i_X5 hown hK hP 0 rfl rfl 2 (by decide) (hT _ q_105) (fun _ h9 => h9) rfl dX5_emit_17 ?_
    refine lv_iload_n hx hb dX5_emit_20 rfl (lv_at hl 1 rfl) ?_
    refine va_iast hx hb hK hP hD hS 1 0 rfl rfl (iv_v h3 (by decide) (by decide)) dX5_emit_21 (fun H locs hP hD hS => ?_)
    have hP : va_P D classes [(a, .inr (5, [.ref a_tape, .ref a_code, .int a__length, .int a__parts])), (a_code, .inl (cs 0, 400, .inl (upd a_code_c (Int32.toNatClampNeg a__length) p0)))] H := hP
    have hD : va_D A [(a, .inr (5, [.ref a_tape, .ref a_code, .int a__length, .int a__parts])), (a_code, .inl (cs 0, 400, .inl (upd a_code_c (Int32.toNatClampNeg a__length) p0)))] := hD
    generalize upd a_code_c (Int32.toNatClampNeg a__length) p0 = f4 at hP hD
    refine lv_aload_n hx hb dX5_emit_22 rfl (lv_at hl 0 rfl) ?_
    refine lv_dup hx hb dX5_emit_23 rfl ?_
    refine va_get (D := D) (ci := 5) (v := .int a__length) (C := RX5) (T := TX5) (N := 4) hx hb hT i_X5 hown hK hP 0 rfl rfl 2 (by decide) (hT _ q_105) (fun _ h9 => h9) rfl dX5_emit_24 ?_
    refine lv_iconst (v := 1) hx hb dX5_emit_27 (by decide) ?_
    refine lv_iadd hx hb dX5_emit_28 ?_
    refine lv_topi (fun v5 ev5 => ?_)
    have hv5 : IV 1 400 v5 := iv_add ev5 h3 (iv_c (a := 1) (b := 1) (by decide)) (by decide) (by decide)
    have dv5 : v5.toInt = a__length.toInt + 1 := iv_addE ev5 h3 (iv_c (a := 1) (b := 1) (by decide)) (by decide) (by decide) (by decide)
    refine va_put (D := D) (ci := 5) (v := .int v5) (ty := .int) (C := RX5) (T := TX5) (N := 4) hx hb hT i_X5 tyX5 tyX5_ok nmX5 hown hK hP hD hS 0 rfl rfl 2 (by decide) (hT _ q_105) (fun _ h9 => h9) rfl (by decide +kernel) rfl rfl (Nat.le_of_ble_eq_true rfl) dX5_emit_29 (fun H locs hP hD hS => ?_)
    have hP : va_P D classes [(a, .inr (5, [.ref a_tape, .ref a_code, .int v5, .int a__parts])), (a_code, .inl (cs 0, 400, .inl f4))] H := hP
    have hD : va_D A [(a, .inr (5, [.ref a_tape, .ref a_code, .int v5, .int a__parts])), (a_code, .inl (cs 0, 400, .inl f4))] := hD
    refine W.widen (k := 0) (n := 0) (Nat.le_of_ble_eq_true rfl) (Nat.le_of_ble_eq_true rfl) ?_
    exact W.vret hx hb hr (fun t ht hW => ⟨⟨(), rfl, trivial, v5, f4, hv5, by rw [ht]; exact hP.sub [0, 1] rfl, hD.sub [0, 1] (by decide) rfl⟩, hS.F ht⟩) hS.2.2 dX5_emit_32
theorem dX5_countPart_0 : decode cX5_countPart 0 = .ok (.aload_n 0, 1) := by decide +kernel
theorem dX5_countPart_1 : decode cX5_countPart 1 = .ok (.dup, 1) := by decide +kernel
theorem dX5_countPart_2 : decode cX5_countPart 2 = .ok (.getfield 26, 3) := by decide +kernel
theorem dX5_countPart_5 : decode cX5_countPart 5 = .ok (.iconst 1, 1) := by decide +kernel
theorem dX5_countPart_6 : decode cX5_countPart 6 = .ok (.iadd, 1) := by decide +kernel
theorem dX5_countPart_7 : decode cX5_countPart 7 = .ok (.putfield 26, 3) := by decide +kernel
theorem dX5_countPart_10 : decode cX5_countPart 10 = .ok (.aload_n 0, 1) := by decide +kernel
theorem dX5_countPart_11 : decode cX5_countPart 11 = .ok (.getfield 26, 3) := by decide +kernel
theorem dX5_countPart_14 : decode cX5_countPart 14 = .ok (.bipush 60, 2) := by decide +kernel
theorem dX5_countPart_16 : decode cX5_countPart 16 = .ok (.if_icmp .le 12, 3) := by decide +kernel
theorem dX5_countPart_19 : decode cX5_countPart 19 = .ok (.aload_n 0, 1) := by decide +kernel
theorem dX5_countPart_20 : decode cX5_countPart 20 = .ok (.getfield 15, 3) := by decide +kernel
theorem dX5_countPart_23 : decode cX5_countPart 23 = .ok (.iload_n 1, 1) := by decide +kernel
theorem dX5_countPart_24 : decode cX5_countPart 24 = .ok (.iconst 3, 1) := by decide +kernel
theorem dX5_countPart_25 : decode cX5_countPart 25 = .ok (.invokevirtual 64, 3) := by decide +kernel
theorem dX5_countPart_28 : decode cX5_countPart 28 = .ok (.return_, 1) := by decide +kernel
set_option maxHeartbeats 4000000 in
set_option maxRecDepth 100000 in
theorem c_X5_countPart (l : Launch) (D : va_G) (cs : Nat → ClassId) (kK kV : Nat → Nat) (a : Nat) (p0 : Int32) (a_tape : Nat) (a_code : Nat) (a__length : Int32) (a__parts : Int32) (a_tape_bytes : Nat) (a_tape__length : Int32) (a_tape__place : Int32) (a_tape__fault : Int32) (h_p0 : IV 0 400 p0) (h_a_tape__fault : IV 0 3205 a_tape__fault) (sz : Nat) : Met l yX5_countPart (hz_w yX5_countPart cX5_countPart 2 none) ({ frames := 1, cells := 0, slots := 0, locals := 22 }) (va_Pc [.ref a, .int p0] (hz_C D cs kK kV sz [(a, .inr (5, [.ref a_tape, .ref a_code, .int a__length, .int a__parts])), (a_tape, .inr (7, [.ref a_tape_bytes, .int a_tape__length, .int a_tape__place, .int a_tape__fault]))])) (va_Qv (fun (u : (Nat → Int32) × (Nat → Nat → Int32)) => (IV 0 3205 (u.1 0) ∧ IV (-2147483648) 60 (u.1 1)) ∨ (IV 1 3205 (u.1 0) ∧ IV 61 2147483647 (u.1 1))) (fun u t => va_P D classes [(a, .inr (5, [.ref a_tape, .ref a_code, .int a__length, .int (u.1 1)])), (a_tape, .inr (7, [.ref a_tape_bytes, .int a_tape__length, .int a_tape__place, .int (u.1 0)]))] t.heap ∧ va_D (va_A [(a, .inr (5, [.ref a_tape, .ref a_code, .int a__length, .int a__parts])), (a_tape, .inr (7, [.ref a_tape_bytes, .int a_tape__length, .int a_tape__place, .int a_tape__fault]))] sz) [(a, .inr (5, [.ref a_tape, .ref a_code, .int a__length, .int (u.1 1)])), (a_tape, .inr (7, [.ref a_tape_bytes, .int a_tape__length, .int a_tape__place, .int (u.1 0)]))]) (va_A [(a, .inr (5, [.ref a_tape, .ref a_code, .int a__length, .int a__parts])), (a_tape, .inr (7, [.ref a_tape_bytes, .int a_tape__length, .int a_tape__place, .int a_tape__fault]))] sz)) 0 0 (va_A [(a, .inr (5, [.ref a_tape, .ref a_code, .int a__length, .int a__parts])), (a_tape, .inr (7, [.ref a_tape_bytes, .int a_tape__length, .int a_tape__place, .int a_tape__fault]))] sz) := by
  refine Met.ofW (cc := cX5_countPart) (maxL := 2) (ret := none) (by decide) rfl ?_
  intro p e s m args below meth c s₁ B hml hv
  obtain ⟨rfl, hsz, hP, hD0, hE⟩ := hv
  have hx := B.exec
  have hb := B.bytes
  have hr := B.returns
  have hT : ∀ w ∈ TB, w.before _ s = true := fun w h => atoms_spec (ws := hz_w yX5_countPart cX5_countPart 2 none) B.pre w (List.mem_cons_of_mem _ h)
  have hown : s.vm.findClass RX5 = some m.cls := findClass_of_methodNamed B.named
  have hlocks := B.notSynchronized
  clear B
  subst hsz
  have hD := hD0.self (sz := s.heap.size)
  generalize hAe : va_A [(a, .inr (5, [.ref a_tape, .ref a_code, .int a__length, .int a__parts])), (a_tape, .inr (7, [.ref a_tape_bytes, .int a_tape__length, .int a_tape__place, .int a_tape__fault]))] s.heap.size = A at hD hE ⊢
  have hA : ∀ q : Nat, s.heap.size ≤ q → A q := fun q h => by rw [← hAe]; exact Or.inr h
  clear hAe hD0
  have hS : va_S A s.heap s.heap [] := va_S.rf
  have hK := hE.1
  have hl := lv_entry ([.ref a, .int p0]) (n := 2) (Nat.le_of_ble_eq_true rfl)
  rw [lg_entry_eq]
  generalize (lg_sl ([.ref a, .int p0]) ++ List.replicate (2 - (lg_sl ([.ref a, .int p0])).length) Slot.unset).toArray = ls at hl ⊢
  have hl : lv_has ls 2 [(0, .ref a), (1, .int p0)] := hl
  obtain ⟨H, eH⟩ : ∃ z, z = s.heap := ⟨_, rfl⟩
  have hP : va_P D classes [(a, .inr (5, [.ref a_tape, .ref a_code, .int a__length, .int a__parts])), (a_tape, .inr (7, [.ref a_tape_bytes, .int a_tape__length, .int a_tape__place, .int a_tape__fault]))] H := by rw [eH]; exact hP
  have hS : va_S A s.heap H [] := by rw [eH]; exact hS
  rw [← eH]
  clear eH
  obtain ⟨locs, el⟩ : ∃ z : List Loc, z = [] := ⟨_, rfl⟩
  rw [← el] at hS ⊢
  clear el
  refine lv_aload_n hx hb dX5_countPart_0 rfl (lv_at hl 0 rfl) ?_
  refine lv_dup hx hb dX5_countPart_1 rfl ?_
  refine va_get (D := D) (ci := 5) (v := .int a__parts) (C := RX5) (T := TX5) (N := 4) hx hb hT i_X5 hown hK hP 0 rfl rfl 3 (by decide) (hT _ q_106) (fun _ h9 => h9) rfl dX5_countPart_2 ?_
  refine lv_iconst (v := 1) hx hb dX5_countPart_5 (by decide) ?_
  refine lv_iadd hx hb dX5_countPart_6 ?_
  refine lv_topi (fun v1 ev1 => ?_)
  refine va_put (D := D) (ci := 5) (v := .int v1) (ty := .int) (C := RX5) (T := TX5) (N := 4) hx hb hT i_X5 tyX5 tyX5_ok nmX5 hown hK hP hD hS 0 rfl rfl 3 (by decide) (hT _ q_106) (fun _ h9 => h9) rfl (by decide +kernel) rfl rfl (Nat.le_of_ble_eq_true rfl) dX5_countPart_7 (fun H locs hP hD hS => ?_)
  have hP : va_P D classes [(a, .inr (5, [.ref a_tape, .ref a_code, .int a__length, .int v1])), (a_tape, .inr (7, [.ref a_tape_bytes, .int a_tape__length, .int a_tape__place, .int a_tape__fault]))] H := hP
  have hD : va_D A [(a, .inr (5, [.ref a_tape, .ref a_code, .int a__length, .int v1])), (a_tape, .inr (7, [.ref a_tape_bytes, .int a_tape__length, .int a_tape__place, .int a_tape__fault]))] := hD
  refine lv_aload_n hx hb dX5_countPart_10 rfl (lv_at hl 0 rfl) ?_
  refine va_get (D := D) (ci := 5) (v := .int v1) (C := RX5) (T := TX5) (N := 4) hx hb hT i_X5 hown hK hP 0 rfl rfl 3 (by decide) (hT _ q_106) (fun _ h9 => h9) rfl dX5_countPart_11 ?_
  refine lv_bipush (v := 60) hx hb dX5_countPart_14 (by decide) ?_
  refine lv_icmp_le (tgt := 28) hx hb dX5_countPart_16 (by decide) (fun c2 => ?_) (fun c2 => ?_)
  · have h3 : IV (-2147483648) 60 v1 := iv_le1 c2 iv_top (iv_c (a := 60) (b := 60) (by decide)) (by decide)
    refine W.widen (k := 0) (n := 0) (Nat.le_of_ble_eq_true rfl) (Nat.le_of_ble_eq_true rfl) ?_
    exact W.vret hx hb hr (fun t ht hW => ⟨⟨(fun k => match k with | 0 => a_tape__fault | 1 => v1 | _ => 0, fun _ _ => 0), rfl, (Or.inl (⟨h_a_tape__fault, h3⟩)), by rw [ht]; exact hP.sub [0, 1] rfl, hD.sub [0, 1] (by decide) rfl⟩, hS.F ht⟩) hS.2.2 dX5_countPart_28
  · have h4 : IV 61 2147483647 v1 := iv_lt2 (Int32.not_le.mp c2) (iv_c (a := 60) (b := 60) (by decide)) iv_top (by decide)
    refine lv_aload_n hx hb dX5_countPart_19 rfl (lv_at hl 0 rfl) ?_
    refine va_get (D := D) (ci := 5) (v := .ref a_tape) (C := RX5) (T := TX5) (N := 4) hx hb hT i_X5 hown hK hP 0 rfl rfl 0 (by decide) (hT _ q_104) (fun _ h9 => h9) rfl dX5_countPart_20 ?_
    refine lv_iload_n hx hb dX5_countPart_23 rfl (lv_at hl 1 rfl) ?_
    refine lv_iconst (v := 3) hx hb dX5_countPart_24 (by decide) ?_
    have hFc := va_free (wc := [(a_tape, .inr (7, [.ref a_tape_bytes, .int a_tape__length, .int a_tape__place, .int a_tape__fault]))]) hD hS hA [1] rfl
    refine va_callv (va_runV (As := [.int p0, .int 3]) (rest := []) ⟨hx, hb, hml, hown, hT⟩ (c_X7_fail l D cs kK kV a_tape p0 3 a_tape_bytes a_tape__length a_tape__place a_tape__fault h_p0 ((iv_c (by decide))) h_a_tape__fault H.size) (cwV 2 hT (hz_gV q_564 q_445 q_446 q_221 q_447) rfl rfl rfl (by decide +kernel) ⟨(Nat.le_of_ble_eq_true rfl), (Nat.le_of_ble_eq_true rfl)⟩) ⟨hz_C.blind, va_recv hK hP (ci := 7) (q0 := 1) rfl rfl, hz_C.mk (hP.sub (ws' := [(a_tape, .inr (7, [.ref a_tape_bytes, .int a_tape__length, .int a_tape__place, .int a_tape__fault]))]) [1] rfl) (hD.sub (ws' := [(a_tape, .inr (7, [.ref a_tape_bytes, .int a_tape__length, .int a_tape__place, .int a_tape__fault]))]) [1] (by decide) rfl) hE hS hFc⟩ rfl rfl hl.1 rfl (lv_room (Nat.le_of_ble_eq_true rfl)) dX5_countPart_25 ⟨(Nat.le_of_ble_eq_true rfl), (Nat.le_of_ble_eq_true rfl)⟩) hS (fun q _ h => hFc q h) hFc (fun o6 t H1 locs ht hvm hw hB hz1 hk1 hS => ?_)
    obtain ⟨hP1, hD1⟩ := hB
    rw [ht] at hP1
    obtain ⟨hP, hD⟩ := va_join (wr := [(a, .inr (5, [.ref a_tape, .ref a_code, .int a__length, .int v1]))]) (w1 := [(a_tape, .inr (7, [.ref a_tape_bytes, .int a_tape__length, .int a_tape__place, .int (o6.1 0)]))]) hP hD [1] [0] rfl rfl (by decide) (by decide) hk1 hFc hP1 hD1
    generalize H1 = H at hP hS ⊢
    have hP : va_P D classes [(a, .inr (5, [.ref a_tape, .ref a_code, .int a__length, .int v1])), (a_tape, .inr (7, [.ref a_tape_bytes, .int a_tape__length, .int a_tape__place, .int (o6.1 0)]))] H := hP
    have hD : va_D A [(a, .inr (5, [.ref a_tape, .ref a_code, .int a__length, .int v1])), (a_tape, .inr (7, [.ref a_tape_bytes, .int a_tape__length, .int a_tape__place, .int (o6.1 0)]))] := hD
    clear hk1 hFc hP1 hD1 hz1
    have h7 := hw
    refine W.widen (k := 0) (n := 0) (Nat.le_of_ble_eq_true rfl) (Nat.le_of_ble_eq_true rfl) ?_
    exact W.vret hx hb hr (fun t ht hW => ⟨⟨(fun k => match k with | 0 => o6.1 0 | 1 => v1 | _ => 0, fun _ _ => 0), rfl, (Or.inr ((⟨h7, h4⟩))), by rw [ht]; exact hP.sub [0, 1] rfl, hD.sub [0, 1] (by decide) rfl⟩, hS.F ht⟩) hS.2.2 dX5_countPart_28
theorem dX5_takeJoint_0 : decode cX5_takeJoint 0 = .ok (.aload_n 0, 1) := by decide +kernel
theorem dX5_takeJoint_1 : decode cX5_takeJoint 1 = .ok (.getfield 15, 3) := by decide +kernel
theorem dX5_takeJoint_4 : decode cX5_takeJoint 4 = .ok (.invokevirtual 34, 3) := by decide +kernel
theorem dX5_takeJoint_7 : decode cX5_takeJoint 7 = .ok (.ifCond .eq 15, 3) := by decide +kernel
theorem dX5_takeJoint_10 : decode cX5_takeJoint 10 = .ok (.aload_n 0, 1) := by decide +kernel
theorem dX5_takeJoint_11 : decode cX5_takeJoint 11 = .ok (.getfield 15, 3) := by decide +kernel
theorem dX5_takeJoint_14 : decode cX5_takeJoint 14 = .ok (.ldc 102, 2) := by decide +kernel
theorem dX5_takeJoint_16 : decode cX5_takeJoint 16 = .ok (.invokevirtual 60, 3) := by decide +kernel
theorem dX5_takeJoint_19 : decode cX5_takeJoint 19 = .ok (.goto 4, 3) := by decide +kernel
theorem dX5_takeJoint_22 : decode cX5_takeJoint 22 = .ok (.iconst (-1), 1) := by decide +kernel
theorem dX5_takeJoint_23 : decode cX5_takeJoint 23 = .ok (.ireturn, 1) := by decide +kernel
set_option maxHeartbeats 4000000 in
set_option maxRecDepth 100000 in
theorem c_X5_takeJoint (l : Launch) (D : va_G) (cs : Nat → ClassId) (kK kV : Nat → Nat) (a : Nat) (a_tape : Nat) (a_code : Nat) (a__length : Int32) (a__parts : Int32) (a_tape_bytes : Nat) (a_tape__length : Int32) (a_tape__place : Int32) (a_tape__fault : Int32) (a_tape_bytes_c : Nat → Int32) (h_a_tape__length : IV 0 400 a_tape__length) (h_a_tape__place : IV 0 400 a_tape__place) (h_a_tape__fault : IV 0 3205 a_tape__fault) (h_a_tape_bytes_c : CI 400 0 255 a_tape_bytes_c) (sz : Nat) : Met l yX5_takeJoint (hz_w yX5_takeJoint cX5_takeJoint 1 (some .int)) ({ frames := 5, cells := 0, slots := 0, locals := 111 }) (va_Pc [.ref a] (hz_C D cs kK kV sz [(a, .inr (5, [.ref a_tape, .ref a_code, .int a__length, .int a__parts])), (a_tape, .inr (7, [.ref a_tape_bytes, .int a_tape__length, .int a_tape__place, .int a_tape__fault])), (a_tape_bytes, .inl (cs 0, 400, .inl a_tape_bytes_c))])) (va_Qi (fun (r : Int32) (_ : Unit) => (r = (-1) ∧ IV 1 3205 a_tape__fault) ∨ (IV 0 0 a_tape__fault)) (fun _ t => ∃ (o_a_tape_2 : Int32), IV 0 400 o_a_tape_2 ∧ va_P D classes [(a, .inr (5, [.ref a_tape, .ref a_code, .int a__length, .int a__parts])), (a_tape, .inr (7, [.ref a_tape_bytes, .int a_tape__length, .int o_a_tape_2, .int a_tape__fault])), (a_tape_bytes, .inl (cs 0, 400, .inl a_tape_bytes_c))] t.heap ∧ va_D (va_A [(a, .inr (5, [.ref a_tape, .ref a_code, .int a__length, .int a__parts])), (a_tape, .inr (7, [.ref a_tape_bytes, .int a_tape__length, .int a_tape__place, .int a_tape__fault])), (a_tape_bytes, .inl (cs 0, 400, .inl a_tape_bytes_c))] sz) [(a, .inr (5, [.ref a_tape, .ref a_code, .int a__length, .int a__parts])), (a_tape, .inr (7, [.ref a_tape_bytes, .int a_tape__length, .int o_a_tape_2, .int a_tape__fault])), (a_tape_bytes, .inl (cs 0, 400, .inl a_tape_bytes_c))]) (va_A [(a, .inr (5, [.ref a_tape, .ref a_code, .int a__length, .int a__parts])), (a_tape, .inr (7, [.ref a_tape_bytes, .int a_tape__length, .int a_tape__place, .int a_tape__fault])), (a_tape_bytes, .inl (cs 0, 400, .inl a_tape_bytes_c))] sz)) 0 0 (va_A [(a, .inr (5, [.ref a_tape, .ref a_code, .int a__length, .int a__parts])), (a_tape, .inr (7, [.ref a_tape_bytes, .int a_tape__length, .int a_tape__place, .int a_tape__fault])), (a_tape_bytes, .inl (cs 0, 400, .inl a_tape_bytes_c))] sz) := by
  refine Met.ofW (cc := cX5_takeJoint) (maxL := 1) (ret := (some .int)) (by decide) rfl ?_
  intro p e s m args below meth c s₁ B hml hv
  obtain ⟨rfl, hsz, hP, hD0, hE⟩ := hv
  have hx := B.exec
  have hb := B.bytes
  have hr := B.returns
  have hT : ∀ w ∈ TB, w.before _ s = true := fun w h => atoms_spec (ws := hz_w yX5_takeJoint cX5_takeJoint 1 (some .int)) B.pre w (List.mem_cons_of_mem _ h)
  have hown : s.vm.findClass RX5 = some m.cls := findClass_of_methodNamed B.named
  have hlocks := B.notSynchronized
  clear B
  subst hsz
  have hD := hD0.self (sz := s.heap.size)
  generalize hAe : va_A [(a, .inr (5, [.ref a_tape, .ref a_code, .int a__length, .int a__parts])), (a_tape, .inr (7, [.ref a_tape_bytes, .int a_tape__length, .int a_tape__place, .int a_tape__fault])), (a_tape_bytes, .inl (cs 0, 400, .inl a_tape_bytes_c))] s.heap.size = A at hD hE ⊢
  have hA : ∀ q : Nat, s.heap.size ≤ q → A q := fun q h => by rw [← hAe]; exact Or.inr h
  clear hAe hD0
  have hS : va_S A s.heap s.heap [] := va_S.rf
  have hK := hE.1
  have hl := lv_entry ([.ref a]) (n := 1) (Nat.le_of_ble_eq_true rfl)
  rw [lg_entry_eq]
  generalize (lg_sl ([.ref a]) ++ List.replicate (1 - (lg_sl ([.ref a])).length) Slot.unset).toArray = ls at hl ⊢
  have hl : lv_has ls 1 [(0, .ref a)] := hl
  obtain ⟨H, eH⟩ : ∃ z, z = s.heap := ⟨_, rfl⟩
  have hP : va_P D classes [(a, .inr (5, [.ref a_tape, .ref a_code, .int a__length, .int a__parts])), (a_tape, .inr (7, [.ref a_tape_bytes, .int a_tape__length, .int a_tape__place, .int a_tape__fault])), (a_tape_bytes, .inl (cs 0, 400, .inl a_tape_bytes_c))] H := by rw [eH]; exact hP
  have hS : va_S A s.heap H [] := by rw [eH]; exact hS
  rw [← eH]
  clear eH
  obtain ⟨locs, el⟩ : ∃ z : List Loc, z = [] := ⟨_, rfl⟩
  rw [← el] at hS ⊢
  clear el
  refine lv_aload_n hx hb dX5_takeJoint_0 rfl (lv_at hl 0 rfl) ?_
  refine va_get (D := D) (ci := 5) (v := .ref a_tape) (C := RX5) (T := TX5) (N := 4) hx hb hT i_X5 hown hK hP 0 rfl rfl 0 (by decide) (hT _ q_104) (fun _ h9 => h9) rfl dX5_takeJoint_1 ?_
  refine va_calli (va_runV (As := []) (rest := []) ⟨hx, hb, hml, hown, hT⟩ (c_X7_isSound l D cs kK kV a_tape a_tape_bytes a_tape__length a_tape__place a_tape__fault h_a_tape__fault) (cwV 0 hT (hz_gV q_553 q_421 q_422 q_221 q_423) rfl rfl rfl (by decide +kernel) ⟨(Nat.le_of_ble_eq_true rfl), (Nat.le_of_ble_eq_true rfl)⟩) ⟨hz_P.blind, va_recv hK hP (ci := 7) (q0 := 1) rfl rfl, hz_P.mk (hP.sub (ws' := [(a_tape, .inr (7, [.ref a_tape_bytes, .int a_tape__length, .int a_tape__place, .int a_tape__fault]))]) [1] rfl) hE hS⟩ rfl rfl hl.1 rfl (lv_room (Nat.le_of_ble_eq_true rfl)) dX5_takeJoint_4 ⟨(Nat.le_of_ble_eq_true rfl), (Nat.le_of_ble_eq_true rfl)⟩) hS (fun _ _ h => h.elim) (fun _ h => h.elim) (fun r1 u t H1 locs ht hvm hw hB hz1 hk1 hS => ?_)
  have hP := hz_keep hP hk1
  clear hk1 hB hz1
  generalize H1 = H at hP hS ⊢
  rcases hw with ⟨rfl, h2⟩ | ⟨rfl, h3⟩
  · refine lv_if_eq (tgt := 22) hx hb dX5_takeJoint_7 (by decide) (fun _ => ?_) (fun z => absurd (by decide) z)
    refine lv_iconst (v := (-1)) hx hb dX5_takeJoint_22 (by decide) ?_
    refine W.widen (k := 0) (n := 0) (Nat.le_of_ble_eq_true rfl) (Nat.le_of_ble_eq_true rfl) ?_
    exact W.iret (v := (-1)) hx hb hr (fun t ht hW => ⟨⟨(-1), (), rfl, (Or.inl (⟨rfl, h2⟩)), a_tape__place, h_a_tape__place, by rw [ht]; exact hP.sub [0, 1, 2] rfl, hD.sub [0, 1, 2] (by decide) rfl⟩, hS.F ht⟩) hS.2.2 dX5_takeJoint_23
  · refine lv_if_eq (tgt := 22) hx hb dX5_takeJoint_7 (by decide) (fun z => absurd z (by decide)) (fun _ => ?_)
    refine lv_aload_n hx hb dX5_takeJoint_10 rfl (lv_at hl 0 rfl) ?_
    refine va_get (D := D) (ci := 5) (v := .ref a_tape) (C := RX5) (T := TX5) (N := 4) hx hb hT i_X5 hown hK hP 0 rfl rfl 0 (by decide) (hT _ q_104) (fun _ h9 => h9) rfl dX5_takeJoint_11 ?_
    refine va_ldcS hx hb hown (hz_str hE 5 (by decide)) dX5_takeJoint_14 ?_
    have hFc := va_free (wc := [(a_tape, .inr (7, [.ref a_tape_bytes, .int a_tape__length, .int a_tape__place, .int a_tape__fault])), (a_tape_bytes, .inl (cs 0, 400, .inl a_tape_bytes_c))]) hD hS hA [1,2] rfl
    refine va_calli (va_runV (As := [.ref (kK 5)]) (rest := []) ⟨hx, hb, hml, hown, hT⟩ (c_X7_takeWord l D cs kK kV a_tape 5 a_tape_bytes a_tape__length a_tape__place a_tape__fault a_tape_bytes_c ((by decide)) h_a_tape__length h_a_tape__place h_a_tape_bytes_c H.size) (cwV 1 hT (hz_gV q_563 q_441 q_442 q_221 q_443) rfl rfl rfl (by decide +kernel) ⟨(Nat.le_of_ble_eq_true rfl), (Nat.le_of_ble_eq_true rfl)⟩) ⟨hz_C.blind, va_recv hK hP (ci := 7) (q0 := 1) rfl rfl, hz_C.mk (hP.sub (ws' := [(a_tape, .inr (7, [.ref a_tape_bytes, .int a_tape__length, .int a_tape__place, .int a_tape__fault])), (a_tape_bytes, .inl (cs 0, 400, .inl a_tape_bytes_c))]) [1,2] rfl) (hD.sub (ws' := [(a_tape, .inr (7, [.ref a_tape_bytes, .int a_tape__length, .int a_tape__place, .int a_tape__fault])), (a_tape_bytes, .inl (cs 0, 400, .inl a_tape_bytes_c))]) [1,2] (by decide) rfl) hE hS hFc⟩ rfl rfl hl.1 rfl (lv_room (Nat.le_of_ble_eq_true rfl)) dX5_takeJoint_16 ⟨(Nat.le_of_ble_eq_true rfl), (Nat.le_of_ble_eq_true rfl)⟩) hS (fun q _ h => hFc q h) hFc (fun r4 u t H1 locs ht hvm hw hB hz1 hk1 hS => ?_)
    obtain ⟨o5, h6, hP1, hD1⟩ := hB
    rw [ht] at hP1
    obtain ⟨hP, hD⟩ := va_join (wr := [(a, .inr (5, [.ref a_tape, .ref a_code, .int a__length, .int a__parts]))]) (w1 := [(a_tape, .inr (7, [.ref a_tape_bytes, .int a_tape__length, .int o5, .int a_tape__fault])), (a_tape_bytes, .inl (cs 0, 400, .inl a_tape_bytes_c))]) hP hD [1, 2] [0] rfl rfl (by decide) (by decide) hk1 hFc hP1 hD1
    generalize H1 = H at hP hS ⊢
    have hP : va_P D classes [(a, .inr (5, [.ref a_tape, .ref a_code, .int a__length, .int a__parts])), (a_tape, .inr (7, [.ref a_tape_bytes, .int a_tape__length, .int o5, .int a_tape__fault])), (a_tape_bytes, .inl (cs 0, 400, .inl a_tape_bytes_c))] H := hP
    have hD : va_D A [(a, .inr (5, [.ref a_tape, .ref a_code, .int a__length, .int a__parts])), (a_tape, .inr (7, [.ref a_tape_bytes, .int a_tape__length, .int o5, .int a_tape__fault])), (a_tape_bytes, .inl (cs 0, 400, .inl a_tape_bytes_c))] := hD
    clear hk1 hFc hP1 hD1 hz1
    refine lv_goto (tgt := 23) hx hb dX5_takeJoint_19 (by decide) ?_
    refine W.widen (k := 0) (n := 0) (Nat.le_of_ble_eq_true rfl) (Nat.le_of_ble_eq_true rfl) ?_
    exact W.iret (v := r4) hx hb hr (fun t ht hW => ⟨⟨r4, (), rfl, (Or.inr ((h3))), o5, h6, by rw [ht]; exact hP.sub [0, 1, 2] rfl, hD.sub [0, 1, 2] (by decide) rfl⟩, hS.F ht⟩) hS.2.2 dX5_takeJoint_23
theorem dX5_takeSign_0 : decode cX5_takeSign 0 = .ok (.aload_n 0, 1) := by decide +kernel
theorem dX5_takeSign_1 : decode cX5_takeSign 1 = .ok (.getfield 15, 3) := by decide +kernel
theorem dX5_takeSign_4 : decode cX5_takeSign 4 = .ok (.bipush 60, 2) := by decide +kernel
theorem dX5_takeSign_6 : decode cX5_takeSign 6 = .ok (.invokevirtual 104, 3) := by decide +kernel
theorem dX5_takeSign_9 : decode cX5_takeSign 9 = .ok (.ifCond .eq 23, 3) := by decide +kernel
theorem dX5_takeSign_12 : decode cX5_takeSign 12 = .ok (.aload_n 0, 1) := by decide +kernel
theorem dX5_takeSign_13 : decode cX5_takeSign 13 = .ok (.getfield 15, 3) := by decide +kernel
theorem dX5_takeSign_16 : decode cX5_takeSign 16 = .ok (.bipush 61, 2) := by decide +kernel
theorem dX5_takeSign_18 : decode cX5_takeSign 18 = .ok (.invokevirtual 104, 3) := by decide +kernel
theorem dX5_takeSign_21 : decode cX5_takeSign 21 = .ok (.ifCond .eq 8, 3) := by decide +kernel
theorem dX5_takeSign_24 : decode cX5_takeSign 24 = .ok (.bipush (-26), 2) := by decide +kernel
theorem dX5_takeSign_26 : decode cX5_takeSign 26 = .ok (.goto 5, 3) := by decide +kernel
theorem dX5_takeSign_29 : decode cX5_takeSign 29 = .ok (.bipush (-25), 2) := by decide +kernel
theorem dX5_takeSign_31 : decode cX5_takeSign 31 = .ok (.ireturn, 1) := by decide +kernel
theorem dX5_takeSign_32 : decode cX5_takeSign 32 = .ok (.aload_n 0, 1) := by decide +kernel
theorem dX5_takeSign_33 : decode cX5_takeSign 33 = .ok (.getfield 15, 3) := by decide +kernel
theorem dX5_takeSign_36 : decode cX5_takeSign 36 = .ok (.bipush 62, 2) := by decide +kernel
theorem dX5_takeSign_38 : decode cX5_takeSign 38 = .ok (.invokevirtual 104, 3) := by decide +kernel
theorem dX5_takeSign_41 : decode cX5_takeSign 41 = .ok (.ifCond .eq 23, 3) := by decide +kernel
theorem dX5_takeSign_44 : decode cX5_takeSign 44 = .ok (.aload_n 0, 1) := by decide +kernel
theorem dX5_takeSign_45 : decode cX5_takeSign 45 = .ok (.getfield 15, 3) := by decide +kernel
theorem dX5_takeSign_48 : decode cX5_takeSign 48 = .ok (.bipush 61, 2) := by decide +kernel
theorem dX5_takeSign_50 : decode cX5_takeSign 50 = .ok (.invokevirtual 104, 3) := by decide +kernel
theorem dX5_takeSign_53 : decode cX5_takeSign 53 = .ok (.ifCond .eq 8, 3) := by decide +kernel
theorem dX5_takeSign_56 : decode cX5_takeSign 56 = .ok (.bipush (-28), 2) := by decide +kernel
theorem dX5_takeSign_58 : decode cX5_takeSign 58 = .ok (.goto 5, 3) := by decide +kernel
theorem dX5_takeSign_61 : decode cX5_takeSign 61 = .ok (.bipush (-29), 2) := by decide +kernel
theorem dX5_takeSign_63 : decode cX5_takeSign 63 = .ok (.ireturn, 1) := by decide +kernel
theorem dX5_takeSign_64 : decode cX5_takeSign 64 = .ok (.aload_n 0, 1) := by decide +kernel
theorem dX5_takeSign_65 : decode cX5_takeSign 65 = .ok (.getfield 15, 3) := by decide +kernel
theorem dX5_takeSign_68 : decode cX5_takeSign 68 = .ok (.bipush 61, 2) := by decide +kernel
theorem dX5_takeSign_70 : decode cX5_takeSign 70 = .ok (.invokevirtual 104, 3) := by decide +kernel
theorem dX5_takeSign_73 : decode cX5_takeSign 73 = .ok (.ifCond .eq 8, 3) := by decide +kernel
theorem dX5_takeSign_76 : decode cX5_takeSign 76 = .ok (.bipush (-27), 2) := by decide +kernel
theorem dX5_takeSign_78 : decode cX5_takeSign 78 = .ok (.goto 4, 3) := by decide +kernel
theorem dX5_takeSign_81 : decode cX5_takeSign 81 = .ok (.iconst (-1), 1) := by decide +kernel
theorem dX5_takeSign_82 : decode cX5_takeSign 82 = .ok (.ireturn, 1) := by decide +kernel
set_option maxHeartbeats 4000000 in
set_option maxRecDepth 100000 in
theorem c_X5_takeSign (l : Launch) (D : va_G) (cs : Nat → ClassId) (kK kV : Nat → Nat) (a : Nat) (a_tape : Nat) (a_code : Nat) (a__length : Int32) (a__parts : Int32) (a_tape_bytes : Nat) (a_tape__length : Int32) (a_tape__place : Int32) (a_tape__fault : Int32) (a_tape_bytes_c : Nat → Int32) (h_a_tape__length : IV 0 400 a_tape__length) (h_a_tape__place : IV 0 400 a_tape__place) (h_a_tape_bytes_c : CI 400 0 255 a_tape_bytes_c) (sz : Nat) : Met l yX5_takeSign (hz_w yX5_takeSign cX5_takeSign 1 (some .int)) ({ frames := 2, cells := 0, slots := 0, locals := 41 }) (va_Pc [.ref a] (hz_C D cs kK kV sz [(a, .inr (5, [.ref a_tape, .ref a_code, .int a__length, .int a__parts])), (a_tape, .inr (7, [.ref a_tape_bytes, .int a_tape__length, .int a_tape__place, .int a_tape__fault])), (a_tape_bytes, .inl (cs 0, 400, .inl a_tape_bytes_c))])) (va_Qi (fun (r : Int32) (_ : Unit) => IV (-29) (-1) r) (fun _ t => ∃ (o_a_tape_2 : Int32), IV 0 400 o_a_tape_2 ∧ va_P D classes [(a, .inr (5, [.ref a_tape, .ref a_code, .int a__length, .int a__parts])), (a_tape, .inr (7, [.ref a_tape_bytes, .int a_tape__length, .int o_a_tape_2, .int a_tape__fault])), (a_tape_bytes, .inl (cs 0, 400, .inl a_tape_bytes_c))] t.heap ∧ va_D (va_A [(a, .inr (5, [.ref a_tape, .ref a_code, .int a__length, .int a__parts])), (a_tape, .inr (7, [.ref a_tape_bytes, .int a_tape__length, .int a_tape__place, .int a_tape__fault])), (a_tape_bytes, .inl (cs 0, 400, .inl a_tape_bytes_c))] sz) [(a, .inr (5, [.ref a_tape, .ref a_code, .int a__length, .int a__parts])), (a_tape, .inr (7, [.ref a_tape_bytes, .int a_tape__length, .int o_a_tape_2, .int a_tape__fault])), (a_tape_bytes, .inl (cs 0, 400, .inl a_tape_bytes_c))]) (va_A [(a, .inr (5, [.ref a_tape, .ref a_code, .int a__length, .int a__parts])), (a_tape, .inr (7, [.ref a_tape_bytes, .int a_tape__length, .int a_tape__place, .int a_tape__fault])), (a_tape_bytes, .inl (cs 0, 400, .inl a_tape_bytes_c))] sz)) 0 0 (va_A [(a, .inr (5, [.ref a_tape, .ref a_code, .int a__length, .int a__parts])), (a_tape, .inr (7, [.ref a_tape_bytes, .int a_tape__length, .int a_tape__place, .int a_tape__fault])), (a_tape_bytes, .inl (cs 0, 400, .inl a_tape_bytes_c))] sz) := by
  refine Met.ofW (cc := cX5_takeSign) (maxL := 1) (ret := (some .int)) (by decide) rfl ?_
  intro p e s m args below meth c s₁ B hml hv
  obtain ⟨rfl, hsz, hP, hD0, hE⟩ := hv
  have hx := B.exec
  have hb := B.bytes
  have hr := B.returns
  have hT : ∀ w ∈ TB, w.before _ s = true := fun w h => atoms_spec (ws := hz_w yX5_takeSign cX5_takeSign 1 (some .int)) B.pre w (List.mem_cons_of_mem _ h)
  have hown : s.vm.findClass RX5 = some m.cls := findClass_of_methodNamed B.named
  have hlocks := B.notSynchronized
  clear B
  subst hsz
  have hD := hD0.self (sz := s.heap.size)
  generalize hAe : va_A [(a, .inr (5, [.ref a_tape, .ref a_code, .int a__length, .int a__parts])), (a_tape, .inr (7, [.ref a_tape_bytes, .int a_tape__length, .int a_tape__place, .int a_tape__fault])), (a_tape_bytes, .inl (cs 0, 400, .inl a_tape_bytes_c))] s.heap.size = A at hD hE ⊢
  have hA : ∀ q : Nat, s.heap.size ≤ q → A q := fun q h => by rw [← hAe]; exact Or.inr h
  clear hAe hD0
  have hS : va_S A s.heap s.heap [] := va_S.rf
  have hK := hE.1
  have hl := lv_entry ([.ref a]) (n := 1) (Nat.le_of_ble_eq_true rfl)
  rw [lg_entry_eq]
  generalize (lg_sl ([.ref a]) ++ List.replicate (1 - (lg_sl ([.ref a])).length) Slot.unset).toArray = ls at hl ⊢
  have hl : lv_has ls 1 [(0, .ref a)] := hl
  obtain ⟨H, eH⟩ : ∃ z, z = s.heap := ⟨_, rfl⟩
  have hP : va_P D classes [(a, .inr (5, [.ref a_tape, .ref a_code, .int a__length, .int a__parts])), (a_tape, .inr (7, [.ref a_tape_bytes, .int a_tape__length, .int a_tape__place, .int a_tape__fault])), (a_tape_bytes, .inl (cs 0, 400, .inl a_tape_bytes_c))] H := by rw [eH]; exact hP
  have hS : va_S A s.heap H [] := by rw [eH]; exact hS
  rw [← eH]
  clear eH
  obtain ⟨locs, el⟩ : ∃ z : List Loc, z = [] := ⟨_, rfl⟩
  rw [← el] at hS ⊢
  clear el
  refine lv_aload_n hx hb dX5_takeSign_0 rfl (lv_at hl 0 rfl) ?_
  refine va_get (D := D) (ci := 5) (v := .ref a_tape) (C := RX5) (T := TX5) (N := 4) hx hb hT i_X5 hown hK hP 0 rfl rfl 0 (by decide) (hT _ q_104) (fun _ h9 => h9) rfl dX5_takeSign_1 ?_
  refine lv_bipush (v := 60) hx hb dX5_takeSign_4 (by decide) ?_
  have hFc := va_free (wc := [(a_tape, .inr (7, [.ref a_tape_bytes, .int a_tape__length, .int a_tape__place, .int a_tape__fault])), (a_tape_bytes, .inl (cs 0, 400, .inl a_tape_bytes_c))]) hD hS hA [1,2] rfl
  refine va_calli (va_runV (As := [.int 60]) (rest := []) ⟨hx, hb, hml, hown, hT⟩ (c_X7_take l D cs kK kV a_tape 60 a_tape_bytes a_tape__length a_tape__place a_tape__fault a_tape_bytes_c ((iv_c (by decide))) h_a_tape__length h_a_tape__place h_a_tape_bytes_c H.size) (cwV 1 hT (hz_gV q_585 q_586 q_587 q_221 q_588) rfl rfl rfl (by decide +kernel) ⟨(Nat.le_of_ble_eq_true rfl), (Nat.le_of_ble_eq_true rfl)⟩) ⟨hz_C.blind, va_recv hK hP (ci := 7) (q0 := 1) rfl rfl, hz_C.mk (hP.sub (ws' := [(a_tape, .inr (7, [.ref a_tape_bytes, .int a_tape__length, .int a_tape__place, .int a_tape__fault])), (a_tape_bytes, .inl (cs 0, 400, .inl a_tape_bytes_c))]) [1,2] rfl) (hD.sub (ws' := [(a_tape, .inr (7, [.ref a_tape_bytes, .int a_tape__length, .int a_tape__place, .int a_tape__fault])), (a_tape_bytes, .inl (cs 0, 400, .inl a_tape_bytes_c))]) [1,2] (by decide) rfl) hE hS hFc⟩ rfl rfl hl.1 rfl (lv_room (Nat.le_of_ble_eq_true rfl)) dX5_takeSign_6 ⟨(Nat.le_of_ble_eq_true rfl), (Nat.le_of_ble_eq_true rfl)⟩) hS (fun q _ h => hFc q h) hFc (fun r1 u t H1 locs ht hvm hw hB hz1 hk1 hS => ?_)
  obtain ⟨o2, h3, hP1, hD1⟩ := hB
  rw [ht] at hP1
  obtain ⟨hP, hD⟩ := va_join (wr := [(a, .inr (5, [.ref a_tape, .ref a_code, .int a__length, .int a__parts]))]) (w1 := [(a_tape, .inr (7, [.ref a_tape_bytes, .int a_tape__length, .int o2, .int a_tape__fault])), (a_tape_bytes, .inl (cs 0, 400, .inl a_tape_bytes_c))]) hP hD [1, 2] [0] rfl rfl (by decide) (by decide) hk1 hFc hP1 hD1
  generalize H1 = H at hP hS ⊢
  have hP : va_P D classes [(a, .inr (5, [.ref a_tape, .ref a_code, .int a__length, .int a__parts])), (a_tape, .inr (7, [.ref a_tape_bytes, .int a_tape__length, .int o2, .int a_tape__fault])), (a_tape_bytes, .inl (cs 0, 400, .inl a_tape_bytes_c))] H := hP
  have hD : va_D A [(a, .inr (5, [.ref a_tape, .ref a_code, .int a__length, .int a__parts])), (a_tape, .inr (7, [.ref a_tape_bytes, .int a_tape__length, .int o2, .int a_tape__fault])), (a_tape_bytes, .inl (cs 0, 400, .inl a_tape_bytes_c))] := hD
  clear hk1 hFc hP1 hD1 hz1
  rcases hw with rfl | ⟨rfl, h4, h5, h6⟩
  · refine lv_if_eq (tgt := 32) hx hb dX5_takeSign_9 (by decide) (fun _ => ?_) (fun z => absurd (by decide) z)
    refine lv_aload_n hx hb dX5_takeSign_32 rfl (lv_at hl 0 rfl) ?_
    refine va_get (D := D) (ci := 5) (v := .ref a_tape) (C := RX5) (T := TX5) (N := 4) hx hb hT i_X5 hown hK hP 0 rfl rfl 0 (by decide) (hT _ q_104) (fun _ h9 => h9) rfl dX5_takeSign_33 ?_
    refine lv_bipush (v := 62) hx hb dX5_takeSign_36 (by decide) ?_
    have hFc := va_free (wc := [(a_tape, .inr (7, [.ref a_tape_bytes, .int a_tape__length, .int o2, .int a_tape__fault])), (a_tape_bytes, .inl (cs 0, 400, .inl a_tape_bytes_c))]) hD hS hA [1,2] rfl
    refine va_calli (va_runV (As := [.int 62]) (rest := []) ⟨hx, hb, hml, hown, hT⟩ (c_X7_take l D cs kK kV a_tape 62 a_tape_bytes a_tape__length o2 a_tape__fault a_tape_bytes_c ((iv_c (by decide))) h_a_tape__length h3 h_a_tape_bytes_c H.size) (cwV 1 hT (hz_gV q_585 q_586 q_587 q_221 q_588) rfl rfl rfl (by decide +kernel) ⟨(Nat.le_of_ble_eq_true rfl), (Nat.le_of_ble_eq_true rfl)⟩) ⟨hz_C.blind, va_recv hK hP (ci := 7) (q0 := 1) rfl rfl, hz_C.mk (hP.sub (ws' := [(a_tape, .inr (7, [.ref a_tape_bytes, .int a_tape__length, .int o2, .int a_tape__fault])), (a_tape_bytes, .inl (cs 0, 400, .inl a_tape_bytes_c))]) [1,2] rfl) (hD.sub (ws' := [(a_tape, .inr (7, [.ref a_tape_bytes, .int a_tape__length, .int o2, .int a_tape__fault])), (a_tape_bytes, .inl (cs 0, 400, .inl a_tape_bytes_c))]) [1,2] (by decide) rfl) hE hS hFc⟩ rfl rfl hl.1 rfl (lv_room (Nat.le_of_ble_eq_true rfl)) dX5_takeSign_38 ⟨(Nat.le_of_ble_eq_true rfl), (Nat.le_of_ble_eq_true rfl)⟩) hS (fun q _ h => hFc q h) hFc (fun r7 u t H1 locs ht hvm hw hB hz1 hk1 hS => ?_)
    obtain ⟨o8, h9, hP1, hD1⟩ := hB
    rw [ht] at hP1
    obtain ⟨hP, hD⟩ := va_join (wr := [(a, .inr (5, [.ref a_tape, .ref a_code, .int a__length, .int a__parts]))]) (w1 := [(a_tape, .inr (7, [.ref a_tape_bytes, .int a_tape__length, .int o8, .int a_tape__fault])), (a_tape_bytes, .inl (cs 0, 400, .inl a_tape_bytes_c))]) hP hD [1, 2] [0] rfl rfl (by decide) (by decide) hk1 hFc hP1 hD1
    generalize H1 = H at hP hS ⊢
    have hP : va_P D classes [(a, .inr (5, [.ref a_tape, .ref a_code, .int a__length, .int a__parts])), (a_tape, .inr (7, [.ref a_tape_bytes, .int a_tape__length, .int o8, .int a_tape__fault])), (a_tape_bytes, .inl (cs 0, 400, .inl a_tape_bytes_c))] H := hP
    have hD : va_D A [(a, .inr (5, [.ref a_tape, .ref a_code, .int a__length, .int a__parts])), (a_tape, .inr (7, [.ref a_tape_bytes, .int a_tape__length, .int o8, .int a_tape__fault])), (a_tape_bytes, .inl (cs 0, 400, .inl a_tape_bytes_c))] := hD
    clear hk1 hFc hP1 hD1 hz1
    rcases hw with rfl | ⟨rfl, h10, h11, h12⟩
    · refine lv_if_eq (tgt := 64) hx hb dX5_takeSign_41 (by decide) (fun _ => ?_) (fun z => absurd (by decide) z)
      refine lv_aload_n hx hb dX5_takeSign_64 rfl (lv_at hl 0 rfl) ?_
      refine va_get (D := D) (ci := 5) (v := .ref a_tape) (C := RX5) (T := TX5) (N := 4) hx hb hT i_X5 hown hK hP 0 rfl rfl 0 (by decide) (hT _ q_104) (fun _ h9 => h9) rfl dX5_takeSign_65 ?_
      refine lv_bipush (v := 61) hx hb dX5_takeSign_68 (by decide) ?_
      have hFc := va_free (wc := [(a_tape, .inr (7, [.ref a_tape_bytes, .int a_tape__length, .int o8, .int a_tape__fault])), (a_tape_bytes, .inl (cs 0, 400, .inl a_tape_bytes_c))]) hD hS hA [1,2] rfl
      refine va_calli (va_runV (As := [.int 61]) (rest := []) ⟨hx, hb, hml, hown, hT⟩ (c_X7_take l D cs kK kV a_tape 61 a_tape_bytes a_tape__length o8 a_tape__fault a_tape_bytes_c ((iv_c (by decide))) h_a_tape__length h9 h_a_tape_bytes_c H.size) (cwV 1 hT (hz_gV q_585 q_586 q_587 q_221 q_588) rfl rfl rfl (by decide +kernel) ⟨(Nat.le_of_ble_eq_true rfl), (Nat.le_of_ble_eq_true rfl)⟩) ⟨hz_C.blind, va_recv hK hP (ci := 7) (q0 := 1) rfl rfl, hz_C.mk (hP.sub (ws' := [(a_tape, .inr (7, [.ref a_tape_bytes, .int a_tape__length, .int o8, .int a_tape__fault])), (a_tape_bytes, .inl (cs 0, 400, .inl a_tape_bytes_c))]) [1,2] rfl) (hD.sub (ws' := [(a_tape, .inr (7, [.ref a_tape_bytes, .int a_tape__length, .int o8, .int a_tape__fault])), (a_tape_bytes, .inl (cs 0, 400, .inl a_tape_bytes_c))]) [1,2] (by decide) rfl) hE hS hFc⟩ rfl rfl hl.1 rfl (lv_room (Nat.le_of_ble_eq_true rfl)) dX5_takeSign_70 ⟨(Nat.le_of_ble_eq_true rfl), (Nat.le_of_ble_eq_true rfl)⟩) hS (fun q _ h => hFc q h) hFc (fun r13 u t H1 locs ht hvm hw hB hz1 hk1 hS => ?_)
      obtain ⟨o14, h15, hP1, hD1⟩ := hB
      rw [ht] at hP1
      obtain ⟨hP, hD⟩ := va_join (wr := [(a, .inr (5, [.ref a_tape, .ref a_code, .int a__length, .int a__parts]))]) (w1 := [(a_tape, .inr (7, [.ref a_tape_bytes, .int a_tape__length, .int o14, .int a_tape__fault])), (a_tape_bytes, .inl (cs 0, 400, .inl a_tape_bytes_c))]) hP hD [1, 2] [0] rfl rfl (by decide) (by decide) hk1 hFc hP1 hD1
      generalize H1 = H at hP hS ⊢
      have hP : va_P D classes [(a, .inr (5, [.ref a_tape, .ref a_code, .int a__length, .int a__parts])), (a_tape, .inr (7, [.ref a_tape_bytes, .int a_tape__length, .int o14, .int a_tape__fault])), (a_tape_bytes, .inl (cs 0, 400, .inl a_tape_bytes_c))] H := hP
      have hD : va_D A [(a, .inr (5, [.ref a_tape, .ref a_code, .int a__length, .int a__parts])), (a_tape, .inr (7, [.ref a_tape_bytes, .int a_tape__length, .int o14, .int a_tape__fault])), (a_tape_bytes, .inl (cs 0, 400, .inl a_tape_bytes_c))] := hD
      clear hk1 hFc hP1 hD1 hz1
      rcases hw with rfl | ⟨rfl, h16, h17, h18⟩
      · refine lv_if_eq (tgt := 81) hx hb dX5_takeSign_73 (by decide) (fun _ => ?_) (fun z => absurd (by decide) z)
        refine lv_iconst (v := (-1)) hx hb dX5_takeSign_81 (by decide) ?_
        refine W.widen (k := 0) (n := 0) (Nat.le_of_ble_eq_true rfl) (Nat.le_of_ble_eq_true rfl) ?_
        exact W.iret (v := (-1)) hx hb hr (fun t ht hW => ⟨⟨(-1), (), rfl, (iv_c (by decide)), o14, h15, by rw [ht]; exact hP.sub [0, 1, 2] rfl, hD.sub [0, 1, 2] (by decide) rfl⟩, hS.F ht⟩) hS.2.2 dX5_takeSign_82
      · refine lv_if_eq (tgt := 81) hx hb dX5_takeSign_73 (by decide) (fun z => absurd z (by decide)) (fun _ => ?_)
        refine lv_bipush (v := (-27)) hx hb dX5_takeSign_76 (by decide) ?_
        refine lv_goto (tgt := 82) hx hb dX5_takeSign_78 (by decide) ?_
        refine W.widen (k := 0) (n := 0) (Nat.le_of_ble_eq_true rfl) (Nat.le_of_ble_eq_true rfl) ?_
        exact W.iret (v := (-27)) hx hb hr (fun t ht hW => ⟨⟨(-27), (), rfl, (iv_c (by decide)), o14, h15, by rw [ht]; exact hP.sub [0, 1, 2] rfl, hD.sub [0, 1, 2] (by decide) rfl⟩, hS.F ht⟩) hS.2.2 dX5_takeSign_82
    · refine lv_if_eq (tgt := 64) hx hb dX5_takeSign_41 (by decide) (fun z => absurd z (by decide)) (fun _ => ?_)
      refine lv_aload_n hx hb dX5_takeSign_44 rfl (lv_at hl 0 rfl) ?_
      refine va_get (D := D) (ci := 5) (v := .ref a_tape) (C := RX5) (T := TX5) (N := 4) hx hb hT i_X5 hown hK hP 0 rfl rfl 0 (by decide) (hT _ q_104) (fun _ h9 => h9) rfl dX5_takeSign_45 ?_
      refine lv_bipush (v := 61) hx hb dX5_takeSign_48 (by decide) ?_
      have hFc := va_free (wc := [(a_tape, .inr (7, [.ref a_tape_bytes, .int a_tape__length, .int o8, .int a_tape__fault])), (a_tape_bytes, .inl (cs 0, 400, .inl a_tape_bytes_c))]) hD hS hA [1,2] rfl
      refine va_calli (va_runV (As := [.int 61]) (rest := []) ⟨hx, hb, hml, hown, hT⟩ (c_X7_take l D cs kK kV a_tape 61 a_tape_bytes a_tape__length o8 a_tape__fault a_tape_bytes_c ((iv_c (by decide))) ((iv_w h10 (by decide) (by decide))) h9 h_a_tape_bytes_c H.size) (cwV 1 hT (hz_gV q_585 q_586 q_587 q_221 q_588) rfl rfl rfl (by decide +kernel) ⟨(Nat.le_of_ble_eq_true rfl), (Nat.le_of_ble_eq_true rfl)⟩) ⟨hz_C.blind, va_recv hK hP (ci := 7) (q0 := 1) rfl rfl, hz_C.mk (hP.sub (ws' := [(a_tape, .inr (7, [.ref a_tape_bytes, .int a_tape__length, .int o8, .int a_tape__fault])), (a_tape_bytes, .inl (cs 0, 400, .inl a_tape_bytes_c))]) [1,2] rfl) (hD.sub (ws' := [(a_tape, .inr (7, [.ref a_tape_bytes, .int a_tape__length, .int o8, .int a_tape__fault])), (a_tape_bytes, .inl (cs 0, 400, .inl a_tape_bytes_c))]) [1,2] (by decide) rfl) hE hS hFc⟩ rfl rfl hl.1 rfl (lv_room (Nat.le_of_ble_eq_true rfl)) dX5_takeSign_50 ⟨(Nat.le_of_ble_eq_true rfl), (Nat.le_of_ble_eq_true rfl)⟩) hS (fun q _ h => hFc q h) hFc (fun r19 u t H1 locs ht hvm hw hB hz1 hk1 hS => ?_)
      obtain ⟨o20, h21, hP1, hD1⟩ := hB
      rw [ht] at hP1
      obtain ⟨hP, hD⟩ := va_join (wr := [(a, .inr (5, [.ref a_tape, .ref a_code, .int a__length, .int a__parts]))]) (w1 := [(a_tape, .inr (7, [.ref a_tape_bytes, .int a_tape__length, .int o20, .int a_tape__fault])), (a_tape_bytes, .inl (cs 0, 400, .inl a_tape_bytes_c))]) hP hD [1, 2] [0] rfl rfl (by decide) (by decide) hk1 hFc hP1 hD1
      generalize H1 = H at hP hS ⊢
      have hP : va_P D classes [(a, .inr (5, [.ref a_tape, .ref a_code, .int a__length, .int a__parts])), (a_tape, .inr (7, [.ref a_tape_bytes, .int a_tape__length, .int o20, .int a_tape__fault])), (a_tape_bytes, .inl (cs 0, 400, .inl a_tape_bytes_c))] H := hP
      have hD : va_D A [(a, .inr (5, [.ref a_tape, .ref a_code, .int a__length, .int a__parts])), (a_tape, .inr (7, [.ref a_tape_bytes, .int a_tape__length, .int o20, .int a_tape__fault])), (a_tape_bytes, .inl (cs 0, 400, .inl a_tape_bytes_c))] := hD
      clear hk1 hFc hP1 hD1 hz1
      rcases hw with rfl | ⟨rfl, h22, h23, h24⟩
      · refine lv_if_eq (tgt := 61) hx hb dX5_takeSign_53 (by decide) (fun _ => ?_) (fun z => absurd (by decide) z)
        refine lv_bipush (v := (-29)) hx hb dX5_takeSign_61 (by decide) ?_
        refine W.widen (k := 0) (n := 0) (Nat.le_of_ble_eq_true rfl) (Nat.le_of_ble_eq_true rfl) ?_
        exact W.iret (v := (-29)) hx hb hr (fun t ht hW => ⟨⟨(-29), (), rfl, (iv_c (by decide)), o20, h21, by rw [ht]; exact hP.sub [0, 1, 2] rfl, hD.sub [0, 1, 2] (by decide) rfl⟩, hS.F ht⟩) hS.2.2 dX5_takeSign_63
      · refine lv_if_eq (tgt := 61) hx hb dX5_takeSign_53 (by decide) (fun z => absurd z (by decide)) (fun _ => ?_)
        refine lv_bipush (v := (-28)) hx hb dX5_takeSign_56 (by decide) ?_
        refine lv_goto (tgt := 63) hx hb dX5_takeSign_58 (by decide) ?_
        refine W.widen (k := 0) (n := 0) (Nat.le_of_ble_eq_true rfl) (Nat.le_of_ble_eq_true rfl) ?_
        exact W.iret (v := (-28)) hx hb hr (fun t ht hW => ⟨⟨(-28), (), rfl, (iv_c (by decide)), o20, h21, by rw [ht]; exact hP.sub [0, 1, 2] rfl, hD.sub [0, 1, 2] (by decide) rfl⟩, hS.F ht⟩) hS.2.2 dX5_takeSign_63
  · refine lv_if_eq (tgt := 32) hx hb dX5_takeSign_9 (by decide) (fun z => absurd z (by decide)) (fun _ => ?_)
    refine lv_aload_n hx hb dX5_takeSign_12 rfl (lv_at hl 0 rfl) ?_
    refine va_get (D := D) (ci := 5) (v := .ref a_tape) (C := RX5) (T := TX5) (N := 4) hx hb hT i_X5 hown hK hP 0 rfl rfl 0 (by decide) (hT _ q_104) (fun _ h9 => h9) rfl dX5_takeSign_13 ?_
    refine lv_bipush (v := 61) hx hb dX5_takeSign_16 (by decide) ?_
    have hFc := va_free (wc := [(a_tape, .inr (7, [.ref a_tape_bytes, .int a_tape__length, .int o2, .int a_tape__fault])), (a_tape_bytes, .inl (cs 0, 400, .inl a_tape_bytes_c))]) hD hS hA [1,2] rfl
    refine va_calli (va_runV (As := [.int 61]) (rest := []) ⟨hx, hb, hml, hown, hT⟩ (c_X7_take l D cs kK kV a_tape 61 a_tape_bytes a_tape__length o2 a_tape__fault a_tape_bytes_c ((iv_c (by decide))) ((iv_w h4 (by decide) (by decide))) h3 h_a_tape_bytes_c H.size) (cwV 1 hT (hz_gV q_585 q_586 q_587 q_221 q_588) rfl rfl rfl (by decide +kernel) ⟨(Nat.le_of_ble_eq_true rfl), (Nat.le_of_ble_eq_true rfl)⟩) ⟨hz_C.blind, va_recv hK hP (ci := 7) (q0 := 1) rfl rfl, hz_C.mk (hP.sub (ws' := [(a_tape, .inr (7, [.ref a_tape_bytes, .int a_tape__length, .int o2, .int a_tape__fault])), (a_tape_bytes, .inl (cs 0, 400, .inl a_tape_bytes_c))]) [1,2] rfl) (hD.sub (ws' := [(a_tape, .inr (7, [.ref a_tape_bytes, .int a_tape__length, .int o2, .int a_tape__fault])), (a_tape_bytes, .inl (cs 0, 400, .inl a_tape_bytes_c))]) [1,2] (by decide) rfl) hE hS hFc⟩ rfl rfl hl.1 rfl (lv_room (Nat.le_of_ble_eq_true rfl)) dX5_takeSign_18 ⟨(Nat.le_of_ble_eq_true rfl), (Nat.le_of_ble_eq_true rfl)⟩) hS (fun q _ h => hFc q h) hFc (fun r25 u t H1 locs ht hvm hw hB hz1 hk1 hS => ?_)
    obtain ⟨o26, h27, hP1, hD1⟩ := hB
    rw [ht] at hP1
    obtain ⟨hP, hD⟩ := va_join (wr := [(a, .inr (5, [.ref a_tape, .ref a_code, .int a__length, .int a__parts]))]) (w1 := [(a_tape, .inr (7, [.ref a_tape_bytes, .int a_tape__length, .int o26, .int a_tape__fault])), (a_tape_bytes, .inl (cs 0, 400, .inl a_tape_bytes_c))]) hP hD [1, 2] [0] rfl rfl (by decide) (by decide) hk1 hFc hP1 hD1
    generalize H1 = H at hP hS ⊢
    have hP : va_P D classes [(a, .inr (5, [.ref a_tape, .ref a_code, .int a__length, .int a__parts])), (a_tape, .inr (7, [.ref a_tape_bytes, .int a_tape__length, .int o26, .int a_tape__fault])), (a_tape_bytes, .inl (cs 0, 400, .inl a_tape_bytes_c))] H := hP
    have hD : va_D A [(a, .inr (5, [.ref a_tape, .ref a_code, .int a__length, .int a__parts])), (a_tape, .inr (7, [.ref a_tape_bytes, .int a_tape__length, .int o26, .int a_tape__fault])), (a_tape_bytes, .inl (cs 0, 400, .inl a_tape_bytes_c))] := hD
    clear hk1 hFc hP1 hD1 hz1
    rcases hw with rfl | ⟨rfl, h28, h29, h30⟩
    · refine lv_if_eq (tgt := 29) hx hb dX5_takeSign_21 (by decide) (fun _ => ?_) (fun z => absurd (by decide) z)
      refine lv_bipush (v := (-25)) hx hb dX5_takeSign_29 (by decide) ?_
      refine W.widen (k := 0) (n := 0) (Nat.le_of_ble_eq_true rfl) (Nat.le_of_ble_eq_true rfl) ?_
      exact W.iret (v := (-25)) hx hb hr (fun t ht hW => ⟨⟨(-25), (), rfl, (iv_c (by decide)), o26, h27, by rw [ht]; exact hP.sub [0, 1, 2] rfl, hD.sub [0, 1, 2] (by decide) rfl⟩, hS.F ht⟩) hS.2.2 dX5_takeSign_31
    · refine lv_if_eq (tgt := 29) hx hb dX5_takeSign_21 (by decide) (fun z => absurd z (by decide)) (fun _ => ?_)
      refine lv_bipush (v := (-26)) hx hb dX5_takeSign_24 (by decide) ?_
      refine lv_goto (tgt := 31) hx hb dX5_takeSign_26 (by decide) ?_
      refine W.widen (k := 0) (n := 0) (Nat.le_of_ble_eq_true rfl) (Nat.le_of_ble_eq_true rfl) ?_
      exact W.iret (v := (-26)) hx hb hr (fun t ht hW => ⟨⟨(-26), (), rfl, (iv_c (by decide)), o26, h27, by rw [ht]; exact hP.sub [0, 1, 2] rfl, hD.sub [0, 1, 2] (by decide) rfl⟩, hS.F ht⟩) hS.2.2 dX5_takeSign_31
theorem dX5_closeBracket_0 : decode cX5_closeBracket 0 = .ok (.aload_n 0, 1) := by decide +kernel
theorem dX5_closeBracket_1 : decode cX5_closeBracket 1 = .ok (.getfield 15, 3) := by decide +kernel
theorem dX5_closeBracket_4 : decode cX5_closeBracket 4 = .ok (.invokevirtual 52, 3) := by decide +kernel
theorem dX5_closeBracket_7 : decode cX5_closeBracket 7 = .ok (.aload_n 0, 1) := by decide +kernel
theorem dX5_closeBracket_8 : decode cX5_closeBracket 8 = .ok (.getfield 15, 3) := by decide +kernel
theorem dX5_closeBracket_11 : decode cX5_closeBracket 11 = .ok (.bipush 93, 2) := by decide +kernel
theorem dX5_closeBracket_13 : decode cX5_closeBracket 13 = .ok (.invokevirtual 104, 3) := by decide +kernel
theorem dX5_closeBracket_16 : decode cX5_closeBracket 16 = .ok (.ifCond .ne 18, 3) := by decide +kernel
theorem dX5_closeBracket_19 : decode cX5_closeBracket 19 = .ok (.aload_n 0, 1) := by decide +kernel
theorem dX5_closeBracket_20 : decode cX5_closeBracket 20 = .ok (.getfield 15, 3) := by decide +kernel
theorem dX5_closeBracket_23 : decode cX5_closeBracket 23 = .ok (.aload_n 0, 1) := by decide +kernel
theorem dX5_closeBracket_24 : decode cX5_closeBracket 24 = .ok (.getfield 15, 3) := by decide +kernel
theorem dX5_closeBracket_27 : decode cX5_closeBracket 27 = .ok (.getfield 55, 3) := by decide +kernel
theorem dX5_closeBracket_30 : decode cX5_closeBracket 30 = .ok (.iconst 0, 1) := by decide +kernel
theorem dX5_closeBracket_31 : decode cX5_closeBracket 31 = .ok (.invokevirtual 64, 3) := by decide +kernel
theorem dX5_closeBracket_34 : decode cX5_closeBracket 34 = .ok (.return_, 1) := by decide +kernel
set_option maxHeartbeats 4000000 in
set_option maxRecDepth 100000 in
theorem c_X5_closeBracket (l : Launch) (D : va_G) (cs : Nat → ClassId) (kK kV : Nat → Nat) (a : Nat) (a_tape : Nat) (a_code : Nat) (a__length : Int32) (a__parts : Int32) (a_tape_bytes : Nat) (a_tape__length : Int32) (a_tape__place : Int32) (a_tape__fault : Int32) (a_tape_bytes_c : Nat → Int32) (h_a_tape__length : IV 0 400 a_tape__length) (h_a_tape__place : IV 0 400 a_tape__place) (h_a_tape__fault : IV 0 3205 a_tape__fault) (h_a_tape_bytes_c : CI 400 0 255 a_tape_bytes_c) (sz : Nat) : Met l yX5_closeBracket (hz_w yX5_closeBracket cX5_closeBracket 1 none) ({ frames := 2, cells := 0, slots := 0, locals := 41 }) (va_Pc [.ref a] (hz_C D cs kK kV sz [(a, .inr (5, [.ref a_tape, .ref a_code, .int a__length, .int a__parts])), (a_tape, .inr (7, [.ref a_tape_bytes, .int a_tape__length, .int a_tape__place, .int a_tape__fault])), (a_tape_bytes, .inl (cs 0, 400, .inl a_tape_bytes_c))])) (va_Qv (fun (u : (Nat → Int32) × (Nat → Nat → Int32)) => (IV 0 3205 (u.1 0) ∧ IV 1 400 a_tape__length ∧ IV 0 400 (u.1 1)) ∨ (IV 1 3205 (u.1 0) ∧ IV 0 400 (u.1 1))) (fun u t => va_P D classes [(a, .inr (5, [.ref a_tape, .ref a_code, .int a__length, .int a__parts])), (a_tape, .inr (7, [.ref a_tape_bytes, .int a_tape__length, .int (u.1 1), .int (u.1 0)])), (a_tape_bytes, .inl (cs 0, 400, .inl a_tape_bytes_c))] t.heap ∧ va_D (va_A [(a, .inr (5, [.ref a_tape, .ref a_code, .int a__length, .int a__parts])), (a_tape, .inr (7, [.ref a_tape_bytes, .int a_tape__length, .int a_tape__place, .int a_tape__fault])), (a_tape_bytes, .inl (cs 0, 400, .inl a_tape_bytes_c))] sz) [(a, .inr (5, [.ref a_tape, .ref a_code, .int a__length, .int a__parts])), (a_tape, .inr (7, [.ref a_tape_bytes, .int a_tape__length, .int (u.1 1), .int (u.1 0)])), (a_tape_bytes, .inl (cs 0, 400, .inl a_tape_bytes_c))]) (va_A [(a, .inr (5, [.ref a_tape, .ref a_code, .int a__length, .int a__parts])), (a_tape, .inr (7, [.ref a_tape_bytes, .int a_tape__length, .int a_tape__place, .int a_tape__fault])), (a_tape_bytes, .inl (cs 0, 400, .inl a_tape_bytes_c))] sz)) 0 0 (va_A [(a, .inr (5, [.ref a_tape, .ref a_code, .int a__length, .int a__parts])), (a_tape, .inr (7, [.ref a_tape_bytes, .int a_tape__length, .int a_tape__place, .int a_tape__fault])), (a_tape_bytes, .inl (cs 0, 400, .inl a_tape_bytes_c))] sz) := by
  refine Met.ofW (cc := cX5_closeBracket) (maxL := 1) (ret := none) (by decide) rfl ?_
  intro p e s m args below meth c s₁ B hml hv
  obtain ⟨rfl, hsz, hP, hD0, hE⟩ := hv
  have hx := B.exec
  have hb := B.bytes
  have hr := B.returns
  have hT : ∀ w ∈ TB, w.before _ s = true := fun w h => atoms_spec (ws := hz_w yX5_closeBracket cX5_closeBracket 1 none) B.pre w (List.mem_cons_of_mem _ h)
  have hown : s.vm.findClass RX5 = some m.cls := findClass_of_methodNamed B.named
  have hlocks := B.notSynchronized
  clear B
  subst hsz
  have hD := hD0.self (sz := s.heap.size)
  generalize hAe : va_A [(a, .inr (5, [.ref a_tape, .ref a_code, .int a__length, .int a__parts])), (a_tape, .inr (7, [.ref a_tape_bytes, .int a_tape__length, .int a_tape__place, .int a_tape__fault])), (a_tape_bytes, .inl (cs 0, 400, .inl a_tape_bytes_c))] s.heap.size = A at hD hE ⊢
  have hA : ∀ q : Nat, s.heap.size ≤ q → A q := fun q h => by rw [← hAe]; exact Or.inr h
  clear hAe hD0
  have hS : va_S A s.heap s.heap [] := va_S.rf
  have hK := hE.1
  have hl := lv_entry ([.ref a]) (n := 1) (Nat.le_of_ble_eq_true rfl)
  rw [lg_entry_eq]
  generalize (lg_sl ([.ref a]) ++ List.replicate (1 - (lg_sl ([.ref a])).length) Slot.unset).toArray = ls at hl ⊢
  have hl : lv_has ls 1 [(0, .ref a)] := hl
  obtain ⟨H, eH⟩ : ∃ z, z = s.heap := ⟨_, rfl⟩
  have hP : va_P D classes [(a, .inr (5, [.ref a_tape, .ref a_code, .int a__length, .int a__parts])), (a_tape, .inr (7, [.ref a_tape_bytes, .int a_tape__length, .int a_tape__place, .int a_tape__fault])), (a_tape_bytes, .inl (cs 0, 400, .inl a_tape_bytes_c))] H := by rw [eH]; exact hP
  have hS : va_S A s.heap H [] := by rw [eH]; exact hS
  rw [← eH]
  clear eH
  obtain ⟨locs, el⟩ : ∃ z : List Loc, z = [] := ⟨_, rfl⟩
  rw [← el] at hS ⊢
  clear el
  refine lv_aload_n hx hb dX5_closeBracket_0 rfl (lv_at hl 0 rfl) ?_
  refine va_get (D := D) (ci := 5) (v := .ref a_tape) (C := RX5) (T := TX5) (N := 4) hx hb hT i_X5 hown hK hP 0 rfl rfl 0 (by decide) (hT _ q_104) (fun _ h9 => h9) rfl dX5_closeBracket_1 ?_
  have hFc := va_free (wc := [(a_tape, .inr (7, [.ref a_tape_bytes, .int a_tape__length, .int a_tape__place, .int a_tape__fault])), (a_tape_bytes, .inl (cs 0, 400, .inl a_tape_bytes_c))]) hD hS hA [1,2] rfl
  refine va_callv (va_runV (As := []) (rest := []) ⟨hx, hb, hml, hown, hT⟩ (c_X7_skipBlanks l D cs kK kV a_tape a_tape_bytes a_tape__length a_tape__place a_tape__fault a_tape_bytes_c h_a_tape__length h_a_tape__place h_a_tape_bytes_c H.size) (cwV 0 hT (hz_gV q_562 q_437 q_438 q_221 q_439) rfl rfl rfl (by decide +kernel) ⟨(Nat.le_of_ble_eq_true rfl), (Nat.le_of_ble_eq_true rfl)⟩) ⟨hz_C.blind, va_recv hK hP (ci := 7) (q0 := 1) rfl rfl, hz_C.mk (hP.sub (ws' := [(a_tape, .inr (7, [.ref a_tape_bytes, .int a_tape__length, .int a_tape__place, .int a_tape__fault])), (a_tape_bytes, .inl (cs 0, 400, .inl a_tape_bytes_c))]) [1,2] rfl) (hD.sub (ws' := [(a_tape, .inr (7, [.ref a_tape_bytes, .int a_tape__length, .int a_tape__place, .int a_tape__fault])), (a_tape_bytes, .inl (cs 0, 400, .inl a_tape_bytes_c))]) [1,2] (by decide) rfl) hE hS hFc⟩ rfl rfl hl.1 rfl (lv_room (Nat.le_of_ble_eq_true rfl)) dX5_closeBracket_4 ⟨(Nat.le_of_ble_eq_true rfl), (Nat.le_of_ble_eq_true rfl)⟩) hS (fun q _ h => hFc q h) hFc (fun u t H1 locs ht hvm hw hB hz1 hk1 hS => ?_)
  obtain ⟨o2, h3, hP1, hD1⟩ := hB
  rw [ht] at hP1
  obtain ⟨hP, hD⟩ := va_join (wr := [(a, .inr (5, [.ref a_tape, .ref a_code, .int a__length, .int a__parts]))]) (w1 := [(a_tape, .inr (7, [.ref a_tape_bytes, .int a_tape__length, .int o2, .int a_tape__fault])), (a_tape_bytes, .inl (cs 0, 400, .inl a_tape_bytes_c))]) hP hD [1, 2] [0] rfl rfl (by decide) (by decide) hk1 hFc hP1 hD1
  generalize H1 = H at hP hS ⊢
  have hP : va_P D classes [(a, .inr (5, [.ref a_tape, .ref a_code, .int a__length, .int a__parts])), (a_tape, .inr (7, [.ref a_tape_bytes, .int a_tape__length, .int o2, .int a_tape__fault])), (a_tape_bytes, .inl (cs 0, 400, .inl a_tape_bytes_c))] H := hP
  have hD : va_D A [(a, .inr (5, [.ref a_tape, .ref a_code, .int a__length, .int a__parts])), (a_tape, .inr (7, [.ref a_tape_bytes, .int a_tape__length, .int o2, .int a_tape__fault])), (a_tape_bytes, .inl (cs 0, 400, .inl a_tape_bytes_c))] := hD
  clear hk1 hFc hP1 hD1 hz1
  refine lv_aload_n hx hb dX5_closeBracket_7 rfl (lv_at hl 0 rfl) ?_
  refine va_get (D := D) (ci := 5) (v := .ref a_tape) (C := RX5) (T := TX5) (N := 4) hx hb hT i_X5 hown hK hP 0 rfl rfl 0 (by decide) (hT _ q_104) (fun _ h9 => h9) rfl dX5_closeBracket_8 ?_
  refine lv_bipush (v := 93) hx hb dX5_closeBracket_11 (by decide) ?_
  have hFc := va_free (wc := [(a_tape, .inr (7, [.ref a_tape_bytes, .int a_tape__length, .int o2, .int a_tape__fault])), (a_tape_bytes, .inl (cs 0, 400, .inl a_tape_bytes_c))]) hD hS hA [1,2] rfl
  refine va_calli (va_runV (As := [.int 93]) (rest := []) ⟨hx, hb, hml, hown, hT⟩ (c_X7_take l D cs kK kV a_tape 93 a_tape_bytes a_tape__length o2 a_tape__fault a_tape_bytes_c ((iv_c (by decide))) h_a_tape__length h3 h_a_tape_bytes_c H.size) (cwV 1 hT (hz_gV q_585 q_586 q_587 q_221 q_588) rfl rfl rfl (by decide +kernel) ⟨(Nat.le_of_ble_eq_true rfl), (Nat.le_of_ble_eq_true rfl)⟩) ⟨hz_C.blind, va_recv hK hP (ci := 7) (q0 := 1) rfl rfl, hz_C.mk (hP.sub (ws' := [(a_tape, .inr (7, [.ref a_tape_bytes, .int a_tape__length, .int o2, .int a_tape__fault])), (a_tape_bytes, .inl (cs 0, 400, .inl a_tape_bytes_c))]) [1,2] rfl) (hD.sub (ws' := [(a_tape, .inr (7, [.ref a_tape_bytes, .int a_tape__length, .int o2, .int a_tape__fault])), (a_tape_bytes, .inl (cs 0, 400, .inl a_tape_bytes_c))]) [1,2] (by decide) rfl) hE hS hFc⟩ rfl rfl hl.1 rfl (lv_room (Nat.le_of_ble_eq_true rfl)) dX5_closeBracket_13 ⟨(Nat.le_of_ble_eq_true rfl), (Nat.le_of_ble_eq_true rfl)⟩) hS (fun q _ h => hFc q h) hFc (fun r4 u t H1 locs ht hvm hw hB hz1 hk1 hS => ?_)
  obtain ⟨o5, h6, hP1, hD1⟩ := hB
  rw [ht] at hP1
  obtain ⟨hP, hD⟩ := va_join (wr := [(a, .inr (5, [.ref a_tape, .ref a_code, .int a__length, .int a__parts]))]) (w1 := [(a_tape, .inr (7, [.ref a_tape_bytes, .int a_tape__length, .int o5, .int a_tape__fault])), (a_tape_bytes, .inl (cs 0, 400, .inl a_tape_bytes_c))]) hP hD [1, 2] [0] rfl rfl (by decide) (by decide) hk1 hFc hP1 hD1
  generalize H1 = H at hP hS ⊢
  have hP : va_P D classes [(a, .inr (5, [.ref a_tape, .ref a_code, .int a__length, .int a__parts])), (a_tape, .inr (7, [.ref a_tape_bytes, .int a_tape__length, .int o5, .int a_tape__fault])), (a_tape_bytes, .inl (cs 0, 400, .inl a_tape_bytes_c))] H := hP
  have hD : va_D A [(a, .inr (5, [.ref a_tape, .ref a_code, .int a__length, .int a__parts])), (a_tape, .inr (7, [.ref a_tape_bytes, .int a_tape__length, .int o5, .int a_tape__fault])), (a_tape_bytes, .inl (cs 0, 400, .inl a_tape_bytes_c))] := hD
  clear hk1 hFc hP1 hD1 hz1
  rcases hw with rfl | ⟨rfl, h7, h8, h9⟩
  · refine lv_if_ne (tgt := 34) hx hb dX5_closeBracket_16 (by decide) (fun z => absurd (by decide) z) (fun _ => ?_)
    refine lv_aload_n hx hb dX5_closeBracket_19 rfl (lv_at hl 0 rfl) ?_
    refine va_get (D := D) (ci := 5) (v := .ref a_tape) (C := RX5) (T := TX5) (N := 4) hx hb hT i_X5 hown hK hP 0 rfl rfl 0 (by decide) (hT _ q_104) (fun _ h9 => h9) rfl dX5_closeBracket_20 ?_
    refine lv_aload_n hx hb dX5_closeBracket_23 rfl (lv_at hl 0 rfl) ?_
    refine va_get (D := D) (ci := 5) (v := .ref a_tape) (C := RX5) (T := TX5) (N := 4) hx hb hT i_X5 hown hK hP 0 rfl rfl 0 (by decide) (hT _ q_104) (fun _ h9 => h9) rfl dX5_closeBracket_24 ?_
    refine va_get (D := D) (ci := 7) (v := .int o5) (C := RX7) (T := TX7) (N := 4) hx hb hT i_X7 hown hK hP 1 rfl rfl 2 (by decide) (hT _ q_108) (fun _ h9 => h9) rfl dX5_closeBracket_27 ?_
    refine lv_iconst (v := 0) hx hb dX5_closeBracket_30 (by decide) ?_
    have hFc := va_free (wc := [(a_tape, .inr (7, [.ref a_tape_bytes, .int a_tape__length, .int o5, .int a_tape__fault]))]) hD hS hA [1] rfl
    refine va_callv (va_runV (As := [.int o5, .int 0]) (rest := []) ⟨hx, hb, hml, hown, hT⟩ (c_X7_fail l D cs kK kV a_tape o5 0 a_tape_bytes a_tape__length o5 a_tape__fault h6 ((iv_c (by decide))) h_a_tape__fault H.size) (cwV 2 hT (hz_gV q_564 q_445 q_446 q_221 q_447) rfl rfl rfl (by decide +kernel) ⟨(Nat.le_of_ble_eq_true rfl), (Nat.le_of_ble_eq_true rfl)⟩) ⟨hz_C.blind, va_recv hK hP (ci := 7) (q0 := 1) rfl rfl, hz_C.mk (hP.sub (ws' := [(a_tape, .inr (7, [.ref a_tape_bytes, .int a_tape__length, .int o5, .int a_tape__fault]))]) [1] rfl) (hD.sub (ws' := [(a_tape, .inr (7, [.ref a_tape_bytes, .int a_tape__length, .int o5, .int a_tape__fault]))]) [1] (by decide) rfl) hE hS hFc⟩ rfl rfl hl.1 rfl (lv_room (Nat.le_of_ble_eq_true rfl)) dX5_closeBracket_31 ⟨(Nat.le_of_ble_eq_true rfl), (Nat.le_of_ble_eq_true rfl)⟩) hS (fun q _ h => hFc q h) hFc (fun o11 t H1 locs ht hvm hw hB hz1 hk1 hS => ?_)
    obtain ⟨hP1, hD1⟩ := hB
    rw [ht] at hP1
    obtain ⟨hP, hD⟩ := va_join (wr := [(a, .inr (5, [.ref a_tape, .ref a_code, .int a__length, .int a__parts])), (a_tape_bytes, .inl (cs 0, 400, .inl a_tape_bytes_c))]) (w1 := [(a_tape, .inr (7, [.ref a_tape_bytes, .int a_tape__length, .int o5, .int (o11.1 0)]))]) hP hD [1] [0, 2] rfl rfl (by decide) (by decide) hk1 hFc hP1 hD1
    generalize H1 = H at hP hS ⊢
    have hP : va_P D classes [(a, .inr (5, [.ref a_tape, .ref a_code, .int a__length, .int a__parts])), (a_tape_bytes, .inl (cs 0, 400, .inl a_tape_bytes_c)), (a_tape, .inr (7, [.ref a_tape_bytes, .int a_tape__length, .int o5, .int (o11.1 0)]))] H := hP
    have hD : va_D A [(a, .inr (5, [.ref a_tape, .ref a_code, .int a__length, .int a__parts])), (a_tape_bytes, .inl (cs 0, 400, .inl a_tape_bytes_c)), (a_tape, .inr (7, [.ref a_tape_bytes, .int a_tape__length, .int o5, .int (o11.1 0)]))] := hD
    clear hk1 hFc hP1 hD1 hz1
    have h12 := hw
    refine W.widen (k := 0) (n := 0) (Nat.le_of_ble_eq_true rfl) (Nat.le_of_ble_eq_true rfl) ?_
    exact W.vret hx hb hr (fun t ht hW => ⟨⟨(fun k => match k with | 0 => o11.1 0 | 1 => o5 | _ => 0, fun _ _ => 0), rfl, (Or.inr ((⟨h12, h6⟩))), by rw [ht]; exact hP.sub [0, 2, 1] rfl, hD.sub [0, 2, 1] (by decide) rfl⟩, hS.F ht⟩) hS.2.2 dX5_closeBracket_34
  · refine lv_if_ne (tgt := 34) hx hb dX5_closeBracket_16 (by decide) (fun _ => ?_) (fun z => absurd z (by decide))
    refine W.widen (k := 0) (n := 0) (Nat.le_of_ble_eq_true rfl) (Nat.le_of_ble_eq_true rfl) ?_
    exact W.vret hx hb hr (fun t ht hW => ⟨⟨(fun k => match k with | 0 => a_tape__fault | 1 => o5 | _ => 0, fun _ _ => 0), rfl, (Or.inl (⟨h_a_tape__fault, h7, h6⟩)), by rw [ht]; exact hP.sub [0, 1, 2] rfl, hD.sub [0, 1, 2] (by decide) rfl⟩, hS.F ht⟩) hS.2.2 dX5_closeBracket_34
theorem dX5_takeComparison_0 : decode cX5_takeComparison 0 = .ok (.aload_n 0, 1) := by decide +kernel
theorem dX5_takeComparison_1 : decode cX5_takeComparison 1 = .ok (.getfield 15, 3) := by decide +kernel
theorem dX5_takeComparison_4 : decode cX5_takeComparison 4 = .ok (.invokevirtual 34, 3) := by decide +kernel
theorem dX5_takeComparison_7 : decode cX5_takeComparison 7 = .ok (.ifCond .ne 5, 3) := by decide +kernel
theorem dX5_takeComparison_10 : decode cX5_takeComparison 10 = .ok (.iconst (-1), 1) := by decide +kernel
theorem dX5_takeComparison_11 : decode cX5_takeComparison 11 = .ok (.ireturn, 1) := by decide +kernel
theorem dX5_takeComparison_12 : decode cX5_takeComparison 12 = .ok (.aload_n 0, 1) := by decide +kernel
theorem dX5_takeComparison_13 : decode cX5_takeComparison 13 = .ok (.getfield 15, 3) := by decide +kernel
theorem dX5_takeComparison_16 : decode cX5_takeComparison 16 = .ok (.invokevirtual 52, 3) := by decide +kernel
theorem dX5_takeComparison_19 : decode cX5_takeComparison 19 = .ok (.aload_n 0, 1) := by decide +kernel
theorem dX5_takeComparison_20 : decode cX5_takeComparison 20 = .ok (.getfield 15, 3) := by decide +kernel
theorem dX5_takeComparison_23 : decode cX5_takeComparison 23 = .ok (.getfield 55, 3) := by decide +kernel
theorem dX5_takeComparison_26 : decode cX5_takeComparison 26 = .ok (.istore_n 1, 1) := by decide +kernel
theorem dX5_takeComparison_27 : decode cX5_takeComparison 27 = .ok (.aload_n 0, 1) := by decide +kernel
theorem dX5_takeComparison_28 : decode cX5_takeComparison 28 = .ok (.invokevirtual 116, 3) := by decide +kernel
theorem dX5_takeComparison_31 : decode cX5_takeComparison 31 = .ok (.istore_n 2, 1) := by decide +kernel
theorem dX5_takeComparison_32 : decode cX5_takeComparison 32 = .ok (.iload_n 2, 1) := by decide +kernel
theorem dX5_takeComparison_33 : decode cX5_takeComparison 33 = .ok (.iconst (-1), 1) := by decide +kernel
theorem dX5_takeComparison_34 : decode cX5_takeComparison 34 = .ok (.if_icmp .ne 15, 3) := by decide +kernel
theorem dX5_takeComparison_37 : decode cX5_takeComparison 37 = .ok (.aload_n 0, 1) := by decide +kernel
theorem dX5_takeComparison_38 : decode cX5_takeComparison 38 = .ok (.getfield 15, 3) := by decide +kernel
theorem dX5_takeComparison_41 : decode cX5_takeComparison 41 = .ok (.iload_n 1, 1) := by decide +kernel
theorem dX5_takeComparison_42 : decode cX5_takeComparison 42 = .ok (.iconst 0, 1) := by decide +kernel
theorem dX5_takeComparison_43 : decode cX5_takeComparison 43 = .ok (.invokevirtual 64, 3) := by decide +kernel
theorem dX5_takeComparison_46 : decode cX5_takeComparison 46 = .ok (.goto 8, 3) := by decide +kernel
theorem dX5_takeComparison_49 : decode cX5_takeComparison 49 = .ok (.aload_n 0, 1) := by decide +kernel
theorem dX5_takeComparison_50 : decode cX5_takeComparison 50 = .ok (.iload_n 1, 1) := by decide +kernel
theorem dX5_takeComparison_51 : decode cX5_takeComparison 51 = .ok (.invokevirtual 119, 3) := by decide +kernel
theorem dX5_takeComparison_54 : decode cX5_takeComparison 54 = .ok (.aload_n 0, 1) := by decide +kernel
theorem dX5_takeComparison_55 : decode cX5_takeComparison 55 = .ok (.getfield 15, 3) := by decide +kernel
theorem dX5_takeComparison_58 : decode cX5_takeComparison 58 = .ok (.invokevirtual 34, 3) := by decide +kernel
theorem dX5_takeComparison_61 : decode cX5_takeComparison 61 = .ok (.ifCond .eq 7, 3) := by decide +kernel
theorem dX5_takeComparison_64 : decode cX5_takeComparison 64 = .ok (.iload_n 2, 1) := by decide +kernel
theorem dX5_takeComparison_65 : decode cX5_takeComparison 65 = .ok (.goto 4, 3) := by decide +kernel
theorem dX5_takeComparison_68 : decode cX5_takeComparison 68 = .ok (.iconst (-1), 1) := by decide +kernel
theorem dX5_takeComparison_69 : decode cX5_takeComparison 69 = .ok (.ireturn, 1) := by decide +kernel
set_option maxHeartbeats 4000000 in
set_option maxRecDepth 100000 in
theorem c_X5_takeComparison (l : Launch) (D : va_G) (cs : Nat → ClassId) (kK kV : Nat → Nat) (a : Nat) (a_tape : Nat) (a_code : Nat) (a__length : Int32) (a__parts : Int32) (a_tape_bytes : Nat) (a_tape__length : Int32) (a_tape__place : Int32) (a_tape__fault : Int32) (a_tape_bytes_c : Nat → Int32) (h_a_tape__length : IV 0 400 a_tape__length) (h_a_tape__place : IV 0 400 a_tape__place) (h_a_tape__fault : IV 0 3205 a_tape__fault) (h_a_tape_bytes_c : CI 400 0 255 a_tape_bytes_c) (sz : Nat) : Met l yX5_takeComparison (hz_w yX5_takeComparison cX5_takeComparison 3 (some .int)) ({ frames := 3, cells := 0, slots := 0, locals := 61 }) (va_Pc [.ref a] (hz_C D cs kK kV sz [(a, .inr (5, [.ref a_tape, .ref a_code, .int a__length, .int a__parts])), (a_tape, .inr (7, [.ref a_tape_bytes, .int a_tape__length, .int a_tape__place, .int a_tape__fault])), (a_tape_bytes, .inl (cs 0, 400, .inl a_tape_bytes_c))])) (va_Qi (fun (r : Int32) (u : (Nat → Int32) × (Nat → Nat → Int32)) => (r = (-1) ∧ IV 1 3205 (u.1 0) ∧ IV 0 400 (u.1 2)) ∨ (IV (-29) (-1) r ∧ IV 0 0 (u.1 0) ∧ IV 0 400 (u.1 2))) (fun u t => va_P D classes [(a, .inr (5, [.ref a_tape, .ref a_code, .int a__length, .int (u.1 1)])), (a_tape, .inr (7, [.ref a_tape_bytes, .int a_tape__length, .int (u.1 2), .int (u.1 0)])), (a_tape_bytes, .inl (cs 0, 400, .inl a_tape_bytes_c))] t.heap ∧ va_D (va_A [(a, .inr (5, [.ref a_tape, .ref a_code, .int a__length, .int a__parts])), (a_tape, .inr (7, [.ref a_tape_bytes, .int a_tape__length, .int a_tape__place, .int a_tape__fault])), (a_tape_bytes, .inl (cs 0, 400, .inl a_tape_bytes_c))] sz) [(a, .inr (5, [.ref a_tape, .ref a_code, .int a__length, .int (u.1 1)])), (a_tape, .inr (7, [.ref a_tape_bytes, .int a_tape__length, .int (u.1 2), .int (u.1 0)])), (a_tape_bytes, .inl (cs 0, 400, .inl a_tape_bytes_c))]) (va_A [(a, .inr (5, [.ref a_tape, .ref a_code, .int a__length, .int a__parts])), (a_tape, .inr (7, [.ref a_tape_bytes, .int a_tape__length, .int a_tape__place, .int a_tape__fault])), (a_tape_bytes, .inl (cs 0, 400, .inl a_tape_bytes_c))] sz)) 0 0 (va_A [(a, .inr (5, [.ref a_tape, .ref a_code, .int a__length, .int a__parts])), (a_tape, .inr (7, [.ref a_tape_bytes, .int a_tape__length, .int a_tape__place, .int a_tape__fault])), (a_tape_bytes, .inl (cs 0, 400, .inl a_tape_bytes_c))] sz) := by
  refine Met.ofW (cc := cX5_takeComparison) (maxL := 3) (ret := (some .int)) (by decide) rfl ?_
  intro p e s m args below meth c s₁ B hml hv
  obtain ⟨rfl, hsz, hP, hD0, hE⟩ := hv
  have hx := B.exec
  have hb := B.bytes
  have hr := B.returns
  have hT : ∀ w ∈ TB, w.before _ s = true := fun w h => atoms_spec (ws := hz_w yX5_takeComparison cX5_takeComparison 3 (some .int)) B.pre w (List.mem_cons_of_mem _ h)
  have hown : s.vm.findClass RX5 = some m.cls := findClass_of_methodNamed B.named
  have hlocks := B.notSynchronized
  clear B
  subst hsz
  have hD := hD0.self (sz := s.heap.size)
  generalize hAe : va_A [(a, .inr (5, [.ref a_tape, .ref a_code, .int a__length, .int a__parts])), (a_tape, .inr (7, [.ref a_tape_bytes, .int a_tape__length, .int a_tape__place, .int a_tape__fault])), (a_tape_bytes, .inl (cs 0, 400, .inl a_tape_bytes_c))] s.heap.size = A at hD hE ⊢
  have hA : ∀ q : Nat, s.heap.size ≤ q → A q := fun q h => by rw [← hAe]; exact Or.inr h
  clear hAe hD0
  have hS : va_S A s.heap s.heap [] := va_S.rf
  have hK := hE.1
  have hl := lv_entry ([.ref a]) (n := 3) (Nat.le_of_ble_eq_true rfl)
  rw [lg_entry_eq]
  generalize (lg_sl ([.ref a]) ++ List.replicate (3 - (lg_sl ([.ref a])).length) Slot.unset).toArray = ls at hl ⊢
  have hl : lv_has ls 3 [(0, .ref a)] := hl
  obtain ⟨H, eH⟩ : ∃ z, z = s.heap := ⟨_, rfl⟩
  have hP : va_P D classes [(a, .inr (5, [.ref a_tape, .ref a_code, .int a__length, .int a__parts])), (a_tape, .inr (7, [.ref a_tape_bytes, .int a_tape__length, .int a_tape__place, .int a_tape__fault])), (a_tape_bytes, .inl (cs 0, 400, .inl a_tape_bytes_c))] H := by rw [eH]; exact hP
  have hS : va_S A s.heap H [] := by rw [eH]; exact hS
  rw [← eH]
  clear eH
  obtain ⟨locs, el⟩ : ∃ z : List Loc, z = [] := ⟨_, rfl⟩
  rw [← el] at hS ⊢
  clear el
  have K54 : ∀ (k54_L_2 : Int32) (k54_L_1 : Int32) (k54_F_a_3 : Int32) (k54_F_a_tape_2 : Int32) (k54_F_a_tape_3 : Int32), IV 0 400 k54_F_a_tape_2 → IV 0 3205 k54_F_a_tape_3 → IV 0 400 k54_L_1 → IV (-29) (-1) k54_L_2 → ∀ (H : Heap) (locs : List Loc), va_P D classes [(a_tape_bytes, .inl (cs 0, 400, .inl a_tape_bytes_c)), (a, .inr (5, [.ref a_tape, .ref a_code, .int a__length, .int k54_F_a_3])), (a_tape, .inr (7, [.ref a_tape_bytes, .int a_tape__length, .int k54_F_a_tape_2, .int k54_F_a_tape_3]))] H → va_D A [(a_tape_bytes, .inl (cs 0, 400, .inl a_tape_bytes_c)), (a, .inr (5, [.ref a_tape, .ref a_code, .int a__length, .int k54_F_a_3])), (a_tape, .inr (7, [.ref a_tape_bytes, .int a_tape__length, .int k54_F_a_tape_2, .int k54_F_a_tape_3]))] → va_S A s.heap H locs → ∀ ls : Array Slot, lv_has ls 3 [(2, .int k54_L_2), (1, .int k54_L_1), (0, .ref a)] → W p l e (headSpec (hz_w yX5_takeComparison cX5_takeComparison 3 (some .int)) ({ frames := 3, cells := 0, slots := 0, locals := 61 })).room s m [.ref a].toArray below meth c H locs 0 0 (MQ below (va_Qi (fun (r : Int32) (u : (Nat → Int32) × (Nat → Nat → Int32)) => (r = (-1) ∧ IV 1 3205 (u.1 0) ∧ IV 0 400 (u.1 2)) ∨ (IV (-29) (-1) r ∧ IV 0 0 (u.1 0) ∧ IV 0 400 (u.1 2))) (fun u t => va_P D classes [(a, .inr (5, [.ref a_tape, .ref a_code, .int a__length, .int (u.1 1)])), (a_tape, .inr (7, [.ref a_tape_bytes, .int a_tape__length, .int (u.1 2), .int (u.1 0)])), (a_tape_bytes, .inl (cs 0, 400, .inl a_tape_bytes_c))] t.heap ∧ va_D A [(a, .inr (5, [.ref a_tape, .ref a_code, .int a__length, .int (u.1 1)])), (a_tape, .inr (7, [.ref a_tape_bytes, .int a_tape__length, .int (u.1 2), .int (u.1 0)])), (a_tape_bytes, .inl (cs 0, 400, .inl a_tape_bytes_c))]) A) [.ref a].toArray s 0 0 A) (F0 m 54 ls []) := by
    intro k54_L_2 k54_L_1 k54_F_a_3 k54_F_a_tape_2 k54_F_a_tape_3 q54_2 q54_3 q54_4 q54_5 H locs hP hD hS ls hl
    refine lv_aload_n hx hb dX5_takeComparison_54 rfl (lv_at hl 2 rfl) ?_
    refine va_get (D := D) (ci := 5) (v := .ref a_tape) (C := RX5) (T := TX5) (N := 4) hx hb hT i_X5 hown hK hP 1 rfl rfl 0 (by decide) (hT _ q_104) (fun _ h9 => h9) rfl dX5_takeComparison_55 ?_
    refine va_calli (va_runV (As := []) (rest := []) ⟨hx, hb, hml, hown, hT⟩ (c_X7_isSound l D cs kK kV a_tape a_tape_bytes a_tape__length k54_F_a_tape_2 k54_F_a_tape_3 q54_3) (cwV 0 hT (hz_gV q_553 q_421 q_422 q_221 q_423) rfl rfl rfl (by decide +kernel) ⟨(Nat.le_of_ble_eq_true rfl), (Nat.le_of_ble_eq_true rfl)⟩) ⟨hz_P.blind, va_recv hK hP (ci := 7) (q0 := 2) rfl rfl, hz_P.mk (hP.sub (ws' := [(a_tape, .inr (7, [.ref a_tape_bytes, .int a_tape__length, .int k54_F_a_tape_2, .int k54_F_a_tape_3]))]) [2] rfl) hE hS⟩ rfl rfl hl.1 rfl (lv_room (Nat.le_of_ble_eq_true rfl)) dX5_takeComparison_58 ⟨(Nat.le_of_ble_eq_true rfl), (Nat.le_of_ble_eq_true rfl)⟩) hS (fun _ _ h => h.elim) (fun _ h => h.elim) (fun r1 u t H1 locs ht hvm hw hB hz1 hk1 hS => ?_)
    have hP := hz_keep hP hk1
    clear hk1 hB hz1
    generalize H1 = H at hP hS ⊢
    rcases hw with ⟨rfl, h2⟩ | ⟨rfl, h3⟩
    · refine lv_if_eq (tgt := 68) hx hb dX5_takeComparison_61 (by decide) (fun _ => ?_) (fun z => absurd (by decide) z)
      refine lv_iconst (v := (-1)) hx hb dX5_takeComparison_68 (by decide) ?_
      refine W.widen (k := 0) (n := 0) (Nat.le_of_ble_eq_true rfl) (Nat.le_of_ble_eq_true rfl) ?_
      exact W.iret (v := (-1)) hx hb hr (fun t ht hW => ⟨⟨(-1), (fun k => match k with | 0 => k54_F_a_tape_3 | 1 => k54_F_a_3 | 2 => k54_F_a_tape_2 | _ => 0, fun _ _ => 0), rfl, (Or.inl (⟨rfl, h2, q54_2⟩)), by rw [ht]; exact hP.sub [1, 2, 0] rfl, hD.sub [1, 2, 0] (by decide) rfl⟩, hS.F ht⟩) hS.2.2 dX5_takeComparison_69
    · refine lv_if_eq (tgt := 68) hx hb dX5_takeComparison_61 (by decide) (fun z => absurd z (by decide)) (fun _ => ?_)
      refine lv_iload_n hx hb dX5_takeComparison_64 rfl (lv_at hl 0 rfl) ?_
      refine lv_goto (tgt := 69) hx hb dX5_takeComparison_65 (by decide) ?_
      refine W.widen (k := 0) (n := 0) (Nat.le_of_ble_eq_true rfl) (Nat.le_of_ble_eq_true rfl) ?_
      exact W.iret (v := k54_L_2) hx hb hr (fun t ht hW => ⟨⟨k54_L_2, (fun k => match k with | 0 => k54_F_a_tape_3 | 1 => k54_F_a_3 | 2 => k54_F_a_tape_2 | _ => 0, fun _ _ => 0), rfl, (Or.inr ((⟨q54_5, h3, q54_2⟩))), by rw [ht]; exact hP.sub [1, 2, 0] rfl, hD.sub [1, 2, 0] (by decide) rfl⟩, hS.F ht⟩) hS.2.2 dX5_takeComparison_69
  refine lv_aload_n hx hb dX5_takeComparison_0 rfl (lv_at hl 0 rfl) ?_
  refine va_get (D := D) (ci := 5) (v := .ref a_tape) (C := RX5) (T := TX5) (N := 4) hx hb hT i_X5 hown hK hP 0 rfl rfl 0 (by decide) (hT _ q_104) (fun _ h9 => h9) rfl dX5_takeComparison_1 ?_
  refine va_calli (va_runV (As := []) (rest := []) ⟨hx, hb, hml, hown, hT⟩ (c_X7_isSound l D cs kK kV a_tape a_tape_bytes a_tape__length a_tape__place a_tape__fault h_a_tape__fault) (cwV 0 hT (hz_gV q_553 q_421 q_422 q_221 q_423) rfl rfl rfl (by decide +kernel) ⟨(Nat.le_of_ble_eq_true rfl), (Nat.le_of_ble_eq_true rfl)⟩) ⟨hz_P.blind, va_recv hK hP (ci := 7) (q0 := 1) rfl rfl, hz_P.mk (hP.sub (ws' := [(a_tape, .inr (7, [.ref a_tape_bytes, .int a_tape__length, .int a_tape__place, .int a_tape__fault]))]) [1] rfl) hE hS⟩ rfl rfl hl.1 rfl (lv_room (Nat.le_of_ble_eq_true rfl)) dX5_takeComparison_4 ⟨(Nat.le_of_ble_eq_true rfl), (Nat.le_of_ble_eq_true rfl)⟩) hS (fun _ _ h => h.elim) (fun _ h => h.elim) (fun r4 u t H1 locs ht hvm hw hB hz1 hk1 hS => ?_)
  have hP := hz_keep hP hk1
  clear hk1 hB hz1
  generalize H1 = H at hP hS ⊢
  rcases hw with ⟨rfl, h5⟩ | ⟨rfl, h6⟩
  · refine lv_if_ne (tgt := 12) hx hb dX5_takeComparison_7 (by decide) (fun z => absurd (by decide) z) (fun _ => ?_)
    refine lv_iconst (v := (-1)) hx hb dX5_takeComparison_10 (by decide) ?_
    refine W.widen (k := 0) (n := 0) (Nat.le_of_ble_eq_true rfl) (Nat.le_of_ble_eq_true rfl) ?_
    exact W.iret (v := (-1)) hx hb hr (fun t ht hW => ⟨⟨(-1), (fun k => match k with | 0 => a_tape__fault | 1 => a__parts | 2 => a_tape__place | _ => 0, fun _ _ => 0), rfl, (Or.inl (⟨rfl, h5, h_a_tape__place⟩)), by rw [ht]; exact hP.sub [0, 1, 2] rfl, hD.sub [0, 1, 2] (by decide) rfl⟩, hS.F ht⟩) hS.2.2 dX5_takeComparison_11
  · refine lv_if_ne (tgt := 12) hx hb dX5_takeComparison_7 (by decide) (fun _ => ?_) (fun z => absurd z (by decide))
    refine lv_aload_n hx hb dX5_takeComparison_12 rfl (lv_at hl 0 rfl) ?_
    refine va_get (D := D) (ci := 5) (v := .ref a_tape) (C := RX5) (T := TX5) (N := 4) hx hb hT i_X5 hown hK hP 0 rfl rfl 0 (by decide) (hT _ q_104) (fun _ h9 => h9) rfl dX5_takeComparison_13 ?_
    have hFc := va_free (wc := [(a_tape, .inr (7, [.ref a_tape_bytes, .int a_tape__length, .int a_tape__place, .int a_tape__fault])), (a_tape_bytes, .inl (cs 0, 400, .inl a_tape_bytes_c))]) hD hS hA [1,2] rfl
    refine va_callv (va_runV (As := []) (rest := []) ⟨hx, hb, hml, hown, hT⟩ (c_X7_skipBlanks l D cs kK kV a_tape a_tape_bytes a_tape__length a_tape__place a_tape__fault a_tape_bytes_c h_a_tape__length h_a_tape__place h_a_tape_bytes_c H.size) (cwV 0 hT (hz_gV q_562 q_437 q_438 q_221 q_439) rfl rfl rfl (by decide +kernel) ⟨(Nat.le_of_ble_eq_true rfl), (Nat.le_of_ble_eq_true rfl)⟩) ⟨hz_C.blind, va_recv hK hP (ci := 7) (q0 := 1) rfl rfl, hz_C.mk (hP.sub (ws' := [(a_tape, .inr (7, [.ref a_tape_bytes, .int a_tape__length, .int a_tape__place, .int a_tape__fault])), (a_tape_bytes, .inl (cs 0, 400, .inl a_tape_bytes_c))]) [1,2] rfl) (hD.sub (ws' := [(a_tape, .inr (7, [.ref a_tape_bytes, .int a_tape__length, .int a_tape__place, .int a_tape__fault])), (a_tape_bytes, .inl (cs 0, 400, .inl a_tape_bytes_c))]) [1,2] (by decide) rfl) hE hS hFc⟩ rfl rfl hl.1 rfl (lv_room (Nat.le_of_ble_eq_true rfl)) dX5_takeComparison_16 ⟨(Nat.le_of_ble_eq_true rfl), (Nat.le_of_ble_eq_true rfl)⟩) hS (fun q _ h => hFc q h) hFc (fun u t H1 locs ht hvm hw hB hz1 hk1 hS => ?_)
    obtain ⟨o8, h9, hP1, hD1⟩ := hB
    rw [ht] at hP1
    obtain ⟨hP, hD⟩ := va_join (wr := [(a, .inr (5, [.ref a_tape, .ref a_code, .int a__length, .int a__parts]))]) (w1 := [(a_tape, .inr (7, [.ref a_tape_bytes, .int a_tape__length, .int o8, .int a_tape__fault])), (a_tape_bytes, .inl (cs 0, 400, .inl a_tape_bytes_c))]) hP hD [1, 2] [0] rfl rfl (by decide) (by decide) hk1 hFc hP1 hD1
    generalize H1 = H at hP hS ⊢
    have hP : va_P D classes [(a, .inr (5, [.ref a_tape, .ref a_code, .int a__length, .int a__parts])), (a_tape, .inr (7, [.ref a_tape_bytes, .int a_tape__length, .int o8, .int a_tape__fault])), (a_tape_bytes, .inl (cs 0, 400, .inl a_tape_bytes_c))] H := hP
    have hD : va_D A [(a, .inr (5, [.ref a_tape, .ref a_code, .int a__length, .int a__parts])), (a_tape, .inr (7, [.ref a_tape_bytes, .int a_tape__length, .int o8, .int a_tape__fault])), (a_tape_bytes, .inl (cs 0, 400, .inl a_tape_bytes_c))] := hD
    clear hk1 hFc hP1 hD1 hz1
    refine lv_aload_n hx hb dX5_takeComparison_19 rfl (lv_at hl 0 rfl) ?_
    refine va_get (D := D) (ci := 5) (v := .ref a_tape) (C := RX5) (T := TX5) (N := 4) hx hb hT i_X5 hown hK hP 0 rfl rfl 0 (by decide) (hT _ q_104) (fun _ h9 => h9) rfl dX5_takeComparison_20 ?_
    refine va_get (D := D) (ci := 7) (v := .int o8) (C := RX7) (T := TX7) (N := 4) hx hb hT i_X7 hown hK hP 1 rfl rfl 2 (by decide) (hT _ q_108) (fun _ h9 => h9) rfl dX5_takeComparison_23 ?_
    refine lv_istore_n (lv' := [(1, .int o8), (0, .ref a)]) hx hb dX5_takeComparison_26 rfl hl (by decide) rfl (fun ls hl => ?_)
    refine lv_aload_n hx hb dX5_takeComparison_27 rfl (lv_at hl 1 rfl) ?_
    have hFc := va_free (wc := [(a, .inr (5, [.ref a_tape, .ref a_code, .int a__length, .int a__parts])), (a_tape, .inr (7, [.ref a_tape_bytes, .int a_tape__length, .int o8, .int a_tape__fault])), (a_tape_bytes, .inl (cs 0, 400, .inl a_tape_bytes_c))]) hD hS hA [0,1,2] rfl
    refine va_calli (va_runV (As := []) (rest := []) ⟨hx, hb, hml, hown, hT⟩ (c_X5_takeSign l D cs kK kV a a_tape a_code a__length a__parts a_tape_bytes a_tape__length o8 a_tape__fault a_tape_bytes_c h_a_tape__length h9 h_a_tape_bytes_c H.size) (cwV 0 hT (hz_gV q_597 q_598 q_599 q_246 q_600) rfl rfl rfl (by decide +kernel) ⟨(Nat.le_of_ble_eq_true rfl), (Nat.le_of_ble_eq_true rfl)⟩) ⟨hz_C.blind, va_recv hK hP (ci := 5) (q0 := 0) rfl rfl, hz_C.mk (hP.sub (ws' := [(a, .inr (5, [.ref a_tape, .ref a_code, .int a__length, .int a__parts])), (a_tape, .inr (7, [.ref a_tape_bytes, .int a_tape__length, .int o8, .int a_tape__fault])), (a_tape_bytes, .inl (cs 0, 400, .inl a_tape_bytes_c))]) [0,1,2] rfl) (hD.sub (ws' := [(a, .inr (5, [.ref a_tape, .ref a_code, .int a__length, .int a__parts])), (a_tape, .inr (7, [.ref a_tape_bytes, .int a_tape__length, .int o8, .int a_tape__fault])), (a_tape_bytes, .inl (cs 0, 400, .inl a_tape_bytes_c))]) [0,1,2] (by decide) rfl) hE hS hFc⟩ rfl rfl hl.1 rfl (lv_room (Nat.le_of_ble_eq_true rfl)) dX5_takeComparison_28 ⟨(Nat.le_of_ble_eq_true rfl), (Nat.le_of_ble_eq_true rfl)⟩) hS (fun q _ h => hFc q h) hFc (fun r10 u t H1 locs ht hvm hw hB hz1 hk1 hS => ?_)
    obtain ⟨o11, h12, hP1, hD1⟩ := hB
    rw [ht] at hP1
    obtain ⟨hP, hD⟩ := va_join (wr := []) (w1 := [(a, .inr (5, [.ref a_tape, .ref a_code, .int a__length, .int a__parts])), (a_tape, .inr (7, [.ref a_tape_bytes, .int a_tape__length, .int o11, .int a_tape__fault])), (a_tape_bytes, .inl (cs 0, 400, .inl a_tape_bytes_c))]) hP hD [0, 1, 2] [] rfl rfl (by decide) (by decide) hk1 hFc hP1 hD1
    generalize H1 = H at hP hS ⊢
    have hP : va_P D classes [(a, .inr (5, [.ref a_tape, .ref a_code, .int a__length, .int a__parts])), (a_tape, .inr (7, [.ref a_tape_bytes, .int a_tape__length, .int o11, .int a_tape__fault])), (a_tape_bytes, .inl (cs 0, 400, .inl a_tape_bytes_c))] H := hP
    have hD : va_D A [(a, .inr (5, [.ref a_tape, .ref a_code, .int a__length, .int a__parts])), (a_tape, .inr (7, [.ref a_tape_bytes, .int a_tape__length, .int o11, .int a_tape__fault])), (a_tape_bytes, .inl (cs 0, 400, .inl a_tape_bytes_c))] := hD
    clear hk1 hFc hP1 hD1 hz1
    have hw_r10 := hw
    refine lv_istore_n (lv' := [(2, .int r10), (1, .int o8), (0, .ref a)]) hx hb dX5_takeComparison_31 rfl hl (by decide) rfl (fun ls hl => ?_)
    refine lv_iload_n hx hb dX5_takeComparison_32 rfl (lv_at hl 0 rfl) ?_
    refine lv_iconst (v := (-1)) hx hb dX5_takeComparison_33 (by decide) ?_
    refine lv_icmp_ne (tgt := 49) hx hb dX5_takeComparison_34 (by decide) (fun c13 => ?_) (fun c13 => ?_)
    · have h14 : IV (-29) (-2) r10 := iv_neR c13 hw_r10 (by decide)
      refine lv_aload_n hx hb dX5_takeComparison_49 rfl (lv_at hl 2 rfl) ?_
      refine lv_iload_n hx hb dX5_takeComparison_50 rfl (lv_at hl 1 rfl) ?_
      have hFc := va_free (wc := [(a, .inr (5, [.ref a_tape, .ref a_code, .int a__length, .int a__parts])), (a_tape, .inr (7, [.ref a_tape_bytes, .int a_tape__length, .int o11, .int a_tape__fault]))]) hD hS hA [0,1] rfl
      refine va_callv (va_runV (As := [.int o8]) (rest := []) ⟨hx, hb, hml, hown, hT⟩ (c_X5_countPart l D cs kK kV a o8 a_tape a_code a__length a__parts a_tape_bytes a_tape__length o11 a_tape__fault h9 ((iv_w h6 (by decide) (by decide))) H.size) (cwV 1 hT (hz_gV q_601 q_602 q_603 q_246 q_604) rfl rfl rfl (by decide +kernel) ⟨(Nat.le_of_ble_eq_true rfl), (Nat.le_of_ble_eq_true rfl)⟩) ⟨hz_C.blind, va_recv hK hP (ci := 5) (q0 := 0) rfl rfl, hz_C.mk (hP.sub (ws' := [(a, .inr (5, [.ref a_tape, .ref a_code, .int a__length, .int a__parts])), (a_tape, .inr (7, [.ref a_tape_bytes, .int a_tape__length, .int o11, .int a_tape__fault]))]) [0,1] rfl) (hD.sub (ws' := [(a, .inr (5, [.ref a_tape, .ref a_code, .int a__length, .int a__parts])), (a_tape, .inr (7, [.ref a_tape_bytes, .int a_tape__length, .int o11, .int a_tape__fault]))]) [0,1] (by decide) rfl) hE hS hFc⟩ rfl rfl hl.1 rfl (lv_room (Nat.le_of_ble_eq_true rfl)) dX5_takeComparison_51 ⟨(Nat.le_of_ble_eq_true rfl), (Nat.le_of_ble_eq_true rfl)⟩) hS (fun q _ h => hFc q h) hFc (fun o16 t H1 locs ht hvm hw hB hz1 hk1 hS => ?_)
      obtain ⟨hP1, hD1⟩ := hB
      rw [ht] at hP1
      obtain ⟨hP, hD⟩ := va_join (wr := [(a_tape_bytes, .inl (cs 0, 400, .inl a_tape_bytes_c))]) (w1 := [(a, .inr (5, [.ref a_tape, .ref a_code, .int a__length, .int (o16.1 1)])), (a_tape, .inr (7, [.ref a_tape_bytes, .int a_tape__length, .int o11, .int (o16.1 0)]))]) hP hD [0, 1] [2] rfl rfl (by decide) (by decide) hk1 hFc hP1 hD1
      generalize H1 = H at hP hS ⊢
      have hP : va_P D classes [(a_tape_bytes, .inl (cs 0, 400, .inl a_tape_bytes_c)), (a, .inr (5, [.ref a_tape, .ref a_code, .int a__length, .int (o16.1 1)])), (a_tape, .inr (7, [.ref a_tape_bytes, .int a_tape__length, .int o11, .int (o16.1 0)]))] H := hP
      have hD : va_D A [(a_tape_bytes, .inl (cs 0, 400, .inl a_tape_bytes_c)), (a, .inr (5, [.ref a_tape, .ref a_code, .int a__length, .int (o16.1 1)])), (a_tape, .inr (7, [.ref a_tape_bytes, .int a_tape__length, .int o11, .int (o16.1 0)]))] := hD
      clear hk1 hFc hP1 hD1 hz1
      rcases hw with ⟨h17, h18⟩ | ⟨h19, h20⟩
      · exact K54 r10 o8 (o16.1 1) o11 (o16.1 0) h12 h17 h9 (iv_w h14 (by decide) (by decide)) H locs (hP.sub (ws' := [(a_tape_bytes, .inl (cs 0, 400, .inl a_tape_bytes_c)), (a, .inr (5, [.ref a_tape, .ref a_code, .int a__length, .int (o16.1 1)])), (a_tape, .inr (7, [.ref a_tape_bytes, .int a_tape__length, .int o11, .int (o16.1 0)]))]) [0, 1, 2] rfl) (hD.sub (ws' := [(a_tape_bytes, .inl (cs 0, 400, .inl a_tape_bytes_c)), (a, .inr (5, [.ref a_tape, .ref a_code, .int a__length, .int (o16.1 1)])), (a_tape, .inr (7, [.ref a_tape_bytes, .int a_tape__length, .int o11, .int (o16.1 0)]))]) [0, 1, 2] (by decide) rfl) hS ls (lv_sub hl [0, 1, 2] rfl)
      · exact K54 r10 o8 (o16.1 1) o11 (o16.1 0) h12 (iv_w h19 (by decide) (by decide)) h9 (iv_w h14 (by decide) (by decide)) H locs (hP.sub (ws' := [(a_tape_bytes, .inl (cs 0, 400, .inl a_tape_bytes_c)), (a, .inr (5, [.ref a_tape, .ref a_code, .int a__length, .int (o16.1 1)])), (a_tape, .inr (7, [.ref a_tape_bytes, .int a_tape__length, .int o11, .int (o16.1 0)]))]) [0, 1, 2] rfl) (hD.sub (ws' := [(a_tape_bytes, .inl (cs 0, 400, .inl a_tape_bytes_c)), (a, .inr (5, [.ref a_tape, .ref a_code, .int a__length, .int (o16.1 1)])), (a_tape, .inr (7, [.ref a_tape_bytes, .int a_tape__length, .int o11, .int (o16.1 0)]))]) [0, 1, 2] (by decide) rfl) hS ls (lv_sub hl [0, 1, 2] rfl)
    · have h21 : IV (-1) (-1) r10 := iv_eq1 c13 hw_r10 (iv_c (a := (-1)) (b := (-1)) (by decide)) (by decide) (by decide)
      refine lv_aload_n hx hb dX5_takeComparison_37 rfl (lv_at hl 2 rfl) ?_
      refine va_get (D := D) (ci := 5) (v := .ref a_tape) (C := RX5) (T := TX5) (N := 4) hx hb hT i_X5 hown hK hP 0 rfl rfl 0 (by decide) (hT _ q_104) (fun _ h9 => h9) rfl dX5_takeComparison_38 ?_
      refine lv_iload_n hx hb dX5_takeComparison_41 rfl (lv_at hl 1 rfl) ?_
      refine lv_iconst (v := 0) hx hb dX5_takeComparison_42 (by decide) ?_
      have hFc := va_free (wc := [(a_tape, .inr (7, [.ref a_tape_bytes, .int a_tape__length, .int o11, .int a_tape__fault]))]) hD hS hA [1] rfl
      refine va_callv (va_runV (As := [.int o8, .int 0]) (rest := []) ⟨hx, hb, hml, hown, hT⟩ (c_X7_fail l D cs kK kV a_tape o8 0 a_tape_bytes a_tape__length o11 a_tape__fault h9 ((iv_c (by decide))) ((iv_w h6 (by decide) (by decide))) H.size) (cwV 2 hT (hz_gV q_564 q_445 q_446 q_221 q_447) rfl rfl rfl (by decide +kernel) ⟨(Nat.le_of_ble_eq_true rfl), (Nat.le_of_ble_eq_true rfl)⟩) ⟨hz_C.blind, va_recv hK hP (ci := 7) (q0 := 1) rfl rfl, hz_C.mk (hP.sub (ws' := [(a_tape, .inr (7, [.ref a_tape_bytes, .int a_tape__length, .int o11, .int a_tape__fault]))]) [1] rfl) (hD.sub (ws' := [(a_tape, .inr (7, [.ref a_tape_bytes, .int a_tape__length, .int o11, .int a_tape__fault]))]) [1] (by decide) rfl) hE hS hFc⟩ rfl rfl hl.1 rfl (lv_room (Nat.le_of_ble_eq_true rfl)) dX5_takeComparison_43 ⟨(Nat.le_of_ble_eq_true rfl), (Nat.le_of_ble_eq_true rfl)⟩) hS (fun q _ h => hFc q h) hFc (fun o23 t H1 locs ht hvm hw hB hz1 hk1 hS => ?_)
      obtain ⟨hP1, hD1⟩ := hB
      rw [ht] at hP1
      obtain ⟨hP, hD⟩ := va_join (wr := [(a, .inr (5, [.ref a_tape, .ref a_code, .int a__length, .int a__parts])), (a_tape_bytes, .inl (cs 0, 400, .inl a_tape_bytes_c))]) (w1 := [(a_tape, .inr (7, [.ref a_tape_bytes, .int a_tape__length, .int o11, .int (o23.1 0)]))]) hP hD [1] [0, 2] rfl rfl (by decide) (by decide) hk1 hFc hP1 hD1
      generalize H1 = H at hP hS ⊢
      have hP : va_P D classes [(a, .inr (5, [.ref a_tape, .ref a_code, .int a__length, .int a__parts])), (a_tape_bytes, .inl (cs 0, 400, .inl a_tape_bytes_c)), (a_tape, .inr (7, [.ref a_tape_bytes, .int a_tape__length, .int o11, .int (o23.1 0)]))] H := hP
      have hD : va_D A [(a, .inr (5, [.ref a_tape, .ref a_code, .int a__length, .int a__parts])), (a_tape_bytes, .inl (cs 0, 400, .inl a_tape_bytes_c)), (a_tape, .inr (7, [.ref a_tape_bytes, .int a_tape__length, .int o11, .int (o23.1 0)]))] := hD
      clear hk1 hFc hP1 hD1 hz1
      have h24 := hw
      refine lv_goto (tgt := 54) hx hb dX5_takeComparison_46 (by decide) ?_
      exact K54 r10 o8 a__parts o11 (o23.1 0) h12 (iv_w h24 (by decide) (by decide)) h9 (iv_w h21 (by decide) (by decide)) H locs (hP.sub (ws' := [(a_tape_bytes, .inl (cs 0, 400, .inl a_tape_bytes_c)), (a, .inr (5, [.ref a_tape, .ref a_code, .int a__length, .int a__parts])), (a_tape, .inr (7, [.ref a_tape_bytes, .int a_tape__length, .int o11, .int (o23.1 0)]))]) [1, 0, 2] rfl) (hD.sub (ws' := [(a_tape_bytes, .inl (cs 0, 400, .inl a_tape_bytes_c)), (a, .inr (5, [.ref a_tape, .ref a_code, .int a__length, .int a__parts])), (a_tape, .inr (7, [.ref a_tape_bytes, .int a_tape__length, .int o11, .int (o23.1 0)]))]) [1, 0, 2] (by decide) rfl) hS ls (lv_sub hl [0, 1, 2] rfl)
theorem dX5_takeOperation_0 : decode cX5_takeOperation 0 = .ok (.aload_n 0, 1) := by decide +kernel
theorem dX5_takeOperation_1 : decode cX5_takeOperation 1 = .ok (.getfield 15, 3) := by decide +kernel
theorem dX5_takeOperation_4 : decode cX5_takeOperation 4 = .ok (.invokevirtual 34, 3) := by decide +kernel
theorem dX5_takeOperation_7 : decode cX5_takeOperation 7 = .ok (.ifCond .ne 5, 3) := by decide +kernel
theorem dX5_takeOperation_10 : decode cX5_takeOperation 10 = .ok (.iconst (-1), 1) := by decide +kernel
theorem dX5_takeOperation_11 : decode cX5_takeOperation 11 = .ok (.ireturn, 1) := by decide +kernel
theorem dX5_takeOperation_12 : decode cX5_takeOperation 12 = .ok (.aload_n 0, 1) := by decide +kernel
theorem dX5_takeOperation_13 : decode cX5_takeOperation 13 = .ok (.getfield 15, 3) := by decide +kernel
theorem dX5_takeOperation_16 : decode cX5_takeOperation 16 = .ok (.invokevirtual 52, 3) := by decide +kernel
theorem dX5_takeOperation_19 : decode cX5_takeOperation 19 = .ok (.aload_n 0, 1) := by decide +kernel
theorem dX5_takeOperation_20 : decode cX5_takeOperation 20 = .ok (.getfield 15, 3) := by decide +kernel
theorem dX5_takeOperation_23 : decode cX5_takeOperation 23 = .ok (.bipush 43, 2) := by decide +kernel
theorem dX5_takeOperation_25 : decode cX5_takeOperation 25 = .ok (.invokevirtual 104, 3) := by decide +kernel
theorem dX5_takeOperation_28 : decode cX5_takeOperation 28 = .ok (.ifCond .eq 6, 3) := by decide +kernel
theorem dX5_takeOperation_31 : decode cX5_takeOperation 31 = .ok (.bipush (-20), 2) := by decide +kernel
theorem dX5_takeOperation_33 : decode cX5_takeOperation 33 = .ok (.ireturn, 1) := by decide +kernel
theorem dX5_takeOperation_34 : decode cX5_takeOperation 34 = .ok (.aload_n 0, 1) := by decide +kernel
theorem dX5_takeOperation_35 : decode cX5_takeOperation 35 = .ok (.getfield 15, 3) := by decide +kernel
theorem dX5_takeOperation_38 : decode cX5_takeOperation 38 = .ok (.bipush 45, 2) := by decide +kernel
theorem dX5_takeOperation_40 : decode cX5_takeOperation 40 = .ok (.invokevirtual 104, 3) := by decide +kernel
theorem dX5_takeOperation_43 : decode cX5_takeOperation 43 = .ok (.ifCond .eq 6, 3) := by decide +kernel
theorem dX5_takeOperation_46 : decode cX5_takeOperation 46 = .ok (.bipush (-21), 2) := by decide +kernel
theorem dX5_takeOperation_48 : decode cX5_takeOperation 48 = .ok (.ireturn, 1) := by decide +kernel
theorem dX5_takeOperation_49 : decode cX5_takeOperation 49 = .ok (.aload_n 0, 1) := by decide +kernel
theorem dX5_takeOperation_50 : decode cX5_takeOperation 50 = .ok (.getfield 15, 3) := by decide +kernel
theorem dX5_takeOperation_53 : decode cX5_takeOperation 53 = .ok (.bipush 42, 2) := by decide +kernel
theorem dX5_takeOperation_55 : decode cX5_takeOperation 55 = .ok (.invokevirtual 104, 3) := by decide +kernel
theorem dX5_takeOperation_58 : decode cX5_takeOperation 58 = .ok (.ifCond .eq 6, 3) := by decide +kernel
theorem dX5_takeOperation_61 : decode cX5_takeOperation 61 = .ok (.bipush (-22), 2) := by decide +kernel
theorem dX5_takeOperation_63 : decode cX5_takeOperation 63 = .ok (.ireturn, 1) := by decide +kernel
theorem dX5_takeOperation_64 : decode cX5_takeOperation 64 = .ok (.aload_n 0, 1) := by decide +kernel
theorem dX5_takeOperation_65 : decode cX5_takeOperation 65 = .ok (.getfield 15, 3) := by decide +kernel
theorem dX5_takeOperation_68 : decode cX5_takeOperation 68 = .ok (.bipush 47, 2) := by decide +kernel
theorem dX5_takeOperation_70 : decode cX5_takeOperation 70 = .ok (.invokevirtual 104, 3) := by decide +kernel
theorem dX5_takeOperation_73 : decode cX5_takeOperation 73 = .ok (.ifCond .eq 6, 3) := by decide +kernel
theorem dX5_takeOperation_76 : decode cX5_takeOperation 76 = .ok (.bipush (-23), 2) := by decide +kernel
theorem dX5_takeOperation_78 : decode cX5_takeOperation 78 = .ok (.ireturn, 1) := by decide +kernel
theorem dX5_takeOperation_79 : decode cX5_takeOperation 79 = .ok (.aload_n 0, 1) := by decide +kernel
theorem dX5_takeOperation_80 : decode cX5_takeOperation 80 = .ok (.getfield 15, 3) := by decide +kernel
theorem dX5_takeOperation_83 : decode cX5_takeOperation 83 = .ok (.bipush 37, 2) := by decide +kernel
theorem dX5_takeOperation_85 : decode cX5_takeOperation 85 = .ok (.invokevirtual 104, 3) := by decide +kernel
theorem dX5_takeOperation_88 : decode cX5_takeOperation 88 = .ok (.ifCond .eq 8, 3) := by decide +kernel
theorem dX5_takeOperation_91 : decode cX5_takeOperation 91 = .ok (.bipush (-24), 2) := by decide +kernel
theorem dX5_takeOperation_93 : decode cX5_takeOperation 93 = .ok (.goto 4, 3) := by decide +kernel
theorem dX5_takeOperation_96 : decode cX5_takeOperation 96 = .ok (.iconst (-1), 1) := by decide +kernel
theorem dX5_takeOperation_97 : decode cX5_takeOperation 97 = .ok (.ireturn, 1) := by decide +kernel
set_option maxHeartbeats 4000000 in
set_option maxRecDepth 100000 in
theorem c_X5_takeOperation (l : Launch) (D : va_G) (cs : Nat → ClassId) (kK kV : Nat → Nat) (a : Nat) (a_tape : Nat) (a_code : Nat) (a__length : Int32) (a__parts : Int32) (a_tape_bytes : Nat) (a_tape__length : Int32) (a_tape__place : Int32) (a_tape__fault : Int32) (a_tape_bytes_c : Nat → Int32) (h_a_tape__length : IV 0 400 a_tape__length) (h_a_tape__place : IV 0 400 a_tape__place) (h_a_tape__fault : IV 0 3205 a_tape__fault) (h_a_tape_bytes_c : CI 400 0 255 a_tape_bytes_c) (sz : Nat) : Met l yX5_takeOperation (hz_w yX5_takeOperation cX5_takeOperation 1 (some .int)) ({ frames := 2, cells := 0, slots := 0, locals := 41 }) (va_Pc [.ref a] (hz_C D cs kK kV sz [(a, .inr (5, [.ref a_tape, .ref a_code, .int a__length, .int a__parts])), (a_tape, .inr (7, [.ref a_tape_bytes, .int a_tape__length, .int a_tape__place, .int a_tape__fault])), (a_tape_bytes, .inl (cs 0, 400, .inl a_tape_bytes_c))])) (va_Qi (fun (r : Int32) (_ : Unit) => IV (-24) (-1) r) (fun _ t => ∃ (o_a_tape_2 : Int32), IV 0 400 o_a_tape_2 ∧ va_P D classes [(a, .inr (5, [.ref a_tape, .ref a_code, .int a__length, .int a__parts])), (a_tape, .inr (7, [.ref a_tape_bytes, .int a_tape__length, .int o_a_tape_2, .int a_tape__fault])), (a_tape_bytes, .inl (cs 0, 400, .inl a_tape_bytes_c))] t.heap ∧ va_D (va_A [(a, .inr (5, [.ref a_tape, .ref a_code, .int a__length, .int a__parts])), (a_tape, .inr (7, [.ref a_tape_bytes, .int a_tape__length, .int a_tape__place, .int a_tape__fault])), (a_tape_bytes, .inl (cs 0, 400, .inl a_tape_bytes_c))] sz) [(a, .inr (5, [.ref a_tape, .ref a_code, .int a__length, .int a__parts])), (a_tape, .inr (7, [.ref a_tape_bytes, .int a_tape__length, .int o_a_tape_2, .int a_tape__fault])), (a_tape_bytes, .inl (cs 0, 400, .inl a_tape_bytes_c))]) (va_A [(a, .inr (5, [.ref a_tape, .ref a_code, .int a__length, .int a__parts])), (a_tape, .inr (7, [.ref a_tape_bytes, .int a_tape__length, .int a_tape__place, .int a_tape__fault])), (a_tape_bytes, .inl (cs 0, 400, .inl a_tape_bytes_c))] sz)) 0 0 (va_A [(a, .inr (5, [.ref a_tape, .ref a_code, .int a__length, .int a__parts])), (a_tape, .inr (7, [.ref a_tape_bytes, .int a_tape__length, .int a_tape__place, .int a_tape__fault])), (a_tape_bytes, .inl (cs 0, 400, .inl a_tape_bytes_c))] sz) := by
  refine Met.ofW (cc := cX5_takeOperation) (maxL := 1) (ret := (some .int)) (by decide) rfl ?_
  intro p e s m args below meth c s₁ B hml hv
  obtain ⟨rfl, hsz, hP, hD0, hE⟩ := hv
  have hx := B.exec
  have hb := B.bytes
  have hr := B.returns
  have hT : ∀ w ∈ TB, w.before _ s = true := fun w h => atoms_spec (ws := hz_w yX5_takeOperation cX5_takeOperation 1 (some .int)) B.pre w (List.mem_cons_of_mem _ h)
  have hown : s.vm.findClass RX5 = some m.cls := findClass_of_methodNamed B.named
  have hlocks := B.notSynchronized
  clear B
  subst hsz
  have hD := hD0.self (sz := s.heap.size)
  generalize hAe : va_A [(a, .inr (5, [.ref a_tape, .ref a_code, .int a__length, .int a__parts])), (a_tape, .inr (7, [.ref a_tape_bytes, .int a_tape__length, .int a_tape__place, .int a_tape__fault])), (a_tape_bytes, .inl (cs 0, 400, .inl a_tape_bytes_c))] s.heap.size = A at hD hE ⊢
  have hA : ∀ q : Nat, s.heap.size ≤ q → A q := fun q h => by rw [← hAe]; exact Or.inr h
  clear hAe hD0
  have hS : va_S A s.heap s.heap [] := va_S.rf
  have hK := hE.1
  have hl := lv_entry ([.ref a]) (n := 1) (Nat.le_of_ble_eq_true rfl)
  rw [lg_entry_eq]
  generalize (lg_sl ([.ref a]) ++ List.replicate (1 - (lg_sl ([.ref a])).length) Slot.unset).toArray = ls at hl ⊢
  have hl : lv_has ls 1 [(0, .ref a)] := hl
  obtain ⟨H, eH⟩ : ∃ z, z = s.heap := ⟨_, rfl⟩
  have hP : va_P D classes [(a, .inr (5, [.ref a_tape, .ref a_code, .int a__length, .int a__parts])), (a_tape, .inr (7, [.ref a_tape_bytes, .int a_tape__length, .int a_tape__place, .int a_tape__fault])), (a_tape_bytes, .inl (cs 0, 400, .inl a_tape_bytes_c))] H := by rw [eH]; exact hP
  have hS : va_S A s.heap H [] := by rw [eH]; exact hS
  rw [← eH]
  clear eH
  obtain ⟨locs, el⟩ : ∃ z : List Loc, z = [] := ⟨_, rfl⟩
  rw [← el] at hS ⊢
  clear el
  refine lv_aload_n hx hb dX5_takeOperation_0 rfl (lv_at hl 0 rfl) ?_
  refine va_get (D := D) (ci := 5) (v := .ref a_tape) (C := RX5) (T := TX5) (N := 4) hx hb hT i_X5 hown hK hP 0 rfl rfl 0 (by decide) (hT _ q_104) (fun _ h9 => h9) rfl dX5_takeOperation_1 ?_
  refine va_calli (va_runV (As := []) (rest := []) ⟨hx, hb, hml, hown, hT⟩ (c_X7_isSound l D cs kK kV a_tape a_tape_bytes a_tape__length a_tape__place a_tape__fault h_a_tape__fault) (cwV 0 hT (hz_gV q_553 q_421 q_422 q_221 q_423) rfl rfl rfl (by decide +kernel) ⟨(Nat.le_of_ble_eq_true rfl), (Nat.le_of_ble_eq_true rfl)⟩) ⟨hz_P.blind, va_recv hK hP (ci := 7) (q0 := 1) rfl rfl, hz_P.mk (hP.sub (ws' := [(a_tape, .inr (7, [.ref a_tape_bytes, .int a_tape__length, .int a_tape__place, .int a_tape__fault]))]) [1] rfl) hE hS⟩ rfl rfl hl.1 rfl (lv_room (Nat.le_of_ble_eq_true rfl)) dX5_takeOperation_4 ⟨(Nat.le_of_ble_eq_true rfl), (Nat.le_of_ble_eq_true rfl)⟩) hS (fun _ _ h => h.elim) (fun _ h => h.elim) (fun r1 u t H1 locs ht hvm hw hB hz1 hk1 hS => ?_)
  have hP := hz_keep hP hk1
  clear hk1 hB hz1
  generalize H1 = H at hP hS ⊢
  rcases hw with ⟨rfl, h2⟩ | ⟨rfl, h3⟩
  · refine lv_if_ne (tgt := 12) hx hb dX5_takeOperation_7 (by decide) (fun z => absurd (by decide) z) (fun _ => ?_)
    refine lv_iconst (v := (-1)) hx hb dX5_takeOperation_10 (by decide) ?_
    refine W.widen (k := 0) (n := 0) (Nat.le_of_ble_eq_true rfl) (Nat.le_of_ble_eq_true rfl) ?_
    exact W.iret (v := (-1)) hx hb hr (fun t ht hW => ⟨⟨(-1), (), rfl, (iv_c (by decide)), a_tape__place, h_a_tape__place, by rw [ht]; exact hP.sub [0, 1, 2] rfl, hD.sub [0, 1, 2] (by decide) rfl⟩, hS.F ht⟩) hS.2.2 dX5_takeOperation_11
  · refine lv_if_ne (tgt := 12) hx hb dX5_takeOperation_7 (by decide) (fun _ => ?_) (fun z => absurd z (by decide))
    refine lv_aload_n hx hb dX5_takeOperation_12 rfl (lv_at hl 0 rfl) ?_
    refine va_get (D := D) (ci := 5) (v := .ref a_tape) (C := RX5) (T := TX5) (N := 4) hx hb hT i_X5 hown hK hP 0 rfl rfl 0 (by decide) (hT _ q_104) (fun _ h9 => h9) rfl dX5_takeOperation_13 ?_
    have hFc := va_free (wc := [(a_tape, .inr (7, [.ref a_tape_bytes, .int a_tape__length, .int a_tape__place, .int a_tape__fault])), (a_tape_bytes, .inl (cs 0, 400, .inl a_tape_bytes_c))]) hD hS hA [1,2] rfl
    refine va_callv (va_runV (As := []) (rest := []) ⟨hx, hb, hml, hown, hT⟩ (c_X7_skipBlanks l D cs kK kV a_tape a_tape_bytes a_tape__length a_tape__place a_tape__fault a_tape_bytes_c h_a_tape__length h_a_tape__place h_a_tape_bytes_c H.size) (cwV 0 hT (hz_gV q_562 q_437 q_438 q_221 q_439) rfl rfl rfl (by decide +kernel) ⟨(Nat.le_of_ble_eq_true rfl), (Nat.le_of_ble_eq_true rfl)⟩) ⟨hz_C.blind, va_recv hK hP (ci := 7) (q0 := 1) rfl rfl, hz_C.mk (hP.sub (ws' := [(a_tape, .inr (7, [.ref a_tape_bytes, .int a_tape__length, .int a_tape__place, .int a_tape__fault])), (a_tape_bytes, .inl (cs 0, 400, .inl a_tape_bytes_c))]) [1,2] rfl) (hD.sub (ws' := [(a_tape, .inr (7, [.ref a_tape_bytes, .int a_tape__length, .int a_tape__place, .int a_tape__fault])), (a_tape_bytes, .inl (cs 0, 400, .inl a_tape_bytes_c))]) [1,2] (by decide) rfl) hE hS hFc⟩ rfl rfl hl.1 rfl (lv_room (Nat.le_of_ble_eq_true rfl)) dX5_takeOperation_16 ⟨(Nat.le_of_ble_eq_true rfl), (Nat.le_of_ble_eq_true rfl)⟩) hS (fun q _ h => hFc q h) hFc (fun u t H1 locs ht hvm hw hB hz1 hk1 hS => ?_)
    obtain ⟨o5, h6, hP1, hD1⟩ := hB
    rw [ht] at hP1
    obtain ⟨hP, hD⟩ := va_join (wr := [(a, .inr (5, [.ref a_tape, .ref a_code, .int a__length, .int a__parts]))]) (w1 := [(a_tape, .inr (7, [.ref a_tape_bytes, .int a_tape__length, .int o5, .int a_tape__fault])), (a_tape_bytes, .inl (cs 0, 400, .inl a_tape_bytes_c))]) hP hD [1, 2] [0] rfl rfl (by decide) (by decide) hk1 hFc hP1 hD1
    generalize H1 = H at hP hS ⊢
    have hP : va_P D classes [(a, .inr (5, [.ref a_tape, .ref a_code, .int a__length, .int a__parts])), (a_tape, .inr (7, [.ref a_tape_bytes, .int a_tape__length, .int o5, .int a_tape__fault])), (a_tape_bytes, .inl (cs 0, 400, .inl a_tape_bytes_c))] H := hP
    have hD : va_D A [(a, .inr (5, [.ref a_tape, .ref a_code, .int a__length, .int a__parts])), (a_tape, .inr (7, [.ref a_tape_bytes, .int a_tape__length, .int o5, .int a_tape__fault])), (a_tape_bytes, .inl (cs 0, 400, .inl a_tape_bytes_c))] := hD
    clear hk1 hFc hP1 hD1 hz1
    refine lv_aload_n hx hb dX5_takeOperation_19 rfl (lv_at hl 0 rfl) ?_
    refine va_get (D := D) (ci := 5) (v := .ref a_tape) (C := RX5) (T := TX5) (N := 4) hx hb hT i_X5 hown hK hP 0 rfl rfl 0 (by decide) (hT _ q_104) (fun _ h9 => h9) rfl dX5_takeOperation_20 ?_
    refine lv_bipush (v := 43) hx hb dX5_takeOperation_23 (by decide) ?_
    have hFc := va_free (wc := [(a_tape, .inr (7, [.ref a_tape_bytes, .int a_tape__length, .int o5, .int a_tape__fault])), (a_tape_bytes, .inl (cs 0, 400, .inl a_tape_bytes_c))]) hD hS hA [1,2] rfl
    refine va_calli (va_runV (As := [.int 43]) (rest := []) ⟨hx, hb, hml, hown, hT⟩ (c_X7_take l D cs kK kV a_tape 43 a_tape_bytes a_tape__length o5 a_tape__fault a_tape_bytes_c ((iv_c (by decide))) h_a_tape__length h6 h_a_tape_bytes_c H.size) (cwV 1 hT (hz_gV q_585 q_586 q_587 q_221 q_588) rfl rfl rfl (by decide +kernel) ⟨(Nat.le_of_ble_eq_true rfl), (Nat.le_of_ble_eq_true rfl)⟩) ⟨hz_C.blind, va_recv hK hP (ci := 7) (q0 := 1) rfl rfl, hz_C.mk (hP.sub (ws' := [(a_tape, .inr (7, [.ref a_tape_bytes, .int a_tape__length, .int o5, .int a_tape__fault])), (a_tape_bytes, .inl (cs 0, 400, .inl a_tape_bytes_c))]) [1,2] rfl) (hD.sub (ws' := [(a_tape, .inr (7, [.ref a_tape_bytes, .int a_tape__length, .int o5, .int a_tape__fault])), (a_tape_bytes, .inl (cs 0, 400, .inl a_tape_bytes_c))]) [1,2] (by decide) rfl) hE hS hFc⟩ rfl rfl hl.1 rfl (lv_room (Nat.le_of_ble_eq_true rfl)) dX5_takeOperation_25 ⟨(Nat.le_of_ble_eq_true rfl), (Nat.le_of_ble_eq_true rfl)⟩) hS (fun q _ h => hFc q h) hFc (fun r7 u t H1 locs ht hvm hw hB hz1 hk1 hS => ?_)
    obtain ⟨o8, h9, hP1, hD1⟩ := hB
    rw [ht] at hP1
    obtain ⟨hP, hD⟩ := va_join (wr := [(a, .inr (5, [.ref a_tape, .ref a_code, .int a__length, .int a__parts]))]) (w1 := [(a_tape, .inr (7, [.ref a_tape_bytes, .int a_tape__length, .int o8, .int a_tape__fault])), (a_tape_bytes, .inl (cs 0, 400, .inl a_tape_bytes_c))]) hP hD [1, 2] [0] rfl rfl (by decide) (by decide) hk1 hFc hP1 hD1
    generalize H1 = H at hP hS ⊢
    have hP : va_P D classes [(a, .inr (5, [.ref a_tape, .ref a_code, .int a__length, .int a__parts])), (a_tape, .inr (7, [.ref a_tape_bytes, .int a_tape__length, .int o8, .int a_tape__fault])), (a_tape_bytes, .inl (cs 0, 400, .inl a_tape_bytes_c))] H := hP
    have hD : va_D A [(a, .inr (5, [.ref a_tape, .ref a_code, .int a__length, .int a__parts])), (a_tape, .inr (7, [.ref a_tape_bytes, .int a_tape__length, .int o8, .int a_tape__fault])), (a_tape_bytes, .inl (cs 0, 400, .inl a_tape_bytes_c))] := hD
    clear hk1 hFc hP1 hD1 hz1
    rcases hw with rfl | ⟨rfl, h10, h11, h12⟩
    · refine lv_if_eq (tgt := 34) hx hb dX5_takeOperation_28 (by decide) (fun _ => ?_) (fun z => absurd (by decide) z)
      refine lv_aload_n hx hb dX5_takeOperation_34 rfl (lv_at hl 0 rfl) ?_
      refine va_get (D := D) (ci := 5) (v := .ref a_tape) (C := RX5) (T := TX5) (N := 4) hx hb hT i_X5 hown hK hP 0 rfl rfl 0 (by decide) (hT _ q_104) (fun _ h9 => h9) rfl dX5_takeOperation_35 ?_
      refine lv_bipush (v := 45) hx hb dX5_takeOperation_38 (by decide) ?_
      have hFc := va_free (wc := [(a_tape, .inr (7, [.ref a_tape_bytes, .int a_tape__length, .int o8, .int a_tape__fault])), (a_tape_bytes, .inl (cs 0, 400, .inl a_tape_bytes_c))]) hD hS hA [1,2] rfl
      refine va_calli (va_runV (As := [.int 45]) (rest := []) ⟨hx, hb, hml, hown, hT⟩ (c_X7_take l D cs kK kV a_tape 45 a_tape_bytes a_tape__length o8 a_tape__fault a_tape_bytes_c ((iv_c (by decide))) h_a_tape__length h9 h_a_tape_bytes_c H.size) (cwV 1 hT (hz_gV q_585 q_586 q_587 q_221 q_588) rfl rfl rfl (by decide +kernel) ⟨(Nat.le_of_ble_eq_true rfl), (Nat.le_of_ble_eq_true rfl)⟩) ⟨hz_C.blind, va_recv hK hP (ci := 7) (q0 := 1) rfl rfl, hz_C.mk (hP.sub (ws' := [(a_tape, .inr (7, [.ref a_tape_bytes, .int a_tape__length, .int o8, .int a_tape__fault])), (a_tape_bytes, .inl (cs 0, 400, .inl a_tape_bytes_c))]) [1,2] rfl) (hD.sub (ws' := [(a_tape, .inr (7, [.ref a_tape_bytes, .int a_tape__length, .int o8, .int a_tape__fault])), (a_tape_bytes, .inl (cs 0, 400, .inl a_tape_bytes_c))]) [1,2] (by decide) rfl) hE hS hFc⟩ rfl rfl hl.1 rfl (lv_room (Nat.le_of_ble_eq_true rfl)) dX5_takeOperation_40 ⟨(Nat.le_of_ble_eq_true rfl), (Nat.le_of_ble_eq_true rfl)⟩) hS (fun q _ h => hFc q h) hFc (fun r13 u t H1 locs ht hvm hw hB hz1 hk1 hS => ?_)
      obtain ⟨o14, h15, hP1, hD1⟩ := hB
      rw [ht] at hP1
      obtain ⟨hP, hD⟩ := va_join (wr := [(a, .inr (5, [.ref a_tape, .ref a_code, .int a__length, .int a__parts]))]) (w1 := [(a_tape, .inr (7, [.ref a_tape_bytes, .int a_tape__length, .int o14, .int a_tape__fault])), (a_tape_bytes, .inl (cs 0, 400, .inl a_tape_bytes_c))]) hP hD [1, 2] [0] rfl rfl (by decide) (by decide) hk1 hFc hP1 hD1
      generalize H1 = H at hP hS ⊢
      have hP : va_P D classes [(a, .inr (5, [.ref a_tape, .ref a_code, .int a__length, .int a__parts])), (a_tape, .inr (7, [.ref a_tape_bytes, .int a_tape__length, .int o14, .int a_tape__fault])), (a_tape_bytes, .inl (cs 0, 400, .inl a_tape_bytes_c))] H := hP
      have hD : va_D A [(a, .inr (5, [.ref a_tape, .ref a_code, .int a__length, .int a__parts])), (a_tape, .inr (7, [.ref a_tape_bytes, .int a_tape__length, .int o14, .int a_tape__fault])), (a_tape_bytes, .inl (cs 0, 400, .inl a_tape_bytes_c))] := hD
      clear hk1 hFc hP1 hD1 hz1
      rcases hw with rfl | ⟨rfl, h16, h17, h18⟩
      · refine lv_if_eq (tgt := 49) hx hb dX5_takeOperation_43 (by decide) (fun _ => ?_) (fun z => absurd (by decide) z)
        refine lv_aload_n hx hb dX5_takeOperation_49 rfl (lv_at hl 0 rfl) ?_
        refine va_get (D := D) (ci := 5) (v := .ref a_tape) (C := RX5) (T := TX5) (N := 4) hx hb hT i_X5 hown hK hP 0 rfl rfl 0 (by decide) (hT _ q_104) (fun _ h9 => h9) rfl dX5_takeOperation_50 ?_
        refine lv_bipush (v := 42) hx hb dX5_takeOperation_53 (by decide) ?_
        have hFc := va_free (wc := [(a_tape, .inr (7, [.ref a_tape_bytes, .int a_tape__length, .int o14, .int a_tape__fault])), (a_tape_bytes, .inl (cs 0, 400, .inl a_tape_bytes_c))]) hD hS hA [1,2] rfl
        refine va_calli (va_runV (As := [.int 42]) (rest := []) ⟨hx, hb, hml, hown, hT⟩ (c_X7_take l D cs kK kV a_tape 42 a_tape_bytes a_tape__length o14 a_tape__fault a_tape_bytes_c ((iv_c (by decide))) h_a_tape__length h15 h_a_tape_bytes_c H.size) (cwV 1 hT (hz_gV q_585 q_586 q_587 q_221 q_588) rfl rfl rfl (by decide +kernel) ⟨(Nat.le_of_ble_eq_true rfl), (Nat.le_of_ble_eq_true rfl)⟩) ⟨hz_C.blind, va_recv hK hP (ci := 7) (q0 := 1) rfl rfl, hz_C.mk (hP.sub (ws' := [(a_tape, .inr (7, [.ref a_tape_bytes, .int a_tape__length, .int o14, .int a_tape__fault])), (a_tape_bytes, .inl (cs 0, 400, .inl a_tape_bytes_c))]) [1,2] rfl) (hD.sub (ws' := [(a_tape, .inr (7, [.ref a_tape_bytes, .int a_tape__length, .int o14, .int a_tape__fault])), (a_tape_bytes, .inl (cs 0, 400, .inl a_tape_bytes_c))]) [1,2] (by decide) rfl) hE hS hFc⟩ rfl rfl hl.1 rfl (lv_room (Nat.le_of_ble_eq_true rfl)) dX5_takeOperation_55 ⟨(Nat.le_of_ble_eq_true rfl), (Nat.le_of_ble_eq_true rfl)⟩) hS (fun q _ h => hFc q h) hFc (fun r19 u t H1 locs ht hvm hw hB hz1 hk1 hS => ?_)
        obtain ⟨o20, h21, hP1, hD1⟩ := hB
        rw [ht] at hP1
        obtain ⟨hP, hD⟩ := va_join (wr := [(a, .inr (5, [.ref a_tape, .ref a_code, .int a__length, .int a__parts]))]) (w1 := [(a_tape, .inr (7, [.ref a_tape_bytes, .int a_tape__length, .int o20, .int a_tape__fault])), (a_tape_bytes, .inl (cs 0, 400, .inl a_tape_bytes_c))]) hP hD [1, 2] [0] rfl rfl (by decide) (by decide) hk1 hFc hP1 hD1
        generalize H1 = H at hP hS ⊢
        have hP : va_P D classes [(a, .inr (5, [.ref a_tape, .ref a_code, .int a__length, .int a__parts])), (a_tape, .inr (7, [.ref a_tape_bytes, .int a_tape__length, .int o20, .int a_tape__fault])), (a_tape_bytes, .inl (cs 0, 400, .inl a_tape_bytes_c))] H := hP
        have hD : va_D A [(a, .inr (5, [.ref a_tape, .ref a_code, .int a__length, .int a__parts])), (a_tape, .inr (7, [.ref a_tape_bytes, .int a_tape__length, .int o20, .int a_tape__fault])), (a_tape_bytes, .inl (cs 0, 400, .inl a_tape_bytes_c))] := hD
        clear hk1 hFc hP1 hD1 hz1
        rcases hw with rfl | ⟨rfl, h22, h23, h24⟩
        · refine lv_if_eq (tgt := 64) hx hb dX5_takeOperation_58 (by decide) (fun _ => ?_) (fun z => absurd (by decide) z)
          refine lv_aload_n hx hb dX5_takeOperation_64 rfl (lv_at hl 0 rfl) ?_
          refine va_get (D := D) (ci := 5) (v := .ref a_tape) (C := RX5) (T := TX5) (N := 4) hx hb hT i_X5 hown hK hP 0 rfl rfl 0 (by decide) (hT _ q_104) (fun _ h9 => h9) rfl dX5_takeOperation_65 ?_
          refine lv_bipush (v := 47) hx hb dX5_takeOperation_68 (by decide) ?_
          have hFc := va_free (wc := [(a_tape, .inr (7, [.ref a_tape_bytes, .int a_tape__length, .int o20, .int a_tape__fault])), (a_tape_bytes, .inl (cs 0, 400, .inl a_tape_bytes_c))]) hD hS hA [1,2] rfl
          refine va_calli (va_runV (As := [.int 47]) (rest := []) ⟨hx, hb, hml, hown, hT⟩ (c_X7_take l D cs kK kV a_tape 47 a_tape_bytes a_tape__length o20 a_tape__fault a_tape_bytes_c ((iv_c (by decide))) h_a_tape__length h21 h_a_tape_bytes_c H.size) (cwV 1 hT (hz_gV q_585 q_586 q_587 q_221 q_588) rfl rfl rfl (by decide +kernel) ⟨(Nat.le_of_ble_eq_true rfl), (Nat.le_of_ble_eq_true rfl)⟩) ⟨hz_C.blind, va_recv hK hP (ci := 7) (q0 := 1) rfl rfl, hz_C.mk (hP.sub (ws' := [(a_tape, .inr (7, [.ref a_tape_bytes, .int a_tape__length, .int o20, .int a_tape__fault])), (a_tape_bytes, .inl (cs 0, 400, .inl a_tape_bytes_c))]) [1,2] rfl) (hD.sub (ws' := [(a_tape, .inr (7, [.ref a_tape_bytes, .int a_tape__length, .int o20, .int a_tape__fault])), (a_tape_bytes, .inl (cs 0, 400, .inl a_tape_bytes_c))]) [1,2] (by decide) rfl) hE hS hFc⟩ rfl rfl hl.1 rfl (lv_room (Nat.le_of_ble_eq_true rfl)) dX5_takeOperation_70 ⟨(Nat.le_of_ble_eq_true rfl), (Nat.le_of_ble_eq_true rfl)⟩) hS (fun q _ h => hFc q h) hFc (fun r25 u t H1 locs ht hvm hw hB hz1 hk1 hS => ?_)
          obtain ⟨o26, h27, hP1, hD1⟩ := hB
          rw [ht] at hP1
          obtain ⟨hP, hD⟩ := va_join (wr := [(a, .inr (5, [.ref a_tape, .ref a_code, .int a__length, .int a__parts]))]) (w1 := [(a_tape, .inr (7, [.ref a_tape_bytes, .int a_tape__length, .int o26, .int a_tape__fault])), (a_tape_bytes, .inl (cs 0, 400, .inl a_tape_bytes_c))]) hP hD [1, 2] [0] rfl rfl (by decide) (by decide) hk1 hFc hP1 hD1
          generalize H1 = H at hP hS ⊢
          have hP : va_P D classes [(a, .inr (5, [.ref a_tape, .ref a_code, .int a__length, .int a__parts])), (a_tape, .inr (7, [.ref a_tape_bytes, .int a_tape__length, .int o26, .int a_tape__fault])), (a_tape_bytes, .inl (cs 0, 400, .inl a_tape_bytes_c))] H := hP
          have hD : va_D A [(a, .inr (5, [.ref a_tape, .ref a_code, .int a__length, .int a__parts])), (a_tape, .inr (7, [.ref a_tape_bytes, .int a_tape__length, .int o26, .int a_tape__fault])), (a_tape_bytes, .inl (cs 0, 400, .inl a_tape_bytes_c))] := hD
          clear hk1 hFc hP1 hD1 hz1
          rcases hw with rfl | ⟨rfl, h28, h29, h30⟩
          · refine lv_if_eq (tgt := 79) hx hb dX5_takeOperation_73 (by decide) (fun _ => ?_) (fun z => absurd (by decide) z)
            refine lv_aload_n hx hb dX5_takeOperation_79 rfl (lv_at hl 0 rfl) ?_
            refine va_get (D := D) (ci := 5) (v := .ref a_tape) (C := RX5) (T := TX5) (N := 4) hx hb hT i_X5 hown hK hP 0 rfl rfl 0 (by decide) (hT _ q_104) (fun _ h9 => h9) rfl dX5_takeOperation_80 ?_
            refine lv_bipush (v := 37) hx hb dX5_takeOperation_83 (by decide) ?_
            have hFc := va_free (wc := [(a_tape, .inr (7, [.ref a_tape_bytes, .int a_tape__length, .int o26, .int a_tape__fault])), (a_tape_bytes, .inl (cs 0, 400, .inl a_tape_bytes_c))]) hD hS hA [1,2] rfl
            refine va_calli (va_runV (As := [.int 37]) (rest := []) ⟨hx, hb, hml, hown, hT⟩ (c_X7_take l D cs kK kV a_tape 37 a_tape_bytes a_tape__length o26 a_tape__fault a_tape_bytes_c ((iv_c (by decide))) h_a_tape__length h27 h_a_tape_bytes_c H.size) (cwV 1 hT (hz_gV q_585 q_586 q_587 q_221 q_588) rfl rfl rfl (by decide +kernel) ⟨(Nat.le_of_ble_eq_true rfl), (Nat.le_of_ble_eq_true rfl)⟩) ⟨hz_C.blind, va_recv hK hP (ci := 7) (q0 := 1) rfl rfl, hz_C.mk (hP.sub (ws' := [(a_tape, .inr (7, [.ref a_tape_bytes, .int a_tape__length, .int o26, .int a_tape__fault])), (a_tape_bytes, .inl (cs 0, 400, .inl a_tape_bytes_c))]) [1,2] rfl) (hD.sub (ws' := [(a_tape, .inr (7, [.ref a_tape_bytes, .int a_tape__length, .int o26, .int a_tape__fault])), (a_tape_bytes, .inl (cs 0, 400, .inl a_tape_bytes_c))]) [1,2] (by decide) rfl) hE hS hFc⟩ rfl rfl hl.1 rfl (lv_room (Nat.le_of_ble_eq_true rfl)) dX5_takeOperation_85 ⟨(Nat.le_of_ble_eq_true rfl), (Nat.le_of_ble_eq_true rfl)⟩) hS (fun q _ h => hFc q h) hFc (fun r31 u t H1 locs ht hvm hw hB hz1 hk1 hS => ?_)
            obtain ⟨o32, h33, hP1, hD1⟩ := hB
            rw [ht] at hP1
            obtain ⟨hP, hD⟩ := va_join (wr := [(a, .inr (5, [.ref a_tape, .ref a_code, .int a__length, .int a__parts]))]) (w1 := [(a_tape, .inr (7, [.ref a_tape_bytes, .int a_tape__length, .int o32, .int a_tape__fault])), (a_tape_bytes, .inl (cs 0, 400, .inl a_tape_bytes_c))]) hP hD [1, 2] [0] rfl rfl (by decide) (by decide) hk1 hFc hP1 hD1
            generalize H1 = H at hP hS ⊢
            have hP : va_P D classes [(a, .inr (5, [.ref a_tape, .ref a_code, .int a__length, .int a__parts])), (a_tape, .inr (7, [.ref a_tape_bytes, .int a_tape__length, .int o32, .int a_tape__fault])), (a_tape_bytes, .inl (cs 0, 400, .inl a_tape_bytes_c))] H := hP
            have hD : va_D A [(a, .inr (5, [.ref a_tape, .ref a_code, .int a__length, .int a__parts])), (a_tape, .inr (7, [.ref a_tape_bytes, .int a_tape__length, .int o32, .int a_tape__fault])), (a_tape_bytes, .inl (cs 0, 400, .inl a_tape_bytes_c))] := hD
            clear hk1 hFc hP1 hD1 hz1
            rcases hw with rfl | ⟨rfl, h34, h35, h36⟩
            · refine lv_if_eq (tgt := 96) hx hb dX5_takeOperation_88 (by decide) (fun _ => ?_) (fun z => absurd (by decide) z)
              refine lv_iconst (v := (-1)) hx hb dX5_takeOperation_96 (by decide) ?_
              refine W.widen (k := 0) (n := 0) (Nat.le_of_ble_eq_true rfl) (Nat.le_of_ble_eq_true rfl) ?_
              exact W.iret (v := (-1)) hx hb hr (fun t ht hW => ⟨⟨(-1), (), rfl, (iv_c (by decide)), o32, h33, by rw [ht]; exact hP.sub [0, 1, 2] rfl, hD.sub [0, 1, 2] (by decide) rfl⟩, hS.F ht⟩) hS.2.2 dX5_takeOperation_97
            · refine lv_if_eq (tgt := 96) hx hb dX5_takeOperation_88 (by decide) (fun z => absurd z (by decide)) (fun _ => ?_)
              refine lv_bipush (v := (-24)) hx hb dX5_takeOperation_91 (by decide) ?_
              refine lv_goto (tgt := 97) hx hb dX5_takeOperation_93 (by decide) ?_
              refine W.widen (k := 0) (n := 0) (Nat.le_of_ble_eq_true rfl) (Nat.le_of_ble_eq_true rfl) ?_
              exact W.iret (v := (-24)) hx hb hr (fun t ht hW => ⟨⟨(-24), (), rfl, (iv_c (by decide)), o32, h33, by rw [ht]; exact hP.sub [0, 1, 2] rfl, hD.sub [0, 1, 2] (by decide) rfl⟩, hS.F ht⟩) hS.2.2 dX5_takeOperation_97
          · refine lv_if_eq (tgt := 79) hx hb dX5_takeOperation_73 (by decide) (fun z => absurd z (by decide)) (fun _ => ?_)
            refine lv_bipush (v := (-23)) hx hb dX5_takeOperation_76 (by decide) ?_
            refine W.widen (k := 0) (n := 0) (Nat.le_of_ble_eq_true rfl) (Nat.le_of_ble_eq_true rfl) ?_
            exact W.iret (v := (-23)) hx hb hr (fun t ht hW => ⟨⟨(-23), (), rfl, (iv_c (by decide)), o26, h27, by rw [ht]; exact hP.sub [0, 1, 2] rfl, hD.sub [0, 1, 2] (by decide) rfl⟩, hS.F ht⟩) hS.2.2 dX5_takeOperation_78
        · refine lv_if_eq (tgt := 64) hx hb dX5_takeOperation_58 (by decide) (fun z => absurd z (by decide)) (fun _ => ?_)
          refine lv_bipush (v := (-22)) hx hb dX5_takeOperation_61 (by decide) ?_
          refine W.widen (k := 0) (n := 0) (Nat.le_of_ble_eq_true rfl) (Nat.le_of_ble_eq_true rfl) ?_
          exact W.iret (v := (-22)) hx hb hr (fun t ht hW => ⟨⟨(-22), (), rfl, (iv_c (by decide)), o20, h21, by rw [ht]; exact hP.sub [0, 1, 2] rfl, hD.sub [0, 1, 2] (by decide) rfl⟩, hS.F ht⟩) hS.2.2 dX5_takeOperation_63
      · refine lv_if_eq (tgt := 49) hx hb dX5_takeOperation_43 (by decide) (fun z => absurd z (by decide)) (fun _ => ?_)
        refine lv_bipush (v := (-21)) hx hb dX5_takeOperation_46 (by decide) ?_
        refine W.widen (k := 0) (n := 0) (Nat.le_of_ble_eq_true rfl) (Nat.le_of_ble_eq_true rfl) ?_
        exact W.iret (v := (-21)) hx hb hr (fun t ht hW => ⟨⟨(-21), (), rfl, (iv_c (by decide)), o14, h15, by rw [ht]; exact hP.sub [0, 1, 2] rfl, hD.sub [0, 1, 2] (by decide) rfl⟩, hS.F ht⟩) hS.2.2 dX5_takeOperation_48
    · refine lv_if_eq (tgt := 34) hx hb dX5_takeOperation_28 (by decide) (fun z => absurd z (by decide)) (fun _ => ?_)
      refine lv_bipush (v := (-20)) hx hb dX5_takeOperation_31 (by decide) ?_
      refine W.widen (k := 0) (n := 0) (Nat.le_of_ble_eq_true rfl) (Nat.le_of_ble_eq_true rfl) ?_
      exact W.iret (v := (-20)) hx hb hr (fun t ht hW => ⟨⟨(-20), (), rfl, (iv_c (by decide)), o8, h9, by rw [ht]; exact hP.sub [0, 1, 2] rfl, hD.sub [0, 1, 2] (by decide) rfl⟩, hS.F ht⟩) hS.2.2 dX5_takeOperation_33
theorem dX7_takeNumber_0 : decode cX7_takeNumber 0 = .ok (.aload_n 0, 1) := by decide +kernel
theorem dX7_takeNumber_1 : decode cX7_takeNumber 1 = .ok (.invokevirtual 29, 3) := by decide +kernel
theorem dX7_takeNumber_4 : decode cX7_takeNumber 4 = .ok (.aload_n 0, 1) := by decide +kernel
theorem dX7_takeNumber_5 : decode cX7_takeNumber 5 = .ok (.getfield 19, 3) := by decide +kernel
theorem dX7_takeNumber_8 : decode cX7_takeNumber 8 = .ok (.istore_n 3, 1) := by decide +kernel
theorem dX7_takeNumber_9 : decode cX7_takeNumber 9 = .ok (.iconst 0, 1) := by decide +kernel
theorem dX7_takeNumber_10 : decode cX7_takeNumber 10 = .ok (.istore 4, 2) := by decide +kernel
theorem dX7_takeNumber_12 : decode cX7_takeNumber 12 = .ok (.aload_n 0, 1) := by decide +kernel
theorem dX7_takeNumber_13 : decode cX7_takeNumber 13 = .ok (.getfield 19, 3) := by decide +kernel
theorem dX7_takeNumber_16 : decode cX7_takeNumber 16 = .ok (.aload_n 0, 1) := by decide +kernel
theorem dX7_takeNumber_17 : decode cX7_takeNumber 17 = .ok (.getfield 15, 3) := by decide +kernel
theorem dX7_takeNumber_20 : decode cX7_takeNumber 20 = .ok (.if_icmp .ge 74, 3) := by decide +kernel
theorem dX7_takeNumber_23 : decode cX7_takeNumber 23 = .ok (.aload_n 0, 1) := by decide +kernel
theorem dX7_takeNumber_24 : decode cX7_takeNumber 24 = .ok (.getfield 9, 3) := by decide +kernel
theorem dX7_takeNumber_27 : decode cX7_takeNumber 27 = .ok (.aload_n 0, 1) := by decide +kernel
theorem dX7_takeNumber_28 : decode cX7_takeNumber 28 = .ok (.getfield 19, 3) := by decide +kernel
theorem dX7_takeNumber_31 : decode cX7_takeNumber 31 = .ok (.iaload, 1) := by decide +kernel
theorem dX7_takeNumber_32 : decode cX7_takeNumber 32 = .ok (.bipush 48, 2) := by decide +kernel
theorem dX7_takeNumber_34 : decode cX7_takeNumber 34 = .ok (.if_icmp .lt 60, 3) := by decide +kernel
theorem dX7_takeNumber_37 : decode cX7_takeNumber 37 = .ok (.aload_n 0, 1) := by decide +kernel
theorem dX7_takeNumber_38 : decode cX7_takeNumber 38 = .ok (.getfield 9, 3) := by decide +kernel
theorem dX7_takeNumber_41 : decode cX7_takeNumber 41 = .ok (.aload_n 0, 1) := by decide +kernel
theorem dX7_takeNumber_42 : decode cX7_takeNumber 42 = .ok (.getfield 19, 3) := by decide +kernel
theorem dX7_takeNumber_45 : decode cX7_takeNumber 45 = .ok (.iaload, 1) := by decide +kernel
theorem dX7_takeNumber_46 : decode cX7_takeNumber 46 = .ok (.bipush 57, 2) := by decide +kernel
theorem dX7_takeNumber_48 : decode cX7_takeNumber 48 = .ok (.if_icmp .gt 46, 3) := by decide +kernel
theorem dX7_takeNumber_51 : decode cX7_takeNumber 51 = .ok (.aload_n 0, 1) := by decide +kernel
theorem dX7_takeNumber_52 : decode cX7_takeNumber 52 = .ok (.getfield 19, 3) := by decide +kernel
theorem dX7_takeNumber_55 : decode cX7_takeNumber 55 = .ok (.iload_n 3, 1) := by decide +kernel
theorem dX7_takeNumber_56 : decode cX7_takeNumber 56 = .ok (.isub, 1) := by decide +kernel
theorem dX7_takeNumber_57 : decode cX7_takeNumber 57 = .ok (.iconst 5, 1) := by decide +kernel
theorem dX7_takeNumber_58 : decode cX7_takeNumber 58 = .ok (.if_icmp .ge 23, 3) := by decide +kernel
theorem dX7_takeNumber_61 : decode cX7_takeNumber 61 = .ok (.iload 4, 2) := by decide +kernel
theorem dX7_takeNumber_63 : decode cX7_takeNumber 63 = .ok (.bipush 10, 2) := by decide +kernel
theorem dX7_takeNumber_65 : decode cX7_takeNumber 65 = .ok (.imul, 1) := by decide +kernel
theorem dX7_takeNumber_66 : decode cX7_takeNumber 66 = .ok (.aload_n 0, 1) := by decide +kernel
theorem dX7_takeNumber_67 : decode cX7_takeNumber 67 = .ok (.getfield 9, 3) := by decide +kernel
theorem dX7_takeNumber_70 : decode cX7_takeNumber 70 = .ok (.aload_n 0, 1) := by decide +kernel
theorem dX7_takeNumber_71 : decode cX7_takeNumber 71 = .ok (.getfield 19, 3) := by decide +kernel
theorem dX7_takeNumber_74 : decode cX7_takeNumber 74 = .ok (.iaload, 1) := by decide +kernel
theorem dX7_takeNumber_75 : decode cX7_takeNumber 75 = .ok (.iadd, 1) := by decide +kernel
theorem dX7_takeNumber_76 : decode cX7_takeNumber 76 = .ok (.bipush 48, 2) := by decide +kernel
theorem dX7_takeNumber_78 : decode cX7_takeNumber 78 = .ok (.isub, 1) := by decide +kernel
theorem dX7_takeNumber_79 : decode cX7_takeNumber 79 = .ok (.istore 4, 2) := by decide +kernel
theorem dX7_takeNumber_81 : decode cX7_takeNumber 81 = .ok (.aload_n 0, 1) := by decide +kernel
theorem dX7_takeNumber_82 : decode cX7_takeNumber 82 = .ok (.dup, 1) := by decide +kernel
theorem dX7_takeNumber_83 : decode cX7_takeNumber 83 = .ok (.getfield 19, 3) := by decide +kernel
theorem dX7_takeNumber_86 : decode cX7_takeNumber 86 = .ok (.iconst 1, 1) := by decide +kernel
theorem dX7_takeNumber_87 : decode cX7_takeNumber 87 = .ok (.iadd, 1) := by decide +kernel
theorem dX7_takeNumber_88 : decode cX7_takeNumber 88 = .ok (.putfield 19, 3) := by decide +kernel
theorem dX7_takeNumber_91 : decode cX7_takeNumber 91 = .ok (.goto (-79), 3) := by decide +kernel
theorem dX7_takeNumber_94 : decode cX7_takeNumber 94 = .ok (.aload_n 0, 1) := by decide +kernel
theorem dX7_takeNumber_95 : decode cX7_takeNumber 95 = .ok (.getfield 19, 3) := by decide +kernel
theorem dX7_takeNumber_98 : decode cX7_takeNumber 98 = .ok (.iload_n 3, 1) := by decide +kernel
theorem dX7_takeNumber_99 : decode cX7_takeNumber 99 = .ok (.if_icmp .ne 12, 3) := by decide +kernel
theorem dX7_takeNumber_102 : decode cX7_takeNumber 102 = .ok (.aload_n 0, 1) := by decide +kernel
theorem dX7_takeNumber_103 : decode cX7_takeNumber 103 = .ok (.iload_n 3, 1) := by decide +kernel
theorem dX7_takeNumber_104 : decode cX7_takeNumber 104 = .ok (.iconst 0, 1) := by decide +kernel
theorem dX7_takeNumber_105 : decode cX7_takeNumber 105 = .ok (.invokevirtual 36, 3) := by decide +kernel
theorem dX7_takeNumber_108 : decode cX7_takeNumber 108 = .ok (.goto 31, 3) := by decide +kernel
theorem dX7_takeNumber_111 : decode cX7_takeNumber 111 = .ok (.aload_n 0, 1) := by decide +kernel
theorem dX7_takeNumber_112 : decode cX7_takeNumber 112 = .ok (.getfield 19, 3) := by decide +kernel
theorem dX7_takeNumber_115 : decode cX7_takeNumber 115 = .ok (.iload_n 3, 1) := by decide +kernel
theorem dX7_takeNumber_116 : decode cX7_takeNumber 116 = .ok (.isub, 1) := by decide +kernel
theorem dX7_takeNumber_117 : decode cX7_takeNumber 117 = .ok (.iconst 5, 1) := by decide +kernel
theorem dX7_takeNumber_118 : decode cX7_takeNumber 118 = .ok (.if_icmp .gt 15, 3) := by decide +kernel
theorem dX7_takeNumber_121 : decode cX7_takeNumber 121 = .ok (.iload 4, 2) := by decide +kernel
theorem dX7_takeNumber_123 : decode cX7_takeNumber 123 = .ok (.iload_n 1, 1) := by decide +kernel
theorem dX7_takeNumber_124 : decode cX7_takeNumber 124 = .ok (.if_icmp .lt 9, 3) := by decide +kernel
theorem dX7_takeNumber_127 : decode cX7_takeNumber 127 = .ok (.iload 4, 2) := by decide +kernel
theorem dX7_takeNumber_129 : decode cX7_takeNumber 129 = .ok (.iload_n 2, 1) := by decide +kernel
theorem dX7_takeNumber_130 : decode cX7_takeNumber 130 = .ok (.if_icmp .le 9, 3) := by decide +kernel
theorem dX7_takeNumber_133 : decode cX7_takeNumber 133 = .ok (.aload_n 0, 1) := by decide +kernel
theorem dX7_takeNumber_134 : decode cX7_takeNumber 134 = .ok (.iload_n 3, 1) := by decide +kernel
theorem dX7_takeNumber_135 : decode cX7_takeNumber 135 = .ok (.iconst 1, 1) := by decide +kernel
theorem dX7_takeNumber_136 : decode cX7_takeNumber 136 = .ok (.invokevirtual 36, 3) := by decide +kernel
theorem dX7_takeNumber_139 : decode cX7_takeNumber 139 = .ok (.iload 4, 2) := by decide +kernel
theorem dX7_takeNumber_141 : decode cX7_takeNumber 141 = .ok (.ireturn, 1) := by decide +kernel
set_option maxHeartbeats 4000000 in
set_option maxRecDepth 100000 in
theorem c_X7_takeNumber_55 (l : Launch) (D : va_G) (cs : Nat → ClassId) (kK kV : Nat → Nat) (a : Nat) (a_bytes : Nat) (a__length : Int32) (a__place : Int32) (a__fault : Int32) (a_bytes_c : Nat → Int32) (h_a__length : IV 0 400 a__length) (h_a__place : IV 0 400 a__place) (h_a__fault : IV 0 3205 a__fault) (h_a_bytes_c : CI 400 0 255 a_bytes_c) (sz : Nat) : Met l yX7_takeNumber (hz_w yX7_takeNumber cX7_takeNumber 5 (some .int)) ({ frames := 1, cells := 0, slots := 0, locals := 22 }) (va_Pc [.ref a, .int 0, .int 2147483647] (hz_C D cs kK kV sz [(a, .inr (7, [.ref a_bytes, .int a__length, .int a__place, .int a__fault])), (a_bytes, .inl (cs 0, 400, .inl a_bytes_c))])) (va_Qi (fun (r : Int32) (u : (Nat → Int32) × (Nat → Nat → Int32)) => (IV 0 2147483647 r ∧ IV 0 3205 (u.1 0) ∧ IV 0 400 (u.1 1)) ∨ (IV 1 3205 (u.1 0) ∧ IV 0 400 (u.1 1))) (fun u t => va_P D classes [(a, .inr (7, [.ref a_bytes, .int a__length, .int (u.1 1), .int (u.1 0)])), (a_bytes, .inl (cs 0, 400, .inl a_bytes_c))] t.heap ∧ va_D (va_A [(a, .inr (7, [.ref a_bytes, .int a__length, .int a__place, .int a__fault])), (a_bytes, .inl (cs 0, 400, .inl a_bytes_c))] sz) [(a, .inr (7, [.ref a_bytes, .int a__length, .int (u.1 1), .int (u.1 0)])), (a_bytes, .inl (cs 0, 400, .inl a_bytes_c))]) (va_A [(a, .inr (7, [.ref a_bytes, .int a__length, .int a__place, .int a__fault])), (a_bytes, .inl (cs 0, 400, .inl a_bytes_c))] sz)) 0 0 (va_A [(a, .inr (7, [.ref a_bytes, .int a__length, .int a__place, .int a__fault])), (a_bytes, .inl (cs 0, 400, .inl a_bytes_c))] sz) := by
  refine Met.ofW (cc := cX7_takeNumber) (maxL := 5) (ret := (some .int)) (by decide) rfl ?_
  intro p e s m args below meth c s₁ B hml hv
  obtain ⟨rfl, hsz, hP, hD0, hE⟩ := hv
  have hx := B.exec
  have hb := B.bytes
  have hr := B.returns
  have hT : ∀ w ∈ TB, w.before _ s = true := fun w h => atoms_spec (ws := hz_w yX7_takeNumber cX7_takeNumber 5 (some .int)) B.pre w (List.mem_cons_of_mem _ h)
  have hown : s.vm.findClass RX7 = some m.cls := findClass_of_methodNamed B.named
  have hlocks := B.notSynchronized
  clear B
  subst hsz
  have hD := hD0.self (sz := s.heap.size)
  generalize hAe : va_A [(a, .inr (7, [.ref a_bytes, .int a__length, .int a__place, .int a__fault])), (a_bytes, .inl (cs 0, 400, .inl a_bytes_c))] s.heap.size = A at hD hE ⊢
  have hA : ∀ q : Nat, s.heap.size ≤ q → A q := fun q h => by rw [← hAe]; exact Or.inr h
  clear hAe hD0
  have hS : va_S A s.heap s.heap [] := va_S.rf
  have hK := hE.1
  have hl := lv_entry ([.ref a, .int 0, .int 2147483647]) (n := 5) (Nat.le_of_ble_eq_true rfl)
  rw [lg_entry_eq]
  generalize (lg_sl ([.ref a, .int 0, .int 2147483647]) ++ List.replicate (5 - (lg_sl ([.ref a, .int 0, .int 2147483647])).length) Slot.unset).toArray = ls at hl ⊢
  have hl : lv_has ls 5 [(0, .ref a), (1, .int 0), (2, .int 2147483647)] := hl
  obtain ⟨H, eH⟩ : ∃ z, z = s.heap := ⟨_, rfl⟩
  have hP : va_P D classes [(a, .inr (7, [.ref a_bytes, .int a__length, .int a__place, .int a__fault])), (a_bytes, .inl (cs 0, 400, .inl a_bytes_c))] H := by rw [eH]; exact hP
  have hS : va_S A s.heap H [] := by rw [eH]; exact hS
  rw [← eH]
  clear eH
  obtain ⟨locs, el⟩ : ∃ z : List Loc, z = [] := ⟨_, rfl⟩
  rw [← el] at hS ⊢
  clear el
  have K133 : ∀ (k133_L_4 : Int32) (k133_L_3 : Int32) (k133_F_a_2 : Int32), IV 0 400 k133_F_a_2 → IV 0 400 k133_L_3 → ∀ (H : Heap) (locs : List Loc), va_P D classes [(a, .inr (7, [.ref a_bytes, .int a__length, .int k133_F_a_2, .int a__fault])), (a_bytes, .inl (cs 0, 400, .inl a_bytes_c))] H → va_D A [(a, .inr (7, [.ref a_bytes, .int a__length, .int k133_F_a_2, .int a__fault])), (a_bytes, .inl (cs 0, 400, .inl a_bytes_c))] → va_S A s.heap H locs → ∀ ls : Array Slot, lv_has ls 5 [(4, .int k133_L_4), (3, .int k133_L_3), (0, .ref a), (1, .int 0), (2, .int 2147483647)] → W p l e (headSpec (hz_w yX7_takeNumber cX7_takeNumber 5 (some .int)) ({ frames := 1, cells := 0, slots := 0, locals := 22 })).room s m [.ref a, .int 0, .int 2147483647].toArray below meth c H locs 0 0 (MQ below (va_Qi (fun (r : Int32) (u : (Nat → Int32) × (Nat → Nat → Int32)) => (IV 0 2147483647 r ∧ IV 0 3205 (u.1 0) ∧ IV 0 400 (u.1 1)) ∨ (IV 1 3205 (u.1 0) ∧ IV 0 400 (u.1 1))) (fun u t => va_P D classes [(a, .inr (7, [.ref a_bytes, .int a__length, .int (u.1 1), .int (u.1 0)])), (a_bytes, .inl (cs 0, 400, .inl a_bytes_c))] t.heap ∧ va_D A [(a, .inr (7, [.ref a_bytes, .int a__length, .int (u.1 1), .int (u.1 0)])), (a_bytes, .inl (cs 0, 400, .inl a_bytes_c))]) A) [.ref a, .int 0, .int 2147483647].toArray s 0 0 A) (F0 m 133 ls []) := by
    intro k133_L_4 k133_L_3 k133_F_a_2 q133_2 q133_3 H locs hP hD hS ls hl
    refine lv_aload_n hx hb dX7_takeNumber_133 rfl (lv_at hl 2 rfl) ?_
    refine lv_iload_n hx hb dX7_takeNumber_134 rfl (lv_at hl 1 rfl) ?_
    refine lv_iconst (v := 1) hx hb dX7_takeNumber_135 (by decide) ?_
    have hFc := va_free (wc := [(a, .inr (7, [.ref a_bytes, .int a__length, .int k133_F_a_2, .int a__fault]))]) hD hS hA [0] rfl
    refine va_callv (va_runV (As := [.int k133_L_3, .int 1]) (rest := []) ⟨hx, hb, hml, hown, hT⟩ (c_X7_fail l D cs kK kV a k133_L_3 1 a_bytes a__length k133_F_a_2 a__fault q133_3 ((iv_c (by decide))) h_a__fault H.size) (cwV 2 hT (hz_gV q_633 q_445 q_446 q_221 q_447) rfl rfl rfl (by decide +kernel) ⟨(Nat.le_of_ble_eq_true rfl), (Nat.le_of_ble_eq_true rfl)⟩) ⟨hz_C.blind, va_recv hK hP (ci := 7) (q0 := 0) rfl rfl, hz_C.mk (hP.sub (ws' := [(a, .inr (7, [.ref a_bytes, .int a__length, .int k133_F_a_2, .int a__fault]))]) [0] rfl) (hD.sub (ws' := [(a, .inr (7, [.ref a_bytes, .int a__length, .int k133_F_a_2, .int a__fault]))]) [0] (by decide) rfl) hE hS hFc⟩ rfl rfl hl.1 rfl (lv_room (Nat.le_of_ble_eq_true rfl)) dX7_takeNumber_136 ⟨(Nat.le_of_ble_eq_true rfl), (Nat.le_of_ble_eq_true rfl)⟩) hS (fun q _ h => hFc q h) hFc (fun o2 t H1 locs ht hvm hw hB hz1 hk1 hS => ?_)
    obtain ⟨hP1, hD1⟩ := hB
    rw [ht] at hP1
    obtain ⟨hP, hD⟩ := va_join (wr := [(a_bytes, .inl (cs 0, 400, .inl a_bytes_c))]) (w1 := [(a, .inr (7, [.ref a_bytes, .int a__length, .int k133_F_a_2, .int (o2.1 0)]))]) hP hD [0] [1] rfl rfl (by decide) (by decide) hk1 hFc hP1 hD1
    generalize H1 = H at hP hS ⊢
    have hP : va_P D classes [(a_bytes, .inl (cs 0, 400, .inl a_bytes_c)), (a, .inr (7, [.ref a_bytes, .int a__length, .int k133_F_a_2, .int (o2.1 0)]))] H := hP
    have hD : va_D A [(a_bytes, .inl (cs 0, 400, .inl a_bytes_c)), (a, .inr (7, [.ref a_bytes, .int a__length, .int k133_F_a_2, .int (o2.1 0)]))] := hD
    clear hk1 hFc hP1 hD1 hz1
    have h3 := hw
    refine lv_iload hx hb dX7_takeNumber_139 (lv_at hl 0 rfl) ?_
    refine W.widen (k := 0) (n := 0) (Nat.le_of_ble_eq_true rfl) (Nat.le_of_ble_eq_true rfl) ?_
    exact W.iret (v := k133_L_4) hx hb hr (fun t ht hW => ⟨⟨k133_L_4, (fun k => match k with | 0 => o2.1 0 | 1 => k133_F_a_2 | _ => 0, fun _ _ => 0), rfl, (Or.inr ((⟨h3, q133_2⟩))), by rw [ht]; exact hP.sub [1, 0] rfl, hD.sub [1, 0] (by decide) rfl⟩, hS.F ht⟩) hS.2.2 dX7_takeNumber_141
  have K94 : ∀ (k94_L_4 : Int32) (k94_L_3 : Int32) (k94_F_a_2 : Int32), IV 0 400 k94_F_a_2 → IV 0 400 k94_L_3 → ∀ (H : Heap) (locs : List Loc), va_P D classes [(a, .inr (7, [.ref a_bytes, .int a__length, .int k94_F_a_2, .int a__fault])), (a_bytes, .inl (cs 0, 400, .inl a_bytes_c))] H → va_D A [(a, .inr (7, [.ref a_bytes, .int a__length, .int k94_F_a_2, .int a__fault])), (a_bytes, .inl (cs 0, 400, .inl a_bytes_c))] → va_S A s.heap H locs → ∀ ls : Array Slot, lv_has ls 5 [(4, .int k94_L_4), (3, .int k94_L_3), (0, .ref a), (1, .int 0), (2, .int 2147483647)] → W p l e (headSpec (hz_w yX7_takeNumber cX7_takeNumber 5 (some .int)) ({ frames := 1, cells := 0, slots := 0, locals := 22 })).room s m [.ref a, .int 0, .int 2147483647].toArray below meth c H locs 0 0 (MQ below (va_Qi (fun (r : Int32) (u : (Nat → Int32) × (Nat → Nat → Int32)) => (IV 0 2147483647 r ∧ IV 0 3205 (u.1 0) ∧ IV 0 400 (u.1 1)) ∨ (IV 1 3205 (u.1 0) ∧ IV 0 400 (u.1 1))) (fun u t => va_P D classes [(a, .inr (7, [.ref a_bytes, .int a__length, .int (u.1 1), .int (u.1 0)])), (a_bytes, .inl (cs 0, 400, .inl a_bytes_c))] t.heap ∧ va_D A [(a, .inr (7, [.ref a_bytes, .int a__length, .int (u.1 1), .int (u.1 0)])), (a_bytes, .inl (cs 0, 400, .inl a_bytes_c))]) A) [.ref a, .int 0, .int 2147483647].toArray s 0 0 A) (F0 m 94 ls []) := by
    intro k94_L_4 k94_L_3 k94_F_a_2 q94_2 q94_3 H locs hP hD hS ls hl
    refine lv_aload_n hx hb dX7_takeNumber_94 rfl (lv_at hl 2 rfl) ?_
    refine va_get (D := D) (ci := 7) (v := .int k94_F_a_2) (C := RX7) (T := TX7) (N := 4) hx hb hT i_X7 hown hK hP 0 rfl rfl 2 (by decide) (hT _ q_129) (fun _ h9 => h9) rfl dX7_takeNumber_95 ?_
    refine lv_iload_n hx hb dX7_takeNumber_98 rfl (lv_at hl 1 rfl) ?_
    refine lv_icmp_ne (tgt := 111) hx hb dX7_takeNumber_99 (by decide) (fun c4 => ?_) (fun c4 => ?_)
    · refine lv_aload_n hx hb dX7_takeNumber_111 rfl (lv_at hl 2 rfl) ?_
      refine va_get (D := D) (ci := 7) (v := .int k94_F_a_2) (C := RX7) (T := TX7) (N := 4) hx hb hT i_X7 hown hK hP 0 rfl rfl 2 (by decide) (hT _ q_129) (fun _ h9 => h9) rfl dX7_takeNumber_112 ?_
      refine lv_iload_n hx hb dX7_takeNumber_115 rfl (lv_at hl 1 rfl) ?_
      refine lv_isub hx hb dX7_takeNumber_116 ?_
      refine lv_topi (fun v5 ev5 => ?_)
      have hv5 : IV (-400) 400 v5 := iv_sub ev5 q94_2 q94_3 (by decide) (by decide)
      refine lv_iconst (v := 5) hx hb dX7_takeNumber_117 (by decide) ?_
      refine lv_icmp_gt (tgt := 133) hx hb dX7_takeNumber_118 (by decide) (fun c6 => ?_) (fun c6 => ?_)
      · have h7 : IV 6 400 v5 := iv_lt2 c6 (iv_c (a := 5) (b := 5) (by decide)) hv5 (by decide)
        exact K133 k94_L_4 k94_L_3 k94_F_a_2 q94_2 q94_3 H locs (hP.sub (ws' := [(a, .inr (7, [.ref a_bytes, .int a__length, .int k94_F_a_2, .int a__fault])), (a_bytes, .inl (cs 0, 400, .inl a_bytes_c))]) [0, 1] rfl) (hD.sub (ws' := [(a, .inr (7, [.ref a_bytes, .int a__length, .int k94_F_a_2, .int a__fault])), (a_bytes, .inl (cs 0, 400, .inl a_bytes_c))]) [0, 1] (by decide) rfl) hS ls (lv_sub hl [0, 1, 2, 3, 4] rfl)
      · have h8 : IV (-400) 5 v5 := iv_le1 (Int32.not_lt.mp c6) hv5 (iv_c (a := 5) (b := 5) (by decide)) (by decide)
        refine lv_iload hx hb dX7_takeNumber_121 (lv_at hl 0 rfl) ?_
        refine lv_iload_n hx hb dX7_takeNumber_123 rfl (lv_at hl 3 rfl) ?_
        refine lv_icmp_lt (tgt := 133) hx hb dX7_takeNumber_124 (by decide) (fun c9 => ?_) (fun c9 => ?_)
        · have h10 : IV (-2147483648) (-1) k94_L_4 := iv_lt1 c9 iv_top (iv_c (a := 0) (b := 0) (by decide)) (by decide)
          exact K133 k94_L_4 k94_L_3 k94_F_a_2 q94_2 q94_3 H locs (hP.sub (ws' := [(a, .inr (7, [.ref a_bytes, .int a__length, .int k94_F_a_2, .int a__fault])), (a_bytes, .inl (cs 0, 400, .inl a_bytes_c))]) [0, 1] rfl) (hD.sub (ws' := [(a, .inr (7, [.ref a_bytes, .int a__length, .int k94_F_a_2, .int a__fault])), (a_bytes, .inl (cs 0, 400, .inl a_bytes_c))]) [0, 1] (by decide) rfl) hS ls (lv_sub hl [0, 1, 2, 3, 4] rfl)
        · have h11 : IV 0 2147483647 k94_L_4 := iv_le2 (Int32.not_lt.mp c9) (iv_c (a := 0) (b := 0) (by decide)) iv_top (by decide)
          refine lv_iload hx hb dX7_takeNumber_127 (lv_at hl 0 rfl) ?_
          refine lv_iload_n hx hb dX7_takeNumber_129 rfl (lv_at hl 4 rfl) ?_
          refine lv_icmp_le (tgt := 139) hx hb dX7_takeNumber_130 (by decide) (fun _ => ?_) (fun z => absurd (iv_leT h11 (iv_c (a := 2147483647) (b := 2147483647) (by decide)) (by decide)) z)
          refine lv_iload hx hb dX7_takeNumber_139 (lv_at hl 0 rfl) ?_
          refine W.widen (k := 0) (n := 0) (Nat.le_of_ble_eq_true rfl) (Nat.le_of_ble_eq_true rfl) ?_
          exact W.iret (v := k94_L_4) hx hb hr (fun t ht hW => ⟨⟨k94_L_4, (fun k => match k with | 0 => a__fault | 1 => k94_F_a_2 | _ => 0, fun _ _ => 0), rfl, (Or.inl (⟨h11, h_a__fault, q94_2⟩)), by rw [ht]; exact hP.sub [0, 1] rfl, hD.sub [0, 1] (by decide) rfl⟩, hS.F ht⟩) hS.2.2 dX7_takeNumber_141
    · refine lv_aload_n hx hb dX7_takeNumber_102 rfl (lv_at hl 2 rfl) ?_
      refine lv_iload_n hx hb dX7_takeNumber_103 rfl (lv_at hl 1 rfl) ?_
      refine lv_iconst (v := 0) hx hb dX7_takeNumber_104 (by decide) ?_
      have hFc := va_free (wc := [(a, .inr (7, [.ref a_bytes, .int a__length, .int k94_F_a_2, .int a__fault]))]) hD hS hA [0] rfl
      refine va_callv (va_runV (As := [.int k94_L_3, .int 0]) (rest := []) ⟨hx, hb, hml, hown, hT⟩ (c_X7_fail l D cs kK kV a k94_L_3 0 a_bytes a__length k94_F_a_2 a__fault q94_3 ((iv_c (by decide))) h_a__fault H.size) (cwV 2 hT (hz_gV q_633 q_445 q_446 q_221 q_447) rfl rfl rfl (by decide +kernel) ⟨(Nat.le_of_ble_eq_true rfl), (Nat.le_of_ble_eq_true rfl)⟩) ⟨hz_C.blind, va_recv hK hP (ci := 7) (q0 := 0) rfl rfl, hz_C.mk (hP.sub (ws' := [(a, .inr (7, [.ref a_bytes, .int a__length, .int k94_F_a_2, .int a__fault]))]) [0] rfl) (hD.sub (ws' := [(a, .inr (7, [.ref a_bytes, .int a__length, .int k94_F_a_2, .int a__fault]))]) [0] (by decide) rfl) hE hS hFc⟩ rfl rfl hl.1 rfl (lv_room (Nat.le_of_ble_eq_true rfl)) dX7_takeNumber_105 ⟨(Nat.le_of_ble_eq_true rfl), (Nat.le_of_ble_eq_true rfl)⟩) hS (fun q _ h => hFc q h) hFc (fun o13 t H1 locs ht hvm hw hB hz1 hk1 hS => ?_)
      obtain ⟨hP1, hD1⟩ := hB
      rw [ht] at hP1
      obtain ⟨hP, hD⟩ := va_join (wr := [(a_bytes, .inl (cs 0, 400, .inl a_bytes_c))]) (w1 := [(a, .inr (7, [.ref a_bytes, .int a__length, .int k94_F_a_2, .int (o13.1 0)]))]) hP hD [0] [1] rfl rfl (by decide) (by decide) hk1 hFc hP1 hD1
      generalize H1 = H at hP hS ⊢
      have hP : va_P D classes [(a_bytes, .inl (cs 0, 400, .inl a_bytes_c)), (a, .inr (7, [.ref a_bytes, .int a__length, .int k94_F_a_2, .int (o13.1 0)]))] H := hP
      have hD : va_D A [(a_bytes, .inl (cs 0, 400, .inl a_bytes_c)), (a, .inr (7, [.ref a_bytes, .int a__length, .int k94_F_a_2, .int (o13.1 0)]))] := hD
      clear hk1 hFc hP1 hD1 hz1
      have h14 := hw
      refine lv_goto (tgt := 139) hx hb dX7_takeNumber_108 (by decide) ?_
      refine lv_iload hx hb dX7_takeNumber_139 (lv_at hl 0 rfl) ?_
      refine W.widen (k := 0) (n := 0) (Nat.le_of_ble_eq_true rfl) (Nat.le_of_ble_eq_true rfl) ?_
      exact W.iret (v := k94_L_4) hx hb hr (fun t ht hW => ⟨⟨k94_L_4, (fun k => match k with | 0 => o13.1 0 | 1 => k94_F_a_2 | _ => 0, fun _ _ => 0), rfl, (Or.inr ((⟨h14, q94_2⟩))), by rw [ht]; exact hP.sub [1, 0] rfl, hD.sub [1, 0] (by decide) rfl⟩, hS.F ht⟩) hS.2.2 dX7_takeNumber_141
  have K12 : ∀ (n : Nat) (k12_L_4 : Int32) (k12_L_3 : Int32) (k12_F_a_2 : Int32), (400 - k12_F_a_2.toInt + 1).toNat ≤ n → IV 0 400 k12_F_a_2 → IV 0 400 k12_L_3 → ∀ (H : Heap) (locs : List Loc), va_P D classes [(a, .inr (7, [.ref a_bytes, .int a__length, .int k12_F_a_2, .int a__fault])), (a_bytes, .inl (cs 0, 400, .inl a_bytes_c))] H → va_D A [(a, .inr (7, [.ref a_bytes, .int a__length, .int k12_F_a_2, .int a__fault])), (a_bytes, .inl (cs 0, 400, .inl a_bytes_c))] → va_S A s.heap H locs → ∀ ls : Array Slot, lv_has ls 5 [(4, .int k12_L_4), (3, .int k12_L_3), (0, .ref a), (1, .int 0), (2, .int 2147483647)] → W p l e (headSpec (hz_w yX7_takeNumber cX7_takeNumber 5 (some .int)) ({ frames := 1, cells := 0, slots := 0, locals := 22 })).room s m [.ref a, .int 0, .int 2147483647].toArray below meth c H locs 0 0 (MQ below (va_Qi (fun (r : Int32) (u : (Nat → Int32) × (Nat → Nat → Int32)) => (IV 0 2147483647 r ∧ IV 0 3205 (u.1 0) ∧ IV 0 400 (u.1 1)) ∨ (IV 1 3205 (u.1 0) ∧ IV 0 400 (u.1 1))) (fun u t => va_P D classes [(a, .inr (7, [.ref a_bytes, .int a__length, .int (u.1 1), .int (u.1 0)])), (a_bytes, .inl (cs 0, 400, .inl a_bytes_c))] t.heap ∧ va_D A [(a, .inr (7, [.ref a_bytes, .int a__length, .int (u.1 1), .int (u.1 0)])), (a_bytes, .inl (cs 0, 400, .inl a_bytes_c))]) A) [.ref a, .int 0, .int 2147483647].toArray s 0 0 A) (F0 m 12 ls []) := by
    intro n
    induction n with
    | zero =>
      intro k12_L_4 k12_L_3 k12_F_a_2 hn q12_2 q12_3 H locs hP hD hS ls hl
      exact absurd hn (by unfold IV at q12_2; omega)
    | succ n ih12 =>
      intro k12_L_4 k12_L_3 k12_F_a_2 hn q12_2 q12_3 H locs hP hD hS ls hl
      have K81 : ∀ (k81_L_4 : Int32), IV 1 400 a__length → IV 0 399 k12_F_a_2 → IV 0 400 k12_L_3 → ∀ (H : Heap) (locs : List Loc), va_P D classes [(a, .inr (7, [.ref a_bytes, .int a__length, .int k12_F_a_2, .int a__fault])), (a_bytes, .inl (cs 0, 400, .inl a_bytes_c))] H → va_D A [(a, .inr (7, [.ref a_bytes, .int a__length, .int k12_F_a_2, .int a__fault])), (a_bytes, .inl (cs 0, 400, .inl a_bytes_c))] → va_S A s.heap H locs → ∀ ls : Array Slot, lv_has ls 5 [(4, .int k81_L_4), (3, .int k12_L_3), (0, .ref a), (1, .int 0), (2, .int 2147483647)] → W p l e (headSpec (hz_w yX7_takeNumber cX7_takeNumber 5 (some .int)) ({ frames := 1, cells := 0, slots := 0, locals := 22 })).room s m [.ref a, .int 0, .int 2147483647].toArray below meth c H locs 0 0 (MQ below (va_Qi (fun (r : Int32) (u : (Nat → Int32) × (Nat → Nat → Int32)) => (IV 0 2147483647 r ∧ IV 0 3205 (u.1 0) ∧ IV 0 400 (u.1 1)) ∨ (IV 1 3205 (u.1 0) ∧ IV 0 400 (u.1 1))) (fun u t => va_P D classes [(a, .inr (7, [.ref a_bytes, .int a__length, .int (u.1 1), .int (u.1 0)])), (a_bytes, .inl (cs 0, 400, .inl a_bytes_c))] t.heap ∧ va_D A [(a, .inr (7, [.ref a_bytes, .int a__length, .int (u.1 1), .int (u.1 0)])), (a_bytes, .inl (cs 0, 400, .inl a_bytes_c))]) A) [.ref a, .int 0, .int 2147483647].toArray s 0 0 A) (F0 m 81 ls []) := by
        intro k81_L_4 q81_1 q81_2 q81_3 H locs hP hD hS ls hl
        refine lv_aload_n hx hb dX7_takeNumber_81 rfl (lv_at hl 2 rfl) ?_
        refine lv_dup hx hb dX7_takeNumber_82 rfl ?_
        refine va_get (D := D) (ci := 7) (v := .int k12_F_a_2) (C := RX7) (T := TX7) (N := 4) hx hb hT i_X7 hown hK hP 0 rfl rfl 2 (by decide) (hT _ q_129) (fun _ h9 => h9) rfl dX7_takeNumber_83 ?_
        refine lv_iconst (v := 1) hx hb dX7_takeNumber_86 (by decide) ?_
        refine lv_iadd hx hb dX7_takeNumber_87 ?_
        refine lv_topi (fun v15 ev15 => ?_)
        have hv15 : IV 1 400 v15 := iv_add ev15 q81_2 (iv_c (a := 1) (b := 1) (by decide)) (by decide) (by decide)
        have dv15 : v15.toInt = k12_F_a_2.toInt + 1 := iv_addE ev15 q81_2 (iv_c (a := 1) (b := 1) (by decide)) (by decide) (by decide) (by decide)
        refine va_put (D := D) (ci := 7) (v := .int v15) (ty := .int) (C := RX7) (T := TX7) (N := 4) hx hb hT i_X7 tyX7 tyX7_ok nmX7 hown hK hP hD hS 0 rfl rfl 2 (by decide) (hT _ q_129) (fun _ h9 => h9) rfl (by decide +kernel) rfl rfl (Nat.le_of_ble_eq_true rfl) dX7_takeNumber_88 (fun H locs hP hD hS => ?_)
        have hP : va_P D classes [(a, .inr (7, [.ref a_bytes, .int a__length, .int v15, .int a__fault])), (a_bytes, .inl (cs 0, 400, .inl a_bytes_c))] H := hP
        have hD : va_D A [(a, .inr (7, [.ref a_bytes, .int a__length, .int v15, .int a__fault])), (a_bytes, .inl (cs 0, 400, .inl a_bytes_c))] := hD
        refine lv_goto (tgt := 12) hx hb dX7_takeNumber_91 (by decide) ?_
        exact ih12 k81_L_4 k12_L_3 v15 (by have h9 := q81_2; unfold IV at h9; have := dv15; omega) (iv_w hv15 (by decide) (by decide)) q81_3 H locs (hP.sub (ws' := [(a, .inr (7, [.ref a_bytes, .int a__length, .int v15, .int a__fault])), (a_bytes, .inl (cs 0, 400, .inl a_bytes_c))]) [0, 1] rfl) (hD.sub (ws' := [(a, .inr (7, [.ref a_bytes, .int a__length, .int v15, .int a__fault])), (a_bytes, .inl (cs 0, 400, .inl a_bytes_c))]) [0, 1] (by decide) rfl) hS ls (lv_sub hl [0, 1, 2, 3, 4] rfl)
      refine lv_aload_n hx hb dX7_takeNumber_12 rfl (lv_at hl 2 rfl) ?_
      refine va_get (D := D) (ci := 7) (v := .int k12_F_a_2) (C := RX7) (T := TX7) (N := 4) hx hb hT i_X7 hown hK hP 0 rfl rfl 2 (by decide) (hT _ q_129) (fun _ h9 => h9) rfl dX7_takeNumber_13 ?_
      refine lv_aload_n hx hb dX7_takeNumber_16 rfl (lv_at hl 2 rfl) ?_
      refine va_get (D := D) (ci := 7) (v := .int a__length) (C := RX7) (T := TX7) (N := 4) hx hb hT i_X7 hown hK hP 0 rfl rfl 1 (by decide) (hT _ q_128) (fun _ h9 => h9) rfl dX7_takeNumber_17 ?_
      refine lv_icmp_ge (tgt := 94) hx hb dX7_takeNumber_20 (by decide) (fun c16 => ?_) (fun c16 => ?_)
      · exact K94 k12_L_4 k12_L_3 k12_F_a_2 q12_2 q12_3 H locs (hP.sub (ws' := [(a, .inr (7, [.ref a_bytes, .int a__length, .int k12_F_a_2, .int a__fault])), (a_bytes, .inl (cs 0, 400, .inl a_bytes_c))]) [0, 1] rfl) (hD.sub (ws' := [(a, .inr (7, [.ref a_bytes, .int a__length, .int k12_F_a_2, .int a__fault])), (a_bytes, .inl (cs 0, 400, .inl a_bytes_c))]) [0, 1] (by decide) rfl) hS ls (lv_sub hl [0, 1, 2, 3, 4] rfl)
      · have h17 : IV 0 399 k12_F_a_2 := iv_lt1 (Int32.not_le.mp c16) q12_2 h_a__length (by decide)
        have h18 : IV 1 400 a__length := iv_lt2 (Int32.not_le.mp c16) q12_2 h_a__length (by decide)
        refine lv_aload_n hx hb dX7_takeNumber_23 rfl (lv_at hl 2 rfl) ?_
        refine va_get (D := D) (ci := 7) (v := .ref a_bytes) (C := RX7) (T := TX7) (N := 4) hx hb hT i_X7 hown hK hP 0 rfl rfl 0 (by decide) (hT _ q_127) (fun _ h9 => h9) rfl dX7_takeNumber_24 ?_
        refine lv_aload_n hx hb dX7_takeNumber_27 rfl (lv_at hl 2 rfl) ?_
        refine va_get (D := D) (ci := 7) (v := .int k12_F_a_2) (C := RX7) (T := TX7) (N := 4) hx hb hT i_X7 hown hK hP 0 rfl rfl 2 (by decide) (hT _ q_129) (fun _ h9 => h9) rfl dX7_takeNumber_28 ?_
        refine va_iald hx hb hK hP 1 0 rfl rfl (iv_v h17 (by decide) (by decide)) dX7_takeNumber_31 ?_
        refine lv_topi (fun v19 ev19 => ?_)
        have hv19 : IV 0 255 v19 := iv_ci ev19 h_a_bytes_c (iv_v h17 (by decide) (by decide))
        refine lv_bipush (v := 48) hx hb dX7_takeNumber_32 (by decide) ?_
        refine lv_icmp_lt (tgt := 94) hx hb dX7_takeNumber_34 (by decide) (fun c20 => ?_) (fun c20 => ?_)
        · have h21 : IV 0 47 v19 := iv_lt1 c20 hv19 (iv_c (a := 48) (b := 48) (by decide)) (by decide)
          exact K94 k12_L_4 k12_L_3 k12_F_a_2 (iv_w h17 (by decide) (by decide)) q12_3 H locs (hP.sub (ws' := [(a, .inr (7, [.ref a_bytes, .int a__length, .int k12_F_a_2, .int a__fault])), (a_bytes, .inl (cs 0, 400, .inl a_bytes_c))]) [0, 1] rfl) (hD.sub (ws' := [(a, .inr (7, [.ref a_bytes, .int a__length, .int k12_F_a_2, .int a__fault])), (a_bytes, .inl (cs 0, 400, .inl a_bytes_c))]) [0, 1] (by decide) rfl) hS ls (lv_sub hl [0, 1, 2, 3, 4] rfl)
        · have h22 : IV 48 255 v19 := iv_le2 (Int32.not_lt.mp c20) (iv_c (a := 48) (b := 48) (by decide)) hv19 (by decide)
          refine lv_aload_n hx hb dX7_takeNumber_37 rfl (lv_at hl 2 rfl) ?_
          refine va_get (D := D) (ci := 7) (v := .ref a_bytes) (C := RX7) (T := TX7) (N := 4) hx hb hT i_X7 hown hK hP 0 rfl rfl 0 (by decide) (hT _ q_127) (fun _ h9 => h9) rfl dX7_takeNumber_38 ?_
          refine lv_aload_n hx hb dX7_takeNumber_41 rfl (lv_at hl 2 rfl) ?_
          refine va_get (D := D) (ci := 7) (v := .int k12_F_a_2) (C := RX7) (T := TX7) (N := 4) hx hb hT i_X7 hown hK hP 0 rfl rfl 2 (by decide) (hT _ q_129) (fun _ h9 => h9) rfl dX7_takeNumber_42 ?_
          refine va_iald hx hb hK hP 1 0 rfl rfl (iv_v h17 (by decide) (by decide)) dX7_takeNumber_45 ?_
          refine hz_ev v19 ev19.symm ?_
          refine lv_bipush (v := 57) hx hb dX7_takeNumber_46 (by decide) ?_
          refine lv_icmp_gt (tgt := 94) hx hb dX7_takeNumber_48 (by decide) (fun c23 => ?_) (fun c23 => ?_)
          · have h24 : IV 58 255 v19 := iv_lt2 c23 (iv_c (a := 57) (b := 57) (by decide)) h22 (by decide)
            exact K94 k12_L_4 k12_L_3 k12_F_a_2 (iv_w h17 (by decide) (by decide)) q12_3 H locs (hP.sub (ws' := [(a, .inr (7, [.ref a_bytes, .int a__length, .int k12_F_a_2, .int a__fault])), (a_bytes, .inl (cs 0, 400, .inl a_bytes_c))]) [0, 1] rfl) (hD.sub (ws' := [(a, .inr (7, [.ref a_bytes, .int a__length, .int k12_F_a_2, .int a__fault])), (a_bytes, .inl (cs 0, 400, .inl a_bytes_c))]) [0, 1] (by decide) rfl) hS ls (lv_sub hl [0, 1, 2, 3, 4] rfl)
          · have h25 : IV 48 57 v19 := iv_le1 (Int32.not_lt.mp c23) h22 (iv_c (a := 57) (b := 57) (by decide)) (by decide)
            refine lv_aload_n hx hb dX7_takeNumber_51 rfl (lv_at hl 2 rfl) ?_
            refine va_get (D := D) (ci := 7) (v := .int k12_F_a_2) (C := RX7) (T := TX7) (N := 4) hx hb hT i_X7 hown hK hP 0 rfl rfl 2 (by decide) (hT _ q_129) (fun _ h9 => h9) rfl dX7_takeNumber_52 ?_
            refine lv_iload_n hx hb dX7_takeNumber_55 rfl (lv_at hl 1 rfl) ?_
            refine lv_isub hx hb dX7_takeNumber_56 ?_
            refine lv_topi (fun v26 ev26 => ?_)
            have hv26 : IV (-400) 399 v26 := iv_sub ev26 h17 q12_3 (by decide) (by decide)
            refine lv_iconst (v := 5) hx hb dX7_takeNumber_57 (by decide) ?_
            refine lv_icmp_ge (tgt := 81) hx hb dX7_takeNumber_58 (by decide) (fun c27 => ?_) (fun c27 => ?_)
            · have h28 : IV 5 399 v26 := iv_le2 c27 (iv_c (a := 5) (b := 5) (by decide)) hv26 (by decide)
              exact K81 k12_L_4 h18 h17 q12_3 H locs (hP.sub (ws' := [(a, .inr (7, [.ref a_bytes, .int a__length, .int k12_F_a_2, .int a__fault])), (a_bytes, .inl (cs 0, 400, .inl a_bytes_c))]) [0, 1] rfl) (hD.sub (ws' := [(a, .inr (7, [.ref a_bytes, .int a__length, .int k12_F_a_2, .int a__fault])), (a_bytes, .inl (cs 0, 400, .inl a_bytes_c))]) [0, 1] (by decide) rfl) hS ls (lv_sub hl [0, 1, 2, 3, 4] rfl)
            · have h29 : IV (-400) 4 v26 := iv_lt1 (Int32.not_le.mp c27) hv26 (iv_c (a := 5) (b := 5) (by decide)) (by decide)
              refine lv_iload hx hb dX7_takeNumber_61 (lv_at hl 0 rfl) ?_
              refine lv_bipush (v := 10) hx hb dX7_takeNumber_63 (by decide) ?_
              refine lv_imul hx hb dX7_takeNumber_65 ?_
              refine lv_topi (fun v30 ev30 => ?_)
              refine lv_aload_n hx hb dX7_takeNumber_66 rfl (lv_at hl 2 rfl) ?_
              refine va_get (D := D) (ci := 7) (v := .ref a_bytes) (C := RX7) (T := TX7) (N := 4) hx hb hT i_X7 hown hK hP 0 rfl rfl 0 (by decide) (hT _ q_127) (fun _ h9 => h9) rfl dX7_takeNumber_67 ?_
              refine lv_aload_n hx hb dX7_takeNumber_70 rfl (lv_at hl 2 rfl) ?_
              refine va_get (D := D) (ci := 7) (v := .int k12_F_a_2) (C := RX7) (T := TX7) (N := 4) hx hb hT i_X7 hown hK hP 0 rfl rfl 2 (by decide) (hT _ q_129) (fun _ h9 => h9) rfl dX7_takeNumber_71 ?_
              refine va_iald hx hb hK hP 1 0 rfl rfl (iv_v h17 (by decide) (by decide)) dX7_takeNumber_74 ?_
              refine hz_ev v19 ev19.symm ?_
              refine lv_iadd hx hb dX7_takeNumber_75 ?_
              refine lv_topi (fun v31 ev31 => ?_)
              refine lv_bipush (v := 48) hx hb dX7_takeNumber_76 (by decide) ?_
              refine lv_isub hx hb dX7_takeNumber_78 ?_
              refine lv_topi (fun v32 ev32 => ?_)
              refine lv_istore (lv' := [(4, .int v32), (3, .int k12_L_3), (0, .ref a), (1, .int 0), (2, .int 2147483647)]) hx hb dX7_takeNumber_79 hl (by decide) rfl (fun ls hl => ?_)
              exact K81 v32 h18 h17 q12_3 H locs (hP.sub (ws' := [(a, .inr (7, [.ref a_bytes, .int a__length, .int k12_F_a_2, .int a__fault])), (a_bytes, .inl (cs 0, 400, .inl a_bytes_c))]) [0, 1] rfl) (hD.sub (ws' := [(a, .inr (7, [.ref a_bytes, .int a__length, .int k12_F_a_2, .int a__fault])), (a_bytes, .inl (cs 0, 400, .inl a_bytes_c))]) [0, 1] (by decide) rfl) hS ls (lv_sub hl [0, 1, 2, 3, 4] rfl)
  refine lv_aload_n hx hb dX7_takeNumber_0 rfl (lv_at hl 0 rfl) ?_
  have hFc := va_free (wc := [(a, .inr (7, [.ref a_bytes, .int a__length, .int a__place, .int a__fault])), (a_bytes, .inl (cs 0, 400, .inl a_bytes_c))]) hD hS hA [0,1] rfl
  refine va_callv (va_runV (As := []) (rest := []) ⟨hx, hb, hml, hown, hT⟩ (c_X7_skipBlanks l D cs kK kV a a_bytes a__length a__place a__fault a_bytes_c h_a__length h_a__place h_a_bytes_c H.size) (cwV 0 hT (hz_gV q_631 q_437 q_438 q_221 q_439) rfl rfl rfl (by decide +kernel) ⟨(Nat.le_of_ble_eq_true rfl), (Nat.le_of_ble_eq_true rfl)⟩) ⟨hz_C.blind, va_recv hK hP (ci := 7) (q0 := 0) rfl rfl, hz_C.mk (hP.sub (ws' := [(a, .inr (7, [.ref a_bytes, .int a__length, .int a__place, .int a__fault])), (a_bytes, .inl (cs 0, 400, .inl a_bytes_c))]) [0,1] rfl) (hD.sub (ws' := [(a, .inr (7, [.ref a_bytes, .int a__length, .int a__place, .int a__fault])), (a_bytes, .inl (cs 0, 400, .inl a_bytes_c))]) [0,1] (by decide) rfl) hE hS hFc⟩ rfl rfl hl.1 rfl (lv_room (Nat.le_of_ble_eq_true rfl)) dX7_takeNumber_1 ⟨(Nat.le_of_ble_eq_true rfl), (Nat.le_of_ble_eq_true rfl)⟩) hS (fun q _ h => hFc q h) hFc (fun u t H1 locs ht hvm hw hB hz1 hk1 hS => ?_)
  obtain ⟨o34, h35, hP1, hD1⟩ := hB
  rw [ht] at hP1
  obtain ⟨hP, hD⟩ := va_join (wr := []) (w1 := [(a, .inr (7, [.ref a_bytes, .int a__length, .int o34, .int a__fault])), (a_bytes, .inl (cs 0, 400, .inl a_bytes_c))]) hP hD [0, 1] [] rfl rfl (by decide) (by decide) hk1 hFc hP1 hD1
  generalize H1 = H at hP hS ⊢
  have hP : va_P D classes [(a, .inr (7, [.ref a_bytes, .int a__length, .int o34, .int a__fault])), (a_bytes, .inl (cs 0, 400, .inl a_bytes_c))] H := hP
  have hD : va_D A [(a, .inr (7, [.ref a_bytes, .int a__length, .int o34, .int a__fault])), (a_bytes, .inl (cs 0, 400, .inl a_bytes_c))] := hD
  clear hk1 hFc hP1 hD1 hz1
  refine lv_aload_n hx hb dX7_takeNumber_4 rfl (lv_at hl 0 rfl) ?_
  refine va_get (D := D) (ci := 7) (v := .int o34) (C := RX7) (T := TX7) (N := 4) hx hb hT i_X7 hown hK hP 0 rfl rfl 2 (by decide) (hT _ q_129) (fun _ h9 => h9) rfl dX7_takeNumber_5 ?_
  refine lv_istore_n (lv' := [(3, .int o34), (0, .ref a), (1, .int 0), (2, .int 2147483647)]) hx hb dX7_takeNumber_8 rfl hl (by decide) rfl (fun ls hl => ?_)
  refine lv_iconst (v := 0) hx hb dX7_takeNumber_9 (by decide) ?_
  refine lv_istore (lv' := [(4, .int 0), (3, .int o34), (0, .ref a), (1, .int 0), (2, .int 2147483647)]) hx hb dX7_takeNumber_10 hl (by decide) rfl (fun ls hl => ?_)
  exact K12 _ 0 o34 o34 (Nat.le_refl _) h35 h35 H locs (hP.sub (ws' := [(a, .inr (7, [.ref a_bytes, .int a__length, .int o34, .int a__fault])), (a_bytes, .inl (cs 0, 400, .inl a_bytes_c))]) [0, 1] rfl) (hD.sub (ws' := [(a, .inr (7, [.ref a_bytes, .int a__length, .int o34, .int a__fault])), (a_bytes, .inl (cs 0, 400, .inl a_bytes_c))]) [0, 1] (by decide) rfl) hS ls (lv_sub hl [0, 1, 2, 3, 4] rfl)
theorem dX5_readValue_0 : decode cX5_readValue 0 = .ok (.aload_n 0, 1) := by decide +kernel
theorem dX5_readValue_1 : decode cX5_readValue 1 = .ok (.getfield 15, 3) := by decide +kernel
theorem dX5_readValue_4 : decode cX5_readValue 4 = .ok (.invokevirtual 34, 3) := by decide +kernel
theorem dX5_readValue_7 : decode cX5_readValue 7 = .ok (.ifCond .ne 4, 3) := by decide +kernel
theorem dX5_readValue_10 : decode cX5_readValue 10 = .ok (.return_, 1) := by decide +kernel
theorem dX5_readValue_11 : decode cX5_readValue 11 = .ok (.aload_n 0, 1) := by decide +kernel
theorem dX5_readValue_12 : decode cX5_readValue 12 = .ok (.getfield 15, 3) := by decide +kernel
theorem dX5_readValue_15 : decode cX5_readValue 15 = .ok (.invokevirtual 52, 3) := by decide +kernel
theorem dX5_readValue_18 : decode cX5_readValue 18 = .ok (.aload_n 0, 1) := by decide +kernel
theorem dX5_readValue_19 : decode cX5_readValue 19 = .ok (.getfield 15, 3) := by decide +kernel
theorem dX5_readValue_22 : decode cX5_readValue 22 = .ok (.getfield 55, 3) := by decide +kernel
theorem dX5_readValue_25 : decode cX5_readValue 25 = .ok (.istore_n 1, 1) := by decide +kernel
theorem dX5_readValue_26 : decode cX5_readValue 26 = .ok (.aload_n 0, 1) := by decide +kernel
theorem dX5_readValue_27 : decode cX5_readValue 27 = .ok (.getfield 15, 3) := by decide +kernel
theorem dX5_readValue_30 : decode cX5_readValue 30 = .ok (.ldc 128, 2) := by decide +kernel
theorem dX5_readValue_32 : decode cX5_readValue 32 = .ok (.invokevirtual 60, 3) := by decide +kernel
theorem dX5_readValue_35 : decode cX5_readValue 35 = .ok (.istore_n 2, 1) := by decide +kernel
theorem dX5_readValue_36 : decode cX5_readValue 36 = .ok (.aload_n 0, 1) := by decide +kernel
theorem dX5_readValue_37 : decode cX5_readValue 37 = .ok (.iload_n 2, 1) := by decide +kernel
theorem dX5_readValue_38 : decode cX5_readValue 38 = .ok (.ifCond .lt 9, 3) := by decide +kernel
theorem dX5_readValue_41 : decode cX5_readValue 41 = .ok (.iconst (-1), 1) := by decide +kernel
theorem dX5_readValue_42 : decode cX5_readValue 42 = .ok (.iload_n 2, 1) := by decide +kernel
theorem dX5_readValue_43 : decode cX5_readValue 43 = .ok (.isub, 1) := by decide +kernel
theorem dX5_readValue_44 : decode cX5_readValue 44 = .ok (.goto 13, 3) := by decide +kernel
theorem dX5_readValue_47 : decode cX5_readValue 47 = .ok (.aload_n 0, 1) := by decide +kernel
theorem dX5_readValue_48 : decode cX5_readValue 48 = .ok (.getfield 15, 3) := by decide +kernel
theorem dX5_readValue_51 : decode cX5_readValue 51 = .ok (.iconst 0, 1) := by decide +kernel
theorem dX5_readValue_52 : decode cX5_readValue 52 = .ok (.ldc 132, 2) := by decide +kernel
theorem dX5_readValue_54 : decode cX5_readValue 54 = .ok (.invokevirtual 133, 3) := by decide +kernel
theorem dX5_readValue_57 : decode cX5_readValue 57 = .ok (.invokevirtual 99, 3) := by decide +kernel
theorem dX5_readValue_60 : decode cX5_readValue 60 = .ok (.aload_n 0, 1) := by decide +kernel
theorem dX5_readValue_61 : decode cX5_readValue 61 = .ok (.iload_n 1, 1) := by decide +kernel
theorem dX5_readValue_62 : decode cX5_readValue 62 = .ok (.invokevirtual 119, 3) := by decide +kernel
theorem dX5_readValue_65 : decode cX5_readValue 65 = .ok (.return_, 1) := by decide +kernel
set_option maxHeartbeats 4000000 in
set_option maxRecDepth 100000 in
theorem c_X5_readValue (l : Launch) (D : va_G) (cs : Nat → ClassId) (kK kV : Nat → Nat) (a : Nat) (a_tape : Nat) (a_code : Nat) (a__length : Int32) (a__parts : Int32) (a_tape_bytes : Nat) (a_tape__length : Int32) (a_tape__place : Int32) (a_tape__fault : Int32) (a_tape_bytes_c : Nat → Int32) (a_code_c : Nat → Int32) (h_a__length : IV 0 400 a__length) (h_a_tape__length : IV 0 400 a_tape__length) (h_a_tape__place : IV 0 400 a_tape__place) (h_a_tape__fault : IV 0 3205 a_tape__fault) (h_a_tape_bytes_c : CI 400 0 255 a_tape_bytes_c) (sz : Nat) : Met l yX5_readValue (hz_w yX5_readValue cX5_readValue 3 none) ({ frames := 5, cells := 0, slots := 0, locals := 111 }) (va_Pc [.ref a] (hz_C D cs kK kV sz [(a, .inr (5, [.ref a_tape, .ref a_code, .int a__length, .int a__parts])), (a_tape, .inr (7, [.ref a_tape_bytes, .int a_tape__length, .int a_tape__place, .int a_tape__fault])), (a_tape_bytes, .inl (cs 0, 400, .inl a_tape_bytes_c)), (a_code, .inl (cs 0, 400, .inl a_code_c))])) (va_Qv (fun (u : (Nat → Int32) × (Nat → Nat → Int32)) => (IV 0 3205 (u.1 0) ∧ IV 1 400 (u.1 1) ∧ IV (-2147483648) 60 (u.1 2) ∧ IV 0 400 (u.1 3)) ∨ (IV 1 3205 (u.1 0) ∧ IV 0 400 (u.1 1) ∧ IV 0 400 (u.1 3))) (fun u t => va_P D classes [(a, .inr (5, [.ref a_tape, .ref a_code, .int (u.1 1), .int (u.1 2)])), (a_tape, .inr (7, [.ref a_tape_bytes, .int a_tape__length, .int (u.1 3), .int (u.1 0)])), (a_tape_bytes, .inl (cs 0, 400, .inl a_tape_bytes_c)), (a_code, .inl (cs 0, 400, .inl (u.2 0)))] t.heap ∧ va_D (va_A [(a, .inr (5, [.ref a_tape, .ref a_code, .int a__length, .int a__parts])), (a_tape, .inr (7, [.ref a_tape_bytes, .int a_tape__length, .int a_tape__place, .int a_tape__fault])), (a_tape_bytes, .inl (cs 0, 400, .inl a_tape_bytes_c)), (a_code, .inl (cs 0, 400, .inl a_code_c))] sz) [(a, .inr (5, [.ref a_tape, .ref a_code, .int (u.1 1), .int (u.1 2)])), (a_tape, .inr (7, [.ref a_tape_bytes, .int a_tape__length, .int (u.1 3), .int (u.1 0)])), (a_tape_bytes, .inl (cs 0, 400, .inl a_tape_bytes_c)), (a_code, .inl (cs 0, 400, .inl (u.2 0)))]) (va_A [(a, .inr (5, [.ref a_tape, .ref a_code, .int a__length, .int a__parts])), (a_tape, .inr (7, [.ref a_tape_bytes, .int a_tape__length, .int a_tape__place, .int a_tape__fault])), (a_tape_bytes, .inl (cs 0, 400, .inl a_tape_bytes_c)), (a_code, .inl (cs 0, 400, .inl a_code_c))] sz)) 0 0 (va_A [(a, .inr (5, [.ref a_tape, .ref a_code, .int a__length, .int a__parts])), (a_tape, .inr (7, [.ref a_tape_bytes, .int a_tape__length, .int a_tape__place, .int a_tape__fault])), (a_tape_bytes, .inl (cs 0, 400, .inl a_tape_bytes_c)), (a_code, .inl (cs 0, 400, .inl a_code_c))] sz) := by
  refine Met.ofW (cc := cX5_readValue) (maxL := 3) (ret := none) (by decide) rfl ?_
  intro p e s m args below meth c s₁ B hml hv
  obtain ⟨rfl, hsz, hP, hD0, hE⟩ := hv
  have hx := B.exec
  have hb := B.bytes
  have hr := B.returns
  have hT : ∀ w ∈ TB, w.before _ s = true := fun w h => atoms_spec (ws := hz_w yX5_readValue cX5_readValue 3 none) B.pre w (List.mem_cons_of_mem _ h)
  have hown : s.vm.findClass RX5 = some m.cls := findClass_of_methodNamed B.named
  have hlocks := B.notSynchronized
  clear B
  subst hsz
  have hD := hD0.self (sz := s.heap.size)
  generalize hAe : va_A [(a, .inr (5, [.ref a_tape, .ref a_code, .int a__length, .int a__parts])), (a_tape, .inr (7, [.ref a_tape_bytes, .int a_tape__length, .int a_tape__place, .int a_tape__fault])), (a_tape_bytes, .inl (cs 0, 400, .inl a_tape_bytes_c)), (a_code, .inl (cs 0, 400, .inl a_code_c))] s.heap.size = A at hD hE ⊢
  have hA : ∀ q : Nat, s.heap.size ≤ q → A q := fun q h => by rw [← hAe]; exact Or.inr h
  clear hAe hD0
  have hS : va_S A s.heap s.heap [] := va_S.rf
  have hK := hE.1
  have hl := lv_entry ([.ref a]) (n := 3) (Nat.le_of_ble_eq_true rfl)
  rw [lg_entry_eq]
  generalize (lg_sl ([.ref a]) ++ List.replicate (3 - (lg_sl ([.ref a])).length) Slot.unset).toArray = ls at hl ⊢
  have hl : lv_has ls 3 [(0, .ref a)] := hl
  obtain ⟨H, eH⟩ : ∃ z, z = s.heap := ⟨_, rfl⟩
  have hP : va_P D classes [(a, .inr (5, [.ref a_tape, .ref a_code, .int a__length, .int a__parts])), (a_tape, .inr (7, [.ref a_tape_bytes, .int a_tape__length, .int a_tape__place, .int a_tape__fault])), (a_tape_bytes, .inl (cs 0, 400, .inl a_tape_bytes_c)), (a_code, .inl (cs 0, 400, .inl a_code_c))] H := by rw [eH]; exact hP
  have hS : va_S A s.heap H [] := by rw [eH]; exact hS
  rw [← eH]
  clear eH
  obtain ⟨locs, el⟩ : ∃ z : List Loc, z = [] := ⟨_, rfl⟩
  rw [← el] at hS ⊢
  clear el
  have K57 : ∀ (k57_L_2 : Int32) (k57_L_1 : Int32) (k57_S_1 : Int32) (k57_F_a_tape_2 : Int32) (k57_F_a_tape_3 : Int32), IV 0 400 k57_F_a_tape_2 → IV 0 3205 k57_F_a_tape_3 → IV 0 400 k57_L_1 → ∀ (H : Heap) (locs : List Loc), va_P D classes [(a, .inr (5, [.ref a_tape, .ref a_code, .int a__length, .int a__parts])), (a_code, .inl (cs 0, 400, .inl a_code_c)), (a_tape, .inr (7, [.ref a_tape_bytes, .int a_tape__length, .int k57_F_a_tape_2, .int k57_F_a_tape_3])), (a_tape_bytes, .inl (cs 0, 400, .inl a_tape_bytes_c))] H → va_D A [(a, .inr (5, [.ref a_tape, .ref a_code, .int a__length, .int a__parts])), (a_code, .inl (cs 0, 400, .inl a_code_c)), (a_tape, .inr (7, [.ref a_tape_bytes, .int a_tape__length, .int k57_F_a_tape_2, .int k57_F_a_tape_3])), (a_tape_bytes, .inl (cs 0, 400, .inl a_tape_bytes_c))] → va_S A s.heap H locs → ∀ ls : Array Slot, lv_has ls 3 [(2, .int k57_L_2), (1, .int k57_L_1), (0, .ref a)] → W p l e (headSpec (hz_w yX5_readValue cX5_readValue 3 none) ({ frames := 5, cells := 0, slots := 0, locals := 111 })).room s m [.ref a].toArray below meth c H locs 0 0 (MQ below (va_Qv (fun (u : (Nat → Int32) × (Nat → Nat → Int32)) => (IV 0 3205 (u.1 0) ∧ IV 1 400 (u.1 1) ∧ IV (-2147483648) 60 (u.1 2) ∧ IV 0 400 (u.1 3)) ∨ (IV 1 3205 (u.1 0) ∧ IV 0 400 (u.1 1) ∧ IV 0 400 (u.1 3))) (fun u t => va_P D classes [(a, .inr (5, [.ref a_tape, .ref a_code, .int (u.1 1), .int (u.1 2)])), (a_tape, .inr (7, [.ref a_tape_bytes, .int a_tape__length, .int (u.1 3), .int (u.1 0)])), (a_tape_bytes, .inl (cs 0, 400, .inl a_tape_bytes_c)), (a_code, .inl (cs 0, 400, .inl (u.2 0)))] t.heap ∧ va_D A [(a, .inr (5, [.ref a_tape, .ref a_code, .int (u.1 1), .int (u.1 2)])), (a_tape, .inr (7, [.ref a_tape_bytes, .int a_tape__length, .int (u.1 3), .int (u.1 0)])), (a_tape_bytes, .inl (cs 0, 400, .inl a_tape_bytes_c)), (a_code, .inl (cs 0, 400, .inl (u.2 0)))]) A) [.ref a].toArray s 0 0 A) (F0 m 57 ls [.int k57_S_1, .ref a]) := by
    intro k57_L_2 k57_L_1 k57_S_1 k57_F_a_tape_2 k57_F_a_tape_3 q57_2 q57_3 q57_4 H locs hP hD hS ls hl
    have hFc := va_free (wc := [(a, .inr (5, [.ref a_tape, .ref a_code, .int a__length, .int a__parts])), (a_code, .inl (cs 0, 400, .inl a_code_c))]) hD hS hA [0,1] rfl
    refine va_callv (va_runV (As := [.int k57_S_1]) (rest := []) ⟨hx, hb, hml, hown, hT⟩ (c_X5_emit l D cs kK kV a k57_S_1 a_tape a_code a__length a__parts a_code_c h_a__length H.size) (cwV 1 hT (hz_gV q_581 q_582 q_583 q_246 q_584) rfl rfl rfl (by decide +kernel) ⟨(Nat.le_of_ble_eq_true rfl), (Nat.le_of_ble_eq_true rfl)⟩) ⟨hz_C.blind, va_recv hK hP (ci := 5) (q0 := 0) rfl rfl, hz_C.mk (hP.sub (ws' := [(a, .inr (5, [.ref a_tape, .ref a_code, .int a__length, .int a__parts])), (a_code, .inl (cs 0, 400, .inl a_code_c))]) [0,1] rfl) (hD.sub (ws' := [(a, .inr (5, [.ref a_tape, .ref a_code, .int a__length, .int a__parts])), (a_code, .inl (cs 0, 400, .inl a_code_c))]) [0,1] (by decide) rfl) hE hS hFc⟩ rfl rfl hl.1 rfl (lv_room (Nat.le_of_ble_eq_true rfl)) dX5_readValue_57 ⟨(Nat.le_of_ble_eq_true rfl), (Nat.le_of_ble_eq_true rfl)⟩) hS (fun q _ h => hFc q h) hFc (fun u t H1 locs ht hvm hw hB hz1 hk1 hS => ?_)
    obtain ⟨o2, o3, h4, hP1, hD1⟩ := hB
    rw [ht] at hP1
    obtain ⟨hP, hD⟩ := va_join (wr := [(a_tape, .inr (7, [.ref a_tape_bytes, .int a_tape__length, .int k57_F_a_tape_2, .int k57_F_a_tape_3])), (a_tape_bytes, .inl (cs 0, 400, .inl a_tape_bytes_c))]) (w1 := [(a, .inr (5, [.ref a_tape, .ref a_code, .int o2, .int a__parts])), (a_code, .inl (cs 0, 400, .inl o3))]) hP hD [0, 1] [2, 3] rfl rfl (by decide) (by decide) hk1 hFc hP1 hD1
    generalize H1 = H at hP hS ⊢
    have hP : va_P D classes [(a_tape, .inr (7, [.ref a_tape_bytes, .int a_tape__length, .int k57_F_a_tape_2, .int k57_F_a_tape_3])), (a_tape_bytes, .inl (cs 0, 400, .inl a_tape_bytes_c)), (a, .inr (5, [.ref a_tape, .ref a_code, .int o2, .int a__parts])), (a_code, .inl (cs 0, 400, .inl o3))] H := hP
    have hD : va_D A [(a_tape, .inr (7, [.ref a_tape_bytes, .int a_tape__length, .int k57_F_a_tape_2, .int k57_F_a_tape_3])), (a_tape_bytes, .inl (cs 0, 400, .inl a_tape_bytes_c)), (a, .inr (5, [.ref a_tape, .ref a_code, .int o2, .int a__parts])), (a_code, .inl (cs 0, 400, .inl o3))] := hD
    clear hk1 hFc hP1 hD1 hz1
    refine lv_aload_n hx hb dX5_readValue_60 rfl (lv_at hl 2 rfl) ?_
    refine lv_iload_n hx hb dX5_readValue_61 rfl (lv_at hl 1 rfl) ?_
    have hFc := va_free (wc := [(a, .inr (5, [.ref a_tape, .ref a_code, .int o2, .int a__parts])), (a_tape, .inr (7, [.ref a_tape_bytes, .int a_tape__length, .int k57_F_a_tape_2, .int k57_F_a_tape_3]))]) hD hS hA [2,0] rfl
    refine va_callv (va_runV (As := [.int k57_L_1]) (rest := []) ⟨hx, hb, hml, hown, hT⟩ (c_X5_countPart l D cs kK kV a k57_L_1 a_tape a_code o2 a__parts a_tape_bytes a_tape__length k57_F_a_tape_2 k57_F_a_tape_3 q57_4 q57_3 H.size) (cwV 1 hT (hz_gV q_601 q_602 q_603 q_246 q_604) rfl rfl rfl (by decide +kernel) ⟨(Nat.le_of_ble_eq_true rfl), (Nat.le_of_ble_eq_true rfl)⟩) ⟨hz_C.blind, va_recv hK hP (ci := 5) (q0 := 2) rfl rfl, hz_C.mk (hP.sub (ws' := [(a, .inr (5, [.ref a_tape, .ref a_code, .int o2, .int a__parts])), (a_tape, .inr (7, [.ref a_tape_bytes, .int a_tape__length, .int k57_F_a_tape_2, .int k57_F_a_tape_3]))]) [2,0] rfl) (hD.sub (ws' := [(a, .inr (5, [.ref a_tape, .ref a_code, .int o2, .int a__parts])), (a_tape, .inr (7, [.ref a_tape_bytes, .int a_tape__length, .int k57_F_a_tape_2, .int k57_F_a_tape_3]))]) [2,0] (by decide) rfl) hE hS hFc⟩ rfl rfl hl.1 rfl (lv_room (Nat.le_of_ble_eq_true rfl)) dX5_readValue_62 ⟨(Nat.le_of_ble_eq_true rfl), (Nat.le_of_ble_eq_true rfl)⟩) hS (fun q _ h => hFc q h) hFc (fun o6 t H1 locs ht hvm hw hB hz1 hk1 hS => ?_)
    obtain ⟨hP1, hD1⟩ := hB
    rw [ht] at hP1
    obtain ⟨hP, hD⟩ := va_join (wr := [(a_tape_bytes, .inl (cs 0, 400, .inl a_tape_bytes_c)), (a_code, .inl (cs 0, 400, .inl o3))]) (w1 := [(a, .inr (5, [.ref a_tape, .ref a_code, .int o2, .int (o6.1 1)])), (a_tape, .inr (7, [.ref a_tape_bytes, .int a_tape__length, .int k57_F_a_tape_2, .int (o6.1 0)]))]) hP hD [2, 0] [1, 3] rfl rfl (by decide) (by decide) hk1 hFc hP1 hD1
    generalize H1 = H at hP hS ⊢
    have hP : va_P D classes [(a_tape_bytes, .inl (cs 0, 400, .inl a_tape_bytes_c)), (a_code, .inl (cs 0, 400, .inl o3)), (a, .inr (5, [.ref a_tape, .ref a_code, .int o2, .int (o6.1 1)])), (a_tape, .inr (7, [.ref a_tape_bytes, .int a_tape__length, .int k57_F_a_tape_2, .int (o6.1 0)]))] H := hP
    have hD : va_D A [(a_tape_bytes, .inl (cs 0, 400, .inl a_tape_bytes_c)), (a_code, .inl (cs 0, 400, .inl o3)), (a, .inr (5, [.ref a_tape, .ref a_code, .int o2, .int (o6.1 1)])), (a_tape, .inr (7, [.ref a_tape_bytes, .int a_tape__length, .int k57_F_a_tape_2, .int (o6.1 0)]))] := hD
    clear hk1 hFc hP1 hD1 hz1
    rcases hw with ⟨h7, h8⟩ | ⟨h9, h10⟩
    · refine W.widen (k := 0) (n := 0) (Nat.le_of_ble_eq_true rfl) (Nat.le_of_ble_eq_true rfl) ?_
      exact W.vret hx hb hr (fun t ht hW => ⟨⟨(fun k => match k with | 0 => o6.1 0 | 1 => o2 | 2 => o6.1 1 | 3 => k57_F_a_tape_2 | _ => 0, fun k => match k with | 0 => o3 | _ => fun _ => 0), rfl, (Or.inl (⟨h7, h4, h8, q57_2⟩)), by rw [ht]; exact hP.sub [2, 3, 0, 1] rfl, hD.sub [2, 3, 0, 1] (by decide) rfl⟩, hS.F ht⟩) hS.2.2 dX5_readValue_65
    · refine W.widen (k := 0) (n := 0) (Nat.le_of_ble_eq_true rfl) (Nat.le_of_ble_eq_true rfl) ?_
      exact W.vret hx hb hr (fun t ht hW => ⟨⟨(fun k => match k with | 0 => o6.1 0 | 1 => o2 | 2 => o6.1 1 | 3 => k57_F_a_tape_2 | _ => 0, fun k => match k with | 0 => o3 | _ => fun _ => 0), rfl, (Or.inr ((⟨h9, (iv_w h4 (by decide) (by decide)), q57_2⟩))), by rw [ht]; exact hP.sub [2, 3, 0, 1] rfl, hD.sub [2, 3, 0, 1] (by decide) rfl⟩, hS.F ht⟩) hS.2.2 dX5_readValue_65
  refine lv_aload_n hx hb dX5_readValue_0 rfl (lv_at hl 0 rfl) ?_
  refine va_get (D := D) (ci := 5) (v := .ref a_tape) (C := RX5) (T := TX5) (N := 4) hx hb hT i_X5 hown hK hP 0 rfl rfl 0 (by decide) (hT _ q_104) (fun _ h9 => h9) rfl dX5_readValue_1 ?_
  refine va_calli (va_runV (As := []) (rest := []) ⟨hx, hb, hml, hown, hT⟩ (c_X7_isSound l D cs kK kV a_tape a_tape_bytes a_tape__length a_tape__place a_tape__fault h_a_tape__fault) (cwV 0 hT (hz_gV q_553 q_421 q_422 q_221 q_423) rfl rfl rfl (by decide +kernel) ⟨(Nat.le_of_ble_eq_true rfl), (Nat.le_of_ble_eq_true rfl)⟩) ⟨hz_P.blind, va_recv hK hP (ci := 7) (q0 := 1) rfl rfl, hz_P.mk (hP.sub (ws' := [(a_tape, .inr (7, [.ref a_tape_bytes, .int a_tape__length, .int a_tape__place, .int a_tape__fault]))]) [1] rfl) hE hS⟩ rfl rfl hl.1 rfl (lv_room (Nat.le_of_ble_eq_true rfl)) dX5_readValue_4 ⟨(Nat.le_of_ble_eq_true rfl), (Nat.le_of_ble_eq_true rfl)⟩) hS (fun _ _ h => h.elim) (fun _ h => h.elim) (fun r11 u t H1 locs ht hvm hw hB hz1 hk1 hS => ?_)
  have hP := hz_keep hP hk1
  clear hk1 hB hz1
  generalize H1 = H at hP hS ⊢
  rcases hw with ⟨rfl, h12⟩ | ⟨rfl, h13⟩
  · refine lv_if_ne (tgt := 11) hx hb dX5_readValue_7 (by decide) (fun z => absurd (by decide) z) (fun _ => ?_)
    refine W.widen (k := 0) (n := 0) (Nat.le_of_ble_eq_true rfl) (Nat.le_of_ble_eq_true rfl) ?_
    exact W.vret hx hb hr (fun t ht hW => ⟨⟨(fun k => match k with | 0 => a_tape__fault | 1 => a__length | 2 => a__parts | 3 => a_tape__place | _ => 0, fun k => match k with | 0 => a_code_c | _ => fun _ => 0), rfl, (Or.inr ((⟨h12, h_a__length, h_a_tape__place⟩))), by rw [ht]; exact hP.sub [0, 1, 2, 3] rfl, hD.sub [0, 1, 2, 3] (by decide) rfl⟩, hS.F ht⟩) hS.2.2 dX5_readValue_10
  · refine lv_if_ne (tgt := 11) hx hb dX5_readValue_7 (by decide) (fun _ => ?_) (fun z => absurd z (by decide))
    refine lv_aload_n hx hb dX5_readValue_11 rfl (lv_at hl 0 rfl) ?_
    refine va_get (D := D) (ci := 5) (v := .ref a_tape) (C := RX5) (T := TX5) (N := 4) hx hb hT i_X5 hown hK hP 0 rfl rfl 0 (by decide) (hT _ q_104) (fun _ h9 => h9) rfl dX5_readValue_12 ?_
    have hFc := va_free (wc := [(a_tape, .inr (7, [.ref a_tape_bytes, .int a_tape__length, .int a_tape__place, .int a_tape__fault])), (a_tape_bytes, .inl (cs 0, 400, .inl a_tape_bytes_c))]) hD hS hA [1,2] rfl
    refine va_callv (va_runV (As := []) (rest := []) ⟨hx, hb, hml, hown, hT⟩ (c_X7_skipBlanks l D cs kK kV a_tape a_tape_bytes a_tape__length a_tape__place a_tape__fault a_tape_bytes_c h_a_tape__length h_a_tape__place h_a_tape_bytes_c H.size) (cwV 0 hT (hz_gV q_562 q_437 q_438 q_221 q_439) rfl rfl rfl (by decide +kernel) ⟨(Nat.le_of_ble_eq_true rfl), (Nat.le_of_ble_eq_true rfl)⟩) ⟨hz_C.blind, va_recv hK hP (ci := 7) (q0 := 1) rfl rfl, hz_C.mk (hP.sub (ws' := [(a_tape, .inr (7, [.ref a_tape_bytes, .int a_tape__length, .int a_tape__place, .int a_tape__fault])), (a_tape_bytes, .inl (cs 0, 400, .inl a_tape_bytes_c))]) [1,2] rfl) (hD.sub (ws' := [(a_tape, .inr (7, [.ref a_tape_bytes, .int a_tape__length, .int a_tape__place, .int a_tape__fault])), (a_tape_bytes, .inl (cs 0, 400, .inl a_tape_bytes_c))]) [1,2] (by decide) rfl) hE hS hFc⟩ rfl rfl hl.1 rfl (lv_room (Nat.le_of_ble_eq_true rfl)) dX5_readValue_15 ⟨(Nat.le_of_ble_eq_true rfl), (Nat.le_of_ble_eq_true rfl)⟩) hS (fun q _ h => hFc q h) hFc (fun u t H1 locs ht hvm hw hB hz1 hk1 hS => ?_)
    obtain ⟨o15, h16, hP1, hD1⟩ := hB
    rw [ht] at hP1
    obtain ⟨hP, hD⟩ := va_join (wr := [(a, .inr (5, [.ref a_tape, .ref a_code, .int a__length, .int a__parts])), (a_code, .inl (cs 0, 400, .inl a_code_c))]) (w1 := [(a_tape, .inr (7, [.ref a_tape_bytes, .int a_tape__length, .int o15, .int a_tape__fault])), (a_tape_bytes, .inl (cs 0, 400, .inl a_tape_bytes_c))]) hP hD [1, 2] [0, 3] rfl rfl (by decide) (by decide) hk1 hFc hP1 hD1
    generalize H1 = H at hP hS ⊢
    have hP : va_P D classes [(a, .inr (5, [.ref a_tape, .ref a_code, .int a__length, .int a__parts])), (a_code, .inl (cs 0, 400, .inl a_code_c)), (a_tape, .inr (7, [.ref a_tape_bytes, .int a_tape__length, .int o15, .int a_tape__fault])), (a_tape_bytes, .inl (cs 0, 400, .inl a_tape_bytes_c))] H := hP
    have hD : va_D A [(a, .inr (5, [.ref a_tape, .ref a_code, .int a__length, .int a__parts])), (a_code, .inl (cs 0, 400, .inl a_code_c)), (a_tape, .inr (7, [.ref a_tape_bytes, .int a_tape__length, .int o15, .int a_tape__fault])), (a_tape_bytes, .inl (cs 0, 400, .inl a_tape_bytes_c))] := hD
    clear hk1 hFc hP1 hD1 hz1
    refine lv_aload_n hx hb dX5_readValue_18 rfl (lv_at hl 0 rfl) ?_
    refine va_get (D := D) (ci := 5) (v := .ref a_tape) (C := RX5) (T := TX5) (N := 4) hx hb hT i_X5 hown hK hP 0 rfl rfl 0 (by decide) (hT _ q_104) (fun _ h9 => h9) rfl dX5_readValue_19 ?_
    refine va_get (D := D) (ci := 7) (v := .int o15) (C := RX7) (T := TX7) (N := 4) hx hb hT i_X7 hown hK hP 2 rfl rfl 2 (by decide) (hT _ q_108) (fun _ h9 => h9) rfl dX5_readValue_22 ?_
    refine lv_istore_n (lv' := [(1, .int o15), (0, .ref a)]) hx hb dX5_readValue_25 rfl hl (by decide) rfl (fun ls hl => ?_)
    refine lv_aload_n hx hb dX5_readValue_26 rfl (lv_at hl 1 rfl) ?_
    refine va_get (D := D) (ci := 5) (v := .ref a_tape) (C := RX5) (T := TX5) (N := 4) hx hb hT i_X5 hown hK hP 0 rfl rfl 0 (by decide) (hT _ q_104) (fun _ h9 => h9) rfl dX5_readValue_27 ?_
    refine va_ldcS hx hb hown (hz_str hE 2 (by decide)) dX5_readValue_30 ?_
    have hFc := va_free (wc := [(a_tape, .inr (7, [.ref a_tape_bytes, .int a_tape__length, .int o15, .int a_tape__fault])), (a_tape_bytes, .inl (cs 0, 400, .inl a_tape_bytes_c))]) hD hS hA [2,3] rfl
    refine va_calli (va_runV (As := [.ref (kK 2)]) (rest := []) ⟨hx, hb, hml, hown, hT⟩ (c_X7_takeWord l D cs kK kV a_tape 2 a_tape_bytes a_tape__length o15 a_tape__fault a_tape_bytes_c ((by decide)) h_a_tape__length h16 h_a_tape_bytes_c H.size) (cwV 1 hT (hz_gV q_563 q_441 q_442 q_221 q_443) rfl rfl rfl (by decide +kernel) ⟨(Nat.le_of_ble_eq_true rfl), (Nat.le_of_ble_eq_true rfl)⟩) ⟨hz_C.blind, va_recv hK hP (ci := 7) (q0 := 2) rfl rfl, hz_C.mk (hP.sub (ws' := [(a_tape, .inr (7, [.ref a_tape_bytes, .int a_tape__length, .int o15, .int a_tape__fault])), (a_tape_bytes, .inl (cs 0, 400, .inl a_tape_bytes_c))]) [2,3] rfl) (hD.sub (ws' := [(a_tape, .inr (7, [.ref a_tape_bytes, .int a_tape__length, .int o15, .int a_tape__fault])), (a_tape_bytes, .inl (cs 0, 400, .inl a_tape_bytes_c))]) [2,3] (by decide) rfl) hE hS hFc⟩ rfl rfl hl.1 rfl (lv_room (Nat.le_of_ble_eq_true rfl)) dX5_readValue_32 ⟨(Nat.le_of_ble_eq_true rfl), (Nat.le_of_ble_eq_true rfl)⟩) hS (fun q _ h => hFc q h) hFc (fun r17 u t H1 locs ht hvm hw hB hz1 hk1 hS => ?_)
    obtain ⟨o18, h19, hP1, hD1⟩ := hB
    rw [ht] at hP1
    obtain ⟨hP, hD⟩ := va_join (wr := [(a, .inr (5, [.ref a_tape, .ref a_code, .int a__length, .int a__parts])), (a_code, .inl (cs 0, 400, .inl a_code_c))]) (w1 := [(a_tape, .inr (7, [.ref a_tape_bytes, .int a_tape__length, .int o18, .int a_tape__fault])), (a_tape_bytes, .inl (cs 0, 400, .inl a_tape_bytes_c))]) hP hD [2, 3] [0, 1] rfl rfl (by decide) (by decide) hk1 hFc hP1 hD1
    generalize H1 = H at hP hS ⊢
    have hP : va_P D classes [(a, .inr (5, [.ref a_tape, .ref a_code, .int a__length, .int a__parts])), (a_code, .inl (cs 0, 400, .inl a_code_c)), (a_tape, .inr (7, [.ref a_tape_bytes, .int a_tape__length, .int o18, .int a_tape__fault])), (a_tape_bytes, .inl (cs 0, 400, .inl a_tape_bytes_c))] H := hP
    have hD : va_D A [(a, .inr (5, [.ref a_tape, .ref a_code, .int a__length, .int a__parts])), (a_code, .inl (cs 0, 400, .inl a_code_c)), (a_tape, .inr (7, [.ref a_tape_bytes, .int a_tape__length, .int o18, .int a_tape__fault])), (a_tape_bytes, .inl (cs 0, 400, .inl a_tape_bytes_c))] := hD
    clear hk1 hFc hP1 hD1 hz1
    refine lv_istore_n (lv' := [(2, .int r17), (1, .int o15), (0, .ref a)]) hx hb dX5_readValue_35 rfl hl (by decide) rfl (fun ls hl => ?_)
    refine lv_aload_n hx hb dX5_readValue_36 rfl (lv_at hl 2 rfl) ?_
    refine lv_iload_n hx hb dX5_readValue_37 rfl (lv_at hl 0 rfl) ?_
    refine lv_if_lt (tgt := 47) hx hb dX5_readValue_38 (by decide) (fun c20 => ?_) (fun c20 => ?_)
    · have h21 : IV (-2147483648) (-1) r17 := iv_lt1 c20 iv_top (iv_c (a := 0) (b := 0) (by decide)) (by decide)
      refine lv_aload_n hx hb dX5_readValue_47 rfl (lv_at hl 2 rfl) ?_
      refine va_get (D := D) (ci := 5) (v := .ref a_tape) (C := RX5) (T := TX5) (N := 4) hx hb hT i_X5 hown hK hP 0 rfl rfl 0 (by decide) (hT _ q_104) (fun _ h9 => h9) rfl dX5_readValue_48 ?_
      refine lv_iconst (v := 0) hx hb dX5_readValue_51 (by decide) ?_
      refine lv_ldc hx hb hown (hT _ q_1430) dX5_readValue_52 ?_
      have hFc := va_free (wc := [(a_tape, .inr (7, [.ref a_tape_bytes, .int a_tape__length, .int o18, .int a_tape__fault])), (a_tape_bytes, .inl (cs 0, 400, .inl a_tape_bytes_c))]) hD hS hA [2,3] rfl
      refine va_calli (va_runV (As := [.int 0, .int 2147483647]) (rest := [.ref a]) ⟨hx, hb, hml, hown, hT⟩ (c_X7_takeNumber_55 l D cs kK kV a_tape a_tape_bytes a_tape__length o18 a_tape__fault a_tape_bytes_c h_a_tape__length h19 ((iv_w h13 (by decide) (by decide))) h_a_tape_bytes_c H.size) (cwV 2 hT (hz_gV q_613 q_473 q_474 q_221 q_475) rfl rfl rfl (by decide +kernel) ⟨(Nat.le_of_ble_eq_true rfl), (Nat.le_of_ble_eq_true rfl)⟩) ⟨hz_C.blind, va_recv hK hP (ci := 7) (q0 := 2) rfl rfl, hz_C.mk (hP.sub (ws' := [(a_tape, .inr (7, [.ref a_tape_bytes, .int a_tape__length, .int o18, .int a_tape__fault])), (a_tape_bytes, .inl (cs 0, 400, .inl a_tape_bytes_c))]) [2,3] rfl) (hD.sub (ws' := [(a_tape, .inr (7, [.ref a_tape_bytes, .int a_tape__length, .int o18, .int a_tape__fault])), (a_tape_bytes, .inl (cs 0, 400, .inl a_tape_bytes_c))]) [2,3] (by decide) rfl) hE hS hFc⟩ rfl rfl hl.1 rfl (lv_room (Nat.le_of_ble_eq_true rfl)) dX5_readValue_54 ⟨(Nat.le_of_ble_eq_true rfl), (Nat.le_of_ble_eq_true rfl)⟩) hS (fun q _ h => hFc q h) hFc (fun r22 o23 t H1 locs ht hvm hw hB hz1 hk1 hS => ?_)
      obtain ⟨hP1, hD1⟩ := hB
      rw [ht] at hP1
      obtain ⟨hP, hD⟩ := va_join (wr := [(a, .inr (5, [.ref a_tape, .ref a_code, .int a__length, .int a__parts])), (a_code, .inl (cs 0, 400, .inl a_code_c))]) (w1 := [(a_tape, .inr (7, [.ref a_tape_bytes, .int a_tape__length, .int (o23.1 1), .int (o23.1 0)])), (a_tape_bytes, .inl (cs 0, 400, .inl a_tape_bytes_c))]) hP hD [2, 3] [0, 1] rfl rfl (by decide) (by decide) hk1 hFc hP1 hD1
      generalize H1 = H at hP hS ⊢
      have hP : va_P D classes [(a, .inr (5, [.ref a_tape, .ref a_code, .int a__length, .int a__parts])), (a_code, .inl (cs 0, 400, .inl a_code_c)), (a_tape, .inr (7, [.ref a_tape_bytes, .int a_tape__length, .int (o23.1 1), .int (o23.1 0)])), (a_tape_bytes, .inl (cs 0, 400, .inl a_tape_bytes_c))] H := hP
      have hD : va_D A [(a, .inr (5, [.ref a_tape, .ref a_code, .int a__length, .int a__parts])), (a_code, .inl (cs 0, 400, .inl a_code_c)), (a_tape, .inr (7, [.ref a_tape_bytes, .int a_tape__length, .int (o23.1 1), .int (o23.1 0)])), (a_tape_bytes, .inl (cs 0, 400, .inl a_tape_bytes_c))] := hD
      clear hk1 hFc hP1 hD1 hz1
      rcases hw with ⟨h24, h25, h26⟩ | ⟨h27, h28⟩
      · exact K57 r17 o15 r22 (o23.1 1) (o23.1 0) h26 h25 h16 H locs (hP.sub (ws' := [(a, .inr (5, [.ref a_tape, .ref a_code, .int a__length, .int a__parts])), (a_code, .inl (cs 0, 400, .inl a_code_c)), (a_tape, .inr (7, [.ref a_tape_bytes, .int a_tape__length, .int (o23.1 1), .int (o23.1 0)])), (a_tape_bytes, .inl (cs 0, 400, .inl a_tape_bytes_c))]) [0, 1, 2, 3] rfl) (hD.sub (ws' := [(a, .inr (5, [.ref a_tape, .ref a_code, .int a__length, .int a__parts])), (a_code, .inl (cs 0, 400, .inl a_code_c)), (a_tape, .inr (7, [.ref a_tape_bytes, .int a_tape__length, .int (o23.1 1), .int (o23.1 0)])), (a_tape_bytes, .inl (cs 0, 400, .inl a_tape_bytes_c))]) [0, 1, 2, 3] (by decide) rfl) hS ls (lv_sub hl [0, 1, 2] rfl)
      · exact K57 r17 o15 r22 (o23.1 1) (o23.1 0) h28 (iv_w h27 (by decide) (by decide)) h16 H locs (hP.sub (ws' := [(a, .inr (5, [.ref a_tape, .ref a_code, .int a__length, .int a__parts])), (a_code, .inl (cs 0, 400, .inl a_code_c)), (a_tape, .inr (7, [.ref a_tape_bytes, .int a_tape__length, .int (o23.1 1), .int (o23.1 0)])), (a_tape_bytes, .inl (cs 0, 400, .inl a_tape_bytes_c))]) [0, 1, 2, 3] rfl) (hD.sub (ws' := [(a, .inr (5, [.ref a_tape, .ref a_code, .int a__length, .int a__parts])), (a_code, .inl (cs 0, 400, .inl a_code_c)), (a_tape, .inr (7, [.ref a_tape_bytes, .int a_tape__length, .int (o23.1 1), .int (o23.1 0)])), (a_tape_bytes, .inl (cs 0, 400, .inl a_tape_bytes_c))]) [0, 1, 2, 3] (by decide) rfl) hS ls (lv_sub hl [0, 1, 2] rfl)
    · have h29 : IV 0 2147483647 r17 := iv_le2 (Int32.not_lt.mp c20) (iv_c (a := 0) (b := 0) (by decide)) iv_top (by decide)
      refine lv_iconst (v := (-1)) hx hb dX5_readValue_41 (by decide) ?_
      refine lv_iload_n hx hb dX5_readValue_42 rfl (lv_at hl 0 rfl) ?_
      refine lv_isub hx hb dX5_readValue_43 ?_
      refine lv_topi (fun v30 ev30 => ?_)
      have hv30 : IV (-2147483648) (-1) v30 := iv_sub ev30 (iv_c (a := (-1)) (b := (-1)) (by decide)) h29 (by decide) (by decide)
      refine lv_goto (tgt := 57) hx hb dX5_readValue_44 (by decide) ?_
      exact K57 r17 o15 v30 o18 a_tape__fault h19 (iv_w h13 (by decide) (by decide)) h16 H locs (hP.sub (ws' := [(a, .inr (5, [.ref a_tape, .ref a_code, .int a__length, .int a__parts])), (a_code, .inl (cs 0, 400, .inl a_code_c)), (a_tape, .inr (7, [.ref a_tape_bytes, .int a_tape__length, .int o18, .int a_tape__fault])), (a_tape_bytes, .inl (cs 0, 400, .inl a_tape_bytes_c))]) [0, 1, 2, 3] rfl) (hD.sub (ws' := [(a, .inr (5, [.ref a_tape, .ref a_code, .int a__length, .int a__parts])), (a_code, .inl (cs 0, 400, .inl a_code_c)), (a_tape, .inr (7, [.ref a_tape_bytes, .int a_tape__length, .int o18, .int a_tape__fault])), (a_tape_bytes, .inl (cs 0, 400, .inl a_tape_bytes_c))]) [0, 1, 2, 3] (by decide) rfl) hS ls (lv_sub hl [0, 1, 2] rfl)
