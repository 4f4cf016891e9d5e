theorem dX3_firstPartner_0 : decode cX3_firstPartner 0 = .ok (.iload_n 2, 1) := by decide +kernel
theorem dX3_firstPartner_1 : decode cX3_firstPartner 1 = .ok (.iconst 1, 1) := by decide +kernel
theorem dX3_firstPartner_2 : decode cX3_firstPartner 2 = .ok (.iload_n 1, 1) := by decide +kernel
theorem dX3_firstPartner_3 : decode cX3_firstPartner 3 = .ok (.ishl, 1) := by decide +kernel
theorem dX3_firstPartner_4 : decode cX3_firstPartner 4 = .ok (.iconst (-1), 1) := by decide +kernel
theorem dX3_firstPartner_5 : decode cX3_firstPartner 5 = .ok (.ixor, 1) := by decide +kernel
theorem dX3_firstPartner_6 : decode cX3_firstPartner 6 = .ok (.iand, 1) := by decide +kernel
theorem dX3_firstPartner_7 : decode cX3_firstPartner 7 = .ok (.istore_n 3, 1) := by decide +kernel
theorem dX3_firstPartner_8 : decode cX3_firstPartner 8 = .ok (.aload_n 0, 1) := by decide +kernel
theorem dX3_firstPartner_9 : decode cX3_firstPartner 9 = .ok (.iload_n 2, 1) := by decide +kernel
theorem dX3_firstPartner_10 : decode cX3_firstPartner 10 = .ok (.invokevirtual 54, 3) := by decide +kernel
theorem dX3_firstPartner_13 : decode cX3_firstPartner 13 = .ok (.istore 4, 2) := by decide +kernel
theorem dX3_firstPartner_15 : decode cX3_firstPartner 15 = .ok (.bipush 9, 2) := by decide +kernel
theorem dX3_firstPartner_17 : decode cX3_firstPartner 17 = .ok (.aload_n 0, 1) := by decide +kernel
theorem dX3_firstPartner_18 : decode cX3_firstPartner 18 = .ok (.iload_n 3, 1) := by decide +kernel
theorem dX3_firstPartner_19 : decode cX3_firstPartner 19 = .ok (.invokevirtual 54, 3) := by decide +kernel
theorem dX3_firstPartner_22 : decode cX3_firstPartner 22 = .ok (.iadd, 1) := by decide +kernel
theorem dX3_firstPartner_23 : decode cX3_firstPartner 23 = .ok (.iload 4, 2) := by decide +kernel
theorem dX3_firstPartner_25 : decode cX3_firstPartner 25 = .ok (.if_icmp .ne 5, 3) := by decide +kernel
theorem dX3_firstPartner_28 : decode cX3_firstPartner 28 = .ok (.iconst (-1), 1) := by decide +kernel
theorem dX3_firstPartner_29 : decode cX3_firstPartner 29 = .ok (.ireturn, 1) := by decide +kernel
theorem dX3_firstPartner_30 : decode cX3_firstPartner 30 = .ok (.iload_n 3, 1) := by decide +kernel
theorem dX3_firstPartner_31 : decode cX3_firstPartner 31 = .ok (.aload_n 0, 1) := by decide +kernel
theorem dX3_firstPartner_32 : decode cX3_firstPartner 32 = .ok (.getfield 15, 3) := by decide +kernel
theorem dX3_firstPartner_35 : decode cX3_firstPartner 35 = .ok (.getfield 35, 3) := by decide +kernel
theorem dX3_firstPartner_38 : decode cX3_firstPartner 38 = .ok (.iload_n 1, 1) := by decide +kernel
theorem dX3_firstPartner_39 : decode cX3_firstPartner 39 = .ok (.iaload, 1) := by decide +kernel
theorem dX3_firstPartner_40 : decode cX3_firstPartner 40 = .ok (.aload_n 0, 1) := by decide +kernel
theorem dX3_firstPartner_41 : decode cX3_firstPartner 41 = .ok (.getfield 15, 3) := by decide +kernel
theorem dX3_firstPartner_44 : decode cX3_firstPartner 44 = .ok (.getfield 40, 3) := by decide +kernel
theorem dX3_firstPartner_47 : decode cX3_firstPartner 47 = .ok (.iload_n 1, 1) := by decide +kernel
theorem dX3_firstPartner_48 : decode cX3_firstPartner 48 = .ok (.iaload, 1) := by decide +kernel
theorem dX3_firstPartner_49 : decode cX3_firstPartner 49 = .ok (.ior, 1) := by decide +kernel
theorem dX3_firstPartner_50 : decode cX3_firstPartner 50 = .ok (.iand, 1) := by decide +kernel
theorem dX3_firstPartner_51 : decode cX3_firstPartner 51 = .ok (.istore 5, 2) := by decide +kernel
theorem dX3_firstPartner_53 : decode cX3_firstPartner 53 = .ok (.iload_n 1, 1) := by decide +kernel
theorem dX3_firstPartner_54 : decode cX3_firstPartner 54 = .ok (.iconst 1, 1) := by decide +kernel
theorem dX3_firstPartner_55 : decode cX3_firstPartner 55 = .ok (.iadd, 1) := by decide +kernel
theorem dX3_firstPartner_56 : decode cX3_firstPartner 56 = .ok (.istore 6, 2) := by decide +kernel
theorem dX3_firstPartner_58 : decode cX3_firstPartner 58 = .ok (.iload 6, 2) := by decide +kernel
theorem dX3_firstPartner_60 : decode cX3_firstPartner 60 = .ok (.bipush 12, 2) := by decide +kernel
theorem dX3_firstPartner_62 : decode cX3_firstPartner 62 = .ok (.if_icmp .ge 48, 3) := by decide +kernel
theorem dX3_firstPartner_65 : decode cX3_firstPartner 65 = .ok (.iload 5, 2) := by decide +kernel
theorem dX3_firstPartner_67 : decode cX3_firstPartner 67 = .ok (.iload 6, 2) := by decide +kernel
theorem dX3_firstPartner_69 : decode cX3_firstPartner 69 = .ok (.ishr, 1) := by decide +kernel
theorem dX3_firstPartner_70 : decode cX3_firstPartner 70 = .ok (.iconst 1, 1) := by decide +kernel
theorem dX3_firstPartner_71 : decode cX3_firstPartner 71 = .ok (.iand, 1) := by decide +kernel
theorem dX3_firstPartner_72 : decode cX3_firstPartner 72 = .ok (.iconst 1, 1) := by decide +kernel
theorem dX3_firstPartner_73 : decode cX3_firstPartner 73 = .ok (.if_icmp .ne 31, 3) := by decide +kernel
theorem dX3_firstPartner_76 : decode cX3_firstPartner 76 = .ok (.aload_n 0, 1) := by decide +kernel
theorem dX3_firstPartner_77 : decode cX3_firstPartner 77 = .ok (.iload_n 1, 1) := by decide +kernel
theorem dX3_firstPartner_78 : decode cX3_firstPartner 78 = .ok (.iload 6, 2) := by decide +kernel
theorem dX3_firstPartner_80 : decode cX3_firstPartner 80 = .ok (.invokevirtual 43, 3) := by decide +kernel
theorem dX3_firstPartner_83 : decode cX3_firstPartner 83 = .ok (.aload_n 0, 1) := by decide +kernel
theorem dX3_firstPartner_84 : decode cX3_firstPartner 84 = .ok (.iload_n 3, 1) := by decide +kernel
theorem dX3_firstPartner_85 : decode cX3_firstPartner 85 = .ok (.iconst 1, 1) := by decide +kernel
theorem dX3_firstPartner_86 : decode cX3_firstPartner 86 = .ok (.iload 6, 2) := by decide +kernel
theorem dX3_firstPartner_88 : decode cX3_firstPartner 88 = .ok (.ishl, 1) := by decide +kernel
theorem dX3_firstPartner_89 : decode cX3_firstPartner 89 = .ok (.iconst (-1), 1) := by decide +kernel
theorem dX3_firstPartner_90 : decode cX3_firstPartner 90 = .ok (.ixor, 1) := by decide +kernel
theorem dX3_firstPartner_91 : decode cX3_firstPartner 91 = .ok (.iand, 1) := by decide +kernel
theorem dX3_firstPartner_92 : decode cX3_firstPartner 92 = .ok (.invokevirtual 54, 3) := by decide +kernel
theorem dX3_firstPartner_95 : decode cX3_firstPartner 95 = .ok (.iadd, 1) := by decide +kernel
theorem dX3_firstPartner_96 : decode cX3_firstPartner 96 = .ok (.iload 4, 2) := by decide +kernel
theorem dX3_firstPartner_98 : decode cX3_firstPartner 98 = .ok (.if_icmp .ne 6, 3) := by decide +kernel
theorem dX3_firstPartner_101 : decode cX3_firstPartner 101 = .ok (.iload 6, 2) := by decide +kernel
theorem dX3_firstPartner_103 : decode cX3_firstPartner 103 = .ok (.ireturn, 1) := by decide +kernel
theorem dX3_firstPartner_104 : decode cX3_firstPartner 104 = .ok (.iinc 6 1, 3) := by decide +kernel
theorem dX3_firstPartner_107 : decode cX3_firstPartner 107 = .ok (.goto (-49), 3) := by decide +kernel
theorem dX3_firstPartner_110 : decode cX3_firstPartner 110 = .ok (.iconst (-1), 1) := by decide +kernel
theorem dX3_firstPartner_111 : decode cX3_firstPartner 111 = .ok (.ireturn, 1) := by decide +kernel
set_option maxHeartbeats 4000000 in
set_option maxRecDepth 100000 in
theorem c_X3_firstPartner (l : Launch) (D : va_G) (cs : Nat → ClassId) (kK kV : Nat → Nat) (a : Nat) (p0 : Int32) (p1 : Int32) (a_told : Nat) (a_known : Nat) (a_known_c : Nat → Int32) (a_told__stalls : Int32) (a_told__shift : Int32) (a_told__halves : Int32) (a_told__buyers : Int32) (a_told__near : Int32) (a_told__dusk : Int32) (a_told__duskPrice : Int32) (a_told__hear : Int32) (a_told__forged : Int32) (a_told_stall : Nat) (a_told_shape : Nat) (a_told_side : Nat) (a_told_price : Nat) (a_told_purse : Nat) (a_told_spot : Nat) (a_told_club : Nat) (a_told_fitting : Nat) (a_told_nearly : Nat) (a_told_fitting_c : Nat → Int32) (a_told_nearly_c : Nat → Int32) (h_p0 : IV 0 11 p0) (sz : Nat) : Met l yX3_firstPartner (hz_w yX3_firstPartner cX3_firstPartner 7 (some .int)) ({ frames := 15, cells := 0, slots := 0, locals := 399 }) (va_Pc [.ref a, .int p0, .int p1] (hz_C D cs kK kV sz [(a, .inr (3, [.ref a_told, .ref a_known])), (a_known, .inl (cs 0, 4096, .inl a_known_c)), (a_told, .inr (8, [.int a_told__stalls, .int a_told__shift, .int a_told__halves, .int a_told__buyers, .int a_told__near, .int a_told__dusk, .int a_told__duskPrice, .int a_told__hear, .int a_told__forged, .ref a_told_stall, .ref a_told_shape, .ref a_told_side, .ref a_told_price, .ref a_told_purse, .ref a_told_spot, .ref a_told_club, .ref a_told_fitting, .ref a_told_nearly])), (a_told_fitting, .inl (cs 0, 12, .inl a_told_fitting_c)), (a_told_nearly, .inl (cs 0, 12, .inl a_told_nearly_c))])) (va_Qi (fun (r : Int32) (_ : Unit) => IV (-1) 11 r) (fun _ t => ∃ (o_a_known_c : Nat → Int32), va_P D classes [(a, .inr (3, [.ref a_told, .ref a_known])), (a_known, .inl (cs 0, 4096, .inl o_a_known_c)), (a_told, .inr (8, [.int a_told__stalls, .int a_told__shift, .int a_told__halves, .int a_told__buyers, .int a_told__near, .int a_told__dusk, .int a_told__duskPrice, .int a_told__hear, .int a_told__forged, .ref a_told_stall, .ref a_told_shape, .ref a_told_side, .ref a_told_price, .ref a_told_purse, .ref a_told_spot, .ref a_told_club, .ref a_told_fitting, .ref a_told_nearly])), (a_told_fitting, .inl (cs 0, 12, .inl a_told_fitting_c)), (a_told_nearly, .inl (cs 0, 12, .inl a_told_nearly_c))] t.heap ∧ va_D (va_A [(a, .inr (3, [.ref a_told, .ref a_known])), (a_known, .inl (cs 0, 4096, .inl a_known_c)), (a_told, .inr (8, [.int a_told__stalls, .int a_told__shift, .int a_told__halves, .int a_told__buyers, .int a_told__near, .int a_told__dusk, .int a_told__duskPrice, .int a_told__hear, .int a_told__forged, .ref a_told_stall, .ref a_told_shape, .ref a_told_side, .ref a_told_price, .ref a_told_purse, .ref a_told_spot, .ref a_told_club, .ref a_told_fitting, .ref a_told_nearly])), (a_told_fitting, .inl (cs 0, 12, .inl a_told_fitting_c)), (a_told_nearly, .inl (cs 0, 12, .inl a_told_nearly_c))] sz) [(a, .inr (3, [.ref a_told, .ref a_known])), (a_known, .inl (cs 0, 4096, .inl o_a_known_c)), (a_told, .inr (8, [.int a_told__stalls, .int a_told__shift, .int a_told__halves, .int a_told__buyers, .int a_told__near, .int a_told__dusk, .int a_told__duskPrice, .int a_told__hear, .int a_told__forged, .ref a_told_stall, .ref a_told_shape, .ref a_told_side, .ref a_told_price, .ref a_told_purse, .ref a_told_spot, .ref a_told_club, .ref a_told_fitting, .ref a_told_nearly])), (a_told_fitting, .inl (cs 0, 12, .inl a_told_fitting_c)), (a_told_nearly, .inl (cs 0, 12, .inl a_told_nearly_c))]) (va_A [(a, .inr (3, [.ref a_told, .ref a_known])), (a_known, .inl (cs 0, 4096, .inl a_known_c)), (a_told, .inr (8, [.int a_told__stalls, .int a_told__shift, .int a_told__halves, .int a_told__buyers, .int a_told__near, .int a_told__dusk, .int a_told__duskPrice, .int a_told__hear, .int a_told__forged, .ref a_told_stall, .ref a_told_shape, .ref a_told_side, .ref a_told_price, .ref a_told_purse, .ref a_told_spot, .ref a_told_club, .ref a_told_fitting, .ref a_told_nearly])), (a_told_fitting, .inl (cs 0, 12, .inl a_told_fitting_c)), (a_told_nearly, .inl (cs 0, 12, .inl a_told_nearly_c))] sz)) 0 0 (va_A [(a, .inr (3, [.ref a_told, .ref a_known])), (a_known, .inl (cs 0, 4096, .inl a_known_c)), (a_told, .inr (8, [.int a_told__stalls, .int a_told__shift, .int a_told__halves, .int a_told__buyers, .int a_told__near, .int a_told__dusk, .int a_told__duskPrice, .int a_told__hear, .int a_told__forged, .ref a_told_stall, .ref a_told_shape, .ref a_told_side, .ref a_told_price, .ref a_told_purse, .ref a_told_spot, .ref a_told_club, .ref a_told_fitting, .ref a_told_nearly])), (a_told_fitting, .inl (cs 0, 12, .inl a_told_fitting_c)), (a_told_nearly, .inl (cs 0, 12, .inl a_told_nearly_c))] sz) := by
  refine Met.ofW (cc := cX3_firstPartner) (maxL := 7) (ret := (some .int)) (by decide) rfl ?_
  intro p e s m args below meth c s₁ B hml hv
  obtain ⟨rfl, hsz, hP, hD0, hE⟩ := hv
  have hx := B.exec
  have hb := B.bytes
  have hr := B.returns
  have hT : ∀ w ∈ TB, w.before _ s = true := fun w h => atoms_spec (ws := hz_w yX3_firstPartner cX3_firstPartner 7 (some .int)) B.pre w (List.mem_cons_of_mem _ h)
  have hown : s.vm.findClass RX3 = some m.cls := findClass_of_methodNamed B.named
  have hlocks := B.notSynchronized
  clear B
  subst hsz
  have hD := hD0.self (sz := s.heap.size)
  generalize hAe : va_A [(a, .inr (3, [.ref a_told, .ref a_known])), (a_known, .inl (cs 0, 4096, .inl a_known_c)), (a_told, .inr (8, [.int a_told__stalls, .int a_told__shift, .int a_told__halves, .int a_told__buyers, .int a_told__near, .int a_told__dusk, .int a_told__duskPrice, .int a_told__hear, .int a_told__forged, .ref a_told_stall, .ref a_told_shape, .ref a_told_side, .ref a_told_price, .ref a_told_purse, .ref a_told_spot, .ref a_told_club, .ref a_told_fitting, .ref a_told_nearly])), (a_told_fitting, .inl (cs 0, 12, .inl a_told_fitting_c)), (a_told_nearly, .inl (cs 0, 12, .inl a_told_nearly_c))] s.heap.size = A at hD hE ⊢
  have hA : ∀ q : Nat, s.heap.size ≤ q → A q := fun q h => by rw [← hAe]; exact Or.inr h
  clear hAe hD0
  have hS : va_S A s.heap s.heap [] := va_S.rf
  have hK := hE.1
  have hl := lv_entry ([.ref a, .int p0, .int p1]) (n := 7) (Nat.le_of_ble_eq_true rfl)
  rw [lg_entry_eq]
  generalize (lg_sl ([.ref a, .int p0, .int p1]) ++ List.replicate (7 - (lg_sl ([.ref a, .int p0, .int p1])).length) Slot.unset).toArray = ls at hl ⊢
  have hl : lv_has ls 7 [(0, .ref a), (1, .int p0), (2, .int p1)] := hl
  obtain ⟨H, eH⟩ : ∃ z, z = s.heap := ⟨_, rfl⟩
  have hP : va_P D classes [(a, .inr (3, [.ref a_told, .ref a_known])), (a_known, .inl (cs 0, 4096, .inl a_known_c)), (a_told, .inr (8, [.int a_told__stalls, .int a_told__shift, .int a_told__halves, .int a_told__buyers, .int a_told__near, .int a_told__dusk, .int a_told__duskPrice, .int a_told__hear, .int a_told__forged, .ref a_told_stall, .ref a_told_shape, .ref a_told_side, .ref a_told_price, .ref a_told_purse, .ref a_told_spot, .ref a_told_club, .ref a_told_fitting, .ref a_told_nearly])), (a_told_fitting, .inl (cs 0, 12, .inl a_told_fitting_c)), (a_told_nearly, .inl (cs 0, 12, .inl a_told_nearly_c))] H := by rw [eH]; exact hP
  have hS : va_S A s.heap H [] := by rw [eH]; exact hS
  rw [← eH]
  clear eH
  obtain ⟨locs, el⟩ : ∃ z : List Loc, z = [] := ⟨_, rfl⟩
  rw [← el] at hS ⊢
  clear el
  have K58 : ∀ (n : Nat) (k58_L_6 : Int32) (k58_L_5 : Int32) (k58_L_4 : Int32) (k58_L_3 : Int32) (k58_C_a_known : Nat → Int32), (12 - k58_L_6.toInt + 1).toNat ≤ n → IV 1 12 k58_L_6 → ∀ (H : Heap) (locs : List Loc), va_P D classes [(a, .inr (3, [.ref a_told, .ref a_known])), (a_known, .inl (cs 0, 4096, .inl k58_C_a_known)), (a_told, .inr (8, [.int a_told__stalls, .int a_told__shift, .int a_told__halves, .int a_told__buyers, .int a_told__near, .int a_told__dusk, .int a_told__duskPrice, .int a_told__hear, .int a_told__forged, .ref a_told_stall, .ref a_told_shape, .ref a_told_side, .ref a_told_price, .ref a_told_purse, .ref a_told_spot, .ref a_told_club, .ref a_told_fitting, .ref a_told_nearly])), (a_told_fitting, .inl (cs 0, 12, .inl a_told_fitting_c)), (a_told_nearly, .inl (cs 0, 12, .inl a_told_nearly_c))] H → va_D A [(a, .inr (3, [.ref a_told, .ref a_known])), (a_known, .inl (cs 0, 4096, .inl k58_C_a_known)), (a_told, .inr (8, [.int a_told__stalls, .int a_told__shift, .int a_told__halves, .int a_told__buyers, .int a_told__near, .int a_told__dusk, .int a_told__duskPrice, .int a_told__hear, .int a_told__forged, .ref a_told_stall, .ref a_told_shape, .ref a_told_side, .ref a_told_price, .ref a_told_purse, .ref a_told_spot, .ref a_told_club, .ref a_told_fitting, .ref a_told_nearly])), (a_told_fitting, .inl (cs 0, 12, .inl a_told_fitting_c)), (a_told_nearly, .inl (cs 0, 12, .inl a_told_nearly_c))] → va_S A s.heap H locs → ∀ ls : Array Slot, lv_has ls 7 [(6, .int k58_L_6), (5, .int k58_L_5), (4, .int k58_L_4), (3, .int k58_L_3), (0, .ref a), (1, .int p0), (2, .int p1)] → W p l e (headSpec (hz_w yX3_firstPartner cX3_firstPartner 7 (some .int)) ({ frames := 15, cells := 0, slots := 0, locals := 399 })).room s m [.ref a, .int p0, .int p1].toArray below meth c H locs 0 0 (MQ below (va_Qi (fun (r : Int32) (_ : Unit) => IV (-1) 11 r) (fun _ t => ∃ (o_a_known_c : Nat → Int32), va_P D classes [(a, .inr (3, [.ref a_told, .ref a_known])), (a_known, .inl (cs 0, 4096, .inl o_a_known_c)), (a_told, .inr (8, [.int a_told__stalls, .int a_told__shift, .int a_told__halves, .int a_told__buyers, .int a_told__near, .int a_told__dusk, .int a_told__duskPrice, .int a_told__hear, .int a_told__forged, .ref a_told_stall, .ref a_told_shape, .ref a_told_side, .ref a_told_price, .ref a_told_purse, .ref a_told_spot, .ref a_told_club, .ref a_told_fitting, .ref a_told_nearly])), (a_told_fitting, .inl (cs 0, 12, .inl a_told_fitting_c)), (a_told_nearly, .inl (cs 0, 12, .inl a_told_nearly_c))] t.heap ∧ va_D A [(a, .inr (3, [.ref a_told, .ref a_known])), (a_known, .inl (cs 0, 4096, .inl o_a_known_c)), (a_told, .inr (8, [.int a_told__stalls, .int a_told__shift, .int a_told__halves, .int a_told__buyers, .int a_told__near, .int a_told__dusk, .int a_told__duskPrice, .int a_told__hear, .int a_told__forged, .ref a_told_stall, .ref a_told_shape, .ref a_told_side, .ref a_told_price, .ref a_told_purse, .ref a_told_spot, .ref a_told_club, .ref a_told_fitting, .ref a_told_nearly])), (a_told_fitting, .inl (cs 0, 12, .inl a_told_fitting_c)), (a_told_nearly, .inl (cs 0, 12, .inl a_told_nearly_c))]) A) [.ref a, .int p0, .int p1].toArray s 0 0 A) (F0 m 58 ls []) := by
    intro n
    induction n with
    | zero =>
      intro k58_L_6 k58_L_5 k58_L_4 k58_L_3 k58_C_a_known hn q58_3 H locs hP hD hS ls hl
      exact absurd hn (by unfold IV at q58_3; omega)
    | succ n ih58 =>
      intro k58_L_6 k58_L_5 k58_L_4 k58_L_3 k58_C_a_known hn q58_3 H locs hP hD hS ls hl
      have K104 : ∀ (k104_C_a_known : Nat → Int32), IV 1 11 k58_L_6 → ∀ (H : Heap) (locs : List Loc), va_P D classes [(a, .inr (3, [.ref a_told, .ref a_known])), (a_known, .inl (cs 0, 4096, .inl k104_C_a_known)), (a_told, .inr (8, [.int a_told__stalls, .int a_told__shift, .int a_told__halves, .int a_told__buyers, .int a_told__near, .int a_told__dusk, .int a_told__duskPrice, .int a_told__hear, .int a_told__forged, .ref a_told_stall, .ref a_told_shape, .ref a_told_side, .ref a_told_price, .ref a_told_purse, .ref a_told_spot, .ref a_told_club, .ref a_told_fitting, .ref a_told_nearly])), (a_told_fitting, .inl (cs 0, 12, .inl a_told_fitting_c)), (a_told_nearly, .inl (cs 0, 12, .inl a_told_nearly_c))] H → va_D A [(a, .inr (3, [.ref a_told, .ref a_known])), (a_known, .inl (cs 0, 4096, .inl k104_C_a_known)), (a_told, .inr (8, [.int a_told__stalls, .int a_told__shift, .int a_told__halves, .int a_told__buyers, .int a_told__near, .int a_told__dusk, .int a_told__duskPrice, .int a_told__hear, .int a_told__forged, .ref a_told_stall, .ref a_told_shape, .ref a_told_side, .ref a_told_price, .ref a_told_purse, .ref a_told_spot, .ref a_told_club, .ref a_told_fitting, .ref a_told_nearly])), (a_told_fitting, .inl (cs 0, 12, .inl a_told_fitting_c)), (a_told_nearly, .inl (cs 0, 12, .inl a_told_nearly_c))] → va_S A s.heap H locs → ∀ ls : Array Slot, lv_has ls 7 [(6, .int k58_L_6), (5, .int k58_L_5), (4, .int k58_L_4), (3, .int k58_L_3), (0, .ref a), (1, .int p0), (2, .int p1)] → W p l e (headSpec (hz_w yX3_firstPartner cX3_firstPartner 7 (some .int)) ({ frames := 15, cells := 0, slots := 0, locals := 399 })).room s m [.ref a, .int p0, .int p1].toArray below meth c H locs 0 0 (MQ below (va_Qi (fun (r : Int32) (_ : Unit) => IV (-1) 11 r) (fun _ t => ∃ (o_a_known_c : Nat → Int32), va_P D classes [(a, .inr (3, [.ref a_told, .ref a_known])), (a_known, .inl (cs 0, 4096, .inl o_a_known_c)), (a_told, .inr (8, [.int a_told__stalls, .int a_told__shift, .int a_told__halves, .int a_told__buyers, .int a_told__near, .int a_told__dusk, .int a_told__duskPrice, .int a_told__hear, .int a_told__forged, .ref a_told_stall, .ref a_told_shape, .ref a_told_side, .ref a_told_price, .ref a_told_purse, .ref a_told_spot, .ref a_told_club, .ref a_told_fitting, .ref a_told_nearly])), (a_told_fitting, .inl (cs 0, 12, .inl a_told_fitting_c)), (a_told_nearly, .inl (cs 0, 12, .inl a_told_nearly_c))] t.heap ∧ va_D A [(a, .inr (3, [.ref a_told, .ref a_known])), (a_known, .inl (cs 0, 4096, .inl o_a_known_c)), (a_told, .inr (8, [.int a_told__stalls, .int a_told__shift, .int a_told__halves, .int a_told__buyers, .int a_told__near, .int a_told__dusk, .int a_told__duskPrice, .int a_told__hear, .int a_told__forged, .ref a_told_stall, .ref a_told_shape, .ref a_told_side, .ref a_told_price, .ref a_told_purse, .ref a_told_spot, .ref a_told_club, .ref a_told_fitting, .ref a_told_nearly])), (a_told_fitting, .inl (cs 0, 12, .inl a_told_fitting_c)), (a_told_nearly, .inl (cs 0, 12, .inl a_told_nearly_c))]) A) [.ref a, .int p0, .int p1].toArray s 0 0 A) (F0 m 104 ls []) := by
        intro k104_C_a_known q104_3 H locs hP hD hS ls hl
        obtain ⟨v1, ev1⟩ : ∃ z : Int32, z = k58_L_6 + 1 := ⟨_, rfl⟩
        have hv1 : IV 2 12 v1 := iv_add ev1 q104_3 (iv_c (a := 1) (b := 1) (by decide)) (by decide) (by decide)
        have dv1 : v1.toInt = k58_L_6.toInt + 1 := iv_addE ev1 q104_3 (iv_c (a := 1) (b := 1) (by decide)) (by decide) (by decide) (by decide)
        refine lv_iinc (v := v1) (lv' := [(6, .int v1), (5, .int k58_L_5), (4, .int k58_L_4), (3, .int k58_L_3), (0, .ref a), (1, .int p0), (2, .int p1)]) hx hb dX3_firstPartner_104 hl (k := 0) rfl (by rw [ev1]; rfl) (by decide) rfl (fun ls hl => ?_)
        refine lv_goto (tgt := 58) hx hb dX3_firstPartner_107 (by decide) ?_
        exact ih58 v1 k58_L_5 k58_L_4 k58_L_3 k104_C_a_known (by have h9 := q104_3; unfold IV at h9; have := dv1; omega) (iv_w hv1 (by decide) (by decide)) H locs (hP.sub (ws' := [(a, .inr (3, [.ref a_told, .ref a_known])), (a_known, .inl (cs 0, 4096, .inl k104_C_a_known)), (a_told, .inr (8, [.int a_told__stalls, .int a_told__shift, .int a_told__halves, .int a_told__buyers, .int a_told__near, .int a_told__dusk, .int a_told__duskPrice, .int a_told__hear, .int a_told__forged, .ref a_told_stall, .ref a_told_shape, .ref a_told_side, .ref a_told_price, .ref a_told_purse, .ref a_told_spot, .ref a_told_club, .ref a_told_fitting, .ref a_told_nearly])), (a_told_fitting, .inl (cs 0, 12, .inl a_told_fitting_c)), (a_told_nearly, .inl (cs 0, 12, .inl a_told_nearly_c))]) [0, 1, 2, 3, 4] rfl) (hD.sub (ws' := [(a, .inr (3, [.ref a_told, .ref a_known])), (a_known, .inl (cs 0, 4096, .inl k104_C_a_known)), (a_told, .inr (8, [.int a_told__stalls, .int a_told__shift, .int a_told__halves, .int a_told__buyers, .int a_told__near, .int a_told__dusk, .int a_told__duskPrice, .int a_told__hear, .int a_told__forged, .ref a_told_stall, .ref a_told_shape, .ref a_told_side, .ref a_told_price, .ref a_told_purse, .ref a_told_spot, .ref a_told_club, .ref a_told_fitting, .ref a_told_nearly])), (a_told_fitting, .inl (cs 0, 12, .inl a_told_fitting_c)), (a_told_nearly, .inl (cs 0, 12, .inl a_told_nearly_c))]) [0, 1, 2, 3, 4] (by decide) rfl) hS ls (lv_sub hl [0, 1, 2, 3, 4, 5, 6] rfl)
      refine lv_iload hx hb dX3_firstPartner_58 (lv_at hl 0 rfl) ?_
      refine lv_bipush (v := 12) hx hb dX3_firstPartner_60 (by decide) ?_
      refine lv_icmp_ge (tgt := 110) hx hb dX3_firstPartner_62 (by decide) (fun c2 => ?_) (fun c2 => ?_)
      · have h3 : IV 12 12 k58_L_6 := iv_le2 c2 (iv_c (a := 12) (b := 12) (by decide)) q58_3 (by decide)
        refine lv_iconst (v := (-1)) hx hb dX3_firstPartner_110 (by decide) ?_
        refine W.widen (k := 0) (n := 0) (Nat.le_of_ble_eq_true rfl) (Nat.le_of_ble_eq_true rfl) ?_
        exact W.iret (v := (-1)) hx hb hr (fun t ht hW => ⟨⟨(-1), (), rfl, (iv_c (by decide)), k58_C_a_known, by rw [ht]; exact hP.sub [0, 1, 2, 3, 4] rfl, hD.sub [0, 1, 2, 3, 4] (by decide) rfl⟩, hS.F ht⟩) hS.2.2 dX3_firstPartner_111
      · have h4 : IV 1 11 k58_L_6 := iv_lt1 (Int32.not_le.mp c2) q58_3 (iv_c (a := 12) (b := 12) (by decide)) (by decide)
        refine lv_iload hx hb dX3_firstPartner_65 (lv_at hl 1 rfl) ?_
        refine lv_iload hx hb dX3_firstPartner_67 (lv_at hl 0 rfl) ?_
        refine lv_ishr hx hb dX3_firstPartner_69 ?_
        refine lv_topi (fun v5 ev5 => ?_)
        refine lv_iconst (v := 1) hx hb dX3_firstPartner_70 (by decide) ?_
        refine lv_iand hx hb dX3_firstPartner_71 ?_
        refine lv_topi (fun v6 ev6 => ?_)
        have hv6 : IV 0 1 v6 := iv_and2 ev6 (iv_c (a := 1) (b := 1) (by decide))
        refine lv_iconst (v := 1) hx hb dX3_firstPartner_72 (by decide) ?_
        refine lv_icmp_ne (tgt := 104) hx hb dX3_firstPartner_73 (by decide) (fun c7 => ?_) (fun c7 => ?_)
        · have h8 : IV 0 0 v6 := iv_neR c7 hv6 (by decide)
          exact K104 k58_C_a_known h4 H locs (hP.sub (ws' := [(a, .inr (3, [.ref a_told, .ref a_known])), (a_known, .inl (cs 0, 4096, .inl k58_C_a_known)), (a_told, .inr (8, [.int a_told__stalls, .int a_told__shift, .int a_told__halves, .int a_told__buyers, .int a_told__near, .int a_told__dusk, .int a_told__duskPrice, .int a_told__hear, .int a_told__forged, .ref a_told_stall, .ref a_told_shape, .ref a_told_side, .ref a_told_price, .ref a_told_purse, .ref a_told_spot, .ref a_told_club, .ref a_told_fitting, .ref a_told_nearly])), (a_told_fitting, .inl (cs 0, 12, .inl a_told_fitting_c)), (a_told_nearly, .inl (cs 0, 12, .inl a_told_nearly_c))]) [0, 1, 2, 3, 4] rfl) (hD.sub (ws' := [(a, .inr (3, [.ref a_told, .ref a_known])), (a_known, .inl (cs 0, 4096, .inl k58_C_a_known)), (a_told, .inr (8, [.int a_told__stalls, .int a_told__shift, .int a_told__halves, .int a_told__buyers, .int a_told__near, .int a_told__dusk, .int a_told__duskPrice, .int a_told__hear, .int a_told__forged, .ref a_told_stall, .ref a_told_shape, .ref a_told_side, .ref a_told_price, .ref a_told_purse, .ref a_told_spot, .ref a_told_club, .ref a_told_fitting, .ref a_told_nearly])), (a_told_fitting, .inl (cs 0, 12, .inl a_told_fitting_c)), (a_told_nearly, .inl (cs 0, 12, .inl a_told_nearly_c))]) [0, 1, 2, 3, 4] (by decide) rfl) hS ls (lv_sub hl [0, 1, 2, 3, 4, 5, 6] rfl)
        · have h9 : IV 1 1 v6 := iv_eq1 c7 hv6 (iv_c (a := 1) (b := 1) (by decide)) (by decide) (by decide)
          refine lv_aload_n hx hb dX3_firstPartner_76 rfl (lv_at hl 4 rfl) ?_
          refine lv_iload_n hx hb dX3_firstPartner_77 rfl (lv_at hl 5 rfl) ?_
          refine lv_iload hx hb dX3_firstPartner_78 (lv_at hl 0 rfl) ?_
          refine va_calli (va_runV (As := [.int p0, .int k58_L_6]) (rest := []) ⟨hx, hb, hml, hown, hT⟩ (c_X3_pairWorth l D cs kK kV a p0 k58_L_6 a_told a_known a_told__stalls a_told__shift a_told__halves a_told__buyers a_told__near a_told__dusk a_told__duskPrice a_told__hear a_told__forged a_told_stall a_told_shape a_told_side a_told_price a_told_purse a_told_spot a_told_club a_told_fitting a_told_nearly a_told_fitting_c h_p0) (cwV 2 hT (hz_gV q_540 q_541 q_542 q_236 q_543) rfl rfl rfl (by decide +kernel) ⟨(Nat.le_of_ble_eq_true rfl), (Nat.le_of_ble_eq_true rfl)⟩) ⟨hz_P.blind, va_recv hK hP (ci := 3) (q0 := 0) rfl rfl, hz_P.mk (hP.sub (ws' := [(a, .inr (3, [.ref a_told, .ref a_known])), (a_told, .inr (8, [.int a_told__stalls, .int a_told__shift, .int a_told__halves, .int a_told__buyers, .int a_told__near, .int a_told__dusk, .int a_told__duskPrice, .int a_told__hear, .int a_told__forged, .ref a_told_stall, .ref a_told_shape, .ref a_told_side, .ref a_told_price, .ref a_told_purse, .ref a_told_spot, .ref a_told_club, .ref a_told_fitting, .ref a_told_nearly])), (a_told_fitting, .inl (cs 0, 12, .inl a_told_fitting_c))]) [0,2,3] rfl) hE hS⟩ rfl rfl hl.1 rfl (lv_room (Nat.le_of_ble_eq_true rfl)) dX3_firstPartner_80 ⟨(Nat.le_of_ble_eq_true rfl), (Nat.le_of_ble_eq_true rfl)⟩) hS (fun _ _ h => h.elim) (fun _ h => h.elim) (fun r10 u t H1 locs ht hvm hw hB hz1 hk1 hS => ?_)
          have hP := hz_keep hP hk1
          clear hk1 hB hz1
          generalize H1 = H at hP hS ⊢
          rcases hw with rfl | rfl
          · refine lv_aload_n hx hb dX3_firstPartner_83 rfl (lv_at hl 4 rfl) ?_
            refine lv_iload_n hx hb dX3_firstPartner_84 rfl (lv_at hl 3 rfl) ?_
            refine lv_iconst (v := 1) hx hb dX3_firstPartner_85 (by decide) ?_
            refine lv_iload hx hb dX3_firstPartner_86 (lv_at hl 0 rfl) ?_
            refine lv_ishl hx hb dX3_firstPartner_88 ?_
            refine lv_topi (fun v11 ev11 => ?_)
            have hv11 : IV 1 2048 v11 := iv_shl1 ev11 h4 (by decide) (by decide) (by decide)
            refine lv_iconst (v := (-1)) hx hb dX3_firstPartner_89 (by decide) ?_
            refine lv_ixor hx hb dX3_firstPartner_90 ?_
            refine lv_topi (fun v12 ev12 => ?_)
            refine lv_iand hx hb dX3_firstPartner_91 ?_
            refine lv_topi (fun v13 ev13 => ?_)
            have hFc := va_free (wc := [(a, .inr (3, [.ref a_told, .ref a_known])), (a_known, .inl (cs 0, 4096, .inl k58_C_a_known)), (a_told, .inr (8, [.int a_told__stalls, .int a_told__shift, .int a_told__halves, .int a_told__buyers, .int a_told__near, .int a_told__dusk, .int a_told__duskPrice, .int a_told__hear, .int a_told__forged, .ref a_told_stall, .ref a_told_shape, .ref a_told_side, .ref a_told_price, .ref a_told_purse, .ref a_told_spot, .ref a_told_club, .ref a_told_fitting, .ref a_told_nearly])), (a_told_fitting, .inl (cs 0, 12, .inl a_told_fitting_c)), (a_told_nearly, .inl (cs 0, 12, .inl a_told_nearly_c))]) hD hS hA [0,1,2,3,4] rfl
            refine va_calli (va_runV (As := [.int v13]) (rest := [.int 20]) ⟨hx, hb, hml, hown, hT⟩ (c_X3_mostOf l D cs kK kV a v13 a_told a_known k58_C_a_known a_told__stalls a_told__shift a_told__halves a_told__buyers a_told__near a_told__dusk a_told__duskPrice a_told__hear a_told__forged a_told_stall a_told_shape a_told_side a_told_price a_told_purse a_told_spot a_told_club a_told_fitting a_told_nearly a_told_fitting_c a_told_nearly_c H.size) (cwV 1 hT (hz_gV q_549 q_275 q_276 q_236 q_277) rfl rfl rfl (by decide +kernel) ⟨(Nat.le_of_ble_eq_true rfl), (Nat.le_of_ble_eq_true rfl)⟩) ⟨hz_C.blind, va_recv hK hP (ci := 3) (q0 := 0) rfl rfl, hz_C.mk (hP.sub (ws' := [(a, .inr (3, [.ref a_told, .ref a_known])), (a_known, .inl (cs 0, 4096, .inl k58_C_a_known)), (a_told, .inr (8, [.int a_told__stalls, .int a_told__shift, .int a_told__halves, .int a_told__buyers, .int a_told__near, .int a_told__dusk, .int a_told__duskPrice, .int a_told__hear, .int a_told__forged, .ref a_told_stall, .ref a_told_shape, .ref a_told_side, .ref a_told_price, .ref a_told_purse, .ref a_told_spot, .ref a_told_club, .ref a_told_fitting, .ref a_told_nearly])), (a_told_fitting, .inl (cs 0, 12, .inl a_told_fitting_c)), (a_told_nearly, .inl (cs 0, 12, .inl a_told_nearly_c))]) [0,1,2,3,4] rfl) (hD.sub (ws' := [(a, .inr (3, [.ref a_told, .ref a_known])), (a_known, .inl (cs 0, 4096, .inl k58_C_a_known)), (a_told, .inr (8, [.int a_told__stalls, .int a_told__shift, .int a_told__halves, .int a_told__buyers, .int a_told__near, .int a_told__dusk, .int a_told__duskPrice, .int a_told__hear, .int a_told__forged, .ref a_told_stall, .ref a_told_shape, .ref a_told_side, .ref a_told_price, .ref a_told_purse, .ref a_told_spot, .ref a_told_club, .ref a_told_fitting, .ref a_told_nearly])), (a_told_fitting, .inl (cs 0, 12, .inl a_told_fitting_c)), (a_told_nearly, .inl (cs 0, 12, .inl a_told_nearly_c))]) [0,1,2,3,4] (by decide) rfl) hE hS hFc⟩ rfl rfl hl.1 rfl (lv_room (Nat.le_of_ble_eq_true rfl)) dX3_firstPartner_92 ⟨(Nat.le_of_ble_eq_true rfl), (Nat.le_of_ble_eq_true rfl)⟩) hS (fun q _ h => hFc q h) hFc (fun r14 u t H1 locs ht hvm hw hB hz1 hk1 hS => ?_)
            obtain ⟨o15, hP1, hD1⟩ := hB
            rw [ht] at hP1
            obtain ⟨hP, hD⟩ := va_join (wr := []) (w1 := [(a, .inr (3, [.ref a_told, .ref a_known])), (a_known, .inl (cs 0, 4096, .inl o15)), (a_told, .inr (8, [.int a_told__stalls, .int a_told__shift, .int a_told__halves, .int a_told__buyers, .int a_told__near, .int a_told__dusk, .int a_told__duskPrice, .int a_told__hear, .int a_told__forged, .ref a_told_stall, .ref a_told_shape, .ref a_told_side, .ref a_told_price, .ref a_told_purse, .ref a_told_spot, .ref a_told_club, .ref a_told_fitting, .ref a_told_nearly])), (a_told_fitting, .inl (cs 0, 12, .inl a_told_fitting_c)), (a_told_nearly, .inl (cs 0, 12, .inl a_told_nearly_c))]) hP hD [0, 1, 2, 3, 4] [] rfl rfl (by decide) (by decide) hk1 hFc hP1 hD1
            generalize H1 = H at hP hS ⊢
            have hP : va_P D classes [(a, .inr (3, [.ref a_told, .ref a_known])), (a_known, .inl (cs 0, 4096, .inl o15)), (a_told, .inr (8, [.int a_told__stalls, .int a_told__shift, .int a_told__halves, .int a_told__buyers, .int a_told__near, .int a_told__dusk, .int a_told__duskPrice, .int a_told__hear, .int a_told__forged, .ref a_told_stall, .ref a_told_shape, .ref a_told_side, .ref a_told_price, .ref a_told_purse, .ref a_told_spot, .ref a_told_club, .ref a_told_fitting, .ref a_told_nearly])), (a_told_fitting, .inl (cs 0, 12, .inl a_told_fitting_c)), (a_told_nearly, .inl (cs 0, 12, .inl a_told_nearly_c))] H := hP
            have hD : va_D A [(a, .inr (3, [.ref a_told, .ref a_known])), (a_known, .inl (cs 0, 4096, .inl o15)), (a_told, .inr (8, [.int a_told__stalls, .int a_told__shift, .int a_told__halves, .int a_told__buyers, .int a_told__near, .int a_told__dusk, .int a_told__duskPrice, .int a_told__hear, .int a_told__forged, .ref a_told_stall, .ref a_told_shape, .ref a_told_side, .ref a_told_price, .ref a_told_purse, .ref a_told_spot, .ref a_told_club, .ref a_told_fitting, .ref a_told_nearly])), (a_told_fitting, .inl (cs 0, 12, .inl a_told_fitting_c)), (a_told_nearly, .inl (cs 0, 12, .inl a_told_nearly_c))] := hD
            clear hk1 hFc hP1 hD1 hz1
            refine lv_iadd hx hb dX3_firstPartner_95 ?_
            refine lv_topi (fun v16 ev16 => ?_)
            refine lv_iload hx hb dX3_firstPartner_96 (lv_at hl 2 rfl) ?_
            refine lv_icmp_ne (tgt := 104) hx hb dX3_firstPartner_98 (by decide) (fun c17 => ?_) (fun c17 => ?_)
            · exact K104 o15 h4 H locs (hP.sub (ws' := [(a, .inr (3, [.ref a_told, .ref a_known])), (a_known, .inl (cs 0, 4096, .inl o15)), (a_told, .inr (8, [.int a_told__stalls, .int a_told__shift, .int a_told__halves, .int a_told__buyers, .int a_told__near, .int a_told__dusk, .int a_told__duskPrice, .int a_told__hear, .int a_told__forged, .ref a_told_stall, .ref a_told_shape, .ref a_told_side, .ref a_told_price, .ref a_told_purse, .ref a_told_spot, .ref a_told_club, .ref a_told_fitting, .ref a_told_nearly])), (a_told_fitting, .inl (cs 0, 12, .inl a_told_fitting_c)), (a_told_nearly, .inl (cs 0, 12, .inl a_told_nearly_c))]) [0, 1, 2, 3, 4] rfl) (hD.sub (ws' := [(a, .inr (3, [.ref a_told, .ref a_known])), (a_known, .inl (cs 0, 4096, .inl o15)), (a_told, .inr (8, [.int a_told__stalls, .int a_told__shift, .int a_told__halves, .int a_told__buyers, .int a_told__near, .int a_told__dusk, .int a_told__duskPrice, .int a_told__hear, .int a_told__forged, .ref a_told_stall, .ref a_told_shape, .ref a_told_side, .ref a_told_price, .ref a_told_purse, .ref a_told_spot, .ref a_told_club, .ref a_told_fitting, .ref a_told_nearly])), (a_told_fitting, .inl (cs 0, 12, .inl a_told_fitting_c)), (a_told_nearly, .inl (cs 0, 12, .inl a_told_nearly_c))]) [0, 1, 2, 3, 4] (by decide) rfl) hS ls (lv_sub hl [0, 1, 2, 3, 4, 5, 6] rfl)
            · refine lv_iload hx hb dX3_firstPartner_101 (lv_at hl 0 rfl) ?_
              refine W.widen (k := 0) (n := 0) (Nat.le_of_ble_eq_true rfl) (Nat.le_of_ble_eq_true rfl) ?_
              exact W.iret (v := k58_L_6) hx hb hr (fun t ht hW => ⟨⟨k58_L_6, (), rfl, (iv_w h4 (by decide) (by decide)), o15, by rw [ht]; exact hP.sub [0, 1, 2, 3, 4] rfl, hD.sub [0, 1, 2, 3, 4] (by decide) rfl⟩, hS.F ht⟩) hS.2.2 dX3_firstPartner_103
          · refine lv_aload_n hx hb dX3_firstPartner_83 rfl (lv_at hl 4 rfl) ?_
            refine lv_iload_n hx hb dX3_firstPartner_84 rfl (lv_at hl 3 rfl) ?_
            refine lv_iconst (v := 1) hx hb dX3_firstPartner_85 (by decide) ?_
            refine lv_iload hx hb dX3_firstPartner_86 (lv_at hl 0 rfl) ?_
            refine lv_ishl hx hb dX3_firstPartner_88 ?_
            refine lv_topi (fun v18 ev18 => ?_)
            have hv18 : IV 1 2048 v18 := iv_shl1 ev18 h4 (by decide) (by decide) (by decide)
            refine lv_iconst (v := (-1)) hx hb dX3_firstPartner_89 (by decide) ?_
            refine lv_ixor hx hb dX3_firstPartner_90 ?_
            refine lv_topi (fun v19 ev19 => ?_)
            refine lv_iand hx hb dX3_firstPartner_91 ?_
            refine lv_topi (fun v20 ev20 => ?_)
            have hFc := va_free (wc := [(a, .inr (3, [.ref a_told, .ref a_known])), (a_known, .inl (cs 0, 4096, .inl k58_C_a_known)), (a_told, .inr (8, [.int a_told__stalls, .int a_told__shift, .int a_told__halves, .int a_told__buyers, .int a_told__near, .int a_told__dusk, .int a_told__duskPrice, .int a_told__hear, .int a_told__forged, .ref a_told_stall, .ref a_told_shape, .ref a_told_side, .ref a_told_price, .ref a_told_purse, .ref a_told_spot, .ref a_told_club, .ref a_told_fitting, .ref a_told_nearly])), (a_told_fitting, .inl (cs 0, 12, .inl a_told_fitting_c)), (a_told_nearly, .inl (cs 0, 12, .inl a_told_nearly_c))]) hD hS hA [0,1,2,3,4] rfl
            refine va_calli (va_runV (As := [.int v20]) (rest := [.int 40]) ⟨hx, hb, hml, hown, hT⟩ (c_X3_mostOf l D cs kK kV a v20 a_told a_known k58_C_a_known a_told__stalls a_told__shift a_told__halves a_told__buyers a_told__near a_told__dusk a_told__duskPrice a_told__hear a_told__forged a_told_stall a_told_shape a_told_side a_told_price a_told_purse a_told_spot a_told_club a_told_fitting a_told_nearly a_told_fitting_c a_told_nearly_c H.size) (cwV 1 hT (hz_gV q_549 q_275 q_276 q_236 q_277) rfl rfl rfl (by decide +kernel) ⟨(Nat.le_of_ble_eq_true rfl), (Nat.le_of_ble_eq_true rfl)⟩) ⟨hz_C.blind, va_recv hK hP (ci := 3) (q0 := 0) rfl rfl, hz_C.mk (hP.sub (ws' := [(a, .inr (3, [.ref a_told, .ref a_known])), (a_known, .inl (cs 0, 4096, .inl k58_C_a_known)), (a_told, .inr (8, [.int a_told__stalls, .int a_told__shift, .int a_told__halves, .int a_told__buyers, .int a_told__near, .int a_told__dusk, .int a_told__duskPrice, .int a_told__hear, .int a_told__forged, .ref a_told_stall, .ref a_told_shape, .ref a_told_side, .ref a_told_price, .ref a_told_purse, .ref a_told_spot, .ref a_told_club, .ref a_told_fitting, .ref a_told_nearly])), (a_told_fitting, .inl (cs 0, 12, .inl a_told_fitting_c)), (a_told_nearly, .inl (cs 0, 12, .inl a_told_nearly_c))]) [0,1,2,3,4] rfl) (hD.sub (ws' := [(a, .inr (3, [.ref a_told, .ref a_known])), (a_known, .inl (cs 0, 4096, .inl k58_C_a_known)), (a_told, .inr (8, [.int a_told__stalls, .int a_told__shift, .int a_told__halves, .int a_told__buyers, .int a_told__near, .int a_told__dusk, .int a_told__duskPrice, .int a_told__hear, .int a_told__forged, .ref a_told_stall, .ref a_told_shape, .ref a_told_side, .ref a_told_price, .ref a_told_purse, .ref a_told_spot, .ref a_told_club, .ref a_told_fitting, .ref a_told_nearly])), (a_told_fitting, .inl (cs 0, 12, .inl a_told_fitting_c)), (a_told_nearly, .inl (cs 0, 12, .inl a_told_nearly_c))]) [0,1,2,3,4] (by decide) rfl) hE hS hFc⟩ rfl rfl hl.1 rfl (lv_room (Nat.le_of_ble_eq_true rfl)) dX3_firstPartner_92 ⟨(Nat.le_of_ble_eq_true rfl), (Nat.le_of_ble_eq_true rfl)⟩) hS (fun q _ h => hFc q h) hFc (fun r21 u t H1 locs ht hvm hw hB hz1 hk1 hS => ?_)
            obtain ⟨o22, hP1, hD1⟩ := hB
            rw [ht] at hP1
            obtain ⟨hP, hD⟩ := va_join (wr := []) (w1 := [(a, .inr (3, [.ref a_told, .ref a_known])), (a_known, .inl (cs 0, 4096, .inl o22)), (a_told, .inr (8, [.int a_told__stalls, .int a_told__shift, .int a_told__halves, .int a_told__buyers, .int a_told__near, .int a_told__dusk, .int a_told__duskPrice, .int a_told__hear, .int a_told__forged, .ref a_told_stall, .ref a_told_shape, .ref a_told_side, .ref a_told_price, .ref a_told_purse, .ref a_told_spot, .ref a_told_club, .ref a_told_fitting, .ref a_told_nearly])), (a_told_fitting, .inl (cs 0, 12, .inl a_told_fitting_c)), (a_told_nearly, .inl (cs 0, 12, .inl a_told_nearly_c))]) hP hD [0, 1, 2, 3, 4] [] rfl rfl (by decide) (by decide) hk1 hFc hP1 hD1
            generalize H1 = H at hP hS ⊢
            have hP : va_P D classes [(a, .inr (3, [.ref a_told, .ref a_known])), (a_known, .inl (cs 0, 4096, .inl o22)), (a_told, .inr (8, [.int a_told__stalls, .int a_told__shift, .int a_told__halves, .int a_told__buyers, .int a_told__near, .int a_told__dusk, .int a_told__duskPrice, .int a_told__hear, .int a_told__forged, .ref a_told_stall, .ref a_told_shape, .ref a_told_side, .ref a_told_price, .ref a_told_purse, .ref a_told_spot, .ref a_told_club, .ref a_told_fitting, .ref a_told_nearly])), (a_told_fitting, .inl (cs 0, 12, .inl a_told_fitting_c)), (a_told_nearly, .inl (cs 0, 12, .inl a_told_nearly_c))] H := hP
            have hD : va_D A [(a, .inr (3, [.ref a_told, .ref a_known])), (a_known, .inl (cs 0, 4096, .inl o22)), (a_told, .inr (8, [.int a_told__stalls, .int a_told__shift, .int a_told__halves, .int a_told__buyers, .int a_told__near, .int a_told__dusk, .int a_told__duskPrice, .int a_told__hear, .int a_told__forged, .ref a_told_stall, .ref a_told_shape, .ref a_told_side, .ref a_told_price, .ref a_told_purse, .ref a_told_spot, .ref a_told_club, .ref a_told_fitting, .ref a_told_nearly])), (a_told_fitting, .inl (cs 0, 12, .inl a_told_fitting_c)), (a_told_nearly, .inl (cs 0, 12, .inl a_told_nearly_c))] := hD
            clear hk1 hFc hP1 hD1 hz1
            refine lv_iadd hx hb dX3_firstPartner_95 ?_
            refine lv_topi (fun v23 ev23 => ?_)
            refine lv_iload hx hb dX3_firstPartner_96 (lv_at hl 2 rfl) ?_
            refine lv_icmp_ne (tgt := 104) hx hb dX3_firstPartner_98 (by decide) (fun c24 => ?_) (fun c24 => ?_)
            · exact K104 o22 h4 H locs (hP.sub (ws' := [(a, .inr (3, [.ref a_told, .ref a_known])), (a_known, .inl (cs 0, 4096, .inl o22)), (a_told, .inr (8, [.int a_told__stalls, .int a_told__shift, .int a_told__halves, .int a_told__buyers, .int a_told__near, .int a_told__dusk, .int a_told__duskPrice, .int a_told__hear, .int a_told__forged, .ref a_told_stall, .ref a_told_shape, .ref a_told_side, .ref a_told_price, .ref a_told_purse, .ref a_told_spot, .ref a_told_club, .ref a_told_fitting, .ref a_told_nearly])), (a_told_fitting, .inl (cs 0, 12, .inl a_told_fitting_c)), (a_told_nearly, .inl (cs 0, 12, .inl a_told_nearly_c))]) [0, 1, 2, 3, 4] rfl) (hD.sub (ws' := [(a, .inr (3, [.ref a_told, .ref a_known])), (a_known, .inl (cs 0, 4096, .inl o22)), (a_told, .inr (8, [.int a_told__stalls, .int a_told__shift, .int a_told__halves, .int a_told__buyers, .int a_told__near, .int a_told__dusk, .int a_told__duskPrice, .int a_told__hear, .int a_told__forged, .ref a_told_stall, .ref a_told_shape, .ref a_told_side, .ref a_told_price, .ref a_told_purse, .ref a_told_spot, .ref a_told_club, .ref a_told_fitting, .ref a_told_nearly])), (a_told_fitting, .inl (cs 0, 12, .inl a_told_fitting_c)), (a_told_nearly, .inl (cs 0, 12, .inl a_told_nearly_c))]) [0, 1, 2, 3, 4] (by decide) rfl) hS ls (lv_sub hl [0, 1, 2, 3, 4, 5, 6] rfl)
            · refine lv_iload hx hb dX3_firstPartner_101 (lv_at hl 0 rfl) ?_
              refine W.widen (k := 0) (n := 0) (Nat.le_of_ble_eq_true rfl) (Nat.le_of_ble_eq_true rfl) ?_
              exact W.iret (v := k58_L_6) hx hb hr (fun t ht hW => ⟨⟨k58_L_6, (), rfl, (iv_w h4 (by decide) (by decide)), o22, by rw [ht]; exact hP.sub [0, 1, 2, 3, 4] rfl, hD.sub [0, 1, 2, 3, 4] (by decide) rfl⟩, hS.F ht⟩) hS.2.2 dX3_firstPartner_103
  refine lv_iload_n hx hb dX3_firstPartner_0 rfl (lv_at hl 2 rfl) ?_
  refine lv_iconst (v := 1) hx hb dX3_firstPartner_1 (by decide) ?_
  refine lv_iload_n hx hb dX3_firstPartner_2 rfl (lv_at hl 1 rfl) ?_
  refine lv_ishl hx hb dX3_firstPartner_3 ?_
  refine lv_topi (fun v25 ev25 => ?_)
  have hv25 : IV 1 2048 v25 := iv_shl1 ev25 h_p0 (by decide) (by decide) (by decide)
  refine lv_iconst (v := (-1)) hx hb dX3_firstPartner_4 (by decide) ?_
  refine lv_ixor hx hb dX3_firstPartner_5 ?_
  refine lv_topi (fun v26 ev26 => ?_)
  refine lv_iand hx hb dX3_firstPartner_6 ?_
  refine lv_topi (fun v27 ev27 => ?_)
  refine lv_istore_n (lv' := [(3, .int v27), (0, .ref a), (1, .int p0), (2, .int p1)]) hx hb dX3_firstPartner_7 rfl hl (by decide) rfl (fun ls hl => ?_)
  refine lv_aload_n hx hb dX3_firstPartner_8 rfl (lv_at hl 1 rfl) ?_
  refine lv_iload_n hx hb dX3_firstPartner_9 rfl (lv_at hl 3 rfl) ?_
  have hFc := va_free (wc := [(a, .inr (3, [.ref a_told, .ref a_known])), (a_known, .inl (cs 0, 4096, .inl a_known_c)), (a_told, .inr (8, [.int a_told__stalls, .int a_told__shift, .int a_told__halves, .int a_told__buyers, .int a_told__near, .int a_told__dusk, .int a_told__duskPrice, .int a_told__hear, .int a_told__forged, .ref a_told_stall, .ref a_told_shape, .ref a_told_side, .ref a_told_price, .ref a_told_purse, .ref a_told_spot, .ref a_told_club, .ref a_told_fitting, .ref a_told_nearly])), (a_told_fitting, .inl (cs 0, 12, .inl a_told_fitting_c)), (a_told_nearly, .inl (cs 0, 12, .inl a_told_nearly_c))]) hD hS hA [0,1,2,3,4] rfl
  refine va_calli (va_runV (As := [.int p1]) (rest := []) ⟨hx, hb, hml, hown, hT⟩ (c_X3_mostOf l D cs kK kV a p1 a_told a_known a_known_c a_told__stalls a_told__shift a_told__halves a_told__buyers a_told__near a_told__dusk a_told__duskPrice a_told__hear a_told__forged a_told_stall a_told_shape a_told_side a_told_price a_told_purse a_told_spot a_told_club a_told_fitting a_told_nearly a_told_fitting_c a_told_nearly_c H.size) (cwV 1 hT (hz_gV q_549 q_275 q_276 q_236 q_277) rfl rfl rfl (by decide +kernel) ⟨(Nat.le_of_ble_eq_true rfl), (Nat.le_of_ble_eq_true rfl)⟩) ⟨hz_C.blind, va_recv hK hP (ci := 3) (q0 := 0) rfl rfl, hz_C.mk (hP.sub (ws' := [(a, .inr (3, [.ref a_told, .ref a_known])), (a_known, .inl (cs 0, 4096, .inl a_known_c)), (a_told, .inr (8, [.int a_told__stalls, .int a_told__shift, .int a_told__halves, .int a_told__buyers, .int a_told__near, .int a_told__dusk, .int a_told__duskPrice, .int a_told__hear, .int a_told__forged, .ref a_told_stall, .ref a_told_shape, .ref a_told_side, .ref a_told_price, .ref a_told_purse, .ref a_told_spot, .ref a_told_club, .ref a_told_fitting, .ref a_told_nearly])), (a_told_fitting, .inl (cs 0, 12, .inl a_told_fitting_c)), (a_told_nearly, .inl (cs 0, 12, .inl a_told_nearly_c))]) [0,1,2,3,4] rfl) (hD.sub (ws' := [(a, .inr (3, [.ref a_told, .ref a_known])), (a_known, .inl (cs 0, 4096, .inl a_known_c)), (a_told, .inr (8, [.int a_told__stalls, .int a_told__shift, .int a_told__halves, .int a_told__buyers, .int a_told__near, .int a_told__dusk, .int a_told__duskPrice, .int a_told__hear, .int a_told__forged, .ref a_told_stall, .ref a_told_shape, .ref a_told_side, .ref a_told_price, .ref a_told_purse, .ref a_told_spot, .ref a_told_club, .ref a_told_fitting, .ref a_told_nearly])), (a_told_fitting, .inl (cs 0, 12, .inl a_told_fitting_c)), (a_told_nearly, .inl (cs 0, 12, .inl a_told_nearly_c))]) [0,1,2,3,4] (by decide) rfl) hE hS hFc⟩ rfl rfl hl.1 rfl (lv_room (Nat.le_of_ble_eq_true rfl)) dX3_firstPartner_10 ⟨(Nat.le_of_ble_eq_true rfl), (Nat.le_of_ble_eq_true rfl)⟩) hS (fun q _ h => hFc q h) hFc (fun r28 u t H1 locs ht hvm hw hB hz1 hk1 hS => ?_)
  obtain ⟨o29, hP1, hD1⟩ := hB
  rw [ht] at hP1
  obtain ⟨hP, hD⟩ := va_join (wr := []) (w1 := [(a, .inr (3, [.ref a_told, .ref a_known])), (a_known, .inl (cs 0, 4096, .inl o29)), (a_told, .inr (8, [.int a_told__stalls, .int a_told__shift, .int a_told__halves, .int a_told__buyers, .int a_told__near, .int a_told__dusk, .int a_told__duskPrice, .int a_told__hear, .int a_told__forged, .ref a_told_stall, .ref a_told_shape, .ref a_told_side, .ref a_told_price, .ref a_told_purse, .ref a_told_spot, .ref a_told_club, .ref a_told_fitting, .ref a_told_nearly])), (a_told_fitting, .inl (cs 0, 12, .inl a_told_fitting_c)), (a_told_nearly, .inl (cs 0, 12, .inl a_told_nearly_c))]) hP hD [0, 1, 2, 3, 4] [] rfl rfl (by decide) (by decide) hk1 hFc hP1 hD1
  generalize H1 = H at hP hS ⊢
  have hP : va_P D classes [(a, .inr (3, [.ref a_told, .ref a_known])), (a_known, .inl (cs 0, 4096, .inl o29)), (a_told, .inr (8, [.int a_told__stalls, .int a_told__shift, .int a_told__halves, .int a_told__buyers, .int a_told__near, .int a_told__dusk, .int a_told__duskPrice, .int a_told__hear, .int a_told__forged, .ref a_told_stall, .ref a_told_shape, .ref a_told_side, .ref a_told_price, .ref a_told_purse, .ref a_told_spot, .ref a_told_club, .ref a_told_fitting, .ref a_told_nearly])), (a_told_fitting, .inl (cs 0, 12, .inl a_told_fitting_c)), (a_told_nearly, .inl (cs 0, 12, .inl a_told_nearly_c))] H := hP
  have hD : va_D A [(a, .inr (3, [.ref a_told, .ref a_known])), (a_known, .inl (cs 0, 4096, .inl o29)), (a_told, .inr (8, [.int a_told__stalls, .int a_told__shift, .int a_told__halves, .int a_told__buyers, .int a_told__near, .int a_told__dusk, .int a_told__duskPrice, .int a_told__hear, .int a_told__forged, .ref a_told_stall, .ref a_told_shape, .ref a_told_side, .ref a_told_price, .ref a_told_purse, .ref a_told_spot, .ref a_told_club, .ref a_told_fitting, .ref a_told_nearly])), (a_told_fitting, .inl (cs 0, 12, .inl a_told_fitting_c)), (a_told_nearly, .inl (cs 0, 12, .inl a_told_nearly_c))] := hD
  clear hk1 hFc hP1 hD1 hz1
  refine lv_istore (lv' := [(4, .int r28), (3, .int v27), (0, .ref a), (1, .int p0), (2, .int p1)]) hx hb dX3_firstPartner_13 hl (by decide) rfl (fun ls hl => ?_)
  refine lv_bipush (v := 9) hx hb dX3_firstPartner_15 (by decide) ?_
  refine lv_aload_n hx hb dX3_firstPartner_17 rfl (lv_at hl 2 rfl) ?_
  refine lv_iload_n hx hb dX3_firstPartner_18 rfl (lv_at hl 1 rfl) ?_
  have hFc := va_free (wc := [(a, .inr (3, [.ref a_told, .ref a_known])), (a_known, .inl (cs 0, 4096, .inl o29)), (a_told, .inr (8, [.int a_told__stalls, .int a_told__shift, .int a_told__halves, .int a_told__buyers, .int a_told__near, .int a_told__dusk, .int a_told__duskPrice, .int a_told__hear, .int a_told__forged, .ref a_told_stall, .ref a_told_shape, .ref a_told_side, .ref a_told_price, .ref a_told_purse, .ref a_told_spot, .ref a_told_club, .ref a_told_fitting, .ref a_told_nearly])), (a_told_fitting, .inl (cs 0, 12, .inl a_told_fitting_c)), (a_told_nearly, .inl (cs 0, 12, .inl a_told_nearly_c))]) hD hS hA [0,1,2,3,4] rfl
  refine va_calli (va_runV (As := [.int v27]) (rest := [.int 9]) ⟨hx, hb, hml, hown, hT⟩ (c_X3_mostOf l D cs kK kV a v27 a_told a_known o29 a_told__stalls a_told__shift a_told__halves a_told__buyers a_told__near a_told__dusk a_told__duskPrice a_told__hear a_told__forged a_told_stall a_told_shape a_told_side a_told_price a_told_purse a_told_spot a_told_club a_told_fitting a_told_nearly a_told_fitting_c a_told_nearly_c H.size) (cwV 1 hT (hz_gV q_549 q_275 q_276 q_236 q_277) rfl rfl rfl (by decide +kernel) ⟨(Nat.le_of_ble_eq_true rfl), (Nat.le_of_ble_eq_true rfl)⟩) ⟨hz_C.blind, va_recv hK hP (ci := 3) (q0 := 0) rfl rfl, hz_C.mk (hP.sub (ws' := [(a, .inr (3, [.ref a_told, .ref a_known])), (a_known, .inl (cs 0, 4096, .inl o29)), (a_told, .inr (8, [.int a_told__stalls, .int a_told__shift, .int a_told__halves, .int a_told__buyers, .int a_told__near, .int a_told__dusk, .int a_told__duskPrice, .int a_told__hear, .int a_told__forged, .ref a_told_stall, .ref a_told_shape, .ref a_told_side, .ref a_told_price, .ref a_told_purse, .ref a_told_spot, .ref a_told_club, .ref a_told_fitting, .ref a_told_nearly])), (a_told_fitting, .inl (cs 0, 12, .inl a_told_fitting_c)), (a_told_nearly, .inl (cs 0, 12, .inl a_told_nearly_c))]) [0,1,2,3,4] rfl) (hD.sub (ws' := [(a, .inr (3, [.ref a_told, .ref a_known])), (a_known, .inl (cs 0, 4096, .inl o29)), (a_told, .inr (8, [.int a_told__stalls, .int a_told__shift, .int a_told__halves, .int a_told__buyers, .int a_told__near, .int a_told__dusk, .int a_told__duskPrice, .int a_told__hear, .int a_told__forged, .ref a_told_stall, .ref a_told_shape, .ref a_told_side, .ref a_told_price, .ref a_told_purse, .ref a_told_spot, .ref a_told_club, .ref a_told_fitting, .ref a_told_nearly])), (a_told_fitting, .inl (cs 0, 12, .inl a_told_fitting_c)), (a_told_nearly, .inl (cs 0, 12, .inl a_told_nearly_c))]) [0,1,2,3,4] (by decide) rfl) hE hS hFc⟩ rfl rfl hl.1 rfl (lv_room (Nat.le_of_ble_eq_true rfl)) dX3_firstPartner_19 ⟨(Nat.le_of_ble_eq_true rfl), (Nat.le_of_ble_eq_true rfl)⟩) hS (fun q _ h => hFc q h) hFc (fun r30 u t H1 locs ht hvm hw hB hz1 hk1 hS => ?_)
  obtain ⟨o31, hP1, hD1⟩ := hB
  rw [ht] at hP1
  obtain ⟨hP, hD⟩ := va_join (wr := []) (w1 := [(a, .inr (3, [.ref a_told, .ref a_known])), (a_known, .inl (cs 0, 4096, .inl o31)), (a_told, .inr (8, [.int a_told__stalls, .int a_told__shift, .int a_told__halves, .int a_told__buyers, .int a_told__near, .int a_told__dusk, .int a_told__duskPrice, .int a_told__hear, .int a_told__forged, .ref a_told_stall, .ref a_told_shape, .ref a_told_side, .ref a_told_price, .ref a_told_purse, .ref a_told_spot, .ref a_told_club, .ref a_told_fitting, .ref a_told_nearly])), (a_told_fitting, .inl (cs 0, 12, .inl a_told_fitting_c)), (a_told_nearly, .inl (cs 0, 12, .inl a_told_nearly_c))]) hP hD [0, 1, 2, 3, 4] [] rfl rfl (by decide) (by decide) hk1 hFc hP1 hD1
  generalize H1 = H at hP hS ⊢
  have hP : va_P D classes [(a, .inr (3, [.ref a_told, .ref a_known])), (a_known, .inl (cs 0, 4096, .inl o31)), (a_told, .inr (8, [.int a_told__stalls, .int a_told__shift, .int a_told__halves, .int a_told__buyers, .int a_told__near, .int a_told__dusk, .int a_told__duskPrice, .int a_told__hear, .int a_told__forged, .ref a_told_stall, .ref a_told_shape, .ref a_told_side, .ref a_told_price, .ref a_told_purse, .ref a_told_spot, .ref a_told_club, .ref a_told_fitting, .ref a_told_nearly])), (a_told_fitting, .inl (cs 0, 12, .inl a_told_fitting_c)), (a_told_nearly, .inl (cs 0, 12, .inl a_told_nearly_c))] H := hP
  have hD : va_D A [(a, .inr (3, [.ref a_told, .ref a_known])), (a_known, .inl (cs 0, 4096, .inl o31)), (a_told, .inr (8, [.int a_told__stalls, .int a_told__shift, .int a_told__halves, .int a_told__buyers, .int a_told__near, .int a_told__dusk, .int a_told__duskPrice, .int a_told__hear, .int a_told__forged, .ref a_told_stall, .ref a_told_shape, .ref a_told_side, .ref a_told_price, .ref a_told_purse, .ref a_told_spot, .ref a_told_club, .ref a_told_fitting, .ref a_told_nearly])), (a_told_fitting, .inl (cs 0, 12, .inl a_told_fitting_c)), (a_told_nearly, .inl (cs 0, 12, .inl a_told_nearly_c))] := hD
  clear hk1 hFc hP1 hD1 hz1
  refine lv_iadd hx hb dX3_firstPartner_22 ?_
  refine lv_topi (fun v32 ev32 => ?_)
  refine lv_iload hx hb dX3_firstPartner_23 (lv_at hl 0 rfl) ?_
  refine lv_icmp_ne (tgt := 30) hx hb dX3_firstPartner_25 (by decide) (fun c33 => ?_) (fun c33 => ?_)
  · refine lv_iload_n hx hb dX3_firstPartner_30 rfl (lv_at hl 1 rfl) ?_
    refine lv_aload_n hx hb dX3_firstPartner_31 rfl (lv_at hl 2 rfl) ?_
    refine va_get (D := D) (ci := 3) (v := .ref a_told) (C := RX3) (T := TX3) (N := 2) hx hb hT i_X3 hown hK hP 0 rfl rfl 0 (by decide) (hT _ q_95) (fun _ h9 => h9) rfl dX3_firstPartner_32 ?_
    refine va_get (D := D) (ci := 8) (v := .ref a_told_fitting) (C := RX8) (T := TX8) (N := 18) hx hb hT i_X8 hown hK hP 2 rfl rfl 16 (by decide) (hT _ q_96) (fun _ h9 => h9) rfl dX3_firstPartner_35 ?_
    refine lv_iload_n hx hb dX3_firstPartner_38 rfl (lv_at hl 3 rfl) ?_
    refine va_iald hx hb hK hP 3 0 rfl rfl (iv_v h_p0 (by decide) (by decide)) dX3_firstPartner_39 ?_
    refine lv_topi (fun v34 ev34 => ?_)
    refine lv_aload_n hx hb dX3_firstPartner_40 rfl (lv_at hl 2 rfl) ?_
    refine va_get (D := D) (ci := 3) (v := .ref a_told) (C := RX3) (T := TX3) (N := 2) hx hb hT i_X3 hown hK hP 0 rfl rfl 0 (by decide) (hT _ q_95) (fun _ h9 => h9) rfl dX3_firstPartner_41 ?_
    refine va_get (D := D) (ci := 8) (v := .ref a_told_nearly) (C := RX8) (T := TX8) (N := 18) hx hb hT i_X8 hown hK hP 2 rfl rfl 17 (by decide) (hT _ q_97) (fun _ h9 => h9) rfl dX3_firstPartner_44 ?_
    refine lv_iload_n hx hb dX3_firstPartner_47 rfl (lv_at hl 3 rfl) ?_
    refine va_iald hx hb hK hP 4 0 rfl rfl (iv_v h_p0 (by decide) (by decide)) dX3_firstPartner_48 ?_
    refine lv_topi (fun v35 ev35 => ?_)
    refine lv_ior hx hb dX3_firstPartner_49 ?_
    refine lv_topi (fun v36 ev36 => ?_)
    refine lv_iand hx hb dX3_firstPartner_50 ?_
    refine lv_topi (fun v37 ev37 => ?_)
    refine lv_istore (lv' := [(5, .int v37), (4, .int r28), (3, .int v27), (0, .ref a), (1, .int p0), (2, .int p1)]) hx hb dX3_firstPartner_51 hl (by decide) rfl (fun ls hl => ?_)
    refine lv_iload_n hx hb dX3_firstPartner_53 rfl (lv_at hl 4 rfl) ?_
    refine lv_iconst (v := 1) hx hb dX3_firstPartner_54 (by decide) ?_
    refine lv_iadd hx hb dX3_firstPartner_55 ?_
    refine lv_topi (fun v38 ev38 => ?_)
    have hv38 : IV 1 12 v38 := iv_add ev38 h_p0 (iv_c (a := 1) (b := 1) (by decide)) (by decide) (by decide)
    have dv38 : v38.toInt = p0.toInt + 1 := iv_addE ev38 h_p0 (iv_c (a := 1) (b := 1) (by decide)) (by decide) (by decide) (by decide)
    refine lv_istore (lv' := [(6, .int v38), (5, .int v37), (4, .int r28), (3, .int v27), (0, .ref a), (1, .int p0), (2, .int p1)]) hx hb dX3_firstPartner_56 hl (by decide) rfl (fun ls hl => ?_)
    exact K58 _ v38 v37 r28 v27 o31 (Nat.le_refl _) hv38 H locs (hP.sub (ws' := [(a, .inr (3, [.ref a_told, .ref a_known])), (a_known, .inl (cs 0, 4096, .inl o31)), (a_told, .inr (8, [.int a_told__stalls, .int a_told__shift, .int a_told__halves, .int a_told__buyers, .int a_told__near, .int a_told__dusk, .int a_told__duskPrice, .int a_told__hear, .int a_told__forged, .ref a_told_stall, .ref a_told_shape, .ref a_told_side, .ref a_told_price, .ref a_told_purse, .ref a_told_spot, .ref a_told_club, .ref a_told_fitting, .ref a_told_nearly])), (a_told_fitting, .inl (cs 0, 12, .inl a_told_fitting_c)), (a_told_nearly, .inl (cs 0, 12, .inl a_told_nearly_c))]) [0, 1, 2, 3, 4] rfl) (hD.sub (ws' := [(a, .inr (3, [.ref a_told, .ref a_known])), (a_known, .inl (cs 0, 4096, .inl o31)), (a_told, .inr (8, [.int a_told__stalls, .int a_told__shift, .int a_told__halves, .int a_told__buyers, .int a_told__near, .int a_told__dusk, .int a_told__duskPrice, .int a_told__hear, .int a_told__forged, .ref a_told_stall, .ref a_told_shape, .ref a_told_side, .ref a_told_price, .ref a_told_purse, .ref a_told_spot, .ref a_told_club, .ref a_told_fitting, .ref a_told_nearly])), (a_told_fitting, .inl (cs 0, 12, .inl a_told_fitting_c)), (a_told_nearly, .inl (cs 0, 12, .inl a_told_nearly_c))]) [0, 1, 2, 3, 4] (by decide) rfl) hS ls (lv_sub hl [0, 1, 2, 3, 4, 5, 6] rfl)
  · refine lv_iconst (v := (-1)) hx hb dX3_firstPartner_28 (by decide) ?_
    refine W.widen (k := 0) (n := 0) (Nat.le_of_ble_eq_true rfl) (Nat.le_of_ble_eq_true rfl) ?_
    exact W.iret (v := (-1)) hx hb hr (fun t ht hW => ⟨⟨(-1), (), rfl, (iv_c (by decide)), o31, by rw [ht]; exact hP.sub [0, 1, 2, 3, 4] rfl, hD.sub [0, 1, 2, 3, 4] (by decide) rfl⟩, hS.F ht⟩) hS.2.2 dX3_firstPartner_29
theorem dX3_partnerOf_0 : decode cX3_partnerOf 0 = .ok (.iload_n 2, 1) := by decide +kernel
theorem dX3_partnerOf_1 : decode cX3_partnerOf 1 = .ok (.sipush 4095, 3) := by decide +kernel
theorem dX3_partnerOf_4 : decode cX3_partnerOf 4 = .ok (.iand, 1) := by decide +kernel
theorem dX3_partnerOf_5 : decode cX3_partnerOf 5 = .ok (.istore_n 3, 1) := by decide +kernel
theorem dX3_partnerOf_6 : decode cX3_partnerOf 6 = .ok (.iconst 0, 1) := by decide +kernel
theorem dX3_partnerOf_7 : decode cX3_partnerOf 7 = .ok (.istore 4, 2) := by decide +kernel
theorem dX3_partnerOf_9 : decode cX3_partnerOf 9 = .ok (.iload 4, 2) := by decide +kernel
theorem dX3_partnerOf_11 : decode cX3_partnerOf 11 = .ok (.bipush 12, 2) := by decide +kernel
theorem dX3_partnerOf_13 : decode cX3_partnerOf 13 = .ok (.if_icmp .ge 72, 3) := by decide +kernel
theorem dX3_partnerOf_16 : decode cX3_partnerOf 16 = .ok (.iload_n 3, 1) := by decide +kernel
theorem dX3_partnerOf_17 : decode cX3_partnerOf 17 = .ok (.iload 4, 2) := by decide +kernel
theorem dX3_partnerOf_19 : decode cX3_partnerOf 19 = .ok (.ishr, 1) := by decide +kernel
theorem dX3_partnerOf_20 : decode cX3_partnerOf 20 = .ok (.iconst 1, 1) := by decide +kernel
theorem dX3_partnerOf_21 : decode cX3_partnerOf 21 = .ok (.iand, 1) := by decide +kernel
theorem dX3_partnerOf_22 : decode cX3_partnerOf 22 = .ok (.ifCond .ne 6, 3) := by decide +kernel
theorem dX3_partnerOf_25 : decode cX3_partnerOf 25 = .ok (.goto 54, 3) := by decide +kernel
theorem dX3_partnerOf_28 : decode cX3_partnerOf 28 = .ok (.aload_n 0, 1) := by decide +kernel
theorem dX3_partnerOf_29 : decode cX3_partnerOf 29 = .ok (.iload 4, 2) := by decide +kernel
theorem dX3_partnerOf_31 : decode cX3_partnerOf 31 = .ok (.iload_n 3, 1) := by decide +kernel
theorem dX3_partnerOf_32 : decode cX3_partnerOf 32 = .ok (.invokevirtual 51, 3) := by decide +kernel
theorem dX3_partnerOf_35 : decode cX3_partnerOf 35 = .ok (.istore 5, 2) := by decide +kernel
theorem dX3_partnerOf_37 : decode cX3_partnerOf 37 = .ok (.iload 4, 2) := by decide +kernel
theorem dX3_partnerOf_39 : decode cX3_partnerOf 39 = .ok (.iload_n 1, 1) := by decide +kernel
theorem dX3_partnerOf_40 : decode cX3_partnerOf 40 = .ok (.if_icmp .ne 6, 3) := by decide +kernel
theorem dX3_partnerOf_43 : decode cX3_partnerOf 43 = .ok (.iload 5, 2) := by decide +kernel
theorem dX3_partnerOf_45 : decode cX3_partnerOf 45 = .ok (.ireturn, 1) := by decide +kernel
theorem dX3_partnerOf_46 : decode cX3_partnerOf 46 = .ok (.iload 5, 2) := by decide +kernel
theorem dX3_partnerOf_48 : decode cX3_partnerOf 48 = .ok (.iload_n 1, 1) := by decide +kernel
theorem dX3_partnerOf_49 : decode cX3_partnerOf 49 = .ok (.if_icmp .ne 6, 3) := by decide +kernel
theorem dX3_partnerOf_52 : decode cX3_partnerOf 52 = .ok (.iload 4, 2) := by decide +kernel
theorem dX3_partnerOf_54 : decode cX3_partnerOf 54 = .ok (.ireturn, 1) := by decide +kernel
theorem dX3_partnerOf_55 : decode cX3_partnerOf 55 = .ok (.iload_n 3, 1) := by decide +kernel
theorem dX3_partnerOf_56 : decode cX3_partnerOf 56 = .ok (.iconst 1, 1) := by decide +kernel
theorem dX3_partnerOf_57 : decode cX3_partnerOf 57 = .ok (.iload 4, 2) := by decide +kernel
theorem dX3_partnerOf_59 : decode cX3_partnerOf 59 = .ok (.ishl, 1) := by decide +kernel
theorem dX3_partnerOf_60 : decode cX3_partnerOf 60 = .ok (.iconst (-1), 1) := by decide +kernel
theorem dX3_partnerOf_61 : decode cX3_partnerOf 61 = .ok (.ixor, 1) := by decide +kernel
theorem dX3_partnerOf_62 : decode cX3_partnerOf 62 = .ok (.iand, 1) := by decide +kernel
theorem dX3_partnerOf_63 : decode cX3_partnerOf 63 = .ok (.istore_n 3, 1) := by decide +kernel
theorem dX3_partnerOf_64 : decode cX3_partnerOf 64 = .ok (.iload 5, 2) := by decide +kernel
theorem dX3_partnerOf_66 : decode cX3_partnerOf 66 = .ok (.iconst (-1), 1) := by decide +kernel
theorem dX3_partnerOf_67 : decode cX3_partnerOf 67 = .ok (.if_icmp .eq 12, 3) := by decide +kernel
theorem dX3_partnerOf_70 : decode cX3_partnerOf 70 = .ok (.iload_n 3, 1) := by decide +kernel
theorem dX3_partnerOf_71 : decode cX3_partnerOf 71 = .ok (.iconst 1, 1) := by decide +kernel
theorem dX3_partnerOf_72 : decode cX3_partnerOf 72 = .ok (.iload 5, 2) := by decide +kernel
theorem dX3_partnerOf_74 : decode cX3_partnerOf 74 = .ok (.ishl, 1) := by decide +kernel
theorem dX3_partnerOf_75 : decode cX3_partnerOf 75 = .ok (.iconst (-1), 1) := by decide +kernel
theorem dX3_partnerOf_76 : decode cX3_partnerOf 76 = .ok (.ixor, 1) := by decide +kernel
theorem dX3_partnerOf_77 : decode cX3_partnerOf 77 = .ok (.iand, 1) := by decide +kernel
theorem dX3_partnerOf_78 : decode cX3_partnerOf 78 = .ok (.istore_n 3, 1) := by decide +kernel
theorem dX3_partnerOf_79 : decode cX3_partnerOf 79 = .ok (.iinc 4 1, 3) := by decide +kernel
theorem dX3_partnerOf_82 : decode cX3_partnerOf 82 = .ok (.goto (-73), 3) := by decide +kernel
theorem dX3_partnerOf_85 : decode cX3_partnerOf 85 = .ok (.iconst (-1), 1) := by decide +kernel
theorem dX3_partnerOf_86 : decode cX3_partnerOf 86 = .ok (.ireturn, 1) := by decide +kernel
set_option maxHeartbeats 4000000 in
set_option maxRecDepth 100000 in
theorem c_X3_partnerOf (l : Launch) (D : va_G) (cs : Nat → ClassId) (kK kV : Nat → Nat) (a : Nat) (p0 : Int32) (p1 : Int32) (a_told : Nat) (a_known : Nat) (a_known_c : Nat → Int32) (a_told__stalls : Int32) (a_told__shift : Int32) (a_told__halves : Int32) (a_told__buyers : Int32) (a_told__near : Int32) (a_told__dusk : Int32) (a_told__duskPrice : Int32) (a_told__hear : Int32) (a_told__forged : Int32) (a_told_stall : Nat) (a_told_shape : Nat) (a_told_side : Nat) (a_told_price : Nat) (a_told_purse : Nat) (a_told_spot : Nat) (a_told_club : Nat) (a_told_fitting : Nat) (a_told_nearly : Nat) (a_told_fitting_c : Nat → Int32) (a_told_nearly_c : Nat → Int32)  (sz : Nat) : Met l yX3_partnerOf (hz_w yX3_partnerOf cX3_partnerOf 6 (some .int)) ({ frames := 16, cells := 0, slots := 0, locals := 425 }) (va_Pc [.ref a, .int p0, .int p1] (hz_C D cs kK kV sz [(a, .inr (3, [.ref a_told, .ref a_known])), (a_known, .inl (cs 0, 4096, .inl a_known_c)), (a_told, .inr (8, [.int a_told__stalls, .int a_told__shift, .int a_told__halves, .int a_told__buyers, .int a_told__near, .int a_told__dusk, .int a_told__duskPrice, .int a_told__hear, .int a_told__forged, .ref a_told_stall, .ref a_told_shape, .ref a_told_side, .ref a_told_price, .ref a_told_purse, .ref a_told_spot, .ref a_told_club, .ref a_told_fitting, .ref a_told_nearly])), (a_told_fitting, .inl (cs 0, 12, .inl a_told_fitting_c)), (a_told_nearly, .inl (cs 0, 12, .inl a_told_nearly_c))])) (va_Qi (fun (r : Int32) (_ : Unit) => (r = (-1)) ∨ (IV (-1) 11 r ∧ IV (-1) 11 p0)) (fun _ t => ∃ (o_a_known_c : Nat → Int32), va_P D classes [(a, .inr (3, [.ref a_told, .ref a_known])), (a_known, .inl (cs 0, 4096, .inl o_a_known_c)), (a_told, .inr (8, [.int a_told__stalls, .int a_told__shift, .int a_told__halves, .int a_told__buyers, .int a_told__near, .int a_told__dusk, .int a_told__duskPrice, .int a_told__hear, .int a_told__forged, .ref a_told_stall, .ref a_told_shape, .ref a_told_side, .ref a_told_price, .ref a_told_purse, .ref a_told_spot, .ref a_told_club, .ref a_told_fitting, .ref a_told_nearly])), (a_told_fitting, .inl (cs 0, 12, .inl a_told_fitting_c)), (a_told_nearly, .inl (cs 0, 12, .inl a_told_nearly_c))] t.heap ∧ va_D (va_A [(a, .inr (3, [.ref a_told, .ref a_known])), (a_known, .inl (cs 0, 4096, .inl a_known_c)), (a_told, .inr (8, [.int a_told__stalls, .int a_told__shift, .int a_told__halves, .int a_told__buyers, .int a_told__near, .int a_told__dusk, .int a_told__duskPrice, .int a_told__hear, .int a_told__forged, .ref a_told_stall, .ref a_told_shape, .ref a_told_side, .ref a_told_price, .ref a_told_purse, .ref a_told_spot, .ref a_told_club, .ref a_told_fitting, .ref a_told_nearly])), (a_told_fitting, .inl (cs 0, 12, .inl a_told_fitting_c)), (a_told_nearly, .inl (cs 0, 12, .inl a_told_nearly_c))] sz) [(a, .inr (3, [.ref a_told, .ref a_known])), (a_known, .inl (cs 0, 4096, .inl o_a_known_c)), (a_told, .inr (8, [.int a_told__stalls, .int a_told__shift, .int a_told__halves, .int a_told__buyers, .int a_told__near, .int a_told__dusk, .int a_told__duskPrice, .int a_told__hear, .int a_told__forged, .ref a_told_stall, .ref a_told_shape, .ref a_told_side, .ref a_told_price, .ref a_told_purse, .ref a_told_spot, .ref a_told_club, .ref a_told_fitting, .ref a_told_nearly])), (a_told_fitting, .inl (cs 0, 12, .inl a_told_fitting_c)), (a_told_nearly, .inl (cs 0, 12, .inl a_told_nearly_c))]) (va_A [(a, .inr (3, [.ref a_told, .ref a_known])), (a_known, .inl (cs 0, 4096, .inl a_known_c)), (a_told, .inr (8, [.int a_told__stalls, .int a_told__shift, .int a_told__halves, .int a_told__buyers, .int a_told__near, .int a_told__dusk, .int a_told__duskPrice, .int a_told__hear, .int a_told__forged, .ref a_told_stall, .ref a_told_shape, .ref a_told_side, .ref a_told_price, .ref a_told_purse, .ref a_told_spot, .ref a_told_club, .ref a_told_fitting, .ref a_told_nearly])), (a_told_fitting, .inl (cs 0, 12, .inl a_told_fitting_c)), (a_told_nearly, .inl (cs 0, 12, .inl a_told_nearly_c))] sz)) 0 0 (va_A [(a, .inr (3, [.ref a_told, .ref a_known])), (a_known, .inl (cs 0, 4096, .inl a_known_c)), (a_told, .inr (8, [.int a_told__stalls, .int a_told__shift, .int a_told__halves, .int a_told__buyers, .int a_told__near, .int a_told__dusk, .int a_told__duskPrice, .int a_told__hear, .int a_told__forged, .ref a_told_stall, .ref a_told_shape, .ref a_told_side, .ref a_told_price, .ref a_told_purse, .ref a_told_spot, .ref a_told_club, .ref a_told_fitting, .ref a_told_nearly])), (a_told_fitting, .inl (cs 0, 12, .inl a_told_fitting_c)), (a_told_nearly, .inl (cs 0, 12, .inl a_told_nearly_c))] sz) := by
  refine Met.ofW (cc := cX3_partnerOf) (maxL := 6) (ret := (some .int)) (by decide) rfl ?_
  intro p e s m args below meth c s₁ B hml hv
  obtain ⟨rfl, hsz, hP, hD0, hE⟩ := hv
  have hx := B.exec
  have hb := B.bytes
  have hr := B.returns
  have hT : ∀ w ∈ TB, w.before _ s = true := fun w h => atoms_spec (ws := hz_w yX3_partnerOf cX3_partnerOf 6 (some .int)) B.pre w (List.mem_cons_of_mem _ h)
  have hown : s.vm.findClass RX3 = some m.cls := findClass_of_methodNamed B.named
  have hlocks := B.notSynchronized
  clear B
  subst hsz
  have hD := hD0.self (sz := s.heap.size)
  generalize hAe : va_A [(a, .inr (3, [.ref a_told, .ref a_known])), (a_known, .inl (cs 0, 4096, .inl a_known_c)), (a_told, .inr (8, [.int a_told__stalls, .int a_told__shift, .int a_told__halves, .int a_told__buyers, .int a_told__near, .int a_told__dusk, .int a_told__duskPrice, .int a_told__hear, .int a_told__forged, .ref a_told_stall, .ref a_told_shape, .ref a_told_side, .ref a_told_price, .ref a_told_purse, .ref a_told_spot, .ref a_told_club, .ref a_told_fitting, .ref a_told_nearly])), (a_told_fitting, .inl (cs 0, 12, .inl a_told_fitting_c)), (a_told_nearly, .inl (cs 0, 12, .inl a_told_nearly_c))] s.heap.size = A at hD hE ⊢
  have hA : ∀ q : Nat, s.heap.size ≤ q → A q := fun q h => by rw [← hAe]; exact Or.inr h
  clear hAe hD0
  have hS : va_S A s.heap s.heap [] := va_S.rf
  have hK := hE.1
  have hl := lv_entry ([.ref a, .int p0, .int p1]) (n := 6) (Nat.le_of_ble_eq_true rfl)
  rw [lg_entry_eq]
  generalize (lg_sl ([.ref a, .int p0, .int p1]) ++ List.replicate (6 - (lg_sl ([.ref a, .int p0, .int p1])).length) Slot.unset).toArray = ls at hl ⊢
  have hl : lv_has ls 6 [(0, .ref a), (1, .int p0), (2, .int p1)] := hl
  obtain ⟨H, eH⟩ : ∃ z, z = s.heap := ⟨_, rfl⟩
  have hP : va_P D classes [(a, .inr (3, [.ref a_told, .ref a_known])), (a_known, .inl (cs 0, 4096, .inl a_known_c)), (a_told, .inr (8, [.int a_told__stalls, .int a_told__shift, .int a_told__halves, .int a_told__buyers, .int a_told__near, .int a_told__dusk, .int a_told__duskPrice, .int a_told__hear, .int a_told__forged, .ref a_told_stall, .ref a_told_shape, .ref a_told_side, .ref a_told_price, .ref a_told_purse, .ref a_told_spot, .ref a_told_club, .ref a_told_fitting, .ref a_told_nearly])), (a_told_fitting, .inl (cs 0, 12, .inl a_told_fitting_c)), (a_told_nearly, .inl (cs 0, 12, .inl a_told_nearly_c))] H := by rw [eH]; exact hP
  have hS : va_S A s.heap H [] := by rw [eH]; exact hS
  rw [← eH]
  clear eH
  obtain ⟨locs, el⟩ : ∃ z : List Loc, z = [] := ⟨_, rfl⟩
  rw [← el] at hS ⊢
  clear el
  have K9 : ∀ (n : Nat) (k9_L_4 : Int32) (k9_L_3 : Int32) (k9_C_a_known : Nat → Int32), (12 - k9_L_4.toInt + 1).toNat ≤ n → IV 0 4095 k9_L_3 → IV 0 12 k9_L_4 → ∀ (H : Heap) (locs : List Loc), va_P D classes [(a, .inr (3, [.ref a_told, .ref a_known])), (a_known, .inl (cs 0, 4096, .inl k9_C_a_known)), (a_told, .inr (8, [.int a_told__stalls, .int a_told__shift, .int a_told__halves, .int a_told__buyers, .int a_told__near, .int a_told__dusk, .int a_told__duskPrice, .int a_told__hear, .int a_told__forged, .ref a_told_stall, .ref a_told_shape, .ref a_told_side, .ref a_told_price, .ref a_told_purse, .ref a_told_spot, .ref a_told_club, .ref a_told_fitting, .ref a_told_nearly])), (a_told_fitting, .inl (cs 0, 12, .inl a_told_fitting_c)), (a_told_nearly, .inl (cs 0, 12, .inl a_told_nearly_c))] H → va_D A [(a, .inr (3, [.ref a_told, .ref a_known])), (a_known, .inl (cs 0, 4096, .inl k9_C_a_known)), (a_told, .inr (8, [.int a_told__stalls, .int a_told__shift, .int a_told__halves, .int a_told__buyers, .int a_told__near, .int a_told__dusk, .int a_told__duskPrice, .int a_told__hear, .int a_told__forged, .ref a_told_stall, .ref a_told_shape, .ref a_told_side, .ref a_told_price, .ref a_told_purse, .ref a_told_spot, .ref a_told_club, .ref a_told_fitting, .ref a_told_nearly])), (a_told_fitting, .inl (cs 0, 12, .inl a_told_fitting_c)), (a_told_nearly, .inl (cs 0, 12, .inl a_told_nearly_c))] → va_S A s.heap H locs → ∀ ls : Array Slot, lv_has ls 6 [(4, .int k9_L_4), (3, .int k9_L_3), (0, .ref a), (1, .int p0), (2, .int p1)] → W p l e (headSpec (hz_w yX3_partnerOf cX3_partnerOf 6 (some .int)) ({ frames := 16, cells := 0, slots := 0, locals := 425 })).room s m [.ref a, .int p0, .int p1].toArray below meth c H locs 0 0 (MQ below (va_Qi (fun (r : Int32) (_ : Unit) => (r = (-1)) ∨ (IV (-1) 11 r ∧ IV (-1) 11 p0)) (fun _ t => ∃ (o_a_known_c : Nat → Int32), va_P D classes [(a, .inr (3, [.ref a_told, .ref a_known])), (a_known, .inl (cs 0, 4096, .inl o_a_known_c)), (a_told, .inr (8, [.int a_told__stalls, .int a_told__shift, .int a_told__halves, .int a_told__buyers, .int a_told__near, .int a_told__dusk, .int a_told__duskPrice, .int a_told__hear, .int a_told__forged, .ref a_told_stall, .ref a_told_shape, .ref a_told_side, .ref a_told_price, .ref a_told_purse, .ref a_told_spot, .ref a_told_club, .ref a_told_fitting, .ref a_told_nearly])), (a_told_fitting, .inl (cs 0, 12, .inl a_told_fitting_c)), (a_told_nearly, .inl (cs 0, 12, .inl a_told_nearly_c))] t.heap ∧ va_D A [(a, .inr (3, [.ref a_told, .ref a_known])), (a_known, .inl (cs 0, 4096, .inl o_a_known_c)), (a_told, .inr (8, [.int a_told__stalls, .int a_told__shift, .int a_told__halves, .int a_told__buyers, .int a_told__near, .int a_told__dusk, .int a_told__duskPrice, .int a_told__hear, .int a_told__forged, .ref a_told_stall, .ref a_told_shape, .ref a_told_side, .ref a_told_price, .ref a_told_purse, .ref a_told_spot, .ref a_told_club, .ref a_told_fitting, .ref a_told_nearly])), (a_told_fitting, .inl (cs 0, 12, .inl a_told_fitting_c)), (a_told_nearly, .inl (cs 0, 12, .inl a_told_nearly_c))]) A) [.ref a, .int p0, .int p1].toArray s 0 0 A) (F0 m 9 ls []) := by
    intro n
    induction n with
    | zero =>
      intro k9_L_4 k9_L_3 k9_C_a_known hn q9_3 q9_4 H locs hP hD hS ls hl
      exact absurd hn (by unfold IV at q9_4; omega)
    | succ n ih9 =>
      intro k9_L_4 k9_L_3 k9_C_a_known hn q9_3 q9_4 H locs hP hD hS ls hl
      have K79 : ∀ (k79_L_3 : Int32) (k79_C_a_known : Nat → Int32), IV 0 4095 k79_L_3 → IV 0 11 k9_L_4 → ∀ (H : Heap) (locs : List Loc), va_P D classes [(a, .inr (3, [.ref a_told, .ref a_known])), (a_known, .inl (cs 0, 4096, .inl k79_C_a_known)), (a_told, .inr (8, [.int a_told__stalls, .int a_told__shift, .int a_told__halves, .int a_told__buyers, .int a_told__near, .int a_told__dusk, .int a_told__duskPrice, .int a_told__hear, .int a_told__forged, .ref a_told_stall, .ref a_told_shape, .ref a_told_side, .ref a_told_price, .ref a_told_purse, .ref a_told_spot, .ref a_told_club, .ref a_told_fitting, .ref a_told_nearly])), (a_told_fitting, .inl (cs 0, 12, .inl a_told_fitting_c)), (a_told_nearly, .inl (cs 0, 12, .inl a_told_nearly_c))] H → va_D A [(a, .inr (3, [.ref a_told, .ref a_known])), (a_known, .inl (cs 0, 4096, .inl k79_C_a_known)), (a_told, .inr (8, [.int a_told__stalls, .int a_told__shift, .int a_told__halves, .int a_told__buyers, .int a_told__near, .int a_told__dusk, .int a_told__duskPrice, .int a_told__hear, .int a_told__forged, .ref a_told_stall, .ref a_told_shape, .ref a_told_side, .ref a_told_price, .ref a_told_purse, .ref a_told_spot, .ref a_told_club, .ref a_told_fitting, .ref a_told_nearly])), (a_told_fitting, .inl (cs 0, 12, .inl a_told_fitting_c)), (a_told_nearly, .inl (cs 0, 12, .inl a_told_nearly_c))] → va_S A s.heap H locs → ∀ ls : Array Slot, lv_has ls 6 [(3, .int k79_L_3), (4, .int k9_L_4), (0, .ref a), (1, .int p0), (2, .int p1)] → W p l e (headSpec (hz_w yX3_partnerOf cX3_partnerOf 6 (some .int)) ({ frames := 16, cells := 0, slots := 0, locals := 425 })).room s m [.ref a, .int p0, .int p1].toArray below meth c H locs 0 0 (MQ below (va_Qi (fun (r : Int32) (_ : Unit) => (r = (-1)) ∨ (IV (-1) 11 r ∧ IV (-1) 11 p0)) (fun _ t => ∃ (o_a_known_c : Nat → Int32), va_P D classes [(a, .inr (3, [.ref a_told, .ref a_known])), (a_known, .inl (cs 0, 4096, .inl o_a_known_c)), (a_told, .inr (8, [.int a_told__stalls, .int a_told__shift, .int a_told__halves, .int a_told__buyers, .int a_told__near, .int a_told__dusk, .int a_told__duskPrice, .int a_told__hear, .int a_told__forged, .ref a_told_stall, .ref a_told_shape, .ref a_told_side, .ref a_told_price, .ref a_told_purse, .ref a_told_spot, .ref a_told_club, .ref a_told_fitting, .ref a_told_nearly])), (a_told_fitting, .inl (cs 0, 12, .inl a_told_fitting_c)), (a_told_nearly, .inl (cs 0, 12, .inl a_told_nearly_c))] t.heap ∧ va_D A [(a, .inr (3, [.ref a_told, .ref a_known])), (a_known, .inl (cs 0, 4096, .inl o_a_known_c)), (a_told, .inr (8, [.int a_told__stalls, .int a_told__shift, .int a_told__halves, .int a_told__buyers, .int a_told__near, .int a_told__dusk, .int a_told__duskPrice, .int a_told__hear, .int a_told__forged, .ref a_told_stall, .ref a_told_shape, .ref a_told_side, .ref a_told_price, .ref a_told_purse, .ref a_told_spot, .ref a_told_club, .ref a_told_fitting, .ref a_told_nearly])), (a_told_fitting, .inl (cs 0, 12, .inl a_told_fitting_c)), (a_told_nearly, .inl (cs 0, 12, .inl a_told_nearly_c))]) A) [.ref a, .int p0, .int p1].toArray s 0 0 A) (F0 m 79 ls []) := by
        intro k79_L_3 k79_C_a_known q79_3 q79_4 H locs hP hD hS ls hl
        obtain ⟨v1, ev1⟩ : ∃ z : Int32, z = k9_L_4 + 1 := ⟨_, rfl⟩
        have hv1 : IV 1 12 v1 := iv_add ev1 q79_4 (iv_c (a := 1) (b := 1) (by decide)) (by decide) (by decide)
        have dv1 : v1.toInt = k9_L_4.toInt + 1 := iv_addE ev1 q79_4 (iv_c (a := 1) (b := 1) (by decide)) (by decide) (by decide) (by decide)
        refine lv_iinc (v := v1) (lv' := [(4, .int v1), (3, .int k79_L_3), (0, .ref a), (1, .int p0), (2, .int p1)]) hx hb dX3_partnerOf_79 hl (k := 1) rfl (by rw [ev1]; rfl) (by decide) rfl (fun ls hl => ?_)
        refine lv_goto (tgt := 9) hx hb dX3_partnerOf_82 (by decide) ?_
        exact ih9 v1 k79_L_3 k79_C_a_known (by have h9 := q79_4; unfold IV at h9; have := dv1; omega) q79_3 (iv_w hv1 (by decide) (by decide)) H locs (hP.sub (ws' := [(a, .inr (3, [.ref a_told, .ref a_known])), (a_known, .inl (cs 0, 4096, .inl k79_C_a_known)), (a_told, .inr (8, [.int a_told__stalls, .int a_told__shift, .int a_told__halves, .int a_told__buyers, .int a_told__near, .int a_told__dusk, .int a_told__duskPrice, .int a_told__hear, .int a_told__forged, .ref a_told_stall, .ref a_told_shape, .ref a_told_side, .ref a_told_price, .ref a_told_purse, .ref a_told_spot, .ref a_told_club, .ref a_told_fitting, .ref a_told_nearly])), (a_told_fitting, .inl (cs 0, 12, .inl a_told_fitting_c)), (a_told_nearly, .inl (cs 0, 12, .inl a_told_nearly_c))]) [0, 1, 2, 3, 4] rfl) (hD.sub (ws' := [(a, .inr (3, [.ref a_told, .ref a_known])), (a_known, .inl (cs 0, 4096, .inl k79_C_a_known)), (a_told, .inr (8, [.int a_told__stalls, .int a_told__shift, .int a_told__halves, .int a_told__buyers, .int a_told__near, .int a_told__dusk, .int a_told__duskPrice, .int a_told__hear, .int a_told__forged, .ref a_told_stall, .ref a_told_shape, .ref a_told_side, .ref a_told_price, .ref a_told_purse, .ref a_told_spot, .ref a_told_club, .ref a_told_fitting, .ref a_told_nearly])), (a_told_fitting, .inl (cs 0, 12, .inl a_told_fitting_c)), (a_told_nearly, .inl (cs 0, 12, .inl a_told_nearly_c))]) [0, 1, 2, 3, 4] (by decide) rfl) hS ls (lv_sub hl [0, 1, 2, 3, 4] rfl)
      refine lv_iload hx hb dX3_partnerOf_9 (lv_at hl 0 rfl) ?_
      refine lv_bipush (v := 12) hx hb dX3_partnerOf_11 (by decide) ?_
      refine lv_icmp_ge (tgt := 85) hx hb dX3_partnerOf_13 (by decide) (fun c2 => ?_) (fun c2 => ?_)
      · have h3 : IV 12 12 k9_L_4 := iv_le2 c2 (iv_c (a := 12) (b := 12) (by decide)) q9_4 (by decide)
        refine lv_iconst (v := (-1)) hx hb dX3_partnerOf_85 (by decide) ?_
        refine W.widen (k := 0) (n := 0) (Nat.le_of_ble_eq_true rfl) (Nat.le_of_ble_eq_true rfl) ?_
        exact W.iret (v := (-1)) hx hb hr (fun t ht hW => ⟨⟨(-1), (), rfl, (Or.inl (rfl)), k9_C_a_known, by rw [ht]; exact hP.sub [0, 1, 2, 3, 4] rfl, hD.sub [0, 1, 2, 3, 4] (by decide) rfl⟩, hS.F ht⟩) hS.2.2 dX3_partnerOf_86
      · have h4 : IV 0 11 k9_L_4 := iv_lt1 (Int32.not_le.mp c2) q9_4 (iv_c (a := 12) (b := 12) (by decide)) (by decide)
        refine lv_iload_n hx hb dX3_partnerOf_16 rfl (lv_at hl 1 rfl) ?_
        refine lv_iload hx hb dX3_partnerOf_17 (lv_at hl 0 rfl) ?_
        refine lv_ishr hx hb dX3_partnerOf_19 ?_
        refine lv_topi (fun v5 ev5 => ?_)
        have hv5 : IV 0 4095 v5 := iv_shr ev5 q9_3 (by decide)
        refine lv_iconst (v := 1) hx hb dX3_partnerOf_20 (by decide) ?_
        refine lv_iand hx hb dX3_partnerOf_21 ?_
        refine lv_topi (fun v6 ev6 => ?_)
        have hv6 : IV 0 1 v6 := iv_and2 ev6 (iv_c (a := 1) (b := 1) (by decide))
        refine lv_if_ne (tgt := 28) hx hb dX3_partnerOf_22 (by decide) (fun c7 => ?_) (fun c7 => ?_)
        · have h8 : IV 1 1 v6 := iv_neL c7 hv6 (by decide)
          refine lv_aload_n hx hb dX3_partnerOf_28 rfl (lv_at hl 2 rfl) ?_
          refine lv_iload hx hb dX3_partnerOf_29 (lv_at hl 0 rfl) ?_
          refine lv_iload_n hx hb dX3_partnerOf_31 rfl (lv_at hl 1 rfl) ?_
          have hFc := va_free (wc := [(a, .inr (3, [.ref a_told, .ref a_known])), (a_known, .inl (cs 0, 4096, .inl k9_C_a_known)), (a_told, .inr (8, [.int a_told__stalls, .int a_told__shift, .int a_told__halves, .int a_told__buyers, .int a_told__near, .int a_told__dusk, .int a_told__duskPrice, .int a_told__hear, .int a_told__forged, .ref a_told_stall, .ref a_told_shape, .ref a_told_side, .ref a_told_price, .ref a_told_purse, .ref a_told_spot, .ref a_told_club, .ref a_told_fitting, .ref a_told_nearly])), (a_told_fitting, .inl (cs 0, 12, .inl a_told_fitting_c)), (a_told_nearly, .inl (cs 0, 12, .inl a_told_nearly_c))]) hD hS hA [0,1,2,3,4] rfl
          refine va_calli (va_runV (As := [.int k9_L_4, .int k9_L_3]) (rest := []) ⟨hx, hb, hml, hown, hT⟩ (c_X3_firstPartner l D cs kK kV a k9_L_4 k9_L_3 a_told a_known k9_C_a_known a_told__stalls a_told__shift a_told__halves a_told__buyers a_told__near a_told__dusk a_told__duskPrice a_told__hear a_told__forged a_told_stall a_told_shape a_told_side a_told_price a_told_purse a_told_spot a_told_club a_told_fitting a_told_nearly a_told_fitting_c a_told_nearly_c h4 H.size) (cwV 2 hT (hz_gV q_545 q_546 q_547 q_236 q_548) rfl rfl rfl (by decide +kernel) ⟨(Nat.le_of_ble_eq_true rfl), (Nat.le_of_ble_eq_true rfl)⟩) ⟨hz_C.blind, va_recv hK hP (ci := 3) (q0 := 0) rfl rfl, hz_C.mk (hP.sub (ws' := [(a, .inr (3, [.ref a_told, .ref a_known])), (a_known, .inl (cs 0, 4096, .inl k9_C_a_known)), (a_told, .inr (8, [.int a_told__stalls, .int a_told__shift, .int a_told__halves, .int a_told__buyers, .int a_told__near, .int a_told__dusk, .int a_told__duskPrice, .int a_told__hear, .int a_told__forged, .ref a_told_stall, .ref a_told_shape, .ref a_told_side, .ref a_told_price, .ref a_told_purse, .ref a_told_spot, .ref a_told_club, .ref a_told_fitting, .ref a_told_nearly])), (a_told_fitting, .inl (cs 0, 12, .inl a_told_fitting_c)), (a_told_nearly, .inl (cs 0, 12, .inl a_told_nearly_c))]) [0,1,2,3,4] rfl) (hD.sub (ws' := [(a, .inr (3, [.ref a_told, .ref a_known])), (a_known, .inl (cs 0, 4096, .inl k9_C_a_known)), (a_told, .inr (8, [.int a_told__stalls, .int a_told__shift, .int a_told__halves, .int a_told__buyers, .int a_told__near, .int a_told__dusk, .int a_told__duskPrice, .int a_told__hear, .int a_told__forged, .ref a_told_stall, .ref a_told_shape, .ref a_told_side, .ref a_told_price, .ref a_told_purse, .ref a_told_spot, .ref a_told_club, .ref a_told_fitting, .ref a_told_nearly])), (a_told_fitting, .inl (cs 0, 12, .inl a_told_fitting_c)), (a_told_nearly, .inl (cs 0, 12, .inl a_told_nearly_c))]) [0,1,2,3,4] (by decide) rfl) hE hS hFc⟩ rfl rfl hl.1 rfl (lv_room (Nat.le_of_ble_eq_true rfl)) dX3_partnerOf_32 ⟨(Nat.le_of_ble_eq_true rfl), (Nat.le_of_ble_eq_true rfl)⟩) hS (fun q _ h => hFc q h) hFc (fun r9 u t H1 locs ht hvm hw hB hz1 hk1 hS => ?_)
          obtain ⟨o10, hP1, hD1⟩ := hB
          rw [ht] at hP1
          obtain ⟨hP, hD⟩ := va_join (wr := []) (w1 := [(a, .inr (3, [.ref a_told, .ref a_known])), (a_known, .inl (cs 0, 4096, .inl o10)), (a_told, .inr (8, [.int a_told__stalls, .int a_told__shift, .int a_told__halves, .int a_told__buyers, .int a_told__near, .int a_told__dusk, .int a_told__duskPrice, .int a_told__hear, .int a_told__forged, .ref a_told_stall, .ref a_told_shape, .ref a_told_side, .ref a_told_price, .ref a_told_purse, .ref a_told_spot, .ref a_told_club, .ref a_told_fitting, .ref a_told_nearly])), (a_told_fitting, .inl (cs 0, 12, .inl a_told_fitting_c)), (a_told_nearly, .inl (cs 0, 12, .inl a_told_nearly_c))]) hP hD [0, 1, 2, 3, 4] [] rfl rfl (by decide) (by decide) hk1 hFc hP1 hD1
          generalize H1 = H at hP hS ⊢
          have hP : va_P D classes [(a, .inr (3, [.ref a_told, .ref a_known])), (a_known, .inl (cs 0, 4096, .inl o10)), (a_told, .inr (8, [.int a_told__stalls, .int a_told__shift, .int a_told__halves, .int a_told__buyers, .int a_told__near, .int a_told__dusk, .int a_told__duskPrice, .int a_told__hear, .int a_told__forged, .ref a_told_stall, .ref a_told_shape, .ref a_told_side, .ref a_told_price, .ref a_told_purse, .ref a_told_spot, .ref a_told_club, .ref a_told_fitting, .ref a_told_nearly])), (a_told_fitting, .inl (cs 0, 12, .inl a_told_fitting_c)), (a_told_nearly, .inl (cs 0, 12, .inl a_told_nearly_c))] H := hP
          have hD : va_D A [(a, .inr (3, [.ref a_told, .ref a_known])), (a_known, .inl (cs 0, 4096, .inl o10)), (a_told, .inr (8, [.int a_told__stalls, .int a_told__shift, .int a_told__halves, .int a_told__buyers, .int a_told__near, .int a_told__dusk, .int a_told__duskPrice, .int a_told__hear, .int a_told__forged, .ref a_told_stall, .ref a_told_shape, .ref a_told_side, .ref a_told_price, .ref a_told_purse, .ref a_told_spot, .ref a_told_club, .ref a_told_fitting, .ref a_told_nearly])), (a_told_fitting, .inl (cs 0, 12, .inl a_told_fitting_c)), (a_told_nearly, .inl (cs 0, 12, .inl a_told_nearly_c))] := hD
          clear hk1 hFc hP1 hD1 hz1
          have hw_r9 := hw
          refine lv_istore (lv' := [(5, .int r9), (4, .int k9_L_4), (3, .int k9_L_3), (0, .ref a), (1, .int p0), (2, .int p1)]) hx hb dX3_partnerOf_35 hl (by decide) rfl (fun ls hl => ?_)
          refine lv_iload hx hb dX3_partnerOf_37 (lv_at hl 1 rfl) ?_
          refine lv_iload_n hx hb dX3_partnerOf_39 rfl (lv_at hl 4 rfl) ?_
          refine lv_icmp_ne (tgt := 46) hx hb dX3_partnerOf_40 (by decide) (fun c11 => ?_) (fun c11 => ?_)
          · refine lv_iload hx hb dX3_partnerOf_46 (lv_at hl 0 rfl) ?_
            refine lv_iload_n hx hb dX3_partnerOf_48 rfl (lv_at hl 4 rfl) ?_
            refine lv_icmp_ne (tgt := 55) hx hb dX3_partnerOf_49 (by decide) (fun c12 => ?_) (fun c12 => ?_)
            · refine lv_iload_n hx hb dX3_partnerOf_55 rfl (lv_at hl 2 rfl) ?_
              refine lv_iconst (v := 1) hx hb dX3_partnerOf_56 (by decide) ?_
              refine lv_iload hx hb dX3_partnerOf_57 (lv_at hl 1 rfl) ?_
              refine lv_ishl hx hb dX3_partnerOf_59 ?_
              refine lv_topi (fun v13 ev13 => ?_)
              have hv13 : IV 1 2048 v13 := iv_shl1 ev13 h4 (by decide) (by decide) (by decide)
              refine lv_iconst (v := (-1)) hx hb dX3_partnerOf_60 (by decide) ?_
              refine lv_ixor hx hb dX3_partnerOf_61 ?_
              refine lv_topi (fun v14 ev14 => ?_)
              refine lv_iand hx hb dX3_partnerOf_62 ?_
              refine lv_topi (fun v15 ev15 => ?_)
              have hv15 : IV 0 4095 v15 := iv_and1 ev15 q9_3
              refine lv_istore_n (lv' := [(3, .int v15), (5, .int r9), (4, .int k9_L_4), (0, .ref a), (1, .int p0), (2, .int p1)]) hx hb dX3_partnerOf_63 rfl hl (by decide) rfl (fun ls hl => ?_)
              refine lv_iload hx hb dX3_partnerOf_64 (lv_at hl 1 rfl) ?_
              refine lv_iconst (v := (-1)) hx hb dX3_partnerOf_66 (by decide) ?_
              refine lv_icmp_eq (tgt := 79) hx hb dX3_partnerOf_67 (by decide) (fun c16 => ?_) (fun c16 => ?_)
              · have h17 : IV (-1) (-1) r9 := iv_eq1 c16 hw_r9 (iv_c (a := (-1)) (b := (-1)) (by decide)) (by decide) (by decide)
                exact K79 v15 o10 hv15 h4 H locs (hP.sub (ws' := [(a, .inr (3, [.ref a_told, .ref a_known])), (a_known, .inl (cs 0, 4096, .inl o10)), (a_told, .inr (8, [.int a_told__stalls, .int a_told__shift, .int a_told__halves, .int a_told__buyers, .int a_told__near, .int a_told__dusk, .int a_told__duskPrice, .int a_told__hear, .int a_told__forged, .ref a_told_stall, .ref a_told_shape, .ref a_told_side, .ref a_told_price, .ref a_told_purse, .ref a_told_spot, .ref a_told_club, .ref a_told_fitting, .ref a_told_nearly])), (a_told_fitting, .inl (cs 0, 12, .inl a_told_fitting_c)), (a_told_nearly, .inl (cs 0, 12, .inl a_told_nearly_c))]) [0, 1, 2, 3, 4] rfl) (hD.sub (ws' := [(a, .inr (3, [.ref a_told, .ref a_known])), (a_known, .inl (cs 0, 4096, .inl o10)), (a_told, .inr (8, [.int a_told__stalls, .int a_told__shift, .int a_told__halves, .int a_told__buyers, .int a_told__near, .int a_told__dusk, .int a_told__duskPrice, .int a_told__hear, .int a_told__forged, .ref a_told_stall, .ref a_told_shape, .ref a_told_side, .ref a_told_price, .ref a_told_purse, .ref a_told_spot, .ref a_told_club, .ref a_told_fitting, .ref a_told_nearly])), (a_told_fitting, .inl (cs 0, 12, .inl a_told_fitting_c)), (a_told_nearly, .inl (cs 0, 12, .inl a_told_nearly_c))]) [0, 1, 2, 3, 4] (by decide) rfl) hS ls (lv_sub hl [0, 2, 3, 4, 5] rfl)
              · have h18 : IV 0 11 r9 := iv_neL c16 hw_r9 (by decide)
                refine lv_iload_n hx hb dX3_partnerOf_70 rfl (lv_at hl 0 rfl) ?_
                refine lv_iconst (v := 1) hx hb dX3_partnerOf_71 (by decide) ?_
                refine lv_iload hx hb dX3_partnerOf_72 (lv_at hl 1 rfl) ?_
                refine lv_ishl hx hb dX3_partnerOf_74 ?_
                refine lv_topi (fun v19 ev19 => ?_)
                have hv19 : IV 1 2048 v19 := iv_shl1 ev19 h18 (by decide) (by decide) (by decide)
                refine lv_iconst (v := (-1)) hx hb dX3_partnerOf_75 (by decide) ?_
                refine lv_ixor hx hb dX3_partnerOf_76 ?_
                refine lv_topi (fun v20 ev20 => ?_)
                refine lv_iand hx hb dX3_partnerOf_77 ?_
                refine lv_topi (fun v21 ev21 => ?_)
                have hv21 : IV 0 4095 v21 := iv_and1 ev21 hv15
                refine lv_istore_n (lv' := [(3, .int v21), (5, .int r9), (4, .int k9_L_4), (0, .ref a), (1, .int p0), (2, .int p1)]) hx hb dX3_partnerOf_78 rfl hl (by decide) rfl (fun ls hl => ?_)
                exact K79 v21 o10 hv21 h4 H locs (hP.sub (ws' := [(a, .inr (3, [.ref a_told, .ref a_known])), (a_known, .inl (cs 0, 4096, .inl o10)), (a_told, .inr (8, [.int a_told__stalls, .int a_told__shift, .int a_told__halves, .int a_told__buyers, .int a_told__near, .int a_told__dusk, .int a_told__duskPrice, .int a_told__hear, .int a_told__forged, .ref a_told_stall, .ref a_told_shape, .ref a_told_side, .ref a_told_price, .ref a_told_purse, .ref a_told_spot, .ref a_told_club, .ref a_told_fitting, .ref a_told_nearly])), (a_told_fitting, .inl (cs 0, 12, .inl a_told_fitting_c)), (a_told_nearly, .inl (cs 0, 12, .inl a_told_nearly_c))]) [0, 1, 2, 3, 4] rfl) (hD.sub (ws' := [(a, .inr (3, [.ref a_told, .ref a_known])), (a_known, .inl (cs 0, 4096, .inl o10)), (a_told, .inr (8, [.int a_told__stalls, .int a_told__shift, .int a_told__halves, .int a_told__buyers, .int a_told__near, .int a_told__dusk, .int a_told__duskPrice, .int a_told__hear, .int a_told__forged, .ref a_told_stall, .ref a_told_shape, .ref a_told_side, .ref a_told_price, .ref a_told_purse, .ref a_told_spot, .ref a_told_club, .ref a_told_fitting, .ref a_told_nearly])), (a_told_fitting, .inl (cs 0, 12, .inl a_told_fitting_c)), (a_told_nearly, .inl (cs 0, 12, .inl a_told_nearly_c))]) [0, 1, 2, 3, 4] (by decide) rfl) hS ls (lv_sub hl [0, 2, 3, 4, 5] rfl)
            · have h22 : IV (-1) 11 p0 := iv_eq2 c12 hw_r9 iv_top (by decide) (by decide)
              refine lv_iload hx hb dX3_partnerOf_52 (lv_at hl 1 rfl) ?_
              refine W.widen (k := 0) (n := 0) (Nat.le_of_ble_eq_true rfl) (Nat.le_of_ble_eq_true rfl) ?_
              exact W.iret (v := k9_L_4) hx hb hr (fun t ht hW => ⟨⟨k9_L_4, (), rfl, (Or.inr ((⟨(iv_w h4 (by decide) (by decide)), h22⟩))), o10, by rw [ht]; exact hP.sub [0, 1, 2, 3, 4] rfl, hD.sub [0, 1, 2, 3, 4] (by decide) rfl⟩, hS.F ht⟩) hS.2.2 dX3_partnerOf_54
          · have h23 : IV 0 11 p0 := iv_eq2 c11 h4 iv_top (by decide) (by decide)
            refine lv_iload hx hb dX3_partnerOf_43 (lv_at hl 0 rfl) ?_
            refine W.widen (k := 0) (n := 0) (Nat.le_of_ble_eq_true rfl) (Nat.le_of_ble_eq_true rfl) ?_
            exact W.iret (v := r9) hx hb hr (fun t ht hW => ⟨⟨r9, (), rfl, (Or.inr ((⟨hw_r9, (iv_w h23 (by decide) (by decide))⟩))), o10, by rw [ht]; exact hP.sub [0, 1, 2, 3, 4] rfl, hD.sub [0, 1, 2, 3, 4] (by decide) rfl⟩, hS.F ht⟩) hS.2.2 dX3_partnerOf_45
        · have h24 : IV 0 0 v6 := iv_eq1 c7 hv6 (iv_c (a := 0) (b := 0) (by decide)) (by decide) (by decide)
          refine lv_goto (tgt := 79) hx hb dX3_partnerOf_25 (by decide) ?_
          exact K79 k9_L_3 k9_C_a_known q9_3 h4 H locs (hP.sub (ws' := [(a, .inr (3, [.ref a_told, .ref a_known])), (a_known, .inl (cs 0, 4096, .inl k9_C_a_known)), (a_told, .inr (8, [.int a_told__stalls, .int a_told__shift, .int a_told__halves, .int a_told__buyers, .int a_told__near, .int a_told__dusk, .int a_told__duskPrice, .int a_told__hear, .int a_told__forged, .ref a_told_stall, .ref a_told_shape, .ref a_told_side, .ref a_told_price, .ref a_told_purse, .ref a_told_spot, .ref a_told_club, .ref a_told_fitting, .ref a_told_nearly])), (a_told_fitting, .inl (cs 0, 12, .inl a_told_fitting_c)), (a_told_nearly, .inl (cs 0, 12, .inl a_told_nearly_c))]) [0, 1, 2, 3, 4] rfl) (hD.sub (ws' := [(a, .inr (3, [.ref a_told, .ref a_known])), (a_known, .inl (cs 0, 4096, .inl k9_C_a_known)), (a_told, .inr (8, [.int a_told__stalls, .int a_told__shift, .int a_told__halves, .int a_told__buyers, .int a_told__near, .int a_told__dusk, .int a_told__duskPrice, .int a_told__hear, .int a_told__forged, .ref a_told_stall, .ref a_told_shape, .ref a_told_side, .ref a_told_price, .ref a_told_purse, .ref a_told_spot, .ref a_told_club, .ref a_told_fitting, .ref a_told_nearly])), (a_told_fitting, .inl (cs 0, 12, .inl a_told_fitting_c)), (a_told_nearly, .inl (cs 0, 12, .inl a_told_nearly_c))]) [0, 1, 2, 3, 4] (by decide) rfl) hS ls (lv_sub hl [1, 0, 2, 3, 4] rfl)
  refine lv_iload_n hx hb dX3_partnerOf_0 rfl (lv_at hl 2 rfl) ?_
  refine lv_sipush (v := 4095) hx hb dX3_partnerOf_1 (by decide) ?_
  refine lv_iand hx hb dX3_partnerOf_4 ?_
  refine lv_topi (fun v25 ev25 => ?_)
  have hv25 : IV 0 4095 v25 := iv_and2 ev25 (iv_c (a := 4095) (b := 4095) (by decide))
  refine lv_istore_n (lv' := [(3, .int v25), (0, .ref a), (1, .int p0), (2, .int p1)]) hx hb dX3_partnerOf_5 rfl hl (by decide) rfl (fun ls hl => ?_)
  refine lv_iconst (v := 0) hx hb dX3_partnerOf_6 (by decide) ?_
  refine lv_istore (lv' := [(4, .int 0), (3, .int v25), (0, .ref a), (1, .int p0), (2, .int p1)]) hx hb dX3_partnerOf_7 hl (by decide) rfl (fun ls hl => ?_)
  exact K9 _ 0 v25 a_known_c (Nat.le_refl _) hv25 (iv_c (by decide)) H locs (hP.sub (ws' := [(a, .inr (3, [.ref a_told, .ref a_known])), (a_known, .inl (cs 0, 4096, .inl a_known_c)), (a_told, .inr (8, [.int a_told__stalls, .int a_told__shift, .int a_told__halves, .int a_told__buyers, .int a_told__near, .int a_told__dusk, .int a_told__duskPrice, .int a_told__hear, .int a_told__forged, .ref a_told_stall, .ref a_told_shape, .ref a_told_side, .ref a_told_price, .ref a_told_purse, .ref a_told_spot, .ref a_told_club, .ref a_told_fitting, .ref a_told_nearly])), (a_told_fitting, .inl (cs 0, 12, .inl a_told_fitting_c)), (a_told_nearly, .inl (cs 0, 12, .inl a_told_nearly_c))]) [0, 1, 2, 3, 4] rfl) (hD.sub (ws' := [(a, .inr (3, [.ref a_told, .ref a_known])), (a_known, .inl (cs 0, 4096, .inl a_known_c)), (a_told, .inr (8, [.int a_told__stalls, .int a_told__shift, .int a_told__halves, .int a_told__buyers, .int a_told__near, .int a_told__dusk, .int a_told__duskPrice, .int a_told__hear, .int a_told__forged, .ref a_told_stall, .ref a_told_shape, .ref a_told_side, .ref a_told_price, .ref a_told_purse, .ref a_told_spot, .ref a_told_club, .ref a_told_fitting, .ref a_told_nearly])), (a_told_fitting, .inl (cs 0, 12, .inl a_told_fitting_c)), (a_told_nearly, .inl (cs 0, 12, .inl a_told_nearly_c))]) [0, 1, 2, 3, 4] (by decide) rfl) hS ls (lv_sub hl [0, 1, 2, 3, 4] rfl)
theorem dX2_openFor_0 : decode cX2_openFor 0 = .ok (.aload_n 0, 1) := by decide +kernel
theorem dX2_openFor_1 : decode cX2_openFor 1 = .ok (.aload_n 1, 1) := by decide +kernel
theorem dX2_openFor_2 : decode cX2_openFor 2 = .ok (.putfield 21, 3) := by decide +kernel
theorem dX2_openFor_5 : decode cX2_openFor 5 = .ok (.aload_n 0, 1) := by decide +kernel
theorem dX2_openFor_6 : decode cX2_openFor 6 = .ok (.aload_n 2, 1) := by decide +kernel
theorem dX2_openFor_7 : decode cX2_openFor 7 = .ok (.putfield 25, 3) := by decide +kernel
theorem dX2_openFor_10 : decode cX2_openFor 10 = .ok (.aload_n 0, 1) := by decide +kernel
theorem dX2_openFor_11 : decode cX2_openFor 11 = .ok (.aload_n 3, 1) := by decide +kernel
theorem dX2_openFor_12 : decode cX2_openFor 12 = .ok (.putfield 29, 3) := by decide +kernel
theorem dX2_openFor_15 : decode cX2_openFor 15 = .ok (.aload_n 0, 1) := by decide +kernel
theorem dX2_openFor_16 : decode cX2_openFor 16 = .ok (.iconst 0, 1) := by decide +kernel
theorem dX2_openFor_17 : decode cX2_openFor 17 = .ok (.putfield 33, 3) := by decide +kernel
theorem dX2_openFor_20 : decode cX2_openFor 20 = .ok (.return_, 1) := by decide +kernel
set_option maxHeartbeats 4000000 in
set_option maxRecDepth 100000 in
theorem c_X2_openFor (l : Launch) (D : va_G) (cs : Nat → ClassId) (kK kV : Nat → Nat) (a : Nat) (b0 : Nat) (b1 : Nat) (b2 : Nat) (a_stack : Nat) (a__told : Value) (a__scene : Value) (a__rule : Value) (a_words : Nat) (a__buyer : Int32) (a__saw : Int32) (a__stalls : Int32) (a__bought : Int32) (a__x : Int32)  (sz : Nat) : Met l yX2_openFor (hz_w yX2_openFor cX2_openFor 4 none) ({ frames := 0, cells := 0, slots := 0, locals := 0 }) (va_Pc [.ref a, .ref b0, .ref b1, .ref b2] (hz_C D cs kK kV sz [(a, .inr (2, [.ref a_stack, a__told, a__scene, a__rule, .ref a_words, .int a__buyer, .int a__saw, .int a__stalls, .int a__bought, .int a__x]))])) (va_Qv (fun (_ : Unit) => True) (fun _ t => va_P D classes [(a, .inr (2, [.ref a_stack, .ref b0, .ref b1, .ref b2, .ref a_words, .int a__buyer, .int a__saw, .int a__stalls, .int 0, .int a__x]))] t.heap ∧ va_D (va_A [(a, .inr (2, [.ref a_stack, a__told, a__scene, a__rule, .ref a_words, .int a__buyer, .int a__saw, .int a__stalls, .int a__bought, .int a__x]))] sz) [(a, .inr (2, [.ref a_stack, .ref b0, .ref b1, .ref b2, .ref a_words, .int a__buyer, .int a__saw, .int a__stalls, .int 0, .int a__x]))]) (va_A [(a, .inr (2, [.ref a_stack, a__told, a__scene, a__rule, .ref a_words, .int a__buyer, .int a__saw, .int a__stalls, .int a__bought, .int a__x]))] sz)) 0 0 (va_A [(a, .inr (2, [.ref a_stack, a__told, a__scene, a__rule, .ref a_words, .int a__buyer, .int a__saw, .int a__stalls, .int a__bought, .int a__x]))] sz) := by
  refine Met.ofW (cc := cX2_openFor) (maxL := 4) (ret := none) (by decide) rfl ?_
  intro p e s m args below meth c s₁ B hml hv
  obtain ⟨rfl, hsz, hP, hD0, hE⟩ := hv
  have hx := B.exec
  have hb := B.bytes
  have hr := B.returns
  have hT : ∀ w ∈ TB, w.before _ s = true := fun w h => atoms_spec (ws := hz_w yX2_openFor cX2_openFor 4 none) B.pre w (List.mem_cons_of_mem _ h)
  have hown : s.vm.findClass RX2 = some m.cls := findClass_of_methodNamed B.named
  have hlocks := B.notSynchronized
  clear B
  subst hsz
  have hD := hD0.self (sz := s.heap.size)
  generalize hAe : va_A [(a, .inr (2, [.ref a_stack, a__told, a__scene, a__rule, .ref a_words, .int a__buyer, .int a__saw, .int a__stalls, .int a__bought, .int a__x]))] s.heap.size = A at hD hE ⊢
  have hA : ∀ q : Nat, s.heap.size ≤ q → A q := fun q h => by rw [← hAe]; exact Or.inr h
  clear hAe hD0
  have hS : va_S A s.heap s.heap [] := va_S.rf
  have hK := hE.1
  have hl := lv_entry ([.ref a, .ref b0, .ref b1, .ref b2]) (n := 4) (Nat.le_of_ble_eq_true rfl)
  rw [lg_entry_eq]
  generalize (lg_sl ([.ref a, .ref b0, .ref b1, .ref b2]) ++ List.replicate (4 - (lg_sl ([.ref a, .ref b0, .ref b1, .ref b2])).length) Slot.unset).toArray = ls at hl ⊢
  have hl : lv_has ls 4 [(0, .ref a), (1, .ref b0), (2, .ref b1), (3, .ref b2)] := hl
  obtain ⟨H, eH⟩ : ∃ z, z = s.heap := ⟨_, rfl⟩
  have hP : va_P D classes [(a, .inr (2, [.ref a_stack, a__told, a__scene, a__rule, .ref a_words, .int a__buyer, .int a__saw, .int a__stalls, .int a__bought, .int a__x]))] H := by rw [eH]; exact hP
  have hS : va_S A s.heap H [] := by rw [eH]; exact hS
  rw [← eH]
  clear eH
  obtain ⟨locs, el⟩ : ∃ z : List Loc, z = [] := ⟨_, rfl⟩
  rw [← el] at hS ⊢
  clear el
  refine lv_aload_n hx hb dX2_openFor_0 rfl (lv_at hl 0 rfl) ?_
  refine lv_aload_n hx hb dX2_openFor_1 rfl (lv_at hl 1 rfl) ?_
  refine va_put (D := D) (ci := 2) (v := .ref b0) (ty := .object "HalfFair$Told") (C := RX2) (T := TX2) (N := 10) hx hb hT i_X2 tyX2 tyX2_ok nmX2 hown hK hP hD hS 0 rfl rfl 1 (by decide) (hT _ q_68) (fun _ h9 => h9) rfl (by decide +kernel) rfl rfl (Nat.le_of_ble_eq_true rfl) dX2_openFor_2 (fun H locs hP hD hS => ?_)
  have hP : va_P D classes [(a, .inr (2, [.ref a_stack, .ref b0, a__scene, a__rule, .ref a_words, .int a__buyer, .int a__saw, .int a__stalls, .int a__bought, .int a__x]))] H := hP
  have hD : va_D A [(a, .inr (2, [.ref a_stack, .ref b0, a__scene, a__rule, .ref a_words, .int a__buyer, .int a__saw, .int a__stalls, .int a__bought, .int a__x]))] := hD
  refine lv_aload_n hx hb dX2_openFor_5 rfl (lv_at hl 0 rfl) ?_
  refine lv_aload_n hx hb dX2_openFor_6 rfl (lv_at hl 2 rfl) ?_
  refine va_put (D := D) (ci := 2) (v := .ref b1) (ty := .object "HalfFair$Scene") (C := RX2) (T := TX2) (N := 10) hx hb hT i_X2 tyX2 tyX2_ok nmX2 hown hK hP hD hS 0 rfl rfl 2 (by decide) (hT _ q_69) (fun _ h9 => h9) rfl (by decide +kernel) rfl rfl (Nat.le_of_ble_eq_true rfl) dX2_openFor_7 (fun H locs hP hD hS => ?_)
  have hP : va_P D classes [(a, .inr (2, [.ref a_stack, .ref b0, .ref b1, a__rule, .ref a_words, .int a__buyer, .int a__saw, .int a__stalls, .int a__bought, .int a__x]))] H := hP
  have hD : va_D A [(a, .inr (2, [.ref a_stack, .ref b0, .ref b1, a__rule, .ref a_words, .int a__buyer, .int a__saw, .int a__stalls, .int a__bought, .int a__x]))] := hD
  refine lv_aload_n hx hb dX2_openFor_10 rfl (lv_at hl 0 rfl) ?_
  refine lv_aload_n hx hb dX2_openFor_11 rfl (lv_at hl 3 rfl) ?_
  refine va_put (D := D) (ci := 2) (v := .ref b2) (ty := .object "HalfFair$Rule") (C := RX2) (T := TX2) (N := 10) hx hb hT i_X2 tyX2 tyX2_ok nmX2 hown hK hP hD hS 0 rfl rfl 3 (by decide) (hT _ q_70) (fun _ h9 => h9) rfl (by decide +kernel) rfl rfl (Nat.le_of_ble_eq_true rfl) dX2_openFor_12 (fun H locs hP hD hS => ?_)
  have hP : va_P D classes [(a, .inr (2, [.ref a_stack, .ref b0, .ref b1, .ref b2, .ref a_words, .int a__buyer, .int a__saw, .int a__stalls, .int a__bought, .int a__x]))] H := hP
  have hD : va_D A [(a, .inr (2, [.ref a_stack, .ref b0, .ref b1, .ref b2, .ref a_words, .int a__buyer, .int a__saw, .int a__stalls, .int a__bought, .int a__x]))] := hD
  refine lv_aload_n hx hb dX2_openFor_15 rfl (lv_at hl 0 rfl) ?_
  refine lv_iconst (v := 0) hx hb dX2_openFor_16 (by decide) ?_
  refine va_put (D := D) (ci := 2) (v := .int 0) (ty := .int) (C := RX2) (T := TX2) (N := 10) hx hb hT i_X2 tyX2 tyX2_ok nmX2 hown hK hP hD hS 0 rfl rfl 8 (by decide) (hT _ q_71) (fun _ h9 => h9) rfl (by decide +kernel) rfl rfl (Nat.le_of_ble_eq_true rfl) dX2_openFor_17 (fun H locs hP hD hS => ?_)
  have hP : va_P D classes [(a, .inr (2, [.ref a_stack, .ref b0, .ref b1, .ref b2, .ref a_words, .int a__buyer, .int a__saw, .int a__stalls, .int 0, .int a__x]))] H := hP
  have hD : va_D A [(a, .inr (2, [.ref a_stack, .ref b0, .ref b1, .ref b2, .ref a_words, .int a__buyer, .int a__saw, .int a__stalls, .int 0, .int a__x]))] := hD
  refine W.widen (k := 0) (n := 0) (Nat.le_of_ble_eq_true rfl) (Nat.le_of_ble_eq_true rfl) ?_
  exact W.vret hx hb hr (fun t ht hW => ⟨⟨(), rfl, trivial, by rw [ht]; exact hP.sub [0] rfl, hD.sub [0] (by decide) rfl⟩, hS.F ht⟩) hS.2.2 dX2_openFor_20
theorem dX2_nextDraw_0 : decode cX2_nextDraw 0 = .ok (.aload_n 0, 1) := by decide +kernel
theorem dX2_nextDraw_1 : decode cX2_nextDraw 1 = .ok (.aload_n 0, 1) := by decide +kernel
theorem dX2_nextDraw_2 : decode cX2_nextDraw 2 = .ok (.getfield 81, 3) := by decide +kernel
theorem dX2_nextDraw_5 : decode cX2_nextDraw 5 = .ok (.i2l, 1) := by decide +kernel
theorem dX2_nextDraw_6 : decode cX2_nextDraw 6 = .ok (.ldc2_w 84, 3) := by decide +kernel
theorem dX2_nextDraw_9 : decode cX2_nextDraw 9 = .ok (.lmul, 1) := by decide +kernel
theorem dX2_nextDraw_10 : decode cX2_nextDraw 10 = .ok (.ldc2_w 86, 3) := by decide +kernel
theorem dX2_nextDraw_13 : decode cX2_nextDraw 13 = .ok (.ladd, 1) := by decide +kernel
theorem dX2_nextDraw_14 : decode cX2_nextDraw 14 = .ok (.ldc2_w 88, 3) := by decide +kernel
theorem dX2_nextDraw_17 : decode cX2_nextDraw 17 = .ok (.land, 1) := by decide +kernel
theorem dX2_nextDraw_18 : decode cX2_nextDraw 18 = .ok (.l2i, 1) := by decide +kernel
theorem dX2_nextDraw_19 : decode cX2_nextDraw 19 = .ok (.putfield 81, 3) := by decide +kernel
theorem dX2_nextDraw_22 : decode cX2_nextDraw 22 = .ok (.aload_n 0, 1) := by decide +kernel
theorem dX2_nextDraw_23 : decode cX2_nextDraw 23 = .ok (.getfield 81, 3) := by decide +kernel
theorem dX2_nextDraw_26 : decode cX2_nextDraw 26 = .ok (.ldc 90, 2) := by decide +kernel
theorem dX2_nextDraw_28 : decode cX2_nextDraw 28 = .ok (.idiv, 1) := by decide +kernel
theorem dX2_nextDraw_29 : decode cX2_nextDraw 29 = .ok (.ireturn, 1) := by decide +kernel
set_option maxHeartbeats 4000000 in
set_option maxRecDepth 100000 in
theorem c_X2_nextDraw (l : Launch) (D : va_G) (cs : Nat → ClassId) (kK kV : Nat → Nat) (a : Nat) (a_stack : Nat) (a_told : Nat) (a_scene : Nat) (a_rule : Nat) (a_words : Nat) (a__buyer : Int32) (a__saw : Int32) (a__stalls : Int32) (a__bought : Int32) (a__x : Int32)  (sz : Nat) : Met l yX2_nextDraw (hz_w yX2_nextDraw cX2_nextDraw 1 (some .int)) ({ frames := 0, cells := 0, slots := 0, locals := 0 }) (va_Pc [.ref a] (hz_C D cs kK kV sz [(a, .inr (2, [.ref a_stack, .ref a_told, .ref a_scene, .ref a_rule, .ref a_words, .int a__buyer, .int a__saw, .int a__stalls, .int a__bought, .int a__x]))])) (va_Qi (fun (r : Int32) (_ : Unit) => True) (fun _ t => ∃ (o_a_9 : Int32), va_P D classes [(a, .inr (2, [.ref a_stack, .ref a_told, .ref a_scene, .ref a_rule, .ref a_words, .int a__buyer, .int a__saw, .int a__stalls, .int a__bought, .int o_a_9]))] t.heap ∧ va_D (va_A [(a, .inr (2, [.ref a_stack, .ref a_told, .ref a_scene, .ref a_rule, .ref a_words, .int a__buyer, .int a__saw, .int a__stalls, .int a__bought, .int a__x]))] sz) [(a, .inr (2, [.ref a_stack, .ref a_told, .ref a_scene, .ref a_rule, .ref a_words, .int a__buyer, .int a__saw, .int a__stalls, .int a__bought, .int o_a_9]))]) (va_A [(a, .inr (2, [.ref a_stack, .ref a_told, .ref a_scene, .ref a_rule, .ref a_words, .int a__buyer, .int a__saw, .int a__stalls, .int a__bought, .int a__x]))] sz)) 0 0 (va_A [(a, .inr (2, [.ref a_stack, .ref a_told, .ref a_scene, .ref a_rule, .ref a_words, .int a__buyer, .int a__saw, .int a__stalls, .int a__bought, .int a__x]))] sz) := by
  refine Met.ofW (cc := cX2_nextDraw) (maxL := 1) (ret := (some .int)) (by decide) rfl ?_
  intro p e s m args below meth c s₁ B hml hv
  obtain ⟨rfl, hsz, hP, hD0, hE⟩ := hv
  have hx := B.exec
  have hb := B.bytes
  have hr := B.returns
  have hT : ∀ w ∈ TB, w.before _ s = true := fun w h => atoms_spec (ws := hz_w yX2_nextDraw cX2_nextDraw 1 (some .int)) B.pre w (List.mem_cons_of_mem _ h)
  have hown : s.vm.findClass RX2 = some m.cls := findClass_of_methodNamed B.named
  have hlocks := B.notSynchronized
  clear B
  subst hsz
  have hD := hD0.self (sz := s.heap.size)
  generalize hAe : va_A [(a, .inr (2, [.ref a_stack, .ref a_told, .ref a_scene, .ref a_rule, .ref a_words, .int a__buyer, .int a__saw, .int a__stalls, .int a__bought, .int a__x]))] s.heap.size = A at hD hE ⊢
  have hA : ∀ q : Nat, s.heap.size ≤ q → A q := fun q h => by rw [← hAe]; exact Or.inr h
  clear hAe hD0
  have hS : va_S A s.heap s.heap [] := va_S.rf
  have hK := hE.1
  have hl := lv_entry ([.ref a]) (n := 1) (Nat.le_of_ble_eq_true rfl)
  rw [lg_entry_eq]
  generalize (lg_sl ([.ref a]) ++ List.replicate (1 - (lg_sl ([.ref a])).length) Slot.unset).toArray = ls at hl ⊢
  have hl : lv_has ls 1 [(0, .ref a)] := hl
  obtain ⟨H, eH⟩ : ∃ z, z = s.heap := ⟨_, rfl⟩
  have hP : va_P D classes [(a, .inr (2, [.ref a_stack, .ref a_told, .ref a_scene, .ref a_rule, .ref a_words, .int a__buyer, .int a__saw, .int a__stalls, .int a__bought, .int a__x]))] H := by rw [eH]; exact hP
  have hS : va_S A s.heap H [] := by rw [eH]; exact hS
  rw [← eH]
  clear eH
  obtain ⟨locs, el⟩ : ∃ z : List Loc, z = [] := ⟨_, rfl⟩
  rw [← el] at hS ⊢
  clear el
  refine lv_aload_n hx hb dX2_nextDraw_0 rfl (lv_at hl 0 rfl) ?_
  refine lv_aload_n hx hb dX2_nextDraw_1 rfl (lv_at hl 0 rfl) ?_
  refine va_get (D := D) (ci := 2) (v := .int a__x) (C := RX2) (T := TX2) (N := 10) hx hb hT i_X2 hown hK hP 0 rfl rfl 9 (by decide) (hT _ q_77) (fun _ h9 => h9) rfl dX2_nextDraw_2 ?_
  refine lv_i2l (v := a__x.toInt64) hx hb dX2_nextDraw_5 rfl ?_
  refine lv_ldc2 hx hb hown (hT _ q_1388) dX2_nextDraw_6 ?_
  refine lv_lmul hx hb dX2_nextDraw_9 ?_
  refine lv_topl (fun u1 eu1 => ?_)
  refine lv_ldc2 hx hb hown (hT _ q_1389) dX2_nextDraw_10 ?_
  refine lv_ladd hx hb dX2_nextDraw_13 ?_
  refine lv_topl (fun u2 eu2 => ?_)
  refine lv_ldc2 hx hb hown (hT _ q_1390) dX2_nextDraw_14 ?_
  refine lv_land hx hb dX2_nextDraw_17 ?_
  refine lv_topl (fun u3 eu3 => ?_)
  refine lv_l2i (v := u3.toInt32) hx hb dX2_nextDraw_18 rfl ?_
  refine lv_topi (fun v4 ev4 => ?_)
  refine va_put (D := D) (ci := 2) (v := .int v4) (ty := .int) (C := RX2) (T := TX2) (N := 10) hx hb hT i_X2 tyX2 tyX2_ok nmX2 hown hK hP hD hS 0 rfl rfl 9 (by decide) (hT _ q_77) (fun _ h9 => h9) rfl (by decide +kernel) rfl rfl (Nat.le_of_ble_eq_true rfl) dX2_nextDraw_19 (fun H locs hP hD hS => ?_)
  have hP : va_P D classes [(a, .inr (2, [.ref a_stack, .ref a_told, .ref a_scene, .ref a_rule, .ref a_words, .int a__buyer, .int a__saw, .int a__stalls, .int a__bought, .int v4]))] H := hP
  have hD : va_D A [(a, .inr (2, [.ref a_stack, .ref a_told, .ref a_scene, .ref a_rule, .ref a_words, .int a__buyer, .int a__saw, .int a__stalls, .int a__bought, .int v4]))] := hD
  refine lv_aload_n hx hb dX2_nextDraw_22 rfl (lv_at hl 0 rfl) ?_
  refine va_get (D := D) (ci := 2) (v := .int v4) (C := RX2) (T := TX2) (N := 10) hx hb hT i_X2 hown hK hP 0 rfl rfl 9 (by decide) (hT _ q_77) (fun _ h9 => h9) rfl dX2_nextDraw_23 ?_
  refine lv_ldc hx hb hown (hT _ q_1429) dX2_nextDraw_26 ?_
  refine lv_idiv hx hb dX2_nextDraw_28 (by decide) ?_
  refine lv_topi (fun v5 ev5 => ?_)
  refine W.widen (k := 0) (n := 0) (Nat.le_of_ble_eq_true rfl) (Nat.le_of_ble_eq_true rfl) ?_
  exact W.iret (v := v5) hx hb hr (fun t ht hW => ⟨⟨v5, (), rfl, trivial, v4, by rw [ht]; exact hP.sub [0] rfl, hD.sub [0] (by decide) rfl⟩, hS.F ht⟩) hS.2.2 dX2_nextDraw_29
theorem dX2_drawnWay_0 : decode cX2_drawnWay 0 = .ok (.aload_n 0, 1) := by decide +kernel
theorem dX2_drawnWay_1 : decode cX2_drawnWay 1 = .ok (.invokevirtual 78, 3) := by decide +kernel
theorem dX2_drawnWay_4 : decode cX2_drawnWay 4 = .ok (.bipush 100, 2) := by decide +kernel
theorem dX2_drawnWay_6 : decode cX2_drawnWay 6 = .ok (.irem, 1) := by decide +kernel
theorem dX2_drawnWay_7 : decode cX2_drawnWay 7 = .ok (.iload_n 1, 1) := by decide +kernel
theorem dX2_drawnWay_8 : decode cX2_drawnWay 8 = .ok (.if_icmp .ge 14, 3) := by decide +kernel
theorem dX2_drawnWay_11 : decode cX2_drawnWay 11 = .ok (.aload_n 0, 1) := by decide +kernel
theorem dX2_drawnWay_12 : decode cX2_drawnWay 12 = .ok (.invokevirtual 78, 3) := by decide +kernel
theorem dX2_drawnWay_15 : decode cX2_drawnWay 15 = .ok (.iconst 3, 1) := by decide +kernel
theorem dX2_drawnWay_16 : decode cX2_drawnWay 16 = .ok (.irem, 1) := by decide +kernel
theorem dX2_drawnWay_17 : decode cX2_drawnWay 17 = .ok (.iconst 1, 1) := by decide +kernel
theorem dX2_drawnWay_18 : decode cX2_drawnWay 18 = .ok (.isub, 1) := by decide +kernel
theorem dX2_drawnWay_19 : decode cX2_drawnWay 19 = .ok (.goto 5, 3) := by decide +kernel
theorem dX2_drawnWay_22 : decode cX2_drawnWay 22 = .ok (.bipush (-2), 2) := by decide +kernel
theorem dX2_drawnWay_24 : decode cX2_drawnWay 24 = .ok (.ireturn, 1) := by decide +kernel
set_option maxHeartbeats 4000000 in
set_option maxRecDepth 100000 in
theorem c_X2_drawnWay (l : Launch) (D : va_G) (cs : Nat → ClassId) (kK kV : Nat → Nat) (a : Nat) (p0 : Int32) (a_stack : Nat) (a_told : Nat) (a_scene : Nat) (a_rule : Nat) (a_words : Nat) (a__buyer : Int32) (a__saw : Int32) (a__stalls : Int32) (a__bought : Int32) (a__x : Int32)  (sz : Nat) : Met l yX2_drawnWay (hz_w yX2_drawnWay cX2_drawnWay 2 (some .int)) ({ frames := 1, cells := 0, slots := 0, locals := 20 }) (va_Pc [.ref a, .int p0] (hz_C D cs kK kV sz [(a, .inr (2, [.ref a_stack, .ref a_told, .ref a_scene, .ref a_rule, .ref a_words, .int a__buyer, .int a__saw, .int a__stalls, .int a__bought, .int a__x]))])) (va_Qi (fun (r : Int32) (_ : Unit) => (r = (-2) ∧ IV (-2147483648) 99 p0) ∨ (IV (-3) 1 r ∧ IV (-98) 2147483647 p0)) (fun _ t => ∃ (o_a_9 : Int32), va_P D classes [(a, .inr (2, [.ref a_stack, .ref a_told, .ref a_scene, .ref a_rule, .ref a_words, .int a__buyer, .int a__saw, .int a__stalls, .int a__bought, .int o_a_9]))] t.heap ∧ va_D (va_A [(a, .inr (2, [.ref a_stack, .ref a_told, .ref a_scene, .ref a_rule, .ref a_words, .int a__buyer, .int a__saw, .int a__stalls, .int a__bought, .int a__x]))] sz) [(a, .inr (2, [.ref a_stack, .ref a_told, .ref a_scene, .ref a_rule, .ref a_words, .int a__buyer, .int a__saw, .int a__stalls, .int a__bought, .int o_a_9]))]) (va_A [(a, .inr (2, [.ref a_stack, .ref a_told, .ref a_scene, .ref a_rule, .ref a_words, .int a__buyer, .int a__saw, .int a__stalls, .int a__bought, .int a__x]))] sz)) 0 0 (va_A [(a, .inr (2, [.ref a_stack, .ref a_told, .ref a_scene, .ref a_rule, .ref a_words, .int a__buyer, .int a__saw, .int a__stalls, .int a__bought, .int a__x]))] sz) := by
  refine Met.ofW (cc := cX2_drawnWay) (maxL := 2) (ret := (some .int)) (by decide) rfl ?_
  intro p e s m args below meth c s₁ B hml hv
  obtain ⟨rfl, hsz, hP, hD0, hE⟩ := hv
  have hx := B.exec
  have hb := B.bytes
  have hr := B.returns
  have hT : ∀ w ∈ TB, w.before _ s = true := fun w h => atoms_spec (ws := hz_w yX2_drawnWay cX2_drawnWay 2 (some .int)) B.pre w (List.mem_cons_of_mem _ h)
  have hown : s.vm.findClass RX2 = some m.cls := findClass_of_methodNamed B.named
  have hlocks := B.notSynchronized
  clear B
  subst hsz
  have hD := hD0.self (sz := s.heap.size)
  generalize hAe : va_A [(a, .inr (2, [.ref a_stack, .ref a_told, .ref a_scene, .ref a_rule, .ref a_words, .int a__buyer, .int a__saw, .int a__stalls, .int a__bought, .int a__x]))] s.heap.size = A at hD hE ⊢
  have hA : ∀ q : Nat, s.heap.size ≤ q → A q := fun q h => by rw [← hAe]; exact Or.inr h
  clear hAe hD0
  have hS : va_S A s.heap s.heap [] := va_S.rf
  have hK := hE.1
  have hl := lv_entry ([.ref a, .int p0]) (n := 2) (Nat.le_of_ble_eq_true rfl)
  rw [lg_entry_eq]
  generalize (lg_sl ([.ref a, .int p0]) ++ List.replicate (2 - (lg_sl ([.ref a, .int p0])).length) Slot.unset).toArray = ls at hl ⊢
  have hl : lv_has ls 2 [(0, .ref a), (1, .int p0)] := hl
  obtain ⟨H, eH⟩ : ∃ z, z = s.heap := ⟨_, rfl⟩
  have hP : va_P D classes [(a, .inr (2, [.ref a_stack, .ref a_told, .ref a_scene, .ref a_rule, .ref a_words, .int a__buyer, .int a__saw, .int a__stalls, .int a__bought, .int a__x]))] H := by rw [eH]; exact hP
  have hS : va_S A s.heap H [] := by rw [eH]; exact hS
  rw [← eH]
  clear eH
  obtain ⟨locs, el⟩ : ∃ z : List Loc, z = [] := ⟨_, rfl⟩
  rw [← el] at hS ⊢
  clear el
  refine lv_aload_n hx hb dX2_drawnWay_0 rfl (lv_at hl 0 rfl) ?_
  have hFc := va_free (wc := [(a, .inr (2, [.ref a_stack, .ref a_told, .ref a_scene, .ref a_rule, .ref a_words, .int a__buyer, .int a__saw, .int a__stalls, .int a__bought, .int a__x]))]) hD hS hA [0] rfl
  refine va_calli (va_runV (As := []) (rest := []) ⟨hx, hb, hml, hown, hT⟩ (c_X2_nextDraw l D cs kK kV a a_stack a_told a_scene a_rule a_words a__buyer a__saw a__stalls a__bought a__x H.size) (cwV 0 hT (hz_gV q_497 q_498 q_499 q_332 q_500) rfl rfl rfl (by decide +kernel) ⟨(Nat.le_of_ble_eq_true rfl), (Nat.le_of_ble_eq_true rfl)⟩) ⟨hz_C.blind, va_recv hK hP (ci := 2) (q0 := 0) rfl rfl, hz_C.mk (hP.sub (ws' := [(a, .inr (2, [.ref a_stack, .ref a_told, .ref a_scene, .ref a_rule, .ref a_words, .int a__buyer, .int a__saw, .int a__stalls, .int a__bought, .int a__x]))]) [0] rfl) (hD.sub (ws' := [(a, .inr (2, [.ref a_stack, .ref a_told, .ref a_scene, .ref a_rule, .ref a_words, .int a__buyer, .int a__saw, .int a__stalls, .int a__bought, .int a__x]))]) [0] (by decide) rfl) hE hS hFc⟩ rfl rfl hl.1 rfl (lv_room (Nat.le_of_ble_eq_true rfl)) dX2_drawnWay_1 ⟨(Nat.le_of_ble_eq_true rfl), (Nat.le_of_ble_eq_true rfl)⟩) hS (fun q _ h => hFc q h) hFc (fun r1 u t H1 locs ht hvm hw hB hz1 hk1 hS => ?_)
  obtain ⟨o2, hP1, hD1⟩ := hB
  rw [ht] at hP1
  obtain ⟨hP, hD⟩ := va_join (wr := []) (w1 := [(a, .inr (2, [.ref a_stack, .ref a_told, .ref a_scene, .ref a_rule, .ref a_words, .int a__buyer, .int a__saw, .int a__stalls, .int a__bought, .int o2]))]) hP hD [0] [] rfl rfl (by decide) (by decide) hk1 hFc hP1 hD1
  generalize H1 = H at hP hS ⊢
  have hP : va_P D classes [(a, .inr (2, [.ref a_stack, .ref a_told, .ref a_scene, .ref a_rule, .ref a_words, .int a__buyer, .int a__saw, .int a__stalls, .int a__bought, .int o2]))] H := hP
  have hD : va_D A [(a, .inr (2, [.ref a_stack, .ref a_told, .ref a_scene, .ref a_rule, .ref a_words, .int a__buyer, .int a__saw, .int a__stalls, .int a__bought, .int o2]))] := hD
  clear hk1 hFc hP1 hD1 hz1
  refine lv_bipush (v := 100) hx hb dX2_drawnWay_4 (by decide) ?_
  refine lv_irem hx hb dX2_drawnWay_6 (by decide) ?_
  refine lv_topi (fun v3 ev3 => ?_)
  have hv3 : IV (-99) 99 v3 := iv_remA ev3 (iv_c (a := 100) (b := 100) (by decide)) (by decide) (by decide)
  refine lv_iload_n hx hb dX2_drawnWay_7 rfl (lv_at hl 1 rfl) ?_
  refine lv_icmp_ge (tgt := 22) hx hb dX2_drawnWay_8 (by decide) (fun c4 => ?_) (fun c4 => ?_)
  · have h5 : IV (-2147483648) 99 p0 := iv_le1 c4 iv_top hv3 (by decide)
    refine lv_bipush (v := (-2)) hx hb dX2_drawnWay_22 (by decide) ?_
    refine W.widen (k := 0) (n := 0) (Nat.le_of_ble_eq_true rfl) (Nat.le_of_ble_eq_true rfl) ?_
    exact W.iret (v := (-2)) hx hb hr (fun t ht hW => ⟨⟨(-2), (), rfl, (Or.inl (⟨rfl, h5⟩)), o2, by rw [ht]; exact hP.sub [0] rfl, hD.sub [0] (by decide) rfl⟩, hS.F ht⟩) hS.2.2 dX2_drawnWay_24
  · have h6 : IV (-98) 2147483647 p0 := iv_lt2 (Int32.not_le.mp c4) hv3 iv_top (by decide)
    refine lv_aload_n hx hb dX2_drawnWay_11 rfl (lv_at hl 0 rfl) ?_
    have hFc := va_free (wc := [(a, .inr (2, [.ref a_stack, .ref a_told, .ref a_scene, .ref a_rule, .ref a_words, .int a__buyer, .int a__saw, .int a__stalls, .int a__bought, .int o2]))]) hD hS hA [0] rfl
    refine va_calli (va_runV (As := []) (rest := []) ⟨hx, hb, hml, hown, hT⟩ (c_X2_nextDraw l D cs kK kV a a_stack a_told a_scene a_rule a_words a__buyer a__saw a__stalls a__bought o2 H.size) (cwV 0 hT (hz_gV q_497 q_498 q_499 q_332 q_500) rfl rfl rfl (by decide +kernel) ⟨(Nat.le_of_ble_eq_true rfl), (Nat.le_of_ble_eq_true rfl)⟩) ⟨hz_C.blind, va_recv hK hP (ci := 2) (q0 := 0) rfl rfl, hz_C.mk (hP.sub (ws' := [(a, .inr (2, [.ref a_stack, .ref a_told, .ref a_scene, .ref a_rule, .ref a_words, .int a__buyer, .int a__saw, .int a__stalls, .int a__bought, .int o2]))]) [0] rfl) (hD.sub (ws' := [(a, .inr (2, [.ref a_stack, .ref a_told, .ref a_scene, .ref a_rule, .ref a_words, .int a__buyer, .int a__saw, .int a__stalls, .int a__bought, .int o2]))]) [0] (by decide) rfl) hE hS hFc⟩ rfl rfl hl.1 rfl (lv_room (Nat.le_of_ble_eq_true rfl)) dX2_drawnWay_12 ⟨(Nat.le_of_ble_eq_true rfl), (Nat.le_of_ble_eq_true rfl)⟩) hS (fun q _ h => hFc q h) hFc (fun r7 u t H1 locs ht hvm hw hB hz1 hk1 hS => ?_)
    obtain ⟨o8, hP1, hD1⟩ := hB
    rw [ht] at hP1
    obtain ⟨hP, hD⟩ := va_join (wr := []) (w1 := [(a, .inr (2, [.ref a_stack, .ref a_told, .ref a_scene, .ref a_rule, .ref a_words, .int a__buyer, .int a__saw, .int a__stalls, .int a__bought, .int o8]))]) hP hD [0] [] rfl rfl (by decide) (by decide) hk1 hFc hP1 hD1
    generalize H1 = H at hP hS ⊢
    have hP : va_P D classes [(a, .inr (2, [.ref a_stack, .ref a_told, .ref a_scene, .ref a_rule, .ref a_words, .int a__buyer, .int a__saw, .int a__stalls, .int a__bought, .int o8]))] H := hP
    have hD : va_D A [(a, .inr (2, [.ref a_stack, .ref a_told, .ref a_scene, .ref a_rule, .ref a_words, .int a__buyer, .int a__saw, .int a__stalls, .int a__bought, .int o8]))] := hD
    clear hk1 hFc hP1 hD1 hz1
    refine lv_iconst (v := 3) hx hb dX2_drawnWay_15 (by decide) ?_
    refine lv_irem hx hb dX2_drawnWay_16 (by decide) ?_
    refine lv_topi (fun v9 ev9 => ?_)
    have hv9 : IV (-2) 2 v9 := iv_remA ev9 (iv_c (a := 3) (b := 3) (by decide)) (by decide) (by decide)
    refine lv_iconst (v := 1) hx hb dX2_drawnWay_17 (by decide) ?_
    refine lv_isub hx hb dX2_drawnWay_18 ?_
    refine lv_topi (fun v10 ev10 => ?_)
    have hv10 : IV (-3) 1 v10 := iv_sub ev10 hv9 (iv_c (a := 1) (b := 1) (by decide)) (by decide) (by decide)
    have dv10 : v10.toInt = v9.toInt + (-1) := iv_subE ev10 hv9 (iv_c (a := 1) (b := 1) (by decide)) (by decide) (by decide) (by decide)
    refine lv_goto (tgt := 24) hx hb dX2_drawnWay_19 (by decide) ?_
    refine W.widen (k := 0) (n := 0) (Nat.le_of_ble_eq_true rfl) (Nat.le_of_ble_eq_true rfl) ?_
    exact W.iret (v := v10) hx hb hr (fun t ht hW => ⟨⟨v10, (), rfl, (Or.inr ((⟨hv10, h6⟩))), o8, by rw [ht]; exact hP.sub [0] rfl, hD.sub [0] (by decide) rfl⟩, hS.F ht⟩) hS.2.2 dX2_drawnWay_24
theorem dX2_joined_0 : decode cX2_joined 0 = .ok (.iload_n 0, 1) := by decide +kernel
theorem dX2_joined_1 : decode cX2_joined 1 = .ok (.tableswitch 57 (-23) (-20) #[43, 39, 35, 31], 31) := by decide +kernel
theorem dX2_joined_32 : decode cX2_joined 32 = .ok (.lload_n 1, 1) := by decide +kernel
theorem dX2_joined_33 : decode cX2_joined 33 = .ok (.lload_n 3, 1) := by decide +kernel
theorem dX2_joined_34 : decode cX2_joined 34 = .ok (.ladd, 1) := by decide +kernel
theorem dX2_joined_35 : decode cX2_joined 35 = .ok (.lreturn, 1) := by decide +kernel
theorem dX2_joined_36 : decode cX2_joined 36 = .ok (.lload_n 1, 1) := by decide +kernel
theorem dX2_joined_37 : decode cX2_joined 37 = .ok (.lload_n 3, 1) := by decide +kernel
theorem dX2_joined_38 : decode cX2_joined 38 = .ok (.lsub, 1) := by decide +kernel
theorem dX2_joined_39 : decode cX2_joined 39 = .ok (.lreturn, 1) := by decide +kernel
theorem dX2_joined_40 : decode cX2_joined 40 = .ok (.lload_n 1, 1) := by decide +kernel
theorem dX2_joined_41 : decode cX2_joined 41 = .ok (.lload_n 3, 1) := by decide +kernel
theorem dX2_joined_42 : decode cX2_joined 42 = .ok (.lmul, 1) := by decide +kernel
theorem dX2_joined_43 : decode cX2_joined 43 = .ok (.lreturn, 1) := by decide +kernel
theorem dX2_joined_44 : decode cX2_joined 44 = .ok (.lload_n 3, 1) := by decide +kernel
theorem dX2_joined_45 : decode cX2_joined 45 = .ok (.lconst 0, 1) := by decide +kernel
theorem dX2_joined_46 : decode cX2_joined 46 = .ok (.lcmp, 1) := by decide +kernel
theorem dX2_joined_47 : decode cX2_joined 47 = .ok (.ifCond .ne 7, 3) := by decide +kernel
theorem dX2_joined_50 : decode cX2_joined 50 = .ok (.lconst 0, 1) := by decide +kernel
theorem dX2_joined_51 : decode cX2_joined 51 = .ok (.goto 6, 3) := by decide +kernel
theorem dX2_joined_54 : decode cX2_joined 54 = .ok (.lload_n 1, 1) := by decide +kernel
theorem dX2_joined_55 : decode cX2_joined 55 = .ok (.lload_n 3, 1) := by decide +kernel
theorem dX2_joined_56 : decode cX2_joined 56 = .ok (.ldiv, 1) := by decide +kernel
theorem dX2_joined_57 : decode cX2_joined 57 = .ok (.lreturn, 1) := by decide +kernel
theorem dX2_joined_58 : decode cX2_joined 58 = .ok (.lload_n 3, 1) := by decide +kernel
theorem dX2_joined_59 : decode cX2_joined 59 = .ok (.lconst 0, 1) := by decide +kernel
theorem dX2_joined_60 : decode cX2_joined 60 = .ok (.lcmp, 1) := by decide +kernel
theorem dX2_joined_61 : decode cX2_joined 61 = .ok (.ifCond .ne 7, 3) := by decide +kernel
theorem dX2_joined_64 : decode cX2_joined 64 = .ok (.lconst 0, 1) := by decide +kernel
theorem dX2_joined_65 : decode cX2_joined 65 = .ok (.goto 6, 3) := by decide +kernel
theorem dX2_joined_68 : decode cX2_joined 68 = .ok (.lload_n 1, 1) := by decide +kernel
theorem dX2_joined_69 : decode cX2_joined 69 = .ok (.lload_n 3, 1) := by decide +kernel
theorem dX2_joined_70 : decode cX2_joined 70 = .ok (.lrem, 1) := by decide +kernel
theorem dX2_joined_71 : decode cX2_joined 71 = .ok (.lreturn, 1) := by decide +kernel
set_option maxHeartbeats 4000000 in
set_option maxRecDepth 100000 in
theorem c_X2_joined (l : Launch) (D : va_G) (cs : Nat → ClassId) (kK kV : Nat → Nat) (p0 : Int32) (p1 : Int64) (p2 : Int64)  : Met l yX2_joined (hz_w yX2_joined cX2_joined 5 (some .long)) ({ frames := 0, cells := 0, slots := 0, locals := 0 }) (va_Pc [.int p0, .long p1, .long p2] (hz_P D cs kK kV [])) (va_Ql (fun (r : Int64) (_ : Unit) => True) (fun _ t => True) (fun _ => False)) 0 0 (fun _ => False) := by
  refine Met.ofW (cc := cX2_joined) (maxL := 5) (ret := (some .long)) (by decide) rfl ?_
  intro p e s m args below meth c s₁ B hml hv
  obtain ⟨rfl, hP, hE⟩ := hv
  have hx := B.exec
  have hb := B.bytes
  have hr := B.returns
  have hT : ∀ w ∈ TB, w.before _ s = true := fun w h => atoms_spec (ws := hz_w yX2_joined cX2_joined 5 (some .long)) B.pre w (List.mem_cons_of_mem _ h)
  have hown : s.vm.findClass RX2 = some m.cls := findClass_of_methodNamed B.named
  have hlocks := B.notSynchronized
  clear B
  have hS : va_S (fun _ => False) s.heap s.heap [] := va_S.rf
  have hK := hE.1
  have hl := lv_entry ([.int p0, .long p1, .long p2]) (n := 5) (Nat.le_of_ble_eq_true rfl)
  rw [lg_entry_eq]
  generalize (lg_sl ([.int p0, .long p1, .long p2]) ++ List.replicate (5 - (lg_sl ([.int p0, .long p1, .long p2])).length) Slot.unset).toArray = ls at hl ⊢
  have hl : lv_has ls 5 [(0, .int p0), (1, .long p1), (3, .long p2)] := hl
  obtain ⟨H, eH⟩ : ∃ z, z = s.heap := ⟨_, rfl⟩
  have hP : va_P D classes [] H := by rw [eH]; exact hP
  have hS : va_S (fun _ => False) s.heap H [] := by rw [eH]; exact hS
  rw [← eH]
  clear eH
  obtain ⟨locs, el⟩ : ∃ z : List Loc, z = [] := ⟨_, rfl⟩
  rw [← el] at hS ⊢
  clear el
  refine lv_iload_n hx hb dX2_joined_0 rfl (lv_at hl 0 rfl) ?_
  by_cases c1 : p0.toInt < (-23) ∨ (-20) < p0.toInt
  · refine lv_tableOut (tgt := 58) hx hb dX2_joined_1 c1 (by decide) ?_
    refine lv_lload_n hx hb dX2_joined_58 rfl (lv_at hl 2 rfl) ?_
    refine lv_lconst (v := 0) hx hb dX2_joined_59 (by decide) ?_
    refine W.lcmp hx hb dX2_joined_60 ?_
    refine lv_topi (fun v2 ev2 => ?_)
    have hv2 : IV (-1) 1 v2 := iv_cmp ev2
    refine lv_if_ne (tgt := 68) hx hb dX2_joined_61 (by decide) (fun c3 => ?_) (fun c3 => ?_)
    · refine lv_lload_n hx hb dX2_joined_68 rfl (lv_at hl 1 rfl) ?_
      refine lv_lload_n hx hb dX2_joined_69 rfl (lv_at hl 2 rfl) ?_
      refine lv_lrem hx hb dX2_joined_70 (fun z => c3 (by rw [ev2, z]; rfl)) ?_
      refine lv_topl (fun u4 eu4 => ?_)
      exact W.lret (v := u4) hx hb hr (fun t ht hW => ⟨⟨u4, (), rfl, trivial, trivial⟩, hS.F ht⟩) hS.2.2 dX2_joined_71
    · have h5 : IV 0 0 v2 := iv_eq1 c3 hv2 (iv_c (a := 0) (b := 0) (by decide)) (by decide) (by decide)
      refine lv_lconst (v := 0) hx hb dX2_joined_64 (by decide) ?_
      refine lv_goto (tgt := 71) hx hb dX2_joined_65 (by decide) ?_
      exact W.lret (v := 0) hx hb hr (fun t ht hW => ⟨⟨0, (), rfl, trivial, trivial⟩, hS.F ht⟩) hS.2.2 dX2_joined_71
  · rcases (show p0.toInt = (-23) ∨ p0.toInt = (-22) ∨ p0.toInt = (-21) ∨ p0.toInt = (-20) by omega) with c1e | c1e | c1e | c1e
    · refine lv_tableIn (off := 43) (tgt := 44) hx hb dX2_joined_1 (by omega) (by omega) (by rw [c1e]; rfl) (by decide) ?_
      have h6 : IV (-23) (-23) p0 := ⟨by omega, by omega⟩
      refine lv_lload_n hx hb dX2_joined_44 rfl (lv_at hl 2 rfl) ?_
      refine lv_lconst (v := 0) hx hb dX2_joined_45 (by decide) ?_
      refine W.lcmp hx hb dX2_joined_46 ?_
      refine lv_topi (fun v7 ev7 => ?_)
      have hv7 : IV (-1) 1 v7 := iv_cmp ev7
      refine lv_if_ne (tgt := 54) hx hb dX2_joined_47 (by decide) (fun c8 => ?_) (fun c8 => ?_)
      · refine lv_lload_n hx hb dX2_joined_54 rfl (lv_at hl 1 rfl) ?_
        refine lv_lload_n hx hb dX2_joined_55 rfl (lv_at hl 2 rfl) ?_
        refine lv_ldiv hx hb dX2_joined_56 (fun z => c8 (by rw [ev7, z]; rfl)) ?_
        refine lv_topl (fun u9 eu9 => ?_)
        exact W.lret (v := u9) hx hb hr (fun t ht hW => ⟨⟨u9, (), rfl, trivial, trivial⟩, hS.F ht⟩) hS.2.2 dX2_joined_57
      · have h10 : IV 0 0 v7 := iv_eq1 c8 hv7 (iv_c (a := 0) (b := 0) (by decide)) (by decide) (by decide)
        refine lv_lconst (v := 0) hx hb dX2_joined_50 (by decide) ?_
        refine lv_goto (tgt := 57) hx hb dX2_joined_51 (by decide) ?_
        exact W.lret (v := 0) hx hb hr (fun t ht hW => ⟨⟨0, (), rfl, trivial, trivial⟩, hS.F ht⟩) hS.2.2 dX2_joined_57
    · refine lv_tableIn (off := 39) (tgt := 40) hx hb dX2_joined_1 (by omega) (by omega) (by rw [c1e]; rfl) (by decide) ?_
      have h11 : IV (-22) (-22) p0 := ⟨by omega, by omega⟩
      refine lv_lload_n hx hb dX2_joined_40 rfl (lv_at hl 1 rfl) ?_
      refine lv_lload_n hx hb dX2_joined_41 rfl (lv_at hl 2 rfl) ?_
      refine lv_lmul hx hb dX2_joined_42 ?_
      refine lv_topl (fun u12 eu12 => ?_)
      exact W.lret (v := u12) hx hb hr (fun t ht hW => ⟨⟨u12, (), rfl, trivial, trivial⟩, hS.F ht⟩) hS.2.2 dX2_joined_43
    · refine lv_tableIn (off := 35) (tgt := 36) hx hb dX2_joined_1 (by omega) (by omega) (by rw [c1e]; rfl) (by decide) ?_
      have h13 : IV (-21) (-21) p0 := ⟨by omega, by omega⟩
      refine lv_lload_n hx hb dX2_joined_36 rfl (lv_at hl 1 rfl) ?_
      refine lv_lload_n hx hb dX2_joined_37 rfl (lv_at hl 2 rfl) ?_
      refine lv_lsub hx hb dX2_joined_38 ?_
      refine lv_topl (fun u14 eu14 => ?_)
      exact W.lret (v := u14) hx hb hr (fun t ht hW => ⟨⟨u14, (), rfl, trivial, trivial⟩, hS.F ht⟩) hS.2.2 dX2_joined_39
    · refine lv_tableIn (off := 31) (tgt := 32) hx hb dX2_joined_1 (by omega) (by omega) (by rw [c1e]; rfl) (by decide) ?_
      have h15 : IV (-20) (-20) p0 := ⟨by omega, by omega⟩
      refine lv_lload_n hx hb dX2_joined_32 rfl (lv_at hl 1 rfl) ?_
      refine lv_lload_n hx hb dX2_joined_33 rfl (lv_at hl 2 rfl) ?_
      refine lv_ladd hx hb dX2_joined_34 ?_
      refine lv_topl (fun u16 eu16 => ?_)
      exact W.lret (v := u16) hx hb hr (fun t ht hW => ⟨⟨u16, (), rfl, trivial, trivial⟩, hS.F ht⟩) hS.2.2 dX2_joined_35
theorem dX2_holds_0 : decode cX2_holds 0 = .ok (.iload_n 0, 1) := by decide +kernel
theorem dX2_holds_1 : decode cX2_holds 1 = .ok (.tableswitch 117 (-30) (-25) #[99, 87, 75, 63, 51, 39], 39) := by decide +kernel
theorem dX2_holds_40 : decode cX2_holds 40 = .ok (.lload_n 1, 1) := by decide +kernel
theorem dX2_holds_41 : decode cX2_holds 41 = .ok (.lload_n 3, 1) := by decide +kernel
theorem dX2_holds_42 : decode cX2_holds 42 = .ok (.lcmp, 1) := by decide +kernel
theorem dX2_holds_43 : decode cX2_holds 43 = .ok (.ifCond .ge 7, 3) := by decide +kernel
theorem dX2_holds_46 : decode cX2_holds 46 = .ok (.iconst 1, 1) := by decide +kernel
theorem dX2_holds_47 : decode cX2_holds 47 = .ok (.goto 4, 3) := by decide +kernel
theorem dX2_holds_50 : decode cX2_holds 50 = .ok (.iconst 0, 1) := by decide +kernel
theorem dX2_holds_51 : decode cX2_holds 51 = .ok (.ireturn, 1) := by decide +kernel
theorem dX2_holds_52 : decode cX2_holds 52 = .ok (.lload_n 1, 1) := by decide +kernel
theorem dX2_holds_53 : decode cX2_holds 53 = .ok (.lload_n 3, 1) := by decide +kernel
theorem dX2_holds_54 : decode cX2_holds 54 = .ok (.lcmp, 1) := by decide +kernel
theorem dX2_holds_55 : decode cX2_holds 55 = .ok (.ifCond .gt 7, 3) := by decide +kernel
theorem dX2_holds_58 : decode cX2_holds 58 = .ok (.iconst 1, 1) := by decide +kernel
theorem dX2_holds_59 : decode cX2_holds 59 = .ok (.goto 4, 3) := by decide +kernel
theorem dX2_holds_62 : decode cX2_holds 62 = .ok (.iconst 0, 1) := by decide +kernel
theorem dX2_holds_63 : decode cX2_holds 63 = .ok (.ireturn, 1) := by decide +kernel
theorem dX2_holds_64 : decode cX2_holds 64 = .ok (.lload_n 1, 1) := by decide +kernel
theorem dX2_holds_65 : decode cX2_holds 65 = .ok (.lload_n 3, 1) := by decide +kernel
theorem dX2_holds_66 : decode cX2_holds 66 = .ok (.lcmp, 1) := by decide +kernel
theorem dX2_holds_67 : decode cX2_holds 67 = .ok (.ifCond .ne 7, 3) := by decide +kernel
theorem dX2_holds_70 : decode cX2_holds 70 = .ok (.iconst 1, 1) := by decide +kernel
theorem dX2_holds_71 : decode cX2_holds 71 = .ok (.goto 4, 3) := by decide +kernel
theorem dX2_holds_74 : decode cX2_holds 74 = .ok (.iconst 0, 1) := by decide +kernel
theorem dX2_holds_75 : decode cX2_holds 75 = .ok (.ireturn, 1) := by decide +kernel
theorem dX2_holds_76 : decode cX2_holds 76 = .ok (.lload_n 1, 1) := by decide +kernel
theorem dX2_holds_77 : decode cX2_holds 77 = .ok (.lload_n 3, 1) := by decide +kernel
theorem dX2_holds_78 : decode cX2_holds 78 = .ok (.lcmp, 1) := by decide +kernel
theorem dX2_holds_79 : decode cX2_holds 79 = .ok (.ifCond .lt 7, 3) := by decide +kernel
theorem dX2_holds_82 : decode cX2_holds 82 = .ok (.iconst 1, 1) := by decide +kernel
theorem dX2_holds_83 : decode cX2_holds 83 = .ok (.goto 4, 3) := by decide +kernel
theorem dX2_holds_86 : decode cX2_holds 86 = .ok (.iconst 0, 1) := by decide +kernel
theorem dX2_holds_87 : decode cX2_holds 87 = .ok (.ireturn, 1) := by decide +kernel
theorem dX2_holds_88 : decode cX2_holds 88 = .ok (.lload_n 1, 1) := by decide +kernel
theorem dX2_holds_89 : decode cX2_holds 89 = .ok (.lload_n 3, 1) := by decide +kernel
theorem dX2_holds_90 : decode cX2_holds 90 = .ok (.lcmp, 1) := by decide +kernel
theorem dX2_holds_91 : decode cX2_holds 91 = .ok (.ifCond .le 7, 3) := by decide +kernel
theorem dX2_holds_94 : decode cX2_holds 94 = .ok (.iconst 1, 1) := by decide +kernel
theorem dX2_holds_95 : decode cX2_holds 95 = .ok (.goto 4, 3) := by decide +kernel
theorem dX2_holds_98 : decode cX2_holds 98 = .ok (.iconst 0, 1) := by decide +kernel
theorem dX2_holds_99 : decode cX2_holds 99 = .ok (.ireturn, 1) := by decide +kernel
theorem dX2_holds_100 : decode cX2_holds 100 = .ok (.lload_n 1, 1) := by decide +kernel
theorem dX2_holds_101 : decode cX2_holds 101 = .ok (.lconst 0, 1) := by decide +kernel
theorem dX2_holds_102 : decode cX2_holds 102 = .ok (.lcmp, 1) := by decide +kernel
theorem dX2_holds_103 : decode cX2_holds 103 = .ok (.ifCond .eq 13, 3) := by decide +kernel
theorem dX2_holds_106 : decode cX2_holds 106 = .ok (.lload_n 3, 1) := by decide +kernel
theorem dX2_holds_107 : decode cX2_holds 107 = .ok (.lconst 0, 1) := by decide +kernel
theorem dX2_holds_108 : decode cX2_holds 108 = .ok (.lcmp, 1) := by decide +kernel
theorem dX2_holds_109 : decode cX2_holds 109 = .ok (.ifCond .eq 7, 3) := by decide +kernel
theorem dX2_holds_112 : decode cX2_holds 112 = .ok (.iconst 1, 1) := by decide +kernel
theorem dX2_holds_113 : decode cX2_holds 113 = .ok (.goto 4, 3) := by decide +kernel
theorem dX2_holds_116 : decode cX2_holds 116 = .ok (.iconst 0, 1) := by decide +kernel
theorem dX2_holds_117 : decode cX2_holds 117 = .ok (.ireturn, 1) := by decide +kernel
theorem dX2_holds_118 : decode cX2_holds 118 = .ok (.lload_n 1, 1) := by decide +kernel
theorem dX2_holds_119 : decode cX2_holds 119 = .ok (.lconst 0, 1) := by decide +kernel
theorem dX2_holds_120 : decode cX2_holds 120 = .ok (.lcmp, 1) := by decide +kernel
theorem dX2_holds_121 : decode cX2_holds 121 = .ok (.ifCond .ne 9, 3) := by decide +kernel
theorem dX2_holds_124 : decode cX2_holds 124 = .ok (.lload_n 3, 1) := by decide +kernel
theorem dX2_holds_125 : decode cX2_holds 125 = .ok (.lconst 0, 1) := by decide +kernel
theorem dX2_holds_126 : decode cX2_holds 126 = .ok (.lcmp, 1) := by decide +kernel
theorem dX2_holds_127 : decode cX2_holds 127 = .ok (.ifCond .eq 7, 3) := by decide +kernel
theorem dX2_holds_130 : decode cX2_holds 130 = .ok (.iconst 1, 1) := by decide +kernel
theorem dX2_holds_131 : decode cX2_holds 131 = .ok (.goto 4, 3) := by decide +kernel
theorem dX2_holds_134 : decode cX2_holds 134 = .ok (.iconst 0, 1) := by decide +kernel
theorem dX2_holds_135 : decode cX2_holds 135 = .ok (.ireturn, 1) := by decide +kernel
set_option maxHeartbeats 4000000 in
set_option maxRecDepth 100000 in
theorem c_X2_holds (l : Launch) (D : va_G) (cs : Nat → ClassId) (kK kV : Nat → Nat) (p0 : Int32) (p1 : Int64) (p2 : Int64)  : Met l yX2_holds (hz_w yX2_holds cX2_holds 5 (some .boolean)) ({ frames := 0, cells := 0, slots := 0, locals := 0 }) (va_Pc [.int p0, .long p1, .long p2] (hz_P D cs kK kV [])) (va_Qi (fun (r : Int32) (_ : Unit) => (r = 0) ∨ (r = 1)) (fun _ t => True) (fun _ => False)) 0 0 (fun _ => False) := by
  refine Met.ofW (cc := cX2_holds) (maxL := 5) (ret := (some .boolean)) (by decide) rfl ?_
  intro p e s m args below meth c s₁ B hml hv
  obtain ⟨rfl, hP, hE⟩ := hv
  have hx := B.exec
  have hb := B.bytes
  have hr := B.returns
  have hT : ∀ w ∈ TB, w.before _ s = true := fun w h => atoms_spec (ws := hz_w yX2_holds cX2_holds 5 (some .boolean)) B.pre w (List.mem_cons_of_mem _ h)
  have hown : s.vm.findClass RX2 = some m.cls := findClass_of_methodNamed B.named
  have hlocks := B.notSynchronized
  clear B
  have hS : va_S (fun _ => False) s.heap s.heap [] := va_S.rf
  have hK := hE.1
  have hl := lv_entry ([.int p0, .long p1, .long p2]) (n := 5) (Nat.le_of_ble_eq_true rfl)
  rw [lg_entry_eq]
  generalize (lg_sl ([.int p0, .long p1, .long p2]) ++ List.replicate (5 - (lg_sl ([.int p0, .long p1, .long p2])).length) Slot.unset).toArray = ls at hl ⊢
  have hl : lv_has ls 5 [(0, .int p0), (1, .long p1), (3, .long p2)] := hl
  obtain ⟨H, eH⟩ : ∃ z, z = s.heap := ⟨_, rfl⟩
  have hP : va_P D classes [] H := by rw [eH]; exact hP
  have hS : va_S (fun _ => False) s.heap H [] := by rw [eH]; exact hS
  rw [← eH]
  clear eH
  obtain ⟨locs, el⟩ : ∃ z : List Loc, z = [] := ⟨_, rfl⟩
  rw [← el] at hS ⊢
  clear el
  have K130 : ∀ (H : Heap) (locs : List Loc), va_P D classes [] H → va_S (fun _ => False) s.heap H locs → ∀ ls : Array Slot, lv_has ls 5 [(0, .int p0), (1, .long p1), (3, .long p2)] → W p l e (headSpec (hz_w yX2_holds cX2_holds 5 (some .boolean)) ({ frames := 0, cells := 0, slots := 0, locals := 0 })).room s m [.int p0, .long p1, .long p2].toArray below meth c H locs 0 0 (MQ below (va_Qi (fun (r : Int32) (_ : Unit) => (r = 0) ∨ (r = 1)) (fun _ t => True) (fun _ => False)) [.int p0, .long p1, .long p2].toArray s 0 0 (fun _ => False)) (F0 m 130 ls []) := by
    intro   H locs hP hS ls hl
    refine lv_iconst (v := 1) hx hb dX2_holds_130 (by decide) ?_
    refine lv_goto (tgt := 135) hx hb dX2_holds_131 (by decide) ?_
    exact W.zret (v := 1) hx hb hr rfl (fun t ht hW => ⟨⟨1, (), rfl, (Or.inr ((rfl))), trivial⟩, hS.F ht⟩) hS.2.2 dX2_holds_135
  refine lv_iload_n hx hb dX2_holds_0 rfl (lv_at hl 0 rfl) ?_
  by_cases c1 : p0.toInt < (-30) ∨ (-25) < p0.toInt
  · refine lv_tableOut (tgt := 118) hx hb dX2_holds_1 c1 (by decide) ?_
    refine lv_lload_n hx hb dX2_holds_118 rfl (lv_at hl 1 rfl) ?_
    refine lv_lconst (v := 0) hx hb dX2_holds_119 (by decide) ?_
    refine W.lcmp hx hb dX2_holds_120 ?_
    refine lv_topi (fun v2 ev2 => ?_)
    have hv2 : IV (-1) 1 v2 := iv_cmp ev2
    refine lv_if_ne (tgt := 130) hx hb dX2_holds_121 (by decide) (fun c3 => ?_) (fun c3 => ?_)
    · exact K130  H locs (hP.sub (ws' := []) [] rfl) hS ls (lv_sub hl [0, 1, 2] rfl)
    · have h4 : IV 0 0 v2 := iv_eq1 c3 hv2 (iv_c (a := 0) (b := 0) (by decide)) (by decide) (by decide)
      refine lv_lload_n hx hb dX2_holds_124 rfl (lv_at hl 2 rfl) ?_
      refine lv_lconst (v := 0) hx hb dX2_holds_125 (by decide) ?_
      refine W.lcmp hx hb dX2_holds_126 ?_
      refine lv_topi (fun v5 ev5 => ?_)
      have hv5 : IV (-1) 1 v5 := iv_cmp ev5
      refine lv_if_eq (tgt := 134) hx hb dX2_holds_127 (by decide) (fun c6 => ?_) (fun c6 => ?_)
      · have h7 : IV 0 0 v5 := iv_eq1 c6 hv5 (iv_c (a := 0) (b := 0) (by decide)) (by decide) (by decide)
        refine lv_iconst (v := 0) hx hb dX2_holds_134 (by decide) ?_
        exact W.zret (v := 0) hx hb hr rfl (fun t ht hW => ⟨⟨0, (), rfl, (Or.inl (rfl)), trivial⟩, hS.F ht⟩) hS.2.2 dX2_holds_135
      · exact K130  H locs (hP.sub (ws' := []) [] rfl) hS ls (lv_sub hl [0, 1, 2] rfl)
  · rcases (show p0.toInt = (-30) ∨ p0.toInt = (-29) ∨ p0.toInt = (-28) ∨ p0.toInt = (-27) ∨ p0.toInt = (-26) ∨ p0.toInt = (-25) by omega) with c1e | c1e | c1e | c1e | c1e | c1e
    · refine lv_tableIn (off := 99) (tgt := 100) hx hb dX2_holds_1 (by omega) (by omega) (by rw [c1e]; rfl) (by decide) ?_
      have h8 : IV (-30) (-30) p0 := ⟨by omega, by omega⟩
      refine lv_lload_n hx hb dX2_holds_100 rfl (lv_at hl 1 rfl) ?_
      refine lv_lconst (v := 0) hx hb dX2_holds_101 (by decide) ?_
      refine W.lcmp hx hb dX2_holds_102 ?_
      refine lv_topi (fun v9 ev9 => ?_)
      have hv9 : IV (-1) 1 v9 := iv_cmp ev9
      refine lv_if_eq (tgt := 116) hx hb dX2_holds_103 (by decide) (fun c10 => ?_) (fun c10 => ?_)
      · have h11 : IV 0 0 v9 := iv_eq1 c10 hv9 (iv_c (a := 0) (b := 0) (by decide)) (by decide) (by decide)
        refine lv_iconst (v := 0) hx hb dX2_holds_116 (by decide) ?_
        exact W.zret (v := 0) hx hb hr rfl (fun t ht hW => ⟨⟨0, (), rfl, (Or.inl (rfl)), trivial⟩, hS.F ht⟩) hS.2.2 dX2_holds_117
      · refine lv_lload_n hx hb dX2_holds_106 rfl (lv_at hl 2 rfl) ?_
        refine lv_lconst (v := 0) hx hb dX2_holds_107 (by decide) ?_
        refine W.lcmp hx hb dX2_holds_108 ?_
        refine lv_topi (fun v12 ev12 => ?_)
        have hv12 : IV (-1) 1 v12 := iv_cmp ev12
        refine lv_if_eq (tgt := 116) hx hb dX2_holds_109 (by decide) (fun c13 => ?_) (fun c13 => ?_)
        · have h14 : IV 0 0 v12 := iv_eq1 c13 hv12 (iv_c (a := 0) (b := 0) (by decide)) (by decide) (by decide)
          refine lv_iconst (v := 0) hx hb dX2_holds_116 (by decide) ?_
          exact W.zret (v := 0) hx hb hr rfl (fun t ht hW => ⟨⟨0, (), rfl, (Or.inl (rfl)), trivial⟩, hS.F ht⟩) hS.2.2 dX2_holds_117
        · refine lv_iconst (v := 1) hx hb dX2_holds_112 (by decide) ?_
          refine lv_goto (tgt := 117) hx hb dX2_holds_113 (by decide) ?_
          exact W.zret (v := 1) hx hb hr rfl (fun t ht hW => ⟨⟨1, (), rfl, (Or.inr ((rfl))), trivial⟩, hS.F ht⟩) hS.2.2 dX2_holds_117
    · refine lv_tableIn (off := 87) (tgt := 88) hx hb dX2_holds_1 (by omega) (by omega) (by rw [c1e]; rfl) (by decide) ?_
      have h15 : IV (-29) (-29) p0 := ⟨by omega, by omega⟩
      refine lv_lload_n hx hb dX2_holds_88 rfl (lv_at hl 1 rfl) ?_
      refine lv_lload_n hx hb dX2_holds_89 rfl (lv_at hl 2 rfl) ?_
      refine W.lcmp hx hb dX2_holds_90 ?_
      refine lv_topi (fun v16 ev16 => ?_)
      have hv16 : IV (-1) 1 v16 := iv_cmp ev16
      refine lv_if_le (tgt := 98) hx hb dX2_holds_91 (by decide) (fun c17 => ?_) (fun c17 => ?_)
      · have h18 : IV (-1) 0 v16 := iv_le1 c17 hv16 (iv_c (a := 0) (b := 0) (by decide)) (by decide)
        refine lv_iconst (v := 0) hx hb dX2_holds_98 (by decide) ?_
        exact W.zret (v := 0) hx hb hr rfl (fun t ht hW => ⟨⟨0, (), rfl, (Or.inl (rfl)), trivial⟩, hS.F ht⟩) hS.2.2 dX2_holds_99
      · have h19 : IV 1 1 v16 := iv_lt2 (Int32.not_le.mp c17) (iv_c (a := 0) (b := 0) (by decide)) hv16 (by decide)
        refine lv_iconst (v := 1) hx hb dX2_holds_94 (by decide) ?_
        refine lv_goto (tgt := 99) hx hb dX2_holds_95 (by decide) ?_
        exact W.zret (v := 1) hx hb hr rfl (fun t ht hW => ⟨⟨1, (), rfl, (Or.inr ((rfl))), trivial⟩, hS.F ht⟩) hS.2.2 dX2_holds_99
    · refine lv_tableIn (off := 75) (tgt := 76) hx hb dX2_holds_1 (by omega) (by omega) (by rw [c1e]; rfl) (by decide) ?_
      have h20 : IV (-28) (-28) p0 := ⟨by omega, by omega⟩
      refine lv_lload_n hx hb dX2_holds_76 rfl (lv_at hl 1 rfl) ?_
      refine lv_lload_n hx hb dX2_holds_77 rfl (lv_at hl 2 rfl) ?_
      refine W.lcmp hx hb dX2_holds_78 ?_
      refine lv_topi (fun v21 ev21 => ?_)
      have hv21 : IV (-1) 1 v21 := iv_cmp ev21
      refine lv_if_lt (tgt := 86) hx hb dX2_holds_79 (by decide) (fun c22 => ?_) (fun c22 => ?_)
      · have h23 : IV (-1) (-1) v21 := iv_lt1 c22 hv21 (iv_c (a := 0) (b := 0) (by decide)) (by decide)
        refine lv_iconst (v := 0) hx hb dX2_holds_86 (by decide) ?_
        exact W.zret (v := 0) hx hb hr rfl (fun t ht hW => ⟨⟨0, (), rfl, (Or.inl (rfl)), trivial⟩, hS.F ht⟩) hS.2.2 dX2_holds_87
      · have h24 : IV 0 1 v21 := iv_le2 (Int32.not_lt.mp c22) (iv_c (a := 0) (b := 0) (by decide)) hv21 (by decide)
        refine lv_iconst (v := 1) hx hb dX2_holds_82 (by decide) ?_
        refine lv_goto (tgt := 87) hx hb dX2_holds_83 (by decide) ?_
        exact W.zret (v := 1) hx hb hr rfl (fun t ht hW => ⟨⟨1, (), rfl, (Or.inr ((rfl))), trivial⟩, hS.F ht⟩) hS.2.2 dX2_holds_87
    · refine lv_tableIn (off := 63) (tgt := 64) hx hb dX2_holds_1 (by omega) (by omega) (by rw [c1e]; rfl) (by decide) ?_
      have h25 : IV (-27) (-27) p0 := ⟨by omega, by omega⟩
      refine lv_lload_n hx hb dX2_holds_64 rfl (lv_at hl 1 rfl) ?_
      refine lv_lload_n hx hb dX2_holds_65 rfl (lv_at hl 2 rfl) ?_
      refine W.lcmp hx hb dX2_holds_66 ?_
      refine lv_topi (fun v26 ev26 => ?_)
      have hv26 : IV (-1) 1 v26 := iv_cmp ev26
      refine lv_if_ne (tgt := 74) hx hb dX2_holds_67 (by decide) (fun c27 => ?_) (fun c27 => ?_)
      · refine lv_iconst (v := 0) hx hb dX2_holds_74 (by decide) ?_
        exact W.zret (v := 0) hx hb hr rfl (fun t ht hW => ⟨⟨0, (), rfl, (Or.inl (rfl)), trivial⟩, hS.F ht⟩) hS.2.2 dX2_holds_75
      · have h28 : IV 0 0 v26 := iv_eq1 c27 hv26 (iv_c (a := 0) (b := 0) (by decide)) (by decide) (by decide)
        refine lv_iconst (v := 1) hx hb dX2_holds_70 (by decide) ?_
        refine lv_goto (tgt := 75) hx hb dX2_holds_71 (by decide) ?_
        exact W.zret (v := 1) hx hb hr rfl (fun t ht hW => ⟨⟨1, (), rfl, (Or.inr ((rfl))), trivial⟩, hS.F ht⟩) hS.2.2 dX2_holds_75
    · refine lv_tableIn (off := 51) (tgt := 52) hx hb dX2_holds_1 (by omega) (by omega) (by rw [c1e]; rfl) (by decide) ?_
      have h29 : IV (-26) (-26) p0 := ⟨by omega, by omega⟩
      refine lv_lload_n hx hb dX2_holds_52 rfl (lv_at hl 1 rfl) ?_
      refine lv_lload_n hx hb dX2_holds_53 rfl (lv_at hl 2 rfl) ?_
      refine W.lcmp hx hb dX2_holds_54 ?_
      refine lv_topi (fun v30 ev30 => ?_)
      have hv30 : IV (-1) 1 v30 := iv_cmp ev30
      refine lv_if_gt (tgt := 62) hx hb dX2_holds_55 (by decide) (fun c31 => ?_) (fun c31 => ?_)
      · have h32 : IV 1 1 v30 := iv_lt2 c31 (iv_c (a := 0) (b := 0) (by decide)) hv30 (by decide)
        refine lv_iconst (v := 0) hx hb dX2_holds_62 (by decide) ?_
        exact W.zret (v := 0) hx hb hr rfl (fun t ht hW => ⟨⟨0, (), rfl, (Or.inl (rfl)), trivial⟩, hS.F ht⟩) hS.2.2 dX2_holds_63
      · have h33 : IV (-1) 0 v30 := iv_le1 (Int32.not_lt.mp c31) hv30 (iv_c (a := 0) (b := 0) (by decide)) (by decide)
        refine lv_iconst (v := 1) hx hb dX2_holds_58 (by decide) ?_
        refine lv_goto (tgt := 63) hx hb dX2_holds_59 (by decide) ?_
        exact W.zret (v := 1) hx hb hr rfl (fun t ht hW => ⟨⟨1, (), rfl, (Or.inr ((rfl))), trivial⟩, hS.F ht⟩) hS.2.2 dX2_holds_63
    · refine lv_tableIn (off := 39) (tgt := 40) hx hb dX2_holds_1 (by omega) (by omega) (by rw [c1e]; rfl) (by decide) ?_
      have h34 : IV (-25) (-25) p0 := ⟨by omega, by omega⟩
      refine lv_lload_n hx hb dX2_holds_40 rfl (lv_at hl 1 rfl) ?_
      refine lv_lload_n hx hb dX2_holds_41 rfl (lv_at hl 2 rfl) ?_
      refine W.lcmp hx hb dX2_holds_42 ?_
      refine lv_topi (fun v35 ev35 => ?_)
      have hv35 : IV (-1) 1 v35 := iv_cmp ev35
      refine lv_if_ge (tgt := 50) hx hb dX2_holds_43 (by decide) (fun c36 => ?_) (fun c36 => ?_)
      · have h37 : IV 0 1 v35 := iv_le2 c36 (iv_c (a := 0) (b := 0) (by decide)) hv35 (by decide)
        refine lv_iconst (v := 0) hx hb dX2_holds_50 (by decide) ?_
        exact W.zret (v := 0) hx hb hr rfl (fun t ht hW => ⟨⟨0, (), rfl, (Or.inl (rfl)), trivial⟩, hS.F ht⟩) hS.2.2 dX2_holds_51
      · have h38 : IV (-1) (-1) v35 := iv_lt1 (Int32.not_le.mp c36) hv35 (iv_c (a := 0) (b := 0) (by decide)) (by decide)
        refine lv_iconst (v := 1) hx hb dX2_holds_46 (by decide) ?_
        refine lv_goto (tgt := 51) hx hb dX2_holds_47 (by decide) ?_
        exact W.zret (v := 1) hx hb hr rfl (fun t ht hW => ⟨⟨1, (), rfl, (Or.inr ((rfl))), trivial⟩, hS.F ht⟩) hS.2.2 dX2_holds_51
theorem dX2_valueOf_0 : decode cX2_valueOf 0 = .ok (.iconst 0, 1) := by decide +kernel
theorem dX2_valueOf_1 : decode cX2_valueOf 1 = .ok (.istore_n 3, 1) := by decide +kernel
theorem dX2_valueOf_2 : decode cX2_valueOf 2 = .ok (.iload_n 1, 1) := by decide +kernel
theorem dX2_valueOf_3 : decode cX2_valueOf 3 = .ok (.istore 4, 2) := by decide +kernel
theorem dX2_valueOf_5 : decode cX2_valueOf 5 = .ok (.iload 4, 2) := by decide +kernel
theorem dX2_valueOf_7 : decode cX2_valueOf 7 = .ok (.iload_n 2, 1) := by decide +kernel
theorem dX2_valueOf_8 : decode cX2_valueOf 8 = .ok (.if_icmp .ge 189, 3) := by decide +kernel
theorem dX2_valueOf_11 : decode cX2_valueOf 11 = .ok (.iload 4, 2) := by decide +kernel
theorem dX2_valueOf_13 : decode cX2_valueOf 13 = .ok (.aload_n 0, 1) := by decide +kernel
theorem dX2_valueOf_14 : decode cX2_valueOf 14 = .ok (.getfield 29, 3) := by decide +kernel
theorem dX2_valueOf_17 : decode cX2_valueOf 17 = .ok (.getfield 151, 3) := by decide +kernel
theorem dX2_valueOf_20 : decode cX2_valueOf 20 = .ok (.arraylength, 1) := by decide +kernel
theorem dX2_valueOf_21 : decode cX2_valueOf 21 = .ok (.if_icmp .ge 176, 3) := by decide +kernel
theorem dX2_valueOf_24 : decode cX2_valueOf 24 = .ok (.aload_n 0, 1) := by decide +kernel
theorem dX2_valueOf_25 : decode cX2_valueOf 25 = .ok (.getfield 29, 3) := by decide +kernel
theorem dX2_valueOf_28 : decode cX2_valueOf 28 = .ok (.getfield 151, 3) := by decide +kernel
theorem dX2_valueOf_31 : decode cX2_valueOf 31 = .ok (.iload 4, 2) := by decide +kernel
theorem dX2_valueOf_33 : decode cX2_valueOf 33 = .ok (.iaload, 1) := by decide +kernel
theorem dX2_valueOf_34 : decode cX2_valueOf 34 = .ok (.istore 5, 2) := by decide +kernel
theorem dX2_valueOf_36 : decode cX2_valueOf 36 = .ok (.iload 5, 2) := by decide +kernel
theorem dX2_valueOf_38 : decode cX2_valueOf 38 = .ok (.bipush (-13), 2) := by decide +kernel
theorem dX2_valueOf_40 : decode cX2_valueOf 40 = .ok (.if_icmp .lt 45, 3) := by decide +kernel
theorem dX2_valueOf_43 : decode cX2_valueOf 43 = .ok (.iload_n 3, 1) := by decide +kernel
theorem dX2_valueOf_44 : decode cX2_valueOf 44 = .ok (.aload_n 0, 1) := by decide +kernel
theorem dX2_valueOf_45 : decode cX2_valueOf 45 = .ok (.getfield 11, 3) := by decide +kernel
theorem dX2_valueOf_48 : decode cX2_valueOf 48 = .ok (.arraylength, 1) := by decide +kernel
theorem dX2_valueOf_49 : decode cX2_valueOf 49 = .ok (.if_icmp .ge 142, 3) := by decide +kernel
theorem dX2_valueOf_52 : decode cX2_valueOf 52 = .ok (.aload_n 0, 1) := by decide +kernel
theorem dX2_valueOf_53 : decode cX2_valueOf 53 = .ok (.getfield 11, 3) := by decide +kernel
theorem dX2_valueOf_56 : decode cX2_valueOf 56 = .ok (.iload_n 3, 1) := by decide +kernel
theorem dX2_valueOf_57 : decode cX2_valueOf 57 = .ok (.iload 5, 2) := by decide +kernel
theorem dX2_valueOf_59 : decode cX2_valueOf 59 = .ok (.ifCond .lt 9, 3) := by decide +kernel
theorem dX2_valueOf_62 : decode cX2_valueOf 62 = .ok (.iload 5, 2) := by decide +kernel
theorem dX2_valueOf_64 : decode cX2_valueOf 64 = .ok (.i2l, 1) := by decide +kernel
theorem dX2_valueOf_65 : decode cX2_valueOf 65 = .ok (.goto 13, 3) := by decide +kernel
theorem dX2_valueOf_68 : decode cX2_valueOf 68 = .ok (.aload_n 0, 1) := by decide +kernel
theorem dX2_valueOf_69 : decode cX2_valueOf 69 = .ok (.getfield 17, 3) := by decide +kernel
theorem dX2_valueOf_72 : decode cX2_valueOf 72 = .ok (.iconst (-1), 1) := by decide +kernel
theorem dX2_valueOf_73 : decode cX2_valueOf 73 = .ok (.iload 5, 2) := by decide +kernel
theorem dX2_valueOf_75 : decode cX2_valueOf 75 = .ok (.isub, 1) := by decide +kernel
theorem dX2_valueOf_76 : decode cX2_valueOf 76 = .ok (.iaload, 1) := by decide +kernel
theorem dX2_valueOf_77 : decode cX2_valueOf 77 = .ok (.i2l, 1) := by decide +kernel
theorem dX2_valueOf_78 : decode cX2_valueOf 78 = .ok (.lastore, 1) := by decide +kernel
theorem dX2_valueOf_79 : decode cX2_valueOf 79 = .ok (.iinc 3 1, 3) := by decide +kernel
theorem dX2_valueOf_82 : decode cX2_valueOf 82 = .ok (.goto 109, 3) := by decide +kernel
theorem dX2_valueOf_85 : decode cX2_valueOf 85 = .ok (.iload 5, 2) := by decide +kernel
theorem dX2_valueOf_87 : decode cX2_valueOf 87 = .ok (.bipush (-32), 2) := by decide +kernel
theorem dX2_valueOf_89 : decode cX2_valueOf 89 = .ok (.if_icmp .ne 29, 3) := by decide +kernel
theorem dX2_valueOf_92 : decode cX2_valueOf 92 = .ok (.iload_n 3, 1) := by decide +kernel
theorem dX2_valueOf_93 : decode cX2_valueOf 93 = .ok (.iconst 1, 1) := by decide +kernel
theorem dX2_valueOf_94 : decode cX2_valueOf 94 = .ok (.if_icmp .lt 97, 3) := by decide +kernel
theorem dX2_valueOf_97 : decode cX2_valueOf 97 = .ok (.aload_n 0, 1) := by decide +kernel
theorem dX2_valueOf_98 : decode cX2_valueOf 98 = .ok (.getfield 11, 3) := by decide +kernel
theorem dX2_valueOf_101 : decode cX2_valueOf 101 = .ok (.iload_n 3, 1) := by decide +kernel
theorem dX2_valueOf_102 : decode cX2_valueOf 102 = .ok (.iconst 1, 1) := by decide +kernel
theorem dX2_valueOf_103 : decode cX2_valueOf 103 = .ok (.isub, 1) := by decide +kernel
theorem dX2_valueOf_104 : decode cX2_valueOf 104 = .ok (.lconst 1, 1) := by decide +kernel
theorem dX2_valueOf_105 : decode cX2_valueOf 105 = .ok (.aload_n 0, 1) := by decide +kernel
theorem dX2_valueOf_106 : decode cX2_valueOf 106 = .ok (.getfield 11, 3) := by decide +kernel
theorem dX2_valueOf_109 : decode cX2_valueOf 109 = .ok (.iload_n 3, 1) := by decide +kernel
theorem dX2_valueOf_110 : decode cX2_valueOf 110 = .ok (.iconst 1, 1) := by decide +kernel
theorem dX2_valueOf_111 : decode cX2_valueOf 111 = .ok (.isub, 1) := by decide +kernel
theorem dX2_valueOf_112 : decode cX2_valueOf 112 = .ok (.laload, 1) := by decide +kernel
theorem dX2_valueOf_113 : decode cX2_valueOf 113 = .ok (.lsub, 1) := by decide +kernel
theorem dX2_valueOf_114 : decode cX2_valueOf 114 = .ok (.lastore, 1) := by decide +kernel
theorem dX2_valueOf_115 : decode cX2_valueOf 115 = .ok (.goto 76, 3) := by decide +kernel
theorem dX2_valueOf_118 : decode cX2_valueOf 118 = .ok (.iload_n 3, 1) := by decide +kernel
theorem dX2_valueOf_119 : decode cX2_valueOf 119 = .ok (.iconst 2, 1) := by decide +kernel
theorem dX2_valueOf_120 : decode cX2_valueOf 120 = .ok (.if_icmp .lt 71, 3) := by decide +kernel
theorem dX2_valueOf_123 : decode cX2_valueOf 123 = .ok (.iinc 3 (-1), 3) := by decide +kernel
theorem dX2_valueOf_126 : decode cX2_valueOf 126 = .ok (.aload_n 0, 1) := by decide +kernel
theorem dX2_valueOf_127 : decode cX2_valueOf 127 = .ok (.getfield 11, 3) := by decide +kernel
theorem dX2_valueOf_130 : decode cX2_valueOf 130 = .ok (.iload_n 3, 1) := by decide +kernel
theorem dX2_valueOf_131 : decode cX2_valueOf 131 = .ok (.iconst 1, 1) := by decide +kernel
theorem dX2_valueOf_132 : decode cX2_valueOf 132 = .ok (.isub, 1) := by decide +kernel
theorem dX2_valueOf_133 : decode cX2_valueOf 133 = .ok (.iload 5, 2) := by decide +kernel
theorem dX2_valueOf_135 : decode cX2_valueOf 135 = .ok (.bipush (-25), 2) := by decide +kernel
theorem dX2_valueOf_137 : decode cX2_valueOf 137 = .ok (.if_icmp .gt 34, 3) := by decide +kernel
theorem dX2_valueOf_140 : decode cX2_valueOf 140 = .ok (.iload 5, 2) := by decide +kernel
theorem dX2_valueOf_142 : decode cX2_valueOf 142 = .ok (.aload_n 0, 1) := by decide +kernel
theorem dX2_valueOf_143 : decode cX2_valueOf 143 = .ok (.getfield 11, 3) := by decide +kernel
theorem dX2_valueOf_146 : decode cX2_valueOf 146 = .ok (.iload_n 3, 1) := by decide +kernel
theorem dX2_valueOf_147 : decode cX2_valueOf 147 = .ok (.iconst 1, 1) := by decide +kernel
theorem dX2_valueOf_148 : decode cX2_valueOf 148 = .ok (.isub, 1) := by decide +kernel
theorem dX2_valueOf_149 : decode cX2_valueOf 149 = .ok (.laload, 1) := by decide +kernel
theorem dX2_valueOf_150 : decode cX2_valueOf 150 = .ok (.aload_n 0, 1) := by decide +kernel
theorem dX2_valueOf_151 : decode cX2_valueOf 151 = .ok (.getfield 11, 3) := by decide +kernel
theorem dX2_valueOf_154 : decode cX2_valueOf 154 = .ok (.iload_n 3, 1) := by decide +kernel
theorem dX2_valueOf_155 : decode cX2_valueOf 155 = .ok (.laload, 1) := by decide +kernel
theorem dX2_valueOf_156 : decode cX2_valueOf 156 = .ok (.invokestatic 154, 3) := by decide +kernel
theorem dX2_valueOf_159 : decode cX2_valueOf 159 = .ok (.ifCond .eq 7, 3) := by decide +kernel
theorem dX2_valueOf_162 : decode cX2_valueOf 162 = .ok (.iconst 1, 1) := by decide +kernel
theorem dX2_valueOf_163 : decode cX2_valueOf 163 = .ok (.goto 4, 3) := by decide +kernel
theorem dX2_valueOf_166 : decode cX2_valueOf 166 = .ok (.iconst 0, 1) := by decide +kernel
theorem dX2_valueOf_167 : decode cX2_valueOf 167 = .ok (.i2l, 1) := by decide +kernel
theorem dX2_valueOf_168 : decode cX2_valueOf 168 = .ok (.goto 22, 3) := by decide +kernel
theorem dX2_valueOf_171 : decode cX2_valueOf 171 = .ok (.iload 5, 2) := by decide +kernel
theorem dX2_valueOf_173 : decode cX2_valueOf 173 = .ok (.aload_n 0, 1) := by decide +kernel
theorem dX2_valueOf_174 : decode cX2_valueOf 174 = .ok (.getfield 11, 3) := by decide +kernel
theorem dX2_valueOf_177 : decode cX2_valueOf 177 = .ok (.iload_n 3, 1) := by decide +kernel
theorem dX2_valueOf_178 : decode cX2_valueOf 178 = .ok (.iconst 1, 1) := by decide +kernel
theorem dX2_valueOf_179 : decode cX2_valueOf 179 = .ok (.isub, 1) := by decide +kernel
theorem dX2_valueOf_180 : decode cX2_valueOf 180 = .ok (.laload, 1) := by decide +kernel
theorem dX2_valueOf_181 : decode cX2_valueOf 181 = .ok (.aload_n 0, 1) := by decide +kernel
theorem dX2_valueOf_182 : decode cX2_valueOf 182 = .ok (.getfield 11, 3) := by decide +kernel
theorem dX2_valueOf_185 : decode cX2_valueOf 185 = .ok (.iload_n 3, 1) := by decide +kernel
theorem dX2_valueOf_186 : decode cX2_valueOf 186 = .ok (.laload, 1) := by decide +kernel
theorem dX2_valueOf_187 : decode cX2_valueOf 187 = .ok (.invokestatic 158, 3) := by decide +kernel
theorem dX2_valueOf_190 : decode cX2_valueOf 190 = .ok (.lastore, 1) := by decide +kernel
theorem dX2_valueOf_191 : decode cX2_valueOf 191 = .ok (.iinc 4 1, 3) := by decide +kernel
theorem dX2_valueOf_194 : decode cX2_valueOf 194 = .ok (.goto (-189), 3) := by decide +kernel
theorem dX2_valueOf_197 : decode cX2_valueOf 197 = .ok (.iload_n 3, 1) := by decide +kernel
theorem dX2_valueOf_198 : decode cX2_valueOf 198 = .ok (.ifCond .le 14, 3) := by decide +kernel
theorem dX2_valueOf_201 : decode cX2_valueOf 201 = .ok (.aload_n 0, 1) := by decide +kernel
theorem dX2_valueOf_202 : decode cX2_valueOf 202 = .ok (.getfield 11, 3) := by decide +kernel
theorem dX2_valueOf_205 : decode cX2_valueOf 205 = .ok (.iload_n 3, 1) := by decide +kernel
theorem dX2_valueOf_206 : decode cX2_valueOf 206 = .ok (.iconst 1, 1) := by decide +kernel
theorem dX2_valueOf_207 : decode cX2_valueOf 207 = .ok (.isub, 1) := by decide +kernel
theorem dX2_valueOf_208 : decode cX2_valueOf 208 = .ok (.laload, 1) := by decide +kernel
theorem dX2_valueOf_209 : decode cX2_valueOf 209 = .ok (.goto 4, 3) := by decide +kernel
theorem dX2_valueOf_212 : decode cX2_valueOf 212 = .ok (.lconst 0, 1) := by decide +kernel
theorem dX2_valueOf_213 : decode cX2_valueOf 213 = .ok (.lreturn, 1) := by decide +kernel
set_option maxHeartbeats 4000000 in
set_option maxRecDepth 100000 in
theorem c_X2_valueOf (l : Launch) (D : va_G) (cs : Nat → ClassId) (kK kV : Nat → Nat) (a : Nat) (p0 : Int32) (p1 : Int32) (a_stack : Nat) (a_told : Nat) (a_scene : Nat) (a_rule : Nat) (a_words : Nat) (a__buyer : Int32) (a__saw : Int32) (a__stalls : Int32) (a__bought : Int32) (a__x : Int32) (a_rule__clauses : Int32) (a_rule_kind : Nat) (a_rule_start : Nat) (a_rule_middle : Nat) (a_rule_end : Nat) (a_rule_code : Nat) (a_rule_code_c : Nat → Int32) (a_rule_code_n : Nat) (a_stack_c : Nat → Int64) (a_words_c : Nat → Int32) (h_p0 : IV 0 400 p0) (h_p1 : IV 0 400 p1) (h_a_rule_code_n : a_rule_code_n ≤ 400) (sz : Nat) : Met l yX2_valueOf (hz_w yX2_valueOf cX2_valueOf 6 (some .long)) ({ frames := 1, cells := 0, slots := 0, locals := 24 }) (va_Pc [.ref a, .int p0, .int p1] (hz_C D cs kK kV sz [(a, .inr (2, [.ref a_stack, .ref a_told, .ref a_scene, .ref a_rule, .ref a_words, .int a__buyer, .int a__saw, .int a__stalls, .int a__bought, .int a__x])), (a_rule, .inr (4, [.int a_rule__clauses, .ref a_rule_kind, .ref a_rule_start, .ref a_rule_middle, .ref a_rule_end, .ref a_rule_code])), (a_rule_code, .inl (cs 0, a_rule_code_n, .inl a_rule_code_c)), (a_stack, .inl (cs 3, 60, .inr (.inl a_stack_c))), (a_words, .inl (cs 0, 13, .inl a_words_c))])) (va_Ql (fun (r : Int64) (_ : Unit) => True) (fun _ t => ∃ (o_a_stack_c : Nat → Int64), va_P D classes [(a, .inr (2, [.ref a_stack, .ref a_told, .ref a_scene, .ref a_rule, .ref a_words, .int a__buyer, .int a__saw, .int a__stalls, .int a__bought, .int a__x])), (a_rule, .inr (4, [.int a_rule__clauses, .ref a_rule_kind, .ref a_rule_start, .ref a_rule_middle, .ref a_rule_end, .ref a_rule_code])), (a_rule_code, .inl (cs 0, a_rule_code_n, .inl a_rule_code_c)), (a_stack, .inl (cs 3, 60, .inr (.inl o_a_stack_c))), (a_words, .inl (cs 0, 13, .inl a_words_c))] t.heap ∧ va_D (va_A [(a, .inr (2, [.ref a_stack, .ref a_told, .ref a_scene, .ref a_rule, .ref a_words, .int a__buyer, .int a__saw, .int a__stalls, .int a__bought, .int a__x])), (a_rule, .inr (4, [.int a_rule__clauses, .ref a_rule_kind, .ref a_rule_start, .ref a_rule_middle, .ref a_rule_end, .ref a_rule_code])), (a_rule_code, .inl (cs 0, a_rule_code_n, .inl a_rule_code_c)), (a_stack, .inl (cs 3, 60, .inr (.inl a_stack_c))), (a_words, .inl (cs 0, 13, .inl a_words_c))] sz) [(a, .inr (2, [.ref a_stack, .ref a_told, .ref a_scene, .ref a_rule, .ref a_words, .int a__buyer, .int a__saw, .int a__stalls, .int a__bought, .int a__x])), (a_rule, .inr (4, [.int a_rule__clauses, .ref a_rule_kind, .ref a_rule_start, .ref a_rule_middle, .ref a_rule_end, .ref a_rule_code])), (a_rule_code, .inl (cs 0, a_rule_code_n, .inl a_rule_code_c)), (a_stack, .inl (cs 3, 60, .inr (.inl o_a_stack_c))), (a_words, .inl (cs 0, 13, .inl a_words_c))]) (va_A [(a, .inr (2, [.ref a_stack, .ref a_told, .ref a_scene, .ref a_rule, .ref a_words, .int a__buyer, .int a__saw, .int a__stalls, .int a__bought, .int a__x])), (a_rule, .inr (4, [.int a_rule__clauses, .ref a_rule_kind, .ref a_rule_start, .ref a_rule_middle, .ref a_rule_end, .ref a_rule_code])), (a_rule_code, .inl (cs 0, a_rule_code_n, .inl a_rule_code_c)), (a_stack, .inl (cs 3, 60, .inr (.inl a_stack_c))), (a_words, .inl (cs 0, 13, .inl a_words_c))] sz)) 0 0 (va_A [(a, .inr (2, [.ref a_stack, .ref a_told, .ref a_scene, .ref a_rule, .ref a_words, .int a__buyer, .int a__saw, .int a__stalls, .int a__bought, .int a__x])), (a_rule, .inr (4, [.int a_rule__clauses, .ref a_rule_kind, .ref a_rule_start, .ref a_rule_middle, .ref a_rule_end, .ref a_rule_code])), (a_rule_code, .inl (cs 0, a_rule_code_n, .inl a_rule_code_c)), (a_stack, .inl (cs 3, 60, .inr (.inl a_stack_c))), (a_words, .inl (cs 0, 13, .inl a_words_c))] sz) := by
  refine Met.ofW (cc := cX2_valueOf) (maxL := 6) (ret := (some .long)) (by decide) rfl ?_
  intro p e s m args below meth c s₁ B hml hv
  obtain ⟨rfl, hsz, hP, hD0, hE⟩ := hv
  have hx := B.exec
  have hb := B.bytes
  have hr := B.returns
  have hT : ∀ w ∈ TB, w.before _ s = true := fun w h => atoms_spec (ws := hz_w yX2_valueOf cX2_valueOf 6 (some .long)) B.pre w (List.mem_cons_of_mem _ h)
  have hown : s.vm.findClass RX2 = some m.cls := findClass_of_methodNamed B.named
  have hlocks := B.notSynchronized
  clear B
  subst hsz
  have hD := hD0.self (sz := s.heap.size)
  generalize hAe : va_A [(a, .inr (2, [.ref a_stack, .ref a_told, .ref a_scene, .ref a_rule, .ref a_words, .int a__buyer, .int a__saw, .int a__stalls, .int a__bought, .int a__x])), (a_rule, .inr (4, [.int a_rule__clauses, .ref a_rule_kind, .ref a_rule_start, .ref a_rule_middle, .ref a_rule_end, .ref a_rule_code])), (a_rule_code, .inl (cs 0, a_rule_code_n, .inl a_rule_code_c)), (a_stack, .inl (cs 3, 60, .inr (.inl a_stack_c))), (a_words, .inl (cs 0, 13, .inl a_words_c))] s.heap.size = A at hD hE ⊢
  have hA : ∀ q : Nat, s.heap.size ≤ q → A q := fun q h => by rw [← hAe]; exact Or.inr h
  clear hAe hD0
  have hS : va_S A s.heap s.heap [] := va_S.rf
  have hK := hE.1
  have hl := lv_entry ([.ref a, .int p0, .int p1]) (n := 6) (Nat.le_of_ble_eq_true rfl)
  rw [lg_entry_eq]
  generalize (lg_sl ([.ref a, .int p0, .int p1]) ++ List.replicate (6 - (lg_sl ([.ref a, .int p0, .int p1])).length) Slot.unset).toArray = ls at hl ⊢
  have hl : lv_has ls 6 [(0, .ref a), (1, .int p0), (2, .int p1)] := hl
  obtain ⟨H, eH⟩ : ∃ z, z = s.heap := ⟨_, rfl⟩
  have hP : va_P D classes [(a, .inr (2, [.ref a_stack, .ref a_told, .ref a_scene, .ref a_rule, .ref a_words, .int a__buyer, .int a__saw, .int a__stalls, .int a__bought, .int a__x])), (a_rule, .inr (4, [.int a_rule__clauses, .ref a_rule_kind, .ref a_rule_start, .ref a_rule_middle, .ref a_rule_end, .ref a_rule_code])), (a_rule_code, .inl (cs 0, a_rule_code_n, .inl a_rule_code_c)), (a_stack, .inl (cs 3, 60, .inr (.inl a_stack_c))), (a_words, .inl (cs 0, 13, .inl a_words_c))] H := by rw [eH]; exact hP
  have hS : va_S A s.heap H [] := by rw [eH]; exact hS
  rw [← eH]
  clear eH
  obtain ⟨locs, el⟩ : ∃ z : List Loc, z = [] := ⟨_, rfl⟩
  rw [← el] at hS ⊢
  clear el
  have K197 : ∀ (k197_L_4 : Int32) (k197_L_3 : Int32) (k197_C_a_stack : Nat → Int64), IV 0 60 k197_L_3 → IV 0 400 k197_L_4 → ∀ (H : Heap) (locs : List Loc), va_P D classes [(a, .inr (2, [.ref a_stack, .ref a_told, .ref a_scene, .ref a_rule, .ref a_words, .int a__buyer, .int a__saw, .int a__stalls, .int a__bought, .int a__x])), (a_rule, .inr (4, [.int a_rule__clauses, .ref a_rule_kind, .ref a_rule_start, .ref a_rule_middle, .ref a_rule_end, .ref a_rule_code])), (a_rule_code, .inl (cs 0, a_rule_code_n, .inl a_rule_code_c)), (a_stack, .inl (cs 3, 60, .inr (.inl k197_C_a_stack))), (a_words, .inl (cs 0, 13, .inl a_words_c))] H → va_D A [(a, .inr (2, [.ref a_stack, .ref a_told, .ref a_scene, .ref a_rule, .ref a_words, .int a__buyer, .int a__saw, .int a__stalls, .int a__bought, .int a__x])), (a_rule, .inr (4, [.int a_rule__clauses, .ref a_rule_kind, .ref a_rule_start, .ref a_rule_middle, .ref a_rule_end, .ref a_rule_code])), (a_rule_code, .inl (cs 0, a_rule_code_n, .inl a_rule_code_c)), (a_stack, .inl (cs 3, 60, .inr (.inl k197_C_a_stack))), (a_words, .inl (cs 0, 13, .inl a_words_c))] → va_S A s.heap H locs → ∀ ls : Array Slot, lv_has ls 6 [(4, .int k197_L_4), (3, .int k197_L_3), (0, .ref a), (1, .int p0), (2, .int p1)] → W p l e (headSpec (hz_w yX2_valueOf cX2_valueOf 6 (some .long)) ({ frames := 1, cells := 0, slots := 0, locals := 24 })).room s m [.ref a, .int p0, .int p1].toArray below meth c H locs 0 0 (MQ below (va_Ql (fun (r : Int64) (_ : Unit) => True) (fun _ t => ∃ (o_a_stack_c : Nat → Int64), va_P D classes [(a, .inr (2, [.ref a_stack, .ref a_told, .ref a_scene, .ref a_rule, .ref a_words, .int a__buyer, .int a__saw, .int a__stalls, .int a__bought, .int a__x])), (a_rule, .inr (4, [.int a_rule__clauses, .ref a_rule_kind, .ref a_rule_start, .ref a_rule_middle, .ref a_rule_end, .ref a_rule_code])), (a_rule_code, .inl (cs 0, a_rule_code_n, .inl a_rule_code_c)), (a_stack, .inl (cs 3, 60, .inr (.inl o_a_stack_c))), (a_words, .inl (cs 0, 13, .inl a_words_c))] t.heap ∧ va_D A [(a, .inr (2, [.ref a_stack, .ref a_told, .ref a_scene, .ref a_rule, .ref a_words, .int a__buyer, .int a__saw, .int a__stalls, .int a__bought, .int a__x])), (a_rule, .inr (4, [.int a_rule__clauses, .ref a_rule_kind, .ref a_rule_start, .ref a_rule_middle, .ref a_rule_end, .ref a_rule_code])), (a_rule_code, .inl (cs 0, a_rule_code_n, .inl a_rule_code_c)), (a_stack, .inl (cs 3, 60, .inr (.inl o_a_stack_c))), (a_words, .inl (cs 0, 13, .inl a_words_c))]) A) [.ref a, .int p0, .int p1].toArray s 0 0 A) (F0 m 197 ls []) := by
    intro k197_L_4 k197_L_3 k197_C_a_stack q197_2 q197_3 H locs hP hD hS ls hl
    refine lv_iload_n hx hb dX2_valueOf_197 rfl (lv_at hl 1 rfl) ?_
    refine lv_if_le (tgt := 212) hx hb dX2_valueOf_198 (by decide) (fun c1 => ?_) (fun c1 => ?_)
    · have h2 : IV 0 0 k197_L_3 := iv_le1 c1 q197_2 (iv_c (a := 0) (b := 0) (by decide)) (by decide)
      refine lv_lconst (v := 0) hx hb dX2_valueOf_212 (by decide) ?_
      refine W.widen (k := 0) (n := 0) (Nat.le_of_ble_eq_true rfl) (Nat.le_of_ble_eq_true rfl) ?_
      exact W.lret (v := 0) hx hb hr (fun t ht hW => ⟨⟨0, (), rfl, trivial, k197_C_a_stack, by rw [ht]; exact hP.sub [0, 1, 2, 3, 4] rfl, hD.sub [0, 1, 2, 3, 4] (by decide) rfl⟩, hS.F ht⟩) hS.2.2 dX2_valueOf_213
    · have h3 : IV 1 60 k197_L_3 := iv_lt2 (Int32.not_le.mp c1) (iv_c (a := 0) (b := 0) (by decide)) q197_2 (by decide)
      refine lv_aload_n hx hb dX2_valueOf_201 rfl (lv_at hl 2 rfl) ?_
      refine va_get (D := D) (ci := 2) (v := .ref a_stack) (C := RX2) (T := TX2) (N := 10) hx hb hT i_X2 hown hK hP 0 rfl rfl 0 (by decide) (hT _ q_66) (fun _ h9 => h9) rfl dX2_valueOf_202 ?_
      refine lv_iload_n hx hb dX2_valueOf_205 rfl (lv_at hl 1 rfl) ?_
      refine lv_iconst (v := 1) hx hb dX2_valueOf_206 (by decide) ?_
      refine lv_isub hx hb dX2_valueOf_207 ?_
      refine lv_topi (fun v4 ev4 => ?_)
      have hv4 : IV 0 59 v4 := iv_sub ev4 h3 (iv_c (a := 1) (b := 1) (by decide)) (by decide) (by decide)
      have dv4 : v4.toInt = k197_L_3.toInt + (-1) := iv_subE ev4 h3 (iv_c (a := 1) (b := 1) (by decide)) (by decide) (by decide) (by decide)
      refine va_lald hx hb hK hP 3 3 rfl rfl (iv_v hv4 (by decide) (by decide)) dX2_valueOf_208 ?_
      refine lv_topl (fun u5 eu5 => ?_)
      refine lv_goto (tgt := 213) hx hb dX2_valueOf_209 (by decide) ?_
      refine W.widen (k := 0) (n := 0) (Nat.le_of_ble_eq_true rfl) (Nat.le_of_ble_eq_true rfl) ?_
      exact W.lret (v := u5) hx hb hr (fun t ht hW => ⟨⟨u5, (), rfl, trivial, k197_C_a_stack, by rw [ht]; exact hP.sub [0, 1, 2, 3, 4] rfl, hD.sub [0, 1, 2, 3, 4] (by decide) rfl⟩, hS.F ht⟩) hS.2.2 dX2_valueOf_213
  have K5 : ∀ (n : Nat) (k5_L_4 : Int32) (k5_L_3 : Int32) (k5_C_a_stack : Nat → Int64), (400 - k5_L_4.toInt + 1).toNat ≤ n → IV 0 60 k5_L_3 → IV 0 400 k5_L_4 → ∀ (H : Heap) (locs : List Loc), va_P D classes [(a, .inr (2, [.ref a_stack, .ref a_told, .ref a_scene, .ref a_rule, .ref a_words, .int a__buyer, .int a__saw, .int a__stalls, .int a__bought, .int a__x])), (a_rule, .inr (4, [.int a_rule__clauses, .ref a_rule_kind, .ref a_rule_start, .ref a_rule_middle, .ref a_rule_end, .ref a_rule_code])), (a_rule_code, .inl (cs 0, a_rule_code_n, .inl a_rule_code_c)), (a_stack, .inl (cs 3, 60, .inr (.inl k5_C_a_stack))), (a_words, .inl (cs 0, 13, .inl a_words_c))] H → va_D A [(a, .inr (2, [.ref a_stack, .ref a_told, .ref a_scene, .ref a_rule, .ref a_words, .int a__buyer, .int a__saw, .int a__stalls, .int a__bought, .int a__x])), (a_rule, .inr (4, [.int a_rule__clauses, .ref a_rule_kind, .ref a_rule_start, .ref a_rule_middle, .ref a_rule_end, .ref a_rule_code])), (a_rule_code, .inl (cs 0, a_rule_code_n, .inl a_rule_code_c)), (a_stack, .inl (cs 3, 60, .inr (.inl k5_C_a_stack))), (a_words, .inl (cs 0, 13, .inl a_words_c))] → va_S A s.heap H locs → ∀ ls : Array Slot, lv_has ls 6 [(4, .int k5_L_4), (3, .int k5_L_3), (0, .ref a), (1, .int p0), (2, .int p1)] → W p l e (headSpec (hz_w yX2_valueOf cX2_valueOf 6 (some .long)) ({ frames := 1, cells := 0, slots := 0, locals := 24 })).room s m [.ref a, .int p0, .int p1].toArray below meth c H locs 0 0 (MQ below (va_Ql (fun (r : Int64) (_ : Unit) => True) (fun _ t => ∃ (o_a_stack_c : Nat → Int64), va_P D classes [(a, .inr (2, [.ref a_stack, .ref a_told, .ref a_scene, .ref a_rule, .ref a_words, .int a__buyer, .int a__saw, .int a__stalls, .int a__bought, .int a__x])), (a_rule, .inr (4, [.int a_rule__clauses, .ref a_rule_kind, .ref a_rule_start, .ref a_rule_middle, .ref a_rule_end, .ref a_rule_code])), (a_rule_code, .inl (cs 0, a_rule_code_n, .inl a_rule_code_c)), (a_stack, .inl (cs 3, 60, .inr (.inl o_a_stack_c))), (a_words, .inl (cs 0, 13, .inl a_words_c))] t.heap ∧ va_D A [(a, .inr (2, [.ref a_stack, .ref a_told, .ref a_scene, .ref a_rule, .ref a_words, .int a__buyer, .int a__saw, .int a__stalls, .int a__bought, .int a__x])), (a_rule, .inr (4, [.int a_rule__clauses, .ref a_rule_kind, .ref a_rule_start, .ref a_rule_middle, .ref a_rule_end, .ref a_rule_code])), (a_rule_code, .inl (cs 0, a_rule_code_n, .inl a_rule_code_c)), (a_stack, .inl (cs 3, 60, .inr (.inl o_a_stack_c))), (a_words, .inl (cs 0, 13, .inl a_words_c))]) A) [.ref a, .int p0, .int p1].toArray s 0 0 A) (F0 m 5 ls []) := by
    intro n
    induction n with
    | zero =>
      intro k5_L_4 k5_L_3 k5_C_a_stack hn q5_2 q5_3 H locs hP hD hS ls hl
      exact absurd hn (by unfold IV at q5_3; omega)
    | succ n ih5 =>
      intro k5_L_4 k5_L_3 k5_C_a_stack hn q5_2 q5_3 H locs hP hD hS ls hl
      have K191 : ∀ (k191_L_5 : Int32) (k191_L_3 : Int32) (k191_C_a_stack : Nat → Int64), IV 0 60 k191_L_3 → IV 0 399 k5_L_4 → IV 1 400 p1 → ∀ (H : Heap) (locs : List Loc), va_P D classes [(a, .inr (2, [.ref a_stack, .ref a_told, .ref a_scene, .ref a_rule, .ref a_words, .int a__buyer, .int a__saw, .int a__stalls, .int a__bought, .int a__x])), (a_rule, .inr (4, [.int a_rule__clauses, .ref a_rule_kind, .ref a_rule_start, .ref a_rule_middle, .ref a_rule_end, .ref a_rule_code])), (a_rule_code, .inl (cs 0, a_rule_code_n, .inl a_rule_code_c)), (a_stack, .inl (cs 3, 60, .inr (.inl k191_C_a_stack))), (a_words, .inl (cs 0, 13, .inl a_words_c))] H → va_D A [(a, .inr (2, [.ref a_stack, .ref a_told, .ref a_scene, .ref a_rule, .ref a_words, .int a__buyer, .int a__saw, .int a__stalls, .int a__bought, .int a__x])), (a_rule, .inr (4, [.int a_rule__clauses, .ref a_rule_kind, .ref a_rule_start, .ref a_rule_middle, .ref a_rule_end, .ref a_rule_code])), (a_rule_code, .inl (cs 0, a_rule_code_n, .inl a_rule_code_c)), (a_stack, .inl (cs 3, 60, .inr (.inl k191_C_a_stack))), (a_words, .inl (cs 0, 13, .inl a_words_c))] → va_S A s.heap H locs → ∀ ls : Array Slot, lv_has ls 6 [(5, .int k191_L_5), (4, .int k5_L_4), (3, .int k191_L_3), (0, .ref a), (1, .int p0), (2, .int p1)] → W p l e (headSpec (hz_w yX2_valueOf cX2_valueOf 6 (some .long)) ({ frames := 1, cells := 0, slots := 0, locals := 24 })).room s m [.ref a, .int p0, .int p1].toArray below meth c H locs 0 0 (MQ below (va_Ql (fun (r : Int64) (_ : Unit) => True) (fun _ t => ∃ (o_a_stack_c : Nat → Int64), va_P D classes [(a, .inr (2, [.ref a_stack, .ref a_told, .ref a_scene, .ref a_rule, .ref a_words, .int a__buyer, .int a__saw, .int a__stalls, .int a__bought, .int a__x])), (a_rule, .inr (4, [.int a_rule__clauses, .ref a_rule_kind, .ref a_rule_start, .ref a_rule_middle, .ref a_rule_end, .ref a_rule_code])), (a_rule_code, .inl (cs 0, a_rule_code_n, .inl a_rule_code_c)), (a_stack, .inl (cs 3, 60, .inr (.inl o_a_stack_c))), (a_words, .inl (cs 0, 13, .inl a_words_c))] t.heap ∧ va_D A [(a, .inr (2, [.ref a_stack, .ref a_told, .ref a_scene, .ref a_rule, .ref a_words, .int a__buyer, .int a__saw, .int a__stalls, .int a__bought, .int a__x])), (a_rule, .inr (4, [.int a_rule__clauses, .ref a_rule_kind, .ref a_rule_start, .ref a_rule_middle, .ref a_rule_end, .ref a_rule_code])), (a_rule_code, .inl (cs 0, a_rule_code_n, .inl a_rule_code_c)), (a_stack, .inl (cs 3, 60, .inr (.inl o_a_stack_c))), (a_words, .inl (cs 0, 13, .inl a_words_c))]) A) [.ref a, .int p0, .int p1].toArray s 0 0 A) (F0 m 191 ls []) := by
        intro k191_L_5 k191_L_3 k191_C_a_stack q191_2 q191_3 q191_5 H locs hP hD hS ls hl
        obtain ⟨v6, ev6⟩ : ∃ z : Int32, z = k5_L_4 + 1 := ⟨_, rfl⟩
        have hv6 : IV 1 400 v6 := iv_add ev6 q191_3 (iv_c (a := 1) (b := 1) (by decide)) (by decide) (by decide)
        have dv6 : v6.toInt = k5_L_4.toInt + 1 := iv_addE ev6 q191_3 (iv_c (a := 1) (b := 1) (by decide)) (by decide) (by decide) (by decide)
        refine lv_iinc (v := v6) (lv' := [(4, .int v6), (5, .int k191_L_5), (3, .int k191_L_3), (0, .ref a), (1, .int p0), (2, .int p1)]) hx hb dX2_valueOf_191 hl (k := 1) rfl (by rw [ev6]; rfl) (by decide) rfl (fun ls hl => ?_)
        refine lv_goto (tgt := 5) hx hb dX2_valueOf_194 (by decide) ?_
        exact ih5 v6 k191_L_3 k191_C_a_stack (by have h9 := q191_3; unfold IV at h9; have := dv6; omega) q191_2 (iv_w hv6 (by decide) (by decide)) H locs (hP.sub (ws' := [(a, .inr (2, [.ref a_stack, .ref a_told, .ref a_scene, .ref a_rule, .ref a_words, .int a__buyer, .int a__saw, .int a__stalls, .int a__bought, .int a__x])), (a_rule, .inr (4, [.int a_rule__clauses, .ref a_rule_kind, .ref a_rule_start, .ref a_rule_middle, .ref a_rule_end, .ref a_rule_code])), (a_rule_code, .inl (cs 0, a_rule_code_n, .inl a_rule_code_c)), (a_stack, .inl (cs 3, 60, .inr (.inl k191_C_a_stack))), (a_words, .inl (cs 0, 13, .inl a_words_c))]) [0, 1, 2, 3, 4] rfl) (hD.sub (ws' := [(a, .inr (2, [.ref a_stack, .ref a_told, .ref a_scene, .ref a_rule, .ref a_words, .int a__buyer, .int a__saw, .int a__stalls, .int a__bought, .int a__x])), (a_rule, .inr (4, [.int a_rule__clauses, .ref a_rule_kind, .ref a_rule_start, .ref a_rule_middle, .ref a_rule_end, .ref a_rule_code])), (a_rule_code, .inl (cs 0, a_rule_code_n, .inl a_rule_code_c)), (a_stack, .inl (cs 3, 60, .inr (.inl k191_C_a_stack))), (a_words, .inl (cs 0, 13, .inl a_words_c))]) [0, 1, 2, 3, 4] (by decide) rfl) hS ls (lv_sub hl [0, 2, 3, 4, 5] rfl)
      have K190 : ∀ (k190_L_3 : Int32) (k190_L_5 : Int32) (k190_S_2 : Int64) (k190_S_1 : Int32), IV 1 59 k190_L_3 → IV (-2147483648) (-14) k190_L_5 → IV 0 58 k190_S_1 → IV 0 399 k5_L_4 → IV 1 400 p1 → ∀ (H : Heap) (locs : List Loc), va_P D classes [(a, .inr (2, [.ref a_stack, .ref a_told, .ref a_scene, .ref a_rule, .ref a_words, .int a__buyer, .int a__saw, .int a__stalls, .int a__bought, .int a__x])), (a_rule, .inr (4, [.int a_rule__clauses, .ref a_rule_kind, .ref a_rule_start, .ref a_rule_middle, .ref a_rule_end, .ref a_rule_code])), (a_rule_code, .inl (cs 0, a_rule_code_n, .inl a_rule_code_c)), (a_stack, .inl (cs 3, 60, .inr (.inl k5_C_a_stack))), (a_words, .inl (cs 0, 13, .inl a_words_c))] H → va_D A [(a, .inr (2, [.ref a_stack, .ref a_told, .ref a_scene, .ref a_rule, .ref a_words, .int a__buyer, .int a__saw, .int a__stalls, .int a__bought, .int a__x])), (a_rule, .inr (4, [.int a_rule__clauses, .ref a_rule_kind, .ref a_rule_start, .ref a_rule_middle, .ref a_rule_end, .ref a_rule_code])), (a_rule_code, .inl (cs 0, a_rule_code_n, .inl a_rule_code_c)), (a_stack, .inl (cs 3, 60, .inr (.inl k5_C_a_stack))), (a_words, .inl (cs 0, 13, .inl a_words_c))] → va_S A s.heap H locs → ∀ ls : Array Slot, lv_has ls 6 [(3, .int k190_L_3), (5, .int k190_L_5), (4, .int k5_L_4), (0, .ref a), (1, .int p0), (2, .int p1)] → W p l e (headSpec (hz_w yX2_valueOf cX2_valueOf 6 (some .long)) ({ frames := 1, cells := 0, slots := 0, locals := 24 })).room s m [.ref a, .int p0, .int p1].toArray below meth c H locs 0 0 (MQ below (va_Ql (fun (r : Int64) (_ : Unit) => True) (fun _ t => ∃ (o_a_stack_c : Nat → Int64), va_P D classes [(a, .inr (2, [.ref a_stack, .ref a_told, .ref a_scene, .ref a_rule, .ref a_words, .int a__buyer, .int a__saw, .int a__stalls, .int a__bought, .int a__x])), (a_rule, .inr (4, [.int a_rule__clauses, .ref a_rule_kind, .ref a_rule_start, .ref a_rule_middle, .ref a_rule_end, .ref a_rule_code])), (a_rule_code, .inl (cs 0, a_rule_code_n, .inl a_rule_code_c)), (a_stack, .inl (cs 3, 60, .inr (.inl o_a_stack_c))), (a_words, .inl (cs 0, 13, .inl a_words_c))] t.heap ∧ va_D A [(a, .inr (2, [.ref a_stack, .ref a_told, .ref a_scene, .ref a_rule, .ref a_words, .int a__buyer, .int a__saw, .int a__stalls, .int a__bought, .int a__x])), (a_rule, .inr (4, [.int a_rule__clauses, .ref a_rule_kind, .ref a_rule_start, .ref a_rule_middle, .ref a_rule_end, .ref a_rule_code])), (a_rule_code, .inl (cs 0, a_rule_code_n, .inl a_rule_code_c)), (a_stack, .inl (cs 3, 60, .inr (.inl o_a_stack_c))), (a_words, .inl (cs 0, 13, .inl a_words_c))]) A) [.ref a, .int p0, .int p1].toArray s 0 0 A) (F0 m 190 ls [.long k190_S_2, .int k190_S_1, .ref a_stack]) := by
        intro k190_L_3 k190_L_5 k190_S_2 k190_S_1 q190_2 q190_3 q190_4 q190_5 q190_7 H locs hP hD hS ls hl
        refine va_last hx hb hK hP hD hS 3 3 rfl rfl (iv_v q190_4 (by decide) (by decide)) dX2_valueOf_190 (fun H locs hP hD hS => ?_)
        have hP : va_P D classes [(a, .inr (2, [.ref a_stack, .ref a_told, .ref a_scene, .ref a_rule, .ref a_words, .int a__buyer, .int a__saw, .int a__stalls, .int a__bought, .int a__x])), (a_rule, .inr (4, [.int a_rule__clauses, .ref a_rule_kind, .ref a_rule_start, .ref a_rule_middle, .ref a_rule_end, .ref a_rule_code])), (a_rule_code, .inl (cs 0, a_rule_code_n, .inl a_rule_code_c)), (a_stack, .inl (cs 3, 60, .inr (.inl (vp_updL k5_C_a_stack (Int32.toNatClampNeg k190_S_1) k190_S_2)))), (a_words, .inl (cs 0, 13, .inl a_words_c))] H := hP
        have hD : va_D A [(a, .inr (2, [.ref a_stack, .ref a_told, .ref a_scene, .ref a_rule, .ref a_words, .int a__buyer, .int a__saw, .int a__stalls, .int a__bought, .int a__x])), (a_rule, .inr (4, [.int a_rule__clauses, .ref a_rule_kind, .ref a_rule_start, .ref a_rule_middle, .ref a_rule_end, .ref a_rule_code])), (a_rule_code, .inl (cs 0, a_rule_code_n, .inl a_rule_code_c)), (a_stack, .inl (cs 3, 60, .inr (.inl (vp_updL k5_C_a_stack (Int32.toNatClampNeg k190_S_1) k190_S_2)))), (a_words, .inl (cs 0, 13, .inl a_words_c))] := hD
        generalize vp_updL k5_C_a_stack (Int32.toNatClampNeg k190_S_1) k190_S_2 = f7 at hP hD
        exact K191 k190_L_5 k190_L_3 f7 (iv_w q190_2 (by decide) (by decide)) q190_5 q190_7 H locs (hP.sub (ws' := [(a, .inr (2, [.ref a_stack, .ref a_told, .ref a_scene, .ref a_rule, .ref a_words, .int a__buyer, .int a__saw, .int a__stalls, .int a__bought, .int a__x])), (a_rule, .inr (4, [.int a_rule__clauses, .ref a_rule_kind, .ref a_rule_start, .ref a_rule_middle, .ref a_rule_end, .ref a_rule_code])), (a_rule_code, .inl (cs 0, a_rule_code_n, .inl a_rule_code_c)), (a_stack, .inl (cs 3, 60, .inr (.inl f7))), (a_words, .inl (cs 0, 13, .inl a_words_c))]) [0, 1, 2, 3, 4] rfl) (hD.sub (ws' := [(a, .inr (2, [.ref a_stack, .ref a_told, .ref a_scene, .ref a_rule, .ref a_words, .int a__buyer, .int a__saw, .int a__stalls, .int a__bought, .int a__x])), (a_rule, .inr (4, [.int a_rule__clauses, .ref a_rule_kind, .ref a_rule_start, .ref a_rule_middle, .ref a_rule_end, .ref a_rule_code])), (a_rule_code, .inl (cs 0, a_rule_code_n, .inl a_rule_code_c)), (a_stack, .inl (cs 3, 60, .inr (.inl f7))), (a_words, .inl (cs 0, 13, .inl a_words_c))]) [0, 1, 2, 3, 4] (by decide) rfl) hS ls (lv_sub hl [1, 2, 0, 3, 4, 5] rfl)
      have K167 : ∀ (k167_L_3 : Int32) (k167_L_5 : Int32) (k167_S_2 : Int32) (k167_S_1 : Int32), IV 1 59 k167_L_3 → IV (-2147483648) (-25) k167_L_5 → IV 0 58 k167_S_1 → IV 0 1 k167_S_2 → IV 0 399 k5_L_4 → IV 1 400 p1 → ∀ (H : Heap) (locs : List Loc), va_P D classes [(a, .inr (2, [.ref a_stack, .ref a_told, .ref a_scene, .ref a_rule, .ref a_words, .int a__buyer, .int a__saw, .int a__stalls, .int a__bought, .int a__x])), (a_rule, .inr (4, [.int a_rule__clauses, .ref a_rule_kind, .ref a_rule_start, .ref a_rule_middle, .ref a_rule_end, .ref a_rule_code])), (a_rule_code, .inl (cs 0, a_rule_code_n, .inl a_rule_code_c)), (a_stack, .inl (cs 3, 60, .inr (.inl k5_C_a_stack))), (a_words, .inl (cs 0, 13, .inl a_words_c))] H → va_D A [(a, .inr (2, [.ref a_stack, .ref a_told, .ref a_scene, .ref a_rule, .ref a_words, .int a__buyer, .int a__saw, .int a__stalls, .int a__bought, .int a__x])), (a_rule, .inr (4, [.int a_rule__clauses, .ref a_rule_kind, .ref a_rule_start, .ref a_rule_middle, .ref a_rule_end, .ref a_rule_code])), (a_rule_code, .inl (cs 0, a_rule_code_n, .inl a_rule_code_c)), (a_stack, .inl (cs 3, 60, .inr (.inl k5_C_a_stack))), (a_words, .inl (cs 0, 13, .inl a_words_c))] → va_S A s.heap H locs → ∀ ls : Array Slot, lv_has ls 6 [(3, .int k167_L_3), (5, .int k167_L_5), (4, .int k5_L_4), (0, .ref a), (1, .int p0), (2, .int p1)] → W p l e (headSpec (hz_w yX2_valueOf cX2_valueOf 6 (some .long)) ({ frames := 1, cells := 0, slots := 0, locals := 24 })).room s m [.ref a, .int p0, .int p1].toArray below meth c H locs 0 0 (MQ below (va_Ql (fun (r : Int64) (_ : Unit) => True) (fun _ t => ∃ (o_a_stack_c : Nat → Int64), va_P D classes [(a, .inr (2, [.ref a_stack, .ref a_told, .ref a_scene, .ref a_rule, .ref a_words, .int a__buyer, .int a__saw, .int a__stalls, .int a__bought, .int a__x])), (a_rule, .inr (4, [.int a_rule__clauses, .ref a_rule_kind, .ref a_rule_start, .ref a_rule_middle, .ref a_rule_end, .ref a_rule_code])), (a_rule_code, .inl (cs 0, a_rule_code_n, .inl a_rule_code_c)), (a_stack, .inl (cs 3, 60, .inr (.inl o_a_stack_c))), (a_words, .inl (cs 0, 13, .inl a_words_c))] t.heap ∧ va_D A [(a, .inr (2, [.ref a_stack, .ref a_told, .ref a_scene, .ref a_rule, .ref a_words, .int a__buyer, .int a__saw, .int a__stalls, .int a__bought, .int a__x])), (a_rule, .inr (4, [.int a_rule__clauses, .ref a_rule_kind, .ref a_rule_start, .ref a_rule_middle, .ref a_rule_end, .ref a_rule_code])), (a_rule_code, .inl (cs 0, a_rule_code_n, .inl a_rule_code_c)), (a_stack, .inl (cs 3, 60, .inr (.inl o_a_stack_c))), (a_words, .inl (cs 0, 13, .inl a_words_c))]) A) [.ref a, .int p0, .int p1].toArray s 0 0 A) (F0 m 167 ls [.int k167_S_2, .int k167_S_1, .ref a_stack]) := by
        intro k167_L_3 k167_L_5 k167_S_2 k167_S_1 q167_2 q167_3 q167_4 q167_5 q167_6 q167_8 H locs hP hD hS ls hl
        refine lv_i2l (v := k167_S_2.toInt64) hx hb dX2_valueOf_167 rfl ?_
        refine lv_goto (tgt := 190) hx hb dX2_valueOf_168 (by decide) ?_
        exact K190 k167_L_3 k167_L_5 k167_S_2.toInt64 k167_S_1 q167_2 (iv_w q167_3 (by decide) (by decide)) q167_4 q167_6 q167_8 H locs (hP.sub (ws' := [(a, .inr (2, [.ref a_stack, .ref a_told, .ref a_scene, .ref a_rule, .ref a_words, .int a__buyer, .int a__saw, .int a__stalls, .int a__bought, .int a__x])), (a_rule, .inr (4, [.int a_rule__clauses, .ref a_rule_kind, .ref a_rule_start, .ref a_rule_middle, .ref a_rule_end, .ref a_rule_code])), (a_rule_code, .inl (cs 0, a_rule_code_n, .inl a_rule_code_c)), (a_stack, .inl (cs 3, 60, .inr (.inl k5_C_a_stack))), (a_words, .inl (cs 0, 13, .inl a_words_c))]) [0, 1, 2, 3, 4] rfl) (hD.sub (ws' := [(a, .inr (2, [.ref a_stack, .ref a_told, .ref a_scene, .ref a_rule, .ref a_words, .int a__buyer, .int a__saw, .int a__stalls, .int a__bought, .int a__x])), (a_rule, .inr (4, [.int a_rule__clauses, .ref a_rule_kind, .ref a_rule_start, .ref a_rule_middle, .ref a_rule_end, .ref a_rule_code])), (a_rule_code, .inl (cs 0, a_rule_code_n, .inl a_rule_code_c)), (a_stack, .inl (cs 3, 60, .inr (.inl k5_C_a_stack))), (a_words, .inl (cs 0, 13, .inl a_words_c))]) [0, 1, 2, 3, 4] (by decide) rfl) hS ls (lv_sub hl [0, 1, 2, 3, 4, 5] rfl)
      have K78 : ∀ (k78_L_5 : Int32) (k78_S_2 : Int64), IV 0 59 k5_L_3 → IV 0 399 k5_L_4 → IV (-13) 2147483647 k78_L_5 → IV 1 400 p1 → ∀ (H : Heap) (locs : List Loc), va_P D classes [(a, .inr (2, [.ref a_stack, .ref a_told, .ref a_scene, .ref a_rule, .ref a_words, .int a__buyer, .int a__saw, .int a__stalls, .int a__bought, .int a__x])), (a_rule, .inr (4, [.int a_rule__clauses, .ref a_rule_kind, .ref a_rule_start, .ref a_rule_middle, .ref a_rule_end, .ref a_rule_code])), (a_rule_code, .inl (cs 0, a_rule_code_n, .inl a_rule_code_c)), (a_stack, .inl (cs 3, 60, .inr (.inl k5_C_a_stack))), (a_words, .inl (cs 0, 13, .inl a_words_c))] H → va_D A [(a, .inr (2, [.ref a_stack, .ref a_told, .ref a_scene, .ref a_rule, .ref a_words, .int a__buyer, .int a__saw, .int a__stalls, .int a__bought, .int a__x])), (a_rule, .inr (4, [.int a_rule__clauses, .ref a_rule_kind, .ref a_rule_start, .ref a_rule_middle, .ref a_rule_end, .ref a_rule_code])), (a_rule_code, .inl (cs 0, a_rule_code_n, .inl a_rule_code_c)), (a_stack, .inl (cs 3, 60, .inr (.inl k5_C_a_stack))), (a_words, .inl (cs 0, 13, .inl a_words_c))] → va_S A s.heap H locs → ∀ ls : Array Slot, lv_has ls 6 [(5, .int k78_L_5), (4, .int k5_L_4), (3, .int k5_L_3), (0, .ref a), (1, .int p0), (2, .int p1)] → W p l e (headSpec (hz_w yX2_valueOf cX2_valueOf 6 (some .long)) ({ frames := 1, cells := 0, slots := 0, locals := 24 })).room s m [.ref a, .int p0, .int p1].toArray below meth c H locs 0 0 (MQ below (va_Ql (fun (r : Int64) (_ : Unit) => True) (fun _ t => ∃ (o_a_stack_c : Nat → Int64), va_P D classes [(a, .inr (2, [.ref a_stack, .ref a_told, .ref a_scene, .ref a_rule, .ref a_words, .int a__buyer, .int a__saw, .int a__stalls, .int a__bought, .int a__x])), (a_rule, .inr (4, [.int a_rule__clauses, .ref a_rule_kind, .ref a_rule_start, .ref a_rule_middle, .ref a_rule_end, .ref a_rule_code])), (a_rule_code, .inl (cs 0, a_rule_code_n, .inl a_rule_code_c)), (a_stack, .inl (cs 3, 60, .inr (.inl o_a_stack_c))), (a_words, .inl (cs 0, 13, .inl a_words_c))] t.heap ∧ va_D A [(a, .inr (2, [.ref a_stack, .ref a_told, .ref a_scene, .ref a_rule, .ref a_words, .int a__buyer, .int a__saw, .int a__stalls, .int a__bought, .int a__x])), (a_rule, .inr (4, [.int a_rule__clauses, .ref a_rule_kind, .ref a_rule_start, .ref a_rule_middle, .ref a_rule_end, .ref a_rule_code])), (a_rule_code, .inl (cs 0, a_rule_code_n, .inl a_rule_code_c)), (a_stack, .inl (cs 3, 60, .inr (.inl o_a_stack_c))), (a_words, .inl (cs 0, 13, .inl a_words_c))]) A) [.ref a, .int p0, .int p1].toArray s 0 0 A) (F0 m 78 ls [.long k78_S_2, .int k5_L_3, .ref a_stack]) := by
        intro k78_L_5 k78_S_2 q78_2 q78_3 q78_4 q78_6 H locs hP hD hS ls hl
        refine va_last hx hb hK hP hD hS 3 3 rfl rfl (iv_v q78_2 (by decide) (by decide)) dX2_valueOf_78 (fun H locs hP hD hS => ?_)
        have hP : va_P D classes [(a, .inr (2, [.ref a_stack, .ref a_told, .ref a_scene, .ref a_rule, .ref a_words, .int a__buyer, .int a__saw, .int a__stalls, .int a__bought, .int a__x])), (a_rule, .inr (4, [.int a_rule__clauses, .ref a_rule_kind, .ref a_rule_start, .ref a_rule_middle, .ref a_rule_end, .ref a_rule_code])), (a_rule_code, .inl (cs 0, a_rule_code_n, .inl a_rule_code_c)), (a_stack, .inl (cs 3, 60, .inr (.inl (vp_updL k5_C_a_stack (Int32.toNatClampNeg k5_L_3) k78_S_2)))), (a_words, .inl (cs 0, 13, .inl a_words_c))] H := hP
        have hD : va_D A [(a, .inr (2, [.ref a_stack, .ref a_told, .ref a_scene, .ref a_rule, .ref a_words, .int a__buyer, .int a__saw, .int a__stalls, .int a__bought, .int a__x])), (a_rule, .inr (4, [.int a_rule__clauses, .ref a_rule_kind, .ref a_rule_start, .ref a_rule_middle, .ref a_rule_end, .ref a_rule_code])), (a_rule_code, .inl (cs 0, a_rule_code_n, .inl a_rule_code_c)), (a_stack, .inl (cs 3, 60, .inr (.inl (vp_updL k5_C_a_stack (Int32.toNatClampNeg k5_L_3) k78_S_2)))), (a_words, .inl (cs 0, 13, .inl a_words_c))] := hD
        generalize vp_updL k5_C_a_stack (Int32.toNatClampNeg k5_L_3) k78_S_2 = f8 at hP hD
        obtain ⟨v9, ev9⟩ : ∃ z : Int32, z = k5_L_3 + 1 := ⟨_, rfl⟩
        have hv9 : IV 1 60 v9 := iv_add ev9 q78_2 (iv_c (a := 1) (b := 1) (by decide)) (by decide) (by decide)
        have dv9 : v9.toInt = k5_L_3.toInt + 1 := iv_addE ev9 q78_2 (iv_c (a := 1) (b := 1) (by decide)) (by decide) (by decide) (by decide)
        refine lv_iinc (v := v9) (lv' := [(3, .int v9), (5, .int k78_L_5), (4, .int k5_L_4), (0, .ref a), (1, .int p0), (2, .int p1)]) hx hb dX2_valueOf_79 hl (k := 2) rfl (by rw [ev9]; rfl) (by decide) rfl (fun ls hl => ?_)
        refine lv_goto (tgt := 191) hx hb dX2_valueOf_82 (by decide) ?_
        exact K191 k78_L_5 v9 f8 (iv_w hv9 (by decide) (by decide)) q78_3 q78_6 H locs (hP.sub (ws' := [(a, .inr (2, [.ref a_stack, .ref a_told, .ref a_scene, .ref a_rule, .ref a_words, .int a__buyer, .int a__saw, .int a__stalls, .int a__bought, .int a__x])), (a_rule, .inr (4, [.int a_rule__clauses, .ref a_rule_kind, .ref a_rule_start, .ref a_rule_middle, .ref a_rule_end, .ref a_rule_code])), (a_rule_code, .inl (cs 0, a_rule_code_n, .inl a_rule_code_c)), (a_stack, .inl (cs 3, 60, .inr (.inl f8))), (a_words, .inl (cs 0, 13, .inl a_words_c))]) [0, 1, 2, 3, 4] rfl) (hD.sub (ws' := [(a, .inr (2, [.ref a_stack, .ref a_told, .ref a_scene, .ref a_rule, .ref a_words, .int a__buyer, .int a__saw, .int a__stalls, .int a__bought, .int a__x])), (a_rule, .inr (4, [.int a_rule__clauses, .ref a_rule_kind, .ref a_rule_start, .ref a_rule_middle, .ref a_rule_end, .ref a_rule_code])), (a_rule_code, .inl (cs 0, a_rule_code_n, .inl a_rule_code_c)), (a_stack, .inl (cs 3, 60, .inr (.inl f8))), (a_words, .inl (cs 0, 13, .inl a_words_c))]) [0, 1, 2, 3, 4] (by decide) rfl) hS ls (lv_sub hl [1, 2, 0, 3, 4, 5] rfl)
      refine lv_iload hx hb dX2_valueOf_5 (lv_at hl 0 rfl) ?_
      refine lv_iload_n hx hb dX2_valueOf_7 rfl (lv_at hl 4 rfl) ?_
      refine lv_icmp_ge (tgt := 197) hx hb dX2_valueOf_8 (by decide) (fun c10 => ?_) (fun c10 => ?_)
      · exact K197 k5_L_4 k5_L_3 k5_C_a_stack q5_2 q5_3 H locs (hP.sub (ws' := [(a, .inr (2, [.ref a_stack, .ref a_told, .ref a_scene, .ref a_rule, .ref a_words, .int a__buyer, .int a__saw, .int a__stalls, .int a__bought, .int a__x])), (a_rule, .inr (4, [.int a_rule__clauses, .ref a_rule_kind, .ref a_rule_start, .ref a_rule_middle, .ref a_rule_end, .ref a_rule_code])), (a_rule_code, .inl (cs 0, a_rule_code_n, .inl a_rule_code_c)), (a_stack, .inl (cs 3, 60, .inr (.inl k5_C_a_stack))), (a_words, .inl (cs 0, 13, .inl a_words_c))]) [0, 1, 2, 3, 4] rfl) (hD.sub (ws' := [(a, .inr (2, [.ref a_stack, .ref a_told, .ref a_scene, .ref a_rule, .ref a_words, .int a__buyer, .int a__saw, .int a__stalls, .int a__bought, .int a__x])), (a_rule, .inr (4, [.int a_rule__clauses, .ref a_rule_kind, .ref a_rule_start, .ref a_rule_middle, .ref a_rule_end, .ref a_rule_code])), (a_rule_code, .inl (cs 0, a_rule_code_n, .inl a_rule_code_c)), (a_stack, .inl (cs 3, 60, .inr (.inl k5_C_a_stack))), (a_words, .inl (cs 0, 13, .inl a_words_c))]) [0, 1, 2, 3, 4] (by decide) rfl) hS ls (lv_sub hl [0, 1, 2, 3, 4] rfl)
      · have h11 : IV 0 399 k5_L_4 := iv_lt1 (Int32.not_le.mp c10) q5_3 h_p1 (by decide)
        have h12 : IV 1 400 p1 := iv_lt2 (Int32.not_le.mp c10) q5_3 h_p1 (by decide)
        refine lv_iload hx hb dX2_valueOf_11 (lv_at hl 0 rfl) ?_
        refine lv_aload_n hx hb dX2_valueOf_13 rfl (lv_at hl 2 rfl) ?_
        refine va_get (D := D) (ci := 2) (v := .ref a_rule) (C := RX2) (T := TX2) (N := 10) hx hb hT i_X2 hown hK hP 0 rfl rfl 3 (by decide) (hT _ q_70) (fun _ h9 => h9) rfl dX2_valueOf_14 ?_
        refine va_get (D := D) (ci := 4) (v := .ref a_rule_code) (C := RX4) (T := TX4) (N := 6) hx hb hT i_X4 hown hK hP 1 rfl rfl 5 (by decide) (hT _ q_88) (fun _ h9 => h9) rfl dX2_valueOf_17 ?_
        refine va_alen (v := Int32.ofNat a_rule_code_n) hx hb hK hP 2 0 rfl rfl rfl dX2_valueOf_20 ?_
        refine lv_icmp_ge (tgt := 197) hx hb dX2_valueOf_21 (by decide) (fun c13 => ?_) (fun c13 => ?_)
        · have h14 : IV (-2147483648) 399 (Int32.ofNat a_rule_code_n) := iv_le1 c13 iv_top h11 (by decide)
          exact K197 k5_L_4 k5_L_3 k5_C_a_stack q5_2 (iv_w h11 (by decide) (by decide)) H locs (hP.sub (ws' := [(a, .inr (2, [.ref a_stack, .ref a_told, .ref a_scene, .ref a_rule, .ref a_words, .int a__buyer, .int a__saw, .int a__stalls, .int a__bought, .int a__x])), (a_rule, .inr (4, [.int a_rule__clauses, .ref a_rule_kind, .ref a_rule_start, .ref a_rule_middle, .ref a_rule_end, .ref a_rule_code])), (a_rule_code, .inl (cs 0, a_rule_code_n, .inl a_rule_code_c)), (a_stack, .inl (cs 3, 60, .inr (.inl k5_C_a_stack))), (a_words, .inl (cs 0, 13, .inl a_words_c))]) [0, 1, 2, 3, 4] rfl) (hD.sub (ws' := [(a, .inr (2, [.ref a_stack, .ref a_told, .ref a_scene, .ref a_rule, .ref a_words, .int a__buyer, .int a__saw, .int a__stalls, .int a__bought, .int a__x])), (a_rule, .inr (4, [.int a_rule__clauses, .ref a_rule_kind, .ref a_rule_start, .ref a_rule_middle, .ref a_rule_end, .ref a_rule_code])), (a_rule_code, .inl (cs 0, a_rule_code_n, .inl a_rule_code_c)), (a_stack, .inl (cs 3, 60, .inr (.inl k5_C_a_stack))), (a_words, .inl (cs 0, 13, .inl a_words_c))]) [0, 1, 2, 3, 4] (by decide) rfl) hS ls (lv_sub hl [0, 1, 2, 3, 4] rfl)
        · have h15 : IV 1 2147483647 (Int32.ofNat a_rule_code_n) := iv_lt2 (Int32.not_le.mp c13) h11 iv_top (by decide)
          refine lv_aload_n hx hb dX2_valueOf_24 rfl (lv_at hl 2 rfl) ?_
          refine va_get (D := D) (ci := 2) (v := .ref a_rule) (C := RX2) (T := TX2) (N := 10) hx hb hT i_X2 hown hK hP 0 rfl rfl 3 (by decide) (hT _ q_70) (fun _ h9 => h9) rfl dX2_valueOf_25 ?_
          refine va_get (D := D) (ci := 4) (v := .ref a_rule_code) (C := RX4) (T := TX4) (N := 6) hx hb hT i_X4 hown hK hP 1 rfl rfl 5 (by decide) (hT _ q_88) (fun _ h9 => h9) rfl dX2_valueOf_28 ?_
          refine lv_iload hx hb dX2_valueOf_31 (lv_at hl 0 rfl) ?_
          refine va_iald hx hb hK hP 2 0 rfl rfl (iv_vn h11 (by decide) (Int32.not_le.mp c13) (by omega)) dX2_valueOf_33 ?_
          refine lv_topi (fun v16 ev16 => ?_)
          refine lv_istore (lv' := [(5, .int v16), (4, .int k5_L_4), (3, .int k5_L_3), (0, .ref a), (1, .int p0), (2, .int p1)]) hx hb dX2_valueOf_34 hl (by decide) rfl (fun ls hl => ?_)
          refine lv_iload hx hb dX2_valueOf_36 (lv_at hl 0 rfl) ?_
          refine lv_bipush (v := (-13)) hx hb dX2_valueOf_38 (by decide) ?_
          refine lv_icmp_lt (tgt := 85) hx hb dX2_valueOf_40 (by decide) (fun c17 => ?_) (fun c17 => ?_)
          · have h18 : IV (-2147483648) (-14) v16 := iv_lt1 c17 iv_top (iv_c (a := (-13)) (b := (-13)) (by decide)) (by decide)
            refine lv_iload hx hb dX2_valueOf_85 (lv_at hl 0 rfl) ?_
            refine lv_bipush (v := (-32)) hx hb dX2_valueOf_87 (by decide) ?_
            refine lv_icmp_ne (tgt := 118) hx hb dX2_valueOf_89 (by decide) (fun c19 => ?_) (fun c19 => ?_)
            · refine lv_iload_n hx hb dX2_valueOf_118 rfl (lv_at hl 2 rfl) ?_
              refine lv_iconst (v := 2) hx hb dX2_valueOf_119 (by decide) ?_
              refine lv_icmp_lt (tgt := 191) hx hb dX2_valueOf_120 (by decide) (fun c20 => ?_) (fun c20 => ?_)
              · have h21 : IV 0 1 k5_L_3 := iv_lt1 c20 q5_2 (iv_c (a := 2) (b := 2) (by decide)) (by decide)
                exact K191 v16 k5_L_3 k5_C_a_stack (iv_w h21 (by decide) (by decide)) h11 h12 H locs (hP.sub (ws' := [(a, .inr (2, [.ref a_stack, .ref a_told, .ref a_scene, .ref a_rule, .ref a_words, .int a__buyer, .int a__saw, .int a__stalls, .int a__bought, .int a__x])), (a_rule, .inr (4, [.int a_rule__clauses, .ref a_rule_kind, .ref a_rule_start, .ref a_rule_middle, .ref a_rule_end, .ref a_rule_code])), (a_rule_code, .inl (cs 0, a_rule_code_n, .inl a_rule_code_c)), (a_stack, .inl (cs 3, 60, .inr (.inl k5_C_a_stack))), (a_words, .inl (cs 0, 13, .inl a_words_c))]) [0, 1, 2, 3, 4] rfl) (hD.sub (ws' := [(a, .inr (2, [.ref a_stack, .ref a_told, .ref a_scene, .ref a_rule, .ref a_words, .int a__buyer, .int a__saw, .int a__stalls, .int a__bought, .int a__x])), (a_rule, .inr (4, [.int a_rule__clauses, .ref a_rule_kind, .ref a_rule_start, .ref a_rule_middle, .ref a_rule_end, .ref a_rule_code])), (a_rule_code, .inl (cs 0, a_rule_code_n, .inl a_rule_code_c)), (a_stack, .inl (cs 3, 60, .inr (.inl k5_C_a_stack))), (a_words, .inl (cs 0, 13, .inl a_words_c))]) [0, 1, 2, 3, 4] (by decide) rfl) hS ls (lv_sub hl [0, 1, 2, 3, 4, 5] rfl)
              · have h22 : IV 2 60 k5_L_3 := iv_le2 (Int32.not_lt.mp c20) (iv_c (a := 2) (b := 2) (by decide)) q5_2 (by decide)
                obtain ⟨v23, ev23⟩ : ∃ z : Int32, z = k5_L_3 + (-1) := ⟨_, rfl⟩
                have hv23 : IV 1 59 v23 := iv_add ev23 h22 (iv_c (a := (-1)) (b := (-1)) (by decide)) (by decide) (by decide)
                have dv23 : v23.toInt = k5_L_3.toInt + (-1) := iv_addE ev23 h22 (iv_c (a := (-1)) (b := (-1)) (by decide)) (by decide) (by decide) (by decide)
                refine lv_iinc (v := v23) (lv' := [(3, .int v23), (5, .int v16), (4, .int k5_L_4), (0, .ref a), (1, .int p0), (2, .int p1)]) hx hb dX2_valueOf_123 hl (k := 2) rfl (by rw [ev23]; rfl) (by decide) rfl (fun ls hl => ?_)
                refine lv_aload_n hx hb dX2_valueOf_126 rfl (lv_at hl 3 rfl) ?_
                refine va_get (D := D) (ci := 2) (v := .ref a_stack) (C := RX2) (T := TX2) (N := 10) hx hb hT i_X2 hown hK hP 0 rfl rfl 0 (by decide) (hT _ q_66) (fun _ h9 => h9) rfl dX2_valueOf_127 ?_
                refine lv_iload_n hx hb dX2_valueOf_130 rfl (lv_at hl 0 rfl) ?_
                refine lv_iconst (v := 1) hx hb dX2_valueOf_131 (by decide) ?_
                refine lv_isub hx hb dX2_valueOf_132 ?_
                refine lv_topi (fun v24 ev24 => ?_)
                have hv24 : IV 0 58 v24 := iv_sub ev24 hv23 (iv_c (a := 1) (b := 1) (by decide)) (by decide) (by decide)
                have dv24 : v24.toInt = v23.toInt + (-1) := iv_subE ev24 hv23 (iv_c (a := 1) (b := 1) (by decide)) (by decide) (by decide) (by decide)
                refine lv_iload hx hb dX2_valueOf_133 (lv_at hl 1 rfl) ?_
                refine lv_bipush (v := (-25)) hx hb dX2_valueOf_135 (by decide) ?_
                refine lv_icmp_gt (tgt := 171) hx hb dX2_valueOf_137 (by decide) (fun c25 => ?_) (fun c25 => ?_)
                · have h26 : IV (-24) (-14) v16 := iv_lt2 c25 (iv_c (a := (-25)) (b := (-25)) (by decide)) h18 (by decide)
                  refine lv_iload hx hb dX2_valueOf_171 (lv_at hl 1 rfl) ?_
                  refine lv_aload_n hx hb dX2_valueOf_173 rfl (lv_at hl 3 rfl) ?_
                  refine va_get (D := D) (ci := 2) (v := .ref a_stack) (C := RX2) (T := TX2) (N := 10) hx hb hT i_X2 hown hK hP 0 rfl rfl 0 (by decide) (hT _ q_66) (fun _ h9 => h9) rfl dX2_valueOf_174 ?_
                  refine lv_iload_n hx hb dX2_valueOf_177 rfl (lv_at hl 0 rfl) ?_
                  refine lv_iconst (v := 1) hx hb dX2_valueOf_178 (by decide) ?_
                  refine lv_isub hx hb dX2_valueOf_179 ?_
                  refine lv_topi (fun v27 ev27 => ?_)
                  have hv27 : IV 0 58 v27 := iv_sub ev27 hv23 (iv_c (a := 1) (b := 1) (by decide)) (by decide) (by decide)
                  have dv27 : v27.toInt = v23.toInt + (-1) := iv_subE ev27 hv23 (iv_c (a := 1) (b := 1) (by decide)) (by decide) (by decide) (by decide)
                  refine va_lald hx hb hK hP 3 3 rfl rfl (iv_v hv27 (by decide) (by decide)) dX2_valueOf_180 ?_
                  refine lv_topl (fun u28 eu28 => ?_)
                  refine lv_aload_n hx hb dX2_valueOf_181 rfl (lv_at hl 3 rfl) ?_
                  refine va_get (D := D) (ci := 2) (v := .ref a_stack) (C := RX2) (T := TX2) (N := 10) hx hb hT i_X2 hown hK hP 0 rfl rfl 0 (by decide) (hT _ q_66) (fun _ h9 => h9) rfl dX2_valueOf_182 ?_
                  refine lv_iload_n hx hb dX2_valueOf_185 rfl (lv_at hl 0 rfl) ?_
                  refine va_lald hx hb hK hP 3 3 rfl rfl (iv_v hv23 (by decide) (by decide)) dX2_valueOf_186 ?_
                  refine lv_topl (fun u29 eu29 => ?_)
                  refine va_calll (va_runS (As := [.int v16, .long u28, .long u29]) (rest := [.int v24, .ref a_stack]) ⟨hx, hb, hml, hown, hT⟩ (c_X2_joined l D cs kK kV v16 u28 u29) (va_cwS 3 hT (hz_gS q_524 q_525 q_332 q_526) rfl rfl rfl (by decide +kernel) ⟨(Nat.le_of_ble_eq_true rfl), (Nat.le_of_ble_eq_true rfl)⟩) ⟨hz_P.blind, hz_P.mk (hP.sub (ws' := []) [] rfl) hE hS⟩ rfl rfl hl.1 rfl (lv_room (Nat.le_of_ble_eq_true rfl)) dX2_valueOf_187 ⟨(Nat.le_of_ble_eq_true rfl), (Nat.le_of_ble_eq_true rfl)⟩) hS (fun _ _ h => h.elim) (fun _ h => h.elim) (fun r30 u t H1 locs ht hvm hw hB hz1 hk1 hS => ?_)
                  have hP := hz_keep hP hk1
                  clear hk1 hB hz1
                  generalize H1 = H at hP hS ⊢
                  exact K190 v23 v16 r30 v24 hv23 (iv_w h26 (by decide) (by decide)) hv24 h11 h12 H locs (hP.sub (ws' := [(a, .inr (2, [.ref a_stack, .ref a_told, .ref a_scene, .ref a_rule, .ref a_words, .int a__buyer, .int a__saw, .int a__stalls, .int a__bought, .int a__x])), (a_rule, .inr (4, [.int a_rule__clauses, .ref a_rule_kind, .ref a_rule_start, .ref a_rule_middle, .ref a_rule_end, .ref a_rule_code])), (a_rule_code, .inl (cs 0, a_rule_code_n, .inl a_rule_code_c)), (a_stack, .inl (cs 3, 60, .inr (.inl k5_C_a_stack))), (a_words, .inl (cs 0, 13, .inl a_words_c))]) [0, 1, 2, 3, 4] rfl) (hD.sub (ws' := [(a, .inr (2, [.ref a_stack, .ref a_told, .ref a_scene, .ref a_rule, .ref a_words, .int a__buyer, .int a__saw, .int a__stalls, .int a__bought, .int a__x])), (a_rule, .inr (4, [.int a_rule__clauses, .ref a_rule_kind, .ref a_rule_start, .ref a_rule_middle, .ref a_rule_end, .ref a_rule_code])), (a_rule_code, .inl (cs 0, a_rule_code_n, .inl a_rule_code_c)), (a_stack, .inl (cs 3, 60, .inr (.inl k5_C_a_stack))), (a_words, .inl (cs 0, 13, .inl a_words_c))]) [0, 1, 2, 3, 4] (by decide) rfl) hS ls (lv_sub hl [0, 1, 2, 3, 4, 5] rfl)
                · have h31 : IV (-2147483648) (-25) v16 := iv_le1 (Int32.not_lt.mp c25) h18 (iv_c (a := (-25)) (b := (-25)) (by decide)) (by decide)
                  refine lv_iload hx hb dX2_valueOf_140 (lv_at hl 1 rfl) ?_
                  refine lv_aload_n hx hb dX2_valueOf_142 rfl (lv_at hl 3 rfl) ?_
                  refine va_get (D := D) (ci := 2) (v := .ref a_stack) (C := RX2) (T := TX2) (N := 10) hx hb hT i_X2 hown hK hP 0 rfl rfl 0 (by decide) (hT _ q_66) (fun _ h9 => h9) rfl dX2_valueOf_143 ?_
                  refine lv_iload_n hx hb dX2_valueOf_146 rfl (lv_at hl 0 rfl) ?_
                  refine lv_iconst (v := 1) hx hb dX2_valueOf_147 (by decide) ?_
                  refine lv_isub hx hb dX2_valueOf_148 ?_
                  refine lv_topi (fun v32 ev32 => ?_)
                  have hv32 : IV 0 58 v32 := iv_sub ev32 hv23 (iv_c (a := 1) (b := 1) (by decide)) (by decide) (by decide)
                  have dv32 : v32.toInt = v23.toInt + (-1) := iv_subE ev32 hv23 (iv_c (a := 1) (b := 1) (by decide)) (by decide) (by decide) (by decide)
                  refine va_lald hx hb hK hP 3 3 rfl rfl (iv_v hv32 (by decide) (by decide)) dX2_valueOf_149 ?_
                  refine lv_topl (fun u33 eu33 => ?_)
                  refine lv_aload_n hx hb dX2_valueOf_150 rfl (lv_at hl 3 rfl) ?_
                  refine va_get (D := D) (ci := 2) (v := .ref a_stack) (C := RX2) (T := TX2) (N := 10) hx hb hT i_X2 hown hK hP 0 rfl rfl 0 (by decide) (hT _ q_66) (fun _ h9 => h9) rfl dX2_valueOf_151 ?_
                  refine lv_iload_n hx hb dX2_valueOf_154 rfl (lv_at hl 0 rfl) ?_
                  refine va_lald hx hb hK hP 3 3 rfl rfl (iv_v hv23 (by decide) (by decide)) dX2_valueOf_155 ?_
                  refine lv_topl (fun u34 eu34 => ?_)
                  refine va_calli (va_runS (As := [.int v16, .long u33, .long u34]) (rest := [.int v24, .ref a_stack]) ⟨hx, hb, hml, hown, hT⟩ (c_X2_holds l D cs kK kV v16 u33 u34) (va_cwS 3 hT (hz_gS q_521 q_522 q_332 q_523) rfl rfl rfl (by decide +kernel) ⟨(Nat.le_of_ble_eq_true rfl), (Nat.le_of_ble_eq_true rfl)⟩) ⟨hz_P.blind, hz_P.mk (hP.sub (ws' := []) [] rfl) hE hS⟩ rfl rfl hl.1 rfl (lv_room (Nat.le_of_ble_eq_true rfl)) dX2_valueOf_156 ⟨(Nat.le_of_ble_eq_true rfl), (Nat.le_of_ble_eq_true rfl)⟩) hS (fun _ _ h => h.elim) (fun _ h => h.elim) (fun r35 u t H1 locs ht hvm hw hB hz1 hk1 hS => ?_)
                  have hP := hz_keep hP hk1
                  clear hk1 hB hz1
                  generalize H1 = H at hP hS ⊢
                  rcases hw with rfl | rfl
                  · refine lv_if_eq (tgt := 166) hx hb dX2_valueOf_159 (by decide) (fun _ => ?_) (fun z => absurd (by decide) z)
                    refine lv_iconst (v := 0) hx hb dX2_valueOf_166 (by decide) ?_
                    exact K167 v23 v16 0 v24 hv23 h31 hv24 (iv_c (by decide)) h11 h12 H locs (hP.sub (ws' := [(a, .inr (2, [.ref a_stack, .ref a_told, .ref a_scene, .ref a_rule, .ref a_words, .int a__buyer, .int a__saw, .int a__stalls, .int a__bought, .int a__x])), (a_rule, .inr (4, [.int a_rule__clauses, .ref a_rule_kind, .ref a_rule_start, .ref a_rule_middle, .ref a_rule_end, .ref a_rule_code])), (a_rule_code, .inl (cs 0, a_rule_code_n, .inl a_rule_code_c)), (a_stack, .inl (cs 3, 60, .inr (.inl k5_C_a_stack))), (a_words, .inl (cs 0, 13, .inl a_words_c))]) [0, 1, 2, 3, 4] rfl) (hD.sub (ws' := [(a, .inr (2, [.ref a_stack, .ref a_told, .ref a_scene, .ref a_rule, .ref a_words, .int a__buyer, .int a__saw, .int a__stalls, .int a__bought, .int a__x])), (a_rule, .inr (4, [.int a_rule__clauses, .ref a_rule_kind, .ref a_rule_start, .ref a_rule_middle, .ref a_rule_end, .ref a_rule_code])), (a_rule_code, .inl (cs 0, a_rule_code_n, .inl a_rule_code_c)), (a_stack, .inl (cs 3, 60, .inr (.inl k5_C_a_stack))), (a_words, .inl (cs 0, 13, .inl a_words_c))]) [0, 1, 2, 3, 4] (by decide) rfl) hS ls (lv_sub hl [0, 1, 2, 3, 4, 5] rfl)
                  · refine lv_if_eq (tgt := 166) hx hb dX2_valueOf_159 (by decide) (fun z => absurd z (by decide)) (fun _ => ?_)
                    refine lv_iconst (v := 1) hx hb dX2_valueOf_162 (by decide) ?_
                    refine lv_goto (tgt := 167) hx hb dX2_valueOf_163 (by decide) ?_
                    exact K167 v23 v16 1 v24 hv23 h31 hv24 (iv_c (by decide)) h11 h12 H locs (hP.sub (ws' := [(a, .inr (2, [.ref a_stack, .ref a_told, .ref a_scene, .ref a_rule, .ref a_words, .int a__buyer, .int a__saw, .int a__stalls, .int a__bought, .int a__x])), (a_rule, .inr (4, [.int a_rule__clauses, .ref a_rule_kind, .ref a_rule_start, .ref a_rule_middle, .ref a_rule_end, .ref a_rule_code])), (a_rule_code, .inl (cs 0, a_rule_code_n, .inl a_rule_code_c)), (a_stack, .inl (cs 3, 60, .inr (.inl k5_C_a_stack))), (a_words, .inl (cs 0, 13, .inl a_words_c))]) [0, 1, 2, 3, 4] rfl) (hD.sub (ws' := [(a, .inr (2, [.ref a_stack, .ref a_told, .ref a_scene, .ref a_rule, .ref a_words, .int a__buyer, .int a__saw, .int a__stalls, .int a__bought, .int a__x])), (a_rule, .inr (4, [.int a_rule__clauses, .ref a_rule_kind, .ref a_rule_start, .ref a_rule_middle, .ref a_rule_end, .ref a_rule_code])), (a_rule_code, .inl (cs 0, a_rule_code_n, .inl a_rule_code_c)), (a_stack, .inl (cs 3, 60, .inr (.inl k5_C_a_stack))), (a_words, .inl (cs 0, 13, .inl a_words_c))]) [0, 1, 2, 3, 4] (by decide) rfl) hS ls (lv_sub hl [0, 1, 2, 3, 4, 5] rfl)
            · have h36 : IV (-32) (-32) v16 := iv_eq1 c19 h18 (iv_c (a := (-32)) (b := (-32)) (by decide)) (by decide) (by decide)
              refine lv_iload_n hx hb dX2_valueOf_92 rfl (lv_at hl 2 rfl) ?_
              refine lv_iconst (v := 1) hx hb dX2_valueOf_93 (by decide) ?_
              refine lv_icmp_lt (tgt := 191) hx hb dX2_valueOf_94 (by decide) (fun c37 => ?_) (fun c37 => ?_)
              · have h38 : IV 0 0 k5_L_3 := iv_lt1 c37 q5_2 (iv_c (a := 1) (b := 1) (by decide)) (by decide)
                exact K191 v16 k5_L_3 k5_C_a_stack (iv_w h38 (by decide) (by decide)) h11 h12 H locs (hP.sub (ws' := [(a, .inr (2, [.ref a_stack, .ref a_told, .ref a_scene, .ref a_rule, .ref a_words, .int a__buyer, .int a__saw, .int a__stalls, .int a__bought, .int a__x])), (a_rule, .inr (4, [.int a_rule__clauses, .ref a_rule_kind, .ref a_rule_start, .ref a_rule_middle, .ref a_rule_end, .ref a_rule_code])), (a_rule_code, .inl (cs 0, a_rule_code_n, .inl a_rule_code_c)), (a_stack, .inl (cs 3, 60, .inr (.inl k5_C_a_stack))), (a_words, .inl (cs 0, 13, .inl a_words_c))]) [0, 1, 2, 3, 4] rfl) (hD.sub (ws' := [(a, .inr (2, [.ref a_stack, .ref a_told, .ref a_scene, .ref a_rule, .ref a_words, .int a__buyer, .int a__saw, .int a__stalls, .int a__bought, .int a__x])), (a_rule, .inr (4, [.int a_rule__clauses, .ref a_rule_kind, .ref a_rule_start, .ref a_rule_middle, .ref a_rule_end, .ref a_rule_code])), (a_rule_code, .inl (cs 0, a_rule_code_n, .inl a_rule_code_c)), (a_stack, .inl (cs 3, 60, .inr (.inl k5_C_a_stack))), (a_words, .inl (cs 0, 13, .inl a_words_c))]) [0, 1, 2, 3, 4] (by decide) rfl) hS ls (lv_sub hl [0, 1, 2, 3, 4, 5] rfl)
              · have h39 : IV 1 60 k5_L_3 := iv_le2 (Int32.not_lt.mp c37) (iv_c (a := 1) (b := 1) (by decide)) q5_2 (by decide)
                refine lv_aload_n hx hb dX2_valueOf_97 rfl (lv_at hl 3 rfl) ?_
                refine va_get (D := D) (ci := 2) (v := .ref a_stack) (C := RX2) (T := TX2) (N := 10) hx hb hT i_X2 hown hK hP 0 rfl rfl 0 (by decide) (hT _ q_66) (fun _ h9 => h9) rfl dX2_valueOf_98 ?_
                refine lv_iload_n hx hb dX2_valueOf_101 rfl (lv_at hl 2 rfl) ?_
                refine lv_iconst (v := 1) hx hb dX2_valueOf_102 (by decide) ?_
                refine lv_isub hx hb dX2_valueOf_103 ?_
                refine lv_topi (fun v40 ev40 => ?_)
                have hv40 : IV 0 59 v40 := iv_sub ev40 h39 (iv_c (a := 1) (b := 1) (by decide)) (by decide) (by decide)
                have dv40 : v40.toInt = k5_L_3.toInt + (-1) := iv_subE ev40 h39 (iv_c (a := 1) (b := 1) (by decide)) (by decide) (by decide) (by decide)
                refine lv_lconst (v := 1) hx hb dX2_valueOf_104 (by decide) ?_
                refine lv_aload_n hx hb dX2_valueOf_105 rfl (lv_at hl 3 rfl) ?_
                refine va_get (D := D) (ci := 2) (v := .ref a_stack) (C := RX2) (T := TX2) (N := 10) hx hb hT i_X2 hown hK hP 0 rfl rfl 0 (by decide) (hT _ q_66) (fun _ h9 => h9) rfl dX2_valueOf_106 ?_
                refine lv_iload_n hx hb dX2_valueOf_109 rfl (lv_at hl 2 rfl) ?_
                refine lv_iconst (v := 1) hx hb dX2_valueOf_110 (by decide) ?_
                refine lv_isub hx hb dX2_valueOf_111 ?_
                refine lv_topi (fun v41 ev41 => ?_)
                have hv41 : IV 0 59 v41 := iv_sub ev41 h39 (iv_c (a := 1) (b := 1) (by decide)) (by decide) (by decide)
                have dv41 : v41.toInt = k5_L_3.toInt + (-1) := iv_subE ev41 h39 (iv_c (a := 1) (b := 1) (by decide)) (by decide) (by decide) (by decide)
                refine va_lald hx hb hK hP 3 3 rfl rfl (iv_v hv41 (by decide) (by decide)) dX2_valueOf_112 ?_
                refine lv_topl (fun u42 eu42 => ?_)
                refine lv_lsub hx hb dX2_valueOf_113 ?_
                refine lv_topl (fun u43 eu43 => ?_)
                refine va_last hx hb hK hP hD hS 3 3 rfl rfl (iv_v hv40 (by decide) (by decide)) dX2_valueOf_114 (fun H locs hP hD hS => ?_)
                have hP : va_P D classes [(a, .inr (2, [.ref a_stack, .ref a_told, .ref a_scene, .ref a_rule, .ref a_words, .int a__buyer, .int a__saw, .int a__stalls, .int a__bought, .int a__x])), (a_rule, .inr (4, [.int a_rule__clauses, .ref a_rule_kind, .ref a_rule_start, .ref a_rule_middle, .ref a_rule_end, .ref a_rule_code])), (a_rule_code, .inl (cs 0, a_rule_code_n, .inl a_rule_code_c)), (a_stack, .inl (cs 3, 60, .inr (.inl (vp_updL k5_C_a_stack (Int32.toNatClampNeg v40) u43)))), (a_words, .inl (cs 0, 13, .inl a_words_c))] H := hP
                have hD : va_D A [(a, .inr (2, [.ref a_stack, .ref a_told, .ref a_scene, .ref a_rule, .ref a_words, .int a__buyer, .int a__saw, .int a__stalls, .int a__bought, .int a__x])), (a_rule, .inr (4, [.int a_rule__clauses, .ref a_rule_kind, .ref a_rule_start, .ref a_rule_middle, .ref a_rule_end, .ref a_rule_code])), (a_rule_code, .inl (cs 0, a_rule_code_n, .inl a_rule_code_c)), (a_stack, .inl (cs 3, 60, .inr (.inl (vp_updL k5_C_a_stack (Int32.toNatClampNeg v40) u43)))), (a_words, .inl (cs 0, 13, .inl a_words_c))] := hD
                generalize vp_updL k5_C_a_stack (Int32.toNatClampNeg v40) u43 = f44 at hP hD
                refine lv_goto (tgt := 191) hx hb dX2_valueOf_115 (by decide) ?_
                exact K191 v16 k5_L_3 f44 (iv_w h39 (by decide) (by decide)) h11 h12 H locs (hP.sub (ws' := [(a, .inr (2, [.ref a_stack, .ref a_told, .ref a_scene, .ref a_rule, .ref a_words, .int a__buyer, .int a__saw, .int a__stalls, .int a__bought, .int a__x])), (a_rule, .inr (4, [.int a_rule__clauses, .ref a_rule_kind, .ref a_rule_start, .ref a_rule_middle, .ref a_rule_end, .ref a_rule_code])), (a_rule_code, .inl (cs 0, a_rule_code_n, .inl a_rule_code_c)), (a_stack, .inl (cs 3, 60, .inr (.inl f44))), (a_words, .inl (cs 0, 13, .inl a_words_c))]) [0, 1, 2, 3, 4] rfl) (hD.sub (ws' := [(a, .inr (2, [.ref a_stack, .ref a_told, .ref a_scene, .ref a_rule, .ref a_words, .int a__buyer, .int a__saw, .int a__stalls, .int a__bought, .int a__x])), (a_rule, .inr (4, [.int a_rule__clauses, .ref a_rule_kind, .ref a_rule_start, .ref a_rule_middle, .ref a_rule_end, .ref a_rule_code])), (a_rule_code, .inl (cs 0, a_rule_code_n, .inl a_rule_code_c)), (a_stack, .inl (cs 3, 60, .inr (.inl f44))), (a_words, .inl (cs 0, 13, .inl a_words_c))]) [0, 1, 2, 3, 4] (by decide) rfl) hS ls (lv_sub hl [0, 1, 2, 3, 4, 5] rfl)
          · have h45 : IV (-13) 2147483647 v16 := iv_le2 (Int32.not_lt.mp c17) (iv_c (a := (-13)) (b := (-13)) (by decide)) iv_top (by decide)
            refine lv_iload_n hx hb dX2_valueOf_43 rfl (lv_at hl 2 rfl) ?_
            refine lv_aload_n hx hb dX2_valueOf_44 rfl (lv_at hl 3 rfl) ?_
            refine va_get (D := D) (ci := 2) (v := .ref a_stack) (C := RX2) (T := TX2) (N := 10) hx hb hT i_X2 hown hK hP 0 rfl rfl 0 (by decide) (hT _ q_66) (fun _ h9 => h9) rfl dX2_valueOf_45 ?_
            refine va_alen (v := 60) hx hb hK hP 3 3 rfl rfl rfl dX2_valueOf_48 ?_
            refine lv_icmp_ge (tgt := 191) hx hb dX2_valueOf_49 (by decide) (fun c46 => ?_) (fun c46 => ?_)
            · have h47 : IV 60 60 k5_L_3 := iv_le2 c46 (iv_c (a := 60) (b := 60) (by decide)) q5_2 (by decide)
              exact K191 v16 k5_L_3 k5_C_a_stack (iv_w h47 (by decide) (by decide)) h11 h12 H locs (hP.sub (ws' := [(a, .inr (2, [.ref a_stack, .ref a_told, .ref a_scene, .ref a_rule, .ref a_words, .int a__buyer, .int a__saw, .int a__stalls, .int a__bought, .int a__x])), (a_rule, .inr (4, [.int a_rule__clauses, .ref a_rule_kind, .ref a_rule_start, .ref a_rule_middle, .ref a_rule_end, .ref a_rule_code])), (a_rule_code, .inl (cs 0, a_rule_code_n, .inl a_rule_code_c)), (a_stack, .inl (cs 3, 60, .inr (.inl k5_C_a_stack))), (a_words, .inl (cs 0, 13, .inl a_words_c))]) [0, 1, 2, 3, 4] rfl) (hD.sub (ws' := [(a, .inr (2, [.ref a_stack, .ref a_told, .ref a_scene, .ref a_rule, .ref a_words, .int a__buyer, .int a__saw, .int a__stalls, .int a__bought, .int a__x])), (a_rule, .inr (4, [.int a_rule__clauses, .ref a_rule_kind, .ref a_rule_start, .ref a_rule_middle, .ref a_rule_end, .ref a_rule_code])), (a_rule_code, .inl (cs 0, a_rule_code_n, .inl a_rule_code_c)), (a_stack, .inl (cs 3, 60, .inr (.inl k5_C_a_stack))), (a_words, .inl (cs 0, 13, .inl a_words_c))]) [0, 1, 2, 3, 4] (by decide) rfl) hS ls (lv_sub hl [0, 1, 2, 3, 4, 5] rfl)
            · have h48 : IV 0 59 k5_L_3 := iv_lt1 (Int32.not_le.mp c46) q5_2 (iv_c (a := 60) (b := 60) (by decide)) (by decide)
              refine lv_aload_n hx hb dX2_valueOf_52 rfl (lv_at hl 3 rfl) ?_
              refine va_get (D := D) (ci := 2) (v := .ref a_stack) (C := RX2) (T := TX2) (N := 10) hx hb hT i_X2 hown hK hP 0 rfl rfl 0 (by decide) (hT _ q_66) (fun _ h9 => h9) rfl dX2_valueOf_53 ?_
              refine lv_iload_n hx hb dX2_valueOf_56 rfl (lv_at hl 2 rfl) ?_
              refine lv_iload hx hb dX2_valueOf_57 (lv_at hl 0 rfl) ?_
              refine lv_if_lt (tgt := 68) hx hb dX2_valueOf_59 (by decide) (fun c49 => ?_) (fun c49 => ?_)
              · have h50 : IV (-13) (-1) v16 := iv_lt1 c49 h45 (iv_c (a := 0) (b := 0) (by decide)) (by decide)
                refine lv_aload_n hx hb dX2_valueOf_68 rfl (lv_at hl 3 rfl) ?_
                refine va_get (D := D) (ci := 2) (v := .ref a_words) (C := RX2) (T := TX2) (N := 10) hx hb hT i_X2 hown hK hP 0 rfl rfl 4 (by decide) (hT _ q_67) (fun _ h9 => h9) rfl dX2_valueOf_69 ?_
                refine lv_iconst (v := (-1)) hx hb dX2_valueOf_72 (by decide) ?_
                refine lv_iload hx hb dX2_valueOf_73 (lv_at hl 0 rfl) ?_
                refine lv_isub hx hb dX2_valueOf_75 ?_
                refine lv_topi (fun v51 ev51 => ?_)
                have hv51 : IV 0 12 v51 := iv_sub ev51 (iv_c (a := (-1)) (b := (-1)) (by decide)) h50 (by decide) (by decide)
                refine va_iald hx hb hK hP 4 0 rfl rfl (iv_v hv51 (by decide) (by decide)) dX2_valueOf_76 ?_
                refine lv_topi (fun v52 ev52 => ?_)
                refine lv_i2l (v := v52.toInt64) hx hb dX2_valueOf_77 rfl ?_
                exact K78 v16 v52.toInt64 h48 h11 (iv_w h50 (by decide) (by decide)) h12 H locs (hP.sub (ws' := [(a, .inr (2, [.ref a_stack, .ref a_told, .ref a_scene, .ref a_rule, .ref a_words, .int a__buyer, .int a__saw, .int a__stalls, .int a__bought, .int a__x])), (a_rule, .inr (4, [.int a_rule__clauses, .ref a_rule_kind, .ref a_rule_start, .ref a_rule_middle, .ref a_rule_end, .ref a_rule_code])), (a_rule_code, .inl (cs 0, a_rule_code_n, .inl a_rule_code_c)), (a_stack, .inl (cs 3, 60, .inr (.inl k5_C_a_stack))), (a_words, .inl (cs 0, 13, .inl a_words_c))]) [0, 1, 2, 3, 4] rfl) (hD.sub (ws' := [(a, .inr (2, [.ref a_stack, .ref a_told, .ref a_scene, .ref a_rule, .ref a_words, .int a__buyer, .int a__saw, .int a__stalls, .int a__bought, .int a__x])), (a_rule, .inr (4, [.int a_rule__clauses, .ref a_rule_kind, .ref a_rule_start, .ref a_rule_middle, .ref a_rule_end, .ref a_rule_code])), (a_rule_code, .inl (cs 0, a_rule_code_n, .inl a_rule_code_c)), (a_stack, .inl (cs 3, 60, .inr (.inl k5_C_a_stack))), (a_words, .inl (cs 0, 13, .inl a_words_c))]) [0, 1, 2, 3, 4] (by decide) rfl) hS ls (lv_sub hl [0, 1, 2, 3, 4, 5] rfl)
              · have h53 : IV 0 2147483647 v16 := iv_le2 (Int32.not_lt.mp c49) (iv_c (a := 0) (b := 0) (by decide)) h45 (by decide)
                refine lv_iload hx hb dX2_valueOf_62 (lv_at hl 0 rfl) ?_
                refine lv_i2l (v := v16.toInt64) hx hb dX2_valueOf_64 rfl ?_
                refine lv_goto (tgt := 78) hx hb dX2_valueOf_65 (by decide) ?_
                exact K78 v16 v16.toInt64 h48 h11 (iv_w h53 (by decide) (by decide)) h12 H locs (hP.sub (ws' := [(a, .inr (2, [.ref a_stack, .ref a_told, .ref a_scene, .ref a_rule, .ref a_words, .int a__buyer, .int a__saw, .int a__stalls, .int a__bought, .int a__x])), (a_rule, .inr (4, [.int a_rule__clauses, .ref a_rule_kind, .ref a_rule_start, .ref a_rule_middle, .ref a_rule_end, .ref a_rule_code])), (a_rule_code, .inl (cs 0, a_rule_code_n, .inl a_rule_code_c)), (a_stack, .inl (cs 3, 60, .inr (.inl k5_C_a_stack))), (a_words, .inl (cs 0, 13, .inl a_words_c))]) [0, 1, 2, 3, 4] rfl) (hD.sub (ws' := [(a, .inr (2, [.ref a_stack, .ref a_told, .ref a_scene, .ref a_rule, .ref a_words, .int a__buyer, .int a__saw, .int a__stalls, .int a__bought, .int a__x])), (a_rule, .inr (4, [.int a_rule__clauses, .ref a_rule_kind, .ref a_rule_start, .ref a_rule_middle, .ref a_rule_end, .ref a_rule_code])), (a_rule_code, .inl (cs 0, a_rule_code_n, .inl a_rule_code_c)), (a_stack, .inl (cs 3, 60, .inr (.inl k5_C_a_stack))), (a_words, .inl (cs 0, 13, .inl a_words_c))]) [0, 1, 2, 3, 4] (by decide) rfl) hS ls (lv_sub hl [0, 1, 2, 3, 4, 5] rfl)
  refine lv_iconst (v := 0) hx hb dX2_valueOf_0 (by decide) ?_
  refine lv_istore_n (lv' := [(3, .int 0), (0, .ref a), (1, .int p0), (2, .int p1)]) hx hb dX2_valueOf_1 rfl hl (by decide) rfl (fun ls hl => ?_)
  refine lv_iload_n hx hb dX2_valueOf_2 rfl (lv_at hl 2 rfl) ?_
  refine lv_istore (lv' := [(4, .int p0), (3, .int 0), (0, .ref a), (1, .int p0), (2, .int p1)]) hx hb dX2_valueOf_3 hl (by decide) rfl (fun ls hl => ?_)
  exact K5 _ p0 0 a_stack_c (Nat.le_refl _) (iv_c (by decide)) h_p0 H locs (hP.sub (ws' := [(a, .inr (2, [.ref a_stack, .ref a_told, .ref a_scene, .ref a_rule, .ref a_words, .int a__buyer, .int a__saw, .int a__stalls, .int a__bought, .int a__x])), (a_rule, .inr (4, [.int a_rule__clauses, .ref a_rule_kind, .ref a_rule_start, .ref a_rule_middle, .ref a_rule_end, .ref a_rule_code])), (a_rule_code, .inl (cs 0, a_rule_code_n, .inl a_rule_code_c)), (a_stack, .inl (cs 3, 60, .inr (.inl a_stack_c))), (a_words, .inl (cs 0, 13, .inl a_words_c))]) [0, 1, 2, 3, 4] rfl) (hD.sub (ws' := [(a, .inr (2, [.ref a_stack, .ref a_told, .ref a_scene, .ref a_rule, .ref a_words, .int a__buyer, .int a__saw, .int a__stalls, .int a__bought, .int a__x])), (a_rule, .inr (4, [.int a_rule__clauses, .ref a_rule_kind, .ref a_rule_start, .ref a_rule_middle, .ref a_rule_end, .ref a_rule_code])), (a_rule_code, .inl (cs 0, a_rule_code_n, .inl a_rule_code_c)), (a_stack, .inl (cs 3, 60, .inr (.inl a_stack_c))), (a_words, .inl (cs 0, 13, .inl a_words_c))]) [0, 1, 2, 3, 4] (by decide) rfl) hS ls (lv_sub hl [0, 1, 2, 3, 4] rfl)
