theorem dX6_open_0 : decode cX6_open 0 = .ok (.aload_n 0, 1) := by decide +kernel
theorem dX6_open_1 : decode cX6_open 1 = .ok (.iconst 0, 1) := by decide +kernel
theorem dX6_open_2 : decode cX6_open 2 = .ok (.putfield 27, 3) := by decide +kernel
theorem dX6_open_5 : decode cX6_open 5 = .ok (.aload_n 0, 1) := by decide +kernel
theorem dX6_open_6 : decode cX6_open 6 = .ok (.getfield 24, 3) := by decide +kernel
theorem dX6_open_9 : decode cX6_open 9 = .ok (.iconst 0, 1) := by decide +kernel
theorem dX6_open_10 : decode cX6_open 10 = .ok (.invokestatic 37, 3) := by decide +kernel
theorem dX6_open_13 : decode cX6_open 13 = .ok (.iconst 0, 1) := by decide +kernel
theorem dX6_open_14 : decode cX6_open 14 = .ok (.istore_n 2, 1) := by decide +kernel
theorem dX6_open_15 : decode cX6_open 15 = .ok (.iload_n 2, 1) := by decide +kernel
theorem dX6_open_16 : decode cX6_open 16 = .ok (.aload_n 1, 1) := by decide +kernel
theorem dX6_open_17 : decode cX6_open 17 = .ok (.getfield 43, 3) := by decide +kernel
theorem dX6_open_20 : decode cX6_open 20 = .ok (.if_icmp .ge 26, 3) := by decide +kernel
theorem dX6_open_23 : decode cX6_open 23 = .ok (.aload_n 0, 1) := by decide +kernel
theorem dX6_open_24 : decode cX6_open 24 = .ok (.getfield 24, 3) := by decide +kernel
theorem dX6_open_27 : decode cX6_open 27 = .ok (.aload_n 1, 1) := by decide +kernel
theorem dX6_open_28 : decode cX6_open 28 = .ok (.getfield 48, 3) := by decide +kernel
theorem dX6_open_31 : decode cX6_open 31 = .ok (.iload_n 2, 1) := by decide +kernel
theorem dX6_open_32 : decode cX6_open 32 = .ok (.iaload, 1) := by decide +kernel
theorem dX6_open_33 : decode cX6_open 33 = .ok (.dup2, 1) := by decide +kernel
theorem dX6_open_34 : decode cX6_open 34 = .ok (.iaload, 1) := by decide +kernel
theorem dX6_open_35 : decode cX6_open 35 = .ok (.iconst 1, 1) := by decide +kernel
theorem dX6_open_36 : decode cX6_open 36 = .ok (.iload_n 2, 1) := by decide +kernel
theorem dX6_open_37 : decode cX6_open 37 = .ok (.ishl, 1) := by decide +kernel
theorem dX6_open_38 : decode cX6_open 38 = .ok (.ior, 1) := by decide +kernel
theorem dX6_open_39 : decode cX6_open 39 = .ok (.iastore, 1) := by decide +kernel
theorem dX6_open_40 : decode cX6_open 40 = .ok (.iinc 2 1, 3) := by decide +kernel
theorem dX6_open_43 : decode cX6_open 43 = .ok (.goto (-28), 3) := by decide +kernel
theorem dX6_open_46 : decode cX6_open 46 = .ok (.iconst 0, 1) := by decide +kernel
theorem dX6_open_47 : decode cX6_open 47 = .ok (.istore_n 2, 1) := by decide +kernel
theorem dX6_open_48 : decode cX6_open 48 = .ok (.iload_n 2, 1) := by decide +kernel
theorem dX6_open_49 : decode cX6_open 49 = .ok (.iconst 4, 1) := by decide +kernel
theorem dX6_open_50 : decode cX6_open 50 = .ok (.if_icmp .ge 47, 3) := by decide +kernel
theorem dX6_open_53 : decode cX6_open 53 = .ok (.aload_n 0, 1) := by decide +kernel
theorem dX6_open_54 : decode cX6_open 54 = .ok (.getfield 9, 3) := by decide +kernel
theorem dX6_open_57 : decode cX6_open 57 = .ok (.iload_n 2, 1) := by decide +kernel
theorem dX6_open_58 : decode cX6_open 58 = .ok (.aload_n 1, 1) := by decide +kernel
theorem dX6_open_59 : decode cX6_open 59 = .ok (.getfield 51, 3) := by decide +kernel
theorem dX6_open_62 : decode cX6_open 62 = .ok (.iload_n 2, 1) := by decide +kernel
theorem dX6_open_63 : decode cX6_open 63 = .ok (.iaload, 1) := by decide +kernel
theorem dX6_open_64 : decode cX6_open 64 = .ok (.iastore, 1) := by decide +kernel
theorem dX6_open_65 : decode cX6_open 65 = .ok (.aload_n 0, 1) := by decide +kernel
theorem dX6_open_66 : decode cX6_open 66 = .ok (.getfield 15, 3) := by decide +kernel
theorem dX6_open_69 : decode cX6_open 69 = .ok (.iload_n 2, 1) := by decide +kernel
theorem dX6_open_70 : decode cX6_open 70 = .ok (.aload_n 1, 1) := by decide +kernel
theorem dX6_open_71 : decode cX6_open 71 = .ok (.getfield 52, 3) := by decide +kernel
theorem dX6_open_74 : decode cX6_open 74 = .ok (.iload_n 2, 1) := by decide +kernel
theorem dX6_open_75 : decode cX6_open 75 = .ok (.iaload, 1) := by decide +kernel
theorem dX6_open_76 : decode cX6_open 76 = .ok (.iastore, 1) := by decide +kernel
theorem dX6_open_77 : decode cX6_open 77 = .ok (.aload_n 0, 1) := by decide +kernel
theorem dX6_open_78 : decode cX6_open 78 = .ok (.getfield 18, 3) := by decide +kernel
theorem dX6_open_81 : decode cX6_open 81 = .ok (.iload_n 2, 1) := by decide +kernel
theorem dX6_open_82 : decode cX6_open 82 = .ok (.iconst 0, 1) := by decide +kernel
theorem dX6_open_83 : decode cX6_open 83 = .ok (.iastore, 1) := by decide +kernel
theorem dX6_open_84 : decode cX6_open 84 = .ok (.aload_n 0, 1) := by decide +kernel
theorem dX6_open_85 : decode cX6_open 85 = .ok (.getfield 21, 3) := by decide +kernel
theorem dX6_open_88 : decode cX6_open 88 = .ok (.iload_n 2, 1) := by decide +kernel
theorem dX6_open_89 : decode cX6_open 89 = .ok (.iconst 0, 1) := by decide +kernel
theorem dX6_open_90 : decode cX6_open 90 = .ok (.iastore, 1) := by decide +kernel
theorem dX6_open_91 : decode cX6_open 91 = .ok (.iinc 2 1, 3) := by decide +kernel
theorem dX6_open_94 : decode cX6_open 94 = .ok (.goto (-46), 3) := by decide +kernel
theorem dX6_open_97 : decode cX6_open 97 = .ok (.aload_n 0, 1) := by decide +kernel
theorem dX6_open_98 : decode cX6_open 98 = .ok (.aload_n 1, 1) := by decide +kernel
theorem dX6_open_99 : decode cX6_open 99 = .ok (.invokevirtual 53, 3) := by decide +kernel
theorem dX6_open_102 : decode cX6_open 102 = .ok (.return_, 1) := by decide +kernel
set_option maxHeartbeats 4000000 in
set_option maxRecDepth 100000 in
theorem c_X6_open (l : Launch) (D : va_G) (cs : Nat → ClassId) (kK kV : Nat → Nat) (a : Nat) (b0 : Nat) (a__hour : Int32) (a_purse : Nat) (a_spot : Nat) (a_seen : Nat) (a_has : Nat) (a_at : Nat) (a_at_c : Nat → Int32) (b0__stalls : Int32) (b0__shift : Int32) (b0__halves : Int32) (b0__buyers : Int32) (b0__near : Int32) (b0__dusk : Int32) (b0__duskPrice : Int32) (b0__hear : Int32) (b0__forged : Int32) (b0_stall : Nat) (b0_shape : Nat) (b0_side : Nat) (b0_price : Nat) (b0_purse : Nat) (b0_spot : Nat) (b0_club : Nat) (b0_fitting : Nat) (b0_nearly : Nat) (b0_stall_c : Nat → Int32) (b0_purse_c : Nat → Int32) (a_purse_c : Nat → Int32) (b0_spot_c : Nat → Int32) (a_spot_c : Nat → Int32) (a_seen_c : Nat → Int32) (a_has_c : Nat → Int32) (h_b0__stalls : IV 0 8 b0__stalls) (h_b0__halves : IV 0 12 b0__halves) (h_b0__buyers : IV 0 4 b0__buyers) (h_b0_stall_c : CI 12 0 7 b0_stall_c) (sz : Nat) : Met l yX6_open (hz_w yX6_open cX6_open 3 none) ({ frames := 3, cells := 0, slots := 0, locals := 66 }) (va_Pc [.ref a, .ref b0] (hz_C D cs kK kV sz [(a, .inr (6, [.int a__hour, .ref a_purse, .ref a_spot, .ref a_seen, .ref a_has, .ref a_at])), (a_at, .inl (cs 0, 8, .inl a_at_c)), (b0, .inr (8, [.int b0__stalls, .int b0__shift, .int b0__halves, .int b0__buyers, .int b0__near, .int b0__dusk, .int b0__duskPrice, .int b0__hear, .int b0__forged, .ref b0_stall, .ref b0_shape, .ref b0_side, .ref b0_price, .ref b0_purse, .ref b0_spot, .ref b0_club, .ref b0_fitting, .ref b0_nearly])), (b0_stall, .inl (cs 0, 12, .inl b0_stall_c)), (b0_purse, .inl (cs 0, 4, .inl b0_purse_c)), (a_purse, .inl (cs 0, 4, .inl a_purse_c)), (b0_spot, .inl (cs 0, 4, .inl b0_spot_c)), (a_spot, .inl (cs 0, 4, .inl a_spot_c)), (a_seen, .inl (cs 0, 4, .inl a_seen_c)), (a_has, .inl (cs 0, 4, .inl a_has_c))])) (va_Qv (fun (_ : Unit) => True) (fun _ t => ∃ (o_a_at_c : Nat → Int32), ∃ (o_a_has_c : Nat → Int32), ∃ (o_a_purse_c : Nat → Int32), ∃ (o_a_seen_c : Nat → Int32), ∃ (o_a_spot_c : Nat → Int32), va_P D classes [(a, .inr (6, [.int 0, .ref a_purse, .ref a_spot, .ref a_seen, .ref a_has, .ref a_at])), (a_at, .inl (cs 0, 8, .inl o_a_at_c)), (b0, .inr (8, [.int b0__stalls, .int b0__shift, .int b0__halves, .int b0__buyers, .int b0__near, .int b0__dusk, .int b0__duskPrice, .int b0__hear, .int b0__forged, .ref b0_stall, .ref b0_shape, .ref b0_side, .ref b0_price, .ref b0_purse, .ref b0_spot, .ref b0_club, .ref b0_fitting, .ref b0_nearly])), (b0_stall, .inl (cs 0, 12, .inl b0_stall_c)), (b0_purse, .inl (cs 0, 4, .inl b0_purse_c)), (a_purse, .inl (cs 0, 4, .inl o_a_purse_c)), (b0_spot, .inl (cs 0, 4, .inl b0_spot_c)), (a_spot, .inl (cs 0, 4, .inl o_a_spot_c)), (a_seen, .inl (cs 0, 4, .inl o_a_seen_c)), (a_has, .inl (cs 0, 4, .inl o_a_has_c))] t.heap ∧ va_D (va_A [(a, .inr (6, [.int a__hour, .ref a_purse, .ref a_spot, .ref a_seen, .ref a_has, .ref a_at])), (a_at, .inl (cs 0, 8, .inl a_at_c)), (b0, .inr (8, [.int b0__stalls, .int b0__shift, .int b0__halves, .int b0__buyers, .int b0__near, .int b0__dusk, .int b0__duskPrice, .int b0__hear, .int b0__forged, .ref b0_stall, .ref b0_shape, .ref b0_side, .ref b0_price, .ref b0_purse, .ref b0_spot, .ref b0_club, .ref b0_fitting, .ref b0_nearly])), (b0_stall, .inl (cs 0, 12, .inl b0_stall_c)), (b0_purse, .inl (cs 0, 4, .inl b0_purse_c)), (a_purse, .inl (cs 0, 4, .inl a_purse_c)), (b0_spot, .inl (cs 0, 4, .inl b0_spot_c)), (a_spot, .inl (cs 0, 4, .inl a_spot_c)), (a_seen, .inl (cs 0, 4, .inl a_seen_c)), (a_has, .inl (cs 0, 4, .inl a_has_c))] sz) [(a, .inr (6, [.int 0, .ref a_purse, .ref a_spot, .ref a_seen, .ref a_has, .ref a_at])), (a_at, .inl (cs 0, 8, .inl o_a_at_c)), (b0, .inr (8, [.int b0__stalls, .int b0__shift, .int b0__halves, .int b0__buyers, .int b0__near, .int b0__dusk, .int b0__duskPrice, .int b0__hear, .int b0__forged, .ref b0_stall, .ref b0_shape, .ref b0_side, .ref b0_price, .ref b0_purse, .ref b0_spot, .ref b0_club, .ref b0_fitting, .ref b0_nearly])), (b0_stall, .inl (cs 0, 12, .inl b0_stall_c)), (b0_purse, .inl (cs 0, 4, .inl b0_purse_c)), (a_purse, .inl (cs 0, 4, .inl o_a_purse_c)), (b0_spot, .inl (cs 0, 4, .inl b0_spot_c)), (a_spot, .inl (cs 0, 4, .inl o_a_spot_c)), (a_seen, .inl (cs 0, 4, .inl o_a_seen_c)), (a_has, .inl (cs 0, 4, .inl o_a_has_c))]) (va_A [(a, .inr (6, [.int a__hour, .ref a_purse, .ref a_spot, .ref a_seen, .ref a_has, .ref a_at])), (a_at, .inl (cs 0, 8, .inl a_at_c)), (b0, .inr (8, [.int b0__stalls, .int b0__shift, .int b0__halves, .int b0__buyers, .int b0__near, .int b0__dusk, .int b0__duskPrice, .int b0__hear, .int b0__forged, .ref b0_stall, .ref b0_shape, .ref b0_side, .ref b0_price, .ref b0_purse, .ref b0_spot, .ref b0_club, .ref b0_fitting, .ref b0_nearly])), (b0_stall, .inl (cs 0, 12, .inl b0_stall_c)), (b0_purse, .inl (cs 0, 4, .inl b0_purse_c)), (a_purse, .inl (cs 0, 4, .inl a_purse_c)), (b0_spot, .inl (cs 0, 4, .inl b0_spot_c)), (a_spot, .inl (cs 0, 4, .inl a_spot_c)), (a_seen, .inl (cs 0, 4, .inl a_seen_c)), (a_has, .inl (cs 0, 4, .inl a_has_c))] sz)) 0 0 (va_A [(a, .inr (6, [.int a__hour, .ref a_purse, .ref a_spot, .ref a_seen, .ref a_has, .ref a_at])), (a_at, .inl (cs 0, 8, .inl a_at_c)), (b0, .inr (8, [.int b0__stalls, .int b0__shift, .int b0__halves, .int b0__buyers, .int b0__near, .int b0__dusk, .int b0__duskPrice, .int b0__hear, .int b0__forged, .ref b0_stall, .ref b0_shape, .ref b0_side, .ref b0_price, .ref b0_purse, .ref b0_spot, .ref b0_club, .ref b0_fitting, .ref b0_nearly])), (b0_stall, .inl (cs 0, 12, .inl b0_stall_c)), (b0_purse, .inl (cs 0, 4, .inl b0_purse_c)), (a_purse, .inl (cs 0, 4, .inl a_purse_c)), (b0_spot, .inl (cs 0, 4, .inl b0_spot_c)), (a_spot, .inl (cs 0, 4, .inl a_spot_c)), (a_seen, .inl (cs 0, 4, .inl a_seen_c)), (a_has, .inl (cs 0, 4, .inl a_has_c))] sz) := by
  refine Met.ofW (cc := cX6_open) (maxL := 3) (ret := none) (by decide) rfl ?_
  intro p e s m args below meth c s₁ B hml hv
  obtain ⟨rfl, hsz, hP, hD0, hE⟩ := hv
  have hx := B.exec
  have hb := B.bytes
  have hr := B.returns
  have hT : ∀ w ∈ TB, w.before _ s = true := fun w h => atoms_spec (ws := hz_w yX6_open cX6_open 3 none) B.pre w (List.mem_cons_of_mem _ h)
  have hown : s.vm.findClass RX6 = some m.cls := findClass_of_methodNamed B.named
  have hlocks := B.notSynchronized
  clear B
  subst hsz
  have hD := hD0.self (sz := s.heap.size)
  generalize hAe : va_A [(a, .inr (6, [.int a__hour, .ref a_purse, .ref a_spot, .ref a_seen, .ref a_has, .ref a_at])), (a_at, .inl (cs 0, 8, .inl a_at_c)), (b0, .inr (8, [.int b0__stalls, .int b0__shift, .int b0__halves, .int b0__buyers, .int b0__near, .int b0__dusk, .int b0__duskPrice, .int b0__hear, .int b0__forged, .ref b0_stall, .ref b0_shape, .ref b0_side, .ref b0_price, .ref b0_purse, .ref b0_spot, .ref b0_club, .ref b0_fitting, .ref b0_nearly])), (b0_stall, .inl (cs 0, 12, .inl b0_stall_c)), (b0_purse, .inl (cs 0, 4, .inl b0_purse_c)), (a_purse, .inl (cs 0, 4, .inl a_purse_c)), (b0_spot, .inl (cs 0, 4, .inl b0_spot_c)), (a_spot, .inl (cs 0, 4, .inl a_spot_c)), (a_seen, .inl (cs 0, 4, .inl a_seen_c)), (a_has, .inl (cs 0, 4, .inl a_has_c))] s.heap.size = A at hD hE ⊢
  have hA : ∀ q : Nat, s.heap.size ≤ q → A q := fun q h => by rw [← hAe]; exact Or.inr h
  clear hAe hD0
  have hS : va_S A s.heap s.heap [] := va_S.rf
  have hK := hE.1
  have hl := lv_entry ([.ref a, .ref b0]) (n := 3) (Nat.le_of_ble_eq_true rfl)
  rw [lg_entry_eq]
  generalize (lg_sl ([.ref a, .ref b0]) ++ List.replicate (3 - (lg_sl ([.ref a, .ref b0])).length) Slot.unset).toArray = ls at hl ⊢
  have hl : lv_has ls 3 [(0, .ref a), (1, .ref b0)] := hl
  obtain ⟨H, eH⟩ : ∃ z, z = s.heap := ⟨_, rfl⟩
  have hP : va_P D classes [(a, .inr (6, [.int a__hour, .ref a_purse, .ref a_spot, .ref a_seen, .ref a_has, .ref a_at])), (a_at, .inl (cs 0, 8, .inl a_at_c)), (b0, .inr (8, [.int b0__stalls, .int b0__shift, .int b0__halves, .int b0__buyers, .int b0__near, .int b0__dusk, .int b0__duskPrice, .int b0__hear, .int b0__forged, .ref b0_stall, .ref b0_shape, .ref b0_side, .ref b0_price, .ref b0_purse, .ref b0_spot, .ref b0_club, .ref b0_fitting, .ref b0_nearly])), (b0_stall, .inl (cs 0, 12, .inl b0_stall_c)), (b0_purse, .inl (cs 0, 4, .inl b0_purse_c)), (a_purse, .inl (cs 0, 4, .inl a_purse_c)), (b0_spot, .inl (cs 0, 4, .inl b0_spot_c)), (a_spot, .inl (cs 0, 4, .inl a_spot_c)), (a_seen, .inl (cs 0, 4, .inl a_seen_c)), (a_has, .inl (cs 0, 4, .inl a_has_c))] H := by rw [eH]; exact hP
  have hS : va_S A s.heap H [] := by rw [eH]; exact hS
  rw [← eH]
  clear eH
  obtain ⟨locs, el⟩ : ∃ z : List Loc, z = [] := ⟨_, rfl⟩
  rw [← el] at hS ⊢
  clear el
  have K48 : ∀ (n : Nat) (k48_L_2 : Int32) (k48_C_a_purse : Nat → Int32) (k48_C_a_spot : Nat → Int32) (k48_C_a_seen : Nat → Int32) (k48_C_a_has : Nat → Int32) (k48_C_a_at : Nat → Int32), (4 - k48_L_2.toInt + 1).toNat ≤ n → IV 0 4 k48_L_2 → ∀ (H : Heap) (locs : List Loc), va_P D classes [(a, .inr (6, [.int 0, .ref a_purse, .ref a_spot, .ref a_seen, .ref a_has, .ref a_at])), (b0, .inr (8, [.int b0__stalls, .int b0__shift, .int b0__halves, .int b0__buyers, .int b0__near, .int b0__dusk, .int b0__duskPrice, .int b0__hear, .int b0__forged, .ref b0_stall, .ref b0_shape, .ref b0_side, .ref b0_price, .ref b0_purse, .ref b0_spot, .ref b0_club, .ref b0_fitting, .ref b0_nearly])), (b0_stall, .inl (cs 0, 12, .inl b0_stall_c)), (b0_purse, .inl (cs 0, 4, .inl b0_purse_c)), (a_purse, .inl (cs 0, 4, .inl k48_C_a_purse)), (b0_spot, .inl (cs 0, 4, .inl b0_spot_c)), (a_spot, .inl (cs 0, 4, .inl k48_C_a_spot)), (a_seen, .inl (cs 0, 4, .inl k48_C_a_seen)), (a_has, .inl (cs 0, 4, .inl k48_C_a_has)), (a_at, .inl (cs 0, 8, .inl k48_C_a_at))] H → va_D A [(a, .inr (6, [.int 0, .ref a_purse, .ref a_spot, .ref a_seen, .ref a_has, .ref a_at])), (b0, .inr (8, [.int b0__stalls, .int b0__shift, .int b0__halves, .int b0__buyers, .int b0__near, .int b0__dusk, .int b0__duskPrice, .int b0__hear, .int b0__forged, .ref b0_stall, .ref b0_shape, .ref b0_side, .ref b0_price, .ref b0_purse, .ref b0_spot, .ref b0_club, .ref b0_fitting, .ref b0_nearly])), (b0_stall, .inl (cs 0, 12, .inl b0_stall_c)), (b0_purse, .inl (cs 0, 4, .inl b0_purse_c)), (a_purse, .inl (cs 0, 4, .inl k48_C_a_purse)), (b0_spot, .inl (cs 0, 4, .inl b0_spot_c)), (a_spot, .inl (cs 0, 4, .inl k48_C_a_spot)), (a_seen, .inl (cs 0, 4, .inl k48_C_a_seen)), (a_has, .inl (cs 0, 4, .inl k48_C_a_has)), (a_at, .inl (cs 0, 8, .inl k48_C_a_at))] → va_S A s.heap H locs → ∀ ls : Array Slot, lv_has ls 3 [(2, .int k48_L_2), (0, .ref a), (1, .ref b0)] → W p l e (headSpec (hz_w yX6_open cX6_open 3 none) ({ frames := 3, cells := 0, slots := 0, locals := 66 })).room s m [.ref a, .ref b0].toArray below meth c H locs 0 0 (MQ below (va_Qv (fun (_ : Unit) => True) (fun _ t => ∃ (o_a_at_c : Nat → Int32), ∃ (o_a_has_c : Nat → Int32), ∃ (o_a_purse_c : Nat → Int32), ∃ (o_a_seen_c : Nat → Int32), ∃ (o_a_spot_c : Nat → Int32), va_P D classes [(a, .inr (6, [.int 0, .ref a_purse, .ref a_spot, .ref a_seen, .ref a_has, .ref a_at])), (a_at, .inl (cs 0, 8, .inl o_a_at_c)), (b0, .inr (8, [.int b0__stalls, .int b0__shift, .int b0__halves, .int b0__buyers, .int b0__near, .int b0__dusk, .int b0__duskPrice, .int b0__hear, .int b0__forged, .ref b0_stall, .ref b0_shape, .ref b0_side, .ref b0_price, .ref b0_purse, .ref b0_spot, .ref b0_club, .ref b0_fitting, .ref b0_nearly])), (b0_stall, .inl (cs 0, 12, .inl b0_stall_c)), (b0_purse, .inl (cs 0, 4, .inl b0_purse_c)), (a_purse, .inl (cs 0, 4, .inl o_a_purse_c)), (b0_spot, .inl (cs 0, 4, .inl b0_spot_c)), (a_spot, .inl (cs 0, 4, .inl o_a_spot_c)), (a_seen, .inl (cs 0, 4, .inl o_a_seen_c)), (a_has, .inl (cs 0, 4, .inl o_a_has_c))] t.heap ∧ va_D A [(a, .inr (6, [.int 0, .ref a_purse, .ref a_spot, .ref a_seen, .ref a_has, .ref a_at])), (a_at, .inl (cs 0, 8, .inl o_a_at_c)), (b0, .inr (8, [.int b0__stalls, .int b0__shift, .int b0__halves, .int b0__buyers, .int b0__near, .int b0__dusk, .int b0__duskPrice, .int b0__hear, .int b0__forged, .ref b0_stall, .ref b0_shape, .ref b0_side, .ref b0_price, .ref b0_purse, .ref b0_spot, .ref b0_club, .ref b0_fitting, .ref b0_nearly])), (b0_stall, .inl (cs 0, 12, .inl b0_stall_c)), (b0_purse, .inl (cs 0, 4, .inl b0_purse_c)), (a_purse, .inl (cs 0, 4, .inl o_a_purse_c)), (b0_spot, .inl (cs 0, 4, .inl b0_spot_c)), (a_spot, .inl (cs 0, 4, .inl o_a_spot_c)), (a_seen, .inl (cs 0, 4, .inl o_a_seen_c)), (a_has, .inl (cs 0, 4, .inl o_a_has_c))]) A) [.ref a, .ref b0].toArray s 0 0 A) (F0 m 48 ls []) := by
    intro n
    induction n with
    | zero =>
      intro k48_L_2 k48_C_a_purse k48_C_a_spot k48_C_a_seen k48_C_a_has k48_C_a_at hn q48_3 H locs hP hD hS ls hl
      exact absurd hn (by unfold IV at q48_3; omega)
    | succ n ih48 =>
      intro k48_L_2 k48_C_a_purse k48_C_a_spot k48_C_a_seen k48_C_a_has k48_C_a_at hn q48_3 H locs hP hD hS ls hl
      refine lv_iload_n hx hb dX6_open_48 rfl (lv_at hl 0 rfl) ?_
      refine lv_iconst (v := 4) hx hb dX6_open_49 (by decide) ?_
      refine lv_icmp_ge (tgt := 97) hx hb dX6_open_50 (by decide) (fun c1 => ?_) (fun c1 => ?_)
      · have h2 : IV 4 4 k48_L_2 := iv_le2 c1 (iv_c (a := 4) (b := 4) (by decide)) q48_3 (by decide)
        refine lv_aload_n hx hb dX6_open_97 rfl (lv_at hl 1 rfl) ?_
        refine lv_aload_n hx hb dX6_open_98 rfl (lv_at hl 2 rfl) ?_
        have hFc := va_free (wc := [(b0, .inr (8, [.int b0__stalls, .int b0__shift, .int b0__halves, .int b0__buyers, .int b0__near, .int b0__dusk, .int b0__duskPrice, .int b0__hear, .int b0__forged, .ref b0_stall, .ref b0_shape, .ref b0_side, .ref b0_price, .ref b0_purse, .ref b0_spot, .ref b0_club, .ref b0_fitting, .ref b0_nearly])), (a, .inr (6, [.int 0, .ref a_purse, .ref a_spot, .ref a_seen, .ref a_has, .ref a_at])), (a_seen, .inl (cs 0, 4, .inl k48_C_a_seen)), (a_spot, .inl (cs 0, 4, .inl k48_C_a_spot)), (a_at, .inl (cs 0, 8, .inl k48_C_a_at))]) hD hS hA [1,0,7,6,9] rfl
        refine va_callv (va_runV (As := [.ref b0]) (rest := []) ⟨hx, hb, hml, hown, hT⟩ (c_X6_look l D cs kK kV a b0 b0__stalls b0__shift b0__halves b0__buyers b0__near b0__dusk b0__duskPrice b0__hear b0__forged b0_stall b0_shape b0_side b0_price b0_purse b0_spot b0_club b0_fitting b0_nearly 0 a_purse a_spot a_seen a_has a_at k48_C_a_seen k48_C_a_spot k48_C_a_at h_b0__stalls h_b0__buyers H.size) (cwV 1 hT (hz_gV q_616 q_617 q_618 q_231 q_619) rfl rfl rfl (by decide +kernel) ⟨(Nat.le_of_ble_eq_true rfl), (Nat.le_of_ble_eq_true rfl)⟩) ⟨hz_C.blind, va_recv hK hP (ci := 6) (q0 := 0) rfl rfl, hz_C.mk (hP.sub (ws' := [(b0, .inr (8, [.int b0__stalls, .int b0__shift, .int b0__halves, .int b0__buyers, .int b0__near, .int b0__dusk, .int b0__duskPrice, .int b0__hear, .int b0__forged, .ref b0_stall, .ref b0_shape, .ref b0_side, .ref b0_price, .ref b0_purse, .ref b0_spot, .ref b0_club, .ref b0_fitting, .ref b0_nearly])), (a, .inr (6, [.int 0, .ref a_purse, .ref a_spot, .ref a_seen, .ref a_has, .ref a_at])), (a_seen, .inl (cs 0, 4, .inl k48_C_a_seen)), (a_spot, .inl (cs 0, 4, .inl k48_C_a_spot)), (a_at, .inl (cs 0, 8, .inl k48_C_a_at))]) [1,0,7,6,9] rfl) (hD.sub (ws' := [(b0, .inr (8, [.int b0__stalls, .int b0__shift, .int b0__halves, .int b0__buyers, .int b0__near, .int b0__dusk, .int b0__duskPrice, .int b0__hear, .int b0__forged, .ref b0_stall, .ref b0_shape, .ref b0_side, .ref b0_price, .ref b0_purse, .ref b0_spot, .ref b0_club, .ref b0_fitting, .ref b0_nearly])), (a, .inr (6, [.int 0, .ref a_purse, .ref a_spot, .ref a_seen, .ref a_has, .ref a_at])), (a_seen, .inl (cs 0, 4, .inl k48_C_a_seen)), (a_spot, .inl (cs 0, 4, .inl k48_C_a_spot)), (a_at, .inl (cs 0, 8, .inl k48_C_a_at))]) [1,0,7,6,9] (by decide) rfl) hE hS hFc⟩ rfl rfl hl.1 rfl (lv_room (Nat.le_of_ble_eq_true rfl)) dX6_open_99 ⟨(Nat.le_of_ble_eq_true rfl), (Nat.le_of_ble_eq_true rfl)⟩) hS (fun q _ h => hFc q h) hFc (fun u t H1 locs ht hvm hw hB hz1 hk1 hS => ?_)
        obtain ⟨o4, hP1, hD1⟩ := hB
        rw [ht] at hP1
        obtain ⟨hP, hD⟩ := va_join (wr := [(b0_stall, .inl (cs 0, 12, .inl b0_stall_c)), (b0_purse, .inl (cs 0, 4, .inl b0_purse_c)), (a_purse, .inl (cs 0, 4, .inl k48_C_a_purse)), (b0_spot, .inl (cs 0, 4, .inl b0_spot_c)), (a_has, .inl (cs 0, 4, .inl k48_C_a_has))]) (w1 := [(b0, .inr (8, [.int b0__stalls, .int b0__shift, .int b0__halves, .int b0__buyers, .int b0__near, .int b0__dusk, .int b0__duskPrice, .int b0__hear, .int b0__forged, .ref b0_stall, .ref b0_shape, .ref b0_side, .ref b0_price, .ref b0_purse, .ref b0_spot, .ref b0_club, .ref b0_fitting, .ref b0_nearly])), (a, .inr (6, [.int 0, .ref a_purse, .ref a_spot, .ref a_seen, .ref a_has, .ref a_at])), (a_seen, .inl (cs 0, 4, .inl o4)), (a_spot, .inl (cs 0, 4, .inl k48_C_a_spot)), (a_at, .inl (cs 0, 8, .inl k48_C_a_at))]) hP hD [1, 0, 7, 6, 9] [2, 3, 4, 5, 8] rfl rfl (by decide) (by decide) hk1 hFc hP1 hD1
        generalize H1 = H at hP hS ⊢
        have hP : va_P D classes [(b0_stall, .inl (cs 0, 12, .inl b0_stall_c)), (b0_purse, .inl (cs 0, 4, .inl b0_purse_c)), (a_purse, .inl (cs 0, 4, .inl k48_C_a_purse)), (b0_spot, .inl (cs 0, 4, .inl b0_spot_c)), (a_has, .inl (cs 0, 4, .inl k48_C_a_has)), (b0, .inr (8, [.int b0__stalls, .int b0__shift, .int b0__halves, .int b0__buyers, .int b0__near, .int b0__dusk, .int b0__duskPrice, .int b0__hear, .int b0__forged, .ref b0_stall, .ref b0_shape, .ref b0_side, .ref b0_price, .ref b0_purse, .ref b0_spot, .ref b0_club, .ref b0_fitting, .ref b0_nearly])), (a, .inr (6, [.int 0, .ref a_purse, .ref a_spot, .ref a_seen, .ref a_has, .ref a_at])), (a_seen, .inl (cs 0, 4, .inl o4)), (a_spot, .inl (cs 0, 4, .inl k48_C_a_spot)), (a_at, .inl (cs 0, 8, .inl k48_C_a_at))] H := hP
        have hD : va_D A [(b0_stall, .inl (cs 0, 12, .inl b0_stall_c)), (b0_purse, .inl (cs 0, 4, .inl b0_purse_c)), (a_purse, .inl (cs 0, 4, .inl k48_C_a_purse)), (b0_spot, .inl (cs 0, 4, .inl b0_spot_c)), (a_has, .inl (cs 0, 4, .inl k48_C_a_has)), (b0, .inr (8, [.int b0__stalls, .int b0__shift, .int b0__halves, .int b0__buyers, .int b0__near, .int b0__dusk, .int b0__duskPrice, .int b0__hear, .int b0__forged, .ref b0_stall, .ref b0_shape, .ref b0_side, .ref b0_price, .ref b0_purse, .ref b0_spot, .ref b0_club, .ref b0_fitting, .ref b0_nearly])), (a, .inr (6, [.int 0, .ref a_purse, .ref a_spot, .ref a_seen, .ref a_has, .ref a_at])), (a_seen, .inl (cs 0, 4, .inl o4)), (a_spot, .inl (cs 0, 4, .inl k48_C_a_spot)), (a_at, .inl (cs 0, 8, .inl k48_C_a_at))] := hD
        clear hk1 hFc hP1 hD1 hz1
        refine W.widen (k := 0) (n := 0) (Nat.le_of_ble_eq_true rfl) (Nat.le_of_ble_eq_true rfl) ?_
        exact W.vret hx hb hr (fun t ht hW => ⟨⟨(), rfl, trivial, k48_C_a_at, k48_C_a_has, k48_C_a_purse, o4, k48_C_a_spot, by rw [ht]; exact hP.sub [6, 9, 5, 0, 1, 2, 3, 8, 7, 4] rfl, hD.sub [6, 9, 5, 0, 1, 2, 3, 8, 7, 4] (by decide) rfl⟩, hS.F ht⟩) hS.2.2 dX6_open_102
      · have h5 : IV 0 3 k48_L_2 := iv_lt1 (Int32.not_le.mp c1) q48_3 (iv_c (a := 4) (b := 4) (by decide)) (by decide)
        refine lv_aload_n hx hb dX6_open_53 rfl (lv_at hl 1 rfl) ?_
        refine va_get (D := D) (ci := 6) (v := .ref a_purse) (C := RX6) (T := TX6) (N := 6) hx hb hT i_X6 hown hK hP 0 rfl rfl 1 (by decide) (hT _ q_114) (fun _ h9 => h9) rfl dX6_open_54 ?_
        refine lv_iload_n hx hb dX6_open_57 rfl (lv_at hl 0 rfl) ?_
        refine lv_aload_n hx hb dX6_open_58 rfl (lv_at hl 2 rfl) ?_
        refine va_get (D := D) (ci := 8) (v := .ref b0_purse) (C := RX8) (T := TX8) (N := 18) hx hb hT i_X8 hown hK hP 1 rfl rfl 13 (by decide) (hT _ q_122) (fun _ h9 => h9) rfl dX6_open_59 ?_
        refine lv_iload_n hx hb dX6_open_62 rfl (lv_at hl 0 rfl) ?_
        refine va_iald hx hb hK hP 3 0 rfl rfl (iv_v h5 (by decide) (by decide)) dX6_open_63 ?_
        refine lv_topi (fun v6 ev6 => ?_)
        refine va_iast hx hb hK hP hD hS 4 0 rfl rfl (iv_v h5 (by decide) (by decide)) dX6_open_64 (fun H locs hP hD hS => ?_)
        have hP : va_P D classes [(a, .inr (6, [.int 0, .ref a_purse, .ref a_spot, .ref a_seen, .ref a_has, .ref a_at])), (b0, .inr (8, [.int b0__stalls, .int b0__shift, .int b0__halves, .int b0__buyers, .int b0__near, .int b0__dusk, .int b0__duskPrice, .int b0__hear, .int b0__forged, .ref b0_stall, .ref b0_shape, .ref b0_side, .ref b0_price, .ref b0_purse, .ref b0_spot, .ref b0_club, .ref b0_fitting, .ref b0_nearly])), (b0_stall, .inl (cs 0, 12, .inl b0_stall_c)), (b0_purse, .inl (cs 0, 4, .inl b0_purse_c)), (a_purse, .inl (cs 0, 4, .inl (upd k48_C_a_purse (Int32.toNatClampNeg k48_L_2) v6))), (b0_spot, .inl (cs 0, 4, .inl b0_spot_c)), (a_spot, .inl (cs 0, 4, .inl k48_C_a_spot)), (a_seen, .inl (cs 0, 4, .inl k48_C_a_seen)), (a_has, .inl (cs 0, 4, .inl k48_C_a_has)), (a_at, .inl (cs 0, 8, .inl k48_C_a_at))] H := hP
        have hD : va_D A [(a, .inr (6, [.int 0, .ref a_purse, .ref a_spot, .ref a_seen, .ref a_has, .ref a_at])), (b0, .inr (8, [.int b0__stalls, .int b0__shift, .int b0__halves, .int b0__buyers, .int b0__near, .int b0__dusk, .int b0__duskPrice, .int b0__hear, .int b0__forged, .ref b0_stall, .ref b0_shape, .ref b0_side, .ref b0_price, .ref b0_purse, .ref b0_spot, .ref b0_club, .ref b0_fitting, .ref b0_nearly])), (b0_stall, .inl (cs 0, 12, .inl b0_stall_c)), (b0_purse, .inl (cs 0, 4, .inl b0_purse_c)), (a_purse, .inl (cs 0, 4, .inl (upd k48_C_a_purse (Int32.toNatClampNeg k48_L_2) v6))), (b0_spot, .inl (cs 0, 4, .inl b0_spot_c)), (a_spot, .inl (cs 0, 4, .inl k48_C_a_spot)), (a_seen, .inl (cs 0, 4, .inl k48_C_a_seen)), (a_has, .inl (cs 0, 4, .inl k48_C_a_has)), (a_at, .inl (cs 0, 8, .inl k48_C_a_at))] := hD
        generalize upd k48_C_a_purse (Int32.toNatClampNeg k48_L_2) v6 = f7 at hP hD
        refine lv_aload_n hx hb dX6_open_65 rfl (lv_at hl 1 rfl) ?_
        refine va_get (D := D) (ci := 6) (v := .ref a_spot) (C := RX6) (T := TX6) (N := 6) hx hb hT i_X6 hown hK hP 0 rfl rfl 2 (by decide) (hT _ q_115) (fun _ h9 => h9) rfl dX6_open_66 ?_
        refine lv_iload_n hx hb dX6_open_69 rfl (lv_at hl 0 rfl) ?_
        refine lv_aload_n hx hb dX6_open_70 rfl (lv_at hl 2 rfl) ?_
        refine va_get (D := D) (ci := 8) (v := .ref b0_spot) (C := RX8) (T := TX8) (N := 18) hx hb hT i_X8 hown hK hP 1 rfl rfl 14 (by decide) (hT _ q_123) (fun _ h9 => h9) rfl dX6_open_71 ?_
        refine lv_iload_n hx hb dX6_open_74 rfl (lv_at hl 0 rfl) ?_
        refine va_iald hx hb hK hP 5 0 rfl rfl (iv_v h5 (by decide) (by decide)) dX6_open_75 ?_
        refine lv_topi (fun v8 ev8 => ?_)
        refine va_iast hx hb hK hP hD hS 6 0 rfl rfl (iv_v h5 (by decide) (by decide)) dX6_open_76 (fun H locs hP hD hS => ?_)
        have hP : va_P D classes [(a, .inr (6, [.int 0, .ref a_purse, .ref a_spot, .ref a_seen, .ref a_has, .ref a_at])), (b0, .inr (8, [.int b0__stalls, .int b0__shift, .int b0__halves, .int b0__buyers, .int b0__near, .int b0__dusk, .int b0__duskPrice, .int b0__hear, .int b0__forged, .ref b0_stall, .ref b0_shape, .ref b0_side, .ref b0_price, .ref b0_purse, .ref b0_spot, .ref b0_club, .ref b0_fitting, .ref b0_nearly])), (b0_stall, .inl (cs 0, 12, .inl b0_stall_c)), (b0_purse, .inl (cs 0, 4, .inl b0_purse_c)), (a_purse, .inl (cs 0, 4, .inl f7)), (b0_spot, .inl (cs 0, 4, .inl b0_spot_c)), (a_spot, .inl (cs 0, 4, .inl (upd k48_C_a_spot (Int32.toNatClampNeg k48_L_2) v8))), (a_seen, .inl (cs 0, 4, .inl k48_C_a_seen)), (a_has, .inl (cs 0, 4, .inl k48_C_a_has)), (a_at, .inl (cs 0, 8, .inl k48_C_a_at))] H := hP
        have hD : va_D A [(a, .inr (6, [.int 0, .ref a_purse, .ref a_spot, .ref a_seen, .ref a_has, .ref a_at])), (b0, .inr (8, [.int b0__stalls, .int b0__shift, .int b0__halves, .int b0__buyers, .int b0__near, .int b0__dusk, .int b0__duskPrice, .int b0__hear, .int b0__forged, .ref b0_stall, .ref b0_shape, .ref b0_side, .ref b0_price, .ref b0_purse, .ref b0_spot, .ref b0_club, .ref b0_fitting, .ref b0_nearly])), (b0_stall, .inl (cs 0, 12, .inl b0_stall_c)), (b0_purse, .inl (cs 0, 4, .inl b0_purse_c)), (a_purse, .inl (cs 0, 4, .inl f7)), (b0_spot, .inl (cs 0, 4, .inl b0_spot_c)), (a_spot, .inl (cs 0, 4, .inl (upd k48_C_a_spot (Int32.toNatClampNeg k48_L_2) v8))), (a_seen, .inl (cs 0, 4, .inl k48_C_a_seen)), (a_has, .inl (cs 0, 4, .inl k48_C_a_has)), (a_at, .inl (cs 0, 8, .inl k48_C_a_at))] := hD
        generalize upd k48_C_a_spot (Int32.toNatClampNeg k48_L_2) v8 = f9 at hP hD
        refine lv_aload_n hx hb dX6_open_77 rfl (lv_at hl 1 rfl) ?_
        refine va_get (D := D) (ci := 6) (v := .ref a_seen) (C := RX6) (T := TX6) (N := 6) hx hb hT i_X6 hown hK hP 0 rfl rfl 3 (by decide) (hT _ q_116) (fun _ h9 => h9) rfl dX6_open_78 ?_
        refine lv_iload_n hx hb dX6_open_81 rfl (lv_at hl 0 rfl) ?_
        refine lv_iconst (v := 0) hx hb dX6_open_82 (by decide) ?_
        refine va_iast hx hb hK hP hD hS 7 0 rfl rfl (iv_v h5 (by decide) (by decide)) dX6_open_83 (fun H locs hP hD hS => ?_)
        have hP : va_P D classes [(a, .inr (6, [.int 0, .ref a_purse, .ref a_spot, .ref a_seen, .ref a_has, .ref a_at])), (b0, .inr (8, [.int b0__stalls, .int b0__shift, .int b0__halves, .int b0__buyers, .int b0__near, .int b0__dusk, .int b0__duskPrice, .int b0__hear, .int b0__forged, .ref b0_stall, .ref b0_shape, .ref b0_side, .ref b0_price, .ref b0_purse, .ref b0_spot, .ref b0_club, .ref b0_fitting, .ref b0_nearly])), (b0_stall, .inl (cs 0, 12, .inl b0_stall_c)), (b0_purse, .inl (cs 0, 4, .inl b0_purse_c)), (a_purse, .inl (cs 0, 4, .inl f7)), (b0_spot, .inl (cs 0, 4, .inl b0_spot_c)), (a_spot, .inl (cs 0, 4, .inl f9)), (a_seen, .inl (cs 0, 4, .inl (upd k48_C_a_seen (Int32.toNatClampNeg k48_L_2) (0 : Int32)))), (a_has, .inl (cs 0, 4, .inl k48_C_a_has)), (a_at, .inl (cs 0, 8, .inl k48_C_a_at))] H := hP
        have hD : va_D A [(a, .inr (6, [.int 0, .ref a_purse, .ref a_spot, .ref a_seen, .ref a_has, .ref a_at])), (b0, .inr (8, [.int b0__stalls, .int b0__shift, .int b0__halves, .int b0__buyers, .int b0__near, .int b0__dusk, .int b0__duskPrice, .int b0__hear, .int b0__forged, .ref b0_stall, .ref b0_shape, .ref b0_side, .ref b0_price, .ref b0_purse, .ref b0_spot, .ref b0_club, .ref b0_fitting, .ref b0_nearly])), (b0_stall, .inl (cs 0, 12, .inl b0_stall_c)), (b0_purse, .inl (cs 0, 4, .inl b0_purse_c)), (a_purse, .inl (cs 0, 4, .inl f7)), (b0_spot, .inl (cs 0, 4, .inl b0_spot_c)), (a_spot, .inl (cs 0, 4, .inl f9)), (a_seen, .inl (cs 0, 4, .inl (upd k48_C_a_seen (Int32.toNatClampNeg k48_L_2) (0 : Int32)))), (a_has, .inl (cs 0, 4, .inl k48_C_a_has)), (a_at, .inl (cs 0, 8, .inl k48_C_a_at))] := hD
        generalize upd k48_C_a_seen (Int32.toNatClampNeg k48_L_2) (0 : Int32) = f10 at hP hD
        refine lv_aload_n hx hb dX6_open_84 rfl (lv_at hl 1 rfl) ?_
        refine va_get (D := D) (ci := 6) (v := .ref a_has) (C := RX6) (T := TX6) (N := 6) hx hb hT i_X6 hown hK hP 0 rfl rfl 4 (by decide) (hT _ q_117) (fun _ h9 => h9) rfl dX6_open_85 ?_
        refine lv_iload_n hx hb dX6_open_88 rfl (lv_at hl 0 rfl) ?_
        refine lv_iconst (v := 0) hx hb dX6_open_89 (by decide) ?_
        refine va_iast hx hb hK hP hD hS 8 0 rfl rfl (iv_v h5 (by decide) (by decide)) dX6_open_90 (fun H locs hP hD hS => ?_)
        have hP : va_P D classes [(a, .inr (6, [.int 0, .ref a_purse, .ref a_spot, .ref a_seen, .ref a_has, .ref a_at])), (b0, .inr (8, [.int b0__stalls, .int b0__shift, .int b0__halves, .int b0__buyers, .int b0__near, .int b0__dusk, .int b0__duskPrice, .int b0__hear, .int b0__forged, .ref b0_stall, .ref b0_shape, .ref b0_side, .ref b0_price, .ref b0_purse, .ref b0_spot, .ref b0_club, .ref b0_fitting, .ref b0_nearly])), (b0_stall, .inl (cs 0, 12, .inl b0_stall_c)), (b0_purse, .inl (cs 0, 4, .inl b0_purse_c)), (a_purse, .inl (cs 0, 4, .inl f7)), (b0_spot, .inl (cs 0, 4, .inl b0_spot_c)), (a_spot, .inl (cs 0, 4, .inl f9)), (a_seen, .inl (cs 0, 4, .inl f10)), (a_has, .inl (cs 0, 4, .inl (upd k48_C_a_has (Int32.toNatClampNeg k48_L_2) (0 : Int32)))), (a_at, .inl (cs 0, 8, .inl k48_C_a_at))] H := hP
        have hD : va_D A [(a, .inr (6, [.int 0, .ref a_purse, .ref a_spot, .ref a_seen, .ref a_has, .ref a_at])), (b0, .inr (8, [.int b0__stalls, .int b0__shift, .int b0__halves, .int b0__buyers, .int b0__near, .int b0__dusk, .int b0__duskPrice, .int b0__hear, .int b0__forged, .ref b0_stall, .ref b0_shape, .ref b0_side, .ref b0_price, .ref b0_purse, .ref b0_spot, .ref b0_club, .ref b0_fitting, .ref b0_nearly])), (b0_stall, .inl (cs 0, 12, .inl b0_stall_c)), (b0_purse, .inl (cs 0, 4, .inl b0_purse_c)), (a_purse, .inl (cs 0, 4, .inl f7)), (b0_spot, .inl (cs 0, 4, .inl b0_spot_c)), (a_spot, .inl (cs 0, 4, .inl f9)), (a_seen, .inl (cs 0, 4, .inl f10)), (a_has, .inl (cs 0, 4, .inl (upd k48_C_a_has (Int32.toNatClampNeg k48_L_2) (0 : Int32)))), (a_at, .inl (cs 0, 8, .inl k48_C_a_at))] := hD
        generalize upd k48_C_a_has (Int32.toNatClampNeg k48_L_2) (0 : Int32) = f11 at hP hD
        obtain ⟨v12, ev12⟩ : ∃ z : Int32, z = k48_L_2 + 1 := ⟨_, rfl⟩
        have hv12 : IV 1 4 v12 := iv_add ev12 h5 (iv_c (a := 1) (b := 1) (by decide)) (by decide) (by decide)
        have dv12 : v12.toInt = k48_L_2.toInt + 1 := iv_addE ev12 h5 (iv_c (a := 1) (b := 1) (by decide)) (by decide) (by decide) (by decide)
        refine lv_iinc (v := v12) (lv' := [(2, .int v12), (0, .ref a), (1, .ref b0)]) hx hb dX6_open_91 hl (k := 0) rfl (by rw [ev12]; rfl) (by decide) rfl (fun ls hl => ?_)
        refine lv_goto (tgt := 48) hx hb dX6_open_94 (by decide) ?_
        exact ih48 v12 f7 f9 f10 f11 k48_C_a_at (by have h9 := h5; unfold IV at h9; have := dv12; omega) (iv_w hv12 (by decide) (by decide)) H locs (hP.sub (ws' := [(a, .inr (6, [.int 0, .ref a_purse, .ref a_spot, .ref a_seen, .ref a_has, .ref a_at])), (b0, .inr (8, [.int b0__stalls, .int b0__shift, .int b0__halves, .int b0__buyers, .int b0__near, .int b0__dusk, .int b0__duskPrice, .int b0__hear, .int b0__forged, .ref b0_stall, .ref b0_shape, .ref b0_side, .ref b0_price, .ref b0_purse, .ref b0_spot, .ref b0_club, .ref b0_fitting, .ref b0_nearly])), (b0_stall, .inl (cs 0, 12, .inl b0_stall_c)), (b0_purse, .inl (cs 0, 4, .inl b0_purse_c)), (a_purse, .inl (cs 0, 4, .inl f7)), (b0_spot, .inl (cs 0, 4, .inl b0_spot_c)), (a_spot, .inl (cs 0, 4, .inl f9)), (a_seen, .inl (cs 0, 4, .inl f10)), (a_has, .inl (cs 0, 4, .inl f11)), (a_at, .inl (cs 0, 8, .inl k48_C_a_at))]) [0, 1, 2, 3, 4, 5, 6, 7, 8, 9] rfl) (hD.sub (ws' := [(a, .inr (6, [.int 0, .ref a_purse, .ref a_spot, .ref a_seen, .ref a_has, .ref a_at])), (b0, .inr (8, [.int b0__stalls, .int b0__shift, .int b0__halves, .int b0__buyers, .int b0__near, .int b0__dusk, .int b0__duskPrice, .int b0__hear, .int b0__forged, .ref b0_stall, .ref b0_shape, .ref b0_side, .ref b0_price, .ref b0_purse, .ref b0_spot, .ref b0_club, .ref b0_fitting, .ref b0_nearly])), (b0_stall, .inl (cs 0, 12, .inl b0_stall_c)), (b0_purse, .inl (cs 0, 4, .inl b0_purse_c)), (a_purse, .inl (cs 0, 4, .inl f7)), (b0_spot, .inl (cs 0, 4, .inl b0_spot_c)), (a_spot, .inl (cs 0, 4, .inl f9)), (a_seen, .inl (cs 0, 4, .inl f10)), (a_has, .inl (cs 0, 4, .inl f11)), (a_at, .inl (cs 0, 8, .inl k48_C_a_at))]) [0, 1, 2, 3, 4, 5, 6, 7, 8, 9] (by decide) rfl) hS ls (lv_sub hl [0, 1, 2] rfl)
  have K15 : ∀ (n : Nat) (k15_L_2 : Int32) (k15_C_a_at : Nat → Int32), (12 - k15_L_2.toInt + 1).toNat ≤ n → IV 0 12 k15_L_2 → ∀ (H : Heap) (locs : List Loc), va_P D classes [(a, .inr (6, [.int 0, .ref a_purse, .ref a_spot, .ref a_seen, .ref a_has, .ref a_at])), (b0, .inr (8, [.int b0__stalls, .int b0__shift, .int b0__halves, .int b0__buyers, .int b0__near, .int b0__dusk, .int b0__duskPrice, .int b0__hear, .int b0__forged, .ref b0_stall, .ref b0_shape, .ref b0_side, .ref b0_price, .ref b0_purse, .ref b0_spot, .ref b0_club, .ref b0_fitting, .ref b0_nearly])), (b0_stall, .inl (cs 0, 12, .inl b0_stall_c)), (b0_purse, .inl (cs 0, 4, .inl b0_purse_c)), (a_purse, .inl (cs 0, 4, .inl a_purse_c)), (b0_spot, .inl (cs 0, 4, .inl b0_spot_c)), (a_spot, .inl (cs 0, 4, .inl a_spot_c)), (a_seen, .inl (cs 0, 4, .inl a_seen_c)), (a_has, .inl (cs 0, 4, .inl a_has_c)), (a_at, .inl (cs 0, 8, .inl k15_C_a_at))] H → va_D A [(a, .inr (6, [.int 0, .ref a_purse, .ref a_spot, .ref a_seen, .ref a_has, .ref a_at])), (b0, .inr (8, [.int b0__stalls, .int b0__shift, .int b0__halves, .int b0__buyers, .int b0__near, .int b0__dusk, .int b0__duskPrice, .int b0__hear, .int b0__forged, .ref b0_stall, .ref b0_shape, .ref b0_side, .ref b0_price, .ref b0_purse, .ref b0_spot, .ref b0_club, .ref b0_fitting, .ref b0_nearly])), (b0_stall, .inl (cs 0, 12, .inl b0_stall_c)), (b0_purse, .inl (cs 0, 4, .inl b0_purse_c)), (a_purse, .inl (cs 0, 4, .inl a_purse_c)), (b0_spot, .inl (cs 0, 4, .inl b0_spot_c)), (a_spot, .inl (cs 0, 4, .inl a_spot_c)), (a_seen, .inl (cs 0, 4, .inl a_seen_c)), (a_has, .inl (cs 0, 4, .inl a_has_c)), (a_at, .inl (cs 0, 8, .inl k15_C_a_at))] → va_S A s.heap H locs → ∀ ls : Array Slot, lv_has ls 3 [(2, .int k15_L_2), (0, .ref a), (1, .ref b0)] → W p l e (headSpec (hz_w yX6_open cX6_open 3 none) ({ frames := 3, cells := 0, slots := 0, locals := 66 })).room s m [.ref a, .ref b0].toArray below meth c H locs 0 0 (MQ below (va_Qv (fun (_ : Unit) => True) (fun _ t => ∃ (o_a_at_c : Nat → Int32), ∃ (o_a_has_c : Nat → Int32), ∃ (o_a_purse_c : Nat → Int32), ∃ (o_a_seen_c : Nat → Int32), ∃ (o_a_spot_c : Nat → Int32), va_P D classes [(a, .inr (6, [.int 0, .ref a_purse, .ref a_spot, .ref a_seen, .ref a_has, .ref a_at])), (a_at, .inl (cs 0, 8, .inl o_a_at_c)), (b0, .inr (8, [.int b0__stalls, .int b0__shift, .int b0__halves, .int b0__buyers, .int b0__near, .int b0__dusk, .int b0__duskPrice, .int b0__hear, .int b0__forged, .ref b0_stall, .ref b0_shape, .ref b0_side, .ref b0_price, .ref b0_purse, .ref b0_spot, .ref b0_club, .ref b0_fitting, .ref b0_nearly])), (b0_stall, .inl (cs 0, 12, .inl b0_stall_c)), (b0_purse, .inl (cs 0, 4, .inl b0_purse_c)), (a_purse, .inl (cs 0, 4, .inl o_a_purse_c)), (b0_spot, .inl (cs 0, 4, .inl b0_spot_c)), (a_spot, .inl (cs 0, 4, .inl o_a_spot_c)), (a_seen, .inl (cs 0, 4, .inl o_a_seen_c)), (a_has, .inl (cs 0, 4, .inl o_a_has_c))] t.heap ∧ va_D A [(a, .inr (6, [.int 0, .ref a_purse, .ref a_spot, .ref a_seen, .ref a_has, .ref a_at])), (a_at, .inl (cs 0, 8, .inl o_a_at_c)), (b0, .inr (8, [.int b0__stalls, .int b0__shift, .int b0__halves, .int b0__buyers, .int b0__near, .int b0__dusk, .int b0__duskPrice, .int b0__hear, .int b0__forged, .ref b0_stall, .ref b0_shape, .ref b0_side, .ref b0_price, .ref b0_purse, .ref b0_spot, .ref b0_club, .ref b0_fitting, .ref b0_nearly])), (b0_stall, .inl (cs 0, 12, .inl b0_stall_c)), (b0_purse, .inl (cs 0, 4, .inl b0_purse_c)), (a_purse, .inl (cs 0, 4, .inl o_a_purse_c)), (b0_spot, .inl (cs 0, 4, .inl b0_spot_c)), (a_spot, .inl (cs 0, 4, .inl o_a_spot_c)), (a_seen, .inl (cs 0, 4, .inl o_a_seen_c)), (a_has, .inl (cs 0, 4, .inl o_a_has_c))]) A) [.ref a, .ref b0].toArray s 0 0 A) (F0 m 15 ls []) := by
    intro n
    induction n with
    | zero =>
      intro k15_L_2 k15_C_a_at hn q15_3 H locs hP hD hS ls hl
      exact absurd hn (by unfold IV at q15_3; omega)
    | succ n ih15 =>
      intro k15_L_2 k15_C_a_at hn q15_3 H locs hP hD hS ls hl
      refine lv_iload_n hx hb dX6_open_15 rfl (lv_at hl 0 rfl) ?_
      refine lv_aload_n hx hb dX6_open_16 rfl (lv_at hl 2 rfl) ?_
      refine va_get (D := D) (ci := 8) (v := .int b0__halves) (C := RX8) (T := TX8) (N := 18) hx hb hT i_X8 hown hK hP 1 rfl rfl 2 (by decide) (hT _ q_120) (fun _ h9 => h9) rfl dX6_open_17 ?_
      refine lv_icmp_ge (tgt := 46) hx hb dX6_open_20 (by decide) (fun c13 => ?_) (fun c13 => ?_)
      · refine lv_iconst (v := 0) hx hb dX6_open_46 (by decide) ?_
        refine lv_istore_n (lv' := [(2, .int 0), (0, .ref a), (1, .ref b0)]) hx hb dX6_open_47 rfl hl (by decide) rfl (fun ls hl => ?_)
        exact K48 _ 0 a_purse_c a_spot_c a_seen_c a_has_c k15_C_a_at (Nat.le_refl _) (iv_c (by decide)) H locs (hP.sub (ws' := [(a, .inr (6, [.int 0, .ref a_purse, .ref a_spot, .ref a_seen, .ref a_has, .ref a_at])), (b0, .inr (8, [.int b0__stalls, .int b0__shift, .int b0__halves, .int b0__buyers, .int b0__near, .int b0__dusk, .int b0__duskPrice, .int b0__hear, .int b0__forged, .ref b0_stall, .ref b0_shape, .ref b0_side, .ref b0_price, .ref b0_purse, .ref b0_spot, .ref b0_club, .ref b0_fitting, .ref b0_nearly])), (b0_stall, .inl (cs 0, 12, .inl b0_stall_c)), (b0_purse, .inl (cs 0, 4, .inl b0_purse_c)), (a_purse, .inl (cs 0, 4, .inl a_purse_c)), (b0_spot, .inl (cs 0, 4, .inl b0_spot_c)), (a_spot, .inl (cs 0, 4, .inl a_spot_c)), (a_seen, .inl (cs 0, 4, .inl a_seen_c)), (a_has, .inl (cs 0, 4, .inl a_has_c)), (a_at, .inl (cs 0, 8, .inl k15_C_a_at))]) [0, 1, 2, 3, 4, 5, 6, 7, 8, 9] rfl) (hD.sub (ws' := [(a, .inr (6, [.int 0, .ref a_purse, .ref a_spot, .ref a_seen, .ref a_has, .ref a_at])), (b0, .inr (8, [.int b0__stalls, .int b0__shift, .int b0__halves, .int b0__buyers, .int b0__near, .int b0__dusk, .int b0__duskPrice, .int b0__hear, .int b0__forged, .ref b0_stall, .ref b0_shape, .ref b0_side, .ref b0_price, .ref b0_purse, .ref b0_spot, .ref b0_club, .ref b0_fitting, .ref b0_nearly])), (b0_stall, .inl (cs 0, 12, .inl b0_stall_c)), (b0_purse, .inl (cs 0, 4, .inl b0_purse_c)), (a_purse, .inl (cs 0, 4, .inl a_purse_c)), (b0_spot, .inl (cs 0, 4, .inl b0_spot_c)), (a_spot, .inl (cs 0, 4, .inl a_spot_c)), (a_seen, .inl (cs 0, 4, .inl a_seen_c)), (a_has, .inl (cs 0, 4, .inl a_has_c)), (a_at, .inl (cs 0, 8, .inl k15_C_a_at))]) [0, 1, 2, 3, 4, 5, 6, 7, 8, 9] (by decide) rfl) hS ls (lv_sub hl [0, 1, 2] rfl)
      · have h14 : IV 0 11 k15_L_2 := iv_lt1 (Int32.not_le.mp c13) q15_3 h_b0__halves (by decide)
        have h15 : IV 1 12 b0__halves := iv_lt2 (Int32.not_le.mp c13) q15_3 h_b0__halves (by decide)
        refine lv_aload_n hx hb dX6_open_23 rfl (lv_at hl 1 rfl) ?_
        refine va_get (D := D) (ci := 6) (v := .ref a_at) (C := RX6) (T := TX6) (N := 6) hx hb hT i_X6 hown hK hP 0 rfl rfl 5 (by decide) (hT _ q_118) (fun _ h9 => h9) rfl dX6_open_24 ?_
        refine lv_aload_n hx hb dX6_open_27 rfl (lv_at hl 2 rfl) ?_
        refine va_get (D := D) (ci := 8) (v := .ref b0_stall) (C := RX8) (T := TX8) (N := 18) hx hb hT i_X8 hown hK hP 1 rfl rfl 9 (by decide) (hT _ q_121) (fun _ h9 => h9) rfl dX6_open_28 ?_
        refine lv_iload_n hx hb dX6_open_31 rfl (lv_at hl 0 rfl) ?_
        refine va_iald hx hb hK hP 2 0 rfl rfl (iv_v h14 (by decide) (by decide)) dX6_open_32 ?_
        refine lv_topi (fun v16 ev16 => ?_)
        have hv16 : IV 0 7 v16 := iv_ci ev16 h_b0_stall_c (iv_v h14 (by decide) (by decide))
        refine lv_dup2_11 hx hb dX6_open_33 rfl rfl ?_
        refine va_iald hx hb hK hP 9 0 rfl rfl (iv_v hv16 (by decide) (by decide)) dX6_open_34 ?_
        refine lv_topi (fun v17 ev17 => ?_)
        refine lv_iconst (v := 1) hx hb dX6_open_35 (by decide) ?_
        refine lv_iload_n hx hb dX6_open_36 rfl (lv_at hl 0 rfl) ?_
        refine lv_ishl hx hb dX6_open_37 ?_
        refine lv_topi (fun v18 ev18 => ?_)
        have hv18 : IV 1 2048 v18 := iv_shl1 ev18 h14 (by decide) (by decide) (by decide)
        refine lv_ior hx hb dX6_open_38 ?_
        refine lv_topi (fun v19 ev19 => ?_)
        refine va_iast hx hb hK hP hD hS 9 0 rfl rfl (iv_v hv16 (by decide) (by decide)) dX6_open_39 (fun H locs hP hD hS => ?_)
        have hP : va_P D classes [(a, .inr (6, [.int 0, .ref a_purse, .ref a_spot, .ref a_seen, .ref a_has, .ref a_at])), (b0, .inr (8, [.int b0__stalls, .int b0__shift, .int b0__halves, .int b0__buyers, .int b0__near, .int b0__dusk, .int b0__duskPrice, .int b0__hear, .int b0__forged, .ref b0_stall, .ref b0_shape, .ref b0_side, .ref b0_price, .ref b0_purse, .ref b0_spot, .ref b0_club, .ref b0_fitting, .ref b0_nearly])), (b0_stall, .inl (cs 0, 12, .inl b0_stall_c)), (b0_purse, .inl (cs 0, 4, .inl b0_purse_c)), (a_purse, .inl (cs 0, 4, .inl a_purse_c)), (b0_spot, .inl (cs 0, 4, .inl b0_spot_c)), (a_spot, .inl (cs 0, 4, .inl a_spot_c)), (a_seen, .inl (cs 0, 4, .inl a_seen_c)), (a_has, .inl (cs 0, 4, .inl a_has_c)), (a_at, .inl (cs 0, 8, .inl (upd k15_C_a_at (Int32.toNatClampNeg v16) v19)))] H := hP
        have hD : va_D A [(a, .inr (6, [.int 0, .ref a_purse, .ref a_spot, .ref a_seen, .ref a_has, .ref a_at])), (b0, .inr (8, [.int b0__stalls, .int b0__shift, .int b0__halves, .int b0__buyers, .int b0__near, .int b0__dusk, .int b0__duskPrice, .int b0__hear, .int b0__forged, .ref b0_stall, .ref b0_shape, .ref b0_side, .ref b0_price, .ref b0_purse, .ref b0_spot, .ref b0_club, .ref b0_fitting, .ref b0_nearly])), (b0_stall, .inl (cs 0, 12, .inl b0_stall_c)), (b0_purse, .inl (cs 0, 4, .inl b0_purse_c)), (a_purse, .inl (cs 0, 4, .inl a_purse_c)), (b0_spot, .inl (cs 0, 4, .inl b0_spot_c)), (a_spot, .inl (cs 0, 4, .inl a_spot_c)), (a_seen, .inl (cs 0, 4, .inl a_seen_c)), (a_has, .inl (cs 0, 4, .inl a_has_c)), (a_at, .inl (cs 0, 8, .inl (upd k15_C_a_at (Int32.toNatClampNeg v16) v19)))] := hD
        generalize upd k15_C_a_at (Int32.toNatClampNeg v16) v19 = f20 at hP hD
        obtain ⟨v21, ev21⟩ : ∃ z : Int32, z = k15_L_2 + 1 := ⟨_, rfl⟩
        have hv21 : IV 1 12 v21 := iv_add ev21 h14 (iv_c (a := 1) (b := 1) (by decide)) (by decide) (by decide)
        have dv21 : v21.toInt = k15_L_2.toInt + 1 := iv_addE ev21 h14 (iv_c (a := 1) (b := 1) (by decide)) (by decide) (by decide) (by decide)
        refine lv_iinc (v := v21) (lv' := [(2, .int v21), (0, .ref a), (1, .ref b0)]) hx hb dX6_open_40 hl (k := 0) rfl (by rw [ev21]; rfl) (by decide) rfl (fun ls hl => ?_)
        refine lv_goto (tgt := 15) hx hb dX6_open_43 (by decide) ?_
        exact ih15 v21 f20 (by have h9 := h14; unfold IV at h9; have := dv21; omega) (iv_w hv21 (by decide) (by decide)) H locs (hP.sub (ws' := [(a, .inr (6, [.int 0, .ref a_purse, .ref a_spot, .ref a_seen, .ref a_has, .ref a_at])), (b0, .inr (8, [.int b0__stalls, .int b0__shift, .int b0__halves, .int b0__buyers, .int b0__near, .int b0__dusk, .int b0__duskPrice, .int b0__hear, .int b0__forged, .ref b0_stall, .ref b0_shape, .ref b0_side, .ref b0_price, .ref b0_purse, .ref b0_spot, .ref b0_club, .ref b0_fitting, .ref b0_nearly])), (b0_stall, .inl (cs 0, 12, .inl b0_stall_c)), (b0_purse, .inl (cs 0, 4, .inl b0_purse_c)), (a_purse, .inl (cs 0, 4, .inl a_purse_c)), (b0_spot, .inl (cs 0, 4, .inl b0_spot_c)), (a_spot, .inl (cs 0, 4, .inl a_spot_c)), (a_seen, .inl (cs 0, 4, .inl a_seen_c)), (a_has, .inl (cs 0, 4, .inl a_has_c)), (a_at, .inl (cs 0, 8, .inl f20))]) [0, 1, 2, 3, 4, 5, 6, 7, 8, 9] rfl) (hD.sub (ws' := [(a, .inr (6, [.int 0, .ref a_purse, .ref a_spot, .ref a_seen, .ref a_has, .ref a_at])), (b0, .inr (8, [.int b0__stalls, .int b0__shift, .int b0__halves, .int b0__buyers, .int b0__near, .int b0__dusk, .int b0__duskPrice, .int b0__hear, .int b0__forged, .ref b0_stall, .ref b0_shape, .ref b0_side, .ref b0_price, .ref b0_purse, .ref b0_spot, .ref b0_club, .ref b0_fitting, .ref b0_nearly])), (b0_stall, .inl (cs 0, 12, .inl b0_stall_c)), (b0_purse, .inl (cs 0, 4, .inl b0_purse_c)), (a_purse, .inl (cs 0, 4, .inl a_purse_c)), (b0_spot, .inl (cs 0, 4, .inl b0_spot_c)), (a_spot, .inl (cs 0, 4, .inl a_spot_c)), (a_seen, .inl (cs 0, 4, .inl a_seen_c)), (a_has, .inl (cs 0, 4, .inl a_has_c)), (a_at, .inl (cs 0, 8, .inl f20))]) [0, 1, 2, 3, 4, 5, 6, 7, 8, 9] (by decide) rfl) hS ls (lv_sub hl [0, 1, 2] rfl)
  refine lv_aload_n hx hb dX6_open_0 rfl (lv_at hl 0 rfl) ?_
  refine lv_iconst (v := 0) hx hb dX6_open_1 (by decide) ?_
  refine va_put (D := D) (ci := 6) (v := .int 0) (ty := .int) (C := RX6) (T := TX6) (N := 6) hx hb hT i_X6 tyX6 tyX6_ok nmX6 hown hK hP hD hS 0 rfl rfl 0 (by decide) (hT _ q_119) (fun _ h9 => h9) rfl (by decide +kernel) rfl rfl (Nat.le_of_ble_eq_true rfl) dX6_open_2 (fun H locs hP hD hS => ?_)
  have hP : va_P D classes [(a, .inr (6, [.int 0, .ref a_purse, .ref a_spot, .ref a_seen, .ref a_has, .ref a_at])), (a_at, .inl (cs 0, 8, .inl a_at_c)), (b0, .inr (8, [.int b0__stalls, .int b0__shift, .int b0__halves, .int b0__buyers, .int b0__near, .int b0__dusk, .int b0__duskPrice, .int b0__hear, .int b0__forged, .ref b0_stall, .ref b0_shape, .ref b0_side, .ref b0_price, .ref b0_purse, .ref b0_spot, .ref b0_club, .ref b0_fitting, .ref b0_nearly])), (b0_stall, .inl (cs 0, 12, .inl b0_stall_c)), (b0_purse, .inl (cs 0, 4, .inl b0_purse_c)), (a_purse, .inl (cs 0, 4, .inl a_purse_c)), (b0_spot, .inl (cs 0, 4, .inl b0_spot_c)), (a_spot, .inl (cs 0, 4, .inl a_spot_c)), (a_seen, .inl (cs 0, 4, .inl a_seen_c)), (a_has, .inl (cs 0, 4, .inl a_has_c))] H := hP
  have hD : va_D A [(a, .inr (6, [.int 0, .ref a_purse, .ref a_spot, .ref a_seen, .ref a_has, .ref a_at])), (a_at, .inl (cs 0, 8, .inl a_at_c)), (b0, .inr (8, [.int b0__stalls, .int b0__shift, .int b0__halves, .int b0__buyers, .int b0__near, .int b0__dusk, .int b0__duskPrice, .int b0__hear, .int b0__forged, .ref b0_stall, .ref b0_shape, .ref b0_side, .ref b0_price, .ref b0_purse, .ref b0_spot, .ref b0_club, .ref b0_fitting, .ref b0_nearly])), (b0_stall, .inl (cs 0, 12, .inl b0_stall_c)), (b0_purse, .inl (cs 0, 4, .inl b0_purse_c)), (a_purse, .inl (cs 0, 4, .inl a_purse_c)), (b0_spot, .inl (cs 0, 4, .inl b0_spot_c)), (a_spot, .inl (cs 0, 4, .inl a_spot_c)), (a_seen, .inl (cs 0, 4, .inl a_seen_c)), (a_has, .inl (cs 0, 4, .inl a_has_c))] := hD
  refine lv_aload_n hx hb dX6_open_5 rfl (lv_at hl 0 rfl) ?_
  refine va_get (D := D) (ci := 6) (v := .ref a_at) (C := RX6) (T := TX6) (N := 6) hx hb hT i_X6 hown hK hP 0 rfl rfl 5 (by decide) (hT _ q_118) (fun _ h9 => h9) rfl dX6_open_6 ?_
  refine lv_iconst (v := 0) hx hb dX6_open_9 (by decide) ?_
  have hFc := va_free (wc := [(a_at, .inl (cs 0, 8, .inl a_at_c))]) hD hS hA [1] rfl
  refine va_callv (va_runS (As := [.ref a_at, .int 0]) (rest := []) ⟨hx, hb, hml, hown, hT⟩ (c_J7_fill_53178_5 l D cs kK kV a_at a_at_c H.size) (va_cwS 2 hT (hz_gS q_615 q_532 q_533 q_534) rfl rfl rfl (by decide +kernel) ⟨(Nat.le_of_ble_eq_true rfl), (Nat.le_of_ble_eq_true rfl)⟩) ⟨hz_C.blind, hz_C.mk (hP.sub (ws' := [(a_at, .inl (cs 0, 8, .inl a_at_c))]) [1] rfl) (hD.sub (ws' := [(a_at, .inl (cs 0, 8, .inl a_at_c))]) [1] (by decide) rfl) hE hS hFc⟩ rfl rfl hl.1 rfl (lv_room (Nat.le_of_ble_eq_true rfl)) dX6_open_10 ⟨(Nat.le_of_ble_eq_true rfl), (Nat.le_of_ble_eq_true rfl)⟩) hS (fun q _ h => hFc q h) hFc (fun u t H1 locs ht hvm hw hB hz1 hk1 hS => ?_)
  obtain ⟨o23, hP1, hD1⟩ := hB
  rw [ht] at hP1
  obtain ⟨hP, hD⟩ := va_join (wr := [(a, .inr (6, [.int 0, .ref a_purse, .ref a_spot, .ref a_seen, .ref a_has, .ref a_at])), (b0, .inr (8, [.int b0__stalls, .int b0__shift, .int b0__halves, .int b0__buyers, .int b0__near, .int b0__dusk, .int b0__duskPrice, .int b0__hear, .int b0__forged, .ref b0_stall, .ref b0_shape, .ref b0_side, .ref b0_price, .ref b0_purse, .ref b0_spot, .ref b0_club, .ref b0_fitting, .ref b0_nearly])), (b0_stall, .inl (cs 0, 12, .inl b0_stall_c)), (b0_purse, .inl (cs 0, 4, .inl b0_purse_c)), (a_purse, .inl (cs 0, 4, .inl a_purse_c)), (b0_spot, .inl (cs 0, 4, .inl b0_spot_c)), (a_spot, .inl (cs 0, 4, .inl a_spot_c)), (a_seen, .inl (cs 0, 4, .inl a_seen_c)), (a_has, .inl (cs 0, 4, .inl a_has_c))]) (w1 := [(a_at, .inl (cs 0, 8, .inl o23))]) hP hD [1] [0, 2, 3, 4, 5, 6, 7, 8, 9] rfl rfl (by decide) (by decide) hk1 hFc hP1 hD1
  generalize H1 = H at hP hS ⊢
  have hP : va_P D classes [(a, .inr (6, [.int 0, .ref a_purse, .ref a_spot, .ref a_seen, .ref a_has, .ref a_at])), (b0, .inr (8, [.int b0__stalls, .int b0__shift, .int b0__halves, .int b0__buyers, .int b0__near, .int b0__dusk, .int b0__duskPrice, .int b0__hear, .int b0__forged, .ref b0_stall, .ref b0_shape, .ref b0_side, .ref b0_price, .ref b0_purse, .ref b0_spot, .ref b0_club, .ref b0_fitting, .ref b0_nearly])), (b0_stall, .inl (cs 0, 12, .inl b0_stall_c)), (b0_purse, .inl (cs 0, 4, .inl b0_purse_c)), (a_purse, .inl (cs 0, 4, .inl a_purse_c)), (b0_spot, .inl (cs 0, 4, .inl b0_spot_c)), (a_spot, .inl (cs 0, 4, .inl a_spot_c)), (a_seen, .inl (cs 0, 4, .inl a_seen_c)), (a_has, .inl (cs 0, 4, .inl a_has_c)), (a_at, .inl (cs 0, 8, .inl o23))] H := hP
  have hD : va_D A [(a, .inr (6, [.int 0, .ref a_purse, .ref a_spot, .ref a_seen, .ref a_has, .ref a_at])), (b0, .inr (8, [.int b0__stalls, .int b0__shift, .int b0__halves, .int b0__buyers, .int b0__near, .int b0__dusk, .int b0__duskPrice, .int b0__hear, .int b0__forged, .ref b0_stall, .ref b0_shape, .ref b0_side, .ref b0_price, .ref b0_purse, .ref b0_spot, .ref b0_club, .ref b0_fitting, .ref b0_nearly])), (b0_stall, .inl (cs 0, 12, .inl b0_stall_c)), (b0_purse, .inl (cs 0, 4, .inl b0_purse_c)), (a_purse, .inl (cs 0, 4, .inl a_purse_c)), (b0_spot, .inl (cs 0, 4, .inl b0_spot_c)), (a_spot, .inl (cs 0, 4, .inl a_spot_c)), (a_seen, .inl (cs 0, 4, .inl a_seen_c)), (a_has, .inl (cs 0, 4, .inl a_has_c)), (a_at, .inl (cs 0, 8, .inl o23))] := hD
  clear hk1 hFc hP1 hD1 hz1
  refine lv_iconst (v := 0) hx hb dX6_open_13 (by decide) ?_
  refine lv_istore_n (lv' := [(2, .int 0), (0, .ref a), (1, .ref b0)]) hx hb dX6_open_14 rfl hl (by decide) rfl (fun ls hl => ?_)
  exact K15 _ 0 o23 (Nat.le_refl _) (iv_c (by decide)) H locs (hP.sub (ws' := [(a, .inr (6, [.int 0, .ref a_purse, .ref a_spot, .ref a_seen, .ref a_has, .ref a_at])), (b0, .inr (8, [.int b0__stalls, .int b0__shift, .int b0__halves, .int b0__buyers, .int b0__near, .int b0__dusk, .int b0__duskPrice, .int b0__hear, .int b0__forged, .ref b0_stall, .ref b0_shape, .ref b0_side, .ref b0_price, .ref b0_purse, .ref b0_spot, .ref b0_club, .ref b0_fitting, .ref b0_nearly])), (b0_stall, .inl (cs 0, 12, .inl b0_stall_c)), (b0_purse, .inl (cs 0, 4, .inl b0_purse_c)), (a_purse, .inl (cs 0, 4, .inl a_purse_c)), (b0_spot, .inl (cs 0, 4, .inl b0_spot_c)), (a_spot, .inl (cs 0, 4, .inl a_spot_c)), (a_seen, .inl (cs 0, 4, .inl a_seen_c)), (a_has, .inl (cs 0, 4, .inl a_has_c)), (a_at, .inl (cs 0, 8, .inl o23))]) [0, 1, 2, 3, 4, 5, 6, 7, 8, 9] rfl) (hD.sub (ws' := [(a, .inr (6, [.int 0, .ref a_purse, .ref a_spot, .ref a_seen, .ref a_has, .ref a_at])), (b0, .inr (8, [.int b0__stalls, .int b0__shift, .int b0__halves, .int b0__buyers, .int b0__near, .int b0__dusk, .int b0__duskPrice, .int b0__hear, .int b0__forged, .ref b0_stall, .ref b0_shape, .ref b0_side, .ref b0_price, .ref b0_purse, .ref b0_spot, .ref b0_club, .ref b0_fitting, .ref b0_nearly])), (b0_stall, .inl (cs 0, 12, .inl b0_stall_c)), (b0_purse, .inl (cs 0, 4, .inl b0_purse_c)), (a_purse, .inl (cs 0, 4, .inl a_purse_c)), (b0_spot, .inl (cs 0, 4, .inl b0_spot_c)), (a_spot, .inl (cs 0, 4, .inl a_spot_c)), (a_seen, .inl (cs 0, 4, .inl a_seen_c)), (a_has, .inl (cs 0, 4, .inl a_has_c)), (a_at, .inl (cs 0, 8, .inl o23))]) [0, 1, 2, 3, 4, 5, 6, 7, 8, 9] (by decide) rfl) hS ls (lv_sub hl [0, 1, 2] rfl)
theorem dX9_isFull_0 : decode cX9_isFull 0 = .ok (.aload_n 0, 1) := by decide +kernel
theorem dX9_isFull_1 : decode cX9_isFull 1 = .ok (.getfield 25, 3) := by decide +kernel
theorem dX9_isFull_4 : decode cX9_isFull 4 = .ok (.bipush 12, 2) := by decide +kernel
theorem dX9_isFull_6 : decode cX9_isFull 6 = .ok (.if_icmp .lt 7, 3) := by decide +kernel
theorem dX9_isFull_9 : decode cX9_isFull 9 = .ok (.iconst 1, 1) := by decide +kernel
theorem dX9_isFull_10 : decode cX9_isFull 10 = .ok (.goto 4, 3) := by decide +kernel
theorem dX9_isFull_13 : decode cX9_isFull 13 = .ok (.iconst 0, 1) := by decide +kernel
theorem dX9_isFull_14 : decode cX9_isFull 14 = .ok (.ireturn, 1) := by decide +kernel
set_option maxHeartbeats 4000000 in
set_option maxRecDepth 100000 in
theorem c_X9_isFull (l : Launch) (D : va_G) (cs : Nat → ClassId) (kK kV : Nat → Nat) (a : Nat) (a__size : Int32) (a__fewest : Int32) (a__honest : Int32) (a_pair : Nat) (a_one : Nat) (a_other : Nat) (a_fitted : Nat) (h_a__size : IV 0 12 a__size) : Met l yX9_isFull (hz_w yX9_isFull cX9_isFull 1 (some .boolean)) ({ frames := 0, cells := 0, slots := 0, locals := 0 }) (va_Pc [.ref a] (hz_P D cs kK kV [(a, .inr (9, [.int a__size, .int a__fewest, .int a__honest, .ref a_pair, .ref a_one, .ref a_other, .ref a_fitted]))])) (va_Qi (fun (r : Int32) (_ : Unit) => (r = 0 ∧ IV 0 11 a__size) ∨ (r = 1 ∧ IV 12 12 a__size)) (fun _ t => True) (fun _ => False)) 0 0 (fun _ => False) := by
  refine Met.ofW (cc := cX9_isFull) (maxL := 1) (ret := (some .boolean)) (by decide) rfl ?_
  intro p e s m args below meth c s₁ B hml hv
  obtain ⟨rfl, hP, hE⟩ := hv
  have hx := B.exec
  have hb := B.bytes
  have hr := B.returns
  have hT : ∀ w ∈ TB, w.before _ s = true := fun w h => atoms_spec (ws := hz_w yX9_isFull cX9_isFull 1 (some .boolean)) B.pre w (List.mem_cons_of_mem _ h)
  have hown : s.vm.findClass RX9 = some m.cls := findClass_of_methodNamed B.named
  have hlocks := B.notSynchronized
  clear B
  have hS : va_S (fun _ => False) s.heap s.heap [] := va_S.rf
  have hK := hE.1
  have hl := lv_entry ([.ref a]) (n := 1) (Nat.le_of_ble_eq_true rfl)
  rw [lg_entry_eq]
  generalize (lg_sl ([.ref a]) ++ List.replicate (1 - (lg_sl ([.ref a])).length) Slot.unset).toArray = ls at hl ⊢
  have hl : lv_has ls 1 [(0, .ref a)] := hl
  obtain ⟨H, eH⟩ : ∃ z, z = s.heap := ⟨_, rfl⟩
  have hP : va_P D classes [(a, .inr (9, [.int a__size, .int a__fewest, .int a__honest, .ref a_pair, .ref a_one, .ref a_other, .ref a_fitted]))] H := by rw [eH]; exact hP
  have hS : va_S (fun _ => False) s.heap H [] := by rw [eH]; exact hS
  rw [← eH]
  clear eH
  obtain ⟨locs, el⟩ : ∃ z : List Loc, z = [] := ⟨_, rfl⟩
  rw [← el] at hS ⊢
  clear el
  refine lv_aload_n hx hb dX9_isFull_0 rfl (lv_at hl 0 rfl) ?_
  refine va_get (D := D) (ci := 9) (v := .int a__size) (C := RX9) (T := TX9) (N := 7) hx hb hT i_X9 hown hK hP 0 rfl rfl 0 (by decide) (hT _ q_153) (fun _ h9 => h9) rfl dX9_isFull_1 ?_
  refine lv_bipush (v := 12) hx hb dX9_isFull_4 (by decide) ?_
  refine lv_icmp_lt (tgt := 13) hx hb dX9_isFull_6 (by decide) (fun c1 => ?_) (fun c1 => ?_)
  · have h2 : IV 0 11 a__size := iv_lt1 c1 h_a__size (iv_c (a := 12) (b := 12) (by decide)) (by decide)
    refine lv_iconst (v := 0) hx hb dX9_isFull_13 (by decide) ?_
    exact W.zret (v := 0) hx hb hr rfl (fun t ht hW => ⟨⟨0, (), rfl, (Or.inl (⟨rfl, h2⟩)), trivial⟩, hS.F ht⟩) hS.2.2 dX9_isFull_14
  · have h3 : IV 12 12 a__size := iv_le2 (Int32.not_lt.mp c1) (iv_c (a := 12) (b := 12) (by decide)) h_a__size (by decide)
    refine lv_iconst (v := 1) hx hb dX9_isFull_9 (by decide) ?_
    refine lv_goto (tgt := 14) hx hb dX9_isFull_10 (by decide) ?_
    exact W.zret (v := 1) hx hb hr rfl (fun t ht hW => ⟨⟨1, (), rfl, (Or.inr ((⟨rfl, h3⟩))), trivial⟩, hS.F ht⟩) hS.2.2 dX9_isFull_14
theorem dX9_add_0 : decode cX9_add 0 = .ok (.aload_n 0, 1) := by decide +kernel
theorem dX9_add_1 : decode cX9_add 1 = .ok (.invokevirtual 29, 3) := by decide +kernel
theorem dX9_add_4 : decode cX9_add 4 = .ok (.ifCond .eq 4, 3) := by decide +kernel
theorem dX9_add_7 : decode cX9_add 7 = .ok (.return_, 1) := by decide +kernel
theorem dX9_add_8 : decode cX9_add 8 = .ok (.aload_n 0, 1) := by decide +kernel
theorem dX9_add_9 : decode cX9_add 9 = .ok (.getfield 15, 3) := by decide +kernel
theorem dX9_add_12 : decode cX9_add 12 = .ok (.aload_n 0, 1) := by decide +kernel
theorem dX9_add_13 : decode cX9_add 13 = .ok (.getfield 25, 3) := by decide +kernel
theorem dX9_add_16 : decode cX9_add 16 = .ok (.iload_n 1, 1) := by decide +kernel
theorem dX9_add_17 : decode cX9_add 17 = .ok (.iastore, 1) := by decide +kernel
theorem dX9_add_18 : decode cX9_add 18 = .ok (.aload_n 0, 1) := by decide +kernel
theorem dX9_add_19 : decode cX9_add 19 = .ok (.getfield 18, 3) := by decide +kernel
theorem dX9_add_22 : decode cX9_add 22 = .ok (.aload_n 0, 1) := by decide +kernel
theorem dX9_add_23 : decode cX9_add 23 = .ok (.getfield 25, 3) := by decide +kernel
theorem dX9_add_26 : decode cX9_add 26 = .ok (.iload_n 2, 1) := by decide +kernel
theorem dX9_add_27 : decode cX9_add 27 = .ok (.iastore, 1) := by decide +kernel
theorem dX9_add_28 : decode cX9_add 28 = .ok (.aload_n 0, 1) := by decide +kernel
theorem dX9_add_29 : decode cX9_add 29 = .ok (.getfield 21, 3) := by decide +kernel
theorem dX9_add_32 : decode cX9_add 32 = .ok (.aload_n 0, 1) := by decide +kernel
theorem dX9_add_33 : decode cX9_add 33 = .ok (.getfield 25, 3) := by decide +kernel
theorem dX9_add_36 : decode cX9_add 36 = .ok (.iload_n 3, 1) := by decide +kernel
theorem dX9_add_37 : decode cX9_add 37 = .ok (.bastore, 1) := by decide +kernel
theorem dX9_add_38 : decode cX9_add 38 = .ok (.aload_n 0, 1) := by decide +kernel
theorem dX9_add_39 : decode cX9_add 39 = .ok (.dup, 1) := by decide +kernel
theorem dX9_add_40 : decode cX9_add 40 = .ok (.getfield 25, 3) := by decide +kernel
theorem dX9_add_43 : decode cX9_add 43 = .ok (.iconst 1, 1) := by decide +kernel
theorem dX9_add_44 : decode cX9_add 44 = .ok (.iadd, 1) := by decide +kernel
theorem dX9_add_45 : decode cX9_add 45 = .ok (.putfield 25, 3) := by decide +kernel
theorem dX9_add_48 : decode cX9_add 48 = .ok (.return_, 1) := by decide +kernel
set_option maxHeartbeats 4000000 in
set_option maxRecDepth 100000 in
theorem c_X9_add (l : Launch) (D : va_G) (cs : Nat → ClassId) (kK kV : Nat → Nat) (a : Nat) (p0 : Int32) (p1 : Int32) (p2 : Int32) (a__size : Int32) (a__fewest : Int32) (a__honest : Int32) (a_pair : Nat) (a_one : Nat) (a_other : Nat) (a_fitted : Nat) (a_one_c : Nat → Int32) (a_other_c : Nat → Int32) (a_fitted_c : Nat → Int32) (h_a__size : IV 0 12 a__size) (h_a_one_c : CI 12 0 11 a_one_c) (h_a_other_c : CI 12 0 11 a_other_c) (sz : Nat) : Met l yX9_add (hz_w yX9_add cX9_add 4 none) ({ frames := 1, cells := 0, slots := 0, locals := 20 }) (va_Pc [.ref a, .int p0, .int p1, .int p2] (hz_C D cs kK kV sz [(a, .inr (9, [.int a__size, .int a__fewest, .int a__honest, .ref a_pair, .ref a_one, .ref a_other, .ref a_fitted])), (a_one, .inl (cs 0, 12, .inl a_one_c)), (a_other, .inl (cs 0, 12, .inl a_other_c)), (a_fitted, .inl (cs 2, 12, .inl a_fitted_c))])) (va_Qv (fun (_ : Unit) => True) (fun _ t => ∃ (o_a_0 : Int32), ∃ (o_a_fitted_c : Nat → Int32), ∃ (o_a_one_c : Nat → Int32), ∃ (o_a_other_c : Nat → Int32), IV 1 12 o_a_0 ∧ va_P D classes [(a, .inr (9, [.int o_a_0, .int a__fewest, .int a__honest, .ref a_pair, .ref a_one, .ref a_other, .ref a_fitted])), (a_one, .inl (cs 0, 12, .inl o_a_one_c)), (a_other, .inl (cs 0, 12, .inl o_a_other_c)), (a_fitted, .inl (cs 2, 12, .inl o_a_fitted_c))] t.heap ∧ va_D (va_A [(a, .inr (9, [.int a__size, .int a__fewest, .int a__honest, .ref a_pair, .ref a_one, .ref a_other, .ref a_fitted])), (a_one, .inl (cs 0, 12, .inl a_one_c)), (a_other, .inl (cs 0, 12, .inl a_other_c)), (a_fitted, .inl (cs 2, 12, .inl a_fitted_c))] sz) [(a, .inr (9, [.int o_a_0, .int a__fewest, .int a__honest, .ref a_pair, .ref a_one, .ref a_other, .ref a_fitted])), (a_one, .inl (cs 0, 12, .inl o_a_one_c)), (a_other, .inl (cs 0, 12, .inl o_a_other_c)), (a_fitted, .inl (cs 2, 12, .inl o_a_fitted_c))]) (va_A [(a, .inr (9, [.int a__size, .int a__fewest, .int a__honest, .ref a_pair, .ref a_one, .ref a_other, .ref a_fitted])), (a_one, .inl (cs 0, 12, .inl a_one_c)), (a_other, .inl (cs 0, 12, .inl a_other_c)), (a_fitted, .inl (cs 2, 12, .inl a_fitted_c))] sz)) 0 0 (va_A [(a, .inr (9, [.int a__size, .int a__fewest, .int a__honest, .ref a_pair, .ref a_one, .ref a_other, .ref a_fitted])), (a_one, .inl (cs 0, 12, .inl a_one_c)), (a_other, .inl (cs 0, 12, .inl a_other_c)), (a_fitted, .inl (cs 2, 12, .inl a_fitted_c))] sz) := by
  refine Met.ofW (cc := cX9_add) (maxL := 4) (ret := none) (by decide) rfl ?_
  intro p e s m args below meth c s₁ B hml hv
  obtain ⟨rfl, hsz, hP, hD0, hE⟩ := hv
  have hx := B.exec
  have hb := B.bytes
  have hr := B.returns
  have hT : ∀ w ∈ TB, w.before _ s = true := fun w h => atoms_spec (ws := hz_w yX9_add cX9_add 4 none) B.pre w (List.mem_cons_of_mem _ h)
  have hown : s.vm.findClass RX9 = some m.cls := findClass_of_methodNamed B.named
  have hlocks := B.notSynchronized
  clear B
  subst hsz
  have hD := hD0.self (sz := s.heap.size)
  generalize hAe : va_A [(a, .inr (9, [.int a__size, .int a__fewest, .int a__honest, .ref a_pair, .ref a_one, .ref a_other, .ref a_fitted])), (a_one, .inl (cs 0, 12, .inl a_one_c)), (a_other, .inl (cs 0, 12, .inl a_other_c)), (a_fitted, .inl (cs 2, 12, .inl a_fitted_c))] s.heap.size = A at hD hE ⊢
  have hA : ∀ q : Nat, s.heap.size ≤ q → A q := fun q h => by rw [← hAe]; exact Or.inr h
  clear hAe hD0
  have hS : va_S A s.heap s.heap [] := va_S.rf
  have hK := hE.1
  have hl := lv_entry ([.ref a, .int p0, .int p1, .int p2]) (n := 4) (Nat.le_of_ble_eq_true rfl)
  rw [lg_entry_eq]
  generalize (lg_sl ([.ref a, .int p0, .int p1, .int p2]) ++ List.replicate (4 - (lg_sl ([.ref a, .int p0, .int p1, .int p2])).length) Slot.unset).toArray = ls at hl ⊢
  have hl : lv_has ls 4 [(0, .ref a), (1, .int p0), (2, .int p1), (3, .int p2)] := hl
  obtain ⟨H, eH⟩ : ∃ z, z = s.heap := ⟨_, rfl⟩
  have hP : va_P D classes [(a, .inr (9, [.int a__size, .int a__fewest, .int a__honest, .ref a_pair, .ref a_one, .ref a_other, .ref a_fitted])), (a_one, .inl (cs 0, 12, .inl a_one_c)), (a_other, .inl (cs 0, 12, .inl a_other_c)), (a_fitted, .inl (cs 2, 12, .inl a_fitted_c))] H := by rw [eH]; exact hP
  have hS : va_S A s.heap H [] := by rw [eH]; exact hS
  rw [← eH]
  clear eH
  obtain ⟨locs, el⟩ : ∃ z : List Loc, z = [] := ⟨_, rfl⟩
  rw [← el] at hS ⊢
  clear el
  refine lv_aload_n hx hb dX9_add_0 rfl (lv_at hl 0 rfl) ?_
  refine va_calli (va_runV (As := []) (rest := []) ⟨hx, hb, hml, hown, hT⟩ (c_X9_isFull l D cs kK kV a a__size a__fewest a__honest a_pair a_one a_other a_fitted h_a__size) (cwV 0 hT (hz_gV q_657 q_387 q_389 q_388 q_390) rfl rfl rfl (by decide +kernel) ⟨(Nat.le_of_ble_eq_true rfl), (Nat.le_of_ble_eq_true rfl)⟩) ⟨hz_P.blind, va_recv hK hP (ci := 9) (q0 := 0) rfl rfl, hz_P.mk (hP.sub (ws' := [(a, .inr (9, [.int a__size, .int a__fewest, .int a__honest, .ref a_pair, .ref a_one, .ref a_other, .ref a_fitted]))]) [0] rfl) hE hS⟩ rfl rfl hl.1 rfl (lv_room (Nat.le_of_ble_eq_true rfl)) dX9_add_1 ⟨(Nat.le_of_ble_eq_true rfl), (Nat.le_of_ble_eq_true rfl)⟩) hS (fun _ _ h => h.elim) (fun _ h => h.elim) (fun r1 u t H1 locs ht hvm hw hB hz1 hk1 hS => ?_)
  have hP := hz_keep hP hk1
  clear hk1 hB hz1
  generalize H1 = H at hP hS ⊢
  rcases hw with ⟨rfl, h2⟩ | ⟨rfl, h3⟩
  · refine lv_if_eq (tgt := 8) hx hb dX9_add_4 (by decide) (fun _ => ?_) (fun z => absurd (by decide) z)
    refine lv_aload_n hx hb dX9_add_8 rfl (lv_at hl 0 rfl) ?_
    refine va_get (D := D) (ci := 9) (v := .ref a_one) (C := RX9) (T := TX9) (N := 7) hx hb hT i_X9 hown hK hP 0 rfl rfl 4 (by decide) (hT _ q_150) (fun _ h9 => h9) rfl dX9_add_9 ?_
    refine lv_aload_n hx hb dX9_add_12 rfl (lv_at hl 0 rfl) ?_
    refine va_get (D := D) (ci := 9) (v := .int a__size) (C := RX9) (T := TX9) (N := 7) hx hb hT i_X9 hown hK hP 0 rfl rfl 0 (by decide) (hT _ q_153) (fun _ h9 => h9) rfl dX9_add_13 ?_
    refine lv_iload_n hx hb dX9_add_16 rfl (lv_at hl 1 rfl) ?_
    refine va_iast hx hb hK hP hD hS 1 0 rfl rfl (iv_v h2 (by decide) (by decide)) dX9_add_17 (fun H locs hP hD hS => ?_)
    have hP : va_P D classes [(a, .inr (9, [.int a__size, .int a__fewest, .int a__honest, .ref a_pair, .ref a_one, .ref a_other, .ref a_fitted])), (a_one, .inl (cs 0, 12, .inl (upd a_one_c (Int32.toNatClampNeg a__size) p0))), (a_other, .inl (cs 0, 12, .inl a_other_c)), (a_fitted, .inl (cs 2, 12, .inl a_fitted_c))] H := hP
    have hD : va_D A [(a, .inr (9, [.int a__size, .int a__fewest, .int a__honest, .ref a_pair, .ref a_one, .ref a_other, .ref a_fitted])), (a_one, .inl (cs 0, 12, .inl (upd a_one_c (Int32.toNatClampNeg a__size) p0))), (a_other, .inl (cs 0, 12, .inl a_other_c)), (a_fitted, .inl (cs 2, 12, .inl a_fitted_c))] := hD
    generalize upd a_one_c (Int32.toNatClampNeg a__size) p0 = f4 at hP hD
    refine lv_aload_n hx hb dX9_add_18 rfl (lv_at hl 0 rfl) ?_
    refine va_get (D := D) (ci := 9) (v := .ref a_other) (C := RX9) (T := TX9) (N := 7) hx hb hT i_X9 hown hK hP 0 rfl rfl 5 (by decide) (hT _ q_151) (fun _ h9 => h9) rfl dX9_add_19 ?_
    refine lv_aload_n hx hb dX9_add_22 rfl (lv_at hl 0 rfl) ?_
    refine va_get (D := D) (ci := 9) (v := .int a__size) (C := RX9) (T := TX9) (N := 7) hx hb hT i_X9 hown hK hP 0 rfl rfl 0 (by decide) (hT _ q_153) (fun _ h9 => h9) rfl dX9_add_23 ?_
    refine lv_iload_n hx hb dX9_add_26 rfl (lv_at hl 2 rfl) ?_
    refine va_iast hx hb hK hP hD hS 2 0 rfl rfl (iv_v h2 (by decide) (by decide)) dX9_add_27 (fun H locs hP hD hS => ?_)
    have hP : va_P D classes [(a, .inr (9, [.int a__size, .int a__fewest, .int a__honest, .ref a_pair, .ref a_one, .ref a_other, .ref a_fitted])), (a_one, .inl (cs 0, 12, .inl f4)), (a_other, .inl (cs 0, 12, .inl (upd a_other_c (Int32.toNatClampNeg a__size) p1))), (a_fitted, .inl (cs 2, 12, .inl a_fitted_c))] H := hP
    have hD : va_D A [(a, .inr (9, [.int a__size, .int a__fewest, .int a__honest, .ref a_pair, .ref a_one, .ref a_other, .ref a_fitted])), (a_one, .inl (cs 0, 12, .inl f4)), (a_other, .inl (cs 0, 12, .inl (upd a_other_c (Int32.toNatClampNeg a__size) p1))), (a_fitted, .inl (cs 2, 12, .inl a_fitted_c))] := hD
    generalize upd a_other_c (Int32.toNatClampNeg a__size) p1 = f5 at hP hD
    refine lv_aload_n hx hb dX9_add_28 rfl (lv_at hl 0 rfl) ?_
    refine va_get (D := D) (ci := 9) (v := .ref a_fitted) (C := RX9) (T := TX9) (N := 7) hx hb hT i_X9 hown hK hP 0 rfl rfl 6 (by decide) (hT _ q_152) (fun _ h9 => h9) rfl dX9_add_29 ?_
    refine lv_aload_n hx hb dX9_add_32 rfl (lv_at hl 0 rfl) ?_
    refine va_get (D := D) (ci := 9) (v := .int a__size) (C := RX9) (T := TX9) (N := 7) hx hb hT i_X9 hown hK hP 0 rfl rfl 0 (by decide) (hT _ q_153) (fun _ h9 => h9) rfl dX9_add_33 ?_
    refine lv_iload_n hx hb dX9_add_36 rfl (lv_at hl 3 rfl) ?_
    refine va_zast hx hb hK hP hD hS 3 2 rfl rfl (iv_v h2 (by decide) (by decide)) dX9_add_37 (fun H locs hP hD hS => ?_)
    have hP : va_P D classes [(a, .inr (9, [.int a__size, .int a__fewest, .int a__honest, .ref a_pair, .ref a_one, .ref a_other, .ref a_fitted])), (a_one, .inl (cs 0, 12, .inl f4)), (a_other, .inl (cs 0, 12, .inl f5)), (a_fitted, .inl (cs 2, 12, .inl (upd a_fitted_c (Int32.toNatClampNeg a__size) (vp_nar .boolean p2))))] H := hP
    have hD : va_D A [(a, .inr (9, [.int a__size, .int a__fewest, .int a__honest, .ref a_pair, .ref a_one, .ref a_other, .ref a_fitted])), (a_one, .inl (cs 0, 12, .inl f4)), (a_other, .inl (cs 0, 12, .inl f5)), (a_fitted, .inl (cs 2, 12, .inl (upd a_fitted_c (Int32.toNatClampNeg a__size) (vp_nar .boolean p2))))] := hD
    generalize upd a_fitted_c (Int32.toNatClampNeg a__size) (vp_nar .boolean p2) = f6 at hP hD
    refine lv_aload_n hx hb dX9_add_38 rfl (lv_at hl 0 rfl) ?_
    refine lv_dup hx hb dX9_add_39 rfl ?_
    refine va_get (D := D) (ci := 9) (v := .int a__size) (C := RX9) (T := TX9) (N := 7) hx hb hT i_X9 hown hK hP 0 rfl rfl 0 (by decide) (hT _ q_153) (fun _ h9 => h9) rfl dX9_add_40 ?_
    refine lv_iconst (v := 1) hx hb dX9_add_43 (by decide) ?_
    refine lv_iadd hx hb dX9_add_44 ?_
    refine lv_topi (fun v7 ev7 => ?_)
    have hv7 : IV 1 12 v7 := iv_add ev7 h2 (iv_c (a := 1) (b := 1) (by decide)) (by decide) (by decide)
    have dv7 : v7.toInt = a__size.toInt + 1 := iv_addE ev7 h2 (iv_c (a := 1) (b := 1) (by decide)) (by decide) (by decide) (by decide)
    refine va_put (D := D) (ci := 9) (v := .int v7) (ty := .int) (C := RX9) (T := TX9) (N := 7) hx hb hT i_X9 tyX9 tyX9_ok nmX9 hown hK hP hD hS 0 rfl rfl 0 (by decide) (hT _ q_153) (fun _ h9 => h9) rfl (by decide +kernel) rfl rfl (Nat.le_of_ble_eq_true rfl) dX9_add_45 (fun H locs hP hD hS => ?_)
    have hP : va_P D classes [(a, .inr (9, [.int v7, .int a__fewest, .int a__honest, .ref a_pair, .ref a_one, .ref a_other, .ref a_fitted])), (a_one, .inl (cs 0, 12, .inl f4)), (a_other, .inl (cs 0, 12, .inl f5)), (a_fitted, .inl (cs 2, 12, .inl f6))] H := hP
    have hD : va_D A [(a, .inr (9, [.int v7, .int a__fewest, .int a__honest, .ref a_pair, .ref a_one, .ref a_other, .ref a_fitted])), (a_one, .inl (cs 0, 12, .inl f4)), (a_other, .inl (cs 0, 12, .inl f5)), (a_fitted, .inl (cs 2, 12, .inl f6))] := hD
    refine W.widen (k := 0) (n := 0) (Nat.le_of_ble_eq_true rfl) (Nat.le_of_ble_eq_true rfl) ?_
    exact W.vret hx hb hr (fun t ht hW => ⟨⟨(), rfl, trivial, v7, f6, f4, f5, hv7, by rw [ht]; exact hP.sub [0, 1, 2, 3] rfl, hD.sub [0, 1, 2, 3] (by decide) rfl⟩, hS.F ht⟩) hS.2.2 dX9_add_48
  · refine lv_if_eq (tgt := 8) hx hb dX9_add_4 (by decide) (fun z => absurd z (by decide)) (fun _ => ?_)
    refine W.widen (k := 0) (n := 0) (Nat.le_of_ble_eq_true rfl) (Nat.le_of_ble_eq_true rfl) ?_
    exact W.vret hx hb hr (fun t ht hW => ⟨⟨(), rfl, trivial, a__size, a_fitted_c, a_one_c, a_other_c, (iv_w h3 (by decide) (by decide)), by rw [ht]; exact hP.sub [0, 1, 2, 3] rfl, hD.sub [0, 1, 2, 3] (by decide) rfl⟩, hS.F ht⟩) hS.2.2 dX9_add_7
theorem dX9_copyFrom_0 : decode cX9_copyFrom 0 = .ok (.aload_n 0, 1) := by decide +kernel
theorem dX9_copyFrom_1 : decode cX9_copyFrom 1 = .ok (.aload_n 1, 1) := by decide +kernel
theorem dX9_copyFrom_2 : decode cX9_copyFrom 2 = .ok (.getfield 25, 3) := by decide +kernel
theorem dX9_copyFrom_5 : decode cX9_copyFrom 5 = .ok (.putfield 25, 3) := by decide +kernel
theorem dX9_copyFrom_8 : decode cX9_copyFrom 8 = .ok (.iconst 0, 1) := by decide +kernel
theorem dX9_copyFrom_9 : decode cX9_copyFrom 9 = .ok (.istore_n 2, 1) := by decide +kernel
theorem dX9_copyFrom_10 : decode cX9_copyFrom 10 = .ok (.iload_n 2, 1) := by decide +kernel
theorem dX9_copyFrom_11 : decode cX9_copyFrom 11 = .ok (.bipush 12, 2) := by decide +kernel
theorem dX9_copyFrom_13 : decode cX9_copyFrom 13 = .ok (.if_icmp .ge 45, 3) := by decide +kernel
theorem dX9_copyFrom_16 : decode cX9_copyFrom 16 = .ok (.aload_n 0, 1) := by decide +kernel
theorem dX9_copyFrom_17 : decode cX9_copyFrom 17 = .ok (.getfield 15, 3) := by decide +kernel
theorem dX9_copyFrom_20 : decode cX9_copyFrom 20 = .ok (.iload_n 2, 1) := by decide +kernel
theorem dX9_copyFrom_21 : decode cX9_copyFrom 21 = .ok (.aload_n 1, 1) := by decide +kernel
theorem dX9_copyFrom_22 : decode cX9_copyFrom 22 = .ok (.getfield 15, 3) := by decide +kernel
theorem dX9_copyFrom_25 : decode cX9_copyFrom 25 = .ok (.iload_n 2, 1) := by decide +kernel
theorem dX9_copyFrom_26 : decode cX9_copyFrom 26 = .ok (.iaload, 1) := by decide +kernel
theorem dX9_copyFrom_27 : decode cX9_copyFrom 27 = .ok (.iastore, 1) := by decide +kernel
theorem dX9_copyFrom_28 : decode cX9_copyFrom 28 = .ok (.aload_n 0, 1) := by decide +kernel
theorem dX9_copyFrom_29 : decode cX9_copyFrom 29 = .ok (.getfield 18, 3) := by decide +kernel
theorem dX9_copyFrom_32 : decode cX9_copyFrom 32 = .ok (.iload_n 2, 1) := by decide +kernel
theorem dX9_copyFrom_33 : decode cX9_copyFrom 33 = .ok (.aload_n 1, 1) := by decide +kernel
theorem dX9_copyFrom_34 : decode cX9_copyFrom 34 = .ok (.getfield 18, 3) := by decide +kernel
theorem dX9_copyFrom_37 : decode cX9_copyFrom 37 = .ok (.iload_n 2, 1) := by decide +kernel
theorem dX9_copyFrom_38 : decode cX9_copyFrom 38 = .ok (.iaload, 1) := by decide +kernel
theorem dX9_copyFrom_39 : decode cX9_copyFrom 39 = .ok (.iastore, 1) := by decide +kernel
theorem dX9_copyFrom_40 : decode cX9_copyFrom 40 = .ok (.aload_n 0, 1) := by decide +kernel
theorem dX9_copyFrom_41 : decode cX9_copyFrom 41 = .ok (.getfield 21, 3) := by decide +kernel
theorem dX9_copyFrom_44 : decode cX9_copyFrom 44 = .ok (.iload_n 2, 1) := by decide +kernel
theorem dX9_copyFrom_45 : decode cX9_copyFrom 45 = .ok (.aload_n 1, 1) := by decide +kernel
theorem dX9_copyFrom_46 : decode cX9_copyFrom 46 = .ok (.getfield 21, 3) := by decide +kernel
theorem dX9_copyFrom_49 : decode cX9_copyFrom 49 = .ok (.iload_n 2, 1) := by decide +kernel
theorem dX9_copyFrom_50 : decode cX9_copyFrom 50 = .ok (.baload, 1) := by decide +kernel
theorem dX9_copyFrom_51 : decode cX9_copyFrom 51 = .ok (.bastore, 1) := by decide +kernel
theorem dX9_copyFrom_52 : decode cX9_copyFrom 52 = .ok (.iinc 2 1, 3) := by decide +kernel
theorem dX9_copyFrom_55 : decode cX9_copyFrom 55 = .ok (.goto (-45), 3) := by decide +kernel
theorem dX9_copyFrom_58 : decode cX9_copyFrom 58 = .ok (.return_, 1) := by decide +kernel
set_option maxHeartbeats 4000000 in
set_option maxRecDepth 100000 in
theorem c_X9_copyFrom (l : Launch) (D : va_G) (cs : Nat → ClassId) (kK kV : Nat → Nat) (a : Nat) (b0 : Nat) (b0__size : Int32) (b0__fewest : Int32) (b0__honest : Int32) (b0_pair : Nat) (b0_one : Nat) (b0_other : Nat) (b0_fitted : Nat) (a__size : Int32) (a__fewest : Int32) (a__honest : Int32) (a_pair : Nat) (a_one : Nat) (a_other : Nat) (a_fitted : Nat) (b0_one_c : Nat → Int32) (a_one_c : Nat → Int32) (b0_other_c : Nat → Int32) (a_other_c : Nat → Int32) (b0_fitted_c : Nat → Int32) (a_fitted_c : Nat → Int32) (h_b0__size : IV 0 12 b0__size) (h_b0_one_c : CI 12 0 11 b0_one_c) (h_a_one_c : CI 12 0 11 a_one_c) (h_b0_other_c : CI 12 0 11 b0_other_c) (h_a_other_c : CI 12 0 11 a_other_c) (sz : Nat) : Met l yX9_copyFrom (hz_w yX9_copyFrom cX9_copyFrom 3 none) ({ frames := 0, cells := 0, slots := 0, locals := 0 }) (va_Pc [.ref a, .ref b0] (hz_C D cs kK kV sz [(b0, .inr (9, [.int b0__size, .int b0__fewest, .int b0__honest, .ref b0_pair, .ref b0_one, .ref b0_other, .ref b0_fitted])), (a, .inr (9, [.int a__size, .int a__fewest, .int a__honest, .ref a_pair, .ref a_one, .ref a_other, .ref a_fitted])), (b0_one, .inl (cs 0, 12, .inl b0_one_c)), (a_one, .inl (cs 0, 12, .inl a_one_c)), (b0_other, .inl (cs 0, 12, .inl b0_other_c)), (a_other, .inl (cs 0, 12, .inl a_other_c)), (b0_fitted, .inl (cs 2, 12, .inl b0_fitted_c)), (a_fitted, .inl (cs 2, 12, .inl a_fitted_c))])) (va_Qv (fun (_ : Unit) => True) (fun _ t => ∃ (o_a_0 : Int32), ∃ (o_a_fitted_c : Nat → Int32), ∃ (o_a_one_c : Nat → Int32), ∃ (o_a_other_c : Nat → Int32), IV 0 12 o_a_0 ∧ CI 12 0 11 o_a_one_c ∧ CI 12 0 11 o_a_other_c ∧ va_P D classes [(b0, .inr (9, [.int b0__size, .int b0__fewest, .int b0__honest, .ref b0_pair, .ref b0_one, .ref b0_other, .ref b0_fitted])), (a, .inr (9, [.int o_a_0, .int a__fewest, .int a__honest, .ref a_pair, .ref a_one, .ref a_other, .ref a_fitted])), (b0_one, .inl (cs 0, 12, .inl b0_one_c)), (a_one, .inl (cs 0, 12, .inl o_a_one_c)), (b0_other, .inl (cs 0, 12, .inl b0_other_c)), (a_other, .inl (cs 0, 12, .inl o_a_other_c)), (b0_fitted, .inl (cs 2, 12, .inl b0_fitted_c)), (a_fitted, .inl (cs 2, 12, .inl o_a_fitted_c))] t.heap ∧ va_D (va_A [(b0, .inr (9, [.int b0__size, .int b0__fewest, .int b0__honest, .ref b0_pair, .ref b0_one, .ref b0_other, .ref b0_fitted])), (a, .inr (9, [.int a__size, .int a__fewest, .int a__honest, .ref a_pair, .ref a_one, .ref a_other, .ref a_fitted])), (b0_one, .inl (cs 0, 12, .inl b0_one_c)), (a_one, .inl (cs 0, 12, .inl a_one_c)), (b0_other, .inl (cs 0, 12, .inl b0_other_c)), (a_other, .inl (cs 0, 12, .inl a_other_c)), (b0_fitted, .inl (cs 2, 12, .inl b0_fitted_c)), (a_fitted, .inl (cs 2, 12, .inl a_fitted_c))] sz) [(b0, .inr (9, [.int b0__size, .int b0__fewest, .int b0__honest, .ref b0_pair, .ref b0_one, .ref b0_other, .ref b0_fitted])), (a, .inr (9, [.int o_a_0, .int a__fewest, .int a__honest, .ref a_pair, .ref a_one, .ref a_other, .ref a_fitted])), (b0_one, .inl (cs 0, 12, .inl b0_one_c)), (a_one, .inl (cs 0, 12, .inl o_a_one_c)), (b0_other, .inl (cs 0, 12, .inl b0_other_c)), (a_other, .inl (cs 0, 12, .inl o_a_other_c)), (b0_fitted, .inl (cs 2, 12, .inl b0_fitted_c)), (a_fitted, .inl (cs 2, 12, .inl o_a_fitted_c))]) (va_A [(b0, .inr (9, [.int b0__size, .int b0__fewest, .int b0__honest, .ref b0_pair, .ref b0_one, .ref b0_other, .ref b0_fitted])), (a, .inr (9, [.int a__size, .int a__fewest, .int a__honest, .ref a_pair, .ref a_one, .ref a_other, .ref a_fitted])), (b0_one, .inl (cs 0, 12, .inl b0_one_c)), (a_one, .inl (cs 0, 12, .inl a_one_c)), (b0_other, .inl (cs 0, 12, .inl b0_other_c)), (a_other, .inl (cs 0, 12, .inl a_other_c)), (b0_fitted, .inl (cs 2, 12, .inl b0_fitted_c)), (a_fitted, .inl (cs 2, 12, .inl a_fitted_c))] sz)) 0 0 (va_A [(b0, .inr (9, [.int b0__size, .int b0__fewest, .int b0__honest, .ref b0_pair, .ref b0_one, .ref b0_other, .ref b0_fitted])), (a, .inr (9, [.int a__size, .int a__fewest, .int a__honest, .ref a_pair, .ref a_one, .ref a_other, .ref a_fitted])), (b0_one, .inl (cs 0, 12, .inl b0_one_c)), (a_one, .inl (cs 0, 12, .inl a_one_c)), (b0_other, .inl (cs 0, 12, .inl b0_other_c)), (a_other, .inl (cs 0, 12, .inl a_other_c)), (b0_fitted, .inl (cs 2, 12, .inl b0_fitted_c)), (a_fitted, .inl (cs 2, 12, .inl a_fitted_c))] sz) := by
  refine Met.ofW (cc := cX9_copyFrom) (maxL := 3) (ret := none) (by decide) rfl ?_
  intro p e s m args below meth c s₁ B hml hv
  obtain ⟨rfl, hsz, hP, hD0, hE⟩ := hv
  have hx := B.exec
  have hb := B.bytes
  have hr := B.returns
  have hT : ∀ w ∈ TB, w.before _ s = true := fun w h => atoms_spec (ws := hz_w yX9_copyFrom cX9_copyFrom 3 none) B.pre w (List.mem_cons_of_mem _ h)
  have hown : s.vm.findClass RX9 = some m.cls := findClass_of_methodNamed B.named
  have hlocks := B.notSynchronized
  clear B
  subst hsz
  have hD := hD0.self (sz := s.heap.size)
  generalize hAe : va_A [(b0, .inr (9, [.int b0__size, .int b0__fewest, .int b0__honest, .ref b0_pair, .ref b0_one, .ref b0_other, .ref b0_fitted])), (a, .inr (9, [.int a__size, .int a__fewest, .int a__honest, .ref a_pair, .ref a_one, .ref a_other, .ref a_fitted])), (b0_one, .inl (cs 0, 12, .inl b0_one_c)), (a_one, .inl (cs 0, 12, .inl a_one_c)), (b0_other, .inl (cs 0, 12, .inl b0_other_c)), (a_other, .inl (cs 0, 12, .inl a_other_c)), (b0_fitted, .inl (cs 2, 12, .inl b0_fitted_c)), (a_fitted, .inl (cs 2, 12, .inl a_fitted_c))] s.heap.size = A at hD hE ⊢
  have hA : ∀ q : Nat, s.heap.size ≤ q → A q := fun q h => by rw [← hAe]; exact Or.inr h
  clear hAe hD0
  have hS : va_S A s.heap s.heap [] := va_S.rf
  have hK := hE.1
  have hl := lv_entry ([.ref a, .ref b0]) (n := 3) (Nat.le_of_ble_eq_true rfl)
  rw [lg_entry_eq]
  generalize (lg_sl ([.ref a, .ref b0]) ++ List.replicate (3 - (lg_sl ([.ref a, .ref b0])).length) Slot.unset).toArray = ls at hl ⊢
  have hl : lv_has ls 3 [(0, .ref a), (1, .ref b0)] := hl
  obtain ⟨H, eH⟩ : ∃ z, z = s.heap := ⟨_, rfl⟩
  have hP : va_P D classes [(b0, .inr (9, [.int b0__size, .int b0__fewest, .int b0__honest, .ref b0_pair, .ref b0_one, .ref b0_other, .ref b0_fitted])), (a, .inr (9, [.int a__size, .int a__fewest, .int a__honest, .ref a_pair, .ref a_one, .ref a_other, .ref a_fitted])), (b0_one, .inl (cs 0, 12, .inl b0_one_c)), (a_one, .inl (cs 0, 12, .inl a_one_c)), (b0_other, .inl (cs 0, 12, .inl b0_other_c)), (a_other, .inl (cs 0, 12, .inl a_other_c)), (b0_fitted, .inl (cs 2, 12, .inl b0_fitted_c)), (a_fitted, .inl (cs 2, 12, .inl a_fitted_c))] H := by rw [eH]; exact hP
  have hS : va_S A s.heap H [] := by rw [eH]; exact hS
  rw [← eH]
  clear eH
  obtain ⟨locs, el⟩ : ∃ z : List Loc, z = [] := ⟨_, rfl⟩
  rw [← el] at hS ⊢
  clear el
  have K10 : ∀ (n : Nat) (k10_L_2 : Int32) (k10_C_a_one : Nat → Int32) (k10_C_a_other : Nat → Int32) (k10_C_a_fitted : Nat → Int32), (12 - k10_L_2.toInt + 1).toNat ≤ n → IV 0 12 k10_L_2 → CI 12 0 11 k10_C_a_one → CI 12 0 11 k10_C_a_other → ∀ (H : Heap) (locs : List Loc), va_P D classes [(b0, .inr (9, [.int b0__size, .int b0__fewest, .int b0__honest, .ref b0_pair, .ref b0_one, .ref b0_other, .ref b0_fitted])), (a, .inr (9, [.int b0__size, .int a__fewest, .int a__honest, .ref a_pair, .ref a_one, .ref a_other, .ref a_fitted])), (b0_one, .inl (cs 0, 12, .inl b0_one_c)), (a_one, .inl (cs 0, 12, .inl k10_C_a_one)), (b0_other, .inl (cs 0, 12, .inl b0_other_c)), (a_other, .inl (cs 0, 12, .inl k10_C_a_other)), (b0_fitted, .inl (cs 2, 12, .inl b0_fitted_c)), (a_fitted, .inl (cs 2, 12, .inl k10_C_a_fitted))] H → va_D A [(b0, .inr (9, [.int b0__size, .int b0__fewest, .int b0__honest, .ref b0_pair, .ref b0_one, .ref b0_other, .ref b0_fitted])), (a, .inr (9, [.int b0__size, .int a__fewest, .int a__honest, .ref a_pair, .ref a_one, .ref a_other, .ref a_fitted])), (b0_one, .inl (cs 0, 12, .inl b0_one_c)), (a_one, .inl (cs 0, 12, .inl k10_C_a_one)), (b0_other, .inl (cs 0, 12, .inl b0_other_c)), (a_other, .inl (cs 0, 12, .inl k10_C_a_other)), (b0_fitted, .inl (cs 2, 12, .inl b0_fitted_c)), (a_fitted, .inl (cs 2, 12, .inl k10_C_a_fitted))] → va_S A s.heap H locs → ∀ ls : Array Slot, lv_has ls 3 [(2, .int k10_L_2), (0, .ref a), (1, .ref b0)] → W p l e (headSpec (hz_w yX9_copyFrom cX9_copyFrom 3 none) ({ frames := 0, cells := 0, slots := 0, locals := 0 })).room s m [.ref a, .ref b0].toArray below meth c H locs 0 0 (MQ below (va_Qv (fun (_ : Unit) => True) (fun _ t => ∃ (o_a_0 : Int32), ∃ (o_a_fitted_c : Nat → Int32), ∃ (o_a_one_c : Nat → Int32), ∃ (o_a_other_c : Nat → Int32), IV 0 12 o_a_0 ∧ CI 12 0 11 o_a_one_c ∧ CI 12 0 11 o_a_other_c ∧ va_P D classes [(b0, .inr (9, [.int b0__size, .int b0__fewest, .int b0__honest, .ref b0_pair, .ref b0_one, .ref b0_other, .ref b0_fitted])), (a, .inr (9, [.int o_a_0, .int a__fewest, .int a__honest, .ref a_pair, .ref a_one, .ref a_other, .ref a_fitted])), (b0_one, .inl (cs 0, 12, .inl b0_one_c)), (a_one, .inl (cs 0, 12, .inl o_a_one_c)), (b0_other, .inl (cs 0, 12, .inl b0_other_c)), (a_other, .inl (cs 0, 12, .inl o_a_other_c)), (b0_fitted, .inl (cs 2, 12, .inl b0_fitted_c)), (a_fitted, .inl (cs 2, 12, .inl o_a_fitted_c))] t.heap ∧ va_D A [(b0, .inr (9, [.int b0__size, .int b0__fewest, .int b0__honest, .ref b0_pair, .ref b0_one, .ref b0_other, .ref b0_fitted])), (a, .inr (9, [.int o_a_0, .int a__fewest, .int a__honest, .ref a_pair, .ref a_one, .ref a_other, .ref a_fitted])), (b0_one, .inl (cs 0, 12, .inl b0_one_c)), (a_one, .inl (cs 0, 12, .inl o_a_one_c)), (b0_other, .inl (cs 0, 12, .inl b0_other_c)), (a_other, .inl (cs 0, 12, .inl o_a_other_c)), (b0_fitted, .inl (cs 2, 12, .inl b0_fitted_c)), (a_fitted, .inl (cs 2, 12, .inl o_a_fitted_c))]) A) [.ref a, .ref b0].toArray s 0 0 A) (F0 m 10 ls []) := by
    intro n
    induction n with
    | zero =>
      intro k10_L_2 k10_C_a_one k10_C_a_other k10_C_a_fitted hn q10_1 z10_2 z10_3 H locs hP hD hS ls hl
      exact absurd hn (by unfold IV at q10_1; omega)
    | succ n ih10 =>
      intro k10_L_2 k10_C_a_one k10_C_a_other k10_C_a_fitted hn q10_1 z10_2 z10_3 H locs hP hD hS ls hl
      refine lv_iload_n hx hb dX9_copyFrom_10 rfl (lv_at hl 0 rfl) ?_
      refine lv_bipush (v := 12) hx hb dX9_copyFrom_11 (by decide) ?_
      refine lv_icmp_ge (tgt := 58) hx hb dX9_copyFrom_13 (by decide) (fun c1 => ?_) (fun c1 => ?_)
      · have h2 : IV 12 12 k10_L_2 := iv_le2 c1 (iv_c (a := 12) (b := 12) (by decide)) q10_1 (by decide)
        refine W.widen (k := 0) (n := 0) (Nat.le_of_ble_eq_true rfl) (Nat.le_of_ble_eq_true rfl) ?_
        exact W.vret hx hb hr (fun t ht hW => ⟨⟨(), rfl, trivial, b0__size, k10_C_a_fitted, k10_C_a_one, k10_C_a_other, h_b0__size, z10_2, z10_3, by rw [ht]; exact hP.sub [0, 1, 2, 3, 4, 5, 6, 7] rfl, hD.sub [0, 1, 2, 3, 4, 5, 6, 7] (by decide) rfl⟩, hS.F ht⟩) hS.2.2 dX9_copyFrom_58
      · have h3 : IV 0 11 k10_L_2 := iv_lt1 (Int32.not_le.mp c1) q10_1 (iv_c (a := 12) (b := 12) (by decide)) (by decide)
        refine lv_aload_n hx hb dX9_copyFrom_16 rfl (lv_at hl 1 rfl) ?_
        refine va_get (D := D) (ci := 9) (v := .ref a_one) (C := RX9) (T := TX9) (N := 7) hx hb hT i_X9 hown hK hP 1 rfl rfl 4 (by decide) (hT _ q_150) (fun _ h9 => h9) rfl dX9_copyFrom_17 ?_
        refine lv_iload_n hx hb dX9_copyFrom_20 rfl (lv_at hl 0 rfl) ?_
        refine lv_aload_n hx hb dX9_copyFrom_21 rfl (lv_at hl 2 rfl) ?_
        refine va_get (D := D) (ci := 9) (v := .ref b0_one) (C := RX9) (T := TX9) (N := 7) hx hb hT i_X9 hown hK hP 0 rfl rfl 4 (by decide) (hT _ q_150) (fun _ h9 => h9) rfl dX9_copyFrom_22 ?_
        refine lv_iload_n hx hb dX9_copyFrom_25 rfl (lv_at hl 0 rfl) ?_
        refine va_iald hx hb hK hP 2 0 rfl rfl (iv_v h3 (by decide) (by decide)) dX9_copyFrom_26 ?_
        refine lv_topi (fun v4 ev4 => ?_)
        have hv4 : IV 0 11 v4 := iv_ci ev4 h_b0_one_c (iv_v h3 (by decide) (by decide))
        refine va_iast hx hb hK hP hD hS 3 0 rfl rfl (iv_v h3 (by decide) (by decide)) dX9_copyFrom_27 (fun H locs hP hD hS => ?_)
        have hf5 := ci_upd (i := k10_L_2) z10_2 hv4
        have hP : va_P D classes [(b0, .inr (9, [.int b0__size, .int b0__fewest, .int b0__honest, .ref b0_pair, .ref b0_one, .ref b0_other, .ref b0_fitted])), (a, .inr (9, [.int b0__size, .int a__fewest, .int a__honest, .ref a_pair, .ref a_one, .ref a_other, .ref a_fitted])), (b0_one, .inl (cs 0, 12, .inl b0_one_c)), (a_one, .inl (cs 0, 12, .inl (upd k10_C_a_one (Int32.toNatClampNeg k10_L_2) v4))), (b0_other, .inl (cs 0, 12, .inl b0_other_c)), (a_other, .inl (cs 0, 12, .inl k10_C_a_other)), (b0_fitted, .inl (cs 2, 12, .inl b0_fitted_c)), (a_fitted, .inl (cs 2, 12, .inl k10_C_a_fitted))] H := hP
        have hD : va_D A [(b0, .inr (9, [.int b0__size, .int b0__fewest, .int b0__honest, .ref b0_pair, .ref b0_one, .ref b0_other, .ref b0_fitted])), (a, .inr (9, [.int b0__size, .int a__fewest, .int a__honest, .ref a_pair, .ref a_one, .ref a_other, .ref a_fitted])), (b0_one, .inl (cs 0, 12, .inl b0_one_c)), (a_one, .inl (cs 0, 12, .inl (upd k10_C_a_one (Int32.toNatClampNeg k10_L_2) v4))), (b0_other, .inl (cs 0, 12, .inl b0_other_c)), (a_other, .inl (cs 0, 12, .inl k10_C_a_other)), (b0_fitted, .inl (cs 2, 12, .inl b0_fitted_c)), (a_fitted, .inl (cs 2, 12, .inl k10_C_a_fitted))] := hD
        generalize upd k10_C_a_one (Int32.toNatClampNeg k10_L_2) v4 = f5 at hP hD hf5
        refine lv_aload_n hx hb dX9_copyFrom_28 rfl (lv_at hl 1 rfl) ?_
        refine va_get (D := D) (ci := 9) (v := .ref a_other) (C := RX9) (T := TX9) (N := 7) hx hb hT i_X9 hown hK hP 1 rfl rfl 5 (by decide) (hT _ q_151) (fun _ h9 => h9) rfl dX9_copyFrom_29 ?_
        refine lv_iload_n hx hb dX9_copyFrom_32 rfl (lv_at hl 0 rfl) ?_
        refine lv_aload_n hx hb dX9_copyFrom_33 rfl (lv_at hl 2 rfl) ?_
        refine va_get (D := D) (ci := 9) (v := .ref b0_other) (C := RX9) (T := TX9) (N := 7) hx hb hT i_X9 hown hK hP 0 rfl rfl 5 (by decide) (hT _ q_151) (fun _ h9 => h9) rfl dX9_copyFrom_34 ?_
        refine lv_iload_n hx hb dX9_copyFrom_37 rfl (lv_at hl 0 rfl) ?_
        refine va_iald hx hb hK hP 4 0 rfl rfl (iv_v h3 (by decide) (by decide)) dX9_copyFrom_38 ?_
        refine lv_topi (fun v6 ev6 => ?_)
        have hv6 : IV 0 11 v6 := iv_ci ev6 h_b0_other_c (iv_v h3 (by decide) (by decide))
        refine va_iast hx hb hK hP hD hS 5 0 rfl rfl (iv_v h3 (by decide) (by decide)) dX9_copyFrom_39 (fun H locs hP hD hS => ?_)
        have hf7 := ci_upd (i := k10_L_2) z10_3 hv6
        have hP : va_P D classes [(b0, .inr (9, [.int b0__size, .int b0__fewest, .int b0__honest, .ref b0_pair, .ref b0_one, .ref b0_other, .ref b0_fitted])), (a, .inr (9, [.int b0__size, .int a__fewest, .int a__honest, .ref a_pair, .ref a_one, .ref a_other, .ref a_fitted])), (b0_one, .inl (cs 0, 12, .inl b0_one_c)), (a_one, .inl (cs 0, 12, .inl f5)), (b0_other, .inl (cs 0, 12, .inl b0_other_c)), (a_other, .inl (cs 0, 12, .inl (upd k10_C_a_other (Int32.toNatClampNeg k10_L_2) v6))), (b0_fitted, .inl (cs 2, 12, .inl b0_fitted_c)), (a_fitted, .inl (cs 2, 12, .inl k10_C_a_fitted))] H := hP
        have hD : va_D A [(b0, .inr (9, [.int b0__size, .int b0__fewest, .int b0__honest, .ref b0_pair, .ref b0_one, .ref b0_other, .ref b0_fitted])), (a, .inr (9, [.int b0__size, .int a__fewest, .int a__honest, .ref a_pair, .ref a_one, .ref a_other, .ref a_fitted])), (b0_one, .inl (cs 0, 12, .inl b0_one_c)), (a_one, .inl (cs 0, 12, .inl f5)), (b0_other, .inl (cs 0, 12, .inl b0_other_c)), (a_other, .inl (cs 0, 12, .inl (upd k10_C_a_other (Int32.toNatClampNeg k10_L_2) v6))), (b0_fitted, .inl (cs 2, 12, .inl b0_fitted_c)), (a_fitted, .inl (cs 2, 12, .inl k10_C_a_fitted))] := hD
        generalize upd k10_C_a_other (Int32.toNatClampNeg k10_L_2) v6 = f7 at hP hD hf7
        refine lv_aload_n hx hb dX9_copyFrom_40 rfl (lv_at hl 1 rfl) ?_
        refine va_get (D := D) (ci := 9) (v := .ref a_fitted) (C := RX9) (T := TX9) (N := 7) hx hb hT i_X9 hown hK hP 1 rfl rfl 6 (by decide) (hT _ q_152) (fun _ h9 => h9) rfl dX9_copyFrom_41 ?_
        refine lv_iload_n hx hb dX9_copyFrom_44 rfl (lv_at hl 0 rfl) ?_
        refine lv_aload_n hx hb dX9_copyFrom_45 rfl (lv_at hl 2 rfl) ?_
        refine va_get (D := D) (ci := 9) (v := .ref b0_fitted) (C := RX9) (T := TX9) (N := 7) hx hb hT i_X9 hown hK hP 0 rfl rfl 6 (by decide) (hT _ q_152) (fun _ h9 => h9) rfl dX9_copyFrom_46 ?_
        refine lv_iload_n hx hb dX9_copyFrom_49 rfl (lv_at hl 0 rfl) ?_
        refine va_zald hx hb hK hP 6 2 rfl rfl (iv_v h3 (by decide) (by decide)) dX9_copyFrom_50 ?_
        refine lv_topi (fun v8 ev8 => ?_)
        refine va_zast hx hb hK hP hD hS 7 2 rfl rfl (iv_v h3 (by decide) (by decide)) dX9_copyFrom_51 (fun H locs hP hD hS => ?_)
        have hP : va_P D classes [(b0, .inr (9, [.int b0__size, .int b0__fewest, .int b0__honest, .ref b0_pair, .ref b0_one, .ref b0_other, .ref b0_fitted])), (a, .inr (9, [.int b0__size, .int a__fewest, .int a__honest, .ref a_pair, .ref a_one, .ref a_other, .ref a_fitted])), (b0_one, .inl (cs 0, 12, .inl b0_one_c)), (a_one, .inl (cs 0, 12, .inl f5)), (b0_other, .inl (cs 0, 12, .inl b0_other_c)), (a_other, .inl (cs 0, 12, .inl f7)), (b0_fitted, .inl (cs 2, 12, .inl b0_fitted_c)), (a_fitted, .inl (cs 2, 12, .inl (upd k10_C_a_fitted (Int32.toNatClampNeg k10_L_2) (vp_nar .boolean v8))))] H := hP
        have hD : va_D A [(b0, .inr (9, [.int b0__size, .int b0__fewest, .int b0__honest, .ref b0_pair, .ref b0_one, .ref b0_other, .ref b0_fitted])), (a, .inr (9, [.int b0__size, .int a__fewest, .int a__honest, .ref a_pair, .ref a_one, .ref a_other, .ref a_fitted])), (b0_one, .inl (cs 0, 12, .inl b0_one_c)), (a_one, .inl (cs 0, 12, .inl f5)), (b0_other, .inl (cs 0, 12, .inl b0_other_c)), (a_other, .inl (cs 0, 12, .inl f7)), (b0_fitted, .inl (cs 2, 12, .inl b0_fitted_c)), (a_fitted, .inl (cs 2, 12, .inl (upd k10_C_a_fitted (Int32.toNatClampNeg k10_L_2) (vp_nar .boolean v8))))] := hD
        generalize upd k10_C_a_fitted (Int32.toNatClampNeg k10_L_2) (vp_nar .boolean v8) = f9 at hP hD
        obtain ⟨v10, ev10⟩ : ∃ z : Int32, z = k10_L_2 + 1 := ⟨_, rfl⟩
        have hv10 : IV 1 12 v10 := iv_add ev10 h3 (iv_c (a := 1) (b := 1) (by decide)) (by decide) (by decide)
        have dv10 : v10.toInt = k10_L_2.toInt + 1 := iv_addE ev10 h3 (iv_c (a := 1) (b := 1) (by decide)) (by decide) (by decide) (by decide)
        refine lv_iinc (v := v10) (lv' := [(2, .int v10), (0, .ref a), (1, .ref b0)]) hx hb dX9_copyFrom_52 hl (k := 0) rfl (by rw [ev10]; rfl) (by decide) rfl (fun ls hl => ?_)
        refine lv_goto (tgt := 10) hx hb dX9_copyFrom_55 (by decide) ?_
        exact ih10 v10 f5 f7 f9 (by have h9 := h3; unfold IV at h9; have := dv10; omega) (iv_w hv10 (by decide) (by decide)) hf5 hf7 H locs (hP.sub (ws' := [(b0, .inr (9, [.int b0__size, .int b0__fewest, .int b0__honest, .ref b0_pair, .ref b0_one, .ref b0_other, .ref b0_fitted])), (a, .inr (9, [.int b0__size, .int a__fewest, .int a__honest, .ref a_pair, .ref a_one, .ref a_other, .ref a_fitted])), (b0_one, .inl (cs 0, 12, .inl b0_one_c)), (a_one, .inl (cs 0, 12, .inl f5)), (b0_other, .inl (cs 0, 12, .inl b0_other_c)), (a_other, .inl (cs 0, 12, .inl f7)), (b0_fitted, .inl (cs 2, 12, .inl b0_fitted_c)), (a_fitted, .inl (cs 2, 12, .inl f9))]) [0, 1, 2, 3, 4, 5, 6, 7] rfl) (hD.sub (ws' := [(b0, .inr (9, [.int b0__size, .int b0__fewest, .int b0__honest, .ref b0_pair, .ref b0_one, .ref b0_other, .ref b0_fitted])), (a, .inr (9, [.int b0__size, .int a__fewest, .int a__honest, .ref a_pair, .ref a_one, .ref a_other, .ref a_fitted])), (b0_one, .inl (cs 0, 12, .inl b0_one_c)), (a_one, .inl (cs 0, 12, .inl f5)), (b0_other, .inl (cs 0, 12, .inl b0_other_c)), (a_other, .inl (cs 0, 12, .inl f7)), (b0_fitted, .inl (cs 2, 12, .inl b0_fitted_c)), (a_fitted, .inl (cs 2, 12, .inl f9))]) [0, 1, 2, 3, 4, 5, 6, 7] (by decide) rfl) hS ls (lv_sub hl [0, 1, 2] rfl)
  refine lv_aload_n hx hb dX9_copyFrom_0 rfl (lv_at hl 0 rfl) ?_
  refine lv_aload_n hx hb dX9_copyFrom_1 rfl (lv_at hl 1 rfl) ?_
  refine va_get (D := D) (ci := 9) (v := .int b0__size) (C := RX9) (T := TX9) (N := 7) hx hb hT i_X9 hown hK hP 0 rfl rfl 0 (by decide) (hT _ q_153) (fun _ h9 => h9) rfl dX9_copyFrom_2 ?_
  refine va_put (D := D) (ci := 9) (v := .int b0__size) (ty := .int) (C := RX9) (T := TX9) (N := 7) hx hb hT i_X9 tyX9 tyX9_ok nmX9 hown hK hP hD hS 1 rfl rfl 0 (by decide) (hT _ q_153) (fun _ h9 => h9) rfl (by decide +kernel) rfl rfl (Nat.le_of_ble_eq_true rfl) dX9_copyFrom_5 (fun H locs hP hD hS => ?_)
  have hP : va_P D classes [(b0, .inr (9, [.int b0__size, .int b0__fewest, .int b0__honest, .ref b0_pair, .ref b0_one, .ref b0_other, .ref b0_fitted])), (a, .inr (9, [.int b0__size, .int a__fewest, .int a__honest, .ref a_pair, .ref a_one, .ref a_other, .ref a_fitted])), (b0_one, .inl (cs 0, 12, .inl b0_one_c)), (a_one, .inl (cs 0, 12, .inl a_one_c)), (b0_other, .inl (cs 0, 12, .inl b0_other_c)), (a_other, .inl (cs 0, 12, .inl a_other_c)), (b0_fitted, .inl (cs 2, 12, .inl b0_fitted_c)), (a_fitted, .inl (cs 2, 12, .inl a_fitted_c))] H := hP
  have hD : va_D A [(b0, .inr (9, [.int b0__size, .int b0__fewest, .int b0__honest, .ref b0_pair, .ref b0_one, .ref b0_other, .ref b0_fitted])), (a, .inr (9, [.int b0__size, .int a__fewest, .int a__honest, .ref a_pair, .ref a_one, .ref a_other, .ref a_fitted])), (b0_one, .inl (cs 0, 12, .inl b0_one_c)), (a_one, .inl (cs 0, 12, .inl a_one_c)), (b0_other, .inl (cs 0, 12, .inl b0_other_c)), (a_other, .inl (cs 0, 12, .inl a_other_c)), (b0_fitted, .inl (cs 2, 12, .inl b0_fitted_c)), (a_fitted, .inl (cs 2, 12, .inl a_fitted_c))] := hD
  refine lv_iconst (v := 0) hx hb dX9_copyFrom_8 (by decide) ?_
  refine lv_istore_n (lv' := [(2, .int 0), (0, .ref a), (1, .ref b0)]) hx hb dX9_copyFrom_9 rfl hl (by decide) rfl (fun ls hl => ?_)
  exact K10 _ 0 a_one_c a_other_c a_fitted_c (Nat.le_refl _) (iv_c (by decide)) h_a_one_c h_a_other_c H locs (hP.sub (ws' := [(b0, .inr (9, [.int b0__size, .int b0__fewest, .int b0__honest, .ref b0_pair, .ref b0_one, .ref b0_other, .ref b0_fitted])), (a, .inr (9, [.int b0__size, .int a__fewest, .int a__honest, .ref a_pair, .ref a_one, .ref a_other, .ref a_fitted])), (b0_one, .inl (cs 0, 12, .inl b0_one_c)), (a_one, .inl (cs 0, 12, .inl a_one_c)), (b0_other, .inl (cs 0, 12, .inl b0_other_c)), (a_other, .inl (cs 0, 12, .inl a_other_c)), (b0_fitted, .inl (cs 2, 12, .inl b0_fitted_c)), (a_fitted, .inl (cs 2, 12, .inl a_fitted_c))]) [0, 1, 2, 3, 4, 5, 6, 7] rfl) (hD.sub (ws' := [(b0, .inr (9, [.int b0__size, .int b0__fewest, .int b0__honest, .ref b0_pair, .ref b0_one, .ref b0_other, .ref b0_fitted])), (a, .inr (9, [.int b0__size, .int a__fewest, .int a__honest, .ref a_pair, .ref a_one, .ref a_other, .ref a_fitted])), (b0_one, .inl (cs 0, 12, .inl b0_one_c)), (a_one, .inl (cs 0, 12, .inl a_one_c)), (b0_other, .inl (cs 0, 12, .inl b0_other_c)), (a_other, .inl (cs 0, 12, .inl a_other_c)), (b0_fitted, .inl (cs 2, 12, .inl b0_fitted_c)), (a_fitted, .inl (cs 2, 12, .inl a_fitted_c))]) [0, 1, 2, 3, 4, 5, 6, 7] (by decide) rfl) hS ls (lv_sub hl [0, 1, 2] rfl)
theorem dX9_gatherPairs_0 : decode cX9_gatherPairs 0 = .ok (.iconst 0, 1) := by decide +kernel
theorem dX9_gatherPairs_1 : decode cX9_gatherPairs 1 = .ok (.istore_n 2, 1) := by decide +kernel
theorem dX9_gatherPairs_2 : decode cX9_gatherPairs 2 = .ok (.iconst 0, 1) := by decide +kernel
theorem dX9_gatherPairs_3 : decode cX9_gatherPairs 3 = .ok (.istore_n 3, 1) := by decide +kernel
theorem dX9_gatherPairs_4 : decode cX9_gatherPairs 4 = .ok (.iload_n 3, 1) := by decide +kernel
theorem dX9_gatherPairs_5 : decode cX9_gatherPairs 5 = .ok (.aload_n 0, 1) := by decide +kernel
theorem dX9_gatherPairs_6 : decode cX9_gatherPairs 6 = .ok (.getfield 25, 3) := by decide +kernel
theorem dX9_gatherPairs_9 : decode cX9_gatherPairs 9 = .ok (.if_icmp .ge 83, 3) := by decide +kernel
theorem dX9_gatherPairs_12 : decode cX9_gatherPairs 12 = .ok (.aload_n 1, 1) := by decide +kernel
theorem dX9_gatherPairs_13 : decode cX9_gatherPairs 13 = .ok (.aload_n 0, 1) := by decide +kernel
theorem dX9_gatherPairs_14 : decode cX9_gatherPairs 14 = .ok (.getfield 15, 3) := by decide +kernel
theorem dX9_gatherPairs_17 : decode cX9_gatherPairs 17 = .ok (.iload_n 3, 1) := by decide +kernel
theorem dX9_gatherPairs_18 : decode cX9_gatherPairs 18 = .ok (.iaload, 1) := by decide +kernel
theorem dX9_gatherPairs_19 : decode cX9_gatherPairs 19 = .ok (.aload_n 0, 1) := by decide +kernel
theorem dX9_gatherPairs_20 : decode cX9_gatherPairs 20 = .ok (.getfield 18, 3) := by decide +kernel
theorem dX9_gatherPairs_23 : decode cX9_gatherPairs 23 = .ok (.iload_n 3, 1) := by decide +kernel
theorem dX9_gatherPairs_24 : decode cX9_gatherPairs 24 = .ok (.iaload, 1) := by decide +kernel
theorem dX9_gatherPairs_25 : decode cX9_gatherPairs 25 = .ok (.invokevirtual 62, 3) := by decide +kernel
theorem dX9_gatherPairs_28 : decode cX9_gatherPairs 28 = .ok (.istore 4, 2) := by decide +kernel
theorem dX9_gatherPairs_30 : decode cX9_gatherPairs 30 = .ok (.iload 4, 2) := by decide +kernel
theorem dX9_gatherPairs_32 : decode cX9_gatherPairs 32 = .ok (.ifCond .eq 14, 3) := by decide +kernel
theorem dX9_gatherPairs_35 : decode cX9_gatherPairs 35 = .ok (.aload_n 0, 1) := by decide +kernel
theorem dX9_gatherPairs_36 : decode cX9_gatherPairs 36 = .ok (.getfield 21, 3) := by decide +kernel
theorem dX9_gatherPairs_39 : decode cX9_gatherPairs 39 = .ok (.iload_n 3, 1) := by decide +kernel
theorem dX9_gatherPairs_40 : decode cX9_gatherPairs 40 = .ok (.baload, 1) := by decide +kernel
theorem dX9_gatherPairs_41 : decode cX9_gatherPairs 41 = .ok (.ifCond .ne 5, 3) := by decide +kernel
theorem dX9_gatherPairs_44 : decode cX9_gatherPairs 44 = .ok (.iconst (-1), 1) := by decide +kernel
theorem dX9_gatherPairs_45 : decode cX9_gatherPairs 45 = .ok (.ireturn, 1) := by decide +kernel
theorem dX9_gatherPairs_46 : decode cX9_gatherPairs 46 = .ok (.aload_n 0, 1) := by decide +kernel
theorem dX9_gatherPairs_47 : decode cX9_gatherPairs 47 = .ok (.getfield 21, 3) := by decide +kernel
theorem dX9_gatherPairs_50 : decode cX9_gatherPairs 50 = .ok (.iload_n 3, 1) := by decide +kernel
theorem dX9_gatherPairs_51 : decode cX9_gatherPairs 51 = .ok (.baload, 1) := by decide +kernel
theorem dX9_gatherPairs_52 : decode cX9_gatherPairs 52 = .ok (.ifCond .eq 34, 3) := by decide +kernel
theorem dX9_gatherPairs_55 : decode cX9_gatherPairs 55 = .ok (.iload 4, 2) := by decide +kernel
theorem dX9_gatherPairs_57 : decode cX9_gatherPairs 57 = .ok (.ifCond .ne 29, 3) := by decide +kernel
theorem dX9_gatherPairs_60 : decode cX9_gatherPairs 60 = .ok (.aload_n 0, 1) := by decide +kernel
theorem dX9_gatherPairs_61 : decode cX9_gatherPairs 61 = .ok (.getfield 11, 3) := by decide +kernel
theorem dX9_gatherPairs_64 : decode cX9_gatherPairs 64 = .ok (.iload_n 2, 1) := by decide +kernel
theorem dX9_gatherPairs_65 : decode cX9_gatherPairs 65 = .ok (.iconst 1, 1) := by decide +kernel
theorem dX9_gatherPairs_66 : decode cX9_gatherPairs 66 = .ok (.aload_n 0, 1) := by decide +kernel
theorem dX9_gatherPairs_67 : decode cX9_gatherPairs 67 = .ok (.getfield 15, 3) := by decide +kernel
theorem dX9_gatherPairs_70 : decode cX9_gatherPairs 70 = .ok (.iload_n 3, 1) := by decide +kernel
theorem dX9_gatherPairs_71 : decode cX9_gatherPairs 71 = .ok (.iaload, 1) := by decide +kernel
theorem dX9_gatherPairs_72 : decode cX9_gatherPairs 72 = .ok (.ishl, 1) := by decide +kernel
theorem dX9_gatherPairs_73 : decode cX9_gatherPairs 73 = .ok (.iconst 1, 1) := by decide +kernel
theorem dX9_gatherPairs_74 : decode cX9_gatherPairs 74 = .ok (.aload_n 0, 1) := by decide +kernel
theorem dX9_gatherPairs_75 : decode cX9_gatherPairs 75 = .ok (.getfield 18, 3) := by decide +kernel
theorem dX9_gatherPairs_78 : decode cX9_gatherPairs 78 = .ok (.iload_n 3, 1) := by decide +kernel
theorem dX9_gatherPairs_79 : decode cX9_gatherPairs 79 = .ok (.iaload, 1) := by decide +kernel
theorem dX9_gatherPairs_80 : decode cX9_gatherPairs 80 = .ok (.ishl, 1) := by decide +kernel
theorem dX9_gatherPairs_81 : decode cX9_gatherPairs 81 = .ok (.ior, 1) := by decide +kernel
theorem dX9_gatherPairs_82 : decode cX9_gatherPairs 82 = .ok (.iastore, 1) := by decide +kernel
theorem dX9_gatherPairs_83 : decode cX9_gatherPairs 83 = .ok (.iinc 2 1, 3) := by decide +kernel
theorem dX9_gatherPairs_86 : decode cX9_gatherPairs 86 = .ok (.iinc 3 1, 3) := by decide +kernel
theorem dX9_gatherPairs_89 : decode cX9_gatherPairs 89 = .ok (.goto (-85), 3) := by decide +kernel
theorem dX9_gatherPairs_92 : decode cX9_gatherPairs 92 = .ok (.iload_n 2, 1) := by decide +kernel
theorem dX9_gatherPairs_93 : decode cX9_gatherPairs 93 = .ok (.ireturn, 1) := by decide +kernel
set_option maxHeartbeats 4000000 in
set_option maxRecDepth 100000 in
theorem c_X9_gatherPairs (l : Launch) (D : va_G) (cs : Nat → ClassId) (kK kV : Nat → Nat) (a : Nat) (b0 : Nat) (a__size : Int32) (a__fewest : Int32) (a__honest : Int32) (a_pair : Nat) (a_one : Nat) (a_other : Nat) (a_fitted : Nat) (a_one_c : Nat → Int32) (a_other_c : Nat → Int32) (b0__stalls : Int32) (b0__shift : Int32) (b0__halves : Int32) (b0__buyers : Int32) (b0__near : Int32) (b0__dusk : Int32) (b0__duskPrice : Int32) (b0__hear : Int32) (b0__forged : Int32) (b0_stall : Nat) (b0_shape : Nat) (b0_side : Nat) (b0_price : Nat) (b0_purse : Nat) (b0_spot : Nat) (b0_club : Nat) (b0_fitting : Nat) (b0_nearly : Nat) (b0_side_c : Nat → Int32) (b0_shape_c : Nat → Int32) (a_fitted_c : Nat → Int32) (a_pair_c : Nat → Int32) (h_a__size : IV 0 12 a__size) (h_a_one_c : CI 12 0 11 a_one_c) (h_a_other_c : CI 12 0 11 a_other_c) (sz : Nat) : Met l yX9_gatherPairs (hz_w yX9_gatherPairs cX9_gatherPairs 5 (some .int)) ({ frames := 1, cells := 0, slots := 0, locals := 22 }) (va_Pc [.ref a, .ref b0] (hz_C D cs kK kV sz [(a, .inr (9, [.int a__size, .int a__fewest, .int a__honest, .ref a_pair, .ref a_one, .ref a_other, .ref a_fitted])), (a_one, .inl (cs 0, 12, .inl a_one_c)), (a_other, .inl (cs 0, 12, .inl a_other_c)), (b0, .inr (8, [.int b0__stalls, .int b0__shift, .int b0__halves, .int b0__buyers, .int b0__near, .int b0__dusk, .int b0__duskPrice, .int b0__hear, .int b0__forged, .ref b0_stall, .ref b0_shape, .ref b0_side, .ref b0_price, .ref b0_purse, .ref b0_spot, .ref b0_club, .ref b0_fitting, .ref b0_nearly])), (b0_side, .inl (cs 0, 12, .inl b0_side_c)), (b0_shape, .inl (cs 0, 12, .inl b0_shape_c)), (a_fitted, .inl (cs 2, 12, .inl a_fitted_c)), (a_pair, .inl (cs 0, 12, .inl a_pair_c))])) (va_Qi (fun (r : Int32) (_ : Unit) => (r = (-1) ∧ IV 1 12 a__size) ∨ (IV 0 12 r)) (fun _ t => ∃ (o_a_pair_c : Nat → Int32), va_P D classes [(a, .inr (9, [.int a__size, .int a__fewest, .int a__honest, .ref a_pair, .ref a_one, .ref a_other, .ref a_fitted])), (a_one, .inl (cs 0, 12, .inl a_one_c)), (a_other, .inl (cs 0, 12, .inl a_other_c)), (b0, .inr (8, [.int b0__stalls, .int b0__shift, .int b0__halves, .int b0__buyers, .int b0__near, .int b0__dusk, .int b0__duskPrice, .int b0__hear, .int b0__forged, .ref b0_stall, .ref b0_shape, .ref b0_side, .ref b0_price, .ref b0_purse, .ref b0_spot, .ref b0_club, .ref b0_fitting, .ref b0_nearly])), (b0_side, .inl (cs 0, 12, .inl b0_side_c)), (b0_shape, .inl (cs 0, 12, .inl b0_shape_c)), (a_fitted, .inl (cs 2, 12, .inl a_fitted_c)), (a_pair, .inl (cs 0, 12, .inl o_a_pair_c))] t.heap ∧ va_D (va_A [(a, .inr (9, [.int a__size, .int a__fewest, .int a__honest, .ref a_pair, .ref a_one, .ref a_other, .ref a_fitted])), (a_one, .inl (cs 0, 12, .inl a_one_c)), (a_other, .inl (cs 0, 12, .inl a_other_c)), (b0, .inr (8, [.int b0__stalls, .int b0__shift, .int b0__halves, .int b0__buyers, .int b0__near, .int b0__dusk, .int b0__duskPrice, .int b0__hear, .int b0__forged, .ref b0_stall, .ref b0_shape, .ref b0_side, .ref b0_price, .ref b0_purse, .ref b0_spot, .ref b0_club, .ref b0_fitting, .ref b0_nearly])), (b0_side, .inl (cs 0, 12, .inl b0_side_c)), (b0_shape, .inl (cs 0, 12, .inl b0_shape_c)), (a_fitted, .inl (cs 2, 12, .inl a_fitted_c)), (a_pair, .inl (cs 0, 12, .inl a_pair_c))] sz) [(a, .inr (9, [.int a__size, .int a__fewest, .int a__honest, .ref a_pair, .ref a_one, .ref a_other, .ref a_fitted])), (a_one, .inl (cs 0, 12, .inl a_one_c)), (a_other, .inl (cs 0, 12, .inl a_other_c)), (b0, .inr (8, [.int b0__stalls, .int b0__shift, .int b0__halves, .int b0__buyers, .int b0__near, .int b0__dusk, .int b0__duskPrice, .int b0__hear, .int b0__forged, .ref b0_stall, .ref b0_shape, .ref b0_side, .ref b0_price, .ref b0_purse, .ref b0_spot, .ref b0_club, .ref b0_fitting, .ref b0_nearly])), (b0_side, .inl (cs 0, 12, .inl b0_side_c)), (b0_shape, .inl (cs 0, 12, .inl b0_shape_c)), (a_fitted, .inl (cs 2, 12, .inl a_fitted_c)), (a_pair, .inl (cs 0, 12, .inl o_a_pair_c))]) (va_A [(a, .inr (9, [.int a__size, .int a__fewest, .int a__honest, .ref a_pair, .ref a_one, .ref a_other, .ref a_fitted])), (a_one, .inl (cs 0, 12, .inl a_one_c)), (a_other, .inl (cs 0, 12, .inl a_other_c)), (b0, .inr (8, [.int b0__stalls, .int b0__shift, .int b0__halves, .int b0__buyers, .int b0__near, .int b0__dusk, .int b0__duskPrice, .int b0__hear, .int b0__forged, .ref b0_stall, .ref b0_shape, .ref b0_side, .ref b0_price, .ref b0_purse, .ref b0_spot, .ref b0_club, .ref b0_fitting, .ref b0_nearly])), (b0_side, .inl (cs 0, 12, .inl b0_side_c)), (b0_shape, .inl (cs 0, 12, .inl b0_shape_c)), (a_fitted, .inl (cs 2, 12, .inl a_fitted_c)), (a_pair, .inl (cs 0, 12, .inl a_pair_c))] sz)) 0 0 (va_A [(a, .inr (9, [.int a__size, .int a__fewest, .int a__honest, .ref a_pair, .ref a_one, .ref a_other, .ref a_fitted])), (a_one, .inl (cs 0, 12, .inl a_one_c)), (a_other, .inl (cs 0, 12, .inl a_other_c)), (b0, .inr (8, [.int b0__stalls, .int b0__shift, .int b0__halves, .int b0__buyers, .int b0__near, .int b0__dusk, .int b0__duskPrice, .int b0__hear, .int b0__forged, .ref b0_stall, .ref b0_shape, .ref b0_side, .ref b0_price, .ref b0_purse, .ref b0_spot, .ref b0_club, .ref b0_fitting, .ref b0_nearly])), (b0_side, .inl (cs 0, 12, .inl b0_side_c)), (b0_shape, .inl (cs 0, 12, .inl b0_shape_c)), (a_fitted, .inl (cs 2, 12, .inl a_fitted_c)), (a_pair, .inl (cs 0, 12, .inl a_pair_c))] sz) := by
  refine Met.ofW (cc := cX9_gatherPairs) (maxL := 5) (ret := (some .int)) (by decide) rfl ?_
  intro p e s m args below meth c s₁ B hml hv
  obtain ⟨rfl, hsz, hP, hD0, hE⟩ := hv
  have hx := B.exec
  have hb := B.bytes
  have hr := B.returns
  have hT : ∀ w ∈ TB, w.before _ s = true := fun w h => atoms_spec (ws := hz_w yX9_gatherPairs cX9_gatherPairs 5 (some .int)) B.pre w (List.mem_cons_of_mem _ h)
  have hown : s.vm.findClass RX9 = some m.cls := findClass_of_methodNamed B.named
  have hlocks := B.notSynchronized
  clear B
  subst hsz
  have hD := hD0.self (sz := s.heap.size)
  generalize hAe : va_A [(a, .inr (9, [.int a__size, .int a__fewest, .int a__honest, .ref a_pair, .ref a_one, .ref a_other, .ref a_fitted])), (a_one, .inl (cs 0, 12, .inl a_one_c)), (a_other, .inl (cs 0, 12, .inl a_other_c)), (b0, .inr (8, [.int b0__stalls, .int b0__shift, .int b0__halves, .int b0__buyers, .int b0__near, .int b0__dusk, .int b0__duskPrice, .int b0__hear, .int b0__forged, .ref b0_stall, .ref b0_shape, .ref b0_side, .ref b0_price, .ref b0_purse, .ref b0_spot, .ref b0_club, .ref b0_fitting, .ref b0_nearly])), (b0_side, .inl (cs 0, 12, .inl b0_side_c)), (b0_shape, .inl (cs 0, 12, .inl b0_shape_c)), (a_fitted, .inl (cs 2, 12, .inl a_fitted_c)), (a_pair, .inl (cs 0, 12, .inl a_pair_c))] s.heap.size = A at hD hE ⊢
  have hA : ∀ q : Nat, s.heap.size ≤ q → A q := fun q h => by rw [← hAe]; exact Or.inr h
  clear hAe hD0
  have hS : va_S A s.heap s.heap [] := va_S.rf
  have hK := hE.1
  have hl := lv_entry ([.ref a, .ref b0]) (n := 5) (Nat.le_of_ble_eq_true rfl)
  rw [lg_entry_eq]
  generalize (lg_sl ([.ref a, .ref b0]) ++ List.replicate (5 - (lg_sl ([.ref a, .ref b0])).length) Slot.unset).toArray = ls at hl ⊢
  have hl : lv_has ls 5 [(0, .ref a), (1, .ref b0)] := hl
  obtain ⟨H, eH⟩ : ∃ z, z = s.heap := ⟨_, rfl⟩
  have hP : va_P D classes [(a, .inr (9, [.int a__size, .int a__fewest, .int a__honest, .ref a_pair, .ref a_one, .ref a_other, .ref a_fitted])), (a_one, .inl (cs 0, 12, .inl a_one_c)), (a_other, .inl (cs 0, 12, .inl a_other_c)), (b0, .inr (8, [.int b0__stalls, .int b0__shift, .int b0__halves, .int b0__buyers, .int b0__near, .int b0__dusk, .int b0__duskPrice, .int b0__hear, .int b0__forged, .ref b0_stall, .ref b0_shape, .ref b0_side, .ref b0_price, .ref b0_purse, .ref b0_spot, .ref b0_club, .ref b0_fitting, .ref b0_nearly])), (b0_side, .inl (cs 0, 12, .inl b0_side_c)), (b0_shape, .inl (cs 0, 12, .inl b0_shape_c)), (a_fitted, .inl (cs 2, 12, .inl a_fitted_c)), (a_pair, .inl (cs 0, 12, .inl a_pair_c))] H := by rw [eH]; exact hP
  have hS : va_S A s.heap H [] := by rw [eH]; exact hS
  rw [← eH]
  clear eH
  obtain ⟨locs, el⟩ : ∃ z : List Loc, z = [] := ⟨_, rfl⟩
  rw [← el] at hS ⊢
  clear el
  have K4 : ∀ (n : Nat) (k4_L_3 : Int32) (k4_L_2 : Int32) (k4_C_a_pair : Nat → Int32), (12 - k4_L_3.toInt + 1).toNat ≤ n → IV 0 12 k4_L_2 → IV 0 12 k4_L_3 → k4_L_2.toInt ≤ k4_L_3.toInt + 0 → ∀ (H : Heap) (locs : List Loc), va_P D classes [(a, .inr (9, [.int a__size, .int a__fewest, .int a__honest, .ref a_pair, .ref a_one, .ref a_other, .ref a_fitted])), (a_one, .inl (cs 0, 12, .inl a_one_c)), (a_other, .inl (cs 0, 12, .inl a_other_c)), (b0, .inr (8, [.int b0__stalls, .int b0__shift, .int b0__halves, .int b0__buyers, .int b0__near, .int b0__dusk, .int b0__duskPrice, .int b0__hear, .int b0__forged, .ref b0_stall, .ref b0_shape, .ref b0_side, .ref b0_price, .ref b0_purse, .ref b0_spot, .ref b0_club, .ref b0_fitting, .ref b0_nearly])), (b0_side, .inl (cs 0, 12, .inl b0_side_c)), (b0_shape, .inl (cs 0, 12, .inl b0_shape_c)), (a_fitted, .inl (cs 2, 12, .inl a_fitted_c)), (a_pair, .inl (cs 0, 12, .inl k4_C_a_pair))] H → va_D A [(a, .inr (9, [.int a__size, .int a__fewest, .int a__honest, .ref a_pair, .ref a_one, .ref a_other, .ref a_fitted])), (a_one, .inl (cs 0, 12, .inl a_one_c)), (a_other, .inl (cs 0, 12, .inl a_other_c)), (b0, .inr (8, [.int b0__stalls, .int b0__shift, .int b0__halves, .int b0__buyers, .int b0__near, .int b0__dusk, .int b0__duskPrice, .int b0__hear, .int b0__forged, .ref b0_stall, .ref b0_shape, .ref b0_side, .ref b0_price, .ref b0_purse, .ref b0_spot, .ref b0_club, .ref b0_fitting, .ref b0_nearly])), (b0_side, .inl (cs 0, 12, .inl b0_side_c)), (b0_shape, .inl (cs 0, 12, .inl b0_shape_c)), (a_fitted, .inl (cs 2, 12, .inl a_fitted_c)), (a_pair, .inl (cs 0, 12, .inl k4_C_a_pair))] → va_S A s.heap H locs → ∀ ls : Array Slot, lv_has ls 5 [(3, .int k4_L_3), (2, .int k4_L_2), (0, .ref a), (1, .ref b0)] → W p l e (headSpec (hz_w yX9_gatherPairs cX9_gatherPairs 5 (some .int)) ({ frames := 1, cells := 0, slots := 0, locals := 22 })).room s m [.ref a, .ref b0].toArray below meth c H locs 0 0 (MQ below (va_Qi (fun (r : Int32) (_ : Unit) => (r = (-1) ∧ IV 1 12 a__size) ∨ (IV 0 12 r)) (fun _ t => ∃ (o_a_pair_c : Nat → Int32), va_P D classes [(a, .inr (9, [.int a__size, .int a__fewest, .int a__honest, .ref a_pair, .ref a_one, .ref a_other, .ref a_fitted])), (a_one, .inl (cs 0, 12, .inl a_one_c)), (a_other, .inl (cs 0, 12, .inl a_other_c)), (b0, .inr (8, [.int b0__stalls, .int b0__shift, .int b0__halves, .int b0__buyers, .int b0__near, .int b0__dusk, .int b0__duskPrice, .int b0__hear, .int b0__forged, .ref b0_stall, .ref b0_shape, .ref b0_side, .ref b0_price, .ref b0_purse, .ref b0_spot, .ref b0_club, .ref b0_fitting, .ref b0_nearly])), (b0_side, .inl (cs 0, 12, .inl b0_side_c)), (b0_shape, .inl (cs 0, 12, .inl b0_shape_c)), (a_fitted, .inl (cs 2, 12, .inl a_fitted_c)), (a_pair, .inl (cs 0, 12, .inl o_a_pair_c))] t.heap ∧ va_D A [(a, .inr (9, [.int a__size, .int a__fewest, .int a__honest, .ref a_pair, .ref a_one, .ref a_other, .ref a_fitted])), (a_one, .inl (cs 0, 12, .inl a_one_c)), (a_other, .inl (cs 0, 12, .inl a_other_c)), (b0, .inr (8, [.int b0__stalls, .int b0__shift, .int b0__halves, .int b0__buyers, .int b0__near, .int b0__dusk, .int b0__duskPrice, .int b0__hear, .int b0__forged, .ref b0_stall, .ref b0_shape, .ref b0_side, .ref b0_price, .ref b0_purse, .ref b0_spot, .ref b0_club, .ref b0_fitting, .ref b0_nearly])), (b0_side, .inl (cs 0, 12, .inl b0_side_c)), (b0_shape, .inl (cs 0, 12, .inl b0_shape_c)), (a_fitted, .inl (cs 2, 12, .inl a_fitted_c)), (a_pair, .inl (cs 0, 12, .inl o_a_pair_c))]) A) [.ref a, .ref b0].toArray s 0 0 A) (F0 m 4 ls []) := by
    intro n
    induction n with
    | zero =>
      intro k4_L_3 k4_L_2 k4_C_a_pair hn q4_4 q4_5 y4_0 H locs hP hD hS ls hl
      exact absurd hn (by unfold IV at q4_5; omega)
    | succ n ih4 =>
      intro k4_L_3 k4_L_2 k4_C_a_pair hn q4_4 q4_5 y4_0 H locs hP hD hS ls hl
      have K86 : ∀ (k86_L_4 : Int32) (k86_L_2 : Int32) (k86_C_a_pair : Nat → Int32), IV 1 12 a__size → IV 0 11 k4_L_3 → IV 0 12 k86_L_2 → IV 0 1 k86_L_4 → k86_L_2.toInt ≤ k4_L_3.toInt + 1 → ∀ (H : Heap) (locs : List Loc), va_P D classes [(a, .inr (9, [.int a__size, .int a__fewest, .int a__honest, .ref a_pair, .ref a_one, .ref a_other, .ref a_fitted])), (a_one, .inl (cs 0, 12, .inl a_one_c)), (a_other, .inl (cs 0, 12, .inl a_other_c)), (b0, .inr (8, [.int b0__stalls, .int b0__shift, .int b0__halves, .int b0__buyers, .int b0__near, .int b0__dusk, .int b0__duskPrice, .int b0__hear, .int b0__forged, .ref b0_stall, .ref b0_shape, .ref b0_side, .ref b0_price, .ref b0_purse, .ref b0_spot, .ref b0_club, .ref b0_fitting, .ref b0_nearly])), (b0_side, .inl (cs 0, 12, .inl b0_side_c)), (b0_shape, .inl (cs 0, 12, .inl b0_shape_c)), (a_fitted, .inl (cs 2, 12, .inl a_fitted_c)), (a_pair, .inl (cs 0, 12, .inl k86_C_a_pair))] H → va_D A [(a, .inr (9, [.int a__size, .int a__fewest, .int a__honest, .ref a_pair, .ref a_one, .ref a_other, .ref a_fitted])), (a_one, .inl (cs 0, 12, .inl a_one_c)), (a_other, .inl (cs 0, 12, .inl a_other_c)), (b0, .inr (8, [.int b0__stalls, .int b0__shift, .int b0__halves, .int b0__buyers, .int b0__near, .int b0__dusk, .int b0__duskPrice, .int b0__hear, .int b0__forged, .ref b0_stall, .ref b0_shape, .ref b0_side, .ref b0_price, .ref b0_purse, .ref b0_spot, .ref b0_club, .ref b0_fitting, .ref b0_nearly])), (b0_side, .inl (cs 0, 12, .inl b0_side_c)), (b0_shape, .inl (cs 0, 12, .inl b0_shape_c)), (a_fitted, .inl (cs 2, 12, .inl a_fitted_c)), (a_pair, .inl (cs 0, 12, .inl k86_C_a_pair))] → va_S A s.heap H locs → ∀ ls : Array Slot, lv_has ls 5 [(4, .int k86_L_4), (3, .int k4_L_3), (2, .int k86_L_2), (0, .ref a), (1, .ref b0)] → W p l e (headSpec (hz_w yX9_gatherPairs cX9_gatherPairs 5 (some .int)) ({ frames := 1, cells := 0, slots := 0, locals := 22 })).room s m [.ref a, .ref b0].toArray below meth c H locs 0 0 (MQ below (va_Qi (fun (r : Int32) (_ : Unit) => (r = (-1) ∧ IV 1 12 a__size) ∨ (IV 0 12 r)) (fun _ t => ∃ (o_a_pair_c : Nat → Int32), va_P D classes [(a, .inr (9, [.int a__size, .int a__fewest, .int a__honest, .ref a_pair, .ref a_one, .ref a_other, .ref a_fitted])), (a_one, .inl (cs 0, 12, .inl a_one_c)), (a_other, .inl (cs 0, 12, .inl a_other_c)), (b0, .inr (8, [.int b0__stalls, .int b0__shift, .int b0__halves, .int b0__buyers, .int b0__near, .int b0__dusk, .int b0__duskPrice, .int b0__hear, .int b0__forged, .ref b0_stall, .ref b0_shape, .ref b0_side, .ref b0_price, .ref b0_purse, .ref b0_spot, .ref b0_club, .ref b0_fitting, .ref b0_nearly])), (b0_side, .inl (cs 0, 12, .inl b0_side_c)), (b0_shape, .inl (cs 0, 12, .inl b0_shape_c)), (a_fitted, .inl (cs 2, 12, .inl a_fitted_c)), (a_pair, .inl (cs 0, 12, .inl o_a_pair_c))] t.heap ∧ va_D A [(a, .inr (9, [.int a__size, .int a__fewest, .int a__honest, .ref a_pair, .ref a_one, .ref a_other, .ref a_fitted])), (a_one, .inl (cs 0, 12, .inl a_one_c)), (a_other, .inl (cs 0, 12, .inl a_other_c)), (b0, .inr (8, [.int b0__stalls, .int b0__shift, .int b0__halves, .int b0__buyers, .int b0__near, .int b0__dusk, .int b0__duskPrice, .int b0__hear, .int b0__forged, .ref b0_stall, .ref b0_shape, .ref b0_side, .ref b0_price, .ref b0_purse, .ref b0_spot, .ref b0_club, .ref b0_fitting, .ref b0_nearly])), (b0_side, .inl (cs 0, 12, .inl b0_side_c)), (b0_shape, .inl (cs 0, 12, .inl b0_shape_c)), (a_fitted, .inl (cs 2, 12, .inl a_fitted_c)), (a_pair, .inl (cs 0, 12, .inl o_a_pair_c))]) A) [.ref a, .ref b0].toArray s 0 0 A) (F0 m 86 ls []) := by
        intro k86_L_4 k86_L_2 k86_C_a_pair q86_0 q86_4 q86_5 q86_6 y86_0 H locs hP hD hS ls hl
        obtain ⟨v1, ev1⟩ : ∃ z : Int32, z = k4_L_3 + 1 := ⟨_, rfl⟩
        have hv1 : IV 1 12 v1 := iv_add ev1 q86_4 (iv_c (a := 1) (b := 1) (by decide)) (by decide) (by decide)
        have dv1 : v1.toInt = k4_L_3.toInt + 1 := iv_addE ev1 q86_4 (iv_c (a := 1) (b := 1) (by decide)) (by decide) (by decide) (by decide)
        refine lv_iinc (v := v1) (lv' := [(3, .int v1), (4, .int k86_L_4), (2, .int k86_L_2), (0, .ref a), (1, .ref b0)]) hx hb dX9_gatherPairs_86 hl (k := 1) rfl (by rw [ev1]; rfl) (by decide) rfl (fun ls hl => ?_)
        refine lv_goto (tgt := 4) hx hb dX9_gatherPairs_89 (by decide) ?_
        exact ih4 v1 k86_L_2 k86_C_a_pair (by have h9 := q86_4; unfold IV at h9; have := dv1; omega) q86_5 (iv_w hv1 (by decide) (by decide)) (by have i0 := q86_5; unfold IV at i0; have i0 := hv1; unfold IV at i0; have := dv1; have i0 := q86_4; unfold IV at i0; have := y86_0; have := y4_0; omega) H locs (hP.sub (ws' := [(a, .inr (9, [.int a__size, .int a__fewest, .int a__honest, .ref a_pair, .ref a_one, .ref a_other, .ref a_fitted])), (a_one, .inl (cs 0, 12, .inl a_one_c)), (a_other, .inl (cs 0, 12, .inl a_other_c)), (b0, .inr (8, [.int b0__stalls, .int b0__shift, .int b0__halves, .int b0__buyers, .int b0__near, .int b0__dusk, .int b0__duskPrice, .int b0__hear, .int b0__forged, .ref b0_stall, .ref b0_shape, .ref b0_side, .ref b0_price, .ref b0_purse, .ref b0_spot, .ref b0_club, .ref b0_fitting, .ref b0_nearly])), (b0_side, .inl (cs 0, 12, .inl b0_side_c)), (b0_shape, .inl (cs 0, 12, .inl b0_shape_c)), (a_fitted, .inl (cs 2, 12, .inl a_fitted_c)), (a_pair, .inl (cs 0, 12, .inl k86_C_a_pair))]) [0, 1, 2, 3, 4, 5, 6, 7] rfl) (hD.sub (ws' := [(a, .inr (9, [.int a__size, .int a__fewest, .int a__honest, .ref a_pair, .ref a_one, .ref a_other, .ref a_fitted])), (a_one, .inl (cs 0, 12, .inl a_one_c)), (a_other, .inl (cs 0, 12, .inl a_other_c)), (b0, .inr (8, [.int b0__stalls, .int b0__shift, .int b0__halves, .int b0__buyers, .int b0__near, .int b0__dusk, .int b0__duskPrice, .int b0__hear, .int b0__forged, .ref b0_stall, .ref b0_shape, .ref b0_side, .ref b0_price, .ref b0_purse, .ref b0_spot, .ref b0_club, .ref b0_fitting, .ref b0_nearly])), (b0_side, .inl (cs 0, 12, .inl b0_side_c)), (b0_shape, .inl (cs 0, 12, .inl b0_shape_c)), (a_fitted, .inl (cs 2, 12, .inl a_fitted_c)), (a_pair, .inl (cs 0, 12, .inl k86_C_a_pair))]) [0, 1, 2, 3, 4, 5, 6, 7] (by decide) rfl) hS ls (lv_sub hl [0, 2, 3, 4] rfl)
      have K46 : ∀ (k46_L_4 : Int32), IV 1 12 a__size → IV 0 1 k46_L_4 → IV 0 12 k4_L_2 → IV 0 11 k4_L_3 → ∀ (H : Heap) (locs : List Loc), va_P D classes [(a, .inr (9, [.int a__size, .int a__fewest, .int a__honest, .ref a_pair, .ref a_one, .ref a_other, .ref a_fitted])), (a_one, .inl (cs 0, 12, .inl a_one_c)), (a_other, .inl (cs 0, 12, .inl a_other_c)), (b0, .inr (8, [.int b0__stalls, .int b0__shift, .int b0__halves, .int b0__buyers, .int b0__near, .int b0__dusk, .int b0__duskPrice, .int b0__hear, .int b0__forged, .ref b0_stall, .ref b0_shape, .ref b0_side, .ref b0_price, .ref b0_purse, .ref b0_spot, .ref b0_club, .ref b0_fitting, .ref b0_nearly])), (b0_side, .inl (cs 0, 12, .inl b0_side_c)), (b0_shape, .inl (cs 0, 12, .inl b0_shape_c)), (a_fitted, .inl (cs 2, 12, .inl a_fitted_c)), (a_pair, .inl (cs 0, 12, .inl k4_C_a_pair))] H → va_D A [(a, .inr (9, [.int a__size, .int a__fewest, .int a__honest, .ref a_pair, .ref a_one, .ref a_other, .ref a_fitted])), (a_one, .inl (cs 0, 12, .inl a_one_c)), (a_other, .inl (cs 0, 12, .inl a_other_c)), (b0, .inr (8, [.int b0__stalls, .int b0__shift, .int b0__halves, .int b0__buyers, .int b0__near, .int b0__dusk, .int b0__duskPrice, .int b0__hear, .int b0__forged, .ref b0_stall, .ref b0_shape, .ref b0_side, .ref b0_price, .ref b0_purse, .ref b0_spot, .ref b0_club, .ref b0_fitting, .ref b0_nearly])), (b0_side, .inl (cs 0, 12, .inl b0_side_c)), (b0_shape, .inl (cs 0, 12, .inl b0_shape_c)), (a_fitted, .inl (cs 2, 12, .inl a_fitted_c)), (a_pair, .inl (cs 0, 12, .inl k4_C_a_pair))] → va_S A s.heap H locs → ∀ ls : Array Slot, lv_has ls 5 [(4, .int k46_L_4), (3, .int k4_L_3), (2, .int k4_L_2), (0, .ref a), (1, .ref b0)] → W p l e (headSpec (hz_w yX9_gatherPairs cX9_gatherPairs 5 (some .int)) ({ frames := 1, cells := 0, slots := 0, locals := 22 })).room s m [.ref a, .ref b0].toArray below meth c H locs 0 0 (MQ below (va_Qi (fun (r : Int32) (_ : Unit) => (r = (-1) ∧ IV 1 12 a__size) ∨ (IV 0 12 r)) (fun _ t => ∃ (o_a_pair_c : Nat → Int32), va_P D classes [(a, .inr (9, [.int a__size, .int a__fewest, .int a__honest, .ref a_pair, .ref a_one, .ref a_other, .ref a_fitted])), (a_one, .inl (cs 0, 12, .inl a_one_c)), (a_other, .inl (cs 0, 12, .inl a_other_c)), (b0, .inr (8, [.int b0__stalls, .int b0__shift, .int b0__halves, .int b0__buyers, .int b0__near, .int b0__dusk, .int b0__duskPrice, .int b0__hear, .int b0__forged, .ref b0_stall, .ref b0_shape, .ref b0_side, .ref b0_price, .ref b0_purse, .ref b0_spot, .ref b0_club, .ref b0_fitting, .ref b0_nearly])), (b0_side, .inl (cs 0, 12, .inl b0_side_c)), (b0_shape, .inl (cs 0, 12, .inl b0_shape_c)), (a_fitted, .inl (cs 2, 12, .inl a_fitted_c)), (a_pair, .inl (cs 0, 12, .inl o_a_pair_c))] t.heap ∧ va_D A [(a, .inr (9, [.int a__size, .int a__fewest, .int a__honest, .ref a_pair, .ref a_one, .ref a_other, .ref a_fitted])), (a_one, .inl (cs 0, 12, .inl a_one_c)), (a_other, .inl (cs 0, 12, .inl a_other_c)), (b0, .inr (8, [.int b0__stalls, .int b0__shift, .int b0__halves, .int b0__buyers, .int b0__near, .int b0__dusk, .int b0__duskPrice, .int b0__hear, .int b0__forged, .ref b0_stall, .ref b0_shape, .ref b0_side, .ref b0_price, .ref b0_purse, .ref b0_spot, .ref b0_club, .ref b0_fitting, .ref b0_nearly])), (b0_side, .inl (cs 0, 12, .inl b0_side_c)), (b0_shape, .inl (cs 0, 12, .inl b0_shape_c)), (a_fitted, .inl (cs 2, 12, .inl a_fitted_c)), (a_pair, .inl (cs 0, 12, .inl o_a_pair_c))]) A) [.ref a, .ref b0].toArray s 0 0 A) (F0 m 46 ls []) := by
        intro k46_L_4 q46_0 q46_4 q46_5 q46_6 H locs hP hD hS ls hl
        refine lv_aload_n hx hb dX9_gatherPairs_46 rfl (lv_at hl 3 rfl) ?_
        refine va_get (D := D) (ci := 9) (v := .ref a_fitted) (C := RX9) (T := TX9) (N := 7) hx hb hT i_X9 hown hK hP 0 rfl rfl 6 (by decide) (hT _ q_152) (fun _ h9 => h9) rfl dX9_gatherPairs_47 ?_
        refine lv_iload_n hx hb dX9_gatherPairs_50 rfl (lv_at hl 1 rfl) ?_
        refine va_zald hx hb hK hP 6 2 rfl rfl (iv_v q46_6 (by decide) (by decide)) dX9_gatherPairs_51 ?_
        refine lv_topi (fun v2 ev2 => ?_)
        refine lv_if_eq (tgt := 86) hx hb dX9_gatherPairs_52 (by decide) (fun c3 => ?_) (fun c3 => ?_)
        · have h4 : IV 0 0 v2 := iv_eq1 c3 iv_top (iv_c (a := 0) (b := 0) (by decide)) (by decide) (by decide)
          exact K86 k46_L_4 k4_L_2 k4_C_a_pair q46_0 q46_6 q46_5 q46_4 (by have i0 := q46_5; unfold IV at i0; have i0 := q46_6; unfold IV at i0; have := y4_0; omega) H locs (hP.sub (ws' := [(a, .inr (9, [.int a__size, .int a__fewest, .int a__honest, .ref a_pair, .ref a_one, .ref a_other, .ref a_fitted])), (a_one, .inl (cs 0, 12, .inl a_one_c)), (a_other, .inl (cs 0, 12, .inl a_other_c)), (b0, .inr (8, [.int b0__stalls, .int b0__shift, .int b0__halves, .int b0__buyers, .int b0__near, .int b0__dusk, .int b0__duskPrice, .int b0__hear, .int b0__forged, .ref b0_stall, .ref b0_shape, .ref b0_side, .ref b0_price, .ref b0_purse, .ref b0_spot, .ref b0_club, .ref b0_fitting, .ref b0_nearly])), (b0_side, .inl (cs 0, 12, .inl b0_side_c)), (b0_shape, .inl (cs 0, 12, .inl b0_shape_c)), (a_fitted, .inl (cs 2, 12, .inl a_fitted_c)), (a_pair, .inl (cs 0, 12, .inl k4_C_a_pair))]) [0, 1, 2, 3, 4, 5, 6, 7] rfl) (hD.sub (ws' := [(a, .inr (9, [.int a__size, .int a__fewest, .int a__honest, .ref a_pair, .ref a_one, .ref a_other, .ref a_fitted])), (a_one, .inl (cs 0, 12, .inl a_one_c)), (a_other, .inl (cs 0, 12, .inl a_other_c)), (b0, .inr (8, [.int b0__stalls, .int b0__shift, .int b0__halves, .int b0__buyers, .int b0__near, .int b0__dusk, .int b0__duskPrice, .int b0__hear, .int b0__forged, .ref b0_stall, .ref b0_shape, .ref b0_side, .ref b0_price, .ref b0_purse, .ref b0_spot, .ref b0_club, .ref b0_fitting, .ref b0_nearly])), (b0_side, .inl (cs 0, 12, .inl b0_side_c)), (b0_shape, .inl (cs 0, 12, .inl b0_shape_c)), (a_fitted, .inl (cs 2, 12, .inl a_fitted_c)), (a_pair, .inl (cs 0, 12, .inl k4_C_a_pair))]) [0, 1, 2, 3, 4, 5, 6, 7] (by decide) rfl) hS ls (lv_sub hl [0, 1, 2, 3, 4] rfl)
        · refine lv_iload hx hb dX9_gatherPairs_55 (lv_at hl 0 rfl) ?_
          refine lv_if_ne (tgt := 86) hx hb dX9_gatherPairs_57 (by decide) (fun c5 => ?_) (fun c5 => ?_)
          · have h6 : IV 1 1 k46_L_4 := iv_neL c5 q46_4 (by decide)
            exact K86 k46_L_4 k4_L_2 k4_C_a_pair q46_0 q46_6 q46_5 (iv_w h6 (by decide) (by decide)) (by have i0 := q46_5; unfold IV at i0; have i0 := q46_6; unfold IV at i0; have := y4_0; omega) H locs (hP.sub (ws' := [(a, .inr (9, [.int a__size, .int a__fewest, .int a__honest, .ref a_pair, .ref a_one, .ref a_other, .ref a_fitted])), (a_one, .inl (cs 0, 12, .inl a_one_c)), (a_other, .inl (cs 0, 12, .inl a_other_c)), (b0, .inr (8, [.int b0__stalls, .int b0__shift, .int b0__halves, .int b0__buyers, .int b0__near, .int b0__dusk, .int b0__duskPrice, .int b0__hear, .int b0__forged, .ref b0_stall, .ref b0_shape, .ref b0_side, .ref b0_price, .ref b0_purse, .ref b0_spot, .ref b0_club, .ref b0_fitting, .ref b0_nearly])), (b0_side, .inl (cs 0, 12, .inl b0_side_c)), (b0_shape, .inl (cs 0, 12, .inl b0_shape_c)), (a_fitted, .inl (cs 2, 12, .inl a_fitted_c)), (a_pair, .inl (cs 0, 12, .inl k4_C_a_pair))]) [0, 1, 2, 3, 4, 5, 6, 7] rfl) (hD.sub (ws' := [(a, .inr (9, [.int a__size, .int a__fewest, .int a__honest, .ref a_pair, .ref a_one, .ref a_other, .ref a_fitted])), (a_one, .inl (cs 0, 12, .inl a_one_c)), (a_other, .inl (cs 0, 12, .inl a_other_c)), (b0, .inr (8, [.int b0__stalls, .int b0__shift, .int b0__halves, .int b0__buyers, .int b0__near, .int b0__dusk, .int b0__duskPrice, .int b0__hear, .int b0__forged, .ref b0_stall, .ref b0_shape, .ref b0_side, .ref b0_price, .ref b0_purse, .ref b0_spot, .ref b0_club, .ref b0_fitting, .ref b0_nearly])), (b0_side, .inl (cs 0, 12, .inl b0_side_c)), (b0_shape, .inl (cs 0, 12, .inl b0_shape_c)), (a_fitted, .inl (cs 2, 12, .inl a_fitted_c)), (a_pair, .inl (cs 0, 12, .inl k4_C_a_pair))]) [0, 1, 2, 3, 4, 5, 6, 7] (by decide) rfl) hS ls (lv_sub hl [0, 1, 2, 3, 4] rfl)
          · have h7 : IV 0 0 k46_L_4 := iv_eq1 c5 q46_4 (iv_c (a := 0) (b := 0) (by decide)) (by decide) (by decide)
            refine lv_aload_n hx hb dX9_gatherPairs_60 rfl (lv_at hl 3 rfl) ?_
            refine va_get (D := D) (ci := 9) (v := .ref a_pair) (C := RX9) (T := TX9) (N := 7) hx hb hT i_X9 hown hK hP 0 rfl rfl 3 (by decide) (hT _ q_149) (fun _ h9 => h9) rfl dX9_gatherPairs_61 ?_
            refine lv_iload_n hx hb dX9_gatherPairs_64 rfl (lv_at hl 2 rfl) ?_
            refine lv_iconst (v := 1) hx hb dX9_gatherPairs_65 (by decide) ?_
            refine lv_aload_n hx hb dX9_gatherPairs_66 rfl (lv_at hl 3 rfl) ?_
            refine va_get (D := D) (ci := 9) (v := .ref a_one) (C := RX9) (T := TX9) (N := 7) hx hb hT i_X9 hown hK hP 0 rfl rfl 4 (by decide) (hT _ q_150) (fun _ h9 => h9) rfl dX9_gatherPairs_67 ?_
            refine lv_iload_n hx hb dX9_gatherPairs_70 rfl (lv_at hl 1 rfl) ?_
            refine va_iald hx hb hK hP 1 0 rfl rfl (iv_v q46_6 (by decide) (by decide)) dX9_gatherPairs_71 ?_
            refine lv_topi (fun v8 ev8 => ?_)
            have hv8 : IV 0 11 v8 := iv_ci ev8 h_a_one_c (iv_v q46_6 (by decide) (by decide))
            refine lv_ishl hx hb dX9_gatherPairs_72 ?_
            refine lv_topi (fun v9 ev9 => ?_)
            have hv9 : IV 1 2048 v9 := iv_shl1 ev9 hv8 (by decide) (by decide) (by decide)
            refine lv_iconst (v := 1) hx hb dX9_gatherPairs_73 (by decide) ?_
            refine lv_aload_n hx hb dX9_gatherPairs_74 rfl (lv_at hl 3 rfl) ?_
            refine va_get (D := D) (ci := 9) (v := .ref a_other) (C := RX9) (T := TX9) (N := 7) hx hb hT i_X9 hown hK hP 0 rfl rfl 5 (by decide) (hT _ q_151) (fun _ h9 => h9) rfl dX9_gatherPairs_75 ?_
            refine lv_iload_n hx hb dX9_gatherPairs_78 rfl (lv_at hl 1 rfl) ?_
            refine va_iald hx hb hK hP 2 0 rfl rfl (iv_v q46_6 (by decide) (by decide)) dX9_gatherPairs_79 ?_
            refine lv_topi (fun v10 ev10 => ?_)
            have hv10 : IV 0 11 v10 := iv_ci ev10 h_a_other_c (iv_v q46_6 (by decide) (by decide))
            refine lv_ishl hx hb dX9_gatherPairs_80 ?_
            refine lv_topi (fun v11 ev11 => ?_)
            have hv11 : IV 1 2048 v11 := iv_shl1 ev11 hv10 (by decide) (by decide) (by decide)
            refine lv_ior hx hb dX9_gatherPairs_81 ?_
            refine lv_topi (fun v12 ev12 => ?_)
            have hv12 : IV 0 4095 v12 := iv_or (k := 12) ev12 hv9 hv11 (by decide) (by decide) (by decide) (by decide) (by decide) (by decide)
            have h13 : IV 0 11 k4_L_2 := iv_rel y4_0 q46_5 q46_6 (by decide)
            refine va_iast hx hb hK hP hD hS 7 0 rfl rfl (iv_v h13 (by decide) (by decide)) dX9_gatherPairs_82 (fun H locs hP hD hS => ?_)
            have hP : va_P D classes [(a, .inr (9, [.int a__size, .int a__fewest, .int a__honest, .ref a_pair, .ref a_one, .ref a_other, .ref a_fitted])), (a_one, .inl (cs 0, 12, .inl a_one_c)), (a_other, .inl (cs 0, 12, .inl a_other_c)), (b0, .inr (8, [.int b0__stalls, .int b0__shift, .int b0__halves, .int b0__buyers, .int b0__near, .int b0__dusk, .int b0__duskPrice, .int b0__hear, .int b0__forged, .ref b0_stall, .ref b0_shape, .ref b0_side, .ref b0_price, .ref b0_purse, .ref b0_spot, .ref b0_club, .ref b0_fitting, .ref b0_nearly])), (b0_side, .inl (cs 0, 12, .inl b0_side_c)), (b0_shape, .inl (cs 0, 12, .inl b0_shape_c)), (a_fitted, .inl (cs 2, 12, .inl a_fitted_c)), (a_pair, .inl (cs 0, 12, .inl (upd k4_C_a_pair (Int32.toNatClampNeg k4_L_2) v12)))] H := hP
            have hD : va_D A [(a, .inr (9, [.int a__size, .int a__fewest, .int a__honest, .ref a_pair, .ref a_one, .ref a_other, .ref a_fitted])), (a_one, .inl (cs 0, 12, .inl a_one_c)), (a_other, .inl (cs 0, 12, .inl a_other_c)), (b0, .inr (8, [.int b0__stalls, .int b0__shift, .int b0__halves, .int b0__buyers, .int b0__near, .int b0__dusk, .int b0__duskPrice, .int b0__hear, .int b0__forged, .ref b0_stall, .ref b0_shape, .ref b0_side, .ref b0_price, .ref b0_purse, .ref b0_spot, .ref b0_club, .ref b0_fitting, .ref b0_nearly])), (b0_side, .inl (cs 0, 12, .inl b0_side_c)), (b0_shape, .inl (cs 0, 12, .inl b0_shape_c)), (a_fitted, .inl (cs 2, 12, .inl a_fitted_c)), (a_pair, .inl (cs 0, 12, .inl (upd k4_C_a_pair (Int32.toNatClampNeg k4_L_2) v12)))] := hD
            generalize upd k4_C_a_pair (Int32.toNatClampNeg k4_L_2) v12 = f14 at hP hD
            obtain ⟨v15, ev15⟩ : ∃ z : Int32, z = k4_L_2 + 1 := ⟨_, rfl⟩
            have hv15 : IV 1 12 v15 := iv_add ev15 h13 (iv_c (a := 1) (b := 1) (by decide)) (by decide) (by decide)
            have dv15 : v15.toInt = k4_L_2.toInt + 1 := iv_addE ev15 h13 (iv_c (a := 1) (b := 1) (by decide)) (by decide) (by decide) (by decide)
            refine lv_iinc (v := v15) (lv' := [(2, .int v15), (4, .int k46_L_4), (3, .int k4_L_3), (0, .ref a), (1, .ref b0)]) hx hb dX9_gatherPairs_83 hl (k := 2) rfl (by rw [ev15]; rfl) (by decide) rfl (fun ls hl => ?_)
            exact K86 k46_L_4 v15 f14 q46_0 q46_6 (iv_w hv15 (by decide) (by decide)) (iv_w h7 (by decide) (by decide)) (by have i0 := hv15; unfold IV at i0; have := dv15; have i0 := h13; unfold IV at i0; have i0 := q46_6; unfold IV at i0; have := y4_0; omega) H locs (hP.sub (ws' := [(a, .inr (9, [.int a__size, .int a__fewest, .int a__honest, .ref a_pair, .ref a_one, .ref a_other, .ref a_fitted])), (a_one, .inl (cs 0, 12, .inl a_one_c)), (a_other, .inl (cs 0, 12, .inl a_other_c)), (b0, .inr (8, [.int b0__stalls, .int b0__shift, .int b0__halves, .int b0__buyers, .int b0__near, .int b0__dusk, .int b0__duskPrice, .int b0__hear, .int b0__forged, .ref b0_stall, .ref b0_shape, .ref b0_side, .ref b0_price, .ref b0_purse, .ref b0_spot, .ref b0_club, .ref b0_fitting, .ref b0_nearly])), (b0_side, .inl (cs 0, 12, .inl b0_side_c)), (b0_shape, .inl (cs 0, 12, .inl b0_shape_c)), (a_fitted, .inl (cs 2, 12, .inl a_fitted_c)), (a_pair, .inl (cs 0, 12, .inl f14))]) [0, 1, 2, 3, 4, 5, 6, 7] rfl) (hD.sub (ws' := [(a, .inr (9, [.int a__size, .int a__fewest, .int a__honest, .ref a_pair, .ref a_one, .ref a_other, .ref a_fitted])), (a_one, .inl (cs 0, 12, .inl a_one_c)), (a_other, .inl (cs 0, 12, .inl a_other_c)), (b0, .inr (8, [.int b0__stalls, .int b0__shift, .int b0__halves, .int b0__buyers, .int b0__near, .int b0__dusk, .int b0__duskPrice, .int b0__hear, .int b0__forged, .ref b0_stall, .ref b0_shape, .ref b0_side, .ref b0_price, .ref b0_purse, .ref b0_spot, .ref b0_club, .ref b0_fitting, .ref b0_nearly])), (b0_side, .inl (cs 0, 12, .inl b0_side_c)), (b0_shape, .inl (cs 0, 12, .inl b0_shape_c)), (a_fitted, .inl (cs 2, 12, .inl a_fitted_c)), (a_pair, .inl (cs 0, 12, .inl f14))]) [0, 1, 2, 3, 4, 5, 6, 7] (by decide) rfl) hS ls (lv_sub hl [1, 2, 0, 3, 4] rfl)
      refine lv_iload_n hx hb dX9_gatherPairs_4 rfl (lv_at hl 0 rfl) ?_
      refine lv_aload_n hx hb dX9_gatherPairs_5 rfl (lv_at hl 2 rfl) ?_
      refine va_get (D := D) (ci := 9) (v := .int a__size) (C := RX9) (T := TX9) (N := 7) hx hb hT i_X9 hown hK hP 0 rfl rfl 0 (by decide) (hT _ q_153) (fun _ h9 => h9) rfl dX9_gatherPairs_6 ?_
      refine lv_icmp_ge (tgt := 92) hx hb dX9_gatherPairs_9 (by decide) (fun c16 => ?_) (fun c16 => ?_)
      · refine lv_iload_n hx hb dX9_gatherPairs_92 rfl (lv_at hl 1 rfl) ?_
        refine W.widen (k := 0) (n := 0) (Nat.le_of_ble_eq_true rfl) (Nat.le_of_ble_eq_true rfl) ?_
        exact W.iret (v := k4_L_2) hx hb hr (fun t ht hW => ⟨⟨k4_L_2, (), rfl, (Or.inr ((q4_4))), k4_C_a_pair, by rw [ht]; exact hP.sub [0, 1, 2, 3, 4, 5, 6, 7] rfl, hD.sub [0, 1, 2, 3, 4, 5, 6, 7] (by decide) rfl⟩, hS.F ht⟩) hS.2.2 dX9_gatherPairs_93
      · have h17 : IV 0 11 k4_L_3 := iv_lt1 (Int32.not_le.mp c16) q4_5 h_a__size (by decide)
        have h18 : IV 1 12 a__size := iv_lt2 (Int32.not_le.mp c16) q4_5 h_a__size (by decide)
        refine lv_aload_n hx hb dX9_gatherPairs_12 rfl (lv_at hl 3 rfl) ?_
        refine lv_aload_n hx hb dX9_gatherPairs_13 rfl (lv_at hl 2 rfl) ?_
        refine va_get (D := D) (ci := 9) (v := .ref a_one) (C := RX9) (T := TX9) (N := 7) hx hb hT i_X9 hown hK hP 0 rfl rfl 4 (by decide) (hT _ q_150) (fun _ h9 => h9) rfl dX9_gatherPairs_14 ?_
        refine lv_iload_n hx hb dX9_gatherPairs_17 rfl (lv_at hl 0 rfl) ?_
        refine va_iald hx hb hK hP 1 0 rfl rfl (iv_v h17 (by decide) (by decide)) dX9_gatherPairs_18 ?_
        refine lv_topi (fun v19 ev19 => ?_)
        have hv19 : IV 0 11 v19 := iv_ci ev19 h_a_one_c (iv_v h17 (by decide) (by decide))
        refine lv_aload_n hx hb dX9_gatherPairs_19 rfl (lv_at hl 2 rfl) ?_
        refine va_get (D := D) (ci := 9) (v := .ref a_other) (C := RX9) (T := TX9) (N := 7) hx hb hT i_X9 hown hK hP 0 rfl rfl 5 (by decide) (hT _ q_151) (fun _ h9 => h9) rfl dX9_gatherPairs_20 ?_
        refine lv_iload_n hx hb dX9_gatherPairs_23 rfl (lv_at hl 0 rfl) ?_
        refine va_iald hx hb hK hP 2 0 rfl rfl (iv_v h17 (by decide) (by decide)) dX9_gatherPairs_24 ?_
        refine lv_topi (fun v20 ev20 => ?_)
        have hv20 : IV 0 11 v20 := iv_ci ev20 h_a_other_c (iv_v h17 (by decide) (by decide))
        refine va_calli (va_runV (As := [.int v19, .int v20]) (rest := []) ⟨hx, hb, hml, hown, hT⟩ (c_X8_fitsByShape l D cs kK kV b0 v19 v20 b0__stalls b0__shift b0__halves b0__buyers b0__near b0__dusk b0__duskPrice b0__hear b0__forged b0_stall b0_shape b0_side b0_price b0_purse b0_spot b0_club b0_fitting b0_nearly b0_side_c b0_shape_c hv19 hv20) (cwV 2 hT (hz_gV q_671 q_653 q_654 q_251 q_655) rfl rfl rfl (by decide +kernel) ⟨(Nat.le_of_ble_eq_true rfl), (Nat.le_of_ble_eq_true rfl)⟩) ⟨hz_P.blind, va_recv hK hP (ci := 8) (q0 := 3) rfl rfl, hz_P.mk (hP.sub (ws' := [(b0, .inr (8, [.int b0__stalls, .int b0__shift, .int b0__halves, .int b0__buyers, .int b0__near, .int b0__dusk, .int b0__duskPrice, .int b0__hear, .int b0__forged, .ref b0_stall, .ref b0_shape, .ref b0_side, .ref b0_price, .ref b0_purse, .ref b0_spot, .ref b0_club, .ref b0_fitting, .ref b0_nearly])), (b0_side, .inl (cs 0, 12, .inl b0_side_c)), (b0_shape, .inl (cs 0, 12, .inl b0_shape_c))]) [3,4,5] rfl) hE hS⟩ rfl rfl hl.1 rfl (lv_room (Nat.le_of_ble_eq_true rfl)) dX9_gatherPairs_25 ⟨(Nat.le_of_ble_eq_true rfl), (Nat.le_of_ble_eq_true rfl)⟩) hS (fun _ _ h => h.elim) (fun _ h => h.elim) (fun r21 u t H1 locs ht hvm hw hB hz1 hk1 hS => ?_)
        have hP := hz_keep hP hk1
        clear hk1 hB hz1
        generalize H1 = H at hP hS ⊢
        rcases hw with rfl | rfl
        · refine lv_istore (lv' := [(4, .int 0), (3, .int k4_L_3), (2, .int k4_L_2), (0, .ref a), (1, .ref b0)]) hx hb dX9_gatherPairs_28 hl (by decide) rfl (fun ls hl => ?_)
          refine lv_iload hx hb dX9_gatherPairs_30 (lv_at hl 0 rfl) ?_
          refine lv_if_eq (tgt := 46) hx hb dX9_gatherPairs_32 (by decide) (fun _ => ?_) (fun z => absurd (by decide) z)
          exact K46 0 h18 (iv_c (by decide)) q4_4 h17 H locs (hP.sub (ws' := [(a, .inr (9, [.int a__size, .int a__fewest, .int a__honest, .ref a_pair, .ref a_one, .ref a_other, .ref a_fitted])), (a_one, .inl (cs 0, 12, .inl a_one_c)), (a_other, .inl (cs 0, 12, .inl a_other_c)), (b0, .inr (8, [.int b0__stalls, .int b0__shift, .int b0__halves, .int b0__buyers, .int b0__near, .int b0__dusk, .int b0__duskPrice, .int b0__hear, .int b0__forged, .ref b0_stall, .ref b0_shape, .ref b0_side, .ref b0_price, .ref b0_purse, .ref b0_spot, .ref b0_club, .ref b0_fitting, .ref b0_nearly])), (b0_side, .inl (cs 0, 12, .inl b0_side_c)), (b0_shape, .inl (cs 0, 12, .inl b0_shape_c)), (a_fitted, .inl (cs 2, 12, .inl a_fitted_c)), (a_pair, .inl (cs 0, 12, .inl k4_C_a_pair))]) [0, 1, 2, 3, 4, 5, 6, 7] rfl) (hD.sub (ws' := [(a, .inr (9, [.int a__size, .int a__fewest, .int a__honest, .ref a_pair, .ref a_one, .ref a_other, .ref a_fitted])), (a_one, .inl (cs 0, 12, .inl a_one_c)), (a_other, .inl (cs 0, 12, .inl a_other_c)), (b0, .inr (8, [.int b0__stalls, .int b0__shift, .int b0__halves, .int b0__buyers, .int b0__near, .int b0__dusk, .int b0__duskPrice, .int b0__hear, .int b0__forged, .ref b0_stall, .ref b0_shape, .ref b0_side, .ref b0_price, .ref b0_purse, .ref b0_spot, .ref b0_club, .ref b0_fitting, .ref b0_nearly])), (b0_side, .inl (cs 0, 12, .inl b0_side_c)), (b0_shape, .inl (cs 0, 12, .inl b0_shape_c)), (a_fitted, .inl (cs 2, 12, .inl a_fitted_c)), (a_pair, .inl (cs 0, 12, .inl k4_C_a_pair))]) [0, 1, 2, 3, 4, 5, 6, 7] (by decide) rfl) hS ls (lv_sub hl [0, 1, 2, 3, 4] rfl)
        · refine lv_istore (lv' := [(4, .int 1), (3, .int k4_L_3), (2, .int k4_L_2), (0, .ref a), (1, .ref b0)]) hx hb dX9_gatherPairs_28 hl (by decide) rfl (fun ls hl => ?_)
          refine lv_iload hx hb dX9_gatherPairs_30 (lv_at hl 0 rfl) ?_
          refine lv_if_eq (tgt := 46) hx hb dX9_gatherPairs_32 (by decide) (fun z => absurd z (by decide)) (fun _ => ?_)
          refine lv_aload_n hx hb dX9_gatherPairs_35 rfl (lv_at hl 3 rfl) ?_
          refine va_get (D := D) (ci := 9) (v := .ref a_fitted) (C := RX9) (T := TX9) (N := 7) hx hb hT i_X9 hown hK hP 0 rfl rfl 6 (by decide) (hT _ q_152) (fun _ h9 => h9) rfl dX9_gatherPairs_36 ?_
          refine lv_iload_n hx hb dX9_gatherPairs_39 rfl (lv_at hl 1 rfl) ?_
          refine va_zald hx hb hK hP 6 2 rfl rfl (iv_v h17 (by decide) (by decide)) dX9_gatherPairs_40 ?_
          refine lv_topi (fun v22 ev22 => ?_)
          refine lv_if_ne (tgt := 46) hx hb dX9_gatherPairs_41 (by decide) (fun c23 => ?_) (fun c23 => ?_)
          · exact K46 1 h18 (iv_c (by decide)) q4_4 h17 H locs (hP.sub (ws' := [(a, .inr (9, [.int a__size, .int a__fewest, .int a__honest, .ref a_pair, .ref a_one, .ref a_other, .ref a_fitted])), (a_one, .inl (cs 0, 12, .inl a_one_c)), (a_other, .inl (cs 0, 12, .inl a_other_c)), (b0, .inr (8, [.int b0__stalls, .int b0__shift, .int b0__halves, .int b0__buyers, .int b0__near, .int b0__dusk, .int b0__duskPrice, .int b0__hear, .int b0__forged, .ref b0_stall, .ref b0_shape, .ref b0_side, .ref b0_price, .ref b0_purse, .ref b0_spot, .ref b0_club, .ref b0_fitting, .ref b0_nearly])), (b0_side, .inl (cs 0, 12, .inl b0_side_c)), (b0_shape, .inl (cs 0, 12, .inl b0_shape_c)), (a_fitted, .inl (cs 2, 12, .inl a_fitted_c)), (a_pair, .inl (cs 0, 12, .inl k4_C_a_pair))]) [0, 1, 2, 3, 4, 5, 6, 7] rfl) (hD.sub (ws' := [(a, .inr (9, [.int a__size, .int a__fewest, .int a__honest, .ref a_pair, .ref a_one, .ref a_other, .ref a_fitted])), (a_one, .inl (cs 0, 12, .inl a_one_c)), (a_other, .inl (cs 0, 12, .inl a_other_c)), (b0, .inr (8, [.int b0__stalls, .int b0__shift, .int b0__halves, .int b0__buyers, .int b0__near, .int b0__dusk, .int b0__duskPrice, .int b0__hear, .int b0__forged, .ref b0_stall, .ref b0_shape, .ref b0_side, .ref b0_price, .ref b0_purse, .ref b0_spot, .ref b0_club, .ref b0_fitting, .ref b0_nearly])), (b0_side, .inl (cs 0, 12, .inl b0_side_c)), (b0_shape, .inl (cs 0, 12, .inl b0_shape_c)), (a_fitted, .inl (cs 2, 12, .inl a_fitted_c)), (a_pair, .inl (cs 0, 12, .inl k4_C_a_pair))]) [0, 1, 2, 3, 4, 5, 6, 7] (by decide) rfl) hS ls (lv_sub hl [0, 1, 2, 3, 4] rfl)
          · have h24 : IV 0 0 v22 := iv_eq1 c23 iv_top (iv_c (a := 0) (b := 0) (by decide)) (by decide) (by decide)
            refine lv_iconst (v := (-1)) hx hb dX9_gatherPairs_44 (by decide) ?_
            refine W.widen (k := 0) (n := 0) (Nat.le_of_ble_eq_true rfl) (Nat.le_of_ble_eq_true rfl) ?_
            exact W.iret (v := (-1)) hx hb hr (fun t ht hW => ⟨⟨(-1), (), rfl, (Or.inl (⟨rfl, h18⟩)), k4_C_a_pair, by rw [ht]; exact hP.sub [0, 1, 2, 3, 4, 5, 6, 7] rfl, hD.sub [0, 1, 2, 3, 4, 5, 6, 7] (by decide) rfl⟩, hS.F ht⟩) hS.2.2 dX9_gatherPairs_45
  refine lv_iconst (v := 0) hx hb dX9_gatherPairs_0 (by decide) ?_
  refine lv_istore_n (lv' := [(2, .int 0), (0, .ref a), (1, .ref b0)]) hx hb dX9_gatherPairs_1 rfl hl (by decide) rfl (fun ls hl => ?_)
  refine lv_iconst (v := 0) hx hb dX9_gatherPairs_2 (by decide) ?_
  refine lv_istore_n (lv' := [(3, .int 0), (2, .int 0), (0, .ref a), (1, .ref b0)]) hx hb dX9_gatherPairs_3 rfl hl (by decide) rfl (fun ls hl => ?_)
  exact K4 _ 0 0 a_pair_c (Nat.le_refl _) (iv_c (by decide)) (iv_c (by decide)) (by have e0 : (0 : Int32).toInt = 0 := (by decide); have e0 : (0 : Int32).toInt = 0 := (by decide); omega) H locs (hP.sub (ws' := [(a, .inr (9, [.int a__size, .int a__fewest, .int a__honest, .ref a_pair, .ref a_one, .ref a_other, .ref a_fitted])), (a_one, .inl (cs 0, 12, .inl a_one_c)), (a_other, .inl (cs 0, 12, .inl a_other_c)), (b0, .inr (8, [.int b0__stalls, .int b0__shift, .int b0__halves, .int b0__buyers, .int b0__near, .int b0__dusk, .int b0__duskPrice, .int b0__hear, .int b0__forged, .ref b0_stall, .ref b0_shape, .ref b0_side, .ref b0_price, .ref b0_purse, .ref b0_spot, .ref b0_club, .ref b0_fitting, .ref b0_nearly])), (b0_side, .inl (cs 0, 12, .inl b0_side_c)), (b0_shape, .inl (cs 0, 12, .inl b0_shape_c)), (a_fitted, .inl (cs 2, 12, .inl a_fitted_c)), (a_pair, .inl (cs 0, 12, .inl a_pair_c))]) [0, 1, 2, 3, 4, 5, 6, 7] rfl) (hD.sub (ws' := [(a, .inr (9, [.int a__size, .int a__fewest, .int a__honest, .ref a_pair, .ref a_one, .ref a_other, .ref a_fitted])), (a_one, .inl (cs 0, 12, .inl a_one_c)), (a_other, .inl (cs 0, 12, .inl a_other_c)), (b0, .inr (8, [.int b0__stalls, .int b0__shift, .int b0__halves, .int b0__buyers, .int b0__near, .int b0__dusk, .int b0__duskPrice, .int b0__hear, .int b0__forged, .ref b0_stall, .ref b0_shape, .ref b0_side, .ref b0_price, .ref b0_purse, .ref b0_spot, .ref b0_club, .ref b0_fitting, .ref b0_nearly])), (b0_side, .inl (cs 0, 12, .inl b0_side_c)), (b0_shape, .inl (cs 0, 12, .inl b0_shape_c)), (a_fitted, .inl (cs 2, 12, .inl a_fitted_c)), (a_pair, .inl (cs 0, 12, .inl a_pair_c))]) [0, 1, 2, 3, 4, 5, 6, 7] (by decide) rfl) hS ls (lv_sub hl [0, 1, 2, 3] rfl)
theorem dX9_clearedByTrials_0 : decode cX9_clearedByTrials 0 = .ok (.iconst 0, 1) := by decide +kernel
theorem dX9_clearedByTrials_1 : decode cX9_clearedByTrials 1 = .ok (.istore_n 1, 1) := by decide +kernel
theorem dX9_clearedByTrials_2 : decode cX9_clearedByTrials 2 = .ok (.iconst 0, 1) := by decide +kernel
theorem dX9_clearedByTrials_3 : decode cX9_clearedByTrials 3 = .ok (.istore_n 2, 1) := by decide +kernel
theorem dX9_clearedByTrials_4 : decode cX9_clearedByTrials 4 = .ok (.iload_n 2, 1) := by decide +kernel
theorem dX9_clearedByTrials_5 : decode cX9_clearedByTrials 5 = .ok (.aload_n 0, 1) := by decide +kernel
theorem dX9_clearedByTrials_6 : decode cX9_clearedByTrials 6 = .ok (.getfield 25, 3) := by decide +kernel
theorem dX9_clearedByTrials_9 : decode cX9_clearedByTrials 9 = .ok (.if_icmp .ge 38, 3) := by decide +kernel
theorem dX9_clearedByTrials_12 : decode cX9_clearedByTrials 12 = .ok (.aload_n 0, 1) := by decide +kernel
theorem dX9_clearedByTrials_13 : decode cX9_clearedByTrials 13 = .ok (.getfield 21, 3) := by decide +kernel
theorem dX9_clearedByTrials_16 : decode cX9_clearedByTrials 16 = .ok (.iload_n 2, 1) := by decide +kernel
theorem dX9_clearedByTrials_17 : decode cX9_clearedByTrials 17 = .ok (.baload, 1) := by decide +kernel
theorem dX9_clearedByTrials_18 : decode cX9_clearedByTrials 18 = .ok (.ifCond .ne 23, 3) := by decide +kernel
theorem dX9_clearedByTrials_21 : decode cX9_clearedByTrials 21 = .ok (.iload_n 1, 1) := by decide +kernel
theorem dX9_clearedByTrials_22 : decode cX9_clearedByTrials 22 = .ok (.iconst 1, 1) := by decide +kernel
theorem dX9_clearedByTrials_23 : decode cX9_clearedByTrials 23 = .ok (.aload_n 0, 1) := by decide +kernel
theorem dX9_clearedByTrials_24 : decode cX9_clearedByTrials 24 = .ok (.getfield 15, 3) := by decide +kernel
theorem dX9_clearedByTrials_27 : decode cX9_clearedByTrials 27 = .ok (.iload_n 2, 1) := by decide +kernel
theorem dX9_clearedByTrials_28 : decode cX9_clearedByTrials 28 = .ok (.iaload, 1) := by decide +kernel
theorem dX9_clearedByTrials_29 : decode cX9_clearedByTrials 29 = .ok (.ishl, 1) := by decide +kernel
theorem dX9_clearedByTrials_30 : decode cX9_clearedByTrials 30 = .ok (.iconst 1, 1) := by decide +kernel
theorem dX9_clearedByTrials_31 : decode cX9_clearedByTrials 31 = .ok (.aload_n 0, 1) := by decide +kernel
theorem dX9_clearedByTrials_32 : decode cX9_clearedByTrials 32 = .ok (.getfield 18, 3) := by decide +kernel
theorem dX9_clearedByTrials_35 : decode cX9_clearedByTrials 35 = .ok (.iload_n 2, 1) := by decide +kernel
theorem dX9_clearedByTrials_36 : decode cX9_clearedByTrials 36 = .ok (.iaload, 1) := by decide +kernel
theorem dX9_clearedByTrials_37 : decode cX9_clearedByTrials 37 = .ok (.ishl, 1) := by decide +kernel
theorem dX9_clearedByTrials_38 : decode cX9_clearedByTrials 38 = .ok (.ior, 1) := by decide +kernel
theorem dX9_clearedByTrials_39 : decode cX9_clearedByTrials 39 = .ok (.ior, 1) := by decide +kernel
theorem dX9_clearedByTrials_40 : decode cX9_clearedByTrials 40 = .ok (.istore_n 1, 1) := by decide +kernel
theorem dX9_clearedByTrials_41 : decode cX9_clearedByTrials 41 = .ok (.iinc 2 1, 3) := by decide +kernel
theorem dX9_clearedByTrials_44 : decode cX9_clearedByTrials 44 = .ok (.goto (-40), 3) := by decide +kernel
theorem dX9_clearedByTrials_47 : decode cX9_clearedByTrials 47 = .ok (.iload_n 1, 1) := by decide +kernel
theorem dX9_clearedByTrials_48 : decode cX9_clearedByTrials 48 = .ok (.ireturn, 1) := by decide +kernel
set_option maxHeartbeats 4000000 in
set_option maxRecDepth 100000 in
theorem c_X9_clearedByTrials (l : Launch) (D : va_G) (cs : Nat → ClassId) (kK kV : Nat → Nat) (a : Nat) (a__size : Int32) (a__fewest : Int32) (a__honest : Int32) (a_pair : Nat) (a_one : Nat) (a_other : Nat) (a_fitted : Nat) (a_fitted_c : Nat → Int32) (a_one_c : Nat → Int32) (a_other_c : Nat → Int32) (h_a__size : IV 0 12 a__size) (h_a_one_c : CI 12 0 11 a_one_c) (h_a_other_c : CI 12 0 11 a_other_c) : Met l yX9_clearedByTrials (hz_w yX9_clearedByTrials cX9_clearedByTrials 3 (some .int)) ({ frames := 0, cells := 0, slots := 0, locals := 0 }) (va_Pc [.ref a] (hz_P D cs kK kV [(a, .inr (9, [.int a__size, .int a__fewest, .int a__honest, .ref a_pair, .ref a_one, .ref a_other, .ref a_fitted])), (a_fitted, .inl (cs 2, 12, .inl a_fitted_c)), (a_one, .inl (cs 0, 12, .inl a_one_c)), (a_other, .inl (cs 0, 12, .inl a_other_c))])) (va_Qi (fun (r : Int32) (_ : Unit) => IV 0 4095 r) (fun _ t => True) (fun _ => False)) 0 0 (fun _ => False) := by
  refine Met.ofW (cc := cX9_clearedByTrials) (maxL := 3) (ret := (some .int)) (by decide) rfl ?_
  intro p e s m args below meth c s₁ B hml hv
  obtain ⟨rfl, hP, hE⟩ := hv
  have hx := B.exec
  have hb := B.bytes
  have hr := B.returns
  have hT : ∀ w ∈ TB, w.before _ s = true := fun w h => atoms_spec (ws := hz_w yX9_clearedByTrials cX9_clearedByTrials 3 (some .int)) B.pre w (List.mem_cons_of_mem _ h)
  have hown : s.vm.findClass RX9 = some m.cls := findClass_of_methodNamed B.named
  have hlocks := B.notSynchronized
  clear B
  have hS : va_S (fun _ => False) s.heap s.heap [] := va_S.rf
  have hK := hE.1
  have hl := lv_entry ([.ref a]) (n := 3) (Nat.le_of_ble_eq_true rfl)
  rw [lg_entry_eq]
  generalize (lg_sl ([.ref a]) ++ List.replicate (3 - (lg_sl ([.ref a])).length) Slot.unset).toArray = ls at hl ⊢
  have hl : lv_has ls 3 [(0, .ref a)] := hl
  obtain ⟨H, eH⟩ : ∃ z, z = s.heap := ⟨_, rfl⟩
  have hP : va_P D classes [(a, .inr (9, [.int a__size, .int a__fewest, .int a__honest, .ref a_pair, .ref a_one, .ref a_other, .ref a_fitted])), (a_fitted, .inl (cs 2, 12, .inl a_fitted_c)), (a_one, .inl (cs 0, 12, .inl a_one_c)), (a_other, .inl (cs 0, 12, .inl a_other_c))] H := by rw [eH]; exact hP
  have hS : va_S (fun _ => False) s.heap H [] := by rw [eH]; exact hS
  rw [← eH]
  clear eH
  obtain ⟨locs, el⟩ : ∃ z : List Loc, z = [] := ⟨_, rfl⟩
  rw [← el] at hS ⊢
  clear el
  have K4 : ∀ (n : Nat) (k4_L_2 : Int32) (k4_L_1 : Int32), (12 - k4_L_2.toInt + 1).toNat ≤ n → IV 0 4095 k4_L_1 → IV 0 12 k4_L_2 → ∀ (H : Heap) (locs : List Loc), va_P D classes [(a, .inr (9, [.int a__size, .int a__fewest, .int a__honest, .ref a_pair, .ref a_one, .ref a_other, .ref a_fitted])), (a_fitted, .inl (cs 2, 12, .inl a_fitted_c)), (a_one, .inl (cs 0, 12, .inl a_one_c)), (a_other, .inl (cs 0, 12, .inl a_other_c))] H → va_S (fun _ => False) s.heap H locs → ∀ ls : Array Slot, lv_has ls 3 [(2, .int k4_L_2), (1, .int k4_L_1), (0, .ref a)] → W p l e (headSpec (hz_w yX9_clearedByTrials cX9_clearedByTrials 3 (some .int)) ({ frames := 0, cells := 0, slots := 0, locals := 0 })).room s m [.ref a].toArray below meth c H locs 0 0 (MQ below (va_Qi (fun (r : Int32) (_ : Unit) => IV 0 4095 r) (fun _ t => True) (fun _ => False)) [.ref a].toArray s 0 0 (fun _ => False)) (F0 m 4 ls []) := by
    intro n
    induction n with
    | zero =>
      intro k4_L_2 k4_L_1 hn q4_1 q4_2 H locs hP hS ls hl
      exact absurd hn (by unfold IV at q4_2; omega)
    | succ n ih4 =>
      intro k4_L_2 k4_L_1 hn q4_1 q4_2 H locs hP hS ls hl
      have K41 : ∀ (k41_L_1 : Int32), IV 1 12 a__size → IV 0 4095 k41_L_1 → IV 0 11 k4_L_2 → ∀ (H : Heap) (locs : List Loc), va_P D classes [(a, .inr (9, [.int a__size, .int a__fewest, .int a__honest, .ref a_pair, .ref a_one, .ref a_other, .ref a_fitted])), (a_fitted, .inl (cs 2, 12, .inl a_fitted_c)), (a_one, .inl (cs 0, 12, .inl a_one_c)), (a_other, .inl (cs 0, 12, .inl a_other_c))] H → va_S (fun _ => False) s.heap H locs → ∀ ls : Array Slot, lv_has ls 3 [(2, .int k4_L_2), (1, .int k41_L_1), (0, .ref a)] → W p l e (headSpec (hz_w yX9_clearedByTrials cX9_clearedByTrials 3 (some .int)) ({ frames := 0, cells := 0, slots := 0, locals := 0 })).room s m [.ref a].toArray below meth c H locs 0 0 (MQ below (va_Qi (fun (r : Int32) (_ : Unit) => IV 0 4095 r) (fun _ t => True) (fun _ => False)) [.ref a].toArray s 0 0 (fun _ => False)) (F0 m 41 ls []) := by
        intro k41_L_1 q41_0 q41_1 q41_2 H locs hP hS ls hl
        obtain ⟨v1, ev1⟩ : ∃ z : Int32, z = k4_L_2 + 1 := ⟨_, rfl⟩
        have hv1 : IV 1 12 v1 := iv_add ev1 q41_2 (iv_c (a := 1) (b := 1) (by decide)) (by decide) (by decide)
        have dv1 : v1.toInt = k4_L_2.toInt + 1 := iv_addE ev1 q41_2 (iv_c (a := 1) (b := 1) (by decide)) (by decide) (by decide) (by decide)
        refine lv_iinc (v := v1) (lv' := [(2, .int v1), (1, .int k41_L_1), (0, .ref a)]) hx hb dX9_clearedByTrials_41 hl (k := 0) rfl (by rw [ev1]; rfl) (by decide) rfl (fun ls hl => ?_)
        refine lv_goto (tgt := 4) hx hb dX9_clearedByTrials_44 (by decide) ?_
        exact ih4 v1 k41_L_1 (by have h9 := q41_2; unfold IV at h9; have := dv1; omega) q41_1 (iv_w hv1 (by decide) (by decide)) H locs (hP.sub (ws' := [(a, .inr (9, [.int a__size, .int a__fewest, .int a__honest, .ref a_pair, .ref a_one, .ref a_other, .ref a_fitted])), (a_fitted, .inl (cs 2, 12, .inl a_fitted_c)), (a_one, .inl (cs 0, 12, .inl a_one_c)), (a_other, .inl (cs 0, 12, .inl a_other_c))]) [0, 1, 2, 3] rfl) hS ls (lv_sub hl [0, 1, 2] rfl)
      refine lv_iload_n hx hb dX9_clearedByTrials_4 rfl (lv_at hl 0 rfl) ?_
      refine lv_aload_n hx hb dX9_clearedByTrials_5 rfl (lv_at hl 2 rfl) ?_
      refine va_get (D := D) (ci := 9) (v := .int a__size) (C := RX9) (T := TX9) (N := 7) hx hb hT i_X9 hown hK hP 0 rfl rfl 0 (by decide) (hT _ q_153) (fun _ h9 => h9) rfl dX9_clearedByTrials_6 ?_
      refine lv_icmp_ge (tgt := 47) hx hb dX9_clearedByTrials_9 (by decide) (fun c2 => ?_) (fun c2 => ?_)
      · refine lv_iload_n hx hb dX9_clearedByTrials_47 rfl (lv_at hl 1 rfl) ?_
        exact W.iret (v := k4_L_1) hx hb hr (fun t ht hW => ⟨⟨k4_L_1, (), rfl, q4_1, trivial⟩, hS.F ht⟩) hS.2.2 dX9_clearedByTrials_48
      · have h3 : IV 0 11 k4_L_2 := iv_lt1 (Int32.not_le.mp c2) q4_2 h_a__size (by decide)
        have h4 : IV 1 12 a__size := iv_lt2 (Int32.not_le.mp c2) q4_2 h_a__size (by decide)
        refine lv_aload_n hx hb dX9_clearedByTrials_12 rfl (lv_at hl 2 rfl) ?_
        refine va_get (D := D) (ci := 9) (v := .ref a_fitted) (C := RX9) (T := TX9) (N := 7) hx hb hT i_X9 hown hK hP 0 rfl rfl 6 (by decide) (hT _ q_152) (fun _ h9 => h9) rfl dX9_clearedByTrials_13 ?_
        refine lv_iload_n hx hb dX9_clearedByTrials_16 rfl (lv_at hl 0 rfl) ?_
        refine va_zald hx hb hK hP 1 2 rfl rfl (iv_v h3 (by decide) (by decide)) dX9_clearedByTrials_17 ?_
        refine lv_topi (fun v5 ev5 => ?_)
        refine lv_if_ne (tgt := 41) hx hb dX9_clearedByTrials_18 (by decide) (fun c6 => ?_) (fun c6 => ?_)
        · exact K41 k4_L_1 h4 q4_1 h3 H locs (hP.sub (ws' := [(a, .inr (9, [.int a__size, .int a__fewest, .int a__honest, .ref a_pair, .ref a_one, .ref a_other, .ref a_fitted])), (a_fitted, .inl (cs 2, 12, .inl a_fitted_c)), (a_one, .inl (cs 0, 12, .inl a_one_c)), (a_other, .inl (cs 0, 12, .inl a_other_c))]) [0, 1, 2, 3] rfl) hS ls (lv_sub hl [0, 1, 2] rfl)
        · have h7 : IV 0 0 v5 := iv_eq1 c6 iv_top (iv_c (a := 0) (b := 0) (by decide)) (by decide) (by decide)
          refine lv_iload_n hx hb dX9_clearedByTrials_21 rfl (lv_at hl 1 rfl) ?_
          refine lv_iconst (v := 1) hx hb dX9_clearedByTrials_22 (by decide) ?_
          refine lv_aload_n hx hb dX9_clearedByTrials_23 rfl (lv_at hl 2 rfl) ?_
          refine va_get (D := D) (ci := 9) (v := .ref a_one) (C := RX9) (T := TX9) (N := 7) hx hb hT i_X9 hown hK hP 0 rfl rfl 4 (by decide) (hT _ q_150) (fun _ h9 => h9) rfl dX9_clearedByTrials_24 ?_
          refine lv_iload_n hx hb dX9_clearedByTrials_27 rfl (lv_at hl 0 rfl) ?_
          refine va_iald hx hb hK hP 2 0 rfl rfl (iv_v h3 (by decide) (by decide)) dX9_clearedByTrials_28 ?_
          refine lv_topi (fun v8 ev8 => ?_)
          have hv8 : IV 0 11 v8 := iv_ci ev8 h_a_one_c (iv_v h3 (by decide) (by decide))
          refine lv_ishl hx hb dX9_clearedByTrials_29 ?_
          refine lv_topi (fun v9 ev9 => ?_)
          have hv9 : IV 1 2048 v9 := iv_shl1 ev9 hv8 (by decide) (by decide) (by decide)
          refine lv_iconst (v := 1) hx hb dX9_clearedByTrials_30 (by decide) ?_
          refine lv_aload_n hx hb dX9_clearedByTrials_31 rfl (lv_at hl 2 rfl) ?_
          refine va_get (D := D) (ci := 9) (v := .ref a_other) (C := RX9) (T := TX9) (N := 7) hx hb hT i_X9 hown hK hP 0 rfl rfl 5 (by decide) (hT _ q_151) (fun _ h9 => h9) rfl dX9_clearedByTrials_32 ?_
          refine lv_iload_n hx hb dX9_clearedByTrials_35 rfl (lv_at hl 0 rfl) ?_
          refine va_iald hx hb hK hP 3 0 rfl rfl (iv_v h3 (by decide) (by decide)) dX9_clearedByTrials_36 ?_
          refine lv_topi (fun v10 ev10 => ?_)
          have hv10 : IV 0 11 v10 := iv_ci ev10 h_a_other_c (iv_v h3 (by decide) (by decide))
          refine lv_ishl hx hb dX9_clearedByTrials_37 ?_
          refine lv_topi (fun v11 ev11 => ?_)
          have hv11 : IV 1 2048 v11 := iv_shl1 ev11 hv10 (by decide) (by decide) (by decide)
          refine lv_ior hx hb dX9_clearedByTrials_38 ?_
          refine lv_topi (fun v12 ev12 => ?_)
          have hv12 : IV 0 4095 v12 := iv_or (k := 12) ev12 hv9 hv11 (by decide) (by decide) (by decide) (by decide) (by decide) (by decide)
          refine lv_ior hx hb dX9_clearedByTrials_39 ?_
          refine lv_topi (fun v13 ev13 => ?_)
          have hv13 : IV 0 4095 v13 := iv_or (k := 12) ev13 q4_1 hv12 (by decide) (by decide) (by decide) (by decide) (by decide) (by decide)
          refine lv_istore_n (lv' := [(1, .int v13), (2, .int k4_L_2), (0, .ref a)]) hx hb dX9_clearedByTrials_40 rfl hl (by decide) rfl (fun ls hl => ?_)
          exact K41 v13 h4 hv13 h3 H locs (hP.sub (ws' := [(a, .inr (9, [.int a__size, .int a__fewest, .int a__honest, .ref a_pair, .ref a_one, .ref a_other, .ref a_fitted])), (a_fitted, .inl (cs 2, 12, .inl a_fitted_c)), (a_one, .inl (cs 0, 12, .inl a_one_c)), (a_other, .inl (cs 0, 12, .inl a_other_c))]) [0, 1, 2, 3] rfl) hS ls (lv_sub hl [1, 0, 2] rfl)
  refine lv_iconst (v := 0) hx hb dX9_clearedByTrials_0 (by decide) ?_
  refine lv_istore_n (lv' := [(1, .int 0), (0, .ref a)]) hx hb dX9_clearedByTrials_1 rfl hl (by decide) rfl (fun ls hl => ?_)
  refine lv_iconst (v := 0) hx hb dX9_clearedByTrials_2 (by decide) ?_
  refine lv_istore_n (lv' := [(2, .int 0), (1, .int 0), (0, .ref a)]) hx hb dX9_clearedByTrials_3 rfl hl (by decide) rfl (fun ls hl => ?_)
  exact K4 _ 0 0 (Nat.le_refl _) (iv_c (by decide)) (iv_c (by decide)) H locs (hP.sub (ws' := [(a, .inr (9, [.int a__size, .int a__fewest, .int a__honest, .ref a_pair, .ref a_one, .ref a_other, .ref a_fitted])), (a_fitted, .inl (cs 2, 12, .inl a_fitted_c)), (a_one, .inl (cs 0, 12, .inl a_one_c)), (a_other, .inl (cs 0, 12, .inl a_other_c))]) [0, 1, 2, 3] rfl) hS ls (lv_sub hl [0, 1, 2] rfl)
theorem dX9_hitsAll_0 : decode cX9_hitsAll 0 = .ok (.iconst 0, 1) := by decide +kernel
theorem dX9_hitsAll_1 : decode cX9_hitsAll 1 = .ok (.istore_n 3, 1) := by decide +kernel
theorem dX9_hitsAll_2 : decode cX9_hitsAll 2 = .ok (.iload_n 3, 1) := by decide +kernel
theorem dX9_hitsAll_3 : decode cX9_hitsAll 3 = .ok (.iload_n 2, 1) := by decide +kernel
theorem dX9_hitsAll_4 : decode cX9_hitsAll 4 = .ok (.if_icmp .ge 22, 3) := by decide +kernel
theorem dX9_hitsAll_7 : decode cX9_hitsAll 7 = .ok (.iload_n 1, 1) := by decide +kernel
theorem dX9_hitsAll_8 : decode cX9_hitsAll 8 = .ok (.aload_n 0, 1) := by decide +kernel
theorem dX9_hitsAll_9 : decode cX9_hitsAll 9 = .ok (.getfield 11, 3) := by decide +kernel
theorem dX9_hitsAll_12 : decode cX9_hitsAll 12 = .ok (.iload_n 3, 1) := by decide +kernel
theorem dX9_hitsAll_13 : decode cX9_hitsAll 13 = .ok (.iaload, 1) := by decide +kernel
theorem dX9_hitsAll_14 : decode cX9_hitsAll 14 = .ok (.iand, 1) := by decide +kernel
theorem dX9_hitsAll_15 : decode cX9_hitsAll 15 = .ok (.ifCond .ne 5, 3) := by decide +kernel
theorem dX9_hitsAll_18 : decode cX9_hitsAll 18 = .ok (.iconst 0, 1) := by decide +kernel
theorem dX9_hitsAll_19 : decode cX9_hitsAll 19 = .ok (.ireturn, 1) := by decide +kernel
theorem dX9_hitsAll_20 : decode cX9_hitsAll 20 = .ok (.iinc 3 1, 3) := by decide +kernel
theorem dX9_hitsAll_23 : decode cX9_hitsAll 23 = .ok (.goto (-21), 3) := by decide +kernel
theorem dX9_hitsAll_26 : decode cX9_hitsAll 26 = .ok (.iconst 1, 1) := by decide +kernel
theorem dX9_hitsAll_27 : decode cX9_hitsAll 27 = .ok (.ireturn, 1) := by decide +kernel
set_option maxHeartbeats 4000000 in
set_option maxRecDepth 100000 in
theorem c_X9_hitsAll (l : Launch) (D : va_G) (cs : Nat → ClassId) (kK kV : Nat → Nat) (a : Nat) (p0 : Int32) (p1 : Int32) (a__size : Int32) (a__fewest : Int32) (a__honest : Int32) (a_pair : Nat) (a_one : Nat) (a_other : Nat) (a_fitted : Nat) (a_pair_c : Nat → Int32) (h_p1 : IV 0 12 p1) : Met l yX9_hitsAll (hz_w yX9_hitsAll cX9_hitsAll 4 (some .boolean)) ({ frames := 0, cells := 0, slots := 0, locals := 0 }) (va_Pc [.ref a, .int p0, .int p1] (hz_P D cs kK kV [(a, .inr (9, [.int a__size, .int a__fewest, .int a__honest, .ref a_pair, .ref a_one, .ref a_other, .ref a_fitted])), (a_pair, .inl (cs 0, 12, .inl a_pair_c))])) (va_Qi (fun (r : Int32) (_ : Unit) => (r = 0 ∧ IV 1 12 p1) ∨ (r = 1)) (fun _ t => True) (fun _ => False)) 0 0 (fun _ => False) := by
  refine Met.ofW (cc := cX9_hitsAll) (maxL := 4) (ret := (some .boolean)) (by decide) rfl ?_
  intro p e s m args below meth c s₁ B hml hv
  obtain ⟨rfl, hP, hE⟩ := hv
  have hx := B.exec
  have hb := B.bytes
  have hr := B.returns
  have hT : ∀ w ∈ TB, w.before _ s = true := fun w h => atoms_spec (ws := hz_w yX9_hitsAll cX9_hitsAll 4 (some .boolean)) B.pre w (List.mem_cons_of_mem _ h)
  have hown : s.vm.findClass RX9 = some m.cls := findClass_of_methodNamed B.named
  have hlocks := B.notSynchronized
  clear B
  have hS : va_S (fun _ => False) s.heap s.heap [] := va_S.rf
  have hK := hE.1
  have hl := lv_entry ([.ref a, .int p0, .int p1]) (n := 4) (Nat.le_of_ble_eq_true rfl)
  rw [lg_entry_eq]
  generalize (lg_sl ([.ref a, .int p0, .int p1]) ++ List.replicate (4 - (lg_sl ([.ref a, .int p0, .int p1])).length) Slot.unset).toArray = ls at hl ⊢
  have hl : lv_has ls 4 [(0, .ref a), (1, .int p0), (2, .int p1)] := hl
  obtain ⟨H, eH⟩ : ∃ z, z = s.heap := ⟨_, rfl⟩
  have hP : va_P D classes [(a, .inr (9, [.int a__size, .int a__fewest, .int a__honest, .ref a_pair, .ref a_one, .ref a_other, .ref a_fitted])), (a_pair, .inl (cs 0, 12, .inl a_pair_c))] H := by rw [eH]; exact hP
  have hS : va_S (fun _ => False) s.heap H [] := by rw [eH]; exact hS
  rw [← eH]
  clear eH
  obtain ⟨locs, el⟩ : ∃ z : List Loc, z = [] := ⟨_, rfl⟩
  rw [← el] at hS ⊢
  clear el
  have K2 : ∀ (n : Nat) (k2_L_3 : Int32), (12 - k2_L_3.toInt + 1).toNat ≤ n → IV 0 12 k2_L_3 → ∀ (H : Heap) (locs : List Loc), va_P D classes [(a, .inr (9, [.int a__size, .int a__fewest, .int a__honest, .ref a_pair, .ref a_one, .ref a_other, .ref a_fitted])), (a_pair, .inl (cs 0, 12, .inl a_pair_c))] H → va_S (fun _ => False) s.heap H locs → ∀ ls : Array Slot, lv_has ls 4 [(3, .int k2_L_3), (0, .ref a), (1, .int p0), (2, .int p1)] → W p l e (headSpec (hz_w yX9_hitsAll cX9_hitsAll 4 (some .boolean)) ({ frames := 0, cells := 0, slots := 0, locals := 0 })).room s m [.ref a, .int p0, .int p1].toArray below meth c H locs 0 0 (MQ below (va_Qi (fun (r : Int32) (_ : Unit) => (r = 0 ∧ IV 1 12 p1) ∨ (r = 1)) (fun _ t => True) (fun _ => False)) [.ref a, .int p0, .int p1].toArray s 0 0 (fun _ => False)) (F0 m 2 ls []) := by
    intro n
    induction n with
    | zero =>
      intro k2_L_3 hn q2_1 H locs hP hS ls hl
      exact absurd hn (by unfold IV at q2_1; omega)
    | succ n ih2 =>
      intro k2_L_3 hn q2_1 H locs hP hS ls hl
      refine lv_iload_n hx hb dX9_hitsAll_2 rfl (lv_at hl 0 rfl) ?_
      refine lv_iload_n hx hb dX9_hitsAll_3 rfl (lv_at hl 3 rfl) ?_
      refine lv_icmp_ge (tgt := 26) hx hb dX9_hitsAll_4 (by decide) (fun c1 => ?_) (fun c1 => ?_)
      · refine lv_iconst (v := 1) hx hb dX9_hitsAll_26 (by decide) ?_
        exact W.zret (v := 1) hx hb hr rfl (fun t ht hW => ⟨⟨1, (), rfl, (Or.inr ((rfl))), trivial⟩, hS.F ht⟩) hS.2.2 dX9_hitsAll_27
      · have h2 : IV 0 11 k2_L_3 := iv_lt1 (Int32.not_le.mp c1) q2_1 h_p1 (by decide)
        have h3 : IV 1 12 p1 := iv_lt2 (Int32.not_le.mp c1) q2_1 h_p1 (by decide)
        refine lv_iload_n hx hb dX9_hitsAll_7 rfl (lv_at hl 2 rfl) ?_
        refine lv_aload_n hx hb dX9_hitsAll_8 rfl (lv_at hl 1 rfl) ?_
        refine va_get (D := D) (ci := 9) (v := .ref a_pair) (C := RX9) (T := TX9) (N := 7) hx hb hT i_X9 hown hK hP 0 rfl rfl 3 (by decide) (hT _ q_149) (fun _ h9 => h9) rfl dX9_hitsAll_9 ?_
        refine lv_iload_n hx hb dX9_hitsAll_12 rfl (lv_at hl 0 rfl) ?_
        refine va_iald hx hb hK hP 1 0 rfl rfl (iv_v h2 (by decide) (by decide)) dX9_hitsAll_13 ?_
        refine lv_topi (fun v4 ev4 => ?_)
        refine lv_iand hx hb dX9_hitsAll_14 ?_
        refine lv_topi (fun v5 ev5 => ?_)
        refine lv_if_ne (tgt := 20) hx hb dX9_hitsAll_15 (by decide) (fun c6 => ?_) (fun c6 => ?_)
        · obtain ⟨v7, ev7⟩ : ∃ z : Int32, z = k2_L_3 + 1 := ⟨_, rfl⟩
          have hv7 : IV 1 12 v7 := iv_add ev7 h2 (iv_c (a := 1) (b := 1) (by decide)) (by decide) (by decide)
          have dv7 : v7.toInt = k2_L_3.toInt + 1 := iv_addE ev7 h2 (iv_c (a := 1) (b := 1) (by decide)) (by decide) (by decide) (by decide)
          refine lv_iinc (v := v7) (lv' := [(3, .int v7), (0, .ref a), (1, .int p0), (2, .int p1)]) hx hb dX9_hitsAll_20 hl (k := 0) rfl (by rw [ev7]; rfl) (by decide) rfl (fun ls hl => ?_)
          refine lv_goto (tgt := 2) hx hb dX9_hitsAll_23 (by decide) ?_
          exact ih2 v7 (by have h9 := h2; unfold IV at h9; have := dv7; omega) (iv_w hv7 (by decide) (by decide)) H locs (hP.sub (ws' := [(a, .inr (9, [.int a__size, .int a__fewest, .int a__honest, .ref a_pair, .ref a_one, .ref a_other, .ref a_fitted])), (a_pair, .inl (cs 0, 12, .inl a_pair_c))]) [0, 1] rfl) hS ls (lv_sub hl [0, 1, 2, 3] rfl)
        · have h8 : IV 0 0 v5 := iv_eq1 c6 iv_top (iv_c (a := 0) (b := 0) (by decide)) (by decide) (by decide)
          refine lv_iconst (v := 0) hx hb dX9_hitsAll_18 (by decide) ?_
          exact W.zret (v := 0) hx hb hr rfl (fun t ht hW => ⟨⟨0, (), rfl, (Or.inl (⟨rfl, h3⟩)), trivial⟩, hS.F ht⟩) hS.2.2 dX9_hitsAll_19
  refine lv_iconst (v := 0) hx hb dX9_hitsAll_0 (by decide) ?_
  refine lv_istore_n (lv' := [(3, .int 0), (0, .ref a), (1, .int p0), (2, .int p1)]) hx hb dX9_hitsAll_1 rfl hl (by decide) rfl (fun ls hl => ?_)
  exact K2 _ 0 (Nat.le_refl _) (iv_c (by decide)) H locs (hP.sub (ws' := [(a, .inr (9, [.int a__size, .int a__fewest, .int a__honest, .ref a_pair, .ref a_one, .ref a_other, .ref a_fitted])), (a_pair, .inl (cs 0, 12, .inl a_pair_c))]) [0, 1] rfl) hS ls (lv_sub hl [0, 1, 2, 3] rfl)
theorem dX9_seekForgers_0 : decode cX9_seekForgers 0 = .ok (.aload_n 0, 1) := by decide +kernel
theorem dX9_seekForgers_1 : decode cX9_seekForgers 1 = .ok (.bipush (-2), 2) := by decide +kernel
theorem dX9_seekForgers_3 : decode cX9_seekForgers 3 = .ok (.putfield 33, 3) := by decide +kernel
theorem dX9_seekForgers_6 : decode cX9_seekForgers 6 = .ok (.aload_n 0, 1) := by decide +kernel
theorem dX9_seekForgers_7 : decode cX9_seekForgers 7 = .ok (.iconst 0, 1) := by decide +kernel
theorem dX9_seekForgers_8 : decode cX9_seekForgers 8 = .ok (.putfield 36, 3) := by decide +kernel
theorem dX9_seekForgers_11 : decode cX9_seekForgers 11 = .ok (.aload_n 0, 1) := by decide +kernel
theorem dX9_seekForgers_12 : decode cX9_seekForgers 12 = .ok (.aload_n 1, 1) := by decide +kernel
theorem dX9_seekForgers_13 : decode cX9_seekForgers 13 = .ok (.invokevirtual 39, 3) := by decide +kernel
theorem dX9_seekForgers_16 : decode cX9_seekForgers 16 = .ok (.istore_n 2, 1) := by decide +kernel
theorem dX9_seekForgers_17 : decode cX9_seekForgers 17 = .ok (.iload_n 2, 1) := by decide +kernel
theorem dX9_seekForgers_18 : decode cX9_seekForgers 18 = .ok (.ifCond .ge 4, 3) := by decide +kernel
theorem dX9_seekForgers_21 : decode cX9_seekForgers 21 = .ok (.return_, 1) := by decide +kernel
theorem dX9_seekForgers_22 : decode cX9_seekForgers 22 = .ok (.aload_n 0, 1) := by decide +kernel
theorem dX9_seekForgers_23 : decode cX9_seekForgers 23 = .ok (.invokevirtual 43, 3) := by decide +kernel
theorem dX9_seekForgers_26 : decode cX9_seekForgers 26 = .ok (.istore_n 3, 1) := by decide +kernel
theorem dX9_seekForgers_27 : decode cX9_seekForgers 27 = .ok (.bipush 13, 2) := by decide +kernel
theorem dX9_seekForgers_29 : decode cX9_seekForgers 29 = .ok (.istore 4, 2) := by decide +kernel
theorem dX9_seekForgers_31 : decode cX9_seekForgers 31 = .ok (.iconst 0, 1) := by decide +kernel
theorem dX9_seekForgers_32 : decode cX9_seekForgers 32 = .ok (.istore 5, 2) := by decide +kernel
theorem dX9_seekForgers_34 : decode cX9_seekForgers 34 = .ok (.iconst 0, 1) := by decide +kernel
theorem dX9_seekForgers_35 : decode cX9_seekForgers 35 = .ok (.istore 6, 2) := by decide +kernel
theorem dX9_seekForgers_37 : decode cX9_seekForgers 37 = .ok (.iload 6, 2) := by decide +kernel
theorem dX9_seekForgers_39 : decode cX9_seekForgers 39 = .ok (.iconst 1, 1) := by decide +kernel
theorem dX9_seekForgers_40 : decode cX9_seekForgers 40 = .ok (.aload_n 1, 1) := by decide +kernel
theorem dX9_seekForgers_41 : decode cX9_seekForgers 41 = .ok (.getfield 47, 3) := by decide +kernel
theorem dX9_seekForgers_44 : decode cX9_seekForgers 44 = .ok (.ishl, 1) := by decide +kernel
theorem dX9_seekForgers_45 : decode cX9_seekForgers 45 = .ok (.if_icmp .ge 70, 3) := by decide +kernel
theorem dX9_seekForgers_48 : decode cX9_seekForgers 48 = .ok (.iload 6, 2) := by decide +kernel
theorem dX9_seekForgers_50 : decode cX9_seekForgers 50 = .ok (.invokestatic 52, 3) := by decide +kernel
theorem dX9_seekForgers_53 : decode cX9_seekForgers 53 = .ok (.istore 7, 2) := by decide +kernel
theorem dX9_seekForgers_55 : decode cX9_seekForgers 55 = .ok (.iload 6, 2) := by decide +kernel
theorem dX9_seekForgers_57 : decode cX9_seekForgers 57 = .ok (.iload_n 3, 1) := by decide +kernel
theorem dX9_seekForgers_58 : decode cX9_seekForgers 58 = .ok (.iand, 1) := by decide +kernel
theorem dX9_seekForgers_59 : decode cX9_seekForgers 59 = .ok (.ifCond .ne 50, 3) := by decide +kernel
theorem dX9_seekForgers_62 : decode cX9_seekForgers 62 = .ok (.iload 7, 2) := by decide +kernel
theorem dX9_seekForgers_64 : decode cX9_seekForgers 64 = .ok (.iload 4, 2) := by decide +kernel
theorem dX9_seekForgers_66 : decode cX9_seekForgers 66 = .ok (.if_icmp .gt 43, 3) := by decide +kernel
theorem dX9_seekForgers_69 : decode cX9_seekForgers 69 = .ok (.aload_n 0, 1) := by decide +kernel
theorem dX9_seekForgers_70 : decode cX9_seekForgers 70 = .ok (.iload 6, 2) := by decide +kernel
theorem dX9_seekForgers_72 : decode cX9_seekForgers 72 = .ok (.iload_n 2, 1) := by decide +kernel
theorem dX9_seekForgers_73 : decode cX9_seekForgers 73 = .ok (.invokevirtual 58, 3) := by decide +kernel
theorem dX9_seekForgers_76 : decode cX9_seekForgers 76 = .ok (.ifCond .ne 6, 3) := by decide +kernel
theorem dX9_seekForgers_79 : decode cX9_seekForgers 79 = .ok (.goto 30, 3) := by decide +kernel
theorem dX9_seekForgers_82 : decode cX9_seekForgers 82 = .ok (.iload 7, 2) := by decide +kernel
theorem dX9_seekForgers_84 : decode cX9_seekForgers 84 = .ok (.iload 4, 2) := by decide +kernel
theorem dX9_seekForgers_86 : decode cX9_seekForgers 86 = .ok (.if_icmp .ge 16, 3) := by decide +kernel
theorem dX9_seekForgers_89 : decode cX9_seekForgers 89 = .ok (.iload 7, 2) := by decide +kernel
theorem dX9_seekForgers_91 : decode cX9_seekForgers 91 = .ok (.istore 4, 2) := by decide +kernel
theorem dX9_seekForgers_93 : decode cX9_seekForgers 93 = .ok (.aload_n 0, 1) := by decide +kernel
theorem dX9_seekForgers_94 : decode cX9_seekForgers 94 = .ok (.iload 6, 2) := by decide +kernel
theorem dX9_seekForgers_96 : decode cX9_seekForgers 96 = .ok (.putfield 33, 3) := by decide +kernel
theorem dX9_seekForgers_99 : decode cX9_seekForgers 99 = .ok (.iconst 0, 1) := by decide +kernel
theorem dX9_seekForgers_100 : decode cX9_seekForgers 100 = .ok (.istore 5, 2) := by decide +kernel
theorem dX9_seekForgers_102 : decode cX9_seekForgers 102 = .ok (.iload 5, 2) := by decide +kernel
theorem dX9_seekForgers_104 : decode cX9_seekForgers 104 = .ok (.iload 6, 2) := by decide +kernel
theorem dX9_seekForgers_106 : decode cX9_seekForgers 106 = .ok (.ior, 1) := by decide +kernel
theorem dX9_seekForgers_107 : decode cX9_seekForgers 107 = .ok (.istore 5, 2) := by decide +kernel
theorem dX9_seekForgers_109 : decode cX9_seekForgers 109 = .ok (.iinc 6 1, 3) := by decide +kernel
theorem dX9_seekForgers_112 : decode cX9_seekForgers 112 = .ok (.goto (-75), 3) := by decide +kernel
theorem dX9_seekForgers_115 : decode cX9_seekForgers 115 = .ok (.aload_n 0, 1) := by decide +kernel
theorem dX9_seekForgers_116 : decode cX9_seekForgers 116 = .ok (.getfield 33, 3) := by decide +kernel
theorem dX9_seekForgers_119 : decode cX9_seekForgers 119 = .ok (.ifCond .lt 20, 3) := by decide +kernel
theorem dX9_seekForgers_122 : decode cX9_seekForgers 122 = .ok (.aload_n 0, 1) := by decide +kernel
theorem dX9_seekForgers_123 : decode cX9_seekForgers 123 = .ok (.iload 5, 2) := by decide +kernel
theorem dX9_seekForgers_125 : decode cX9_seekForgers 125 = .ok (.iconst (-1), 1) := by decide +kernel
theorem dX9_seekForgers_126 : decode cX9_seekForgers 126 = .ok (.ixor, 1) := by decide +kernel
theorem dX9_seekForgers_127 : decode cX9_seekForgers 127 = .ok (.iconst 1, 1) := by decide +kernel
theorem dX9_seekForgers_128 : decode cX9_seekForgers 128 = .ok (.aload_n 1, 1) := by decide +kernel
theorem dX9_seekForgers_129 : decode cX9_seekForgers 129 = .ok (.getfield 47, 3) := by decide +kernel
theorem dX9_seekForgers_132 : decode cX9_seekForgers 132 = .ok (.ishl, 1) := by decide +kernel
theorem dX9_seekForgers_133 : decode cX9_seekForgers 133 = .ok (.iconst 1, 1) := by decide +kernel
theorem dX9_seekForgers_134 : decode cX9_seekForgers 134 = .ok (.isub, 1) := by decide +kernel
theorem dX9_seekForgers_135 : decode cX9_seekForgers 135 = .ok (.iand, 1) := by decide +kernel
theorem dX9_seekForgers_136 : decode cX9_seekForgers 136 = .ok (.putfield 36, 3) := by decide +kernel
theorem dX9_seekForgers_139 : decode cX9_seekForgers 139 = .ok (.return_, 1) := by decide +kernel
set_option maxHeartbeats 4000000 in
set_option maxRecDepth 100000 in
theorem c_X9_seekForgers (l : Launch) (D : va_G) (cs : Nat → ClassId) (kK kV : Nat → Nat) (a : Nat) (b0 : Nat) (a__size : Int32) (a__fewest : Int32) (a__honest : Int32) (a_pair : Nat) (a_one : Nat) (a_other : Nat) (a_fitted : Nat) (a_one_c : Nat → Int32) (a_other_c : Nat → Int32) (b0__stalls : Int32) (b0__shift : Int32) (b0__halves : Int32) (b0__buyers : Int32) (b0__near : Int32) (b0__dusk : Int32) (b0__duskPrice : Int32) (b0__hear : Int32) (b0__forged : Int32) (b0_stall : Nat) (b0_shape : Nat) (b0_side : Nat) (b0_price : Nat) (b0_purse : Nat) (b0_spot : Nat) (b0_club : Nat) (b0_fitting : Nat) (b0_nearly : Nat) (b0_side_c : Nat → Int32) (b0_shape_c : Nat → Int32) (a_fitted_c : Nat → Int32) (a_pair_c : Nat → Int32) (h_a__size : IV 0 12 a__size) (h_a_one_c : CI 12 0 11 a_one_c) (h_a_other_c : CI 12 0 11 a_other_c) (h_b0__halves : IV 0 12 b0__halves) (sz : Nat) : Met l yX9_seekForgers (hz_w yX9_seekForgers cX9_seekForgers 8 none) ({ frames := 2, cells := 0, slots := 0, locals := 46 }) (va_Pc [.ref a, .ref b0] (hz_C D cs kK kV sz [(a, .inr (9, [.int a__size, .int a__fewest, .int a__honest, .ref a_pair, .ref a_one, .ref a_other, .ref a_fitted])), (a_one, .inl (cs 0, 12, .inl a_one_c)), (a_other, .inl (cs 0, 12, .inl a_other_c)), (b0, .inr (8, [.int b0__stalls, .int b0__shift, .int b0__halves, .int b0__buyers, .int b0__near, .int b0__dusk, .int b0__duskPrice, .int b0__hear, .int b0__forged, .ref b0_stall, .ref b0_shape, .ref b0_side, .ref b0_price, .ref b0_purse, .ref b0_spot, .ref b0_club, .ref b0_fitting, .ref b0_nearly])), (b0_side, .inl (cs 0, 12, .inl b0_side_c)), (b0_shape, .inl (cs 0, 12, .inl b0_shape_c)), (a_fitted, .inl (cs 2, 12, .inl a_fitted_c)), (a_pair, .inl (cs 0, 12, .inl a_pair_c))])) (va_Qv (fun (_ : Unit) => True) (fun _ t => ∃ (o_a_1 : Int32), ∃ (o_a_2 : Int32), ∃ (o_a_pair_c : Nat → Int32), IV (-2) 4095 o_a_1 ∧ IV 0 4095 o_a_2 ∧ va_P D classes [(a, .inr (9, [.int a__size, .int o_a_1, .int o_a_2, .ref a_pair, .ref a_one, .ref a_other, .ref a_fitted])), (a_one, .inl (cs 0, 12, .inl a_one_c)), (a_other, .inl (cs 0, 12, .inl a_other_c)), (b0, .inr (8, [.int b0__stalls, .int b0__shift, .int b0__halves, .int b0__buyers, .int b0__near, .int b0__dusk, .int b0__duskPrice, .int b0__hear, .int b0__forged, .ref b0_stall, .ref b0_shape, .ref b0_side, .ref b0_price, .ref b0_purse, .ref b0_spot, .ref b0_club, .ref b0_fitting, .ref b0_nearly])), (b0_side, .inl (cs 0, 12, .inl b0_side_c)), (b0_shape, .inl (cs 0, 12, .inl b0_shape_c)), (a_fitted, .inl (cs 2, 12, .inl a_fitted_c)), (a_pair, .inl (cs 0, 12, .inl o_a_pair_c))] t.heap ∧ va_D (va_A [(a, .inr (9, [.int a__size, .int a__fewest, .int a__honest, .ref a_pair, .ref a_one, .ref a_other, .ref a_fitted])), (a_one, .inl (cs 0, 12, .inl a_one_c)), (a_other, .inl (cs 0, 12, .inl a_other_c)), (b0, .inr (8, [.int b0__stalls, .int b0__shift, .int b0__halves, .int b0__buyers, .int b0__near, .int b0__dusk, .int b0__duskPrice, .int b0__hear, .int b0__forged, .ref b0_stall, .ref b0_shape, .ref b0_side, .ref b0_price, .ref b0_purse, .ref b0_spot, .ref b0_club, .ref b0_fitting, .ref b0_nearly])), (b0_side, .inl (cs 0, 12, .inl b0_side_c)), (b0_shape, .inl (cs 0, 12, .inl b0_shape_c)), (a_fitted, .inl (cs 2, 12, .inl a_fitted_c)), (a_pair, .inl (cs 0, 12, .inl a_pair_c))] sz) [(a, .inr (9, [.int a__size, .int o_a_1, .int o_a_2, .ref a_pair, .ref a_one, .ref a_other, .ref a_fitted])), (a_one, .inl (cs 0, 12, .inl a_one_c)), (a_other, .inl (cs 0, 12, .inl a_other_c)), (b0, .inr (8, [.int b0__stalls, .int b0__shift, .int b0__halves, .int b0__buyers, .int b0__near, .int b0__dusk, .int b0__duskPrice, .int b0__hear, .int b0__forged, .ref b0_stall, .ref b0_shape, .ref b0_side, .ref b0_price, .ref b0_purse, .ref b0_spot, .ref b0_club, .ref b0_fitting, .ref b0_nearly])), (b0_side, .inl (cs 0, 12, .inl b0_side_c)), (b0_shape, .inl (cs 0, 12, .inl b0_shape_c)), (a_fitted, .inl (cs 2, 12, .inl a_fitted_c)), (a_pair, .inl (cs 0, 12, .inl o_a_pair_c))]) (va_A [(a, .inr (9, [.int a__size, .int a__fewest, .int a__honest, .ref a_pair, .ref a_one, .ref a_other, .ref a_fitted])), (a_one, .inl (cs 0, 12, .inl a_one_c)), (a_other, .inl (cs 0, 12, .inl a_other_c)), (b0, .inr (8, [.int b0__stalls, .int b0__shift, .int b0__halves, .int b0__buyers, .int b0__near, .int b0__dusk, .int b0__duskPrice, .int b0__hear, .int b0__forged, .ref b0_stall, .ref b0_shape, .ref b0_side, .ref b0_price, .ref b0_purse, .ref b0_spot, .ref b0_club, .ref b0_fitting, .ref b0_nearly])), (b0_side, .inl (cs 0, 12, .inl b0_side_c)), (b0_shape, .inl (cs 0, 12, .inl b0_shape_c)), (a_fitted, .inl (cs 2, 12, .inl a_fitted_c)), (a_pair, .inl (cs 0, 12, .inl a_pair_c))] sz)) 0 0 (va_A [(a, .inr (9, [.int a__size, .int a__fewest, .int a__honest, .ref a_pair, .ref a_one, .ref a_other, .ref a_fitted])), (a_one, .inl (cs 0, 12, .inl a_one_c)), (a_other, .inl (cs 0, 12, .inl a_other_c)), (b0, .inr (8, [.int b0__stalls, .int b0__shift, .int b0__halves, .int b0__buyers, .int b0__near, .int b0__dusk, .int b0__duskPrice, .int b0__hear, .int b0__forged, .ref b0_stall, .ref b0_shape, .ref b0_side, .ref b0_price, .ref b0_purse, .ref b0_spot, .ref b0_club, .ref b0_fitting, .ref b0_nearly])), (b0_side, .inl (cs 0, 12, .inl b0_side_c)), (b0_shape, .inl (cs 0, 12, .inl b0_shape_c)), (a_fitted, .inl (cs 2, 12, .inl a_fitted_c)), (a_pair, .inl (cs 0, 12, .inl a_pair_c))] sz) := by
  refine Met.ofW (cc := cX9_seekForgers) (maxL := 8) (ret := none) (by decide) rfl ?_
  intro p e s m args below meth c s₁ B hml hv
  obtain ⟨rfl, hsz, hP, hD0, hE⟩ := hv
  have hx := B.exec
  have hb := B.bytes
  have hr := B.returns
  have hT : ∀ w ∈ TB, w.before _ s = true := fun w h => atoms_spec (ws := hz_w yX9_seekForgers cX9_seekForgers 8 none) B.pre w (List.mem_cons_of_mem _ h)
  have hown : s.vm.findClass RX9 = some m.cls := findClass_of_methodNamed B.named
  have hlocks := B.notSynchronized
  clear B
  subst hsz
  have hD := hD0.self (sz := s.heap.size)
  generalize hAe : va_A [(a, .inr (9, [.int a__size, .int a__fewest, .int a__honest, .ref a_pair, .ref a_one, .ref a_other, .ref a_fitted])), (a_one, .inl (cs 0, 12, .inl a_one_c)), (a_other, .inl (cs 0, 12, .inl a_other_c)), (b0, .inr (8, [.int b0__stalls, .int b0__shift, .int b0__halves, .int b0__buyers, .int b0__near, .int b0__dusk, .int b0__duskPrice, .int b0__hear, .int b0__forged, .ref b0_stall, .ref b0_shape, .ref b0_side, .ref b0_price, .ref b0_purse, .ref b0_spot, .ref b0_club, .ref b0_fitting, .ref b0_nearly])), (b0_side, .inl (cs 0, 12, .inl b0_side_c)), (b0_shape, .inl (cs 0, 12, .inl b0_shape_c)), (a_fitted, .inl (cs 2, 12, .inl a_fitted_c)), (a_pair, .inl (cs 0, 12, .inl a_pair_c))] s.heap.size = A at hD hE ⊢
  have hA : ∀ q : Nat, s.heap.size ≤ q → A q := fun q h => by rw [← hAe]; exact Or.inr h
  clear hAe hD0
  have hS : va_S A s.heap s.heap [] := va_S.rf
  have hK := hE.1
  have hl := lv_entry ([.ref a, .ref b0]) (n := 8) (Nat.le_of_ble_eq_true rfl)
  rw [lg_entry_eq]
  generalize (lg_sl ([.ref a, .ref b0]) ++ List.replicate (8 - (lg_sl ([.ref a, .ref b0])).length) Slot.unset).toArray = ls at hl ⊢
  have hl : lv_has ls 8 [(0, .ref a), (1, .ref b0)] := hl
  obtain ⟨H, eH⟩ : ∃ z, z = s.heap := ⟨_, rfl⟩
  have hP : va_P D classes [(a, .inr (9, [.int a__size, .int a__fewest, .int a__honest, .ref a_pair, .ref a_one, .ref a_other, .ref a_fitted])), (a_one, .inl (cs 0, 12, .inl a_one_c)), (a_other, .inl (cs 0, 12, .inl a_other_c)), (b0, .inr (8, [.int b0__stalls, .int b0__shift, .int b0__halves, .int b0__buyers, .int b0__near, .int b0__dusk, .int b0__duskPrice, .int b0__hear, .int b0__forged, .ref b0_stall, .ref b0_shape, .ref b0_side, .ref b0_price, .ref b0_purse, .ref b0_spot, .ref b0_club, .ref b0_fitting, .ref b0_nearly])), (b0_side, .inl (cs 0, 12, .inl b0_side_c)), (b0_shape, .inl (cs 0, 12, .inl b0_shape_c)), (a_fitted, .inl (cs 2, 12, .inl a_fitted_c)), (a_pair, .inl (cs 0, 12, .inl a_pair_c))] H := by rw [eH]; exact hP
  have hS : va_S A s.heap H [] := by rw [eH]; exact hS
  rw [← eH]
  clear eH
  obtain ⟨locs, el⟩ : ∃ z : List Loc, z = [] := ⟨_, rfl⟩
  rw [← el] at hS ⊢
  clear el
  have K37 : ∀ (n : Nat) (k37_L_6 : Int32) (k37_L_5 : Int32) (k37_L_4 : Int32) (k37_L_3 : Int32) (k37_L_2 : Int32) (k37_F_a_1 : Int32) (k37_C_a_pair : Nat → Int32), (4096 - k37_L_6.toInt + 1).toNat ≤ n → IV (-2) 4095 k37_F_a_1 → IV 0 12 k37_L_2 → IV 0 4095 k37_L_3 → IV 0 13 k37_L_4 → IV 0 4095 k37_L_5 → IV 0 4096 k37_L_6 → ∀ (H : Heap) (locs : List Loc), va_P D classes [(a, .inr (9, [.int a__size, .int k37_F_a_1, .int 0, .ref a_pair, .ref a_one, .ref a_other, .ref a_fitted])), (a_one, .inl (cs 0, 12, .inl a_one_c)), (a_other, .inl (cs 0, 12, .inl a_other_c)), (b0, .inr (8, [.int b0__stalls, .int b0__shift, .int b0__halves, .int b0__buyers, .int b0__near, .int b0__dusk, .int b0__duskPrice, .int b0__hear, .int b0__forged, .ref b0_stall, .ref b0_shape, .ref b0_side, .ref b0_price, .ref b0_purse, .ref b0_spot, .ref b0_club, .ref b0_fitting, .ref b0_nearly])), (b0_side, .inl (cs 0, 12, .inl b0_side_c)), (b0_shape, .inl (cs 0, 12, .inl b0_shape_c)), (a_fitted, .inl (cs 2, 12, .inl a_fitted_c)), (a_pair, .inl (cs 0, 12, .inl k37_C_a_pair))] H → va_D A [(a, .inr (9, [.int a__size, .int k37_F_a_1, .int 0, .ref a_pair, .ref a_one, .ref a_other, .ref a_fitted])), (a_one, .inl (cs 0, 12, .inl a_one_c)), (a_other, .inl (cs 0, 12, .inl a_other_c)), (b0, .inr (8, [.int b0__stalls, .int b0__shift, .int b0__halves, .int b0__buyers, .int b0__near, .int b0__dusk, .int b0__duskPrice, .int b0__hear, .int b0__forged, .ref b0_stall, .ref b0_shape, .ref b0_side, .ref b0_price, .ref b0_purse, .ref b0_spot, .ref b0_club, .ref b0_fitting, .ref b0_nearly])), (b0_side, .inl (cs 0, 12, .inl b0_side_c)), (b0_shape, .inl (cs 0, 12, .inl b0_shape_c)), (a_fitted, .inl (cs 2, 12, .inl a_fitted_c)), (a_pair, .inl (cs 0, 12, .inl k37_C_a_pair))] → va_S A s.heap H locs → ∀ ls : Array Slot, lv_has ls 8 [(6, .int k37_L_6), (5, .int k37_L_5), (4, .int k37_L_4), (3, .int k37_L_3), (2, .int k37_L_2), (0, .ref a), (1, .ref b0)] → W p l e (headSpec (hz_w yX9_seekForgers cX9_seekForgers 8 none) ({ frames := 2, cells := 0, slots := 0, locals := 46 })).room s m [.ref a, .ref b0].toArray below meth c H locs 0 0 (MQ below (va_Qv (fun (_ : Unit) => True) (fun _ t => ∃ (o_a_1 : Int32), ∃ (o_a_2 : Int32), ∃ (o_a_pair_c : Nat → Int32), IV (-2) 4095 o_a_1 ∧ IV 0 4095 o_a_2 ∧ va_P D classes [(a, .inr (9, [.int a__size, .int o_a_1, .int o_a_2, .ref a_pair, .ref a_one, .ref a_other, .ref a_fitted])), (a_one, .inl (cs 0, 12, .inl a_one_c)), (a_other, .inl (cs 0, 12, .inl a_other_c)), (b0, .inr (8, [.int b0__stalls, .int b0__shift, .int b0__halves, .int b0__buyers, .int b0__near, .int b0__dusk, .int b0__duskPrice, .int b0__hear, .int b0__forged, .ref b0_stall, .ref b0_shape, .ref b0_side, .ref b0_price, .ref b0_purse, .ref b0_spot, .ref b0_club, .ref b0_fitting, .ref b0_nearly])), (b0_side, .inl (cs 0, 12, .inl b0_side_c)), (b0_shape, .inl (cs 0, 12, .inl b0_shape_c)), (a_fitted, .inl (cs 2, 12, .inl a_fitted_c)), (a_pair, .inl (cs 0, 12, .inl o_a_pair_c))] t.heap ∧ va_D A [(a, .inr (9, [.int a__size, .int o_a_1, .int o_a_2, .ref a_pair, .ref a_one, .ref a_other, .ref a_fitted])), (a_one, .inl (cs 0, 12, .inl a_one_c)), (a_other, .inl (cs 0, 12, .inl a_other_c)), (b0, .inr (8, [.int b0__stalls, .int b0__shift, .int b0__halves, .int b0__buyers, .int b0__near, .int b0__dusk, .int b0__duskPrice, .int b0__hear, .int b0__forged, .ref b0_stall, .ref b0_shape, .ref b0_side, .ref b0_price, .ref b0_purse, .ref b0_spot, .ref b0_club, .ref b0_fitting, .ref b0_nearly])), (b0_side, .inl (cs 0, 12, .inl b0_side_c)), (b0_shape, .inl (cs 0, 12, .inl b0_shape_c)), (a_fitted, .inl (cs 2, 12, .inl a_fitted_c)), (a_pair, .inl (cs 0, 12, .inl o_a_pair_c))]) A) [.ref a, .ref b0].toArray s 0 0 A) (F0 m 37 ls []) := by
    intro n
    induction n with
    | zero =>
      intro k37_L_6 k37_L_5 k37_L_4 k37_L_3 k37_L_2 k37_F_a_1 k37_C_a_pair hn q37_4 q37_5 q37_6 q37_7 q37_8 q37_9 H locs hP hD hS ls hl
      exact absurd hn (by unfold IV at q37_9; omega)
    | succ n ih37 =>
      intro k37_L_6 k37_L_5 k37_L_4 k37_L_3 k37_L_2 k37_F_a_1 k37_C_a_pair hn q37_4 q37_5 q37_6 q37_7 q37_8 q37_9 H locs hP hD hS ls hl
      have K109 : ∀ (k109_L_7 : Int32) (k109_L_5 : Int32) (k109_L_4 : Int32) (k109_F_a_1 : Int32), IV (-2) 4095 k109_F_a_1 → IV 0 13 k109_L_4 → IV 0 4095 k109_L_5 → IV 0 63 k109_L_7 → IV 0 12 k37_L_2 → IV 0 4095 k37_L_3 → IV 0 4095 k37_L_6 → ∀ (H : Heap) (locs : List Loc), va_P D classes [(a, .inr (9, [.int a__size, .int k109_F_a_1, .int 0, .ref a_pair, .ref a_one, .ref a_other, .ref a_fitted])), (a_one, .inl (cs 0, 12, .inl a_one_c)), (a_other, .inl (cs 0, 12, .inl a_other_c)), (b0, .inr (8, [.int b0__stalls, .int b0__shift, .int b0__halves, .int b0__buyers, .int b0__near, .int b0__dusk, .int b0__duskPrice, .int b0__hear, .int b0__forged, .ref b0_stall, .ref b0_shape, .ref b0_side, .ref b0_price, .ref b0_purse, .ref b0_spot, .ref b0_club, .ref b0_fitting, .ref b0_nearly])), (b0_side, .inl (cs 0, 12, .inl b0_side_c)), (b0_shape, .inl (cs 0, 12, .inl b0_shape_c)), (a_fitted, .inl (cs 2, 12, .inl a_fitted_c)), (a_pair, .inl (cs 0, 12, .inl k37_C_a_pair))] H → va_D A [(a, .inr (9, [.int a__size, .int k109_F_a_1, .int 0, .ref a_pair, .ref a_one, .ref a_other, .ref a_fitted])), (a_one, .inl (cs 0, 12, .inl a_one_c)), (a_other, .inl (cs 0, 12, .inl a_other_c)), (b0, .inr (8, [.int b0__stalls, .int b0__shift, .int b0__halves, .int b0__buyers, .int b0__near, .int b0__dusk, .int b0__duskPrice, .int b0__hear, .int b0__forged, .ref b0_stall, .ref b0_shape, .ref b0_side, .ref b0_price, .ref b0_purse, .ref b0_spot, .ref b0_club, .ref b0_fitting, .ref b0_nearly])), (b0_side, .inl (cs 0, 12, .inl b0_side_c)), (b0_shape, .inl (cs 0, 12, .inl b0_shape_c)), (a_fitted, .inl (cs 2, 12, .inl a_fitted_c)), (a_pair, .inl (cs 0, 12, .inl k37_C_a_pair))] → va_S A s.heap H locs → ∀ ls : Array Slot, lv_has ls 8 [(7, .int k109_L_7), (6, .int k37_L_6), (5, .int k109_L_5), (4, .int k109_L_4), (3, .int k37_L_3), (2, .int k37_L_2), (0, .ref a), (1, .ref b0)] → W p l e (headSpec (hz_w yX9_seekForgers cX9_seekForgers 8 none) ({ frames := 2, cells := 0, slots := 0, locals := 46 })).room s m [.ref a, .ref b0].toArray below meth c H locs 0 0 (MQ below (va_Qv (fun (_ : Unit) => True) (fun _ t => ∃ (o_a_1 : Int32), ∃ (o_a_2 : Int32), ∃ (o_a_pair_c : Nat → Int32), IV (-2) 4095 o_a_1 ∧ IV 0 4095 o_a_2 ∧ va_P D classes [(a, .inr (9, [.int a__size, .int o_a_1, .int o_a_2, .ref a_pair, .ref a_one, .ref a_other, .ref a_fitted])), (a_one, .inl (cs 0, 12, .inl a_one_c)), (a_other, .inl (cs 0, 12, .inl a_other_c)), (b0, .inr (8, [.int b0__stalls, .int b0__shift, .int b0__halves, .int b0__buyers, .int b0__near, .int b0__dusk, .int b0__duskPrice, .int b0__hear, .int b0__forged, .ref b0_stall, .ref b0_shape, .ref b0_side, .ref b0_price, .ref b0_purse, .ref b0_spot, .ref b0_club, .ref b0_fitting, .ref b0_nearly])), (b0_side, .inl (cs 0, 12, .inl b0_side_c)), (b0_shape, .inl (cs 0, 12, .inl b0_shape_c)), (a_fitted, .inl (cs 2, 12, .inl a_fitted_c)), (a_pair, .inl (cs 0, 12, .inl o_a_pair_c))] t.heap ∧ va_D A [(a, .inr (9, [.int a__size, .int o_a_1, .int o_a_2, .ref a_pair, .ref a_one, .ref a_other, .ref a_fitted])), (a_one, .inl (cs 0, 12, .inl a_one_c)), (a_other, .inl (cs 0, 12, .inl a_other_c)), (b0, .inr (8, [.int b0__stalls, .int b0__shift, .int b0__halves, .int b0__buyers, .int b0__near, .int b0__dusk, .int b0__duskPrice, .int b0__hear, .int b0__forged, .ref b0_stall, .ref b0_shape, .ref b0_side, .ref b0_price, .ref b0_purse, .ref b0_spot, .ref b0_club, .ref b0_fitting, .ref b0_nearly])), (b0_side, .inl (cs 0, 12, .inl b0_side_c)), (b0_shape, .inl (cs 0, 12, .inl b0_shape_c)), (a_fitted, .inl (cs 2, 12, .inl a_fitted_c)), (a_pair, .inl (cs 0, 12, .inl o_a_pair_c))]) A) [.ref a, .ref b0].toArray s 0 0 A) (F0 m 109 ls []) := by
        intro k109_L_7 k109_L_5 k109_L_4 k109_F_a_1 q109_4 q109_5 q109_6 q109_7 q109_8 q109_9 q109_10 H locs hP hD hS ls hl
        obtain ⟨v1, ev1⟩ : ∃ z : Int32, z = k37_L_6 + 1 := ⟨_, rfl⟩
        have hv1 : IV 1 4096 v1 := iv_add ev1 q109_10 (iv_c (a := 1) (b := 1) (by decide)) (by decide) (by decide)
        have dv1 : v1.toInt = k37_L_6.toInt + 1 := iv_addE ev1 q109_10 (iv_c (a := 1) (b := 1) (by decide)) (by decide) (by decide) (by decide)
        refine lv_iinc (v := v1) (lv' := [(6, .int v1), (7, .int k109_L_7), (5, .int k109_L_5), (4, .int k109_L_4), (3, .int k37_L_3), (2, .int k37_L_2), (0, .ref a), (1, .ref b0)]) hx hb dX9_seekForgers_109 hl (k := 1) rfl (by rw [ev1]; rfl) (by decide) rfl (fun ls hl => ?_)
        refine lv_goto (tgt := 37) hx hb dX9_seekForgers_112 (by decide) ?_
        exact ih37 v1 k109_L_5 k109_L_4 k37_L_3 k37_L_2 k109_F_a_1 k37_C_a_pair (by have h9 := q109_10; unfold IV at h9; have := dv1; omega) q109_4 q109_8 q109_9 q109_5 q109_6 (iv_w hv1 (by decide) (by decide)) H locs (hP.sub (ws' := [(a, .inr (9, [.int a__size, .int k109_F_a_1, .int 0, .ref a_pair, .ref a_one, .ref a_other, .ref a_fitted])), (a_one, .inl (cs 0, 12, .inl a_one_c)), (a_other, .inl (cs 0, 12, .inl a_other_c)), (b0, .inr (8, [.int b0__stalls, .int b0__shift, .int b0__halves, .int b0__buyers, .int b0__near, .int b0__dusk, .int b0__duskPrice, .int b0__hear, .int b0__forged, .ref b0_stall, .ref b0_shape, .ref b0_side, .ref b0_price, .ref b0_purse, .ref b0_spot, .ref b0_club, .ref b0_fitting, .ref b0_nearly])), (b0_side, .inl (cs 0, 12, .inl b0_side_c)), (b0_shape, .inl (cs 0, 12, .inl b0_shape_c)), (a_fitted, .inl (cs 2, 12, .inl a_fitted_c)), (a_pair, .inl (cs 0, 12, .inl k37_C_a_pair))]) [0, 1, 2, 3, 4, 5, 6, 7] rfl) (hD.sub (ws' := [(a, .inr (9, [.int a__size, .int k109_F_a_1, .int 0, .ref a_pair, .ref a_one, .ref a_other, .ref a_fitted])), (a_one, .inl (cs 0, 12, .inl a_one_c)), (a_other, .inl (cs 0, 12, .inl a_other_c)), (b0, .inr (8, [.int b0__stalls, .int b0__shift, .int b0__halves, .int b0__buyers, .int b0__near, .int b0__dusk, .int b0__duskPrice, .int b0__hear, .int b0__forged, .ref b0_stall, .ref b0_shape, .ref b0_side, .ref b0_price, .ref b0_purse, .ref b0_spot, .ref b0_club, .ref b0_fitting, .ref b0_nearly])), (b0_side, .inl (cs 0, 12, .inl b0_side_c)), (b0_shape, .inl (cs 0, 12, .inl b0_shape_c)), (a_fitted, .inl (cs 2, 12, .inl a_fitted_c)), (a_pair, .inl (cs 0, 12, .inl k37_C_a_pair))]) [0, 1, 2, 3, 4, 5, 6, 7] (by decide) rfl) hS ls (lv_sub hl [0, 2, 3, 4, 5, 6, 7] rfl)
      have K102 : ∀ (k102_L_7 : Int32) (k102_L_5 : Int32) (k102_L_4 : Int32) (k102_F_a_1 : Int32), IV (-2) 4095 k102_F_a_1 → IV 0 13 k102_L_4 → IV 0 4095 k102_L_5 → IV 0 13 k102_L_7 → IV 0 12 k37_L_2 → IV 0 4095 k37_L_3 → IV 0 4095 k37_L_6 → ∀ (H : Heap) (locs : List Loc), va_P D classes [(a, .inr (9, [.int a__size, .int k102_F_a_1, .int 0, .ref a_pair, .ref a_one, .ref a_other, .ref a_fitted])), (a_one, .inl (cs 0, 12, .inl a_one_c)), (a_other, .inl (cs 0, 12, .inl a_other_c)), (b0, .inr (8, [.int b0__stalls, .int b0__shift, .int b0__halves, .int b0__buyers, .int b0__near, .int b0__dusk, .int b0__duskPrice, .int b0__hear, .int b0__forged, .ref b0_stall, .ref b0_shape, .ref b0_side, .ref b0_price, .ref b0_purse, .ref b0_spot, .ref b0_club, .ref b0_fitting, .ref b0_nearly])), (b0_side, .inl (cs 0, 12, .inl b0_side_c)), (b0_shape, .inl (cs 0, 12, .inl b0_shape_c)), (a_fitted, .inl (cs 2, 12, .inl a_fitted_c)), (a_pair, .inl (cs 0, 12, .inl k37_C_a_pair))] H → va_D A [(a, .inr (9, [.int a__size, .int k102_F_a_1, .int 0, .ref a_pair, .ref a_one, .ref a_other, .ref a_fitted])), (a_one, .inl (cs 0, 12, .inl a_one_c)), (a_other, .inl (cs 0, 12, .inl a_other_c)), (b0, .inr (8, [.int b0__stalls, .int b0__shift, .int b0__halves, .int b0__buyers, .int b0__near, .int b0__dusk, .int b0__duskPrice, .int b0__hear, .int b0__forged, .ref b0_stall, .ref b0_shape, .ref b0_side, .ref b0_price, .ref b0_purse, .ref b0_spot, .ref b0_club, .ref b0_fitting, .ref b0_nearly])), (b0_side, .inl (cs 0, 12, .inl b0_side_c)), (b0_shape, .inl (cs 0, 12, .inl b0_shape_c)), (a_fitted, .inl (cs 2, 12, .inl a_fitted_c)), (a_pair, .inl (cs 0, 12, .inl k37_C_a_pair))] → va_S A s.heap H locs → ∀ ls : Array Slot, lv_has ls 8 [(7, .int k102_L_7), (6, .int k37_L_6), (5, .int k102_L_5), (4, .int k102_L_4), (3, .int k37_L_3), (2, .int k37_L_2), (0, .ref a), (1, .ref b0)] → W p l e (headSpec (hz_w yX9_seekForgers cX9_seekForgers 8 none) ({ frames := 2, cells := 0, slots := 0, locals := 46 })).room s m [.ref a, .ref b0].toArray below meth c H locs 0 0 (MQ below (va_Qv (fun (_ : Unit) => True) (fun _ t => ∃ (o_a_1 : Int32), ∃ (o_a_2 : Int32), ∃ (o_a_pair_c : Nat → Int32), IV (-2) 4095 o_a_1 ∧ IV 0 4095 o_a_2 ∧ va_P D classes [(a, .inr (9, [.int a__size, .int o_a_1, .int o_a_2, .ref a_pair, .ref a_one, .ref a_other, .ref a_fitted])), (a_one, .inl (cs 0, 12, .inl a_one_c)), (a_other, .inl (cs 0, 12, .inl a_other_c)), (b0, .inr (8, [.int b0__stalls, .int b0__shift, .int b0__halves, .int b0__buyers, .int b0__near, .int b0__dusk, .int b0__duskPrice, .int b0__hear, .int b0__forged, .ref b0_stall, .ref b0_shape, .ref b0_side, .ref b0_price, .ref b0_purse, .ref b0_spot, .ref b0_club, .ref b0_fitting, .ref b0_nearly])), (b0_side, .inl (cs 0, 12, .inl b0_side_c)), (b0_shape, .inl (cs 0, 12, .inl b0_shape_c)), (a_fitted, .inl (cs 2, 12, .inl a_fitted_c)), (a_pair, .inl (cs 0, 12, .inl o_a_pair_c))] t.heap ∧ va_D A [(a, .inr (9, [.int a__size, .int o_a_1, .int o_a_2, .ref a_pair, .ref a_one, .ref a_other, .ref a_fitted])), (a_one, .inl (cs 0, 12, .inl a_one_c)), (a_other, .inl (cs 0, 12, .inl a_other_c)), (b0, .inr (8, [.int b0__stalls, .int b0__shift, .int b0__halves, .int b0__buyers, .int b0__near, .int b0__dusk, .int b0__duskPrice, .int b0__hear, .int b0__forged, .ref b0_stall, .ref b0_shape, .ref b0_side, .ref b0_price, .ref b0_purse, .ref b0_spot, .ref b0_club, .ref b0_fitting, .ref b0_nearly])), (b0_side, .inl (cs 0, 12, .inl b0_side_c)), (b0_shape, .inl (cs 0, 12, .inl b0_shape_c)), (a_fitted, .inl (cs 2, 12, .inl a_fitted_c)), (a_pair, .inl (cs 0, 12, .inl o_a_pair_c))]) A) [.ref a, .ref b0].toArray s 0 0 A) (F0 m 102 ls []) := by
        intro k102_L_7 k102_L_5 k102_L_4 k102_F_a_1 q102_4 q102_5 q102_6 q102_7 q102_8 q102_9 q102_10 H locs hP hD hS ls hl
        refine lv_iload hx hb dX9_seekForgers_102 (lv_at hl 2 rfl) ?_
        refine lv_iload hx hb dX9_seekForgers_104 (lv_at hl 1 rfl) ?_
        refine lv_ior hx hb dX9_seekForgers_106 ?_
        refine lv_topi (fun v2 ev2 => ?_)
        have hv2 : IV 0 4095 v2 := iv_or (k := 12) ev2 q102_6 q102_10 (by decide) (by decide) (by decide) (by decide) (by decide) (by decide)
        refine lv_istore (lv' := [(5, .int v2), (7, .int k102_L_7), (6, .int k37_L_6), (4, .int k102_L_4), (3, .int k37_L_3), (2, .int k37_L_2), (0, .ref a), (1, .ref b0)]) hx hb dX9_seekForgers_107 hl (by decide) rfl (fun ls hl => ?_)
        exact K109 k102_L_7 v2 k102_L_4 k102_F_a_1 q102_4 q102_5 hv2 (iv_w q102_7 (by decide) (by decide)) q102_8 q102_9 q102_10 H locs (hP.sub (ws' := [(a, .inr (9, [.int a__size, .int k102_F_a_1, .int 0, .ref a_pair, .ref a_one, .ref a_other, .ref a_fitted])), (a_one, .inl (cs 0, 12, .inl a_one_c)), (a_other, .inl (cs 0, 12, .inl a_other_c)), (b0, .inr (8, [.int b0__stalls, .int b0__shift, .int b0__halves, .int b0__buyers, .int b0__near, .int b0__dusk, .int b0__duskPrice, .int b0__hear, .int b0__forged, .ref b0_stall, .ref b0_shape, .ref b0_side, .ref b0_price, .ref b0_purse, .ref b0_spot, .ref b0_club, .ref b0_fitting, .ref b0_nearly])), (b0_side, .inl (cs 0, 12, .inl b0_side_c)), (b0_shape, .inl (cs 0, 12, .inl b0_shape_c)), (a_fitted, .inl (cs 2, 12, .inl a_fitted_c)), (a_pair, .inl (cs 0, 12, .inl k37_C_a_pair))]) [0, 1, 2, 3, 4, 5, 6, 7] rfl) (hD.sub (ws' := [(a, .inr (9, [.int a__size, .int k102_F_a_1, .int 0, .ref a_pair, .ref a_one, .ref a_other, .ref a_fitted])), (a_one, .inl (cs 0, 12, .inl a_one_c)), (a_other, .inl (cs 0, 12, .inl a_other_c)), (b0, .inr (8, [.int b0__stalls, .int b0__shift, .int b0__halves, .int b0__buyers, .int b0__near, .int b0__dusk, .int b0__duskPrice, .int b0__hear, .int b0__forged, .ref b0_stall, .ref b0_shape, .ref b0_side, .ref b0_price, .ref b0_purse, .ref b0_spot, .ref b0_club, .ref b0_fitting, .ref b0_nearly])), (b0_side, .inl (cs 0, 12, .inl b0_side_c)), (b0_shape, .inl (cs 0, 12, .inl b0_shape_c)), (a_fitted, .inl (cs 2, 12, .inl a_fitted_c)), (a_pair, .inl (cs 0, 12, .inl k37_C_a_pair))]) [0, 1, 2, 3, 4, 5, 6, 7] (by decide) rfl) hS ls (lv_sub hl [1, 2, 0, 3, 4, 5, 6, 7] rfl)
      refine lv_iload hx hb dX9_seekForgers_37 (lv_at hl 0 rfl) ?_
      refine lv_iconst (v := 1) hx hb dX9_seekForgers_39 (by decide) ?_
      refine lv_aload_n hx hb dX9_seekForgers_40 rfl (lv_at hl 6 rfl) ?_
      refine va_get (D := D) (ci := 8) (v := .int b0__halves) (C := RX8) (T := TX8) (N := 18) hx hb hT i_X8 hown hK hP 3 rfl rfl 2 (by decide) (hT _ q_156) (fun _ h9 => h9) rfl dX9_seekForgers_41 ?_
      refine lv_ishl hx hb dX9_seekForgers_44 ?_
      refine lv_topi (fun v3 ev3 => ?_)
      have hv3 : IV 1 4096 v3 := iv_shl1 ev3 h_b0__halves (by decide) (by decide) (by decide)
      refine lv_icmp_ge (tgt := 115) hx hb dX9_seekForgers_45 (by decide) (fun c4 => ?_) (fun c4 => ?_)
      · have h5 : IV 1 4096 k37_L_6 := iv_le2 c4 hv3 q37_9 (by decide)
        refine lv_aload_n hx hb dX9_seekForgers_115 rfl (lv_at hl 5 rfl) ?_
        refine va_get (D := D) (ci := 9) (v := .int k37_F_a_1) (C := RX9) (T := TX9) (N := 7) hx hb hT i_X9 hown hK hP 0 rfl rfl 1 (by decide) (hT _ q_154) (fun _ h9 => h9) rfl dX9_seekForgers_116 ?_
        refine lv_if_lt (tgt := 139) hx hb dX9_seekForgers_119 (by decide) (fun c6 => ?_) (fun c6 => ?_)
        · have h7 : IV (-2) (-1) k37_F_a_1 := iv_lt1 c6 q37_4 (iv_c (a := 0) (b := 0) (by decide)) (by decide)
          refine W.widen (k := 0) (n := 0) (Nat.le_of_ble_eq_true rfl) (Nat.le_of_ble_eq_true rfl) ?_
          exact W.vret hx hb hr (fun t ht hW => ⟨⟨(), rfl, trivial, k37_F_a_1, 0, k37_C_a_pair, (iv_w h7 (by decide) (by decide)), iv_c (by decide), by rw [ht]; exact hP.sub [0, 1, 2, 3, 4, 5, 6, 7] rfl, hD.sub [0, 1, 2, 3, 4, 5, 6, 7] (by decide) rfl⟩, hS.F ht⟩) hS.2.2 dX9_seekForgers_139
        · have h8 : IV 0 4095 k37_F_a_1 := iv_le2 (Int32.not_lt.mp c6) (iv_c (a := 0) (b := 0) (by decide)) q37_4 (by decide)
          refine lv_aload_n hx hb dX9_seekForgers_122 rfl (lv_at hl 5 rfl) ?_
          refine lv_iload hx hb dX9_seekForgers_123 (lv_at hl 1 rfl) ?_
          refine lv_iconst (v := (-1)) hx hb dX9_seekForgers_125 (by decide) ?_
          refine lv_ixor hx hb dX9_seekForgers_126 ?_
          refine lv_topi (fun v9 ev9 => ?_)
          refine lv_iconst (v := 1) hx hb dX9_seekForgers_127 (by decide) ?_
          refine lv_aload_n hx hb dX9_seekForgers_128 rfl (lv_at hl 6 rfl) ?_
          refine va_get (D := D) (ci := 8) (v := .int b0__halves) (C := RX8) (T := TX8) (N := 18) hx hb hT i_X8 hown hK hP 3 rfl rfl 2 (by decide) (hT _ q_156) (fun _ h9 => h9) rfl dX9_seekForgers_129 ?_
          refine lv_ishl hx hb dX9_seekForgers_132 ?_
          refine lv_topi (fun v10 ev10 => ?_)
          have hv10 : IV 1 4096 v10 := iv_shl1 ev10 h_b0__halves (by decide) (by decide) (by decide)
          refine lv_iconst (v := 1) hx hb dX9_seekForgers_133 (by decide) ?_
          refine lv_isub hx hb dX9_seekForgers_134 ?_
          refine lv_topi (fun v11 ev11 => ?_)
          have hv11 : IV 0 4095 v11 := iv_sub ev11 hv10 (iv_c (a := 1) (b := 1) (by decide)) (by decide) (by decide)
          have dv11 : v11.toInt = v10.toInt + (-1) := iv_subE ev11 hv10 (iv_c (a := 1) (b := 1) (by decide)) (by decide) (by decide) (by decide)
          refine lv_iand hx hb dX9_seekForgers_135 ?_
          refine lv_topi (fun v12 ev12 => ?_)
          have hv12 : IV 0 4095 v12 := iv_and2 ev12 hv11
          refine va_put (D := D) (ci := 9) (v := .int v12) (ty := .int) (C := RX9) (T := TX9) (N := 7) hx hb hT i_X9 tyX9 tyX9_ok nmX9 hown hK hP hD hS 0 rfl rfl 2 (by decide) (hT _ q_155) (fun _ h9 => h9) rfl (by decide +kernel) rfl rfl (Nat.le_of_ble_eq_true rfl) dX9_seekForgers_136 (fun H locs hP hD hS => ?_)
          have hP : va_P D classes [(a, .inr (9, [.int a__size, .int k37_F_a_1, .int v12, .ref a_pair, .ref a_one, .ref a_other, .ref a_fitted])), (a_one, .inl (cs 0, 12, .inl a_one_c)), (a_other, .inl (cs 0, 12, .inl a_other_c)), (b0, .inr (8, [.int b0__stalls, .int b0__shift, .int b0__halves, .int b0__buyers, .int b0__near, .int b0__dusk, .int b0__duskPrice, .int b0__hear, .int b0__forged, .ref b0_stall, .ref b0_shape, .ref b0_side, .ref b0_price, .ref b0_purse, .ref b0_spot, .ref b0_club, .ref b0_fitting, .ref b0_nearly])), (b0_side, .inl (cs 0, 12, .inl b0_side_c)), (b0_shape, .inl (cs 0, 12, .inl b0_shape_c)), (a_fitted, .inl (cs 2, 12, .inl a_fitted_c)), (a_pair, .inl (cs 0, 12, .inl k37_C_a_pair))] H := hP
          have hD : va_D A [(a, .inr (9, [.int a__size, .int k37_F_a_1, .int v12, .ref a_pair, .ref a_one, .ref a_other, .ref a_fitted])), (a_one, .inl (cs 0, 12, .inl a_one_c)), (a_other, .inl (cs 0, 12, .inl a_other_c)), (b0, .inr (8, [.int b0__stalls, .int b0__shift, .int b0__halves, .int b0__buyers, .int b0__near, .int b0__dusk, .int b0__duskPrice, .int b0__hear, .int b0__forged, .ref b0_stall, .ref b0_shape, .ref b0_side, .ref b0_price, .ref b0_purse, .ref b0_spot, .ref b0_club, .ref b0_fitting, .ref b0_nearly])), (b0_side, .inl (cs 0, 12, .inl b0_side_c)), (b0_shape, .inl (cs 0, 12, .inl b0_shape_c)), (a_fitted, .inl (cs 2, 12, .inl a_fitted_c)), (a_pair, .inl (cs 0, 12, .inl k37_C_a_pair))] := hD
          refine W.widen (k := 0) (n := 0) (Nat.le_of_ble_eq_true rfl) (Nat.le_of_ble_eq_true rfl) ?_
          exact W.vret hx hb hr (fun t ht hW => ⟨⟨(), rfl, trivial, k37_F_a_1, v12, k37_C_a_pair, (iv_w h8 (by decide) (by decide)), hv12, by rw [ht]; exact hP.sub [0, 1, 2, 3, 4, 5, 6, 7] rfl, hD.sub [0, 1, 2, 3, 4, 5, 6, 7] (by decide) rfl⟩, hS.F ht⟩) hS.2.2 dX9_seekForgers_139
      · have h13 : IV 0 4095 k37_L_6 := iv_lt1 (Int32.not_le.mp c4) q37_9 hv3 (by decide)
        refine lv_iload hx hb dX9_seekForgers_48 (lv_at hl 0 rfl) ?_
        refine va_calli (va_runS (As := [.int k37_L_6]) (rest := []) ⟨hx, hb, hml, hown, hT⟩ (c_J6_bitCount_0f7a4_6 l D cs kK kV k37_L_6) (va_cwS 1 hT (hz_gS q_666 q_303 q_304 q_305) rfl rfl rfl (by decide +kernel) ⟨(Nat.le_of_ble_eq_true rfl), (Nat.le_of_ble_eq_true rfl)⟩) ⟨hz_P.blind, hz_P.mk (hP.sub (ws' := []) [] rfl) hE hS⟩ rfl rfl hl.1 rfl (lv_room (Nat.le_of_ble_eq_true rfl)) dX9_seekForgers_50 ⟨(Nat.le_of_ble_eq_true rfl), (Nat.le_of_ble_eq_true rfl)⟩) hS (fun _ _ h => h.elim) (fun _ h => h.elim) (fun r14 u t H1 locs ht hvm hw hB hz1 hk1 hS => ?_)
        have hP := hz_keep hP hk1
        clear hk1 hB hz1
        generalize H1 = H at hP hS ⊢
        have hw_r14 := hw
        have h15 : IV 0 63 r14 := bc_iv hw_r14
        refine lv_istore (lv' := [(7, .int r14), (6, .int k37_L_6), (5, .int k37_L_5), (4, .int k37_L_4), (3, .int k37_L_3), (2, .int k37_L_2), (0, .ref a), (1, .ref b0)]) hx hb dX9_seekForgers_53 hl (by decide) rfl (fun ls hl => ?_)
        refine lv_iload hx hb dX9_seekForgers_55 (lv_at hl 1 rfl) ?_
        refine lv_iload_n hx hb dX9_seekForgers_57 rfl (lv_at hl 4 rfl) ?_
        refine lv_iand hx hb dX9_seekForgers_58 ?_
        refine lv_topi (fun v16 ev16 => ?_)
        have hv16 : IV 0 4095 v16 := iv_and2 ev16 q37_6
        refine lv_if_ne (tgt := 109) hx hb dX9_seekForgers_59 (by decide) (fun c17 => ?_) (fun c17 => ?_)
        · have h18 : IV 1 4095 v16 := iv_neL c17 hv16 (by decide)
          exact K109 r14 k37_L_5 k37_L_4 k37_F_a_1 q37_4 q37_7 q37_8 h15 q37_5 q37_6 h13 H locs (hP.sub (ws' := [(a, .inr (9, [.int a__size, .int k37_F_a_1, .int 0, .ref a_pair, .ref a_one, .ref a_other, .ref a_fitted])), (a_one, .inl (cs 0, 12, .inl a_one_c)), (a_other, .inl (cs 0, 12, .inl a_other_c)), (b0, .inr (8, [.int b0__stalls, .int b0__shift, .int b0__halves, .int b0__buyers, .int b0__near, .int b0__dusk, .int b0__duskPrice, .int b0__hear, .int b0__forged, .ref b0_stall, .ref b0_shape, .ref b0_side, .ref b0_price, .ref b0_purse, .ref b0_spot, .ref b0_club, .ref b0_fitting, .ref b0_nearly])), (b0_side, .inl (cs 0, 12, .inl b0_side_c)), (b0_shape, .inl (cs 0, 12, .inl b0_shape_c)), (a_fitted, .inl (cs 2, 12, .inl a_fitted_c)), (a_pair, .inl (cs 0, 12, .inl k37_C_a_pair))]) [0, 1, 2, 3, 4, 5, 6, 7] rfl) (hD.sub (ws' := [(a, .inr (9, [.int a__size, .int k37_F_a_1, .int 0, .ref a_pair, .ref a_one, .ref a_other, .ref a_fitted])), (a_one, .inl (cs 0, 12, .inl a_one_c)), (a_other, .inl (cs 0, 12, .inl a_other_c)), (b0, .inr (8, [.int b0__stalls, .int b0__shift, .int b0__halves, .int b0__buyers, .int b0__near, .int b0__dusk, .int b0__duskPrice, .int b0__hear, .int b0__forged, .ref b0_stall, .ref b0_shape, .ref b0_side, .ref b0_price, .ref b0_purse, .ref b0_spot, .ref b0_club, .ref b0_fitting, .ref b0_nearly])), (b0_side, .inl (cs 0, 12, .inl b0_side_c)), (b0_shape, .inl (cs 0, 12, .inl b0_shape_c)), (a_fitted, .inl (cs 2, 12, .inl a_fitted_c)), (a_pair, .inl (cs 0, 12, .inl k37_C_a_pair))]) [0, 1, 2, 3, 4, 5, 6, 7] (by decide) rfl) hS ls (lv_sub hl [0, 1, 2, 3, 4, 5, 6, 7] rfl)
        · have h19 : IV 0 0 v16 := iv_eq1 c17 hv16 (iv_c (a := 0) (b := 0) (by decide)) (by decide) (by decide)
          refine lv_iload hx hb dX9_seekForgers_62 (lv_at hl 0 rfl) ?_
          refine lv_iload hx hb dX9_seekForgers_64 (lv_at hl 3 rfl) ?_
          refine lv_icmp_gt (tgt := 109) hx hb dX9_seekForgers_66 (by decide) (fun c20 => ?_) (fun c20 => ?_)
          · have h21 : IV 1 63 r14 := iv_lt2 c20 q37_7 h15 (by decide)
            exact K109 r14 k37_L_5 k37_L_4 k37_F_a_1 q37_4 q37_7 q37_8 (iv_w h21 (by decide) (by decide)) q37_5 q37_6 h13 H locs (hP.sub (ws' := [(a, .inr (9, [.int a__size, .int k37_F_a_1, .int 0, .ref a_pair, .ref a_one, .ref a_other, .ref a_fitted])), (a_one, .inl (cs 0, 12, .inl a_one_c)), (a_other, .inl (cs 0, 12, .inl a_other_c)), (b0, .inr (8, [.int b0__stalls, .int b0__shift, .int b0__halves, .int b0__buyers, .int b0__near, .int b0__dusk, .int b0__duskPrice, .int b0__hear, .int b0__forged, .ref b0_stall, .ref b0_shape, .ref b0_side, .ref b0_price, .ref b0_purse, .ref b0_spot, .ref b0_club, .ref b0_fitting, .ref b0_nearly])), (b0_side, .inl (cs 0, 12, .inl b0_side_c)), (b0_shape, .inl (cs 0, 12, .inl b0_shape_c)), (a_fitted, .inl (cs 2, 12, .inl a_fitted_c)), (a_pair, .inl (cs 0, 12, .inl k37_C_a_pair))]) [0, 1, 2, 3, 4, 5, 6, 7] rfl) (hD.sub (ws' := [(a, .inr (9, [.int a__size, .int k37_F_a_1, .int 0, .ref a_pair, .ref a_one, .ref a_other, .ref a_fitted])), (a_one, .inl (cs 0, 12, .inl a_one_c)), (a_other, .inl (cs 0, 12, .inl a_other_c)), (b0, .inr (8, [.int b0__stalls, .int b0__shift, .int b0__halves, .int b0__buyers, .int b0__near, .int b0__dusk, .int b0__duskPrice, .int b0__hear, .int b0__forged, .ref b0_stall, .ref b0_shape, .ref b0_side, .ref b0_price, .ref b0_purse, .ref b0_spot, .ref b0_club, .ref b0_fitting, .ref b0_nearly])), (b0_side, .inl (cs 0, 12, .inl b0_side_c)), (b0_shape, .inl (cs 0, 12, .inl b0_shape_c)), (a_fitted, .inl (cs 2, 12, .inl a_fitted_c)), (a_pair, .inl (cs 0, 12, .inl k37_C_a_pair))]) [0, 1, 2, 3, 4, 5, 6, 7] (by decide) rfl) hS ls (lv_sub hl [0, 1, 2, 3, 4, 5, 6, 7] rfl)
          · have h22 : IV 0 13 r14 := iv_le1 (Int32.not_lt.mp c20) h15 q37_7 (by decide)
            refine lv_aload_n hx hb dX9_seekForgers_69 rfl (lv_at hl 6 rfl) ?_
            refine lv_iload hx hb dX9_seekForgers_70 (lv_at hl 1 rfl) ?_
            refine lv_iload_n hx hb dX9_seekForgers_72 rfl (lv_at hl 5 rfl) ?_
            refine va_calli (va_runV (As := [.int k37_L_6, .int k37_L_2]) (rest := []) ⟨hx, hb, hml, hown, hT⟩ (c_X9_hitsAll l D cs kK kV a k37_L_6 k37_L_2 a__size k37_F_a_1 0 a_pair a_one a_other a_fitted k37_C_a_pair q37_5) (cwV 2 hT (hz_gV q_667 q_668 q_669 q_388 q_670) rfl rfl rfl (by decide +kernel) ⟨(Nat.le_of_ble_eq_true rfl), (Nat.le_of_ble_eq_true rfl)⟩) ⟨hz_P.blind, va_recv hK hP (ci := 9) (q0 := 0) rfl rfl, hz_P.mk (hP.sub (ws' := [(a, .inr (9, [.int a__size, .int k37_F_a_1, .int 0, .ref a_pair, .ref a_one, .ref a_other, .ref a_fitted])), (a_pair, .inl (cs 0, 12, .inl k37_C_a_pair))]) [0,7] rfl) hE hS⟩ rfl rfl hl.1 rfl (lv_room (Nat.le_of_ble_eq_true rfl)) dX9_seekForgers_73 ⟨(Nat.le_of_ble_eq_true rfl), (Nat.le_of_ble_eq_true rfl)⟩) hS (fun _ _ h => h.elim) (fun _ h => h.elim) (fun r23 u t H1 locs ht hvm hw hB hz1 hk1 hS => ?_)
            have hP := hz_keep hP hk1
            clear hk1 hB hz1
            generalize H1 = H at hP hS ⊢
            rcases hw with ⟨rfl, h24⟩ | rfl
            · refine lv_if_ne (tgt := 82) hx hb dX9_seekForgers_76 (by decide) (fun z => absurd (by decide) z) (fun _ => ?_)
              refine lv_goto (tgt := 109) hx hb dX9_seekForgers_79 (by decide) ?_
              exact K109 r14 k37_L_5 k37_L_4 k37_F_a_1 q37_4 q37_7 q37_8 (iv_w h22 (by decide) (by decide)) (iv_w h24 (by decide) (by decide)) q37_6 h13 H locs (hP.sub (ws' := [(a, .inr (9, [.int a__size, .int k37_F_a_1, .int 0, .ref a_pair, .ref a_one, .ref a_other, .ref a_fitted])), (a_one, .inl (cs 0, 12, .inl a_one_c)), (a_other, .inl (cs 0, 12, .inl a_other_c)), (b0, .inr (8, [.int b0__stalls, .int b0__shift, .int b0__halves, .int b0__buyers, .int b0__near, .int b0__dusk, .int b0__duskPrice, .int b0__hear, .int b0__forged, .ref b0_stall, .ref b0_shape, .ref b0_side, .ref b0_price, .ref b0_purse, .ref b0_spot, .ref b0_club, .ref b0_fitting, .ref b0_nearly])), (b0_side, .inl (cs 0, 12, .inl b0_side_c)), (b0_shape, .inl (cs 0, 12, .inl b0_shape_c)), (a_fitted, .inl (cs 2, 12, .inl a_fitted_c)), (a_pair, .inl (cs 0, 12, .inl k37_C_a_pair))]) [0, 1, 2, 3, 4, 5, 6, 7] rfl) (hD.sub (ws' := [(a, .inr (9, [.int a__size, .int k37_F_a_1, .int 0, .ref a_pair, .ref a_one, .ref a_other, .ref a_fitted])), (a_one, .inl (cs 0, 12, .inl a_one_c)), (a_other, .inl (cs 0, 12, .inl a_other_c)), (b0, .inr (8, [.int b0__stalls, .int b0__shift, .int b0__halves, .int b0__buyers, .int b0__near, .int b0__dusk, .int b0__duskPrice, .int b0__hear, .int b0__forged, .ref b0_stall, .ref b0_shape, .ref b0_side, .ref b0_price, .ref b0_purse, .ref b0_spot, .ref b0_club, .ref b0_fitting, .ref b0_nearly])), (b0_side, .inl (cs 0, 12, .inl b0_side_c)), (b0_shape, .inl (cs 0, 12, .inl b0_shape_c)), (a_fitted, .inl (cs 2, 12, .inl a_fitted_c)), (a_pair, .inl (cs 0, 12, .inl k37_C_a_pair))]) [0, 1, 2, 3, 4, 5, 6, 7] (by decide) rfl) hS ls (lv_sub hl [0, 1, 2, 3, 4, 5, 6, 7] rfl)
            · refine lv_if_ne (tgt := 82) hx hb dX9_seekForgers_76 (by decide) (fun _ => ?_) (fun z => absurd z (by decide))
              refine lv_iload hx hb dX9_seekForgers_82 (lv_at hl 0 rfl) ?_
              refine lv_iload hx hb dX9_seekForgers_84 (lv_at hl 3 rfl) ?_
              refine lv_icmp_ge (tgt := 102) hx hb dX9_seekForgers_86 (by decide) (fun c25 => ?_) (fun c25 => ?_)
              · exact K102 r14 k37_L_5 k37_L_4 k37_F_a_1 q37_4 q37_7 q37_8 h22 q37_5 q37_6 h13 H locs (hP.sub (ws' := [(a, .inr (9, [.int a__size, .int k37_F_a_1, .int 0, .ref a_pair, .ref a_one, .ref a_other, .ref a_fitted])), (a_one, .inl (cs 0, 12, .inl a_one_c)), (a_other, .inl (cs 0, 12, .inl a_other_c)), (b0, .inr (8, [.int b0__stalls, .int b0__shift, .int b0__halves, .int b0__buyers, .int b0__near, .int b0__dusk, .int b0__duskPrice, .int b0__hear, .int b0__forged, .ref b0_stall, .ref b0_shape, .ref b0_side, .ref b0_price, .ref b0_purse, .ref b0_spot, .ref b0_club, .ref b0_fitting, .ref b0_nearly])), (b0_side, .inl (cs 0, 12, .inl b0_side_c)), (b0_shape, .inl (cs 0, 12, .inl b0_shape_c)), (a_fitted, .inl (cs 2, 12, .inl a_fitted_c)), (a_pair, .inl (cs 0, 12, .inl k37_C_a_pair))]) [0, 1, 2, 3, 4, 5, 6, 7] rfl) (hD.sub (ws' := [(a, .inr (9, [.int a__size, .int k37_F_a_1, .int 0, .ref a_pair, .ref a_one, .ref a_other, .ref a_fitted])), (a_one, .inl (cs 0, 12, .inl a_one_c)), (a_other, .inl (cs 0, 12, .inl a_other_c)), (b0, .inr (8, [.int b0__stalls, .int b0__shift, .int b0__halves, .int b0__buyers, .int b0__near, .int b0__dusk, .int b0__duskPrice, .int b0__hear, .int b0__forged, .ref b0_stall, .ref b0_shape, .ref b0_side, .ref b0_price, .ref b0_purse, .ref b0_spot, .ref b0_club, .ref b0_fitting, .ref b0_nearly])), (b0_side, .inl (cs 0, 12, .inl b0_side_c)), (b0_shape, .inl (cs 0, 12, .inl b0_shape_c)), (a_fitted, .inl (cs 2, 12, .inl a_fitted_c)), (a_pair, .inl (cs 0, 12, .inl k37_C_a_pair))]) [0, 1, 2, 3, 4, 5, 6, 7] (by decide) rfl) hS ls (lv_sub hl [0, 1, 2, 3, 4, 5, 6, 7] rfl)
              · have h26 : IV 0 12 r14 := iv_lt1 (Int32.not_le.mp c25) h22 q37_7 (by decide)
                have h27 : IV 1 13 k37_L_4 := iv_lt2 (Int32.not_le.mp c25) h22 q37_7 (by decide)
                refine lv_iload hx hb dX9_seekForgers_89 (lv_at hl 0 rfl) ?_
                refine lv_istore (lv' := [(4, .int r14), (7, .int r14), (6, .int k37_L_6), (5, .int k37_L_5), (3, .int k37_L_3), (2, .int k37_L_2), (0, .ref a), (1, .ref b0)]) hx hb dX9_seekForgers_91 hl (by decide) rfl (fun ls hl => ?_)
                refine lv_aload_n hx hb dX9_seekForgers_93 rfl (lv_at hl 6 rfl) ?_
                refine lv_iload hx hb dX9_seekForgers_94 (lv_at hl 2 rfl) ?_
                refine va_put (D := D) (ci := 9) (v := .int k37_L_6) (ty := .int) (C := RX9) (T := TX9) (N := 7) hx hb hT i_X9 tyX9 tyX9_ok nmX9 hown hK hP hD hS 0 rfl rfl 1 (by decide) (hT _ q_154) (fun _ h9 => h9) rfl (by decide +kernel) rfl rfl (Nat.le_of_ble_eq_true rfl) dX9_seekForgers_96 (fun H locs hP hD hS => ?_)
                have hP : va_P D classes [(a, .inr (9, [.int a__size, .int k37_L_6, .int 0, .ref a_pair, .ref a_one, .ref a_other, .ref a_fitted])), (a_one, .inl (cs 0, 12, .inl a_one_c)), (a_other, .inl (cs 0, 12, .inl a_other_c)), (b0, .inr (8, [.int b0__stalls, .int b0__shift, .int b0__halves, .int b0__buyers, .int b0__near, .int b0__dusk, .int b0__duskPrice, .int b0__hear, .int b0__forged, .ref b0_stall, .ref b0_shape, .ref b0_side, .ref b0_price, .ref b0_purse, .ref b0_spot, .ref b0_club, .ref b0_fitting, .ref b0_nearly])), (b0_side, .inl (cs 0, 12, .inl b0_side_c)), (b0_shape, .inl (cs 0, 12, .inl b0_shape_c)), (a_fitted, .inl (cs 2, 12, .inl a_fitted_c)), (a_pair, .inl (cs 0, 12, .inl k37_C_a_pair))] H := hP
                have hD : va_D A [(a, .inr (9, [.int a__size, .int k37_L_6, .int 0, .ref a_pair, .ref a_one, .ref a_other, .ref a_fitted])), (a_one, .inl (cs 0, 12, .inl a_one_c)), (a_other, .inl (cs 0, 12, .inl a_other_c)), (b0, .inr (8, [.int b0__stalls, .int b0__shift, .int b0__halves, .int b0__buyers, .int b0__near, .int b0__dusk, .int b0__duskPrice, .int b0__hear, .int b0__forged, .ref b0_stall, .ref b0_shape, .ref b0_side, .ref b0_price, .ref b0_purse, .ref b0_spot, .ref b0_club, .ref b0_fitting, .ref b0_nearly])), (b0_side, .inl (cs 0, 12, .inl b0_side_c)), (b0_shape, .inl (cs 0, 12, .inl b0_shape_c)), (a_fitted, .inl (cs 2, 12, .inl a_fitted_c)), (a_pair, .inl (cs 0, 12, .inl k37_C_a_pair))] := hD
                refine lv_iconst (v := 0) hx hb dX9_seekForgers_99 (by decide) ?_
                refine lv_istore (lv' := [(5, .int 0), (4, .int r14), (7, .int r14), (6, .int k37_L_6), (3, .int k37_L_3), (2, .int k37_L_2), (0, .ref a), (1, .ref b0)]) hx hb dX9_seekForgers_100 hl (by decide) rfl (fun ls hl => ?_)
                exact K102 r14 0 r14 k37_L_6 (iv_w h13 (by decide) (by decide)) (iv_w h26 (by decide) (by decide)) (iv_c (by decide)) (iv_w h26 (by decide) (by decide)) q37_5 q37_6 h13 H locs (hP.sub (ws' := [(a, .inr (9, [.int a__size, .int k37_L_6, .int 0, .ref a_pair, .ref a_one, .ref a_other, .ref a_fitted])), (a_one, .inl (cs 0, 12, .inl a_one_c)), (a_other, .inl (cs 0, 12, .inl a_other_c)), (b0, .inr (8, [.int b0__stalls, .int b0__shift, .int b0__halves, .int b0__buyers, .int b0__near, .int b0__dusk, .int b0__duskPrice, .int b0__hear, .int b0__forged, .ref b0_stall, .ref b0_shape, .ref b0_side, .ref b0_price, .ref b0_purse, .ref b0_spot, .ref b0_club, .ref b0_fitting, .ref b0_nearly])), (b0_side, .inl (cs 0, 12, .inl b0_side_c)), (b0_shape, .inl (cs 0, 12, .inl b0_shape_c)), (a_fitted, .inl (cs 2, 12, .inl a_fitted_c)), (a_pair, .inl (cs 0, 12, .inl k37_C_a_pair))]) [0, 1, 2, 3, 4, 5, 6, 7] rfl) (hD.sub (ws' := [(a, .inr (9, [.int a__size, .int k37_L_6, .int 0, .ref a_pair, .ref a_one, .ref a_other, .ref a_fitted])), (a_one, .inl (cs 0, 12, .inl a_one_c)), (a_other, .inl (cs 0, 12, .inl a_other_c)), (b0, .inr (8, [.int b0__stalls, .int b0__shift, .int b0__halves, .int b0__buyers, .int b0__near, .int b0__dusk, .int b0__duskPrice, .int b0__hear, .int b0__forged, .ref b0_stall, .ref b0_shape, .ref b0_side, .ref b0_price, .ref b0_purse, .ref b0_spot, .ref b0_club, .ref b0_fitting, .ref b0_nearly])), (b0_side, .inl (cs 0, 12, .inl b0_side_c)), (b0_shape, .inl (cs 0, 12, .inl b0_shape_c)), (a_fitted, .inl (cs 2, 12, .inl a_fitted_c)), (a_pair, .inl (cs 0, 12, .inl k37_C_a_pair))]) [0, 1, 2, 3, 4, 5, 6, 7] (by decide) rfl) hS ls (lv_sub hl [2, 3, 0, 1, 4, 5, 6, 7] rfl)
  refine lv_aload_n hx hb dX9_seekForgers_0 rfl (lv_at hl 0 rfl) ?_
  refine lv_bipush (v := (-2)) hx hb dX9_seekForgers_1 (by decide) ?_
  refine va_put (D := D) (ci := 9) (v := .int (-2)) (ty := .int) (C := RX9) (T := TX9) (N := 7) hx hb hT i_X9 tyX9 tyX9_ok nmX9 hown hK hP hD hS 0 rfl rfl 1 (by decide) (hT _ q_154) (fun _ h9 => h9) rfl (by decide +kernel) rfl rfl (Nat.le_of_ble_eq_true rfl) dX9_seekForgers_3 (fun H locs hP hD hS => ?_)
  have hP : va_P D classes [(a, .inr (9, [.int a__size, .int (-2), .int a__honest, .ref a_pair, .ref a_one, .ref a_other, .ref a_fitted])), (a_one, .inl (cs 0, 12, .inl a_one_c)), (a_other, .inl (cs 0, 12, .inl a_other_c)), (b0, .inr (8, [.int b0__stalls, .int b0__shift, .int b0__halves, .int b0__buyers, .int b0__near, .int b0__dusk, .int b0__duskPrice, .int b0__hear, .int b0__forged, .ref b0_stall, .ref b0_shape, .ref b0_side, .ref b0_price, .ref b0_purse, .ref b0_spot, .ref b0_club, .ref b0_fitting, .ref b0_nearly])), (b0_side, .inl (cs 0, 12, .inl b0_side_c)), (b0_shape, .inl (cs 0, 12, .inl b0_shape_c)), (a_fitted, .inl (cs 2, 12, .inl a_fitted_c)), (a_pair, .inl (cs 0, 12, .inl a_pair_c))] H := hP
  have hD : va_D A [(a, .inr (9, [.int a__size, .int (-2), .int a__honest, .ref a_pair, .ref a_one, .ref a_other, .ref a_fitted])), (a_one, .inl (cs 0, 12, .inl a_one_c)), (a_other, .inl (cs 0, 12, .inl a_other_c)), (b0, .inr (8, [.int b0__stalls, .int b0__shift, .int b0__halves, .int b0__buyers, .int b0__near, .int b0__dusk, .int b0__duskPrice, .int b0__hear, .int b0__forged, .ref b0_stall, .ref b0_shape, .ref b0_side, .ref b0_price, .ref b0_purse, .ref b0_spot, .ref b0_club, .ref b0_fitting, .ref b0_nearly])), (b0_side, .inl (cs 0, 12, .inl b0_side_c)), (b0_shape, .inl (cs 0, 12, .inl b0_shape_c)), (a_fitted, .inl (cs 2, 12, .inl a_fitted_c)), (a_pair, .inl (cs 0, 12, .inl a_pair_c))] := hD
  refine lv_aload_n hx hb dX9_seekForgers_6 rfl (lv_at hl 0 rfl) ?_
  refine lv_iconst (v := 0) hx hb dX9_seekForgers_7 (by decide) ?_
  refine va_put (D := D) (ci := 9) (v := .int 0) (ty := .int) (C := RX9) (T := TX9) (N := 7) hx hb hT i_X9 tyX9 tyX9_ok nmX9 hown hK hP hD hS 0 rfl rfl 2 (by decide) (hT _ q_155) (fun _ h9 => h9) rfl (by decide +kernel) rfl rfl (Nat.le_of_ble_eq_true rfl) dX9_seekForgers_8 (fun H locs hP hD hS => ?_)
  have hP : va_P D classes [(a, .inr (9, [.int a__size, .int (-2), .int 0, .ref a_pair, .ref a_one, .ref a_other, .ref a_fitted])), (a_one, .inl (cs 0, 12, .inl a_one_c)), (a_other, .inl (cs 0, 12, .inl a_other_c)), (b0, .inr (8, [.int b0__stalls, .int b0__shift, .int b0__halves, .int b0__buyers, .int b0__near, .int b0__dusk, .int b0__duskPrice, .int b0__hear, .int b0__forged, .ref b0_stall, .ref b0_shape, .ref b0_side, .ref b0_price, .ref b0_purse, .ref b0_spot, .ref b0_club, .ref b0_fitting, .ref b0_nearly])), (b0_side, .inl (cs 0, 12, .inl b0_side_c)), (b0_shape, .inl (cs 0, 12, .inl b0_shape_c)), (a_fitted, .inl (cs 2, 12, .inl a_fitted_c)), (a_pair, .inl (cs 0, 12, .inl a_pair_c))] H := hP
  have hD : va_D A [(a, .inr (9, [.int a__size, .int (-2), .int 0, .ref a_pair, .ref a_one, .ref a_other, .ref a_fitted])), (a_one, .inl (cs 0, 12, .inl a_one_c)), (a_other, .inl (cs 0, 12, .inl a_other_c)), (b0, .inr (8, [.int b0__stalls, .int b0__shift, .int b0__halves, .int b0__buyers, .int b0__near, .int b0__dusk, .int b0__duskPrice, .int b0__hear, .int b0__forged, .ref b0_stall, .ref b0_shape, .ref b0_side, .ref b0_price, .ref b0_purse, .ref b0_spot, .ref b0_club, .ref b0_fitting, .ref b0_nearly])), (b0_side, .inl (cs 0, 12, .inl b0_side_c)), (b0_shape, .inl (cs 0, 12, .inl b0_shape_c)), (a_fitted, .inl (cs 2, 12, .inl a_fitted_c)), (a_pair, .inl (cs 0, 12, .inl a_pair_c))] := hD
  refine lv_aload_n hx hb dX9_seekForgers_11 rfl (lv_at hl 0 rfl) ?_
  refine lv_aload_n hx hb dX9_seekForgers_12 rfl (lv_at hl 1 rfl) ?_
  have hFc := va_free (wc := [(a, .inr (9, [.int a__size, .int (-2), .int 0, .ref a_pair, .ref a_one, .ref a_other, .ref a_fitted])), (a_one, .inl (cs 0, 12, .inl a_one_c)), (a_other, .inl (cs 0, 12, .inl a_other_c)), (b0, .inr (8, [.int b0__stalls, .int b0__shift, .int b0__halves, .int b0__buyers, .int b0__near, .int b0__dusk, .int b0__duskPrice, .int b0__hear, .int b0__forged, .ref b0_stall, .ref b0_shape, .ref b0_side, .ref b0_price, .ref b0_purse, .ref b0_spot, .ref b0_club, .ref b0_fitting, .ref b0_nearly])), (b0_side, .inl (cs 0, 12, .inl b0_side_c)), (b0_shape, .inl (cs 0, 12, .inl b0_shape_c)), (a_fitted, .inl (cs 2, 12, .inl a_fitted_c)), (a_pair, .inl (cs 0, 12, .inl a_pair_c))]) hD hS hA [0,1,2,3,4,5,6,7] rfl
  refine va_calli (va_runV (As := [.ref b0]) (rest := []) ⟨hx, hb, hml, hown, hT⟩ (c_X9_gatherPairs l D cs kK kV a b0 a__size ((-2)) 0 a_pair a_one a_other a_fitted a_one_c a_other_c b0__stalls b0__shift b0__halves b0__buyers b0__near b0__dusk b0__duskPrice b0__hear b0__forged b0_stall b0_shape b0_side b0_price b0_purse b0_spot b0_club b0_fitting b0_nearly b0_side_c b0_shape_c a_fitted_c a_pair_c h_a__size h_a_one_c h_a_other_c H.size) (cwV 1 hT (hz_gV q_658 q_659 q_660 q_388 q_661) rfl rfl rfl (by decide +kernel) ⟨(Nat.le_of_ble_eq_true rfl), (Nat.le_of_ble_eq_true rfl)⟩) ⟨hz_C.blind, va_recv hK hP (ci := 9) (q0 := 0) rfl rfl, hz_C.mk (hP.sub (ws' := [(a, .inr (9, [.int a__size, .int (-2), .int 0, .ref a_pair, .ref a_one, .ref a_other, .ref a_fitted])), (a_one, .inl (cs 0, 12, .inl a_one_c)), (a_other, .inl (cs 0, 12, .inl a_other_c)), (b0, .inr (8, [.int b0__stalls, .int b0__shift, .int b0__halves, .int b0__buyers, .int b0__near, .int b0__dusk, .int b0__duskPrice, .int b0__hear, .int b0__forged, .ref b0_stall, .ref b0_shape, .ref b0_side, .ref b0_price, .ref b0_purse, .ref b0_spot, .ref b0_club, .ref b0_fitting, .ref b0_nearly])), (b0_side, .inl (cs 0, 12, .inl b0_side_c)), (b0_shape, .inl (cs 0, 12, .inl b0_shape_c)), (a_fitted, .inl (cs 2, 12, .inl a_fitted_c)), (a_pair, .inl (cs 0, 12, .inl a_pair_c))]) [0,1,2,3,4,5,6,7] rfl) (hD.sub (ws' := [(a, .inr (9, [.int a__size, .int (-2), .int 0, .ref a_pair, .ref a_one, .ref a_other, .ref a_fitted])), (a_one, .inl (cs 0, 12, .inl a_one_c)), (a_other, .inl (cs 0, 12, .inl a_other_c)), (b0, .inr (8, [.int b0__stalls, .int b0__shift, .int b0__halves, .int b0__buyers, .int b0__near, .int b0__dusk, .int b0__duskPrice, .int b0__hear, .int b0__forged, .ref b0_stall, .ref b0_shape, .ref b0_side, .ref b0_price, .ref b0_purse, .ref b0_spot, .ref b0_club, .ref b0_fitting, .ref b0_nearly])), (b0_side, .inl (cs 0, 12, .inl b0_side_c)), (b0_shape, .inl (cs 0, 12, .inl b0_shape_c)), (a_fitted, .inl (cs 2, 12, .inl a_fitted_c)), (a_pair, .inl (cs 0, 12, .inl a_pair_c))]) [0,1,2,3,4,5,6,7] (by decide) rfl) hE hS hFc⟩ rfl rfl hl.1 rfl (lv_room (Nat.le_of_ble_eq_true rfl)) dX9_seekForgers_13 ⟨(Nat.le_of_ble_eq_true rfl), (Nat.le_of_ble_eq_true rfl)⟩) hS (fun q _ h => hFc q h) hFc (fun r28 u t H1 locs ht hvm hw hB hz1 hk1 hS => ?_)
  obtain ⟨o29, hP1, hD1⟩ := hB
  rw [ht] at hP1
  obtain ⟨hP, hD⟩ := va_join (wr := []) (w1 := [(a, .inr (9, [.int a__size, .int (-2), .int 0, .ref a_pair, .ref a_one, .ref a_other, .ref a_fitted])), (a_one, .inl (cs 0, 12, .inl a_one_c)), (a_other, .inl (cs 0, 12, .inl a_other_c)), (b0, .inr (8, [.int b0__stalls, .int b0__shift, .int b0__halves, .int b0__buyers, .int b0__near, .int b0__dusk, .int b0__duskPrice, .int b0__hear, .int b0__forged, .ref b0_stall, .ref b0_shape, .ref b0_side, .ref b0_price, .ref b0_purse, .ref b0_spot, .ref b0_club, .ref b0_fitting, .ref b0_nearly])), (b0_side, .inl (cs 0, 12, .inl b0_side_c)), (b0_shape, .inl (cs 0, 12, .inl b0_shape_c)), (a_fitted, .inl (cs 2, 12, .inl a_fitted_c)), (a_pair, .inl (cs 0, 12, .inl o29))]) hP hD [0, 1, 2, 3, 4, 5, 6, 7] [] rfl rfl (by decide) (by decide) hk1 hFc hP1 hD1
  generalize H1 = H at hP hS ⊢
  have hP : va_P D classes [(a, .inr (9, [.int a__size, .int (-2), .int 0, .ref a_pair, .ref a_one, .ref a_other, .ref a_fitted])), (a_one, .inl (cs 0, 12, .inl a_one_c)), (a_other, .inl (cs 0, 12, .inl a_other_c)), (b0, .inr (8, [.int b0__stalls, .int b0__shift, .int b0__halves, .int b0__buyers, .int b0__near, .int b0__dusk, .int b0__duskPrice, .int b0__hear, .int b0__forged, .ref b0_stall, .ref b0_shape, .ref b0_side, .ref b0_price, .ref b0_purse, .ref b0_spot, .ref b0_club, .ref b0_fitting, .ref b0_nearly])), (b0_side, .inl (cs 0, 12, .inl b0_side_c)), (b0_shape, .inl (cs 0, 12, .inl b0_shape_c)), (a_fitted, .inl (cs 2, 12, .inl a_fitted_c)), (a_pair, .inl (cs 0, 12, .inl o29))] H := hP
  have hD : va_D A [(a, .inr (9, [.int a__size, .int (-2), .int 0, .ref a_pair, .ref a_one, .ref a_other, .ref a_fitted])), (a_one, .inl (cs 0, 12, .inl a_one_c)), (a_other, .inl (cs 0, 12, .inl a_other_c)), (b0, .inr (8, [.int b0__stalls, .int b0__shift, .int b0__halves, .int b0__buyers, .int b0__near, .int b0__dusk, .int b0__duskPrice, .int b0__hear, .int b0__forged, .ref b0_stall, .ref b0_shape, .ref b0_side, .ref b0_price, .ref b0_purse, .ref b0_spot, .ref b0_club, .ref b0_fitting, .ref b0_nearly])), (b0_side, .inl (cs 0, 12, .inl b0_side_c)), (b0_shape, .inl (cs 0, 12, .inl b0_shape_c)), (a_fitted, .inl (cs 2, 12, .inl a_fitted_c)), (a_pair, .inl (cs 0, 12, .inl o29))] := hD
  clear hk1 hFc hP1 hD1 hz1
  rcases hw with ⟨rfl, h30⟩ | h31
  · refine lv_istore_n (lv' := [(2, .int (-1)), (0, .ref a), (1, .ref b0)]) hx hb dX9_seekForgers_16 rfl hl (by decide) rfl (fun ls hl => ?_)
    refine lv_iload_n hx hb dX9_seekForgers_17 rfl (lv_at hl 0 rfl) ?_
    refine lv_if_ge (tgt := 22) hx hb dX9_seekForgers_18 (by decide) (fun z => absurd z (by decide)) (fun _ => ?_)
    refine W.widen (k := 0) (n := 0) (Nat.le_of_ble_eq_true rfl) (Nat.le_of_ble_eq_true rfl) ?_
    exact W.vret hx hb hr (fun t ht hW => ⟨⟨(), rfl, trivial, (-2), 0, o29, iv_c (by decide), iv_c (by decide), by rw [ht]; exact hP.sub [0, 1, 2, 3, 4, 5, 6, 7] rfl, hD.sub [0, 1, 2, 3, 4, 5, 6, 7] (by decide) rfl⟩, hS.F ht⟩) hS.2.2 dX9_seekForgers_21
  · refine lv_istore_n (lv' := [(2, .int r28), (0, .ref a), (1, .ref b0)]) hx hb dX9_seekForgers_16 rfl hl (by decide) rfl (fun ls hl => ?_)
    refine lv_iload_n hx hb dX9_seekForgers_17 rfl (lv_at hl 0 rfl) ?_
    refine lv_if_ge (tgt := 22) hx hb dX9_seekForgers_18 (by decide) (fun _ => ?_) (fun z => absurd (iv_leT (iv_c (a := 0) (b := 0) (by decide)) h31 (by decide)) z)
    refine lv_aload_n hx hb dX9_seekForgers_22 rfl (lv_at hl 1 rfl) ?_
    refine va_calli (va_runV (As := []) (rest := []) ⟨hx, hb, hml, hown, hT⟩ (c_X9_clearedByTrials l D cs kK kV a a__size ((-2)) 0 a_pair a_one a_other a_fitted a_fitted_c a_one_c a_other_c h_a__size h_a_one_c h_a_other_c) (cwV 0 hT (hz_gV q_662 q_663 q_664 q_388 q_665) rfl rfl rfl (by decide +kernel) ⟨(Nat.le_of_ble_eq_true rfl), (Nat.le_of_ble_eq_true rfl)⟩) ⟨hz_P.blind, va_recv hK hP (ci := 9) (q0 := 0) rfl rfl, hz_P.mk (hP.sub (ws' := [(a, .inr (9, [.int a__size, .int (-2), .int 0, .ref a_pair, .ref a_one, .ref a_other, .ref a_fitted])), (a_fitted, .inl (cs 2, 12, .inl a_fitted_c)), (a_one, .inl (cs 0, 12, .inl a_one_c)), (a_other, .inl (cs 0, 12, .inl a_other_c))]) [0,6,1,2] rfl) hE hS⟩ rfl rfl hl.1 rfl (lv_room (Nat.le_of_ble_eq_true rfl)) dX9_seekForgers_23 ⟨(Nat.le_of_ble_eq_true rfl), (Nat.le_of_ble_eq_true rfl)⟩) hS (fun _ _ h => h.elim) (fun _ h => h.elim) (fun r32 u t H1 locs ht hvm hw hB hz1 hk1 hS => ?_)
    have hP := hz_keep hP hk1
    clear hk1 hB hz1
    generalize H1 = H at hP hS ⊢
    have hw_r32 := hw
    refine lv_istore_n (lv' := [(3, .int r32), (2, .int r28), (0, .ref a), (1, .ref b0)]) hx hb dX9_seekForgers_26 rfl hl (by decide) rfl (fun ls hl => ?_)
    refine lv_bipush (v := 13) hx hb dX9_seekForgers_27 (by decide) ?_
    refine lv_istore (lv' := [(4, .int 13), (3, .int r32), (2, .int r28), (0, .ref a), (1, .ref b0)]) hx hb dX9_seekForgers_29 hl (by decide) rfl (fun ls hl => ?_)
    refine lv_iconst (v := 0) hx hb dX9_seekForgers_31 (by decide) ?_
    refine lv_istore (lv' := [(5, .int 0), (4, .int 13), (3, .int r32), (2, .int r28), (0, .ref a), (1, .ref b0)]) hx hb dX9_seekForgers_32 hl (by decide) rfl (fun ls hl => ?_)
    refine lv_iconst (v := 0) hx hb dX9_seekForgers_34 (by decide) ?_
    refine lv_istore (lv' := [(6, .int 0), (5, .int 0), (4, .int 13), (3, .int r32), (2, .int r28), (0, .ref a), (1, .ref b0)]) hx hb dX9_seekForgers_35 hl (by decide) rfl (fun ls hl => ?_)
    exact K37 _ 0 0 13 r32 r28 (-2) o29 (Nat.le_refl _) (iv_c (by decide)) h31 hw_r32 (iv_c (by decide)) (iv_c (by decide)) (iv_c (by decide)) H locs (hP.sub (ws' := [(a, .inr (9, [.int a__size, .int (-2), .int 0, .ref a_pair, .ref a_one, .ref a_other, .ref a_fitted])), (a_one, .inl (cs 0, 12, .inl a_one_c)), (a_other, .inl (cs 0, 12, .inl a_other_c)), (b0, .inr (8, [.int b0__stalls, .int b0__shift, .int b0__halves, .int b0__buyers, .int b0__near, .int b0__dusk, .int b0__duskPrice, .int b0__hear, .int b0__forged, .ref b0_stall, .ref b0_shape, .ref b0_side, .ref b0_price, .ref b0_purse, .ref b0_spot, .ref b0_club, .ref b0_fitting, .ref b0_nearly])), (b0_side, .inl (cs 0, 12, .inl b0_side_c)), (b0_shape, .inl (cs 0, 12, .inl b0_shape_c)), (a_fitted, .inl (cs 2, 12, .inl a_fitted_c)), (a_pair, .inl (cs 0, 12, .inl o29))]) [0, 1, 2, 3, 4, 5, 6, 7] rfl) (hD.sub (ws' := [(a, .inr (9, [.int a__size, .int (-2), .int 0, .ref a_pair, .ref a_one, .ref a_other, .ref a_fitted])), (a_one, .inl (cs 0, 12, .inl a_one_c)), (a_other, .inl (cs 0, 12, .inl a_other_c)), (b0, .inr (8, [.int b0__stalls, .int b0__shift, .int b0__halves, .int b0__buyers, .int b0__near, .int b0__dusk, .int b0__duskPrice, .int b0__hear, .int b0__forged, .ref b0_stall, .ref b0_shape, .ref b0_side, .ref b0_price, .ref b0_purse, .ref b0_spot, .ref b0_club, .ref b0_fitting, .ref b0_nearly])), (b0_side, .inl (cs 0, 12, .inl b0_side_c)), (b0_shape, .inl (cs 0, 12, .inl b0_shape_c)), (a_fitted, .inl (cs 2, 12, .inl a_fitted_c)), (a_pair, .inl (cs 0, 12, .inl o29))]) [0, 1, 2, 3, 4, 5, 6, 7] (by decide) rfl) hS ls (lv_sub hl [0, 1, 2, 3, 4, 5, 6] rfl)
