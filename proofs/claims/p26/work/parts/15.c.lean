theorem dX0_readClub_0 : decode cX0_readClub 0 = .ok (.aload_n 0, 1) := by decide +kernel
theorem dX0_readClub_1 : decode cX0_readClub 1 = .ok (.iconst 0, 1) := by decide +kernel
theorem dX0_readClub_2 : decode cX0_readClub 2 = .ok (.aload_n 0, 1) := by decide +kernel
theorem dX0_readClub_3 : decode cX0_readClub 3 = .ok (.getfield 18, 3) := by decide +kernel
theorem dX0_readClub_6 : decode cX0_readClub 6 = .ok (.getfield 102, 3) := by decide +kernel
theorem dX0_readClub_9 : decode cX0_readClub 9 = .ok (.iconst 1, 1) := by decide +kernel
theorem dX0_readClub_10 : decode cX0_readClub 10 = .ok (.isub, 1) := by decide +kernel
theorem dX0_readClub_11 : decode cX0_readClub 11 = .ok (.invokevirtual 65, 3) := by decide +kernel
theorem dX0_readClub_14 : decode cX0_readClub 14 = .ok (.istore_n 1, 1) := by decide +kernel
theorem dX0_readClub_15 : decode cX0_readClub 15 = .ok (.aload_n 0, 1) := by decide +kernel
theorem dX0_readClub_16 : decode cX0_readClub 16 = .ok (.getfield 9, 3) := by decide +kernel
theorem dX0_readClub_19 : decode cX0_readClub 19 = .ok (.invokevirtual 31, 3) := by decide +kernel
theorem dX0_readClub_22 : decode cX0_readClub 22 = .ok (.ifCond .eq 10, 3) := by decide +kernel
theorem dX0_readClub_25 : decode cX0_readClub 25 = .ok (.aload_n 0, 1) := by decide +kernel
theorem dX0_readClub_26 : decode cX0_readClub 26 = .ok (.getfield 9, 3) := by decide +kernel
theorem dX0_readClub_29 : decode cX0_readClub 29 = .ok (.invokevirtual 45, 3) := by decide +kernel
theorem dX0_readClub_32 : decode cX0_readClub 32 = .ok (.aload_n 0, 1) := by decide +kernel
theorem dX0_readClub_33 : decode cX0_readClub 33 = .ok (.getfield 9, 3) := by decide +kernel
theorem dX0_readClub_36 : decode cX0_readClub 36 = .ok (.getfield 48, 3) := by decide +kernel
theorem dX0_readClub_39 : decode cX0_readClub 39 = .ok (.istore_n 2, 1) := by decide +kernel
theorem dX0_readClub_40 : decode cX0_readClub 40 = .ok (.aload_n 0, 1) := by decide +kernel
theorem dX0_readClub_41 : decode cX0_readClub 41 = .ok (.iconst 0, 1) := by decide +kernel
theorem dX0_readClub_42 : decode cX0_readClub 42 = .ok (.aload_n 0, 1) := by decide +kernel
theorem dX0_readClub_43 : decode cX0_readClub 43 = .ok (.getfield 18, 3) := by decide +kernel
theorem dX0_readClub_46 : decode cX0_readClub 46 = .ok (.getfield 102, 3) := by decide +kernel
theorem dX0_readClub_49 : decode cX0_readClub 49 = .ok (.iconst 1, 1) := by decide +kernel
theorem dX0_readClub_50 : decode cX0_readClub 50 = .ok (.isub, 1) := by decide +kernel
theorem dX0_readClub_51 : decode cX0_readClub 51 = .ok (.invokevirtual 65, 3) := by decide +kernel
theorem dX0_readClub_54 : decode cX0_readClub 54 = .ok (.istore_n 3, 1) := by decide +kernel
theorem dX0_readClub_55 : decode cX0_readClub 55 = .ok (.iload_n 1, 1) := by decide +kernel
theorem dX0_readClub_56 : decode cX0_readClub 56 = .ok (.iload_n 3, 1) := by decide +kernel
theorem dX0_readClub_57 : decode cX0_readClub 57 = .ok (.if_icmp .ne 12, 3) := by decide +kernel
theorem dX0_readClub_60 : decode cX0_readClub 60 = .ok (.aload_n 0, 1) := by decide +kernel
theorem dX0_readClub_61 : decode cX0_readClub 61 = .ok (.getfield 9, 3) := by decide +kernel
theorem dX0_readClub_64 : decode cX0_readClub 64 = .ok (.iload_n 2, 1) := by decide +kernel
theorem dX0_readClub_65 : decode cX0_readClub 65 = .ok (.iconst 1, 1) := by decide +kernel
theorem dX0_readClub_66 : decode cX0_readClub 66 = .ok (.invokevirtual 57, 3) := by decide +kernel
theorem dX0_readClub_69 : decode cX0_readClub 69 = .ok (.aload_n 0, 1) := by decide +kernel
theorem dX0_readClub_70 : decode cX0_readClub 70 = .ok (.getfield 9, 3) := by decide +kernel
theorem dX0_readClub_73 : decode cX0_readClub 73 = .ok (.invokevirtual 31, 3) := by decide +kernel
theorem dX0_readClub_76 : decode cX0_readClub 76 = .ok (.ifCond .eq 12, 3) := by decide +kernel
theorem dX0_readClub_79 : decode cX0_readClub 79 = .ok (.aload_n 0, 1) := by decide +kernel
theorem dX0_readClub_80 : decode cX0_readClub 80 = .ok (.getfield 18, 3) := by decide +kernel
theorem dX0_readClub_83 : decode cX0_readClub 83 = .ok (.iload_n 1, 1) := by decide +kernel
theorem dX0_readClub_84 : decode cX0_readClub 84 = .ok (.iload_n 3, 1) := by decide +kernel
theorem dX0_readClub_85 : decode cX0_readClub 85 = .ok (.invokevirtual 133, 3) := by decide +kernel
theorem dX0_readClub_88 : decode cX0_readClub 88 = .ok (.return_, 1) := by decide +kernel
set_option maxHeartbeats 4000000 in
set_option maxRecDepth 100000 in
theorem c_X0_readClub (l : Launch) (D : va_G) (cs : Nat → ClassId) (kK kV : Nat → Nat) (a : Nat) (a_tape : Nat) (a_told : Nat) (a__kindsTold : Int32) (a_told__stalls : Int32) (a_told__shift : Int32) (a_told__halves : Int32) (a_told__buyers : Int32) (a_told__near : Int32) (a_told__dusk : Int32) (a_told__duskPrice : Int32) (a_told__hear : Int32) (a_told__forged : Int32) (a_told_stall : Nat) (a_told_shape : Nat) (a_told_side : Nat) (a_told_price : Nat) (a_told_purse : Nat) (a_told_spot : Nat) (a_told_club : Nat) (a_told_fitting : Nat) (a_told_nearly : Nat) (a_tape_bytes : Nat) (a_tape__length : Int32) (a_tape__place : Int32) (a_tape__fault : Int32) (a_tape_bytes_c : Nat → Int32) (a_told_club_c : Nat → Int32) (h_a_told__buyers : IV 0 4 a_told__buyers) (h_a_tape__length : IV 0 400 a_tape__length) (h_a_tape__place : IV 0 400 a_tape__place) (h_a_tape__fault : IV 0 3205 a_tape__fault) (h_a_tape_bytes_c : CI 400 0 255 a_tape_bytes_c) (sz : Nat) : Met l yX0_readClub (hz_w yX0_readClub cX0_readClub 4 none) ({ frames := 3, cells := 0, slots := 0, locals := 68 }) (va_Pc [.ref a] (hz_C D cs kK kV sz [(a, .inr (0, [.ref a_tape, .ref a_told, .int a__kindsTold])), (a_told, .inr (8, [.int a_told__stalls, .int a_told__shift, .int a_told__halves, .int a_told__buyers, .int a_told__near, .int a_told__dusk, .int a_told__duskPrice, .int a_told__hear, .int a_told__forged, .ref a_told_stall, .ref a_told_shape, .ref a_told_side, .ref a_told_price, .ref a_told_purse, .ref a_told_spot, .ref a_told_club, .ref a_told_fitting, .ref a_told_nearly])), (a_tape, .inr (7, [.ref a_tape_bytes, .int a_tape__length, .int a_tape__place, .int a_tape__fault])), (a_tape_bytes, .inl (cs 0, 400, .inl a_tape_bytes_c)), (a_told_club, .inl (cs 0, 4, .inl a_told_club_c))])) (va_Qv (fun (u : (Nat → Int32) × (Nat → Nat → Int32)) => (IV 1 3205 (u.1 0) ∧ IV 0 400 (u.1 1)) ∨ (IV 0 0 (u.1 0) ∧ IV 0 0 a_tape__fault ∧ IV 0 400 (u.1 1))) (fun u t => va_P D classes [(a, .inr (0, [.ref a_tape, .ref a_told, .int a__kindsTold])), (a_told, .inr (8, [.int a_told__stalls, .int a_told__shift, .int a_told__halves, .int a_told__buyers, .int a_told__near, .int a_told__dusk, .int a_told__duskPrice, .int a_told__hear, .int a_told__forged, .ref a_told_stall, .ref a_told_shape, .ref a_told_side, .ref a_told_price, .ref a_told_purse, .ref a_told_spot, .ref a_told_club, .ref a_told_fitting, .ref a_told_nearly])), (a_tape, .inr (7, [.ref a_tape_bytes, .int a_tape__length, .int (u.1 1), .int (u.1 0)])), (a_tape_bytes, .inl (cs 0, 400, .inl a_tape_bytes_c)), (a_told_club, .inl (cs 0, 4, .inl (u.2 0)))] t.heap ∧ va_D (va_A [(a, .inr (0, [.ref a_tape, .ref a_told, .int a__kindsTold])), (a_told, .inr (8, [.int a_told__stalls, .int a_told__shift, .int a_told__halves, .int a_told__buyers, .int a_told__near, .int a_told__dusk, .int a_told__duskPrice, .int a_told__hear, .int a_told__forged, .ref a_told_stall, .ref a_told_shape, .ref a_told_side, .ref a_told_price, .ref a_told_purse, .ref a_told_spot, .ref a_told_club, .ref a_told_fitting, .ref a_told_nearly])), (a_tape, .inr (7, [.ref a_tape_bytes, .int a_tape__length, .int a_tape__place, .int a_tape__fault])), (a_tape_bytes, .inl (cs 0, 400, .inl a_tape_bytes_c)), (a_told_club, .inl (cs 0, 4, .inl a_told_club_c))] sz) [(a, .inr (0, [.ref a_tape, .ref a_told, .int a__kindsTold])), (a_told, .inr (8, [.int a_told__stalls, .int a_told__shift, .int a_told__halves, .int a_told__buyers, .int a_told__near, .int a_told__dusk, .int a_told__duskPrice, .int a_told__hear, .int a_told__forged, .ref a_told_stall, .ref a_told_shape, .ref a_told_side, .ref a_told_price, .ref a_told_purse, .ref a_told_spot, .ref a_told_club, .ref a_told_fitting, .ref a_told_nearly])), (a_tape, .inr (7, [.ref a_tape_bytes, .int a_tape__length, .int (u.1 1), .int (u.1 0)])), (a_tape_bytes, .inl (cs 0, 400, .inl a_tape_bytes_c)), (a_told_club, .inl (cs 0, 4, .inl (u.2 0)))]) (va_A [(a, .inr (0, [.ref a_tape, .ref a_told, .int a__kindsTold])), (a_told, .inr (8, [.int a_told__stalls, .int a_told__shift, .int a_told__halves, .int a_told__buyers, .int a_told__near, .int a_told__dusk, .int a_told__duskPrice, .int a_told__hear, .int a_told__forged, .ref a_told_stall, .ref a_told_shape, .ref a_told_side, .ref a_told_price, .ref a_told_purse, .ref a_told_spot, .ref a_told_club, .ref a_told_fitting, .ref a_told_nearly])), (a_tape, .inr (7, [.ref a_tape_bytes, .int a_tape__length, .int a_tape__place, .int a_tape__fault])), (a_tape_bytes, .inl (cs 0, 400, .inl a_tape_bytes_c)), (a_told_club, .inl (cs 0, 4, .inl a_told_club_c))] sz)) 0 0 (va_A [(a, .inr (0, [.ref a_tape, .ref a_told, .int a__kindsTold])), (a_told, .inr (8, [.int a_told__stalls, .int a_told__shift, .int a_told__halves, .int a_told__buyers, .int a_told__near, .int a_told__dusk, .int a_told__duskPrice, .int a_told__hear, .int a_told__forged, .ref a_told_stall, .ref a_told_shape, .ref a_told_side, .ref a_told_price, .ref a_told_purse, .ref a_told_spot, .ref a_told_club, .ref a_told_fitting, .ref a_told_nearly])), (a_tape, .inr (7, [.ref a_tape_bytes, .int a_tape__length, .int a_tape__place, .int a_tape__fault])), (a_tape_bytes, .inl (cs 0, 400, .inl a_tape_bytes_c)), (a_told_club, .inl (cs 0, 4, .inl a_told_club_c))] sz) := by
  refine Met.ofW (cc := cX0_readClub) (maxL := 4) (ret := none) (by decide) rfl ?_
  intro p e s m args below meth c s₁ B hml hv
  obtain ⟨rfl, hsz, hP, hD0, hE⟩ := hv
  have hx := B.exec
  have hb := B.bytes
  have hr := B.returns
  have hT : ∀ w ∈ TB, w.before _ s = true := fun w h => atoms_spec (ws := hz_w yX0_readClub cX0_readClub 4 none) B.pre w (List.mem_cons_of_mem _ h)
  have hown : s.vm.findClass RX0 = some m.cls := findClass_of_methodNamed B.named
  have hlocks := B.notSynchronized
  clear B
  subst hsz
  have hD := hD0.self (sz := s.heap.size)
  generalize hAe : va_A [(a, .inr (0, [.ref a_tape, .ref a_told, .int a__kindsTold])), (a_told, .inr (8, [.int a_told__stalls, .int a_told__shift, .int a_told__halves, .int a_told__buyers, .int a_told__near, .int a_told__dusk, .int a_told__duskPrice, .int a_told__hear, .int a_told__forged, .ref a_told_stall, .ref a_told_shape, .ref a_told_side, .ref a_told_price, .ref a_told_purse, .ref a_told_spot, .ref a_told_club, .ref a_told_fitting, .ref a_told_nearly])), (a_tape, .inr (7, [.ref a_tape_bytes, .int a_tape__length, .int a_tape__place, .int a_tape__fault])), (a_tape_bytes, .inl (cs 0, 400, .inl a_tape_bytes_c)), (a_told_club, .inl (cs 0, 4, .inl a_told_club_c))] s.heap.size = A at hD hE ⊢
  have hA : ∀ q : Nat, s.heap.size ≤ q → A q := fun q h => by rw [← hAe]; exact Or.inr h
  clear hAe hD0
  have hS : va_S A s.heap s.heap [] := va_S.rf
  have hK := hE.1
  have hl := lv_entry ([.ref a]) (n := 4) (Nat.le_of_ble_eq_true rfl)
  rw [lg_entry_eq]
  generalize (lg_sl ([.ref a]) ++ List.replicate (4 - (lg_sl ([.ref a])).length) Slot.unset).toArray = ls at hl ⊢
  have hl : lv_has ls 4 [(0, .ref a)] := hl
  obtain ⟨H, eH⟩ : ∃ z, z = s.heap := ⟨_, rfl⟩
  have hP : va_P D classes [(a, .inr (0, [.ref a_tape, .ref a_told, .int a__kindsTold])), (a_told, .inr (8, [.int a_told__stalls, .int a_told__shift, .int a_told__halves, .int a_told__buyers, .int a_told__near, .int a_told__dusk, .int a_told__duskPrice, .int a_told__hear, .int a_told__forged, .ref a_told_stall, .ref a_told_shape, .ref a_told_side, .ref a_told_price, .ref a_told_purse, .ref a_told_spot, .ref a_told_club, .ref a_told_fitting, .ref a_told_nearly])), (a_tape, .inr (7, [.ref a_tape_bytes, .int a_tape__length, .int a_tape__place, .int a_tape__fault])), (a_tape_bytes, .inl (cs 0, 400, .inl a_tape_bytes_c)), (a_told_club, .inl (cs 0, 4, .inl a_told_club_c))] H := by rw [eH]; exact hP
  have hS : va_S A s.heap H [] := by rw [eH]; exact hS
  rw [← eH]
  clear eH
  obtain ⟨locs, el⟩ : ∃ z : List Loc, z = [] := ⟨_, rfl⟩
  rw [← el] at hS ⊢
  clear el
  refine lv_aload_n hx hb dX0_readClub_0 rfl (lv_at hl 0 rfl) ?_
  refine lv_iconst (v := 0) hx hb dX0_readClub_1 (by decide) ?_
  refine lv_aload_n hx hb dX0_readClub_2 rfl (lv_at hl 0 rfl) ?_
  refine va_get (D := D) (ci := 0) (v := .ref a_told) (C := RX0) (T := TX0) (N := 3) hx hb hT i_X0 hown hK hP 0 rfl rfl 1 (by decide) (hT _ q_45) (fun _ h9 => h9) rfl dX0_readClub_3 ?_
  refine va_get (D := D) (ci := 8) (v := .int a_told__buyers) (C := RX8) (T := TX8) (N := 18) hx hb hT i_X8 hown hK hP 1 rfl rfl 3 (by decide) (hT _ q_55) (fun _ h9 => h9) rfl dX0_readClub_6 ?_
  refine lv_iconst (v := 1) hx hb dX0_readClub_9 (by decide) ?_
  refine lv_isub hx hb dX0_readClub_10 ?_
  refine lv_topi (fun v1 ev1 => ?_)
  have hv1 : IV (-1) 3 v1 := iv_sub ev1 h_a_told__buyers (iv_c (a := 1) (b := 1) (by decide)) (by decide) (by decide)
  have dv1 : v1.toInt = a_told__buyers.toInt + (-1) := iv_subE ev1 h_a_told__buyers (iv_c (a := 1) (b := 1) (by decide)) (by decide) (by decide) (by decide)
  have hFc := va_free (wc := [(a, .inr (0, [.ref a_tape, .ref a_told, .int a__kindsTold])), (a_tape, .inr (7, [.ref a_tape_bytes, .int a_tape__length, .int a_tape__place, .int a_tape__fault])), (a_tape_bytes, .inl (cs 0, 400, .inl a_tape_bytes_c))]) hD hS hA [0,2,3] rfl
  refine va_calli (va_runV (As := [.int 0, .int v1]) (rest := []) ⟨hx, hb, hml, hown, hT⟩ (c_X0_numberTold_58 l D cs kK kV a v1 a_tape a_told a__kindsTold a_tape_bytes a_tape__length a_tape__place a_tape__fault a_tape_bytes_c hv1 h_a_tape__length h_a_tape__place h_a_tape__fault h_a_tape_bytes_c H.size) (cwV 2 hT (hz_gV q_452 q_453 q_454 q_226 q_455) rfl rfl rfl (by decide +kernel) ⟨(Nat.le_of_ble_eq_true rfl), (Nat.le_of_ble_eq_true rfl)⟩) ⟨hz_C.blind, va_recv hK hP (ci := 0) (q0 := 0) rfl rfl, hz_C.mk (hP.sub (ws' := [(a, .inr (0, [.ref a_tape, .ref a_told, .int a__kindsTold])), (a_tape, .inr (7, [.ref a_tape_bytes, .int a_tape__length, .int a_tape__place, .int a_tape__fault])), (a_tape_bytes, .inl (cs 0, 400, .inl a_tape_bytes_c))]) [0,2,3] rfl) (hD.sub (ws' := [(a, .inr (0, [.ref a_tape, .ref a_told, .int a__kindsTold])), (a_tape, .inr (7, [.ref a_tape_bytes, .int a_tape__length, .int a_tape__place, .int a_tape__fault])), (a_tape_bytes, .inl (cs 0, 400, .inl a_tape_bytes_c))]) [0,2,3] (by decide) rfl) hE hS hFc⟩ rfl rfl hl.1 rfl (lv_room (Nat.le_of_ble_eq_true rfl)) dX0_readClub_11 ⟨(Nat.le_of_ble_eq_true rfl), (Nat.le_of_ble_eq_true rfl)⟩) hS (fun q _ h => hFc q h) hFc (fun r2 o3 t H1 locs ht hvm hw hB hz1 hk1 hS => ?_)
  obtain ⟨hP1, hD1⟩ := hB
  rw [ht] at hP1
  obtain ⟨hP, hD⟩ := va_join (wr := [(a_told, .inr (8, [.int a_told__stalls, .int a_told__shift, .int a_told__halves, .int a_told__buyers, .int a_told__near, .int a_told__dusk, .int a_told__duskPrice, .int a_told__hear, .int a_told__forged, .ref a_told_stall, .ref a_told_shape, .ref a_told_side, .ref a_told_price, .ref a_told_purse, .ref a_told_spot, .ref a_told_club, .ref a_told_fitting, .ref a_told_nearly])), (a_told_club, .inl (cs 0, 4, .inl a_told_club_c))]) (w1 := [(a, .inr (0, [.ref a_tape, .ref a_told, .int a__kindsTold])), (a_tape, .inr (7, [.ref a_tape_bytes, .int a_tape__length, .int (o3.1 1), .int (o3.1 0)])), (a_tape_bytes, .inl (cs 0, 400, .inl a_tape_bytes_c))]) hP hD [0, 2, 3] [1, 4] rfl rfl (by decide) (by decide) hk1 hFc hP1 hD1
  generalize H1 = H at hP hS ⊢
  have hP : va_P D classes [(a_told, .inr (8, [.int a_told__stalls, .int a_told__shift, .int a_told__halves, .int a_told__buyers, .int a_told__near, .int a_told__dusk, .int a_told__duskPrice, .int a_told__hear, .int a_told__forged, .ref a_told_stall, .ref a_told_shape, .ref a_told_side, .ref a_told_price, .ref a_told_purse, .ref a_told_spot, .ref a_told_club, .ref a_told_fitting, .ref a_told_nearly])), (a_told_club, .inl (cs 0, 4, .inl a_told_club_c)), (a, .inr (0, [.ref a_tape, .ref a_told, .int a__kindsTold])), (a_tape, .inr (7, [.ref a_tape_bytes, .int a_tape__length, .int (o3.1 1), .int (o3.1 0)])), (a_tape_bytes, .inl (cs 0, 400, .inl a_tape_bytes_c))] H := hP
  have hD : va_D A [(a_told, .inr (8, [.int a_told__stalls, .int a_told__shift, .int a_told__halves, .int a_told__buyers, .int a_told__near, .int a_told__dusk, .int a_told__duskPrice, .int a_told__hear, .int a_told__forged, .ref a_told_stall, .ref a_told_shape, .ref a_told_side, .ref a_told_price, .ref a_told_purse, .ref a_told_spot, .ref a_told_club, .ref a_told_fitting, .ref a_told_nearly])), (a_told_club, .inl (cs 0, 4, .inl a_told_club_c)), (a, .inr (0, [.ref a_tape, .ref a_told, .int a__kindsTold])), (a_tape, .inr (7, [.ref a_tape_bytes, .int a_tape__length, .int (o3.1 1), .int (o3.1 0)])), (a_tape_bytes, .inl (cs 0, 400, .inl a_tape_bytes_c))] := hD
  clear hk1 hFc hP1 hD1 hz1
  rcases hw with ⟨rfl, h4, h5, h6⟩ | ⟨h7, h8, h9, h10, h11⟩ | ⟨h12, h13, h14⟩
  · refine lv_istore_n (lv' := [(1, .int 0), (0, .ref a)]) hx hb dX0_readClub_14 rfl hl (by decide) rfl (fun ls hl => ?_)
    refine lv_aload_n hx hb dX0_readClub_15 rfl (lv_at hl 1 rfl) ?_
    refine va_get (D := D) (ci := 0) (v := .ref a_tape) (C := RX0) (T := TX0) (N := 3) hx hb hT i_X0 hown hK hP 2 rfl rfl 0 (by decide) (hT _ q_44) (fun _ h9 => h9) rfl dX0_readClub_16 ?_
    refine va_calli (va_runV (As := []) (rest := []) ⟨hx, hb, hml, hown, hT⟩ (c_X7_isSound l D cs kK kV a_tape a_tape_bytes a_tape__length (o3.1 1) (o3.1 0) ((iv_w h4 (by decide) (by decide)))) (cwV 0 hT (hz_gV q_420 q_421 q_422 q_221 q_423) rfl rfl rfl (by decide +kernel) ⟨(Nat.le_of_ble_eq_true rfl), (Nat.le_of_ble_eq_true rfl)⟩) ⟨hz_P.blind, va_recv hK hP (ci := 7) (q0 := 3) rfl rfl, hz_P.mk (hP.sub (ws' := [(a_tape, .inr (7, [.ref a_tape_bytes, .int a_tape__length, .int (o3.1 1), .int (o3.1 0)]))]) [3] rfl) hE hS⟩ rfl rfl hl.1 rfl (lv_room (Nat.le_of_ble_eq_true rfl)) dX0_readClub_19 ⟨(Nat.le_of_ble_eq_true rfl), (Nat.le_of_ble_eq_true rfl)⟩) hS (fun _ _ h => h.elim) (fun _ h => h.elim) (fun r15 u t H1 locs ht hvm hw hB hz1 hk1 hS => ?_)
    have hP := hz_keep hP hk1
    clear hk1 hB hz1
    generalize H1 = H at hP hS ⊢
    rcases hw with ⟨rfl, h16⟩ | ⟨rfl, h17⟩
    · refine lv_if_eq (tgt := 32) hx hb dX0_readClub_22 (by decide) (fun _ => ?_) (fun z => absurd (by decide) z)
      refine lv_aload_n hx hb dX0_readClub_32 rfl (lv_at hl 1 rfl) ?_
      refine va_get (D := D) (ci := 0) (v := .ref a_tape) (C := RX0) (T := TX0) (N := 3) hx hb hT i_X0 hown hK hP 2 rfl rfl 0 (by decide) (hT _ q_44) (fun _ h9 => h9) rfl dX0_readClub_33 ?_
      refine va_get (D := D) (ci := 7) (v := .int (o3.1 1)) (C := RX7) (T := TX7) (N := 4) hx hb hT i_X7 hown hK hP 3 rfl rfl 2 (by decide) (hT _ q_47) (fun _ h9 => h9) rfl dX0_readClub_36 ?_
      refine lv_istore_n (lv' := [(2, .int (o3.1 1)), (1, .int 0), (0, .ref a)]) hx hb dX0_readClub_39 rfl hl (by decide) rfl (fun ls hl => ?_)
      refine lv_aload_n hx hb dX0_readClub_40 rfl (lv_at hl 2 rfl) ?_
      refine lv_iconst (v := 0) hx hb dX0_readClub_41 (by decide) ?_
      refine lv_aload_n hx hb dX0_readClub_42 rfl (lv_at hl 2 rfl) ?_
      refine va_get (D := D) (ci := 0) (v := .ref a_told) (C := RX0) (T := TX0) (N := 3) hx hb hT i_X0 hown hK hP 2 rfl rfl 1 (by decide) (hT _ q_45) (fun _ h9 => h9) rfl dX0_readClub_43 ?_
      refine va_get (D := D) (ci := 8) (v := .int a_told__buyers) (C := RX8) (T := TX8) (N := 18) hx hb hT i_X8 hown hK hP 0 rfl rfl 3 (by decide) (hT _ q_55) (fun _ h9 => h9) rfl dX0_readClub_46 ?_
      refine lv_iconst (v := 1) hx hb dX0_readClub_49 (by decide) ?_
      refine lv_isub hx hb dX0_readClub_50 ?_
      refine lv_topi (fun v18 ev18 => ?_)
      have hv18 : IV (-1) 3 v18 := iv_sub ev18 h_a_told__buyers (iv_c (a := 1) (b := 1) (by decide)) (by decide) (by decide)
      have dv18 : v18.toInt = a_told__buyers.toInt + (-1) := iv_subE ev18 h_a_told__buyers (iv_c (a := 1) (b := 1) (by decide)) (by decide) (by decide) (by decide)
      have hFc := va_free (wc := [(a, .inr (0, [.ref a_tape, .ref a_told, .int a__kindsTold])), (a_tape, .inr (7, [.ref a_tape_bytes, .int a_tape__length, .int (o3.1 1), .int (o3.1 0)])), (a_tape_bytes, .inl (cs 0, 400, .inl a_tape_bytes_c))]) hD hS hA [2,3,4] rfl
      refine va_calli (va_runV (As := [.int 0, .int v18]) (rest := []) ⟨hx, hb, hml, hown, hT⟩ (c_X0_numberTold_58 l D cs kK kV a v18 a_tape a_told a__kindsTold a_tape_bytes a_tape__length (o3.1 1) (o3.1 0) a_tape_bytes_c hv18 h_a_tape__length h6 ((iv_w h16 (by decide) (by decide))) h_a_tape_bytes_c H.size) (cwV 2 hT (hz_gV q_452 q_453 q_454 q_226 q_455) rfl rfl rfl (by decide +kernel) ⟨(Nat.le_of_ble_eq_true rfl), (Nat.le_of_ble_eq_true rfl)⟩) ⟨hz_C.blind, va_recv hK hP (ci := 0) (q0 := 2) rfl rfl, hz_C.mk (hP.sub (ws' := [(a, .inr (0, [.ref a_tape, .ref a_told, .int a__kindsTold])), (a_tape, .inr (7, [.ref a_tape_bytes, .int a_tape__length, .int (o3.1 1), .int (o3.1 0)])), (a_tape_bytes, .inl (cs 0, 400, .inl a_tape_bytes_c))]) [2,3,4] rfl) (hD.sub (ws' := [(a, .inr (0, [.ref a_tape, .ref a_told, .int a__kindsTold])), (a_tape, .inr (7, [.ref a_tape_bytes, .int a_tape__length, .int (o3.1 1), .int (o3.1 0)])), (a_tape_bytes, .inl (cs 0, 400, .inl a_tape_bytes_c))]) [2,3,4] (by decide) rfl) hE hS hFc⟩ rfl rfl hl.1 rfl (lv_room (Nat.le_of_ble_eq_true rfl)) dX0_readClub_51 ⟨(Nat.le_of_ble_eq_true rfl), (Nat.le_of_ble_eq_true rfl)⟩) hS (fun q _ h => hFc q h) hFc (fun r19 o20 t H1 locs ht hvm hw hB hz1 hk1 hS => ?_)
      obtain ⟨hP1, hD1⟩ := hB
      rw [ht] at hP1
      obtain ⟨hP, hD⟩ := va_join (wr := [(a_told, .inr (8, [.int a_told__stalls, .int a_told__shift, .int a_told__halves, .int a_told__buyers, .int a_told__near, .int a_told__dusk, .int a_told__duskPrice, .int a_told__hear, .int a_told__forged, .ref a_told_stall, .ref a_told_shape, .ref a_told_side, .ref a_told_price, .ref a_told_purse, .ref a_told_spot, .ref a_told_club, .ref a_told_fitting, .ref a_told_nearly])), (a_told_club, .inl (cs 0, 4, .inl a_told_club_c))]) (w1 := [(a, .inr (0, [.ref a_tape, .ref a_told, .int a__kindsTold])), (a_tape, .inr (7, [.ref a_tape_bytes, .int a_tape__length, .int (o20.1 1), .int (o20.1 0)])), (a_tape_bytes, .inl (cs 0, 400, .inl a_tape_bytes_c))]) hP hD [2, 3, 4] [0, 1] rfl rfl (by decide) (by decide) hk1 hFc hP1 hD1
      generalize H1 = H at hP hS ⊢
      have hP : va_P D classes [(a_told, .inr (8, [.int a_told__stalls, .int a_told__shift, .int a_told__halves, .int a_told__buyers, .int a_told__near, .int a_told__dusk, .int a_told__duskPrice, .int a_told__hear, .int a_told__forged, .ref a_told_stall, .ref a_told_shape, .ref a_told_side, .ref a_told_price, .ref a_told_purse, .ref a_told_spot, .ref a_told_club, .ref a_told_fitting, .ref a_told_nearly])), (a_told_club, .inl (cs 0, 4, .inl a_told_club_c)), (a, .inr (0, [.ref a_tape, .ref a_told, .int a__kindsTold])), (a_tape, .inr (7, [.ref a_tape_bytes, .int a_tape__length, .int (o20.1 1), .int (o20.1 0)])), (a_tape_bytes, .inl (cs 0, 400, .inl a_tape_bytes_c))] H := hP
      have hD : va_D A [(a_told, .inr (8, [.int a_told__stalls, .int a_told__shift, .int a_told__halves, .int a_told__buyers, .int a_told__near, .int a_told__dusk, .int a_told__duskPrice, .int a_told__hear, .int a_told__forged, .ref a_told_stall, .ref a_told_shape, .ref a_told_side, .ref a_told_price, .ref a_told_purse, .ref a_told_spot, .ref a_told_club, .ref a_told_fitting, .ref a_told_nearly])), (a_told_club, .inl (cs 0, 4, .inl a_told_club_c)), (a, .inr (0, [.ref a_tape, .ref a_told, .int a__kindsTold])), (a_tape, .inr (7, [.ref a_tape_bytes, .int a_tape__length, .int (o20.1 1), .int (o20.1 0)])), (a_tape_bytes, .inl (cs 0, 400, .inl a_tape_bytes_c))] := hD
      clear hk1 hFc hP1 hD1 hz1
      rcases hw with ⟨rfl, h21, h22, h23⟩ | ⟨h24, h25, h26, h27, h28⟩ | ⟨h29, h30, h31⟩
      · refine lv_istore_n (lv' := [(3, .int 0), (2, .int (o3.1 1)), (1, .int 0), (0, .ref a)]) hx hb dX0_readClub_54 rfl hl (by decide) rfl (fun ls hl => ?_)
        refine lv_iload_n hx hb dX0_readClub_55 rfl (lv_at hl 2 rfl) ?_
        refine lv_iload_n hx hb dX0_readClub_56 rfl (lv_at hl 0 rfl) ?_
        refine lv_icmp_ne (tgt := 69) hx hb dX0_readClub_57 (by decide) (fun z => absurd (by decide) z) (fun _ => ?_)
        refine lv_aload_n hx hb dX0_readClub_60 rfl (lv_at hl 3 rfl) ?_
        refine va_get (D := D) (ci := 0) (v := .ref a_tape) (C := RX0) (T := TX0) (N := 3) hx hb hT i_X0 hown hK hP 2 rfl rfl 0 (by decide) (hT _ q_44) (fun _ h9 => h9) rfl dX0_readClub_61 ?_
        refine lv_iload_n hx hb dX0_readClub_64 rfl (lv_at hl 1 rfl) ?_
        refine lv_iconst (v := 1) hx hb dX0_readClub_65 (by decide) ?_
        have hFc := va_free (wc := [(a_tape, .inr (7, [.ref a_tape_bytes, .int a_tape__length, .int (o20.1 1), .int (o20.1 0)]))]) hD hS hA [3] rfl
        refine va_callv (va_runV (As := [.int (o3.1 1), .int 1]) (rest := []) ⟨hx, hb, hml, hown, hT⟩ (c_X7_fail l D cs kK kV a_tape (o3.1 1) 1 a_tape_bytes a_tape__length (o20.1 1) (o20.1 0) h6 ((iv_c (by decide))) ((iv_w h21 (by decide) (by decide))) H.size) (cwV 2 hT (hz_gV q_444 q_445 q_446 q_221 q_447) rfl rfl rfl (by decide +kernel) ⟨(Nat.le_of_ble_eq_true rfl), (Nat.le_of_ble_eq_true rfl)⟩) ⟨hz_C.blind, va_recv hK hP (ci := 7) (q0 := 3) rfl rfl, hz_C.mk (hP.sub (ws' := [(a_tape, .inr (7, [.ref a_tape_bytes, .int a_tape__length, .int (o20.1 1), .int (o20.1 0)]))]) [3] rfl) (hD.sub (ws' := [(a_tape, .inr (7, [.ref a_tape_bytes, .int a_tape__length, .int (o20.1 1), .int (o20.1 0)]))]) [3] (by decide) rfl) hE hS hFc⟩ rfl rfl hl.1 rfl (lv_room (Nat.le_of_ble_eq_true rfl)) dX0_readClub_66 ⟨(Nat.le_of_ble_eq_true rfl), (Nat.le_of_ble_eq_true rfl)⟩) hS (fun q _ h => hFc q h) hFc (fun o33 t H1 locs ht hvm hw hB hz1 hk1 hS => ?_)
        obtain ⟨hP1, hD1⟩ := hB
        rw [ht] at hP1
        obtain ⟨hP, hD⟩ := va_join (wr := [(a_told, .inr (8, [.int a_told__stalls, .int a_told__shift, .int a_told__halves, .int a_told__buyers, .int a_told__near, .int a_told__dusk, .int a_told__duskPrice, .int a_told__hear, .int a_told__forged, .ref a_told_stall, .ref a_told_shape, .ref a_told_side, .ref a_told_price, .ref a_told_purse, .ref a_told_spot, .ref a_told_club, .ref a_told_fitting, .ref a_told_nearly])), (a_told_club, .inl (cs 0, 4, .inl a_told_club_c)), (a, .inr (0, [.ref a_tape, .ref a_told, .int a__kindsTold])), (a_tape_bytes, .inl (cs 0, 400, .inl a_tape_bytes_c))]) (w1 := [(a_tape, .inr (7, [.ref a_tape_bytes, .int a_tape__length, .int (o20.1 1), .int (o33.1 0)]))]) hP hD [3] [0, 1, 2, 4] rfl rfl (by decide) (by decide) hk1 hFc hP1 hD1
        generalize H1 = H at hP hS ⊢
        have hP : va_P D classes [(a_told, .inr (8, [.int a_told__stalls, .int a_told__shift, .int a_told__halves, .int a_told__buyers, .int a_told__near, .int a_told__dusk, .int a_told__duskPrice, .int a_told__hear, .int a_told__forged, .ref a_told_stall, .ref a_told_shape, .ref a_told_side, .ref a_told_price, .ref a_told_purse, .ref a_told_spot, .ref a_told_club, .ref a_told_fitting, .ref a_told_nearly])), (a_told_club, .inl (cs 0, 4, .inl a_told_club_c)), (a, .inr (0, [.ref a_tape, .ref a_told, .int a__kindsTold])), (a_tape_bytes, .inl (cs 0, 400, .inl a_tape_bytes_c)), (a_tape, .inr (7, [.ref a_tape_bytes, .int a_tape__length, .int (o20.1 1), .int (o33.1 0)]))] H := hP
        have hD : va_D A [(a_told, .inr (8, [.int a_told__stalls, .int a_told__shift, .int a_told__halves, .int a_told__buyers, .int a_told__near, .int a_told__dusk, .int a_told__duskPrice, .int a_told__hear, .int a_told__forged, .ref a_told_stall, .ref a_told_shape, .ref a_told_side, .ref a_told_price, .ref a_told_purse, .ref a_told_spot, .ref a_told_club, .ref a_told_fitting, .ref a_told_nearly])), (a_told_club, .inl (cs 0, 4, .inl a_told_club_c)), (a, .inr (0, [.ref a_tape, .ref a_told, .int a__kindsTold])), (a_tape_bytes, .inl (cs 0, 400, .inl a_tape_bytes_c)), (a_tape, .inr (7, [.ref a_tape_bytes, .int a_tape__length, .int (o20.1 1), .int (o33.1 0)]))] := hD
        clear hk1 hFc hP1 hD1 hz1
        have h34 := hw
        refine lv_aload_n hx hb dX0_readClub_69 rfl (lv_at hl 3 rfl) ?_
        refine va_get (D := D) (ci := 0) (v := .ref a_tape) (C := RX0) (T := TX0) (N := 3) hx hb hT i_X0 hown hK hP 2 rfl rfl 0 (by decide) (hT _ q_44) (fun _ h9 => h9) rfl dX0_readClub_70 ?_
        refine va_calli (va_runV (As := []) (rest := []) ⟨hx, hb, hml, hown, hT⟩ (c_X7_isSound l D cs kK kV a_tape a_tape_bytes a_tape__length (o20.1 1) (o33.1 0) ((iv_w h34 (by decide) (by decide)))) (cwV 0 hT (hz_gV q_420 q_421 q_422 q_221 q_423) rfl rfl rfl (by decide +kernel) ⟨(Nat.le_of_ble_eq_true rfl), (Nat.le_of_ble_eq_true rfl)⟩) ⟨hz_P.blind, va_recv hK hP (ci := 7) (q0 := 4) rfl rfl, hz_P.mk (hP.sub (ws' := [(a_tape, .inr (7, [.ref a_tape_bytes, .int a_tape__length, .int (o20.1 1), .int (o33.1 0)]))]) [4] rfl) hE hS⟩ rfl rfl hl.1 rfl (lv_room (Nat.le_of_ble_eq_true rfl)) dX0_readClub_73 ⟨(Nat.le_of_ble_eq_true rfl), (Nat.le_of_ble_eq_true rfl)⟩) hS (fun _ _ h => h.elim) (fun _ h => h.elim) (fun r35 u t H1 locs ht hvm hw hB hz1 hk1 hS => ?_)
        have hP := hz_keep hP hk1
        clear hk1 hB hz1
        generalize H1 = H at hP hS ⊢
        rcases hw with ⟨rfl, h36⟩ | ⟨rfl, h37⟩
        · refine lv_if_eq (tgt := 88) hx hb dX0_readClub_76 (by decide) (fun _ => ?_) (fun z => absurd (by decide) z)
          refine W.widen (k := 0) (n := 0) (Nat.le_of_ble_eq_true rfl) (Nat.le_of_ble_eq_true rfl) ?_
          exact W.vret hx hb hr (fun t ht hW => ⟨⟨(fun k => match k with | 0 => o33.1 0 | 1 => o20.1 1 | _ => 0, fun k => match k with | 0 => a_told_club_c | _ => fun _ => 0), rfl, (Or.inl (⟨h36, h23⟩)), by rw [ht]; exact hP.sub [2, 0, 4, 3, 1] rfl, hD.sub [2, 0, 4, 3, 1] (by decide) rfl⟩, hS.F ht⟩) hS.2.2 dX0_readClub_88
        · exact (iv_no h37 h34 (by decide)).elim
      · exact (iv_no h26 h16 (by decide)).elim
      · exact (iv_no h30 h16 (by decide)).elim
    · exact (iv_no h17 h4 (by decide)).elim
  · refine lv_istore_n (lv' := [(1, .int r2), (0, .ref a)]) hx hb dX0_readClub_14 rfl hl (by decide) rfl (fun ls hl => ?_)
    refine lv_aload_n hx hb dX0_readClub_15 rfl (lv_at hl 1 rfl) ?_
    refine va_get (D := D) (ci := 0) (v := .ref a_tape) (C := RX0) (T := TX0) (N := 3) hx hb hT i_X0 hown hK hP 2 rfl rfl 0 (by decide) (hT _ q_44) (fun _ h9 => h9) rfl dX0_readClub_16 ?_
    refine va_calli (va_runV (As := []) (rest := []) ⟨hx, hb, hml, hown, hT⟩ (c_X7_isSound l D cs kK kV a_tape a_tape_bytes a_tape__length (o3.1 1) (o3.1 0) h8) (cwV 0 hT (hz_gV q_420 q_421 q_422 q_221 q_423) rfl rfl rfl (by decide +kernel) ⟨(Nat.le_of_ble_eq_true rfl), (Nat.le_of_ble_eq_true rfl)⟩) ⟨hz_P.blind, va_recv hK hP (ci := 7) (q0 := 3) rfl rfl, hz_P.mk (hP.sub (ws' := [(a_tape, .inr (7, [.ref a_tape_bytes, .int a_tape__length, .int (o3.1 1), .int (o3.1 0)]))]) [3] rfl) hE hS⟩ rfl rfl hl.1 rfl (lv_room (Nat.le_of_ble_eq_true rfl)) dX0_readClub_19 ⟨(Nat.le_of_ble_eq_true rfl), (Nat.le_of_ble_eq_true rfl)⟩) hS (fun _ _ h => h.elim) (fun _ h => h.elim) (fun r38 u t H1 locs ht hvm hw hB hz1 hk1 hS => ?_)
    have hP := hz_keep hP hk1
    clear hk1 hB hz1
    generalize H1 = H at hP hS ⊢
    rcases hw with ⟨rfl, h39⟩ | ⟨rfl, h40⟩
    · refine lv_if_eq (tgt := 32) hx hb dX0_readClub_22 (by decide) (fun _ => ?_) (fun z => absurd (by decide) z)
      refine lv_aload_n hx hb dX0_readClub_32 rfl (lv_at hl 1 rfl) ?_
      refine va_get (D := D) (ci := 0) (v := .ref a_tape) (C := RX0) (T := TX0) (N := 3) hx hb hT i_X0 hown hK hP 2 rfl rfl 0 (by decide) (hT _ q_44) (fun _ h9 => h9) rfl dX0_readClub_33 ?_
      refine va_get (D := D) (ci := 7) (v := .int (o3.1 1)) (C := RX7) (T := TX7) (N := 4) hx hb hT i_X7 hown hK hP 3 rfl rfl 2 (by decide) (hT _ q_47) (fun _ h9 => h9) rfl dX0_readClub_36 ?_
      refine lv_istore_n (lv' := [(2, .int (o3.1 1)), (1, .int r2), (0, .ref a)]) hx hb dX0_readClub_39 rfl hl (by decide) rfl (fun ls hl => ?_)
      refine lv_aload_n hx hb dX0_readClub_40 rfl (lv_at hl 2 rfl) ?_
      refine lv_iconst (v := 0) hx hb dX0_readClub_41 (by decide) ?_
      refine lv_aload_n hx hb dX0_readClub_42 rfl (lv_at hl 2 rfl) ?_
      refine va_get (D := D) (ci := 0) (v := .ref a_told) (C := RX0) (T := TX0) (N := 3) hx hb hT i_X0 hown hK hP 2 rfl rfl 1 (by decide) (hT _ q_45) (fun _ h9 => h9) rfl dX0_readClub_43 ?_
      refine va_get (D := D) (ci := 8) (v := .int a_told__buyers) (C := RX8) (T := TX8) (N := 18) hx hb hT i_X8 hown hK hP 0 rfl rfl 3 (by decide) (hT _ q_55) (fun _ h9 => h9) rfl dX0_readClub_46 ?_
      refine lv_iconst (v := 1) hx hb dX0_readClub_49 (by decide) ?_
      refine lv_isub hx hb dX0_readClub_50 ?_
      refine lv_topi (fun v41 ev41 => ?_)
      have hv41 : IV (-1) 3 v41 := iv_sub ev41 h_a_told__buyers (iv_c (a := 1) (b := 1) (by decide)) (by decide) (by decide)
      have dv41 : v41.toInt = a_told__buyers.toInt + (-1) := iv_subE ev41 h_a_told__buyers (iv_c (a := 1) (b := 1) (by decide)) (by decide) (by decide) (by decide)
      have hFc := va_free (wc := [(a, .inr (0, [.ref a_tape, .ref a_told, .int a__kindsTold])), (a_tape, .inr (7, [.ref a_tape_bytes, .int a_tape__length, .int (o3.1 1), .int (o3.1 0)])), (a_tape_bytes, .inl (cs 0, 400, .inl a_tape_bytes_c))]) hD hS hA [2,3,4] rfl
      refine va_calli (va_runV (As := [.int 0, .int v41]) (rest := []) ⟨hx, hb, hml, hown, hT⟩ (c_X0_numberTold_58 l D cs kK kV a v41 a_tape a_told a__kindsTold a_tape_bytes a_tape__length (o3.1 1) (o3.1 0) a_tape_bytes_c hv41 h_a_tape__length h11 ((iv_w h39 (by decide) (by decide))) h_a_tape_bytes_c H.size) (cwV 2 hT (hz_gV q_452 q_453 q_454 q_226 q_455) rfl rfl rfl (by decide +kernel) ⟨(Nat.le_of_ble_eq_true rfl), (Nat.le_of_ble_eq_true rfl)⟩) ⟨hz_C.blind, va_recv hK hP (ci := 0) (q0 := 2) rfl rfl, hz_C.mk (hP.sub (ws' := [(a, .inr (0, [.ref a_tape, .ref a_told, .int a__kindsTold])), (a_tape, .inr (7, [.ref a_tape_bytes, .int a_tape__length, .int (o3.1 1), .int (o3.1 0)])), (a_tape_bytes, .inl (cs 0, 400, .inl a_tape_bytes_c))]) [2,3,4] rfl) (hD.sub (ws' := [(a, .inr (0, [.ref a_tape, .ref a_told, .int a__kindsTold])), (a_tape, .inr (7, [.ref a_tape_bytes, .int a_tape__length, .int (o3.1 1), .int (o3.1 0)])), (a_tape_bytes, .inl (cs 0, 400, .inl a_tape_bytes_c))]) [2,3,4] (by decide) rfl) hE hS hFc⟩ rfl rfl hl.1 rfl (lv_room (Nat.le_of_ble_eq_true rfl)) dX0_readClub_51 ⟨(Nat.le_of_ble_eq_true rfl), (Nat.le_of_ble_eq_true rfl)⟩) hS (fun q _ h => hFc q h) hFc (fun r42 o43 t H1 locs ht hvm hw hB hz1 hk1 hS => ?_)
      obtain ⟨hP1, hD1⟩ := hB
      rw [ht] at hP1
      obtain ⟨hP, hD⟩ := va_join (wr := [(a_told, .inr (8, [.int a_told__stalls, .int a_told__shift, .int a_told__halves, .int a_told__buyers, .int a_told__near, .int a_told__dusk, .int a_told__duskPrice, .int a_told__hear, .int a_told__forged, .ref a_told_stall, .ref a_told_shape, .ref a_told_side, .ref a_told_price, .ref a_told_purse, .ref a_told_spot, .ref a_told_club, .ref a_told_fitting, .ref a_told_nearly])), (a_told_club, .inl (cs 0, 4, .inl a_told_club_c))]) (w1 := [(a, .inr (0, [.ref a_tape, .ref a_told, .int a__kindsTold])), (a_tape, .inr (7, [.ref a_tape_bytes, .int a_tape__length, .int (o43.1 1), .int (o43.1 0)])), (a_tape_bytes, .inl (cs 0, 400, .inl a_tape_bytes_c))]) hP hD [2, 3, 4] [0, 1] rfl rfl (by decide) (by decide) hk1 hFc hP1 hD1
      generalize H1 = H at hP hS ⊢
      have hP : va_P D classes [(a_told, .inr (8, [.int a_told__stalls, .int a_told__shift, .int a_told__halves, .int a_told__buyers, .int a_told__near, .int a_told__dusk, .int a_told__duskPrice, .int a_told__hear, .int a_told__forged, .ref a_told_stall, .ref a_told_shape, .ref a_told_side, .ref a_told_price, .ref a_told_purse, .ref a_told_spot, .ref a_told_club, .ref a_told_fitting, .ref a_told_nearly])), (a_told_club, .inl (cs 0, 4, .inl a_told_club_c)), (a, .inr (0, [.ref a_tape, .ref a_told, .int a__kindsTold])), (a_tape, .inr (7, [.ref a_tape_bytes, .int a_tape__length, .int (o43.1 1), .int (o43.1 0)])), (a_tape_bytes, .inl (cs 0, 400, .inl a_tape_bytes_c))] H := hP
      have hD : va_D A [(a_told, .inr (8, [.int a_told__stalls, .int a_told__shift, .int a_told__halves, .int a_told__buyers, .int a_told__near, .int a_told__dusk, .int a_told__duskPrice, .int a_told__hear, .int a_told__forged, .ref a_told_stall, .ref a_told_shape, .ref a_told_side, .ref a_told_price, .ref a_told_purse, .ref a_told_spot, .ref a_told_club, .ref a_told_fitting, .ref a_told_nearly])), (a_told_club, .inl (cs 0, 4, .inl a_told_club_c)), (a, .inr (0, [.ref a_tape, .ref a_told, .int a__kindsTold])), (a_tape, .inr (7, [.ref a_tape_bytes, .int a_tape__length, .int (o43.1 1), .int (o43.1 0)])), (a_tape_bytes, .inl (cs 0, 400, .inl a_tape_bytes_c))] := hD
      clear hk1 hFc hP1 hD1 hz1
      rcases hw with ⟨rfl, h44, h45, h46⟩ | ⟨h47, h48, h49, h50, h51⟩ | ⟨h52, h53, h54⟩
      · refine lv_istore_n (lv' := [(3, .int 0), (2, .int (o3.1 1)), (1, .int r2), (0, .ref a)]) hx hb dX0_readClub_54 rfl hl (by decide) rfl (fun ls hl => ?_)
        refine lv_iload_n hx hb dX0_readClub_55 rfl (lv_at hl 2 rfl) ?_
        refine lv_iload_n hx hb dX0_readClub_56 rfl (lv_at hl 0 rfl) ?_
        refine lv_icmp_ne (tgt := 69) hx hb dX0_readClub_57 (by decide) (fun c55 => ?_) (fun c55 => ?_)
        · have h56 : IV 1 3 r2 := iv_neL c55 h7 (by decide)
          refine lv_aload_n hx hb dX0_readClub_69 rfl (lv_at hl 3 rfl) ?_
          refine va_get (D := D) (ci := 0) (v := .ref a_tape) (C := RX0) (T := TX0) (N := 3) hx hb hT i_X0 hown hK hP 2 rfl rfl 0 (by decide) (hT _ q_44) (fun _ h9 => h9) rfl dX0_readClub_70 ?_
          refine va_calli (va_runV (As := []) (rest := []) ⟨hx, hb, hml, hown, hT⟩ (c_X7_isSound l D cs kK kV a_tape a_tape_bytes a_tape__length (o43.1 1) (o43.1 0) ((iv_w h44 (by decide) (by decide)))) (cwV 0 hT (hz_gV q_420 q_421 q_422 q_221 q_423) rfl rfl rfl (by decide +kernel) ⟨(Nat.le_of_ble_eq_true rfl), (Nat.le_of_ble_eq_true rfl)⟩) ⟨hz_P.blind, va_recv hK hP (ci := 7) (q0 := 3) rfl rfl, hz_P.mk (hP.sub (ws' := [(a_tape, .inr (7, [.ref a_tape_bytes, .int a_tape__length, .int (o43.1 1), .int (o43.1 0)]))]) [3] rfl) hE hS⟩ rfl rfl hl.1 rfl (lv_room (Nat.le_of_ble_eq_true rfl)) dX0_readClub_73 ⟨(Nat.le_of_ble_eq_true rfl), (Nat.le_of_ble_eq_true rfl)⟩) hS (fun _ _ h => h.elim) (fun _ h => h.elim) (fun r57 u t H1 locs ht hvm hw hB hz1 hk1 hS => ?_)
          have hP := hz_keep hP hk1
          clear hk1 hB hz1
          generalize H1 = H at hP hS ⊢
          rcases hw with ⟨rfl, h58⟩ | ⟨rfl, h59⟩
          · refine lv_if_eq (tgt := 88) hx hb dX0_readClub_76 (by decide) (fun _ => ?_) (fun z => absurd (by decide) z)
            refine W.widen (k := 0) (n := 0) (Nat.le_of_ble_eq_true rfl) (Nat.le_of_ble_eq_true rfl) ?_
            exact W.vret hx hb hr (fun t ht hW => ⟨⟨(fun k => match k with | 0 => o43.1 0 | 1 => o43.1 1 | _ => 0, fun k => match k with | 0 => a_told_club_c | _ => fun _ => 0), rfl, (Or.inl (⟨h58, h46⟩)), by rw [ht]; exact hP.sub [2, 0, 3, 4, 1] rfl, hD.sub [2, 0, 3, 4, 1] (by decide) rfl⟩, hS.F ht⟩) hS.2.2 dX0_readClub_88
          · exact (iv_no h59 h44 (by decide)).elim
        · have h60 : IV 0 0 r2 := iv_eq1 c55 h7 (iv_c (a := 0) (b := 0) (by decide)) (by decide) (by decide)
          refine lv_aload_n hx hb dX0_readClub_60 rfl (lv_at hl 3 rfl) ?_
          refine va_get (D := D) (ci := 0) (v := .ref a_tape) (C := RX0) (T := TX0) (N := 3) hx hb hT i_X0 hown hK hP 2 rfl rfl 0 (by decide) (hT _ q_44) (fun _ h9 => h9) rfl dX0_readClub_61 ?_
          refine lv_iload_n hx hb dX0_readClub_64 rfl (lv_at hl 1 rfl) ?_
          refine lv_iconst (v := 1) hx hb dX0_readClub_65 (by decide) ?_
          have hFc := va_free (wc := [(a_tape, .inr (7, [.ref a_tape_bytes, .int a_tape__length, .int (o43.1 1), .int (o43.1 0)]))]) hD hS hA [3] rfl
          refine va_callv (va_runV (As := [.int (o3.1 1), .int 1]) (rest := []) ⟨hx, hb, hml, hown, hT⟩ (c_X7_fail l D cs kK kV a_tape (o3.1 1) 1 a_tape_bytes a_tape__length (o43.1 1) (o43.1 0) h11 ((iv_c (by decide))) ((iv_w h44 (by decide) (by decide))) H.size) (cwV 2 hT (hz_gV q_444 q_445 q_446 q_221 q_447) rfl rfl rfl (by decide +kernel) ⟨(Nat.le_of_ble_eq_true rfl), (Nat.le_of_ble_eq_true rfl)⟩) ⟨hz_C.blind, va_recv hK hP (ci := 7) (q0 := 3) rfl rfl, hz_C.mk (hP.sub (ws' := [(a_tape, .inr (7, [.ref a_tape_bytes, .int a_tape__length, .int (o43.1 1), .int (o43.1 0)]))]) [3] rfl) (hD.sub (ws' := [(a_tape, .inr (7, [.ref a_tape_bytes, .int a_tape__length, .int (o43.1 1), .int (o43.1 0)]))]) [3] (by decide) rfl) hE hS hFc⟩ rfl rfl hl.1 rfl (lv_room (Nat.le_of_ble_eq_true rfl)) dX0_readClub_66 ⟨(Nat.le_of_ble_eq_true rfl), (Nat.le_of_ble_eq_true rfl)⟩) hS (fun q _ h => hFc q h) hFc (fun o62 t H1 locs ht hvm hw hB hz1 hk1 hS => ?_)
          obtain ⟨hP1, hD1⟩ := hB
          rw [ht] at hP1
          obtain ⟨hP, hD⟩ := va_join (wr := [(a_told, .inr (8, [.int a_told__stalls, .int a_told__shift, .int a_told__halves, .int a_told__buyers, .int a_told__near, .int a_told__dusk, .int a_told__duskPrice, .int a_told__hear, .int a_told__forged, .ref a_told_stall, .ref a_told_shape, .ref a_told_side, .ref a_told_price, .ref a_told_purse, .ref a_told_spot, .ref a_told_club, .ref a_told_fitting, .ref a_told_nearly])), (a_told_club, .inl (cs 0, 4, .inl a_told_club_c)), (a, .inr (0, [.ref a_tape, .ref a_told, .int a__kindsTold])), (a_tape_bytes, .inl (cs 0, 400, .inl a_tape_bytes_c))]) (w1 := [(a_tape, .inr (7, [.ref a_tape_bytes, .int a_tape__length, .int (o43.1 1), .int (o62.1 0)]))]) hP hD [3] [0, 1, 2, 4] rfl rfl (by decide) (by decide) hk1 hFc hP1 hD1
          generalize H1 = H at hP hS ⊢
          have hP : va_P D classes [(a_told, .inr (8, [.int a_told__stalls, .int a_told__shift, .int a_told__halves, .int a_told__buyers, .int a_told__near, .int a_told__dusk, .int a_told__duskPrice, .int a_told__hear, .int a_told__forged, .ref a_told_stall, .ref a_told_shape, .ref a_told_side, .ref a_told_price, .ref a_told_purse, .ref a_told_spot, .ref a_told_club, .ref a_told_fitting, .ref a_told_nearly])), (a_told_club, .inl (cs 0, 4, .inl a_told_club_c)), (a, .inr (0, [.ref a_tape, .ref a_told, .int a__kindsTold])), (a_tape_bytes, .inl (cs 0, 400, .inl a_tape_bytes_c)), (a_tape, .inr (7, [.ref a_tape_bytes, .int a_tape__length, .int (o43.1 1), .int (o62.1 0)]))] H := hP
          have hD : va_D A [(a_told, .inr (8, [.int a_told__stalls, .int a_told__shift, .int a_told__halves, .int a_told__buyers, .int a_told__near, .int a_told__dusk, .int a_told__duskPrice, .int a_told__hear, .int a_told__forged, .ref a_told_stall, .ref a_told_shape, .ref a_told_side, .ref a_told_price, .ref a_told_purse, .ref a_told_spot, .ref a_told_club, .ref a_told_fitting, .ref a_told_nearly])), (a_told_club, .inl (cs 0, 4, .inl a_told_club_c)), (a, .inr (0, [.ref a_tape, .ref a_told, .int a__kindsTold])), (a_tape_bytes, .inl (cs 0, 400, .inl a_tape_bytes_c)), (a_tape, .inr (7, [.ref a_tape_bytes, .int a_tape__length, .int (o43.1 1), .int (o62.1 0)]))] := hD
          clear hk1 hFc hP1 hD1 hz1
          have h63 := hw
          refine lv_aload_n hx hb dX0_readClub_69 rfl (lv_at hl 3 rfl) ?_
          refine va_get (D := D) (ci := 0) (v := .ref a_tape) (C := RX0) (T := TX0) (N := 3) hx hb hT i_X0 hown hK hP 2 rfl rfl 0 (by decide) (hT _ q_44) (fun _ h9 => h9) rfl dX0_readClub_70 ?_
          refine va_calli (va_runV (As := []) (rest := []) ⟨hx, hb, hml, hown, hT⟩ (c_X7_isSound l D cs kK kV a_tape a_tape_bytes a_tape__length (o43.1 1) (o62.1 0) ((iv_w h63 (by decide) (by decide)))) (cwV 0 hT (hz_gV q_420 q_421 q_422 q_221 q_423) rfl rfl rfl (by decide +kernel) ⟨(Nat.le_of_ble_eq_true rfl), (Nat.le_of_ble_eq_true rfl)⟩) ⟨hz_P.blind, va_recv hK hP (ci := 7) (q0 := 4) rfl rfl, hz_P.mk (hP.sub (ws' := [(a_tape, .inr (7, [.ref a_tape_bytes, .int a_tape__length, .int (o43.1 1), .int (o62.1 0)]))]) [4] rfl) hE hS⟩ rfl rfl hl.1 rfl (lv_room (Nat.le_of_ble_eq_true rfl)) dX0_readClub_73 ⟨(Nat.le_of_ble_eq_true rfl), (Nat.le_of_ble_eq_true rfl)⟩) hS (fun _ _ h => h.elim) (fun _ h => h.elim) (fun r64 u t H1 locs ht hvm hw hB hz1 hk1 hS => ?_)
          have hP := hz_keep hP hk1
          clear hk1 hB hz1
          generalize H1 = H at hP hS ⊢
          rcases hw with ⟨rfl, h65⟩ | ⟨rfl, h66⟩
          · refine lv_if_eq (tgt := 88) hx hb dX0_readClub_76 (by decide) (fun _ => ?_) (fun z => absurd (by decide) z)
            refine W.widen (k := 0) (n := 0) (Nat.le_of_ble_eq_true rfl) (Nat.le_of_ble_eq_true rfl) ?_
            exact W.vret hx hb hr (fun t ht hW => ⟨⟨(fun k => match k with | 0 => o62.1 0 | 1 => o43.1 1 | _ => 0, fun k => match k with | 0 => a_told_club_c | _ => fun _ => 0), rfl, (Or.inl (⟨h65, h46⟩)), by rw [ht]; exact hP.sub [2, 0, 4, 3, 1] rfl, hD.sub [2, 0, 4, 3, 1] (by decide) rfl⟩, hS.F ht⟩) hS.2.2 dX0_readClub_88
          · exact (iv_no h66 h63 (by decide)).elim
      · exact (iv_no h49 h39 (by decide)).elim
      · exact (iv_no h53 h39 (by decide)).elim
    · refine lv_if_eq (tgt := 32) hx hb dX0_readClub_22 (by decide) (fun z => absurd z (by decide)) (fun _ => ?_)
      refine lv_aload_n hx hb dX0_readClub_25 rfl (lv_at hl 1 rfl) ?_
      refine va_get (D := D) (ci := 0) (v := .ref a_tape) (C := RX0) (T := TX0) (N := 3) hx hb hT i_X0 hown hK hP 2 rfl rfl 0 (by decide) (hT _ q_44) (fun _ h9 => h9) rfl dX0_readClub_26 ?_
      have hFc := va_free (wc := [(a_tape, .inr (7, [.ref a_tape_bytes, .int a_tape__length, .int (o3.1 1), .int (o3.1 0)])), (a_tape_bytes, .inl (cs 0, 400, .inl a_tape_bytes_c))]) hD hS hA [3,4] rfl
      refine va_callv (va_runV (As := []) (rest := []) ⟨hx, hb, hml, hown, hT⟩ (c_X7_skipBlanks l D cs kK kV a_tape a_tape_bytes a_tape__length (o3.1 1) (o3.1 0) a_tape_bytes_c h_a_tape__length h11 h_a_tape_bytes_c H.size) (cwV 0 hT (hz_gV q_436 q_437 q_438 q_221 q_439) rfl rfl rfl (by decide +kernel) ⟨(Nat.le_of_ble_eq_true rfl), (Nat.le_of_ble_eq_true rfl)⟩) ⟨hz_C.blind, va_recv hK hP (ci := 7) (q0 := 3) rfl rfl, hz_C.mk (hP.sub (ws' := [(a_tape, .inr (7, [.ref a_tape_bytes, .int a_tape__length, .int (o3.1 1), .int (o3.1 0)])), (a_tape_bytes, .inl (cs 0, 400, .inl a_tape_bytes_c))]) [3,4] rfl) (hD.sub (ws' := [(a_tape, .inr (7, [.ref a_tape_bytes, .int a_tape__length, .int (o3.1 1), .int (o3.1 0)])), (a_tape_bytes, .inl (cs 0, 400, .inl a_tape_bytes_c))]) [3,4] (by decide) rfl) hE hS hFc⟩ rfl rfl hl.1 rfl (lv_room (Nat.le_of_ble_eq_true rfl)) dX0_readClub_29 ⟨(Nat.le_of_ble_eq_true rfl), (Nat.le_of_ble_eq_true rfl)⟩) hS (fun q _ h => hFc q h) hFc (fun u t H1 locs ht hvm hw hB hz1 hk1 hS => ?_)
      obtain ⟨o68, h69, hP1, hD1⟩ := hB
      rw [ht] at hP1
      obtain ⟨hP, hD⟩ := va_join (wr := [(a_told, .inr (8, [.int a_told__stalls, .int a_told__shift, .int a_told__halves, .int a_told__buyers, .int a_told__near, .int a_told__dusk, .int a_told__duskPrice, .int a_told__hear, .int a_told__forged, .ref a_told_stall, .ref a_told_shape, .ref a_told_side, .ref a_told_price, .ref a_told_purse, .ref a_told_spot, .ref a_told_club, .ref a_told_fitting, .ref a_told_nearly])), (a_told_club, .inl (cs 0, 4, .inl a_told_club_c)), (a, .inr (0, [.ref a_tape, .ref a_told, .int a__kindsTold]))]) (w1 := [(a_tape, .inr (7, [.ref a_tape_bytes, .int a_tape__length, .int o68, .int (o3.1 0)])), (a_tape_bytes, .inl (cs 0, 400, .inl a_tape_bytes_c))]) hP hD [3, 4] [0, 1, 2] rfl rfl (by decide) (by decide) hk1 hFc hP1 hD1
      generalize H1 = H at hP hS ⊢
      have hP : va_P D classes [(a_told, .inr (8, [.int a_told__stalls, .int a_told__shift, .int a_told__halves, .int a_told__buyers, .int a_told__near, .int a_told__dusk, .int a_told__duskPrice, .int a_told__hear, .int a_told__forged, .ref a_told_stall, .ref a_told_shape, .ref a_told_side, .ref a_told_price, .ref a_told_purse, .ref a_told_spot, .ref a_told_club, .ref a_told_fitting, .ref a_told_nearly])), (a_told_club, .inl (cs 0, 4, .inl a_told_club_c)), (a, .inr (0, [.ref a_tape, .ref a_told, .int a__kindsTold])), (a_tape, .inr (7, [.ref a_tape_bytes, .int a_tape__length, .int o68, .int (o3.1 0)])), (a_tape_bytes, .inl (cs 0, 400, .inl a_tape_bytes_c))] H := hP
      have hD : va_D A [(a_told, .inr (8, [.int a_told__stalls, .int a_told__shift, .int a_told__halves, .int a_told__buyers, .int a_told__near, .int a_told__dusk, .int a_told__duskPrice, .int a_told__hear, .int a_told__forged, .ref a_told_stall, .ref a_told_shape, .ref a_told_side, .ref a_told_price, .ref a_told_purse, .ref a_told_spot, .ref a_told_club, .ref a_told_fitting, .ref a_told_nearly])), (a_told_club, .inl (cs 0, 4, .inl a_told_club_c)), (a, .inr (0, [.ref a_tape, .ref a_told, .int a__kindsTold])), (a_tape, .inr (7, [.ref a_tape_bytes, .int a_tape__length, .int o68, .int (o3.1 0)])), (a_tape_bytes, .inl (cs 0, 400, .inl a_tape_bytes_c))] := hD
      clear hk1 hFc hP1 hD1 hz1
      refine lv_aload_n hx hb dX0_readClub_32 rfl (lv_at hl 1 rfl) ?_
      refine va_get (D := D) (ci := 0) (v := .ref a_tape) (C := RX0) (T := TX0) (N := 3) hx hb hT i_X0 hown hK hP 2 rfl rfl 0 (by decide) (hT _ q_44) (fun _ h9 => h9) rfl dX0_readClub_33 ?_
      refine va_get (D := D) (ci := 7) (v := .int o68) (C := RX7) (T := TX7) (N := 4) hx hb hT i_X7 hown hK hP 3 rfl rfl 2 (by decide) (hT _ q_47) (fun _ h9 => h9) rfl dX0_readClub_36 ?_
      refine lv_istore_n (lv' := [(2, .int o68), (1, .int r2), (0, .ref a)]) hx hb dX0_readClub_39 rfl hl (by decide) rfl (fun ls hl => ?_)
      refine lv_aload_n hx hb dX0_readClub_40 rfl (lv_at hl 2 rfl) ?_
      refine lv_iconst (v := 0) hx hb dX0_readClub_41 (by decide) ?_
      refine lv_aload_n hx hb dX0_readClub_42 rfl (lv_at hl 2 rfl) ?_
      refine va_get (D := D) (ci := 0) (v := .ref a_told) (C := RX0) (T := TX0) (N := 3) hx hb hT i_X0 hown hK hP 2 rfl rfl 1 (by decide) (hT _ q_45) (fun _ h9 => h9) rfl dX0_readClub_43 ?_
      refine va_get (D := D) (ci := 8) (v := .int a_told__buyers) (C := RX8) (T := TX8) (N := 18) hx hb hT i_X8 hown hK hP 0 rfl rfl 3 (by decide) (hT _ q_55) (fun _ h9 => h9) rfl dX0_readClub_46 ?_
      refine lv_iconst (v := 1) hx hb dX0_readClub_49 (by decide) ?_
      refine lv_isub hx hb dX0_readClub_50 ?_
      refine lv_topi (fun v70 ev70 => ?_)
      have hv70 : IV (-1) 3 v70 := iv_sub ev70 h_a_told__buyers (iv_c (a := 1) (b := 1) (by decide)) (by decide) (by decide)
      have dv70 : v70.toInt = a_told__buyers.toInt + (-1) := iv_subE ev70 h_a_told__buyers (iv_c (a := 1) (b := 1) (by decide)) (by decide) (by decide) (by decide)
      have hFc := va_free (wc := [(a, .inr (0, [.ref a_tape, .ref a_told, .int a__kindsTold])), (a_tape, .inr (7, [.ref a_tape_bytes, .int a_tape__length, .int o68, .int (o3.1 0)])), (a_tape_bytes, .inl (cs 0, 400, .inl a_tape_bytes_c))]) hD hS hA [2,3,4] rfl
      refine va_calli (va_runV (As := [.int 0, .int v70]) (rest := []) ⟨hx, hb, hml, hown, hT⟩ (c_X0_numberTold_58 l D cs kK kV a v70 a_tape a_told a__kindsTold a_tape_bytes a_tape__length o68 (o3.1 0) a_tape_bytes_c hv70 h_a_tape__length h69 ((iv_w h40 (by decide) (by decide))) h_a_tape_bytes_c H.size) (cwV 2 hT (hz_gV q_452 q_453 q_454 q_226 q_455) rfl rfl rfl (by decide +kernel) ⟨(Nat.le_of_ble_eq_true rfl), (Nat.le_of_ble_eq_true rfl)⟩) ⟨hz_C.blind, va_recv hK hP (ci := 0) (q0 := 2) rfl rfl, hz_C.mk (hP.sub (ws' := [(a, .inr (0, [.ref a_tape, .ref a_told, .int a__kindsTold])), (a_tape, .inr (7, [.ref a_tape_bytes, .int a_tape__length, .int o68, .int (o3.1 0)])), (a_tape_bytes, .inl (cs 0, 400, .inl a_tape_bytes_c))]) [2,3,4] rfl) (hD.sub (ws' := [(a, .inr (0, [.ref a_tape, .ref a_told, .int a__kindsTold])), (a_tape, .inr (7, [.ref a_tape_bytes, .int a_tape__length, .int o68, .int (o3.1 0)])), (a_tape_bytes, .inl (cs 0, 400, .inl a_tape_bytes_c))]) [2,3,4] (by decide) rfl) hE hS hFc⟩ rfl rfl hl.1 rfl (lv_room (Nat.le_of_ble_eq_true rfl)) dX0_readClub_51 ⟨(Nat.le_of_ble_eq_true rfl), (Nat.le_of_ble_eq_true rfl)⟩) hS (fun q _ h => hFc q h) hFc (fun r71 o72 t H1 locs ht hvm hw hB hz1 hk1 hS => ?_)
      obtain ⟨hP1, hD1⟩ := hB
      rw [ht] at hP1
      obtain ⟨hP, hD⟩ := va_join (wr := [(a_told, .inr (8, [.int a_told__stalls, .int a_told__shift, .int a_told__halves, .int a_told__buyers, .int a_told__near, .int a_told__dusk, .int a_told__duskPrice, .int a_told__hear, .int a_told__forged, .ref a_told_stall, .ref a_told_shape, .ref a_told_side, .ref a_told_price, .ref a_told_purse, .ref a_told_spot, .ref a_told_club, .ref a_told_fitting, .ref a_told_nearly])), (a_told_club, .inl (cs 0, 4, .inl a_told_club_c))]) (w1 := [(a, .inr (0, [.ref a_tape, .ref a_told, .int a__kindsTold])), (a_tape, .inr (7, [.ref a_tape_bytes, .int a_tape__length, .int (o72.1 1), .int (o72.1 0)])), (a_tape_bytes, .inl (cs 0, 400, .inl a_tape_bytes_c))]) hP hD [2, 3, 4] [0, 1] rfl rfl (by decide) (by decide) hk1 hFc hP1 hD1
      generalize H1 = H at hP hS ⊢
      have hP : va_P D classes [(a_told, .inr (8, [.int a_told__stalls, .int a_told__shift, .int a_told__halves, .int a_told__buyers, .int a_told__near, .int a_told__dusk, .int a_told__duskPrice, .int a_told__hear, .int a_told__forged, .ref a_told_stall, .ref a_told_shape, .ref a_told_side, .ref a_told_price, .ref a_told_purse, .ref a_told_spot, .ref a_told_club, .ref a_told_fitting, .ref a_told_nearly])), (a_told_club, .inl (cs 0, 4, .inl a_told_club_c)), (a, .inr (0, [.ref a_tape, .ref a_told, .int a__kindsTold])), (a_tape, .inr (7, [.ref a_tape_bytes, .int a_tape__length, .int (o72.1 1), .int (o72.1 0)])), (a_tape_bytes, .inl (cs 0, 400, .inl a_tape_bytes_c))] H := hP
      have hD : va_D A [(a_told, .inr (8, [.int a_told__stalls, .int a_told__shift, .int a_told__halves, .int a_told__buyers, .int a_told__near, .int a_told__dusk, .int a_told__duskPrice, .int a_told__hear, .int a_told__forged, .ref a_told_stall, .ref a_told_shape, .ref a_told_side, .ref a_told_price, .ref a_told_purse, .ref a_told_spot, .ref a_told_club, .ref a_told_fitting, .ref a_told_nearly])), (a_told_club, .inl (cs 0, 4, .inl a_told_club_c)), (a, .inr (0, [.ref a_tape, .ref a_told, .int a__kindsTold])), (a_tape, .inr (7, [.ref a_tape_bytes, .int a_tape__length, .int (o72.1 1), .int (o72.1 0)])), (a_tape_bytes, .inl (cs 0, 400, .inl a_tape_bytes_c))] := hD
      clear hk1 hFc hP1 hD1 hz1
      rcases hw with ⟨rfl, h73, h74, h75⟩ | ⟨h76, h77, h78, h79, h80⟩ | ⟨h81, h82, h83⟩
      · exact (iv_no h74 h40 (by decide)).elim
      · refine lv_istore_n (lv' := [(3, .int r71), (2, .int o68), (1, .int r2), (0, .ref a)]) hx hb dX0_readClub_54 rfl hl (by decide) rfl (fun ls hl => ?_)
        refine lv_iload_n hx hb dX0_readClub_55 rfl (lv_at hl 2 rfl) ?_
        refine lv_iload_n hx hb dX0_readClub_56 rfl (lv_at hl 0 rfl) ?_
        refine lv_icmp_ne (tgt := 69) hx hb dX0_readClub_57 (by decide) (fun c84 => ?_) (fun c84 => ?_)
        · refine lv_aload_n hx hb dX0_readClub_69 rfl (lv_at hl 3 rfl) ?_
          refine va_get (D := D) (ci := 0) (v := .ref a_tape) (C := RX0) (T := TX0) (N := 3) hx hb hT i_X0 hown hK hP 2 rfl rfl 0 (by decide) (hT _ q_44) (fun _ h9 => h9) rfl dX0_readClub_70 ?_
          refine va_calli (va_runV (As := []) (rest := []) ⟨hx, hb, hml, hown, hT⟩ (c_X7_isSound l D cs kK kV a_tape a_tape_bytes a_tape__length (o72.1 1) (o72.1 0) h77) (cwV 0 hT (hz_gV q_420 q_421 q_422 q_221 q_423) rfl rfl rfl (by decide +kernel) ⟨(Nat.le_of_ble_eq_true rfl), (Nat.le_of_ble_eq_true rfl)⟩) ⟨hz_P.blind, va_recv hK hP (ci := 7) (q0 := 3) rfl rfl, hz_P.mk (hP.sub (ws' := [(a_tape, .inr (7, [.ref a_tape_bytes, .int a_tape__length, .int (o72.1 1), .int (o72.1 0)]))]) [3] rfl) hE hS⟩ rfl rfl hl.1 rfl (lv_room (Nat.le_of_ble_eq_true rfl)) dX0_readClub_73 ⟨(Nat.le_of_ble_eq_true rfl), (Nat.le_of_ble_eq_true rfl)⟩) hS (fun _ _ h => h.elim) (fun _ h => h.elim) (fun r85 u t H1 locs ht hvm hw hB hz1 hk1 hS => ?_)
          have hP := hz_keep hP hk1
          clear hk1 hB hz1
          generalize H1 = H at hP hS ⊢
          rcases hw with ⟨rfl, h86⟩ | ⟨rfl, h87⟩
          · refine lv_if_eq (tgt := 88) hx hb dX0_readClub_76 (by decide) (fun _ => ?_) (fun z => absurd (by decide) z)
            refine W.widen (k := 0) (n := 0) (Nat.le_of_ble_eq_true rfl) (Nat.le_of_ble_eq_true rfl) ?_
            exact W.vret hx hb hr (fun t ht hW => ⟨⟨(fun k => match k with | 0 => o72.1 0 | 1 => o72.1 1 | _ => 0, fun k => match k with | 0 => a_told_club_c | _ => fun _ => 0), rfl, (Or.inl (⟨h86, h80⟩)), by rw [ht]; exact hP.sub [2, 0, 3, 4, 1] rfl, hD.sub [2, 0, 3, 4, 1] (by decide) rfl⟩, hS.F ht⟩) hS.2.2 dX0_readClub_88
          · refine lv_if_eq (tgt := 88) hx hb dX0_readClub_76 (by decide) (fun z => absurd z (by decide)) (fun _ => ?_)
            refine lv_aload_n hx hb dX0_readClub_79 rfl (lv_at hl 3 rfl) ?_
            refine va_get (D := D) (ci := 0) (v := .ref a_told) (C := RX0) (T := TX0) (N := 3) hx hb hT i_X0 hown hK hP 2 rfl rfl 1 (by decide) (hT _ q_45) (fun _ h9 => h9) rfl dX0_readClub_80 ?_
            refine lv_iload_n hx hb dX0_readClub_83 rfl (lv_at hl 2 rfl) ?_
            refine lv_iload_n hx hb dX0_readClub_84 rfl (lv_at hl 0 rfl) ?_
            have hFc := va_free (wc := [(a_told, .inr (8, [.int a_told__stalls, .int a_told__shift, .int a_told__halves, .int a_told__buyers, .int a_told__near, .int a_told__dusk, .int a_told__duskPrice, .int a_told__hear, .int a_told__forged, .ref a_told_stall, .ref a_told_shape, .ref a_told_side, .ref a_told_price, .ref a_told_purse, .ref a_told_spot, .ref a_told_club, .ref a_told_fitting, .ref a_told_nearly])), (a_told_club, .inl (cs 0, 4, .inl a_told_club_c))]) hD hS hA [0,1] rfl
            refine va_callv (va_runV (As := [.int r2, .int r71]) (rest := []) ⟨hx, hb, hml, hown, hT⟩ (c_X8_joinClubs l D cs kK kV a_told r2 r71 a_told__stalls a_told__shift a_told__halves a_told__buyers a_told__near a_told__dusk a_told__duskPrice a_told__hear a_told__forged a_told_stall a_told_shape a_told_side a_told_price a_told_purse a_told_spot a_told_club a_told_fitting a_told_nearly a_told_club_c h7 h76 h_a_told__buyers H.size) (cwV 2 hT (hz_gV q_476 q_477 q_478 q_251 q_479) rfl rfl rfl (by decide +kernel) ⟨(Nat.le_of_ble_eq_true rfl), (Nat.le_of_ble_eq_true rfl)⟩) ⟨hz_C.blind, va_recv hK hP (ci := 8) (q0 := 0) rfl rfl, hz_C.mk (hP.sub (ws' := [(a_told, .inr (8, [.int a_told__stalls, .int a_told__shift, .int a_told__halves, .int a_told__buyers, .int a_told__near, .int a_told__dusk, .int a_told__duskPrice, .int a_told__hear, .int a_told__forged, .ref a_told_stall, .ref a_told_shape, .ref a_told_side, .ref a_told_price, .ref a_told_purse, .ref a_told_spot, .ref a_told_club, .ref a_told_fitting, .ref a_told_nearly])), (a_told_club, .inl (cs 0, 4, .inl a_told_club_c))]) [0,1] rfl) (hD.sub (ws' := [(a_told, .inr (8, [.int a_told__stalls, .int a_told__shift, .int a_told__halves, .int a_told__buyers, .int a_told__near, .int a_told__dusk, .int a_told__duskPrice, .int a_told__hear, .int a_told__forged, .ref a_told_stall, .ref a_told_shape, .ref a_told_side, .ref a_told_price, .ref a_told_purse, .ref a_told_spot, .ref a_told_club, .ref a_told_fitting, .ref a_told_nearly])), (a_told_club, .inl (cs 0, 4, .inl a_told_club_c))]) [0,1] (by decide) rfl) hE hS hFc⟩ rfl rfl hl.1 rfl (lv_room (Nat.le_of_ble_eq_true rfl)) dX0_readClub_85 ⟨(Nat.le_of_ble_eq_true rfl), (Nat.le_of_ble_eq_true rfl)⟩) hS (fun q _ h => hFc q h) hFc (fun u t H1 locs ht hvm hw hB hz1 hk1 hS => ?_)
            obtain ⟨o89, hP1, hD1⟩ := hB
            rw [ht] at hP1
            obtain ⟨hP, hD⟩ := va_join (wr := [(a, .inr (0, [.ref a_tape, .ref a_told, .int a__kindsTold])), (a_tape, .inr (7, [.ref a_tape_bytes, .int a_tape__length, .int (o72.1 1), .int (o72.1 0)])), (a_tape_bytes, .inl (cs 0, 400, .inl a_tape_bytes_c))]) (w1 := [(a_told, .inr (8, [.int a_told__stalls, .int a_told__shift, .int a_told__halves, .int a_told__buyers, .int a_told__near, .int a_told__dusk, .int a_told__duskPrice, .int a_told__hear, .int a_told__forged, .ref a_told_stall, .ref a_told_shape, .ref a_told_side, .ref a_told_price, .ref a_told_purse, .ref a_told_spot, .ref a_told_club, .ref a_told_fitting, .ref a_told_nearly])), (a_told_club, .inl (cs 0, 4, .inl o89))]) hP hD [0, 1] [2, 3, 4] rfl rfl (by decide) (by decide) hk1 hFc hP1 hD1
            generalize H1 = H at hP hS ⊢
            have hP : va_P D classes [(a, .inr (0, [.ref a_tape, .ref a_told, .int a__kindsTold])), (a_tape, .inr (7, [.ref a_tape_bytes, .int a_tape__length, .int (o72.1 1), .int (o72.1 0)])), (a_tape_bytes, .inl (cs 0, 400, .inl a_tape_bytes_c)), (a_told, .inr (8, [.int a_told__stalls, .int a_told__shift, .int a_told__halves, .int a_told__buyers, .int a_told__near, .int a_told__dusk, .int a_told__duskPrice, .int a_told__hear, .int a_told__forged, .ref a_told_stall, .ref a_told_shape, .ref a_told_side, .ref a_told_price, .ref a_told_purse, .ref a_told_spot, .ref a_told_club, .ref a_told_fitting, .ref a_told_nearly])), (a_told_club, .inl (cs 0, 4, .inl o89))] H := hP
            have hD : va_D A [(a, .inr (0, [.ref a_tape, .ref a_told, .int a__kindsTold])), (a_tape, .inr (7, [.ref a_tape_bytes, .int a_tape__length, .int (o72.1 1), .int (o72.1 0)])), (a_tape_bytes, .inl (cs 0, 400, .inl a_tape_bytes_c)), (a_told, .inr (8, [.int a_told__stalls, .int a_told__shift, .int a_told__halves, .int a_told__buyers, .int a_told__near, .int a_told__dusk, .int a_told__duskPrice, .int a_told__hear, .int a_told__forged, .ref a_told_stall, .ref a_told_shape, .ref a_told_side, .ref a_told_price, .ref a_told_purse, .ref a_told_spot, .ref a_told_club, .ref a_told_fitting, .ref a_told_nearly])), (a_told_club, .inl (cs 0, 4, .inl o89))] := hD
            clear hk1 hFc hP1 hD1 hz1
            refine W.widen (k := 0) (n := 0) (Nat.le_of_ble_eq_true rfl) (Nat.le_of_ble_eq_true rfl) ?_
            exact W.vret hx hb hr (fun t ht hW => ⟨⟨(fun k => match k with | 0 => o72.1 0 | 1 => o72.1 1 | _ => 0, fun k => match k with | 0 => o89 | _ => fun _ => 0), rfl, (Or.inr ((⟨h87, h9, h80⟩))), by rw [ht]; exact hP.sub [0, 3, 1, 2, 4] rfl, hD.sub [0, 3, 1, 2, 4] (by decide) rfl⟩, hS.F ht⟩) hS.2.2 dX0_readClub_88
        · refine lv_aload_n hx hb dX0_readClub_60 rfl (lv_at hl 3 rfl) ?_
          refine va_get (D := D) (ci := 0) (v := .ref a_tape) (C := RX0) (T := TX0) (N := 3) hx hb hT i_X0 hown hK hP 2 rfl rfl 0 (by decide) (hT _ q_44) (fun _ h9 => h9) rfl dX0_readClub_61 ?_
          refine lv_iload_n hx hb dX0_readClub_64 rfl (lv_at hl 1 rfl) ?_
          refine lv_iconst (v := 1) hx hb dX0_readClub_65 (by decide) ?_
          have hFc := va_free (wc := [(a_tape, .inr (7, [.ref a_tape_bytes, .int a_tape__length, .int (o72.1 1), .int (o72.1 0)]))]) hD hS hA [3] rfl
          refine va_callv (va_runV (As := [.int o68, .int 1]) (rest := []) ⟨hx, hb, hml, hown, hT⟩ (c_X7_fail l D cs kK kV a_tape o68 1 a_tape_bytes a_tape__length (o72.1 1) (o72.1 0) h69 ((iv_c (by decide))) h77 H.size) (cwV 2 hT (hz_gV q_444 q_445 q_446 q_221 q_447) rfl rfl rfl (by decide +kernel) ⟨(Nat.le_of_ble_eq_true rfl), (Nat.le_of_ble_eq_true rfl)⟩) ⟨hz_C.blind, va_recv hK hP (ci := 7) (q0 := 3) rfl rfl, hz_C.mk (hP.sub (ws' := [(a_tape, .inr (7, [.ref a_tape_bytes, .int a_tape__length, .int (o72.1 1), .int (o72.1 0)]))]) [3] rfl) (hD.sub (ws' := [(a_tape, .inr (7, [.ref a_tape_bytes, .int a_tape__length, .int (o72.1 1), .int (o72.1 0)]))]) [3] (by decide) rfl) hE hS hFc⟩ rfl rfl hl.1 rfl (lv_room (Nat.le_of_ble_eq_true rfl)) dX0_readClub_66 ⟨(Nat.le_of_ble_eq_true rfl), (Nat.le_of_ble_eq_true rfl)⟩) hS (fun q _ h => hFc q h) hFc (fun o91 t H1 locs ht hvm hw hB hz1 hk1 hS => ?_)
          obtain ⟨hP1, hD1⟩ := hB
          rw [ht] at hP1
          obtain ⟨hP, hD⟩ := va_join (wr := [(a_told, .inr (8, [.int a_told__stalls, .int a_told__shift, .int a_told__halves, .int a_told__buyers, .int a_told__near, .int a_told__dusk, .int a_told__duskPrice, .int a_told__hear, .int a_told__forged, .ref a_told_stall, .ref a_told_shape, .ref a_told_side, .ref a_told_price, .ref a_told_purse, .ref a_told_spot, .ref a_told_club, .ref a_told_fitting, .ref a_told_nearly])), (a_told_club, .inl (cs 0, 4, .inl a_told_club_c)), (a, .inr (0, [.ref a_tape, .ref a_told, .int a__kindsTold])), (a_tape_bytes, .inl (cs 0, 400, .inl a_tape_bytes_c))]) (w1 := [(a_tape, .inr (7, [.ref a_tape_bytes, .int a_tape__length, .int (o72.1 1), .int (o91.1 0)]))]) hP hD [3] [0, 1, 2, 4] rfl rfl (by decide) (by decide) hk1 hFc hP1 hD1
          generalize H1 = H at hP hS ⊢
          have hP : va_P D classes [(a_told, .inr (8, [.int a_told__stalls, .int a_told__shift, .int a_told__halves, .int a_told__buyers, .int a_told__near, .int a_told__dusk, .int a_told__duskPrice, .int a_told__hear, .int a_told__forged, .ref a_told_stall, .ref a_told_shape, .ref a_told_side, .ref a_told_price, .ref a_told_purse, .ref a_told_spot, .ref a_told_club, .ref a_told_fitting, .ref a_told_nearly])), (a_told_club, .inl (cs 0, 4, .inl a_told_club_c)), (a, .inr (0, [.ref a_tape, .ref a_told, .int a__kindsTold])), (a_tape_bytes, .inl (cs 0, 400, .inl a_tape_bytes_c)), (a_tape, .inr (7, [.ref a_tape_bytes, .int a_tape__length, .int (o72.1 1), .int (o91.1 0)]))] H := hP
          have hD : va_D A [(a_told, .inr (8, [.int a_told__stalls, .int a_told__shift, .int a_told__halves, .int a_told__buyers, .int a_told__near, .int a_told__dusk, .int a_told__duskPrice, .int a_told__hear, .int a_told__forged, .ref a_told_stall, .ref a_told_shape, .ref a_told_side, .ref a_told_price, .ref a_told_purse, .ref a_told_spot, .ref a_told_club, .ref a_told_fitting, .ref a_told_nearly])), (a_told_club, .inl (cs 0, 4, .inl a_told_club_c)), (a, .inr (0, [.ref a_tape, .ref a_told, .int a__kindsTold])), (a_tape_bytes, .inl (cs 0, 400, .inl a_tape_bytes_c)), (a_tape, .inr (7, [.ref a_tape_bytes, .int a_tape__length, .int (o72.1 1), .int (o91.1 0)]))] := hD
          clear hk1 hFc hP1 hD1 hz1
          have h92 := hw
          refine lv_aload_n hx hb dX0_readClub_69 rfl (lv_at hl 3 rfl) ?_
          refine va_get (D := D) (ci := 0) (v := .ref a_tape) (C := RX0) (T := TX0) (N := 3) hx hb hT i_X0 hown hK hP 2 rfl rfl 0 (by decide) (hT _ q_44) (fun _ h9 => h9) rfl dX0_readClub_70 ?_
          refine va_calli (va_runV (As := []) (rest := []) ⟨hx, hb, hml, hown, hT⟩ (c_X7_isSound l D cs kK kV a_tape a_tape_bytes a_tape__length (o72.1 1) (o91.1 0) ((iv_w h92 (by decide) (by decide)))) (cwV 0 hT (hz_gV q_420 q_421 q_422 q_221 q_423) rfl rfl rfl (by decide +kernel) ⟨(Nat.le_of_ble_eq_true rfl), (Nat.le_of_ble_eq_true rfl)⟩) ⟨hz_P.blind, va_recv hK hP (ci := 7) (q0 := 4) rfl rfl, hz_P.mk (hP.sub (ws' := [(a_tape, .inr (7, [.ref a_tape_bytes, .int a_tape__length, .int (o72.1 1), .int (o91.1 0)]))]) [4] rfl) hE hS⟩ rfl rfl hl.1 rfl (lv_room (Nat.le_of_ble_eq_true rfl)) dX0_readClub_73 ⟨(Nat.le_of_ble_eq_true rfl), (Nat.le_of_ble_eq_true rfl)⟩) hS (fun _ _ h => h.elim) (fun _ h => h.elim) (fun r93 u t H1 locs ht hvm hw hB hz1 hk1 hS => ?_)
          have hP := hz_keep hP hk1
          clear hk1 hB hz1
          generalize H1 = H at hP hS ⊢
          rcases hw with ⟨rfl, h94⟩ | ⟨rfl, h95⟩
          · refine lv_if_eq (tgt := 88) hx hb dX0_readClub_76 (by decide) (fun _ => ?_) (fun z => absurd (by decide) z)
            refine W.widen (k := 0) (n := 0) (Nat.le_of_ble_eq_true rfl) (Nat.le_of_ble_eq_true rfl) ?_
            exact W.vret hx hb hr (fun t ht hW => ⟨⟨(fun k => match k with | 0 => o91.1 0 | 1 => o72.1 1 | _ => 0, fun k => match k with | 0 => a_told_club_c | _ => fun _ => 0), rfl, (Or.inl (⟨h94, h80⟩)), by rw [ht]; exact hP.sub [2, 0, 4, 3, 1] rfl, hD.sub [2, 0, 4, 3, 1] (by decide) rfl⟩, hS.F ht⟩) hS.2.2 dX0_readClub_88
          · exact (iv_no h95 h92 (by decide)).elim
      · refine lv_istore_n (lv' := [(3, .int r71), (2, .int o68), (1, .int r2), (0, .ref a)]) hx hb dX0_readClub_54 rfl hl (by decide) rfl (fun ls hl => ?_)
        refine lv_iload_n hx hb dX0_readClub_55 rfl (lv_at hl 2 rfl) ?_
        refine lv_iload_n hx hb dX0_readClub_56 rfl (lv_at hl 0 rfl) ?_
        refine lv_icmp_ne (tgt := 69) hx hb dX0_readClub_57 (by decide) (fun c96 => ?_) (fun c96 => ?_)
        · refine lv_aload_n hx hb dX0_readClub_69 rfl (lv_at hl 3 rfl) ?_
          refine va_get (D := D) (ci := 0) (v := .ref a_tape) (C := RX0) (T := TX0) (N := 3) hx hb hT i_X0 hown hK hP 2 rfl rfl 0 (by decide) (hT _ q_44) (fun _ h9 => h9) rfl dX0_readClub_70 ?_
          refine va_calli (va_runV (As := []) (rest := []) ⟨hx, hb, hml, hown, hT⟩ (c_X7_isSound l D cs kK kV a_tape a_tape_bytes a_tape__length (o72.1 1) (o72.1 0) ((iv_w h81 (by decide) (by decide)))) (cwV 0 hT (hz_gV q_420 q_421 q_422 q_221 q_423) rfl rfl rfl (by decide +kernel) ⟨(Nat.le_of_ble_eq_true rfl), (Nat.le_of_ble_eq_true rfl)⟩) ⟨hz_P.blind, va_recv hK hP (ci := 7) (q0 := 3) rfl rfl, hz_P.mk (hP.sub (ws' := [(a_tape, .inr (7, [.ref a_tape_bytes, .int a_tape__length, .int (o72.1 1), .int (o72.1 0)]))]) [3] rfl) hE hS⟩ rfl rfl hl.1 rfl (lv_room (Nat.le_of_ble_eq_true rfl)) dX0_readClub_73 ⟨(Nat.le_of_ble_eq_true rfl), (Nat.le_of_ble_eq_true rfl)⟩) hS (fun _ _ h => h.elim) (fun _ h => h.elim) (fun r97 u t H1 locs ht hvm hw hB hz1 hk1 hS => ?_)
          have hP := hz_keep hP hk1
          clear hk1 hB hz1
          generalize H1 = H at hP hS ⊢
          rcases hw with ⟨rfl, h98⟩ | ⟨rfl, h99⟩
          · refine lv_if_eq (tgt := 88) hx hb dX0_readClub_76 (by decide) (fun _ => ?_) (fun z => absurd (by decide) z)
            refine W.widen (k := 0) (n := 0) (Nat.le_of_ble_eq_true rfl) (Nat.le_of_ble_eq_true rfl) ?_
            exact W.vret hx hb hr (fun t ht hW => ⟨⟨(fun k => match k with | 0 => o72.1 0 | 1 => o72.1 1 | _ => 0, fun k => match k with | 0 => a_told_club_c | _ => fun _ => 0), rfl, (Or.inl (⟨h98, h83⟩)), by rw [ht]; exact hP.sub [2, 0, 3, 4, 1] rfl, hD.sub [2, 0, 3, 4, 1] (by decide) rfl⟩, hS.F ht⟩) hS.2.2 dX0_readClub_88
          · exact (iv_no h99 h81 (by decide)).elim
        · have h100 : IV 0 3 r71 := iv_eq2 c96 h7 iv_top (by decide) (by decide)
          refine lv_aload_n hx hb dX0_readClub_60 rfl (lv_at hl 3 rfl) ?_
          refine va_get (D := D) (ci := 0) (v := .ref a_tape) (C := RX0) (T := TX0) (N := 3) hx hb hT i_X0 hown hK hP 2 rfl rfl 0 (by decide) (hT _ q_44) (fun _ h9 => h9) rfl dX0_readClub_61 ?_
          refine lv_iload_n hx hb dX0_readClub_64 rfl (lv_at hl 1 rfl) ?_
          refine lv_iconst (v := 1) hx hb dX0_readClub_65 (by decide) ?_
          have hFc := va_free (wc := [(a_tape, .inr (7, [.ref a_tape_bytes, .int a_tape__length, .int (o72.1 1), .int (o72.1 0)]))]) hD hS hA [3] rfl
          refine va_callv (va_runV (As := [.int o68, .int 1]) (rest := []) ⟨hx, hb, hml, hown, hT⟩ (c_X7_fail l D cs kK kV a_tape o68 1 a_tape_bytes a_tape__length (o72.1 1) (o72.1 0) h69 ((iv_c (by decide))) ((iv_w h81 (by decide) (by decide))) H.size) (cwV 2 hT (hz_gV q_444 q_445 q_446 q_221 q_447) rfl rfl rfl (by decide +kernel) ⟨(Nat.le_of_ble_eq_true rfl), (Nat.le_of_ble_eq_true rfl)⟩) ⟨hz_C.blind, va_recv hK hP (ci := 7) (q0 := 3) rfl rfl, hz_C.mk (hP.sub (ws' := [(a_tape, .inr (7, [.ref a_tape_bytes, .int a_tape__length, .int (o72.1 1), .int (o72.1 0)]))]) [3] rfl) (hD.sub (ws' := [(a_tape, .inr (7, [.ref a_tape_bytes, .int a_tape__length, .int (o72.1 1), .int (o72.1 0)]))]) [3] (by decide) rfl) hE hS hFc⟩ rfl rfl hl.1 rfl (lv_room (Nat.le_of_ble_eq_true rfl)) dX0_readClub_66 ⟨(Nat.le_of_ble_eq_true rfl), (Nat.le_of_ble_eq_true rfl)⟩) hS (fun q _ h => hFc q h) hFc (fun o102 t H1 locs ht hvm hw hB hz1 hk1 hS => ?_)
          obtain ⟨hP1, hD1⟩ := hB
          rw [ht] at hP1
          obtain ⟨hP, hD⟩ := va_join (wr := [(a_told, .inr (8, [.int a_told__stalls, .int a_told__shift, .int a_told__halves, .int a_told__buyers, .int a_told__near, .int a_told__dusk, .int a_told__duskPrice, .int a_told__hear, .int a_told__forged, .ref a_told_stall, .ref a_told_shape, .ref a_told_side, .ref a_told_price, .ref a_told_purse, .ref a_told_spot, .ref a_told_club, .ref a_told_fitting, .ref a_told_nearly])), (a_told_club, .inl (cs 0, 4, .inl a_told_club_c)), (a, .inr (0, [.ref a_tape, .ref a_told, .int a__kindsTold])), (a_tape_bytes, .inl (cs 0, 400, .inl a_tape_bytes_c))]) (w1 := [(a_tape, .inr (7, [.ref a_tape_bytes, .int a_tape__length, .int (o72.1 1), .int (o102.1 0)]))]) hP hD [3] [0, 1, 2, 4] rfl rfl (by decide) (by decide) hk1 hFc hP1 hD1
          generalize H1 = H at hP hS ⊢
          have hP : va_P D classes [(a_told, .inr (8, [.int a_told__stalls, .int a_told__shift, .int a_told__halves, .int a_told__buyers, .int a_told__near, .int a_told__dusk, .int a_told__duskPrice, .int a_told__hear, .int a_told__forged, .ref a_told_stall, .ref a_told_shape, .ref a_told_side, .ref a_told_price, .ref a_told_purse, .ref a_told_spot, .ref a_told_club, .ref a_told_fitting, .ref a_told_nearly])), (a_told_club, .inl (cs 0, 4, .inl a_told_club_c)), (a, .inr (0, [.ref a_tape, .ref a_told, .int a__kindsTold])), (a_tape_bytes, .inl (cs 0, 400, .inl a_tape_bytes_c)), (a_tape, .inr (7, [.ref a_tape_bytes, .int a_tape__length, .int (o72.1 1), .int (o102.1 0)]))] H := hP
          have hD : va_D A [(a_told, .inr (8, [.int a_told__stalls, .int a_told__shift, .int a_told__halves, .int a_told__buyers, .int a_told__near, .int a_told__dusk, .int a_told__duskPrice, .int a_told__hear, .int a_told__forged, .ref a_told_stall, .ref a_told_shape, .ref a_told_side, .ref a_told_price, .ref a_told_purse, .ref a_told_spot, .ref a_told_club, .ref a_told_fitting, .ref a_told_nearly])), (a_told_club, .inl (cs 0, 4, .inl a_told_club_c)), (a, .inr (0, [.ref a_tape, .ref a_told, .int a__kindsTold])), (a_tape_bytes, .inl (cs 0, 400, .inl a_tape_bytes_c)), (a_tape, .inr (7, [.ref a_tape_bytes, .int a_tape__length, .int (o72.1 1), .int (o102.1 0)]))] := hD
          clear hk1 hFc hP1 hD1 hz1
          have h103 := hw
          refine lv_aload_n hx hb dX0_readClub_69 rfl (lv_at hl 3 rfl) ?_
          refine va_get (D := D) (ci := 0) (v := .ref a_tape) (C := RX0) (T := TX0) (N := 3) hx hb hT i_X0 hown hK hP 2 rfl rfl 0 (by decide) (hT _ q_44) (fun _ h9 => h9) rfl dX0_readClub_70 ?_
          refine va_calli (va_runV (As := []) (rest := []) ⟨hx, hb, hml, hown, hT⟩ (c_X7_isSound l D cs kK kV a_tape a_tape_bytes a_tape__length (o72.1 1) (o102.1 0) ((iv_w h103 (by decide) (by decide)))) (cwV 0 hT (hz_gV q_420 q_421 q_422 q_221 q_423) rfl rfl rfl (by decide +kernel) ⟨(Nat.le_of_ble_eq_true rfl), (Nat.le_of_ble_eq_true rfl)⟩) ⟨hz_P.blind, va_recv hK hP (ci := 7) (q0 := 4) rfl rfl, hz_P.mk (hP.sub (ws' := [(a_tape, .inr (7, [.ref a_tape_bytes, .int a_tape__length, .int (o72.1 1), .int (o102.1 0)]))]) [4] rfl) hE hS⟩ rfl rfl hl.1 rfl (lv_room (Nat.le_of_ble_eq_true rfl)) dX0_readClub_73 ⟨(Nat.le_of_ble_eq_true rfl), (Nat.le_of_ble_eq_true rfl)⟩) hS (fun _ _ h => h.elim) (fun _ h => h.elim) (fun r104 u t H1 locs ht hvm hw hB hz1 hk1 hS => ?_)
          have hP := hz_keep hP hk1
          clear hk1 hB hz1
          generalize H1 = H at hP hS ⊢
          rcases hw with ⟨rfl, h105⟩ | ⟨rfl, h106⟩
          · refine lv_if_eq (tgt := 88) hx hb dX0_readClub_76 (by decide) (fun _ => ?_) (fun z => absurd (by decide) z)
            refine W.widen (k := 0) (n := 0) (Nat.le_of_ble_eq_true rfl) (Nat.le_of_ble_eq_true rfl) ?_
            exact W.vret hx hb hr (fun t ht hW => ⟨⟨(fun k => match k with | 0 => o102.1 0 | 1 => o72.1 1 | _ => 0, fun k => match k with | 0 => a_told_club_c | _ => fun _ => 0), rfl, (Or.inl (⟨h105, h83⟩)), by rw [ht]; exact hP.sub [2, 0, 4, 3, 1] rfl, hD.sub [2, 0, 4, 3, 1] (by decide) rfl⟩, hS.F ht⟩) hS.2.2 dX0_readClub_88
          · exact (iv_no h106 h103 (by decide)).elim
  · refine lv_istore_n (lv' := [(1, .int r2), (0, .ref a)]) hx hb dX0_readClub_14 rfl hl (by decide) rfl (fun ls hl => ?_)
    refine lv_aload_n hx hb dX0_readClub_15 rfl (lv_at hl 1 rfl) ?_
    refine va_get (D := D) (ci := 0) (v := .ref a_tape) (C := RX0) (T := TX0) (N := 3) hx hb hT i_X0 hown hK hP 2 rfl rfl 0 (by decide) (hT _ q_44) (fun _ h9 => h9) rfl dX0_readClub_16 ?_
    refine va_calli (va_runV (As := []) (rest := []) ⟨hx, hb, hml, hown, hT⟩ (c_X7_isSound l D cs kK kV a_tape a_tape_bytes a_tape__length (o3.1 1) (o3.1 0) ((iv_w h12 (by decide) (by decide)))) (cwV 0 hT (hz_gV q_420 q_421 q_422 q_221 q_423) rfl rfl rfl (by decide +kernel) ⟨(Nat.le_of_ble_eq_true rfl), (Nat.le_of_ble_eq_true rfl)⟩) ⟨hz_P.blind, va_recv hK hP (ci := 7) (q0 := 3) rfl rfl, hz_P.mk (hP.sub (ws' := [(a_tape, .inr (7, [.ref a_tape_bytes, .int a_tape__length, .int (o3.1 1), .int (o3.1 0)]))]) [3] rfl) hE hS⟩ rfl rfl hl.1 rfl (lv_room (Nat.le_of_ble_eq_true rfl)) dX0_readClub_19 ⟨(Nat.le_of_ble_eq_true rfl), (Nat.le_of_ble_eq_true rfl)⟩) hS (fun _ _ h => h.elim) (fun _ h => h.elim) (fun r107 u t H1 locs ht hvm hw hB hz1 hk1 hS => ?_)
    have hP := hz_keep hP hk1
    clear hk1 hB hz1
    generalize H1 = H at hP hS ⊢
    rcases hw with ⟨rfl, h108⟩ | ⟨rfl, h109⟩
    · refine lv_if_eq (tgt := 32) hx hb dX0_readClub_22 (by decide) (fun _ => ?_) (fun z => absurd (by decide) z)
      refine lv_aload_n hx hb dX0_readClub_32 rfl (lv_at hl 1 rfl) ?_
      refine va_get (D := D) (ci := 0) (v := .ref a_tape) (C := RX0) (T := TX0) (N := 3) hx hb hT i_X0 hown hK hP 2 rfl rfl 0 (by decide) (hT _ q_44) (fun _ h9 => h9) rfl dX0_readClub_33 ?_
      refine va_get (D := D) (ci := 7) (v := .int (o3.1 1)) (C := RX7) (T := TX7) (N := 4) hx hb hT i_X7 hown hK hP 3 rfl rfl 2 (by decide) (hT _ q_47) (fun _ h9 => h9) rfl dX0_readClub_36 ?_
      refine lv_istore_n (lv' := [(2, .int (o3.1 1)), (1, .int r2), (0, .ref a)]) hx hb dX0_readClub_39 rfl hl (by decide) rfl (fun ls hl => ?_)
      refine lv_aload_n hx hb dX0_readClub_40 rfl (lv_at hl 2 rfl) ?_
      refine lv_iconst (v := 0) hx hb dX0_readClub_41 (by decide) ?_
      refine lv_aload_n hx hb dX0_readClub_42 rfl (lv_at hl 2 rfl) ?_
      refine va_get (D := D) (ci := 0) (v := .ref a_told) (C := RX0) (T := TX0) (N := 3) hx hb hT i_X0 hown hK hP 2 rfl rfl 1 (by decide) (hT _ q_45) (fun _ h9 => h9) rfl dX0_readClub_43 ?_
      refine va_get (D := D) (ci := 8) (v := .int a_told__buyers) (C := RX8) (T := TX8) (N := 18) hx hb hT i_X8 hown hK hP 0 rfl rfl 3 (by decide) (hT _ q_55) (fun _ h9 => h9) rfl dX0_readClub_46 ?_
      refine lv_iconst (v := 1) hx hb dX0_readClub_49 (by decide) ?_
      refine lv_isub hx hb dX0_readClub_50 ?_
      refine lv_topi (fun v110 ev110 => ?_)
      have hv110 : IV (-1) 3 v110 := iv_sub ev110 h_a_told__buyers (iv_c (a := 1) (b := 1) (by decide)) (by decide) (by decide)
      have dv110 : v110.toInt = a_told__buyers.toInt + (-1) := iv_subE ev110 h_a_told__buyers (iv_c (a := 1) (b := 1) (by decide)) (by decide) (by decide) (by decide)
      have hFc := va_free (wc := [(a, .inr (0, [.ref a_tape, .ref a_told, .int a__kindsTold])), (a_tape, .inr (7, [.ref a_tape_bytes, .int a_tape__length, .int (o3.1 1), .int (o3.1 0)])), (a_tape_bytes, .inl (cs 0, 400, .inl a_tape_bytes_c))]) hD hS hA [2,3,4] rfl
      refine va_calli (va_runV (As := [.int 0, .int v110]) (rest := []) ⟨hx, hb, hml, hown, hT⟩ (c_X0_numberTold_58 l D cs kK kV a v110 a_tape a_told a__kindsTold a_tape_bytes a_tape__length (o3.1 1) (o3.1 0) a_tape_bytes_c hv110 h_a_tape__length h14 ((iv_w h108 (by decide) (by decide))) h_a_tape_bytes_c H.size) (cwV 2 hT (hz_gV q_452 q_453 q_454 q_226 q_455) rfl rfl rfl (by decide +kernel) ⟨(Nat.le_of_ble_eq_true rfl), (Nat.le_of_ble_eq_true rfl)⟩) ⟨hz_C.blind, va_recv hK hP (ci := 0) (q0 := 2) rfl rfl, hz_C.mk (hP.sub (ws' := [(a, .inr (0, [.ref a_tape, .ref a_told, .int a__kindsTold])), (a_tape, .inr (7, [.ref a_tape_bytes, .int a_tape__length, .int (o3.1 1), .int (o3.1 0)])), (a_tape_bytes, .inl (cs 0, 400, .inl a_tape_bytes_c))]) [2,3,4] rfl) (hD.sub (ws' := [(a, .inr (0, [.ref a_tape, .ref a_told, .int a__kindsTold])), (a_tape, .inr (7, [.ref a_tape_bytes, .int a_tape__length, .int (o3.1 1), .int (o3.1 0)])), (a_tape_bytes, .inl (cs 0, 400, .inl a_tape_bytes_c))]) [2,3,4] (by decide) rfl) hE hS hFc⟩ rfl rfl hl.1 rfl (lv_room (Nat.le_of_ble_eq_true rfl)) dX0_readClub_51 ⟨(Nat.le_of_ble_eq_true rfl), (Nat.le_of_ble_eq_true rfl)⟩) hS (fun q _ h => hFc q h) hFc (fun r111 o112 t H1 locs ht hvm hw hB hz1 hk1 hS => ?_)
      obtain ⟨hP1, hD1⟩ := hB
      rw [ht] at hP1
      obtain ⟨hP, hD⟩ := va_join (wr := [(a_told, .inr (8, [.int a_told__stalls, .int a_told__shift, .int a_told__halves, .int a_told__buyers, .int a_told__near, .int a_told__dusk, .int a_told__duskPrice, .int a_told__hear, .int a_told__forged, .ref a_told_stall, .ref a_told_shape, .ref a_told_side, .ref a_told_price, .ref a_told_purse, .ref a_told_spot, .ref a_told_club, .ref a_told_fitting, .ref a_told_nearly])), (a_told_club, .inl (cs 0, 4, .inl a_told_club_c))]) (w1 := [(a, .inr (0, [.ref a_tape, .ref a_told, .int a__kindsTold])), (a_tape, .inr (7, [.ref a_tape_bytes, .int a_tape__length, .int (o112.1 1), .int (o112.1 0)])), (a_tape_bytes, .inl (cs 0, 400, .inl a_tape_bytes_c))]) hP hD [2, 3, 4] [0, 1] rfl rfl (by decide) (by decide) hk1 hFc hP1 hD1
      generalize H1 = H at hP hS ⊢
      have hP : va_P D classes [(a_told, .inr (8, [.int a_told__stalls, .int a_told__shift, .int a_told__halves, .int a_told__buyers, .int a_told__near, .int a_told__dusk, .int a_told__duskPrice, .int a_told__hear, .int a_told__forged, .ref a_told_stall, .ref a_told_shape, .ref a_told_side, .ref a_told_price, .ref a_told_purse, .ref a_told_spot, .ref a_told_club, .ref a_told_fitting, .ref a_told_nearly])), (a_told_club, .inl (cs 0, 4, .inl a_told_club_c)), (a, .inr (0, [.ref a_tape, .ref a_told, .int a__kindsTold])), (a_tape, .inr (7, [.ref a_tape_bytes, .int a_tape__length, .int (o112.1 1), .int (o112.1 0)])), (a_tape_bytes, .inl (cs 0, 400, .inl a_tape_bytes_c))] H := hP
      have hD : va_D A [(a_told, .inr (8, [.int a_told__stalls, .int a_told__shift, .int a_told__halves, .int a_told__buyers, .int a_told__near, .int a_told__dusk, .int a_told__duskPrice, .int a_told__hear, .int a_told__forged, .ref a_told_stall, .ref a_told_shape, .ref a_told_side, .ref a_told_price, .ref a_told_purse, .ref a_told_spot, .ref a_told_club, .ref a_told_fitting, .ref a_told_nearly])), (a_told_club, .inl (cs 0, 4, .inl a_told_club_c)), (a, .inr (0, [.ref a_tape, .ref a_told, .int a__kindsTold])), (a_tape, .inr (7, [.ref a_tape_bytes, .int a_tape__length, .int (o112.1 1), .int (o112.1 0)])), (a_tape_bytes, .inl (cs 0, 400, .inl a_tape_bytes_c))] := hD
      clear hk1 hFc hP1 hD1 hz1
      rcases hw with ⟨rfl, h113, h114, h115⟩ | ⟨h116, h117, h118, h119, h120⟩ | ⟨h121, h122, h123⟩
      · refine lv_istore_n (lv' := [(3, .int 0), (2, .int (o3.1 1)), (1, .int r2), (0, .ref a)]) hx hb dX0_readClub_54 rfl hl (by decide) rfl (fun ls hl => ?_)
        refine lv_iload_n hx hb dX0_readClub_55 rfl (lv_at hl 2 rfl) ?_
        refine lv_iload_n hx hb dX0_readClub_56 rfl (lv_at hl 0 rfl) ?_
        refine lv_icmp_ne (tgt := 69) hx hb dX0_readClub_57 (by decide) (fun c124 => ?_) (fun c124 => ?_)
        · refine lv_aload_n hx hb dX0_readClub_69 rfl (lv_at hl 3 rfl) ?_
          refine va_get (D := D) (ci := 0) (v := .ref a_tape) (C := RX0) (T := TX0) (N := 3) hx hb hT i_X0 hown hK hP 2 rfl rfl 0 (by decide) (hT _ q_44) (fun _ h9 => h9) rfl dX0_readClub_70 ?_
          refine va_calli (va_runV (As := []) (rest := []) ⟨hx, hb, hml, hown, hT⟩ (c_X7_isSound l D cs kK kV a_tape a_tape_bytes a_tape__length (o112.1 1) (o112.1 0) ((iv_w h113 (by decide) (by decide)))) (cwV 0 hT (hz_gV q_420 q_421 q_422 q_221 q_423) rfl rfl rfl (by decide +kernel) ⟨(Nat.le_of_ble_eq_true rfl), (Nat.le_of_ble_eq_true rfl)⟩) ⟨hz_P.blind, va_recv hK hP (ci := 7) (q0 := 3) rfl rfl, hz_P.mk (hP.sub (ws' := [(a_tape, .inr (7, [.ref a_tape_bytes, .int a_tape__length, .int (o112.1 1), .int (o112.1 0)]))]) [3] rfl) hE hS⟩ rfl rfl hl.1 rfl (lv_room (Nat.le_of_ble_eq_true rfl)) dX0_readClub_73 ⟨(Nat.le_of_ble_eq_true rfl), (Nat.le_of_ble_eq_true rfl)⟩) hS (fun _ _ h => h.elim) (fun _ h => h.elim) (fun r125 u t H1 locs ht hvm hw hB hz1 hk1 hS => ?_)
          have hP := hz_keep hP hk1
          clear hk1 hB hz1
          generalize H1 = H at hP hS ⊢
          rcases hw with ⟨rfl, h126⟩ | ⟨rfl, h127⟩
          · refine lv_if_eq (tgt := 88) hx hb dX0_readClub_76 (by decide) (fun _ => ?_) (fun z => absurd (by decide) z)
            refine W.widen (k := 0) (n := 0) (Nat.le_of_ble_eq_true rfl) (Nat.le_of_ble_eq_true rfl) ?_
            exact W.vret hx hb hr (fun t ht hW => ⟨⟨(fun k => match k with | 0 => o112.1 0 | 1 => o112.1 1 | _ => 0, fun k => match k with | 0 => a_told_club_c | _ => fun _ => 0), rfl, (Or.inl (⟨h126, h115⟩)), by rw [ht]; exact hP.sub [2, 0, 3, 4, 1] rfl, hD.sub [2, 0, 3, 4, 1] (by decide) rfl⟩, hS.F ht⟩) hS.2.2 dX0_readClub_88
          · exact (iv_no h127 h113 (by decide)).elim
        · have h128 : IV 0 0 r2 := iv_eq1 c124 iv_top (iv_c (a := 0) (b := 0) (by decide)) (by decide) (by decide)
          refine lv_aload_n hx hb dX0_readClub_60 rfl (lv_at hl 3 rfl) ?_
          refine va_get (D := D) (ci := 0) (v := .ref a_tape) (C := RX0) (T := TX0) (N := 3) hx hb hT i_X0 hown hK hP 2 rfl rfl 0 (by decide) (hT _ q_44) (fun _ h9 => h9) rfl dX0_readClub_61 ?_
          refine lv_iload_n hx hb dX0_readClub_64 rfl (lv_at hl 1 rfl) ?_
          refine lv_iconst (v := 1) hx hb dX0_readClub_65 (by decide) ?_
          have hFc := va_free (wc := [(a_tape, .inr (7, [.ref a_tape_bytes, .int a_tape__length, .int (o112.1 1), .int (o112.1 0)]))]) hD hS hA [3] rfl
          refine va_callv (va_runV (As := [.int (o3.1 1), .int 1]) (rest := []) ⟨hx, hb, hml, hown, hT⟩ (c_X7_fail l D cs kK kV a_tape (o3.1 1) 1 a_tape_bytes a_tape__length (o112.1 1) (o112.1 0) h14 ((iv_c (by decide))) ((iv_w h113 (by decide) (by decide))) H.size) (cwV 2 hT (hz_gV q_444 q_445 q_446 q_221 q_447) rfl rfl rfl (by decide +kernel) ⟨(Nat.le_of_ble_eq_true rfl), (Nat.le_of_ble_eq_true rfl)⟩) ⟨hz_C.blind, va_recv hK hP (ci := 7) (q0 := 3) rfl rfl, hz_C.mk (hP.sub (ws' := [(a_tape, .inr (7, [.ref a_tape_bytes, .int a_tape__length, .int (o112.1 1), .int (o112.1 0)]))]) [3] rfl) (hD.sub (ws' := [(a_tape, .inr (7, [.ref a_tape_bytes, .int a_tape__length, .int (o112.1 1), .int (o112.1 0)]))]) [3] (by decide) rfl) hE hS hFc⟩ rfl rfl hl.1 rfl (lv_room (Nat.le_of_ble_eq_true rfl)) dX0_readClub_66 ⟨(Nat.le_of_ble_eq_true rfl), (Nat.le_of_ble_eq_true rfl)⟩) hS (fun q _ h => hFc q h) hFc (fun o130 t H1 locs ht hvm hw hB hz1 hk1 hS => ?_)
          obtain ⟨hP1, hD1⟩ := hB
          rw [ht] at hP1
          obtain ⟨hP, hD⟩ := va_join (wr := [(a_told, .inr (8, [.int a_told__stalls, .int a_told__shift, .int a_told__halves, .int a_told__buyers, .int a_told__near, .int a_told__dusk, .int a_told__duskPrice, .int a_told__hear, .int a_told__forged, .ref a_told_stall, .ref a_told_shape, .ref a_told_side, .ref a_told_price, .ref a_told_purse, .ref a_told_spot, .ref a_told_club, .ref a_told_fitting, .ref a_told_nearly])), (a_told_club, .inl (cs 0, 4, .inl a_told_club_c)), (a, .inr (0, [.ref a_tape, .ref a_told, .int a__kindsTold])), (a_tape_bytes, .inl (cs 0, 400, .inl a_tape_bytes_c))]) (w1 := [(a_tape, .inr (7, [.ref a_tape_bytes, .int a_tape__length, .int (o112.1 1), .int (o130.1 0)]))]) hP hD [3] [0, 1, 2, 4] rfl rfl (by decide) (by decide) hk1 hFc hP1 hD1
          generalize H1 = H at hP hS ⊢
          have hP : va_P D classes [(a_told, .inr (8, [.int a_told__stalls, .int a_told__shift, .int a_told__halves, .int a_told__buyers, .int a_told__near, .int a_told__dusk, .int a_told__duskPrice, .int a_told__hear, .int a_told__forged, .ref a_told_stall, .ref a_told_shape, .ref a_told_side, .ref a_told_price, .ref a_told_purse, .ref a_told_spot, .ref a_told_club, .ref a_told_fitting, .ref a_told_nearly])), (a_told_club, .inl (cs 0, 4, .inl a_told_club_c)), (a, .inr (0, [.ref a_tape, .ref a_told, .int a__kindsTold])), (a_tape_bytes, .inl (cs 0, 400, .inl a_tape_bytes_c)), (a_tape, .inr (7, [.ref a_tape_bytes, .int a_tape__length, .int (o112.1 1), .int (o130.1 0)]))] H := hP
          have hD : va_D A [(a_told, .inr (8, [.int a_told__stalls, .int a_told__shift, .int a_told__halves, .int a_told__buyers, .int a_told__near, .int a_told__dusk, .int a_told__duskPrice, .int a_told__hear, .int a_told__forged, .ref a_told_stall, .ref a_told_shape, .ref a_told_side, .ref a_told_price, .ref a_told_purse, .ref a_told_spot, .ref a_told_club, .ref a_told_fitting, .ref a_told_nearly])), (a_told_club, .inl (cs 0, 4, .inl a_told_club_c)), (a, .inr (0, [.ref a_tape, .ref a_told, .int a__kindsTold])), (a_tape_bytes, .inl (cs 0, 400, .inl a_tape_bytes_c)), (a_tape, .inr (7, [.ref a_tape_bytes, .int a_tape__length, .int (o112.1 1), .int (o130.1 0)]))] := hD
          clear hk1 hFc hP1 hD1 hz1
          have h131 := hw
          refine lv_aload_n hx hb dX0_readClub_69 rfl (lv_at hl 3 rfl) ?_
          refine va_get (D := D) (ci := 0) (v := .ref a_tape) (C := RX0) (T := TX0) (N := 3) hx hb hT i_X0 hown hK hP 2 rfl rfl 0 (by decide) (hT _ q_44) (fun _ h9 => h9) rfl dX0_readClub_70 ?_
          refine va_calli (va_runV (As := []) (rest := []) ⟨hx, hb, hml, hown, hT⟩ (c_X7_isSound l D cs kK kV a_tape a_tape_bytes a_tape__length (o112.1 1) (o130.1 0) ((iv_w h131 (by decide) (by decide)))) (cwV 0 hT (hz_gV q_420 q_421 q_422 q_221 q_423) rfl rfl rfl (by decide +kernel) ⟨(Nat.le_of_ble_eq_true rfl), (Nat.le_of_ble_eq_true rfl)⟩) ⟨hz_P.blind, va_recv hK hP (ci := 7) (q0 := 4) rfl rfl, hz_P.mk (hP.sub (ws' := [(a_tape, .inr (7, [.ref a_tape_bytes, .int a_tape__length, .int (o112.1 1), .int (o130.1 0)]))]) [4] rfl) hE hS⟩ rfl rfl hl.1 rfl (lv_room (Nat.le_of_ble_eq_true rfl)) dX0_readClub_73 ⟨(Nat.le_of_ble_eq_true rfl), (Nat.le_of_ble_eq_true rfl)⟩) hS (fun _ _ h => h.elim) (fun _ h => h.elim) (fun r132 u t H1 locs ht hvm hw hB hz1 hk1 hS => ?_)
          have hP := hz_keep hP hk1
          clear hk1 hB hz1
          generalize H1 = H at hP hS ⊢
          rcases hw with ⟨rfl, h133⟩ | ⟨rfl, h134⟩
          · refine lv_if_eq (tgt := 88) hx hb dX0_readClub_76 (by decide) (fun _ => ?_) (fun z => absurd (by decide) z)
            refine W.widen (k := 0) (n := 0) (Nat.le_of_ble_eq_true rfl) (Nat.le_of_ble_eq_true rfl) ?_
            exact W.vret hx hb hr (fun t ht hW => ⟨⟨(fun k => match k with | 0 => o130.1 0 | 1 => o112.1 1 | _ => 0, fun k => match k with | 0 => a_told_club_c | _ => fun _ => 0), rfl, (Or.inl (⟨h133, h115⟩)), by rw [ht]; exact hP.sub [2, 0, 4, 3, 1] rfl, hD.sub [2, 0, 4, 3, 1] (by decide) rfl⟩, hS.F ht⟩) hS.2.2 dX0_readClub_88
          · exact (iv_no h134 h131 (by decide)).elim
      · exact (iv_no h118 h108 (by decide)).elim
      · exact (iv_no h122 h108 (by decide)).elim
    · exact (iv_no h109 h12 (by decide)).elim
set_option maxHeartbeats 4000000 in
set_option maxRecDepth 100000 in
theorem c_X7_takeNumber_61 (l : Launch) (D : va_G) (cs : Nat → ClassId) (kK kV : Nat → Nat) (a : Nat) (p1 : Int32) (a_bytes : Nat) (a__length : Int32) (a__place : Int32) (a__fault : Int32) (a_bytes_c : Nat → Int32) (h_p1 : IV (-1) 7 p1) (h_a__length : IV 0 400 a__length) (h_a__place : IV 0 400 a__place) (h_a__fault : IV 0 3205 a__fault) (h_a_bytes_c : CI 400 0 255 a_bytes_c) (sz : Nat) : Met l yX7_takeNumber (hz_w yX7_takeNumber cX7_takeNumber 5 (some .int)) ({ frames := 1, cells := 0, slots := 0, locals := 22 }) (va_Pc [.ref a, .int 0, .int p1] (hz_C D cs kK kV sz [(a, .inr (7, [.ref a_bytes, .int a__length, .int a__place, .int a__fault])), (a_bytes, .inl (cs 0, 400, .inl a_bytes_c))])) (va_Qi (fun (r : Int32) (u : (Nat → Int32) × (Nat → Nat → Int32)) => (IV 0 7 r ∧ IV 0 3205 (u.1 0) ∧ IV 0 7 p1 ∧ IV 0 400 (u.1 1)) ∨ (IV 1 3205 (u.1 0) ∧ IV 0 400 (u.1 1))) (fun u t => va_P D classes [(a, .inr (7, [.ref a_bytes, .int a__length, .int (u.1 1), .int (u.1 0)])), (a_bytes, .inl (cs 0, 400, .inl a_bytes_c))] t.heap ∧ va_D (va_A [(a, .inr (7, [.ref a_bytes, .int a__length, .int a__place, .int a__fault])), (a_bytes, .inl (cs 0, 400, .inl a_bytes_c))] sz) [(a, .inr (7, [.ref a_bytes, .int a__length, .int (u.1 1), .int (u.1 0)])), (a_bytes, .inl (cs 0, 400, .inl a_bytes_c))]) (va_A [(a, .inr (7, [.ref a_bytes, .int a__length, .int a__place, .int a__fault])), (a_bytes, .inl (cs 0, 400, .inl a_bytes_c))] sz)) 0 0 (va_A [(a, .inr (7, [.ref a_bytes, .int a__length, .int a__place, .int a__fault])), (a_bytes, .inl (cs 0, 400, .inl a_bytes_c))] sz) := by
  refine Met.ofW (cc := cX7_takeNumber) (maxL := 5) (ret := (some .int)) (by decide) rfl ?_
  intro p e s m args below meth c s₁ B hml hv
  obtain ⟨rfl, hsz, hP, hD0, hE⟩ := hv
  have hx := B.exec
  have hb := B.bytes
  have hr := B.returns
  have hT : ∀ w ∈ TB, w.before _ s = true := fun w h => atoms_spec (ws := hz_w yX7_takeNumber cX7_takeNumber 5 (some .int)) B.pre w (List.mem_cons_of_mem _ h)
  have hown : s.vm.findClass RX7 = some m.cls := findClass_of_methodNamed B.named
  have hlocks := B.notSynchronized
  clear B
  subst hsz
  have hD := hD0.self (sz := s.heap.size)
  generalize hAe : va_A [(a, .inr (7, [.ref a_bytes, .int a__length, .int a__place, .int a__fault])), (a_bytes, .inl (cs 0, 400, .inl a_bytes_c))] s.heap.size = A at hD hE ⊢
  have hA : ∀ q : Nat, s.heap.size ≤ q → A q := fun q h => by rw [← hAe]; exact Or.inr h
  clear hAe hD0
  have hS : va_S A s.heap s.heap [] := va_S.rf
  have hK := hE.1
  have hl := lv_entry ([.ref a, .int 0, .int p1]) (n := 5) (Nat.le_of_ble_eq_true rfl)
  rw [lg_entry_eq]
  generalize (lg_sl ([.ref a, .int 0, .int p1]) ++ List.replicate (5 - (lg_sl ([.ref a, .int 0, .int p1])).length) Slot.unset).toArray = ls at hl ⊢
  have hl : lv_has ls 5 [(0, .ref a), (1, .int 0), (2, .int p1)] := hl
  obtain ⟨H, eH⟩ : ∃ z, z = s.heap := ⟨_, rfl⟩
  have hP : va_P D classes [(a, .inr (7, [.ref a_bytes, .int a__length, .int a__place, .int a__fault])), (a_bytes, .inl (cs 0, 400, .inl a_bytes_c))] H := by rw [eH]; exact hP
  have hS : va_S A s.heap H [] := by rw [eH]; exact hS
  rw [← eH]
  clear eH
  obtain ⟨locs, el⟩ : ∃ z : List Loc, z = [] := ⟨_, rfl⟩
  rw [← el] at hS ⊢
  clear el
  have K133 : ∀ (k133_L_4 : Int32) (k133_L_3 : Int32) (k133_F_a_2 : Int32), IV 0 400 k133_F_a_2 → IV 0 400 k133_L_3 → ∀ (H : Heap) (locs : List Loc), va_P D classes [(a, .inr (7, [.ref a_bytes, .int a__length, .int k133_F_a_2, .int a__fault])), (a_bytes, .inl (cs 0, 400, .inl a_bytes_c))] H → va_D A [(a, .inr (7, [.ref a_bytes, .int a__length, .int k133_F_a_2, .int a__fault])), (a_bytes, .inl (cs 0, 400, .inl a_bytes_c))] → va_S A s.heap H locs → ∀ ls : Array Slot, lv_has ls 5 [(4, .int k133_L_4), (3, .int k133_L_3), (0, .ref a), (1, .int 0), (2, .int p1)] → W p l e (headSpec (hz_w yX7_takeNumber cX7_takeNumber 5 (some .int)) ({ frames := 1, cells := 0, slots := 0, locals := 22 })).room s m [.ref a, .int 0, .int p1].toArray below meth c H locs 0 0 (MQ below (va_Qi (fun (r : Int32) (u : (Nat → Int32) × (Nat → Nat → Int32)) => (IV 0 7 r ∧ IV 0 3205 (u.1 0) ∧ IV 0 7 p1 ∧ IV 0 400 (u.1 1)) ∨ (IV 1 3205 (u.1 0) ∧ IV 0 400 (u.1 1))) (fun u t => va_P D classes [(a, .inr (7, [.ref a_bytes, .int a__length, .int (u.1 1), .int (u.1 0)])), (a_bytes, .inl (cs 0, 400, .inl a_bytes_c))] t.heap ∧ va_D A [(a, .inr (7, [.ref a_bytes, .int a__length, .int (u.1 1), .int (u.1 0)])), (a_bytes, .inl (cs 0, 400, .inl a_bytes_c))]) A) [.ref a, .int 0, .int p1].toArray s 0 0 A) (F0 m 133 ls []) := by
    intro k133_L_4 k133_L_3 k133_F_a_2 q133_2 q133_3 H locs hP hD hS ls hl
    refine lv_aload_n hx hb dX7_takeNumber_133 rfl (lv_at hl 2 rfl) ?_
    refine lv_iload_n hx hb dX7_takeNumber_134 rfl (lv_at hl 1 rfl) ?_
    refine lv_iconst (v := 1) hx hb dX7_takeNumber_135 (by decide) ?_
    have hFc := va_free (wc := [(a, .inr (7, [.ref a_bytes, .int a__length, .int k133_F_a_2, .int a__fault]))]) hD hS hA [0] rfl
    refine va_callv (va_runV (As := [.int k133_L_3, .int 1]) (rest := []) ⟨hx, hb, hml, hown, hT⟩ (c_X7_fail l D cs kK kV a k133_L_3 1 a_bytes a__length k133_F_a_2 a__fault q133_3 ((iv_c (by decide))) h_a__fault H.size) (cwV 2 hT (hz_gV q_633 q_445 q_446 q_221 q_447) rfl rfl rfl (by decide +kernel) ⟨(Nat.le_of_ble_eq_true rfl), (Nat.le_of_ble_eq_true rfl)⟩) ⟨hz_C.blind, va_recv hK hP (ci := 7) (q0 := 0) rfl rfl, hz_C.mk (hP.sub (ws' := [(a, .inr (7, [.ref a_bytes, .int a__length, .int k133_F_a_2, .int a__fault]))]) [0] rfl) (hD.sub (ws' := [(a, .inr (7, [.ref a_bytes, .int a__length, .int k133_F_a_2, .int a__fault]))]) [0] (by decide) rfl) hE hS hFc⟩ rfl rfl hl.1 rfl (lv_room (Nat.le_of_ble_eq_true rfl)) dX7_takeNumber_136 ⟨(Nat.le_of_ble_eq_true rfl), (Nat.le_of_ble_eq_true rfl)⟩) hS (fun q _ h => hFc q h) hFc (fun o2 t H1 locs ht hvm hw hB hz1 hk1 hS => ?_)
    obtain ⟨hP1, hD1⟩ := hB
    rw [ht] at hP1
    obtain ⟨hP, hD⟩ := va_join (wr := [(a_bytes, .inl (cs 0, 400, .inl a_bytes_c))]) (w1 := [(a, .inr (7, [.ref a_bytes, .int a__length, .int k133_F_a_2, .int (o2.1 0)]))]) hP hD [0] [1] rfl rfl (by decide) (by decide) hk1 hFc hP1 hD1
    generalize H1 = H at hP hS ⊢
    have hP : va_P D classes [(a_bytes, .inl (cs 0, 400, .inl a_bytes_c)), (a, .inr (7, [.ref a_bytes, .int a__length, .int k133_F_a_2, .int (o2.1 0)]))] H := hP
    have hD : va_D A [(a_bytes, .inl (cs 0, 400, .inl a_bytes_c)), (a, .inr (7, [.ref a_bytes, .int a__length, .int k133_F_a_2, .int (o2.1 0)]))] := hD
    clear hk1 hFc hP1 hD1 hz1
    have h3 := hw
    refine lv_iload hx hb dX7_takeNumber_139 (lv_at hl 0 rfl) ?_
    refine W.widen (k := 0) (n := 0) (Nat.le_of_ble_eq_true rfl) (Nat.le_of_ble_eq_true rfl) ?_
    exact W.iret (v := k133_L_4) hx hb hr (fun t ht hW => ⟨⟨k133_L_4, (fun k => match k with | 0 => o2.1 0 | 1 => k133_F_a_2 | _ => 0, fun _ _ => 0), rfl, (Or.inr ((⟨h3, q133_2⟩))), by rw [ht]; exact hP.sub [1, 0] rfl, hD.sub [1, 0] (by decide) rfl⟩, hS.F ht⟩) hS.2.2 dX7_takeNumber_141
  have K94 : ∀ (k94_L_4 : Int32) (k94_L_3 : Int32) (k94_F_a_2 : Int32), IV 0 400 k94_F_a_2 → IV 0 400 k94_L_3 → ∀ (H : Heap) (locs : List Loc), va_P D classes [(a, .inr (7, [.ref a_bytes, .int a__length, .int k94_F_a_2, .int a__fault])), (a_bytes, .inl (cs 0, 400, .inl a_bytes_c))] H → va_D A [(a, .inr (7, [.ref a_bytes, .int a__length, .int k94_F_a_2, .int a__fault])), (a_bytes, .inl (cs 0, 400, .inl a_bytes_c))] → va_S A s.heap H locs → ∀ ls : Array Slot, lv_has ls 5 [(4, .int k94_L_4), (3, .int k94_L_3), (0, .ref a), (1, .int 0), (2, .int p1)] → W p l e (headSpec (hz_w yX7_takeNumber cX7_takeNumber 5 (some .int)) ({ frames := 1, cells := 0, slots := 0, locals := 22 })).room s m [.ref a, .int 0, .int p1].toArray below meth c H locs 0 0 (MQ below (va_Qi (fun (r : Int32) (u : (Nat → Int32) × (Nat → Nat → Int32)) => (IV 0 7 r ∧ IV 0 3205 (u.1 0) ∧ IV 0 7 p1 ∧ IV 0 400 (u.1 1)) ∨ (IV 1 3205 (u.1 0) ∧ IV 0 400 (u.1 1))) (fun u t => va_P D classes [(a, .inr (7, [.ref a_bytes, .int a__length, .int (u.1 1), .int (u.1 0)])), (a_bytes, .inl (cs 0, 400, .inl a_bytes_c))] t.heap ∧ va_D A [(a, .inr (7, [.ref a_bytes, .int a__length, .int (u.1 1), .int (u.1 0)])), (a_bytes, .inl (cs 0, 400, .inl a_bytes_c))]) A) [.ref a, .int 0, .int p1].toArray s 0 0 A) (F0 m 94 ls []) := by
    intro k94_L_4 k94_L_3 k94_F_a_2 q94_2 q94_3 H locs hP hD hS ls hl
    refine lv_aload_n hx hb dX7_takeNumber_94 rfl (lv_at hl 2 rfl) ?_
    refine va_get (D := D) (ci := 7) (v := .int k94_F_a_2) (C := RX7) (T := TX7) (N := 4) hx hb hT i_X7 hown hK hP 0 rfl rfl 2 (by decide) (hT _ q_129) (fun _ h9 => h9) rfl dX7_takeNumber_95 ?_
    refine lv_iload_n hx hb dX7_takeNumber_98 rfl (lv_at hl 1 rfl) ?_
    refine lv_icmp_ne (tgt := 111) hx hb dX7_takeNumber_99 (by decide) (fun c4 => ?_) (fun c4 => ?_)
    · refine lv_aload_n hx hb dX7_takeNumber_111 rfl (lv_at hl 2 rfl) ?_
      refine va_get (D := D) (ci := 7) (v := .int k94_F_a_2) (C := RX7) (T := TX7) (N := 4) hx hb hT i_X7 hown hK hP 0 rfl rfl 2 (by decide) (hT _ q_129) (fun _ h9 => h9) rfl dX7_takeNumber_112 ?_
      refine lv_iload_n hx hb dX7_takeNumber_115 rfl (lv_at hl 1 rfl) ?_
      refine lv_isub hx hb dX7_takeNumber_116 ?_
      refine lv_topi (fun v5 ev5 => ?_)
      have hv5 : IV (-400) 400 v5 := iv_sub ev5 q94_2 q94_3 (by decide) (by decide)
      refine lv_iconst (v := 5) hx hb dX7_takeNumber_117 (by decide) ?_
      refine lv_icmp_gt (tgt := 133) hx hb dX7_takeNumber_118 (by decide) (fun c6 => ?_) (fun c6 => ?_)
      · have h7 : IV 6 400 v5 := iv_lt2 c6 (iv_c (a := 5) (b := 5) (by decide)) hv5 (by decide)
        exact K133 k94_L_4 k94_L_3 k94_F_a_2 q94_2 q94_3 H locs (hP.sub (ws' := [(a, .inr (7, [.ref a_bytes, .int a__length, .int k94_F_a_2, .int a__fault])), (a_bytes, .inl (cs 0, 400, .inl a_bytes_c))]) [0, 1] rfl) (hD.sub (ws' := [(a, .inr (7, [.ref a_bytes, .int a__length, .int k94_F_a_2, .int a__fault])), (a_bytes, .inl (cs 0, 400, .inl a_bytes_c))]) [0, 1] (by decide) rfl) hS ls (lv_sub hl [0, 1, 2, 3, 4] rfl)
      · have h8 : IV (-400) 5 v5 := iv_le1 (Int32.not_lt.mp c6) hv5 (iv_c (a := 5) (b := 5) (by decide)) (by decide)
        refine lv_iload hx hb dX7_takeNumber_121 (lv_at hl 0 rfl) ?_
        refine lv_iload_n hx hb dX7_takeNumber_123 rfl (lv_at hl 3 rfl) ?_
        refine lv_icmp_lt (tgt := 133) hx hb dX7_takeNumber_124 (by decide) (fun c9 => ?_) (fun c9 => ?_)
        · have h10 : IV (-2147483648) (-1) k94_L_4 := iv_lt1 c9 iv_top (iv_c (a := 0) (b := 0) (by decide)) (by decide)
          exact K133 k94_L_4 k94_L_3 k94_F_a_2 q94_2 q94_3 H locs (hP.sub (ws' := [(a, .inr (7, [.ref a_bytes, .int a__length, .int k94_F_a_2, .int a__fault])), (a_bytes, .inl (cs 0, 400, .inl a_bytes_c))]) [0, 1] rfl) (hD.sub (ws' := [(a, .inr (7, [.ref a_bytes, .int a__length, .int k94_F_a_2, .int a__fault])), (a_bytes, .inl (cs 0, 400, .inl a_bytes_c))]) [0, 1] (by decide) rfl) hS ls (lv_sub hl [0, 1, 2, 3, 4] rfl)
        · have h11 : IV 0 2147483647 k94_L_4 := iv_le2 (Int32.not_lt.mp c9) (iv_c (a := 0) (b := 0) (by decide)) iv_top (by decide)
          refine lv_iload hx hb dX7_takeNumber_127 (lv_at hl 0 rfl) ?_
          refine lv_iload_n hx hb dX7_takeNumber_129 rfl (lv_at hl 4 rfl) ?_
          refine lv_icmp_le (tgt := 139) hx hb dX7_takeNumber_130 (by decide) (fun c12 => ?_) (fun c12 => ?_)
          · have h13 : IV 0 7 k94_L_4 := iv_le1 c12 h11 h_p1 (by decide)
            have h14 : IV 0 7 p1 := iv_le2 c12 h11 h_p1 (by decide)
            refine lv_iload hx hb dX7_takeNumber_139 (lv_at hl 0 rfl) ?_
            refine W.widen (k := 0) (n := 0) (Nat.le_of_ble_eq_true rfl) (Nat.le_of_ble_eq_true rfl) ?_
            exact W.iret (v := k94_L_4) hx hb hr (fun t ht hW => ⟨⟨k94_L_4, (fun k => match k with | 0 => a__fault | 1 => k94_F_a_2 | _ => 0, fun _ _ => 0), rfl, (Or.inl (⟨h13, h_a__fault, h14, q94_2⟩)), by rw [ht]; exact hP.sub [0, 1] rfl, hD.sub [0, 1] (by decide) rfl⟩, hS.F ht⟩) hS.2.2 dX7_takeNumber_141
          · exact K133 k94_L_4 k94_L_3 k94_F_a_2 q94_2 q94_3 H locs (hP.sub (ws' := [(a, .inr (7, [.ref a_bytes, .int a__length, .int k94_F_a_2, .int a__fault])), (a_bytes, .inl (cs 0, 400, .inl a_bytes_c))]) [0, 1] rfl) (hD.sub (ws' := [(a, .inr (7, [.ref a_bytes, .int a__length, .int k94_F_a_2, .int a__fault])), (a_bytes, .inl (cs 0, 400, .inl a_bytes_c))]) [0, 1] (by decide) rfl) hS ls (lv_sub hl [0, 1, 2, 3, 4] rfl)
    · refine lv_aload_n hx hb dX7_takeNumber_102 rfl (lv_at hl 2 rfl) ?_
      refine lv_iload_n hx hb dX7_takeNumber_103 rfl (lv_at hl 1 rfl) ?_
      refine lv_iconst (v := 0) hx hb dX7_takeNumber_104 (by decide) ?_
      have hFc := va_free (wc := [(a, .inr (7, [.ref a_bytes, .int a__length, .int k94_F_a_2, .int a__fault]))]) hD hS hA [0] rfl
      refine va_callv (va_runV (As := [.int k94_L_3, .int 0]) (rest := []) ⟨hx, hb, hml, hown, hT⟩ (c_X7_fail l D cs kK kV a k94_L_3 0 a_bytes a__length k94_F_a_2 a__fault q94_3 ((iv_c (by decide))) h_a__fault H.size) (cwV 2 hT (hz_gV q_633 q_445 q_446 q_221 q_447) rfl rfl rfl (by decide +kernel) ⟨(Nat.le_of_ble_eq_true rfl), (Nat.le_of_ble_eq_true rfl)⟩) ⟨hz_C.blind, va_recv hK hP (ci := 7) (q0 := 0) rfl rfl, hz_C.mk (hP.sub (ws' := [(a, .inr (7, [.ref a_bytes, .int a__length, .int k94_F_a_2, .int a__fault]))]) [0] rfl) (hD.sub (ws' := [(a, .inr (7, [.ref a_bytes, .int a__length, .int k94_F_a_2, .int a__fault]))]) [0] (by decide) rfl) hE hS hFc⟩ rfl rfl hl.1 rfl (lv_room (Nat.le_of_ble_eq_true rfl)) dX7_takeNumber_105 ⟨(Nat.le_of_ble_eq_true rfl), (Nat.le_of_ble_eq_true rfl)⟩) hS (fun q _ h => hFc q h) hFc (fun o16 t H1 locs ht hvm hw hB hz1 hk1 hS => ?_)
      obtain ⟨hP1, hD1⟩ := hB
      rw [ht] at hP1
      obtain ⟨hP, hD⟩ := va_join (wr := [(a_bytes, .inl (cs 0, 400, .inl a_bytes_c))]) (w1 := [(a, .inr (7, [.ref a_bytes, .int a__length, .int k94_F_a_2, .int (o16.1 0)]))]) hP hD [0] [1] rfl rfl (by decide) (by decide) hk1 hFc hP1 hD1
      generalize H1 = H at hP hS ⊢
      have hP : va_P D classes [(a_bytes, .inl (cs 0, 400, .inl a_bytes_c)), (a, .inr (7, [.ref a_bytes, .int a__length, .int k94_F_a_2, .int (o16.1 0)]))] H := hP
      have hD : va_D A [(a_bytes, .inl (cs 0, 400, .inl a_bytes_c)), (a, .inr (7, [.ref a_bytes, .int a__length, .int k94_F_a_2, .int (o16.1 0)]))] := hD
      clear hk1 hFc hP1 hD1 hz1
      have h17 := hw
      refine lv_goto (tgt := 139) hx hb dX7_takeNumber_108 (by decide) ?_
      refine lv_iload hx hb dX7_takeNumber_139 (lv_at hl 0 rfl) ?_
      refine W.widen (k := 0) (n := 0) (Nat.le_of_ble_eq_true rfl) (Nat.le_of_ble_eq_true rfl) ?_
      exact W.iret (v := k94_L_4) hx hb hr (fun t ht hW => ⟨⟨k94_L_4, (fun k => match k with | 0 => o16.1 0 | 1 => k94_F_a_2 | _ => 0, fun _ _ => 0), rfl, (Or.inr ((⟨h17, q94_2⟩))), by rw [ht]; exact hP.sub [1, 0] rfl, hD.sub [1, 0] (by decide) rfl⟩, hS.F ht⟩) hS.2.2 dX7_takeNumber_141
  have K12 : ∀ (n : Nat) (k12_L_4 : Int32) (k12_L_3 : Int32) (k12_F_a_2 : Int32), (400 - k12_F_a_2.toInt + 1).toNat ≤ n → IV 0 400 k12_F_a_2 → IV 0 400 k12_L_3 → ∀ (H : Heap) (locs : List Loc), va_P D classes [(a, .inr (7, [.ref a_bytes, .int a__length, .int k12_F_a_2, .int a__fault])), (a_bytes, .inl (cs 0, 400, .inl a_bytes_c))] H → va_D A [(a, .inr (7, [.ref a_bytes, .int a__length, .int k12_F_a_2, .int a__fault])), (a_bytes, .inl (cs 0, 400, .inl a_bytes_c))] → va_S A s.heap H locs → ∀ ls : Array Slot, lv_has ls 5 [(4, .int k12_L_4), (3, .int k12_L_3), (0, .ref a), (1, .int 0), (2, .int p1)] → W p l e (headSpec (hz_w yX7_takeNumber cX7_takeNumber 5 (some .int)) ({ frames := 1, cells := 0, slots := 0, locals := 22 })).room s m [.ref a, .int 0, .int p1].toArray below meth c H locs 0 0 (MQ below (va_Qi (fun (r : Int32) (u : (Nat → Int32) × (Nat → Nat → Int32)) => (IV 0 7 r ∧ IV 0 3205 (u.1 0) ∧ IV 0 7 p1 ∧ IV 0 400 (u.1 1)) ∨ (IV 1 3205 (u.1 0) ∧ IV 0 400 (u.1 1))) (fun u t => va_P D classes [(a, .inr (7, [.ref a_bytes, .int a__length, .int (u.1 1), .int (u.1 0)])), (a_bytes, .inl (cs 0, 400, .inl a_bytes_c))] t.heap ∧ va_D A [(a, .inr (7, [.ref a_bytes, .int a__length, .int (u.1 1), .int (u.1 0)])), (a_bytes, .inl (cs 0, 400, .inl a_bytes_c))]) A) [.ref a, .int 0, .int p1].toArray s 0 0 A) (F0 m 12 ls []) := by
    intro n
    induction n with
    | zero =>
      intro k12_L_4 k12_L_3 k12_F_a_2 hn q12_2 q12_3 H locs hP hD hS ls hl
      exact absurd hn (by unfold IV at q12_2; omega)
    | succ n ih12 =>
      intro k12_L_4 k12_L_3 k12_F_a_2 hn q12_2 q12_3 H locs hP hD hS ls hl
      have K81 : ∀ (k81_L_4 : Int32), IV 1 400 a__length → IV 0 399 k12_F_a_2 → IV 0 400 k12_L_3 → ∀ (H : Heap) (locs : List Loc), va_P D classes [(a, .inr (7, [.ref a_bytes, .int a__length, .int k12_F_a_2, .int a__fault])), (a_bytes, .inl (cs 0, 400, .inl a_bytes_c))] H → va_D A [(a, .inr (7, [.ref a_bytes, .int a__length, .int k12_F_a_2, .int a__fault])), (a_bytes, .inl (cs 0, 400, .inl a_bytes_c))] → va_S A s.heap H locs → ∀ ls : Array Slot, lv_has ls 5 [(4, .int k81_L_4), (3, .int k12_L_3), (0, .ref a), (1, .int 0), (2, .int p1)] → W p l e (headSpec (hz_w yX7_takeNumber cX7_takeNumber 5 (some .int)) ({ frames := 1, cells := 0, slots := 0, locals := 22 })).room s m [.ref a, .int 0, .int p1].toArray below meth c H locs 0 0 (MQ below (va_Qi (fun (r : Int32) (u : (Nat → Int32) × (Nat → Nat → Int32)) => (IV 0 7 r ∧ IV 0 3205 (u.1 0) ∧ IV 0 7 p1 ∧ IV 0 400 (u.1 1)) ∨ (IV 1 3205 (u.1 0) ∧ IV 0 400 (u.1 1))) (fun u t => va_P D classes [(a, .inr (7, [.ref a_bytes, .int a__length, .int (u.1 1), .int (u.1 0)])), (a_bytes, .inl (cs 0, 400, .inl a_bytes_c))] t.heap ∧ va_D A [(a, .inr (7, [.ref a_bytes, .int a__length, .int (u.1 1), .int (u.1 0)])), (a_bytes, .inl (cs 0, 400, .inl a_bytes_c))]) A) [.ref a, .int 0, .int p1].toArray s 0 0 A) (F0 m 81 ls []) := by
        intro k81_L_4 q81_1 q81_2 q81_3 H locs hP hD hS ls hl
        refine lv_aload_n hx hb dX7_takeNumber_81 rfl (lv_at hl 2 rfl) ?_
        refine lv_dup hx hb dX7_takeNumber_82 rfl ?_
        refine va_get (D := D) (ci := 7) (v := .int k12_F_a_2) (C := RX7) (T := TX7) (N := 4) hx hb hT i_X7 hown hK hP 0 rfl rfl 2 (by decide) (hT _ q_129) (fun _ h9 => h9) rfl dX7_takeNumber_83 ?_
        refine lv_iconst (v := 1) hx hb dX7_takeNumber_86 (by decide) ?_
        refine lv_iadd hx hb dX7_takeNumber_87 ?_
        refine lv_topi (fun v18 ev18 => ?_)
        have hv18 : IV 1 400 v18 := iv_add ev18 q81_2 (iv_c (a := 1) (b := 1) (by decide)) (by decide) (by decide)
        have dv18 : v18.toInt = k12_F_a_2.toInt + 1 := iv_addE ev18 q81_2 (iv_c (a := 1) (b := 1) (by decide)) (by decide) (by decide) (by decide)
        refine va_put (D := D) (ci := 7) (v := .int v18) (ty := .int) (C := RX7) (T := TX7) (N := 4) hx hb hT i_X7 tyX7 tyX7_ok nmX7 hown hK hP hD hS 0 rfl rfl 2 (by decide) (hT _ q_129) (fun _ h9 => h9) rfl (by decide +kernel) rfl rfl (Nat.le_of_ble_eq_true rfl) dX7_takeNumber_88 (fun H locs hP hD hS => ?_)
        have hP : va_P D classes [(a, .inr (7, [.ref a_bytes, .int a__length, .int v18, .int a__fault])), (a_bytes, .inl (cs 0, 400, .inl a_bytes_c))] H := hP
        have hD : va_D A [(a, .inr (7, [.ref a_bytes, .int a__length, .int v18, .int a__fault])), (a_bytes, .inl (cs 0, 400, .inl a_bytes_c))] := hD
        refine lv_goto (tgt := 12) hx hb dX7_takeNumber_91 (by decide) ?_
        exact ih12 k81_L_4 k12_L_3 v18 (by have h9 := q81_2; unfold IV at h9; have := dv18; omega) (iv_w hv18 (by decide) (by decide)) q81_3 H locs (hP.sub (ws' := [(a, .inr (7, [.ref a_bytes, .int a__length, .int v18, .int a__fault])), (a_bytes, .inl (cs 0, 400, .inl a_bytes_c))]) [0, 1] rfl) (hD.sub (ws' := [(a, .inr (7, [.ref a_bytes, .int a__length, .int v18, .int a__fault])), (a_bytes, .inl (cs 0, 400, .inl a_bytes_c))]) [0, 1] (by decide) rfl) hS ls (lv_sub hl [0, 1, 2, 3, 4] rfl)
      refine lv_aload_n hx hb dX7_takeNumber_12 rfl (lv_at hl 2 rfl) ?_
      refine va_get (D := D) (ci := 7) (v := .int k12_F_a_2) (C := RX7) (T := TX7) (N := 4) hx hb hT i_X7 hown hK hP 0 rfl rfl 2 (by decide) (hT _ q_129) (fun _ h9 => h9) rfl dX7_takeNumber_13 ?_
      refine lv_aload_n hx hb dX7_takeNumber_16 rfl (lv_at hl 2 rfl) ?_
      refine va_get (D := D) (ci := 7) (v := .int a__length) (C := RX7) (T := TX7) (N := 4) hx hb hT i_X7 hown hK hP 0 rfl rfl 1 (by decide) (hT _ q_128) (fun _ h9 => h9) rfl dX7_takeNumber_17 ?_
      refine lv_icmp_ge (tgt := 94) hx hb dX7_takeNumber_20 (by decide) (fun c19 => ?_) (fun c19 => ?_)
      · exact K94 k12_L_4 k12_L_3 k12_F_a_2 q12_2 q12_3 H locs (hP.sub (ws' := [(a, .inr (7, [.ref a_bytes, .int a__length, .int k12_F_a_2, .int a__fault])), (a_bytes, .inl (cs 0, 400, .inl a_bytes_c))]) [0, 1] rfl) (hD.sub (ws' := [(a, .inr (7, [.ref a_bytes, .int a__length, .int k12_F_a_2, .int a__fault])), (a_bytes, .inl (cs 0, 400, .inl a_bytes_c))]) [0, 1] (by decide) rfl) hS ls (lv_sub hl [0, 1, 2, 3, 4] rfl)
      · have h20 : IV 0 399 k12_F_a_2 := iv_lt1 (Int32.not_le.mp c19) q12_2 h_a__length (by decide)
        have h21 : IV 1 400 a__length := iv_lt2 (Int32.not_le.mp c19) q12_2 h_a__length (by decide)
        refine lv_aload_n hx hb dX7_takeNumber_23 rfl (lv_at hl 2 rfl) ?_
        refine va_get (D := D) (ci := 7) (v := .ref a_bytes) (C := RX7) (T := TX7) (N := 4) hx hb hT i_X7 hown hK hP 0 rfl rfl 0 (by decide) (hT _ q_127) (fun _ h9 => h9) rfl dX7_takeNumber_24 ?_
        refine lv_aload_n hx hb dX7_takeNumber_27 rfl (lv_at hl 2 rfl) ?_
        refine va_get (D := D) (ci := 7) (v := .int k12_F_a_2) (C := RX7) (T := TX7) (N := 4) hx hb hT i_X7 hown hK hP 0 rfl rfl 2 (by decide) (hT _ q_129) (fun _ h9 => h9) rfl dX7_takeNumber_28 ?_
        refine va_iald hx hb hK hP 1 0 rfl rfl (iv_v h20 (by decide) (by decide)) dX7_takeNumber_31 ?_
        refine lv_topi (fun v22 ev22 => ?_)
        have hv22 : IV 0 255 v22 := iv_ci ev22 h_a_bytes_c (iv_v h20 (by decide) (by decide))
        refine lv_bipush (v := 48) hx hb dX7_takeNumber_32 (by decide) ?_
        refine lv_icmp_lt (tgt := 94) hx hb dX7_takeNumber_34 (by decide) (fun c23 => ?_) (fun c23 => ?_)
        · have h24 : IV 0 47 v22 := iv_lt1 c23 hv22 (iv_c (a := 48) (b := 48) (by decide)) (by decide)
          exact K94 k12_L_4 k12_L_3 k12_F_a_2 (iv_w h20 (by decide) (by decide)) q12_3 H locs (hP.sub (ws' := [(a, .inr (7, [.ref a_bytes, .int a__length, .int k12_F_a_2, .int a__fault])), (a_bytes, .inl (cs 0, 400, .inl a_bytes_c))]) [0, 1] rfl) (hD.sub (ws' := [(a, .inr (7, [.ref a_bytes, .int a__length, .int k12_F_a_2, .int a__fault])), (a_bytes, .inl (cs 0, 400, .inl a_bytes_c))]) [0, 1] (by decide) rfl) hS ls (lv_sub hl [0, 1, 2, 3, 4] rfl)
        · have h25 : IV 48 255 v22 := iv_le2 (Int32.not_lt.mp c23) (iv_c (a := 48) (b := 48) (by decide)) hv22 (by decide)
          refine lv_aload_n hx hb dX7_takeNumber_37 rfl (lv_at hl 2 rfl) ?_
          refine va_get (D := D) (ci := 7) (v := .ref a_bytes) (C := RX7) (T := TX7) (N := 4) hx hb hT i_X7 hown hK hP 0 rfl rfl 0 (by decide) (hT _ q_127) (fun _ h9 => h9) rfl dX7_takeNumber_38 ?_
          refine lv_aload_n hx hb dX7_takeNumber_41 rfl (lv_at hl 2 rfl) ?_
          refine va_get (D := D) (ci := 7) (v := .int k12_F_a_2) (C := RX7) (T := TX7) (N := 4) hx hb hT i_X7 hown hK hP 0 rfl rfl 2 (by decide) (hT _ q_129) (fun _ h9 => h9) rfl dX7_takeNumber_42 ?_
          refine va_iald hx hb hK hP 1 0 rfl rfl (iv_v h20 (by decide) (by decide)) dX7_takeNumber_45 ?_
          refine hz_ev v22 ev22.symm ?_
          refine lv_bipush (v := 57) hx hb dX7_takeNumber_46 (by decide) ?_
          refine lv_icmp_gt (tgt := 94) hx hb dX7_takeNumber_48 (by decide) (fun c26 => ?_) (fun c26 => ?_)
          · have h27 : IV 58 255 v22 := iv_lt2 c26 (iv_c (a := 57) (b := 57) (by decide)) h25 (by decide)
            exact K94 k12_L_4 k12_L_3 k12_F_a_2 (iv_w h20 (by decide) (by decide)) q12_3 H locs (hP.sub (ws' := [(a, .inr (7, [.ref a_bytes, .int a__length, .int k12_F_a_2, .int a__fault])), (a_bytes, .inl (cs 0, 400, .inl a_bytes_c))]) [0, 1] rfl) (hD.sub (ws' := [(a, .inr (7, [.ref a_bytes, .int a__length, .int k12_F_a_2, .int a__fault])), (a_bytes, .inl (cs 0, 400, .inl a_bytes_c))]) [0, 1] (by decide) rfl) hS ls (lv_sub hl [0, 1, 2, 3, 4] rfl)
          · have h28 : IV 48 57 v22 := iv_le1 (Int32.not_lt.mp c26) h25 (iv_c (a := 57) (b := 57) (by decide)) (by decide)
            refine lv_aload_n hx hb dX7_takeNumber_51 rfl (lv_at hl 2 rfl) ?_
            refine va_get (D := D) (ci := 7) (v := .int k12_F_a_2) (C := RX7) (T := TX7) (N := 4) hx hb hT i_X7 hown hK hP 0 rfl rfl 2 (by decide) (hT _ q_129) (fun _ h9 => h9) rfl dX7_takeNumber_52 ?_
            refine lv_iload_n hx hb dX7_takeNumber_55 rfl (lv_at hl 1 rfl) ?_
            refine lv_isub hx hb dX7_takeNumber_56 ?_
            refine lv_topi (fun v29 ev29 => ?_)
            have hv29 : IV (-400) 399 v29 := iv_sub ev29 h20 q12_3 (by decide) (by decide)
            refine lv_iconst (v := 5) hx hb dX7_takeNumber_57 (by decide) ?_
            refine lv_icmp_ge (tgt := 81) hx hb dX7_takeNumber_58 (by decide) (fun c30 => ?_) (fun c30 => ?_)
            · have h31 : IV 5 399 v29 := iv_le2 c30 (iv_c (a := 5) (b := 5) (by decide)) hv29 (by decide)
              exact K81 k12_L_4 h21 h20 q12_3 H locs (hP.sub (ws' := [(a, .inr (7, [.ref a_bytes, .int a__length, .int k12_F_a_2, .int a__fault])), (a_bytes, .inl (cs 0, 400, .inl a_bytes_c))]) [0, 1] rfl) (hD.sub (ws' := [(a, .inr (7, [.ref a_bytes, .int a__length, .int k12_F_a_2, .int a__fault])), (a_bytes, .inl (cs 0, 400, .inl a_bytes_c))]) [0, 1] (by decide) rfl) hS ls (lv_sub hl [0, 1, 2, 3, 4] rfl)
            · have h32 : IV (-400) 4 v29 := iv_lt1 (Int32.not_le.mp c30) hv29 (iv_c (a := 5) (b := 5) (by decide)) (by decide)
              refine lv_iload hx hb dX7_takeNumber_61 (lv_at hl 0 rfl) ?_
              refine lv_bipush (v := 10) hx hb dX7_takeNumber_63 (by decide) ?_
              refine lv_imul hx hb dX7_takeNumber_65 ?_
              refine lv_topi (fun v33 ev33 => ?_)
              refine lv_aload_n hx hb dX7_takeNumber_66 rfl (lv_at hl 2 rfl) ?_
              refine va_get (D := D) (ci := 7) (v := .ref a_bytes) (C := RX7) (T := TX7) (N := 4) hx hb hT i_X7 hown hK hP 0 rfl rfl 0 (by decide) (hT _ q_127) (fun _ h9 => h9) rfl dX7_takeNumber_67 ?_
              refine lv_aload_n hx hb dX7_takeNumber_70 rfl (lv_at hl 2 rfl) ?_
              refine va_get (D := D) (ci := 7) (v := .int k12_F_a_2) (C := RX7) (T := TX7) (N := 4) hx hb hT i_X7 hown hK hP 0 rfl rfl 2 (by decide) (hT _ q_129) (fun _ h9 => h9) rfl dX7_takeNumber_71 ?_
              refine va_iald hx hb hK hP 1 0 rfl rfl (iv_v h20 (by decide) (by decide)) dX7_takeNumber_74 ?_
              refine hz_ev v22 ev22.symm ?_
              refine lv_iadd hx hb dX7_takeNumber_75 ?_
              refine lv_topi (fun v34 ev34 => ?_)
              refine lv_bipush (v := 48) hx hb dX7_takeNumber_76 (by decide) ?_
              refine lv_isub hx hb dX7_takeNumber_78 ?_
              refine lv_topi (fun v35 ev35 => ?_)
              refine lv_istore (lv' := [(4, .int v35), (3, .int k12_L_3), (0, .ref a), (1, .int 0), (2, .int p1)]) hx hb dX7_takeNumber_79 hl (by decide) rfl (fun ls hl => ?_)
              exact K81 v35 h21 h20 q12_3 H locs (hP.sub (ws' := [(a, .inr (7, [.ref a_bytes, .int a__length, .int k12_F_a_2, .int a__fault])), (a_bytes, .inl (cs 0, 400, .inl a_bytes_c))]) [0, 1] rfl) (hD.sub (ws' := [(a, .inr (7, [.ref a_bytes, .int a__length, .int k12_F_a_2, .int a__fault])), (a_bytes, .inl (cs 0, 400, .inl a_bytes_c))]) [0, 1] (by decide) rfl) hS ls (lv_sub hl [0, 1, 2, 3, 4] rfl)
  refine lv_aload_n hx hb dX7_takeNumber_0 rfl (lv_at hl 0 rfl) ?_
  have hFc := va_free (wc := [(a, .inr (7, [.ref a_bytes, .int a__length, .int a__place, .int a__fault])), (a_bytes, .inl (cs 0, 400, .inl a_bytes_c))]) hD hS hA [0,1] rfl
  refine va_callv (va_runV (As := []) (rest := []) ⟨hx, hb, hml, hown, hT⟩ (c_X7_skipBlanks l D cs kK kV a a_bytes a__length a__place a__fault a_bytes_c h_a__length h_a__place h_a_bytes_c H.size) (cwV 0 hT (hz_gV q_631 q_437 q_438 q_221 q_439) rfl rfl rfl (by decide +kernel) ⟨(Nat.le_of_ble_eq_true rfl), (Nat.le_of_ble_eq_true rfl)⟩) ⟨hz_C.blind, va_recv hK hP (ci := 7) (q0 := 0) rfl rfl, hz_C.mk (hP.sub (ws' := [(a, .inr (7, [.ref a_bytes, .int a__length, .int a__place, .int a__fault])), (a_bytes, .inl (cs 0, 400, .inl a_bytes_c))]) [0,1] rfl) (hD.sub (ws' := [(a, .inr (7, [.ref a_bytes, .int a__length, .int a__place, .int a__fault])), (a_bytes, .inl (cs 0, 400, .inl a_bytes_c))]) [0,1] (by decide) rfl) hE hS hFc⟩ rfl rfl hl.1 rfl (lv_room (Nat.le_of_ble_eq_true rfl)) dX7_takeNumber_1 ⟨(Nat.le_of_ble_eq_true rfl), (Nat.le_of_ble_eq_true rfl)⟩) hS (fun q _ h => hFc q h) hFc (fun u t H1 locs ht hvm hw hB hz1 hk1 hS => ?_)
  obtain ⟨o37, h38, hP1, hD1⟩ := hB
  rw [ht] at hP1
  obtain ⟨hP, hD⟩ := va_join (wr := []) (w1 := [(a, .inr (7, [.ref a_bytes, .int a__length, .int o37, .int a__fault])), (a_bytes, .inl (cs 0, 400, .inl a_bytes_c))]) hP hD [0, 1] [] rfl rfl (by decide) (by decide) hk1 hFc hP1 hD1
  generalize H1 = H at hP hS ⊢
  have hP : va_P D classes [(a, .inr (7, [.ref a_bytes, .int a__length, .int o37, .int a__fault])), (a_bytes, .inl (cs 0, 400, .inl a_bytes_c))] H := hP
  have hD : va_D A [(a, .inr (7, [.ref a_bytes, .int a__length, .int o37, .int a__fault])), (a_bytes, .inl (cs 0, 400, .inl a_bytes_c))] := hD
  clear hk1 hFc hP1 hD1 hz1
  refine lv_aload_n hx hb dX7_takeNumber_4 rfl (lv_at hl 0 rfl) ?_
  refine va_get (D := D) (ci := 7) (v := .int o37) (C := RX7) (T := TX7) (N := 4) hx hb hT i_X7 hown hK hP 0 rfl rfl 2 (by decide) (hT _ q_129) (fun _ h9 => h9) rfl dX7_takeNumber_5 ?_
  refine lv_istore_n (lv' := [(3, .int o37), (0, .ref a), (1, .int 0), (2, .int p1)]) hx hb dX7_takeNumber_8 rfl hl (by decide) rfl (fun ls hl => ?_)
  refine lv_iconst (v := 0) hx hb dX7_takeNumber_9 (by decide) ?_
  refine lv_istore (lv' := [(4, .int 0), (3, .int o37), (0, .ref a), (1, .int 0), (2, .int p1)]) hx hb dX7_takeNumber_10 hl (by decide) rfl (fun ls hl => ?_)
  exact K12 _ 0 o37 o37 (Nat.le_refl _) h38 h38 H locs (hP.sub (ws' := [(a, .inr (7, [.ref a_bytes, .int a__length, .int o37, .int a__fault])), (a_bytes, .inl (cs 0, 400, .inl a_bytes_c))]) [0, 1] rfl) (hD.sub (ws' := [(a, .inr (7, [.ref a_bytes, .int a__length, .int o37, .int a__fault])), (a_bytes, .inl (cs 0, 400, .inl a_bytes_c))]) [0, 1] (by decide) rfl) hS ls (lv_sub hl [0, 1, 2, 3, 4] rfl)
set_option maxHeartbeats 4000000 in
set_option maxRecDepth 100000 in
theorem c_X0_numberTold_60 (l : Launch) (D : va_G) (cs : Nat → ClassId) (kK kV : Nat → Nat) (a : Nat) (p1 : Int32) (a_tape : Nat) (a_told : Nat) (a__kindsTold : Int32) (a_tape_bytes : Nat) (a_tape__length : Int32) (a_tape__place : Int32) (a_tape__fault : Int32) (a_tape_bytes_c : Nat → Int32) (h_p1 : IV (-1) 7 p1) (h_a_tape__length : IV 0 400 a_tape__length) (h_a_tape__place : IV 0 400 a_tape__place) (h_a_tape__fault : IV 0 3205 a_tape__fault) (h_a_tape_bytes_c : CI 400 0 255 a_tape_bytes_c) (sz : Nat) : Met l yX0_numberTold (hz_w yX0_numberTold cX0_numberTold 3 (some .int)) ({ frames := 2, cells := 0, slots := 0, locals := 46 }) (va_Pc [.ref a, .int 0, .int p1] (hz_C D cs kK kV sz [(a, .inr (0, [.ref a_tape, .ref a_told, .int a__kindsTold])), (a_tape, .inr (7, [.ref a_tape_bytes, .int a_tape__length, .int a_tape__place, .int a_tape__fault])), (a_tape_bytes, .inl (cs 0, 400, .inl a_tape_bytes_c))])) (va_Qi (fun (r : Int32) (u : (Nat → Int32) × (Nat → Nat → Int32)) => (r = 0 ∧ IV 1 3205 (u.1 0) ∧ IV 1 3205 a_tape__fault ∧ IV 0 400 (u.1 1)) ∨ (IV 0 7 r ∧ IV 0 3205 (u.1 0) ∧ IV 0 0 a_tape__fault ∧ IV 0 7 p1 ∧ IV 0 400 (u.1 1)) ∨ (IV 1 3205 (u.1 0) ∧ IV 0 0 a_tape__fault ∧ IV 0 400 (u.1 1))) (fun u t => va_P D classes [(a, .inr (0, [.ref a_tape, .ref a_told, .int a__kindsTold])), (a_tape, .inr (7, [.ref a_tape_bytes, .int a_tape__length, .int (u.1 1), .int (u.1 0)])), (a_tape_bytes, .inl (cs 0, 400, .inl a_tape_bytes_c))] t.heap ∧ va_D (va_A [(a, .inr (0, [.ref a_tape, .ref a_told, .int a__kindsTold])), (a_tape, .inr (7, [.ref a_tape_bytes, .int a_tape__length, .int a_tape__place, .int a_tape__fault])), (a_tape_bytes, .inl (cs 0, 400, .inl a_tape_bytes_c))] sz) [(a, .inr (0, [.ref a_tape, .ref a_told, .int a__kindsTold])), (a_tape, .inr (7, [.ref a_tape_bytes, .int a_tape__length, .int (u.1 1), .int (u.1 0)])), (a_tape_bytes, .inl (cs 0, 400, .inl a_tape_bytes_c))]) (va_A [(a, .inr (0, [.ref a_tape, .ref a_told, .int a__kindsTold])), (a_tape, .inr (7, [.ref a_tape_bytes, .int a_tape__length, .int a_tape__place, .int a_tape__fault])), (a_tape_bytes, .inl (cs 0, 400, .inl a_tape_bytes_c))] sz)) 0 0 (va_A [(a, .inr (0, [.ref a_tape, .ref a_told, .int a__kindsTold])), (a_tape, .inr (7, [.ref a_tape_bytes, .int a_tape__length, .int a_tape__place, .int a_tape__fault])), (a_tape_bytes, .inl (cs 0, 400, .inl a_tape_bytes_c))] sz) := by
  refine Met.ofW (cc := cX0_numberTold) (maxL := 3) (ret := (some .int)) (by decide) rfl ?_
  intro p e s m args below meth c s₁ B hml hv
  obtain ⟨rfl, hsz, hP, hD0, hE⟩ := hv
  have hx := B.exec
  have hb := B.bytes
  have hr := B.returns
  have hT : ∀ w ∈ TB, w.before _ s = true := fun w h => atoms_spec (ws := hz_w yX0_numberTold cX0_numberTold 3 (some .int)) B.pre w (List.mem_cons_of_mem _ h)
  have hown : s.vm.findClass RX0 = some m.cls := findClass_of_methodNamed B.named
  have hlocks := B.notSynchronized
  clear B
  subst hsz
  have hD := hD0.self (sz := s.heap.size)
  generalize hAe : va_A [(a, .inr (0, [.ref a_tape, .ref a_told, .int a__kindsTold])), (a_tape, .inr (7, [.ref a_tape_bytes, .int a_tape__length, .int a_tape__place, .int a_tape__fault])), (a_tape_bytes, .inl (cs 0, 400, .inl a_tape_bytes_c))] s.heap.size = A at hD hE ⊢
  have hA : ∀ q : Nat, s.heap.size ≤ q → A q := fun q h => by rw [← hAe]; exact Or.inr h
  clear hAe hD0
  have hS : va_S A s.heap s.heap [] := va_S.rf
  have hK := hE.1
  have hl := lv_entry ([.ref a, .int 0, .int p1]) (n := 3) (Nat.le_of_ble_eq_true rfl)
  rw [lg_entry_eq]
  generalize (lg_sl ([.ref a, .int 0, .int p1]) ++ List.replicate (3 - (lg_sl ([.ref a, .int 0, .int p1])).length) Slot.unset).toArray = ls at hl ⊢
  have hl : lv_has ls 3 [(0, .ref a), (1, .int 0), (2, .int p1)] := hl
  obtain ⟨H, eH⟩ : ∃ z, z = s.heap := ⟨_, rfl⟩
  have hP : va_P D classes [(a, .inr (0, [.ref a_tape, .ref a_told, .int a__kindsTold])), (a_tape, .inr (7, [.ref a_tape_bytes, .int a_tape__length, .int a_tape__place, .int a_tape__fault])), (a_tape_bytes, .inl (cs 0, 400, .inl a_tape_bytes_c))] H := by rw [eH]; exact hP
  have hS : va_S A s.heap H [] := by rw [eH]; exact hS
  rw [← eH]
  clear eH
  obtain ⟨locs, el⟩ : ∃ z : List Loc, z = [] := ⟨_, rfl⟩
  rw [← el] at hS ⊢
  clear el
  refine lv_aload_n hx hb dX0_numberTold_0 rfl (lv_at hl 0 rfl) ?_
  refine va_get (D := D) (ci := 0) (v := .ref a_tape) (C := RX0) (T := TX0) (N := 3) hx hb hT i_X0 hown hK hP 0 rfl rfl 0 (by decide) (hT _ q_44) (fun _ h9 => h9) rfl dX0_numberTold_1 ?_
  refine va_calli (va_runV (As := []) (rest := []) ⟨hx, hb, hml, hown, hT⟩ (c_X7_isSound l D cs kK kV a_tape a_tape_bytes a_tape__length a_tape__place a_tape__fault h_a_tape__fault) (cwV 0 hT (hz_gV q_420 q_421 q_422 q_221 q_423) rfl rfl rfl (by decide +kernel) ⟨(Nat.le_of_ble_eq_true rfl), (Nat.le_of_ble_eq_true rfl)⟩) ⟨hz_P.blind, va_recv hK hP (ci := 7) (q0 := 1) rfl rfl, hz_P.mk (hP.sub (ws' := [(a_tape, .inr (7, [.ref a_tape_bytes, .int a_tape__length, .int a_tape__place, .int a_tape__fault]))]) [1] rfl) hE hS⟩ rfl rfl hl.1 rfl (lv_room (Nat.le_of_ble_eq_true rfl)) dX0_numberTold_4 ⟨(Nat.le_of_ble_eq_true rfl), (Nat.le_of_ble_eq_true rfl)⟩) hS (fun _ _ h => h.elim) (fun _ h => h.elim) (fun r1 u t H1 locs ht hvm hw hB hz1 hk1 hS => ?_)
  have hP := hz_keep hP hk1
  clear hk1 hB hz1
  generalize H1 = H at hP hS ⊢
  rcases hw with ⟨rfl, h2⟩ | ⟨rfl, h3⟩
  · refine lv_if_eq (tgt := 22) hx hb dX0_numberTold_7 (by decide) (fun _ => ?_) (fun z => absurd (by decide) z)
    refine lv_iload_n hx hb dX0_numberTold_22 rfl (lv_at hl 1 rfl) ?_
    refine W.widen (k := 0) (n := 0) (Nat.le_of_ble_eq_true rfl) (Nat.le_of_ble_eq_true rfl) ?_
    exact W.iret (v := 0) hx hb hr (fun t ht hW => ⟨⟨0, (fun k => match k with | 0 => a_tape__fault | 1 => a_tape__place | _ => 0, fun _ _ => 0), rfl, (Or.inl (⟨rfl, h2, h2, h_a_tape__place⟩)), by rw [ht]; exact hP.sub [0, 1, 2] rfl, hD.sub [0, 1, 2] (by decide) rfl⟩, hS.F ht⟩) hS.2.2 dX0_numberTold_23
  · refine lv_if_eq (tgt := 22) hx hb dX0_numberTold_7 (by decide) (fun z => absurd z (by decide)) (fun _ => ?_)
    refine lv_aload_n hx hb dX0_numberTold_10 rfl (lv_at hl 0 rfl) ?_
    refine va_get (D := D) (ci := 0) (v := .ref a_tape) (C := RX0) (T := TX0) (N := 3) hx hb hT i_X0 hown hK hP 0 rfl rfl 0 (by decide) (hT _ q_44) (fun _ h9 => h9) rfl dX0_numberTold_11 ?_
    refine lv_iload_n hx hb dX0_numberTold_14 rfl (lv_at hl 1 rfl) ?_
    refine lv_iload_n hx hb dX0_numberTold_15 rfl (lv_at hl 2 rfl) ?_
    have hFc := va_free (wc := [(a_tape, .inr (7, [.ref a_tape_bytes, .int a_tape__length, .int a_tape__place, .int a_tape__fault])), (a_tape_bytes, .inl (cs 0, 400, .inl a_tape_bytes_c))]) hD hS hA [1,2] rfl
    refine va_calli (va_runV (As := [.int 0, .int p1]) (rest := []) ⟨hx, hb, hml, hown, hT⟩ (c_X7_takeNumber_61 l D cs kK kV a_tape p1 a_tape_bytes a_tape__length a_tape__place a_tape__fault a_tape_bytes_c h_p1 h_a_tape__length h_a_tape__place ((iv_w h3 (by decide) (by decide))) h_a_tape_bytes_c H.size) (cwV 2 hT (hz_gV q_472 q_473 q_474 q_221 q_475) rfl rfl rfl (by decide +kernel) ⟨(Nat.le_of_ble_eq_true rfl), (Nat.le_of_ble_eq_true rfl)⟩) ⟨hz_C.blind, va_recv hK hP (ci := 7) (q0 := 1) rfl rfl, hz_C.mk (hP.sub (ws' := [(a_tape, .inr (7, [.ref a_tape_bytes, .int a_tape__length, .int a_tape__place, .int a_tape__fault])), (a_tape_bytes, .inl (cs 0, 400, .inl a_tape_bytes_c))]) [1,2] rfl) (hD.sub (ws' := [(a_tape, .inr (7, [.ref a_tape_bytes, .int a_tape__length, .int a_tape__place, .int a_tape__fault])), (a_tape_bytes, .inl (cs 0, 400, .inl a_tape_bytes_c))]) [1,2] (by decide) rfl) hE hS hFc⟩ rfl rfl hl.1 rfl (lv_room (Nat.le_of_ble_eq_true rfl)) dX0_numberTold_16 ⟨(Nat.le_of_ble_eq_true rfl), (Nat.le_of_ble_eq_true rfl)⟩) hS (fun q _ h => hFc q h) hFc (fun r4 o5 t H1 locs ht hvm hw hB hz1 hk1 hS => ?_)
    obtain ⟨hP1, hD1⟩ := hB
    rw [ht] at hP1
    obtain ⟨hP, hD⟩ := va_join (wr := [(a, .inr (0, [.ref a_tape, .ref a_told, .int a__kindsTold]))]) (w1 := [(a_tape, .inr (7, [.ref a_tape_bytes, .int a_tape__length, .int (o5.1 1), .int (o5.1 0)])), (a_tape_bytes, .inl (cs 0, 400, .inl a_tape_bytes_c))]) hP hD [1, 2] [0] rfl rfl (by decide) (by decide) hk1 hFc hP1 hD1
    generalize H1 = H at hP hS ⊢
    have hP : va_P D classes [(a, .inr (0, [.ref a_tape, .ref a_told, .int a__kindsTold])), (a_tape, .inr (7, [.ref a_tape_bytes, .int a_tape__length, .int (o5.1 1), .int (o5.1 0)])), (a_tape_bytes, .inl (cs 0, 400, .inl a_tape_bytes_c))] H := hP
    have hD : va_D A [(a, .inr (0, [.ref a_tape, .ref a_told, .int a__kindsTold])), (a_tape, .inr (7, [.ref a_tape_bytes, .int a_tape__length, .int (o5.1 1), .int (o5.1 0)])), (a_tape_bytes, .inl (cs 0, 400, .inl a_tape_bytes_c))] := hD
    clear hk1 hFc hP1 hD1 hz1
    rcases hw with ⟨h6, h7, h8, h9⟩ | ⟨h10, h11⟩
    · refine lv_goto (tgt := 23) hx hb dX0_numberTold_19 (by decide) ?_
      refine W.widen (k := 0) (n := 0) (Nat.le_of_ble_eq_true rfl) (Nat.le_of_ble_eq_true rfl) ?_
      exact W.iret (v := r4) hx hb hr (fun t ht hW => ⟨⟨r4, (fun k => match k with | 0 => o5.1 0 | 1 => o5.1 1 | _ => 0, fun _ _ => 0), rfl, (Or.inr (Or.inl (⟨h6, h7, h3, h8, h9⟩))), by rw [ht]; exact hP.sub [0, 1, 2] rfl, hD.sub [0, 1, 2] (by decide) rfl⟩, hS.F ht⟩) hS.2.2 dX0_numberTold_23
    · refine lv_goto (tgt := 23) hx hb dX0_numberTold_19 (by decide) ?_
      refine W.widen (k := 0) (n := 0) (Nat.le_of_ble_eq_true rfl) (Nat.le_of_ble_eq_true rfl) ?_
      exact W.iret (v := r4) hx hb hr (fun t ht hW => ⟨⟨r4, (fun k => match k with | 0 => o5.1 0 | 1 => o5.1 1 | _ => 0, fun _ _ => 0), rfl, (Or.inr (Or.inr ((⟨h10, h3, h11⟩)))), by rw [ht]; exact hP.sub [0, 1, 2] rfl, hD.sub [0, 1, 2] (by decide) rfl⟩, hS.F ht⟩) hS.2.2 dX0_numberTold_23
set_option maxHeartbeats 4000000 in
set_option maxRecDepth 100000 in
theorem c_X7_takeNumber_63 (l : Launch) (D : va_G) (cs : Nat → ClassId) (kK kV : Nat → Nat) (a : Nat) (a_bytes : Nat) (a__length : Int32) (a__place : Int32) (a__fault : Int32) (a_bytes_c : Nat → Int32) (h_a__length : IV 0 400 a__length) (h_a__place : IV 0 400 a__place) (h_a__fault : IV 0 3205 a__fault) (h_a_bytes_c : CI 400 0 255 a_bytes_c) (sz : Nat) : Met l yX7_takeNumber (hz_w yX7_takeNumber cX7_takeNumber 5 (some .int)) ({ frames := 1, cells := 0, slots := 0, locals := 22 }) (va_Pc [.ref a, .int 0, .int 99] (hz_C D cs kK kV sz [(a, .inr (7, [.ref a_bytes, .int a__length, .int a__place, .int a__fault])), (a_bytes, .inl (cs 0, 400, .inl a_bytes_c))])) (va_Qi (fun (r : Int32) (u : (Nat → Int32) × (Nat → Nat → Int32)) => (IV 0 99 r ∧ IV 0 3205 (u.1 0) ∧ IV 0 400 (u.1 1)) ∨ (IV 1 3205 (u.1 0) ∧ IV 0 400 (u.1 1))) (fun u t => va_P D classes [(a, .inr (7, [.ref a_bytes, .int a__length, .int (u.1 1), .int (u.1 0)])), (a_bytes, .inl (cs 0, 400, .inl a_bytes_c))] t.heap ∧ va_D (va_A [(a, .inr (7, [.ref a_bytes, .int a__length, .int a__place, .int a__fault])), (a_bytes, .inl (cs 0, 400, .inl a_bytes_c))] sz) [(a, .inr (7, [.ref a_bytes, .int a__length, .int (u.1 1), .int (u.1 0)])), (a_bytes, .inl (cs 0, 400, .inl a_bytes_c))]) (va_A [(a, .inr (7, [.ref a_bytes, .int a__length, .int a__place, .int a__fault])), (a_bytes, .inl (cs 0, 400, .inl a_bytes_c))] sz)) 0 0 (va_A [(a, .inr (7, [.ref a_bytes, .int a__length, .int a__place, .int a__fault])), (a_bytes, .inl (cs 0, 400, .inl a_bytes_c))] sz) := by
  refine Met.ofW (cc := cX7_takeNumber) (maxL := 5) (ret := (some .int)) (by decide) rfl ?_
  intro p e s m args below meth c s₁ B hml hv
  obtain ⟨rfl, hsz, hP, hD0, hE⟩ := hv
  have hx := B.exec
  have hb := B.bytes
  have hr := B.returns
  have hT : ∀ w ∈ TB, w.before _ s = true := fun w h => atoms_spec (ws := hz_w yX7_takeNumber cX7_takeNumber 5 (some .int)) B.pre w (List.mem_cons_of_mem _ h)
  have hown : s.vm.findClass RX7 = some m.cls := findClass_of_methodNamed B.named
  have hlocks := B.notSynchronized
  clear B
  subst hsz
  have hD := hD0.self (sz := s.heap.size)
  generalize hAe : va_A [(a, .inr (7, [.ref a_bytes, .int a__length, .int a__place, .int a__fault])), (a_bytes, .inl (cs 0, 400, .inl a_bytes_c))] s.heap.size = A at hD hE ⊢
  have hA : ∀ q : Nat, s.heap.size ≤ q → A q := fun q h => by rw [← hAe]; exact Or.inr h
  clear hAe hD0
  have hS : va_S A s.heap s.heap [] := va_S.rf
  have hK := hE.1
  have hl := lv_entry ([.ref a, .int 0, .int 99]) (n := 5) (Nat.le_of_ble_eq_true rfl)
  rw [lg_entry_eq]
  generalize (lg_sl ([.ref a, .int 0, .int 99]) ++ List.replicate (5 - (lg_sl ([.ref a, .int 0, .int 99])).length) Slot.unset).toArray = ls at hl ⊢
  have hl : lv_has ls 5 [(0, .ref a), (1, .int 0), (2, .int 99)] := hl
  obtain ⟨H, eH⟩ : ∃ z, z = s.heap := ⟨_, rfl⟩
  have hP : va_P D classes [(a, .inr (7, [.ref a_bytes, .int a__length, .int a__place, .int a__fault])), (a_bytes, .inl (cs 0, 400, .inl a_bytes_c))] H := by rw [eH]; exact hP
  have hS : va_S A s.heap H [] := by rw [eH]; exact hS
  rw [← eH]
  clear eH
  obtain ⟨locs, el⟩ : ∃ z : List Loc, z = [] := ⟨_, rfl⟩
  rw [← el] at hS ⊢
  clear el
  have K133 : ∀ (k133_L_4 : Int32) (k133_L_3 : Int32) (k133_F_a_2 : Int32), IV 0 400 k133_F_a_2 → IV 0 400 k133_L_3 → ∀ (H : Heap) (locs : List Loc), va_P D classes [(a, .inr (7, [.ref a_bytes, .int a__length, .int k133_F_a_2, .int a__fault])), (a_bytes, .inl (cs 0, 400, .inl a_bytes_c))] H → va_D A [(a, .inr (7, [.ref a_bytes, .int a__length, .int k133_F_a_2, .int a__fault])), (a_bytes, .inl (cs 0, 400, .inl a_bytes_c))] → va_S A s.heap H locs → ∀ ls : Array Slot, lv_has ls 5 [(4, .int k133_L_4), (3, .int k133_L_3), (0, .ref a), (1, .int 0), (2, .int 99)] → W p l e (headSpec (hz_w yX7_takeNumber cX7_takeNumber 5 (some .int)) ({ frames := 1, cells := 0, slots := 0, locals := 22 })).room s m [.ref a, .int 0, .int 99].toArray below meth c H locs 0 0 (MQ below (va_Qi (fun (r : Int32) (u : (Nat → Int32) × (Nat → Nat → Int32)) => (IV 0 99 r ∧ IV 0 3205 (u.1 0) ∧ IV 0 400 (u.1 1)) ∨ (IV 1 3205 (u.1 0) ∧ IV 0 400 (u.1 1))) (fun u t => va_P D classes [(a, .inr (7, [.ref a_bytes, .int a__length, .int (u.1 1), .int (u.1 0)])), (a_bytes, .inl (cs 0, 400, .inl a_bytes_c))] t.heap ∧ va_D A [(a, .inr (7, [.ref a_bytes, .int a__length, .int (u.1 1), .int (u.1 0)])), (a_bytes, .inl (cs 0, 400, .inl a_bytes_c))]) A) [.ref a, .int 0, .int 99].toArray s 0 0 A) (F0 m 133 ls []) := by
    intro k133_L_4 k133_L_3 k133_F_a_2 q133_2 q133_3 H locs hP hD hS ls hl
    refine lv_aload_n hx hb dX7_takeNumber_133 rfl (lv_at hl 2 rfl) ?_
    refine lv_iload_n hx hb dX7_takeNumber_134 rfl (lv_at hl 1 rfl) ?_
    refine lv_iconst (v := 1) hx hb dX7_takeNumber_135 (by decide) ?_
    have hFc := va_free (wc := [(a, .inr (7, [.ref a_bytes, .int a__length, .int k133_F_a_2, .int a__fault]))]) hD hS hA [0] rfl
    refine va_callv (va_runV (As := [.int k133_L_3, .int 1]) (rest := []) ⟨hx, hb, hml, hown, hT⟩ (c_X7_fail l D cs kK kV a k133_L_3 1 a_bytes a__length k133_F_a_2 a__fault q133_3 ((iv_c (by decide))) h_a__fault H.size) (cwV 2 hT (hz_gV q_633 q_445 q_446 q_221 q_447) rfl rfl rfl (by decide +kernel) ⟨(Nat.le_of_ble_eq_true rfl), (Nat.le_of_ble_eq_true rfl)⟩) ⟨hz_C.blind, va_recv hK hP (ci := 7) (q0 := 0) rfl rfl, hz_C.mk (hP.sub (ws' := [(a, .inr (7, [.ref a_bytes, .int a__length, .int k133_F_a_2, .int a__fault]))]) [0] rfl) (hD.sub (ws' := [(a, .inr (7, [.ref a_bytes, .int a__length, .int k133_F_a_2, .int a__fault]))]) [0] (by decide) rfl) hE hS hFc⟩ rfl rfl hl.1 rfl (lv_room (Nat.le_of_ble_eq_true rfl)) dX7_takeNumber_136 ⟨(Nat.le_of_ble_eq_true rfl), (Nat.le_of_ble_eq_true rfl)⟩) hS (fun q _ h => hFc q h) hFc (fun o2 t H1 locs ht hvm hw hB hz1 hk1 hS => ?_)
    obtain ⟨hP1, hD1⟩ := hB
    rw [ht] at hP1
    obtain ⟨hP, hD⟩ := va_join (wr := [(a_bytes, .inl (cs 0, 400, .inl a_bytes_c))]) (w1 := [(a, .inr (7, [.ref a_bytes, .int a__length, .int k133_F_a_2, .int (o2.1 0)]))]) hP hD [0] [1] rfl rfl (by decide) (by decide) hk1 hFc hP1 hD1
    generalize H1 = H at hP hS ⊢
    have hP : va_P D classes [(a_bytes, .inl (cs 0, 400, .inl a_bytes_c)), (a, .inr (7, [.ref a_bytes, .int a__length, .int k133_F_a_2, .int (o2.1 0)]))] H := hP
    have hD : va_D A [(a_bytes, .inl (cs 0, 400, .inl a_bytes_c)), (a, .inr (7, [.ref a_bytes, .int a__length, .int k133_F_a_2, .int (o2.1 0)]))] := hD
    clear hk1 hFc hP1 hD1 hz1
    have h3 := hw
    refine lv_iload hx hb dX7_takeNumber_139 (lv_at hl 0 rfl) ?_
    refine W.widen (k := 0) (n := 0) (Nat.le_of_ble_eq_true rfl) (Nat.le_of_ble_eq_true rfl) ?_
    exact W.iret (v := k133_L_4) hx hb hr (fun t ht hW => ⟨⟨k133_L_4, (fun k => match k with | 0 => o2.1 0 | 1 => k133_F_a_2 | _ => 0, fun _ _ => 0), rfl, (Or.inr ((⟨h3, q133_2⟩))), by rw [ht]; exact hP.sub [1, 0] rfl, hD.sub [1, 0] (by decide) rfl⟩, hS.F ht⟩) hS.2.2 dX7_takeNumber_141
  have K94 : ∀ (k94_L_4 : Int32) (k94_L_3 : Int32) (k94_F_a_2 : Int32), IV 0 400 k94_F_a_2 → IV 0 400 k94_L_3 → ∀ (H : Heap) (locs : List Loc), va_P D classes [(a, .inr (7, [.ref a_bytes, .int a__length, .int k94_F_a_2, .int a__fault])), (a_bytes, .inl (cs 0, 400, .inl a_bytes_c))] H → va_D A [(a, .inr (7, [.ref a_bytes, .int a__length, .int k94_F_a_2, .int a__fault])), (a_bytes, .inl (cs 0, 400, .inl a_bytes_c))] → va_S A s.heap H locs → ∀ ls : Array Slot, lv_has ls 5 [(4, .int k94_L_4), (3, .int k94_L_3), (0, .ref a), (1, .int 0), (2, .int 99)] → W p l e (headSpec (hz_w yX7_takeNumber cX7_takeNumber 5 (some .int)) ({ frames := 1, cells := 0, slots := 0, locals := 22 })).room s m [.ref a, .int 0, .int 99].toArray below meth c H locs 0 0 (MQ below (va_Qi (fun (r : Int32) (u : (Nat → Int32) × (Nat → Nat → Int32)) => (IV 0 99 r ∧ IV 0 3205 (u.1 0) ∧ IV 0 400 (u.1 1)) ∨ (IV 1 3205 (u.1 0) ∧ IV 0 400 (u.1 1))) (fun u t => va_P D classes [(a, .inr (7, [.ref a_bytes, .int a__length, .int (u.1 1), .int (u.1 0)])), (a_bytes, .inl (cs 0, 400, .inl a_bytes_c))] t.heap ∧ va_D A [(a, .inr (7, [.ref a_bytes, .int a__length, .int (u.1 1), .int (u.1 0)])), (a_bytes, .inl (cs 0, 400, .inl a_bytes_c))]) A) [.ref a, .int 0, .int 99].toArray s 0 0 A) (F0 m 94 ls []) := by
    intro k94_L_4 k94_L_3 k94_F_a_2 q94_2 q94_3 H locs hP hD hS ls hl
    refine lv_aload_n hx hb dX7_takeNumber_94 rfl (lv_at hl 2 rfl) ?_
    refine va_get (D := D) (ci := 7) (v := .int k94_F_a_2) (C := RX7) (T := TX7) (N := 4) hx hb hT i_X7 hown hK hP 0 rfl rfl 2 (by decide) (hT _ q_129) (fun _ h9 => h9) rfl dX7_takeNumber_95 ?_
    refine lv_iload_n hx hb dX7_takeNumber_98 rfl (lv_at hl 1 rfl) ?_
    refine lv_icmp_ne (tgt := 111) hx hb dX7_takeNumber_99 (by decide) (fun c4 => ?_) (fun c4 => ?_)
    · refine lv_aload_n hx hb dX7_takeNumber_111 rfl (lv_at hl 2 rfl) ?_
      refine va_get (D := D) (ci := 7) (v := .int k94_F_a_2) (C := RX7) (T := TX7) (N := 4) hx hb hT i_X7 hown hK hP 0 rfl rfl 2 (by decide) (hT _ q_129) (fun _ h9 => h9) rfl dX7_takeNumber_112 ?_
      refine lv_iload_n hx hb dX7_takeNumber_115 rfl (lv_at hl 1 rfl) ?_
      refine lv_isub hx hb dX7_takeNumber_116 ?_
      refine lv_topi (fun v5 ev5 => ?_)
      have hv5 : IV (-400) 400 v5 := iv_sub ev5 q94_2 q94_3 (by decide) (by decide)
      refine lv_iconst (v := 5) hx hb dX7_takeNumber_117 (by decide) ?_
      refine lv_icmp_gt (tgt := 133) hx hb dX7_takeNumber_118 (by decide) (fun c6 => ?_) (fun c6 => ?_)
      · have h7 : IV 6 400 v5 := iv_lt2 c6 (iv_c (a := 5) (b := 5) (by decide)) hv5 (by decide)
        exact K133 k94_L_4 k94_L_3 k94_F_a_2 q94_2 q94_3 H locs (hP.sub (ws' := [(a, .inr (7, [.ref a_bytes, .int a__length, .int k94_F_a_2, .int a__fault])), (a_bytes, .inl (cs 0, 400, .inl a_bytes_c))]) [0, 1] rfl) (hD.sub (ws' := [(a, .inr (7, [.ref a_bytes, .int a__length, .int k94_F_a_2, .int a__fault])), (a_bytes, .inl (cs 0, 400, .inl a_bytes_c))]) [0, 1] (by decide) rfl) hS ls (lv_sub hl [0, 1, 2, 3, 4] rfl)
      · have h8 : IV (-400) 5 v5 := iv_le1 (Int32.not_lt.mp c6) hv5 (iv_c (a := 5) (b := 5) (by decide)) (by decide)
        refine lv_iload hx hb dX7_takeNumber_121 (lv_at hl 0 rfl) ?_
        refine lv_iload_n hx hb dX7_takeNumber_123 rfl (lv_at hl 3 rfl) ?_
        refine lv_icmp_lt (tgt := 133) hx hb dX7_takeNumber_124 (by decide) (fun c9 => ?_) (fun c9 => ?_)
        · have h10 : IV (-2147483648) (-1) k94_L_4 := iv_lt1 c9 iv_top (iv_c (a := 0) (b := 0) (by decide)) (by decide)
          exact K133 k94_L_4 k94_L_3 k94_F_a_2 q94_2 q94_3 H locs (hP.sub (ws' := [(a, .inr (7, [.ref a_bytes, .int a__length, .int k94_F_a_2, .int a__fault])), (a_bytes, .inl (cs 0, 400, .inl a_bytes_c))]) [0, 1] rfl) (hD.sub (ws' := [(a, .inr (7, [.ref a_bytes, .int a__length, .int k94_F_a_2, .int a__fault])), (a_bytes, .inl (cs 0, 400, .inl a_bytes_c))]) [0, 1] (by decide) rfl) hS ls (lv_sub hl [0, 1, 2, 3, 4] rfl)
        · have h11 : IV 0 2147483647 k94_L_4 := iv_le2 (Int32.not_lt.mp c9) (iv_c (a := 0) (b := 0) (by decide)) iv_top (by decide)
          refine lv_iload hx hb dX7_takeNumber_127 (lv_at hl 0 rfl) ?_
          refine lv_iload_n hx hb dX7_takeNumber_129 rfl (lv_at hl 4 rfl) ?_
          refine lv_icmp_le (tgt := 139) hx hb dX7_takeNumber_130 (by decide) (fun c12 => ?_) (fun c12 => ?_)
          · have h13 : IV 0 99 k94_L_4 := iv_le1 c12 h11 (iv_c (a := 99) (b := 99) (by decide)) (by decide)
            refine lv_iload hx hb dX7_takeNumber_139 (lv_at hl 0 rfl) ?_
            refine W.widen (k := 0) (n := 0) (Nat.le_of_ble_eq_true rfl) (Nat.le_of_ble_eq_true rfl) ?_
            exact W.iret (v := k94_L_4) hx hb hr (fun t ht hW => ⟨⟨k94_L_4, (fun k => match k with | 0 => a__fault | 1 => k94_F_a_2 | _ => 0, fun _ _ => 0), rfl, (Or.inl (⟨h13, h_a__fault, q94_2⟩)), by rw [ht]; exact hP.sub [0, 1] rfl, hD.sub [0, 1] (by decide) rfl⟩, hS.F ht⟩) hS.2.2 dX7_takeNumber_141
          · have h14 : IV 100 2147483647 k94_L_4 := iv_lt2 (Int32.not_le.mp c12) (iv_c (a := 99) (b := 99) (by decide)) h11 (by decide)
            exact K133 k94_L_4 k94_L_3 k94_F_a_2 q94_2 q94_3 H locs (hP.sub (ws' := [(a, .inr (7, [.ref a_bytes, .int a__length, .int k94_F_a_2, .int a__fault])), (a_bytes, .inl (cs 0, 400, .inl a_bytes_c))]) [0, 1] rfl) (hD.sub (ws' := [(a, .inr (7, [.ref a_bytes, .int a__length, .int k94_F_a_2, .int a__fault])), (a_bytes, .inl (cs 0, 400, .inl a_bytes_c))]) [0, 1] (by decide) rfl) hS ls (lv_sub hl [0, 1, 2, 3, 4] rfl)
    · refine lv_aload_n hx hb dX7_takeNumber_102 rfl (lv_at hl 2 rfl) ?_
      refine lv_iload_n hx hb dX7_takeNumber_103 rfl (lv_at hl 1 rfl) ?_
      refine lv_iconst (v := 0) hx hb dX7_takeNumber_104 (by decide) ?_
      have hFc := va_free (wc := [(a, .inr (7, [.ref a_bytes, .int a__length, .int k94_F_a_2, .int a__fault]))]) hD hS hA [0] rfl
      refine va_callv (va_runV (As := [.int k94_L_3, .int 0]) (rest := []) ⟨hx, hb, hml, hown, hT⟩ (c_X7_fail l D cs kK kV a k94_L_3 0 a_bytes a__length k94_F_a_2 a__fault q94_3 ((iv_c (by decide))) h_a__fault H.size) (cwV 2 hT (hz_gV q_633 q_445 q_446 q_221 q_447) rfl rfl rfl (by decide +kernel) ⟨(Nat.le_of_ble_eq_true rfl), (Nat.le_of_ble_eq_true rfl)⟩) ⟨hz_C.blind, va_recv hK hP (ci := 7) (q0 := 0) rfl rfl, hz_C.mk (hP.sub (ws' := [(a, .inr (7, [.ref a_bytes, .int a__length, .int k94_F_a_2, .int a__fault]))]) [0] rfl) (hD.sub (ws' := [(a, .inr (7, [.ref a_bytes, .int a__length, .int k94_F_a_2, .int a__fault]))]) [0] (by decide) rfl) hE hS hFc⟩ rfl rfl hl.1 rfl (lv_room (Nat.le_of_ble_eq_true rfl)) dX7_takeNumber_105 ⟨(Nat.le_of_ble_eq_true rfl), (Nat.le_of_ble_eq_true rfl)⟩) hS (fun q _ h => hFc q h) hFc (fun o16 t H1 locs ht hvm hw hB hz1 hk1 hS => ?_)
      obtain ⟨hP1, hD1⟩ := hB
      rw [ht] at hP1
      obtain ⟨hP, hD⟩ := va_join (wr := [(a_bytes, .inl (cs 0, 400, .inl a_bytes_c))]) (w1 := [(a, .inr (7, [.ref a_bytes, .int a__length, .int k94_F_a_2, .int (o16.1 0)]))]) hP hD [0] [1] rfl rfl (by decide) (by decide) hk1 hFc hP1 hD1
      generalize H1 = H at hP hS ⊢
      have hP : va_P D classes [(a_bytes, .inl (cs 0, 400, .inl a_bytes_c)), (a, .inr (7, [.ref a_bytes, .int a__length, .int k94_F_a_2, .int (o16.1 0)]))] H := hP
      have hD : va_D A [(a_bytes, .inl (cs 0, 400, .inl a_bytes_c)), (a, .inr (7, [.ref a_bytes, .int a__length, .int k94_F_a_2, .int (o16.1 0)]))] := hD
      clear hk1 hFc hP1 hD1 hz1
      have h17 := hw
      refine lv_goto (tgt := 139) hx hb dX7_takeNumber_108 (by decide) ?_
      refine lv_iload hx hb dX7_takeNumber_139 (lv_at hl 0 rfl) ?_
      refine W.widen (k := 0) (n := 0) (Nat.le_of_ble_eq_true rfl) (Nat.le_of_ble_eq_true rfl) ?_
      exact W.iret (v := k94_L_4) hx hb hr (fun t ht hW => ⟨⟨k94_L_4, (fun k => match k with | 0 => o16.1 0 | 1 => k94_F_a_2 | _ => 0, fun _ _ => 0), rfl, (Or.inr ((⟨h17, q94_2⟩))), by rw [ht]; exact hP.sub [1, 0] rfl, hD.sub [1, 0] (by decide) rfl⟩, hS.F ht⟩) hS.2.2 dX7_takeNumber_141
  have K12 : ∀ (n : Nat) (k12_L_4 : Int32) (k12_L_3 : Int32) (k12_F_a_2 : Int32), (400 - k12_F_a_2.toInt + 1).toNat ≤ n → IV 0 400 k12_F_a_2 → IV 0 400 k12_L_3 → ∀ (H : Heap) (locs : List Loc), va_P D classes [(a, .inr (7, [.ref a_bytes, .int a__length, .int k12_F_a_2, .int a__fault])), (a_bytes, .inl (cs 0, 400, .inl a_bytes_c))] H → va_D A [(a, .inr (7, [.ref a_bytes, .int a__length, .int k12_F_a_2, .int a__fault])), (a_bytes, .inl (cs 0, 400, .inl a_bytes_c))] → va_S A s.heap H locs → ∀ ls : Array Slot, lv_has ls 5 [(4, .int k12_L_4), (3, .int k12_L_3), (0, .ref a), (1, .int 0), (2, .int 99)] → W p l e (headSpec (hz_w yX7_takeNumber cX7_takeNumber 5 (some .int)) ({ frames := 1, cells := 0, slots := 0, locals := 22 })).room s m [.ref a, .int 0, .int 99].toArray below meth c H locs 0 0 (MQ below (va_Qi (fun (r : Int32) (u : (Nat → Int32) × (Nat → Nat → Int32)) => (IV 0 99 r ∧ IV 0 3205 (u.1 0) ∧ IV 0 400 (u.1 1)) ∨ (IV 1 3205 (u.1 0) ∧ IV 0 400 (u.1 1))) (fun u t => va_P D classes [(a, .inr (7, [.ref a_bytes, .int a__length, .int (u.1 1), .int (u.1 0)])), (a_bytes, .inl (cs 0, 400, .inl a_bytes_c))] t.heap ∧ va_D A [(a, .inr (7, [.ref a_bytes, .int a__length, .int (u.1 1), .int (u.1 0)])), (a_bytes, .inl (cs 0, 400, .inl a_bytes_c))]) A) [.ref a, .int 0, .int 99].toArray s 0 0 A) (F0 m 12 ls []) := by
    intro n
    induction n with
    | zero =>
      intro k12_L_4 k12_L_3 k12_F_a_2 hn q12_2 q12_3 H locs hP hD hS ls hl
      exact absurd hn (by unfold IV at q12_2; omega)
    | succ n ih12 =>
      intro k12_L_4 k12_L_3 k12_F_a_2 hn q12_2 q12_3 H locs hP hD hS ls hl
      have K81 : ∀ (k81_L_4 : Int32), IV 1 400 a__length → IV 0 399 k12_F_a_2 → IV 0 400 k12_L_3 → ∀ (H : Heap) (locs : List Loc), va_P D classes [(a, .inr (7, [.ref a_bytes, .int a__length, .int k12_F_a_2, .int a__fault])), (a_bytes, .inl (cs 0, 400, .inl a_bytes_c))] H → va_D A [(a, .inr (7, [.ref a_bytes, .int a__length, .int k12_F_a_2, .int a__fault])), (a_bytes, .inl (cs 0, 400, .inl a_bytes_c))] → va_S A s.heap H locs → ∀ ls : Array Slot, lv_has ls 5 [(4, .int k81_L_4), (3, .int k12_L_3), (0, .ref a), (1, .int 0), (2, .int 99)] → W p l e (headSpec (hz_w yX7_takeNumber cX7_takeNumber 5 (some .int)) ({ frames := 1, cells := 0, slots := 0, locals := 22 })).room s m [.ref a, .int 0, .int 99].toArray below meth c H locs 0 0 (MQ below (va_Qi (fun (r : Int32) (u : (Nat → Int32) × (Nat → Nat → Int32)) => (IV 0 99 r ∧ IV 0 3205 (u.1 0) ∧ IV 0 400 (u.1 1)) ∨ (IV 1 3205 (u.1 0) ∧ IV 0 400 (u.1 1))) (fun u t => va_P D classes [(a, .inr (7, [.ref a_bytes, .int a__length, .int (u.1 1), .int (u.1 0)])), (a_bytes, .inl (cs 0, 400, .inl a_bytes_c))] t.heap ∧ va_D A [(a, .inr (7, [.ref a_bytes, .int a__length, .int (u.1 1), .int (u.1 0)])), (a_bytes, .inl (cs 0, 400, .inl a_bytes_c))]) A) [.ref a, .int 0, .int 99].toArray s 0 0 A) (F0 m 81 ls []) := by
        intro k81_L_4 q81_1 q81_2 q81_3 H locs hP hD hS ls hl
        refine lv_aload_n hx hb dX7_takeNumber_81 rfl (lv_at hl 2 rfl) ?_
        refine lv_dup hx hb dX7_takeNumber_82 rfl ?_
        refine va_get (D := D) (ci := 7) (v := .int k12_F_a_2) (C := RX7) (T := TX7) (N := 4) hx hb hT i_X7 hown hK hP 0 rfl rfl 2 (by decide) (hT _ q_129) (fun _ h9 => h9) rfl dX7_takeNumber_83 ?_
        refine lv_iconst (v := 1) hx hb dX7_takeNumber_86 (by decide) ?_
        refine lv_iadd hx hb dX7_takeNumber_87 ?_
        refine lv_topi (fun v18 ev18 => ?_)
        have hv18 : IV 1 400 v18 := iv_add ev18 q81_2 (iv_c (a := 1) (b := 1) (by decide)) (by decide) (by decide)
        have dv18 : v18.toInt = k12_F_a_2.toInt + 1 := iv_addE ev18 q81_2 (iv_c (a := 1) (b := 1) (by decide)) (by decide) (by decide) (by decide)
        refine va_put (D := D) (ci := 7) (v := .int v18) (ty := .int) (C := RX7) (T := TX7) (N := 4) hx hb hT i_X7 tyX7 tyX7_ok nmX7 hown hK hP hD hS 0 rfl rfl 2 (by decide) (hT _ q_129) (fun _ h9 => h9) rfl (by decide +kernel) rfl rfl (Nat.le_of_ble_eq_true rfl) dX7_takeNumber_88 (fun H locs hP hD hS => ?_)
        have hP : va_P D classes [(a, .inr (7, [.ref a_bytes, .int a__length, .int v18, .int a__fault])), (a_bytes, .inl (cs 0, 400, .inl a_bytes_c))] H := hP
        have hD : va_D A [(a, .inr (7, [.ref a_bytes, .int a__length, .int v18, .int a__fault])), (a_bytes, .inl (cs 0, 400, .inl a_bytes_c))] := hD
        refine lv_goto (tgt := 12) hx hb dX7_takeNumber_91 (by decide) ?_
        exact ih12 k81_L_4 k12_L_3 v18 (by have h9 := q81_2; unfold IV at h9; have := dv18; omega) (iv_w hv18 (by decide) (by decide)) q81_3 H locs (hP.sub (ws' := [(a, .inr (7, [.ref a_bytes, .int a__length, .int v18, .int a__fault])), (a_bytes, .inl (cs 0, 400, .inl a_bytes_c))]) [0, 1] rfl) (hD.sub (ws' := [(a, .inr (7, [.ref a_bytes, .int a__length, .int v18, .int a__fault])), (a_bytes, .inl (cs 0, 400, .inl a_bytes_c))]) [0, 1] (by decide) rfl) hS ls (lv_sub hl [0, 1, 2, 3, 4] rfl)
      refine lv_aload_n hx hb dX7_takeNumber_12 rfl (lv_at hl 2 rfl) ?_
      refine va_get (D := D) (ci := 7) (v := .int k12_F_a_2) (C := RX7) (T := TX7) (N := 4) hx hb hT i_X7 hown hK hP 0 rfl rfl 2 (by decide) (hT _ q_129) (fun _ h9 => h9) rfl dX7_takeNumber_13 ?_
      refine lv_aload_n hx hb dX7_takeNumber_16 rfl (lv_at hl 2 rfl) ?_
      refine va_get (D := D) (ci := 7) (v := .int a__length) (C := RX7) (T := TX7) (N := 4) hx hb hT i_X7 hown hK hP 0 rfl rfl 1 (by decide) (hT _ q_128) (fun _ h9 => h9) rfl dX7_takeNumber_17 ?_
      refine lv_icmp_ge (tgt := 94) hx hb dX7_takeNumber_20 (by decide) (fun c19 => ?_) (fun c19 => ?_)
      · exact K94 k12_L_4 k12_L_3 k12_F_a_2 q12_2 q12_3 H locs (hP.sub (ws' := [(a, .inr (7, [.ref a_bytes, .int a__length, .int k12_F_a_2, .int a__fault])), (a_bytes, .inl (cs 0, 400, .inl a_bytes_c))]) [0, 1] rfl) (hD.sub (ws' := [(a, .inr (7, [.ref a_bytes, .int a__length, .int k12_F_a_2, .int a__fault])), (a_bytes, .inl (cs 0, 400, .inl a_bytes_c))]) [0, 1] (by decide) rfl) hS ls (lv_sub hl [0, 1, 2, 3, 4] rfl)
      · have h20 : IV 0 399 k12_F_a_2 := iv_lt1 (Int32.not_le.mp c19) q12_2 h_a__length (by decide)
        have h21 : IV 1 400 a__length := iv_lt2 (Int32.not_le.mp c19) q12_2 h_a__length (by decide)
        refine lv_aload_n hx hb dX7_takeNumber_23 rfl (lv_at hl 2 rfl) ?_
        refine va_get (D := D) (ci := 7) (v := .ref a_bytes) (C := RX7) (T := TX7) (N := 4) hx hb hT i_X7 hown hK hP 0 rfl rfl 0 (by decide) (hT _ q_127) (fun _ h9 => h9) rfl dX7_takeNumber_24 ?_
        refine lv_aload_n hx hb dX7_takeNumber_27 rfl (lv_at hl 2 rfl) ?_
        refine va_get (D := D) (ci := 7) (v := .int k12_F_a_2) (C := RX7) (T := TX7) (N := 4) hx hb hT i_X7 hown hK hP 0 rfl rfl 2 (by decide) (hT _ q_129) (fun _ h9 => h9) rfl dX7_takeNumber_28 ?_
        refine va_iald hx hb hK hP 1 0 rfl rfl (iv_v h20 (by decide) (by decide)) dX7_takeNumber_31 ?_
        refine lv_topi (fun v22 ev22 => ?_)
        have hv22 : IV 0 255 v22 := iv_ci ev22 h_a_bytes_c (iv_v h20 (by decide) (by decide))
        refine lv_bipush (v := 48) hx hb dX7_takeNumber_32 (by decide) ?_
        refine lv_icmp_lt (tgt := 94) hx hb dX7_takeNumber_34 (by decide) (fun c23 => ?_) (fun c23 => ?_)
        · have h24 : IV 0 47 v22 := iv_lt1 c23 hv22 (iv_c (a := 48) (b := 48) (by decide)) (by decide)
          exact K94 k12_L_4 k12_L_3 k12_F_a_2 (iv_w h20 (by decide) (by decide)) q12_3 H locs (hP.sub (ws' := [(a, .inr (7, [.ref a_bytes, .int a__length, .int k12_F_a_2, .int a__fault])), (a_bytes, .inl (cs 0, 400, .inl a_bytes_c))]) [0, 1] rfl) (hD.sub (ws' := [(a, .inr (7, [.ref a_bytes, .int a__length, .int k12_F_a_2, .int a__fault])), (a_bytes, .inl (cs 0, 400, .inl a_bytes_c))]) [0, 1] (by decide) rfl) hS ls (lv_sub hl [0, 1, 2, 3, 4] rfl)
        · have h25 : IV 48 255 v22 := iv_le2 (Int32.not_lt.mp c23) (iv_c (a := 48) (b := 48) (by decide)) hv22 (by decide)
          refine lv_aload_n hx hb dX7_takeNumber_37 rfl (lv_at hl 2 rfl) ?_
          refine va_get (D := D) (ci := 7) (v := .ref a_bytes) (C := RX7) (T := TX7) (N := 4) hx hb hT i_X7 hown hK hP 0 rfl rfl 0 (by decide) (hT _ q_127) (fun _ h9 => h9) rfl dX7_takeNumber_38 ?_
          refine lv_aload_n hx hb dX7_takeNumber_41 rfl (lv_at hl 2 rfl) ?_
          refine va_get (D := D) (ci := 7) (v := .int k12_F_a_2) (C := RX7) (T := TX7) (N := 4) hx hb hT i_X7 hown hK hP 0 rfl rfl 2 (by decide) (hT _ q_129) (fun _ h9 => h9) rfl dX7_takeNumber_42 ?_
          refine va_iald hx hb hK hP 1 0 rfl rfl (iv_v h20 (by decide) (by decide)) dX7_takeNumber_45 ?_
          refine hz_ev v22 ev22.symm ?_
          refine lv_bipush (v := 57) hx hb dX7_takeNumber_46 (by decide) ?_
          refine lv_icmp_gt (tgt := 94) hx hb dX7_takeNumber_48 (by decide) (fun c26 => ?_) (fun c26 => ?_)
          · have h27 : IV 58 255 v22 := iv_lt2 c26 (iv_c (a := 57) (b := 57) (by decide)) h25 (by decide)
            exact K94 k12_L_4 k12_L_3 k12_F_a_2 (iv_w h20 (by decide) (by decide)) q12_3 H locs (hP.sub (ws' := [(a, .inr (7, [.ref a_bytes, .int a__length, .int k12_F_a_2, .int a__fault])), (a_bytes, .inl (cs 0, 400, .inl a_bytes_c))]) [0, 1] rfl) (hD.sub (ws' := [(a, .inr (7, [.ref a_bytes, .int a__length, .int k12_F_a_2, .int a__fault])), (a_bytes, .inl (cs 0, 400, .inl a_bytes_c))]) [0, 1] (by decide) rfl) hS ls (lv_sub hl [0, 1, 2, 3, 4] rfl)
          · have h28 : IV 48 57 v22 := iv_le1 (Int32.not_lt.mp c26) h25 (iv_c (a := 57) (b := 57) (by decide)) (by decide)
            refine lv_aload_n hx hb dX7_takeNumber_51 rfl (lv_at hl 2 rfl) ?_
            refine va_get (D := D) (ci := 7) (v := .int k12_F_a_2) (C := RX7) (T := TX7) (N := 4) hx hb hT i_X7 hown hK hP 0 rfl rfl 2 (by decide) (hT _ q_129) (fun _ h9 => h9) rfl dX7_takeNumber_52 ?_
            refine lv_iload_n hx hb dX7_takeNumber_55 rfl (lv_at hl 1 rfl) ?_
            refine lv_isub hx hb dX7_takeNumber_56 ?_
            refine lv_topi (fun v29 ev29 => ?_)
            have hv29 : IV (-400) 399 v29 := iv_sub ev29 h20 q12_3 (by decide) (by decide)
            refine lv_iconst (v := 5) hx hb dX7_takeNumber_57 (by decide) ?_
            refine lv_icmp_ge (tgt := 81) hx hb dX7_takeNumber_58 (by decide) (fun c30 => ?_) (fun c30 => ?_)
            · have h31 : IV 5 399 v29 := iv_le2 c30 (iv_c (a := 5) (b := 5) (by decide)) hv29 (by decide)
              exact K81 k12_L_4 h21 h20 q12_3 H locs (hP.sub (ws' := [(a, .inr (7, [.ref a_bytes, .int a__length, .int k12_F_a_2, .int a__fault])), (a_bytes, .inl (cs 0, 400, .inl a_bytes_c))]) [0, 1] rfl) (hD.sub (ws' := [(a, .inr (7, [.ref a_bytes, .int a__length, .int k12_F_a_2, .int a__fault])), (a_bytes, .inl (cs 0, 400, .inl a_bytes_c))]) [0, 1] (by decide) rfl) hS ls (lv_sub hl [0, 1, 2, 3, 4] rfl)
            · have h32 : IV (-400) 4 v29 := iv_lt1 (Int32.not_le.mp c30) hv29 (iv_c (a := 5) (b := 5) (by decide)) (by decide)
              refine lv_iload hx hb dX7_takeNumber_61 (lv_at hl 0 rfl) ?_
              refine lv_bipush (v := 10) hx hb dX7_takeNumber_63 (by decide) ?_
              refine lv_imul hx hb dX7_takeNumber_65 ?_
              refine lv_topi (fun v33 ev33 => ?_)
              refine lv_aload_n hx hb dX7_takeNumber_66 rfl (lv_at hl 2 rfl) ?_
              refine va_get (D := D) (ci := 7) (v := .ref a_bytes) (C := RX7) (T := TX7) (N := 4) hx hb hT i_X7 hown hK hP 0 rfl rfl 0 (by decide) (hT _ q_127) (fun _ h9 => h9) rfl dX7_takeNumber_67 ?_
              refine lv_aload_n hx hb dX7_takeNumber_70 rfl (lv_at hl 2 rfl) ?_
              refine va_get (D := D) (ci := 7) (v := .int k12_F_a_2) (C := RX7) (T := TX7) (N := 4) hx hb hT i_X7 hown hK hP 0 rfl rfl 2 (by decide) (hT _ q_129) (fun _ h9 => h9) rfl dX7_takeNumber_71 ?_
              refine va_iald hx hb hK hP 1 0 rfl rfl (iv_v h20 (by decide) (by decide)) dX7_takeNumber_74 ?_
              refine hz_ev v22 ev22.symm ?_
              refine lv_iadd hx hb dX7_takeNumber_75 ?_
              refine lv_topi (fun v34 ev34 => ?_)
              refine lv_bipush (v := 48) hx hb dX7_takeNumber_76 (by decide) ?_
              refine lv_isub hx hb dX7_takeNumber_78 ?_
              refine lv_topi (fun v35 ev35 => ?_)
              refine lv_istore (lv' := [(4, .int v35), (3, .int k12_L_3), (0, .ref a), (1, .int 0), (2, .int 99)]) hx hb dX7_takeNumber_79 hl (by decide) rfl (fun ls hl => ?_)
              exact K81 v35 h21 h20 q12_3 H locs (hP.sub (ws' := [(a, .inr (7, [.ref a_bytes, .int a__length, .int k12_F_a_2, .int a__fault])), (a_bytes, .inl (cs 0, 400, .inl a_bytes_c))]) [0, 1] rfl) (hD.sub (ws' := [(a, .inr (7, [.ref a_bytes, .int a__length, .int k12_F_a_2, .int a__fault])), (a_bytes, .inl (cs 0, 400, .inl a_bytes_c))]) [0, 1] (by decide) rfl) hS ls (lv_sub hl [0, 1, 2, 3, 4] rfl)
  refine lv_aload_n hx hb dX7_takeNumber_0 rfl (lv_at hl 0 rfl) ?_
  have hFc := va_free (wc := [(a, .inr (7, [.ref a_bytes, .int a__length, .int a__place, .int a__fault])), (a_bytes, .inl (cs 0, 400, .inl a_bytes_c))]) hD hS hA [0,1] rfl
  refine va_callv (va_runV (As := []) (rest := []) ⟨hx, hb, hml, hown, hT⟩ (c_X7_skipBlanks l D cs kK kV a a_bytes a__length a__place a__fault a_bytes_c h_a__length h_a__place h_a_bytes_c H.size) (cwV 0 hT (hz_gV q_631 q_437 q_438 q_221 q_439) rfl rfl rfl (by decide +kernel) ⟨(Nat.le_of_ble_eq_true rfl), (Nat.le_of_ble_eq_true rfl)⟩) ⟨hz_C.blind, va_recv hK hP (ci := 7) (q0 := 0) rfl rfl, hz_C.mk (hP.sub (ws' := [(a, .inr (7, [.ref a_bytes, .int a__length, .int a__place, .int a__fault])), (a_bytes, .inl (cs 0, 400, .inl a_bytes_c))]) [0,1] rfl) (hD.sub (ws' := [(a, .inr (7, [.ref a_bytes, .int a__length, .int a__place, .int a__fault])), (a_bytes, .inl (cs 0, 400, .inl a_bytes_c))]) [0,1] (by decide) rfl) hE hS hFc⟩ rfl rfl hl.1 rfl (lv_room (Nat.le_of_ble_eq_true rfl)) dX7_takeNumber_1 ⟨(Nat.le_of_ble_eq_true rfl), (Nat.le_of_ble_eq_true rfl)⟩) hS (fun q _ h => hFc q h) hFc (fun u t H1 locs ht hvm hw hB hz1 hk1 hS => ?_)
  obtain ⟨o37, h38, hP1, hD1⟩ := hB
  rw [ht] at hP1
  obtain ⟨hP, hD⟩ := va_join (wr := []) (w1 := [(a, .inr (7, [.ref a_bytes, .int a__length, .int o37, .int a__fault])), (a_bytes, .inl (cs 0, 400, .inl a_bytes_c))]) hP hD [0, 1] [] rfl rfl (by decide) (by decide) hk1 hFc hP1 hD1
  generalize H1 = H at hP hS ⊢
  have hP : va_P D classes [(a, .inr (7, [.ref a_bytes, .int a__length, .int o37, .int a__fault])), (a_bytes, .inl (cs 0, 400, .inl a_bytes_c))] H := hP
  have hD : va_D A [(a, .inr (7, [.ref a_bytes, .int a__length, .int o37, .int a__fault])), (a_bytes, .inl (cs 0, 400, .inl a_bytes_c))] := hD
  clear hk1 hFc hP1 hD1 hz1
  refine lv_aload_n hx hb dX7_takeNumber_4 rfl (lv_at hl 0 rfl) ?_
  refine va_get (D := D) (ci := 7) (v := .int o37) (C := RX7) (T := TX7) (N := 4) hx hb hT i_X7 hown hK hP 0 rfl rfl 2 (by decide) (hT _ q_129) (fun _ h9 => h9) rfl dX7_takeNumber_5 ?_
  refine lv_istore_n (lv' := [(3, .int o37), (0, .ref a), (1, .int 0), (2, .int 99)]) hx hb dX7_takeNumber_8 rfl hl (by decide) rfl (fun ls hl => ?_)
  refine lv_iconst (v := 0) hx hb dX7_takeNumber_9 (by decide) ?_
  refine lv_istore (lv' := [(4, .int 0), (3, .int o37), (0, .ref a), (1, .int 0), (2, .int 99)]) hx hb dX7_takeNumber_10 hl (by decide) rfl (fun ls hl => ?_)
  exact K12 _ 0 o37 o37 (Nat.le_refl _) h38 h38 H locs (hP.sub (ws' := [(a, .inr (7, [.ref a_bytes, .int a__length, .int o37, .int a__fault])), (a_bytes, .inl (cs 0, 400, .inl a_bytes_c))]) [0, 1] rfl) (hD.sub (ws' := [(a, .inr (7, [.ref a_bytes, .int a__length, .int o37, .int a__fault])), (a_bytes, .inl (cs 0, 400, .inl a_bytes_c))]) [0, 1] (by decide) rfl) hS ls (lv_sub hl [0, 1, 2, 3, 4] rfl)
set_option maxHeartbeats 4000000 in
set_option maxRecDepth 100000 in
theorem c_X0_numberTold_62 (l : Launch) (D : va_G) (cs : Nat → ClassId) (kK kV : Nat → Nat) (a : Nat) (a_tape : Nat) (a_told : Nat) (a__kindsTold : Int32) (a_tape_bytes : Nat) (a_tape__length : Int32) (a_tape__place : Int32) (a_tape__fault : Int32) (a_tape_bytes_c : Nat → Int32) (h_a_tape__length : IV 0 400 a_tape__length) (h_a_tape__place : IV 0 400 a_tape__place) (h_a_tape__fault : IV 0 3205 a_tape__fault) (h_a_tape_bytes_c : CI 400 0 255 a_tape_bytes_c) (sz : Nat) : Met l yX0_numberTold (hz_w yX0_numberTold cX0_numberTold 3 (some .int)) ({ frames := 2, cells := 0, slots := 0, locals := 46 }) (va_Pc [.ref a, .int 0, .int 99] (hz_C D cs kK kV sz [(a, .inr (0, [.ref a_tape, .ref a_told, .int a__kindsTold])), (a_tape, .inr (7, [.ref a_tape_bytes, .int a_tape__length, .int a_tape__place, .int a_tape__fault])), (a_tape_bytes, .inl (cs 0, 400, .inl a_tape_bytes_c))])) (va_Qi (fun (r : Int32) (u : (Nat → Int32) × (Nat → Nat → Int32)) => (r = 0 ∧ IV 1 3205 (u.1 0) ∧ IV 1 3205 a_tape__fault ∧ IV 0 400 (u.1 1)) ∨ (IV 0 99 r ∧ IV 0 3205 (u.1 0) ∧ IV 0 0 a_tape__fault ∧ IV 0 400 (u.1 1)) ∨ (IV 1 3205 (u.1 0) ∧ IV 0 0 a_tape__fault ∧ IV 0 400 (u.1 1))) (fun u t => va_P D classes [(a, .inr (0, [.ref a_tape, .ref a_told, .int a__kindsTold])), (a_tape, .inr (7, [.ref a_tape_bytes, .int a_tape__length, .int (u.1 1), .int (u.1 0)])), (a_tape_bytes, .inl (cs 0, 400, .inl a_tape_bytes_c))] t.heap ∧ va_D (va_A [(a, .inr (0, [.ref a_tape, .ref a_told, .int a__kindsTold])), (a_tape, .inr (7, [.ref a_tape_bytes, .int a_tape__length, .int a_tape__place, .int a_tape__fault])), (a_tape_bytes, .inl (cs 0, 400, .inl a_tape_bytes_c))] sz) [(a, .inr (0, [.ref a_tape, .ref a_told, .int a__kindsTold])), (a_tape, .inr (7, [.ref a_tape_bytes, .int a_tape__length, .int (u.1 1), .int (u.1 0)])), (a_tape_bytes, .inl (cs 0, 400, .inl a_tape_bytes_c))]) (va_A [(a, .inr (0, [.ref a_tape, .ref a_told, .int a__kindsTold])), (a_tape, .inr (7, [.ref a_tape_bytes, .int a_tape__length, .int a_tape__place, .int a_tape__fault])), (a_tape_bytes, .inl (cs 0, 400, .inl a_tape_bytes_c))] sz)) 0 0 (va_A [(a, .inr (0, [.ref a_tape, .ref a_told, .int a__kindsTold])), (a_tape, .inr (7, [.ref a_tape_bytes, .int a_tape__length, .int a_tape__place, .int a_tape__fault])), (a_tape_bytes, .inl (cs 0, 400, .inl a_tape_bytes_c))] sz) := by
  refine Met.ofW (cc := cX0_numberTold) (maxL := 3) (ret := (some .int)) (by decide) rfl ?_
  intro p e s m args below meth c s₁ B hml hv
  obtain ⟨rfl, hsz, hP, hD0, hE⟩ := hv
  have hx := B.exec
  have hb := B.bytes
  have hr := B.returns
  have hT : ∀ w ∈ TB, w.before _ s = true := fun w h => atoms_spec (ws := hz_w yX0_numberTold cX0_numberTold 3 (some .int)) B.pre w (List.mem_cons_of_mem _ h)
  have hown : s.vm.findClass RX0 = some m.cls := findClass_of_methodNamed B.named
  have hlocks := B.notSynchronized
  clear B
  subst hsz
  have hD := hD0.self (sz := s.heap.size)
  generalize hAe : va_A [(a, .inr (0, [.ref a_tape, .ref a_told, .int a__kindsTold])), (a_tape, .inr (7, [.ref a_tape_bytes, .int a_tape__length, .int a_tape__place, .int a_tape__fault])), (a_tape_bytes, .inl (cs 0, 400, .inl a_tape_bytes_c))] s.heap.size = A at hD hE ⊢
  have hA : ∀ q : Nat, s.heap.size ≤ q → A q := fun q h => by rw [← hAe]; exact Or.inr h
  clear hAe hD0
  have hS : va_S A s.heap s.heap [] := va_S.rf
  have hK := hE.1
  have hl := lv_entry ([.ref a, .int 0, .int 99]) (n := 3) (Nat.le_of_ble_eq_true rfl)
  rw [lg_entry_eq]
  generalize (lg_sl ([.ref a, .int 0, .int 99]) ++ List.replicate (3 - (lg_sl ([.ref a, .int 0, .int 99])).length) Slot.unset).toArray = ls at hl ⊢
  have hl : lv_has ls 3 [(0, .ref a), (1, .int 0), (2, .int 99)] := hl
  obtain ⟨H, eH⟩ : ∃ z, z = s.heap := ⟨_, rfl⟩
  have hP : va_P D classes [(a, .inr (0, [.ref a_tape, .ref a_told, .int a__kindsTold])), (a_tape, .inr (7, [.ref a_tape_bytes, .int a_tape__length, .int a_tape__place, .int a_tape__fault])), (a_tape_bytes, .inl (cs 0, 400, .inl a_tape_bytes_c))] H := by rw [eH]; exact hP
  have hS : va_S A s.heap H [] := by rw [eH]; exact hS
  rw [← eH]
  clear eH
  obtain ⟨locs, el⟩ : ∃ z : List Loc, z = [] := ⟨_, rfl⟩
  rw [← el] at hS ⊢
  clear el
  refine lv_aload_n hx hb dX0_numberTold_0 rfl (lv_at hl 0 rfl) ?_
  refine va_get (D := D) (ci := 0) (v := .ref a_tape) (C := RX0) (T := TX0) (N := 3) hx hb hT i_X0 hown hK hP 0 rfl rfl 0 (by decide) (hT _ q_44) (fun _ h9 => h9) rfl dX0_numberTold_1 ?_
  refine va_calli (va_runV (As := []) (rest := []) ⟨hx, hb, hml, hown, hT⟩ (c_X7_isSound l D cs kK kV a_tape a_tape_bytes a_tape__length a_tape__place a_tape__fault h_a_tape__fault) (cwV 0 hT (hz_gV q_420 q_421 q_422 q_221 q_423) rfl rfl rfl (by decide +kernel) ⟨(Nat.le_of_ble_eq_true rfl), (Nat.le_of_ble_eq_true rfl)⟩) ⟨hz_P.blind, va_recv hK hP (ci := 7) (q0 := 1) rfl rfl, hz_P.mk (hP.sub (ws' := [(a_tape, .inr (7, [.ref a_tape_bytes, .int a_tape__length, .int a_tape__place, .int a_tape__fault]))]) [1] rfl) hE hS⟩ rfl rfl hl.1 rfl (lv_room (Nat.le_of_ble_eq_true rfl)) dX0_numberTold_4 ⟨(Nat.le_of_ble_eq_true rfl), (Nat.le_of_ble_eq_true rfl)⟩) hS (fun _ _ h => h.elim) (fun _ h => h.elim) (fun r1 u t H1 locs ht hvm hw hB hz1 hk1 hS => ?_)
  have hP := hz_keep hP hk1
  clear hk1 hB hz1
  generalize H1 = H at hP hS ⊢
  rcases hw with ⟨rfl, h2⟩ | ⟨rfl, h3⟩
  · refine lv_if_eq (tgt := 22) hx hb dX0_numberTold_7 (by decide) (fun _ => ?_) (fun z => absurd (by decide) z)
    refine lv_iload_n hx hb dX0_numberTold_22 rfl (lv_at hl 1 rfl) ?_
    refine W.widen (k := 0) (n := 0) (Nat.le_of_ble_eq_true rfl) (Nat.le_of_ble_eq_true rfl) ?_
    exact W.iret (v := 0) hx hb hr (fun t ht hW => ⟨⟨0, (fun k => match k with | 0 => a_tape__fault | 1 => a_tape__place | _ => 0, fun _ _ => 0), rfl, (Or.inl (⟨rfl, h2, h2, h_a_tape__place⟩)), by rw [ht]; exact hP.sub [0, 1, 2] rfl, hD.sub [0, 1, 2] (by decide) rfl⟩, hS.F ht⟩) hS.2.2 dX0_numberTold_23
  · refine lv_if_eq (tgt := 22) hx hb dX0_numberTold_7 (by decide) (fun z => absurd z (by decide)) (fun _ => ?_)
    refine lv_aload_n hx hb dX0_numberTold_10 rfl (lv_at hl 0 rfl) ?_
    refine va_get (D := D) (ci := 0) (v := .ref a_tape) (C := RX0) (T := TX0) (N := 3) hx hb hT i_X0 hown hK hP 0 rfl rfl 0 (by decide) (hT _ q_44) (fun _ h9 => h9) rfl dX0_numberTold_11 ?_
    refine lv_iload_n hx hb dX0_numberTold_14 rfl (lv_at hl 1 rfl) ?_
    refine lv_iload_n hx hb dX0_numberTold_15 rfl (lv_at hl 2 rfl) ?_
    have hFc := va_free (wc := [(a_tape, .inr (7, [.ref a_tape_bytes, .int a_tape__length, .int a_tape__place, .int a_tape__fault])), (a_tape_bytes, .inl (cs 0, 400, .inl a_tape_bytes_c))]) hD hS hA [1,2] rfl
    refine va_calli (va_runV (As := [.int 0, .int 99]) (rest := []) ⟨hx, hb, hml, hown, hT⟩ (c_X7_takeNumber_63 l D cs kK kV a_tape a_tape_bytes a_tape__length a_tape__place a_tape__fault a_tape_bytes_c h_a_tape__length h_a_tape__place ((iv_w h3 (by decide) (by decide))) h_a_tape_bytes_c H.size) (cwV 2 hT (hz_gV q_472 q_473 q_474 q_221 q_475) rfl rfl rfl (by decide +kernel) ⟨(Nat.le_of_ble_eq_true rfl), (Nat.le_of_ble_eq_true rfl)⟩) ⟨hz_C.blind, va_recv hK hP (ci := 7) (q0 := 1) rfl rfl, hz_C.mk (hP.sub (ws' := [(a_tape, .inr (7, [.ref a_tape_bytes, .int a_tape__length, .int a_tape__place, .int a_tape__fault])), (a_tape_bytes, .inl (cs 0, 400, .inl a_tape_bytes_c))]) [1,2] rfl) (hD.sub (ws' := [(a_tape, .inr (7, [.ref a_tape_bytes, .int a_tape__length, .int a_tape__place, .int a_tape__fault])), (a_tape_bytes, .inl (cs 0, 400, .inl a_tape_bytes_c))]) [1,2] (by decide) rfl) hE hS hFc⟩ rfl rfl hl.1 rfl (lv_room (Nat.le_of_ble_eq_true rfl)) dX0_numberTold_16 ⟨(Nat.le_of_ble_eq_true rfl), (Nat.le_of_ble_eq_true rfl)⟩) hS (fun q _ h => hFc q h) hFc (fun r4 o5 t H1 locs ht hvm hw hB hz1 hk1 hS => ?_)
    obtain ⟨hP1, hD1⟩ := hB
    rw [ht] at hP1
    obtain ⟨hP, hD⟩ := va_join (wr := [(a, .inr (0, [.ref a_tape, .ref a_told, .int a__kindsTold]))]) (w1 := [(a_tape, .inr (7, [.ref a_tape_bytes, .int a_tape__length, .int (o5.1 1), .int (o5.1 0)])), (a_tape_bytes, .inl (cs 0, 400, .inl a_tape_bytes_c))]) hP hD [1, 2] [0] rfl rfl (by decide) (by decide) hk1 hFc hP1 hD1
    generalize H1 = H at hP hS ⊢
    have hP : va_P D classes [(a, .inr (0, [.ref a_tape, .ref a_told, .int a__kindsTold])), (a_tape, .inr (7, [.ref a_tape_bytes, .int a_tape__length, .int (o5.1 1), .int (o5.1 0)])), (a_tape_bytes, .inl (cs 0, 400, .inl a_tape_bytes_c))] H := hP
    have hD : va_D A [(a, .inr (0, [.ref a_tape, .ref a_told, .int a__kindsTold])), (a_tape, .inr (7, [.ref a_tape_bytes, .int a_tape__length, .int (o5.1 1), .int (o5.1 0)])), (a_tape_bytes, .inl (cs 0, 400, .inl a_tape_bytes_c))] := hD
    clear hk1 hFc hP1 hD1 hz1
    rcases hw with ⟨h6, h7, h8⟩ | ⟨h9, h10⟩
    · refine lv_goto (tgt := 23) hx hb dX0_numberTold_19 (by decide) ?_
      refine W.widen (k := 0) (n := 0) (Nat.le_of_ble_eq_true rfl) (Nat.le_of_ble_eq_true rfl) ?_
      exact W.iret (v := r4) hx hb hr (fun t ht hW => ⟨⟨r4, (fun k => match k with | 0 => o5.1 0 | 1 => o5.1 1 | _ => 0, fun _ _ => 0), rfl, (Or.inr (Or.inl (⟨h6, h7, h3, h8⟩))), by rw [ht]; exact hP.sub [0, 1, 2] rfl, hD.sub [0, 1, 2] (by decide) rfl⟩, hS.F ht⟩) hS.2.2 dX0_numberTold_23
    · refine lv_goto (tgt := 23) hx hb dX0_numberTold_19 (by decide) ?_
      refine W.widen (k := 0) (n := 0) (Nat.le_of_ble_eq_true rfl) (Nat.le_of_ble_eq_true rfl) ?_
      exact W.iret (v := r4) hx hb hr (fun t ht hW => ⟨⟨r4, (fun k => match k with | 0 => o5.1 0 | 1 => o5.1 1 | _ => 0, fun _ _ => 0), rfl, (Or.inr (Or.inr ((⟨h9, h3, h10⟩)))), by rw [ht]; exact hP.sub [0, 1, 2] rfl, hD.sub [0, 1, 2] (by decide) rfl⟩, hS.F ht⟩) hS.2.2 dX0_numberTold_23
set_option maxHeartbeats 4000000 in
set_option maxRecDepth 100000 in
theorem c_X7_takeNumber_65 (l : Launch) (D : va_G) (cs : Nat → ClassId) (kK kV : Nat → Nat) (a : Nat) (a_bytes : Nat) (a__length : Int32) (a__place : Int32) (a__fault : Int32) (a_bytes_c : Nat → Int32) (h_a__length : IV 0 400 a__length) (h_a__place : IV 0 400 a__place) (h_a__fault : IV 0 3205 a__fault) (h_a_bytes_c : CI 400 0 255 a_bytes_c) (sz : Nat) : Met l yX7_takeNumber (hz_w yX7_takeNumber cX7_takeNumber 5 (some .int)) ({ frames := 1, cells := 0, slots := 0, locals := 22 }) (va_Pc [.ref a, .int 0, .int 1] (hz_C D cs kK kV sz [(a, .inr (7, [.ref a_bytes, .int a__length, .int a__place, .int a__fault])), (a_bytes, .inl (cs 0, 400, .inl a_bytes_c))])) (va_Qi (fun (r : Int32) (u : (Nat → Int32) × (Nat → Nat → Int32)) => (IV 0 1 r ∧ IV 0 3205 (u.1 0) ∧ IV 0 400 (u.1 1)) ∨ (IV 1 3205 (u.1 0) ∧ IV 0 400 (u.1 1))) (fun u t => va_P D classes [(a, .inr (7, [.ref a_bytes, .int a__length, .int (u.1 1), .int (u.1 0)])), (a_bytes, .inl (cs 0, 400, .inl a_bytes_c))] t.heap ∧ va_D (va_A [(a, .inr (7, [.ref a_bytes, .int a__length, .int a__place, .int a__fault])), (a_bytes, .inl (cs 0, 400, .inl a_bytes_c))] sz) [(a, .inr (7, [.ref a_bytes, .int a__length, .int (u.1 1), .int (u.1 0)])), (a_bytes, .inl (cs 0, 400, .inl a_bytes_c))]) (va_A [(a, .inr (7, [.ref a_bytes, .int a__length, .int a__place, .int a__fault])), (a_bytes, .inl (cs 0, 400, .inl a_bytes_c))] sz)) 0 0 (va_A [(a, .inr (7, [.ref a_bytes, .int a__length, .int a__place, .int a__fault])), (a_bytes, .inl (cs 0, 400, .inl a_bytes_c))] sz) := by
  refine Met.ofW (cc := cX7_takeNumber) (maxL := 5) (ret := (some .int)) (by decide) rfl ?_
  intro p e s m args below meth c s₁ B hml hv
  obtain ⟨rfl, hsz, hP, hD0, hE⟩ := hv
  have hx := B.exec
  have hb := B.bytes
  have hr := B.returns
  have hT : ∀ w ∈ TB, w.before _ s = true := fun w h => atoms_spec (ws := hz_w yX7_takeNumber cX7_takeNumber 5 (some .int)) B.pre w (List.mem_cons_of_mem _ h)
  have hown : s.vm.findClass RX7 = some m.cls := findClass_of_methodNamed B.named
  have hlocks := B.notSynchronized
  clear B
  subst hsz
  have hD := hD0.self (sz := s.heap.size)
  generalize hAe : va_A [(a, .inr (7, [.ref a_bytes, .int a__length, .int a__place, .int a__fault])), (a_bytes, .inl (cs 0, 400, .inl a_bytes_c))] s.heap.size = A at hD hE ⊢
  have hA : ∀ q : Nat, s.heap.size ≤ q → A q := fun q h => by rw [← hAe]; exact Or.inr h
  clear hAe hD0
  have hS : va_S A s.heap s.heap [] := va_S.rf
  have hK := hE.1
  have hl := lv_entry ([.ref a, .int 0, .int 1]) (n := 5) (Nat.le_of_ble_eq_true rfl)
  rw [lg_entry_eq]
  generalize (lg_sl ([.ref a, .int 0, .int 1]) ++ List.replicate (5 - (lg_sl ([.ref a, .int 0, .int 1])).length) Slot.unset).toArray = ls at hl ⊢
  have hl : lv_has ls 5 [(0, .ref a), (1, .int 0), (2, .int 1)] := hl
  obtain ⟨H, eH⟩ : ∃ z, z = s.heap := ⟨_, rfl⟩
  have hP : va_P D classes [(a, .inr (7, [.ref a_bytes, .int a__length, .int a__place, .int a__fault])), (a_bytes, .inl (cs 0, 400, .inl a_bytes_c))] H := by rw [eH]; exact hP
  have hS : va_S A s.heap H [] := by rw [eH]; exact hS
  rw [← eH]
  clear eH
  obtain ⟨locs, el⟩ : ∃ z : List Loc, z = [] := ⟨_, rfl⟩
  rw [← el] at hS ⊢
  clear el
  have K133 : ∀ (k133_L_4 : Int32) (k133_L_3 : Int32) (k133_F_a_2 : Int32), IV 0 400 k133_F_a_2 → IV 0 400 k133_L_3 → ∀ (H : Heap) (locs : List Loc), va_P D classes [(a, .inr (7, [.ref a_bytes, .int a__length, .int k133_F_a_2, .int a__fault])), (a_bytes, .inl (cs 0, 400, .inl a_bytes_c))] H → va_D A [(a, .inr (7, [.ref a_bytes, .int a__length, .int k133_F_a_2, .int a__fault])), (a_bytes, .inl (cs 0, 400, .inl a_bytes_c))] → va_S A s.heap H locs → ∀ ls : Array Slot, lv_has ls 5 [(4, .int k133_L_4), (3, .int k133_L_3), (0, .ref a), (1, .int 0), (2, .int 1)] → W p l e (headSpec (hz_w yX7_takeNumber cX7_takeNumber 5 (some .int)) ({ frames := 1, cells := 0, slots := 0, locals := 22 })).room s m [.ref a, .int 0, .int 1].toArray below meth c H locs 0 0 (MQ below (va_Qi (fun (r : Int32) (u : (Nat → Int32) × (Nat → Nat → Int32)) => (IV 0 1 r ∧ IV 0 3205 (u.1 0) ∧ IV 0 400 (u.1 1)) ∨ (IV 1 3205 (u.1 0) ∧ IV 0 400 (u.1 1))) (fun u t => va_P D classes [(a, .inr (7, [.ref a_bytes, .int a__length, .int (u.1 1), .int (u.1 0)])), (a_bytes, .inl (cs 0, 400, .inl a_bytes_c))] t.heap ∧ va_D A [(a, .inr (7, [.ref a_bytes, .int a__length, .int (u.1 1), .int (u.1 0)])), (a_bytes, .inl (cs 0, 400, .inl a_bytes_c))]) A) [.ref a, .int 0, .int 1].toArray s 0 0 A) (F0 m 133 ls []) := by
    intro k133_L_4 k133_L_3 k133_F_a_2 q133_2 q133_3 H locs hP hD hS ls hl
    refine lv_aload_n hx hb dX7_takeNumber_133 rfl (lv_at hl 2 rfl) ?_
    refine lv_iload_n hx hb dX7_takeNumber_134 rfl (lv_at hl 1 rfl) ?_
    refine lv_iconst (v := 1) hx hb dX7_takeNumber_135 (by decide) ?_
    have hFc := va_free (wc := [(a, .inr (7, [.ref a_bytes, .int a__length, .int k133_F_a_2, .int a__fault]))]) hD hS hA [0] rfl
    refine va_callv (va_runV (As := [.int k133_L_3, .int 1]) (rest := []) ⟨hx, hb, hml, hown, hT⟩ (c_X7_fail l D cs kK kV a k133_L_3 1 a_bytes a__length k133_F_a_2 a__fault q133_3 ((iv_c (by decide))) h_a__fault H.size) (cwV 2 hT (hz_gV q_633 q_445 q_446 q_221 q_447) rfl rfl rfl (by decide +kernel) ⟨(Nat.le_of_ble_eq_true rfl), (Nat.le_of_ble_eq_true rfl)⟩) ⟨hz_C.blind, va_recv hK hP (ci := 7) (q0 := 0) rfl rfl, hz_C.mk (hP.sub (ws' := [(a, .inr (7, [.ref a_bytes, .int a__length, .int k133_F_a_2, .int a__fault]))]) [0] rfl) (hD.sub (ws' := [(a, .inr (7, [.ref a_bytes, .int a__length, .int k133_F_a_2, .int a__fault]))]) [0] (by decide) rfl) hE hS hFc⟩ rfl rfl hl.1 rfl (lv_room (Nat.le_of_ble_eq_true rfl)) dX7_takeNumber_136 ⟨(Nat.le_of_ble_eq_true rfl), (Nat.le_of_ble_eq_true rfl)⟩) hS (fun q _ h => hFc q h) hFc (fun o2 t H1 locs ht hvm hw hB hz1 hk1 hS => ?_)
    obtain ⟨hP1, hD1⟩ := hB
    rw [ht] at hP1
    obtain ⟨hP, hD⟩ := va_join (wr := [(a_bytes, .inl (cs 0, 400, .inl a_bytes_c))]) (w1 := [(a, .inr (7, [.ref a_bytes, .int a__length, .int k133_F_a_2, .int (o2.1 0)]))]) hP hD [0] [1] rfl rfl (by decide) (by decide) hk1 hFc hP1 hD1
    generalize H1 = H at hP hS ⊢
    have hP : va_P D classes [(a_bytes, .inl (cs 0, 400, .inl a_bytes_c)), (a, .inr (7, [.ref a_bytes, .int a__length, .int k133_F_a_2, .int (o2.1 0)]))] H := hP
    have hD : va_D A [(a_bytes, .inl (cs 0, 400, .inl a_bytes_c)), (a, .inr (7, [.ref a_bytes, .int a__length, .int k133_F_a_2, .int (o2.1 0)]))] := hD
    clear hk1 hFc hP1 hD1 hz1
    have h3 := hw
    refine lv_iload hx hb dX7_takeNumber_139 (lv_at hl 0 rfl) ?_
    refine W.widen (k := 0) (n := 0) (Nat.le_of_ble_eq_true rfl) (Nat.le_of_ble_eq_true rfl) ?_
    exact W.iret (v := k133_L_4) hx hb hr (fun t ht hW => ⟨⟨k133_L_4, (fun k => match k with | 0 => o2.1 0 | 1 => k133_F_a_2 | _ => 0, fun _ _ => 0), rfl, (Or.inr ((⟨h3, q133_2⟩))), by rw [ht]; exact hP.sub [1, 0] rfl, hD.sub [1, 0] (by decide) rfl⟩, hS.F ht⟩) hS.2.2 dX7_takeNumber_141
  have K94 : ∀ (k94_L_4 : Int32) (k94_L_3 : Int32) (k94_F_a_2 : Int32), IV 0 400 k94_F_a_2 → IV 0 400 k94_L_3 → ∀ (H : Heap) (locs : List Loc), va_P D classes [(a, .inr (7, [.ref a_bytes, .int a__length, .int k94_F_a_2, .int a__fault])), (a_bytes, .inl (cs 0, 400, .inl a_bytes_c))] H → va_D A [(a, .inr (7, [.ref a_bytes, .int a__length, .int k94_F_a_2, .int a__fault])), (a_bytes, .inl (cs 0, 400, .inl a_bytes_c))] → va_S A s.heap H locs → ∀ ls : Array Slot, lv_has ls 5 [(4, .int k94_L_4), (3, .int k94_L_3), (0, .ref a), (1, .int 0), (2, .int 1)] → W p l e (headSpec (hz_w yX7_takeNumber cX7_takeNumber 5 (some .int)) ({ frames := 1, cells := 0, slots := 0, locals := 22 })).room s m [.ref a, .int 0, .int 1].toArray below meth c H locs 0 0 (MQ below (va_Qi (fun (r : Int32) (u : (Nat → Int32) × (Nat → Nat → Int32)) => (IV 0 1 r ∧ IV 0 3205 (u.1 0) ∧ IV 0 400 (u.1 1)) ∨ (IV 1 3205 (u.1 0) ∧ IV 0 400 (u.1 1))) (fun u t => va_P D classes [(a, .inr (7, [.ref a_bytes, .int a__length, .int (u.1 1), .int (u.1 0)])), (a_bytes, .inl (cs 0, 400, .inl a_bytes_c))] t.heap ∧ va_D A [(a, .inr (7, [.ref a_bytes, .int a__length, .int (u.1 1), .int (u.1 0)])), (a_bytes, .inl (cs 0, 400, .inl a_bytes_c))]) A) [.ref a, .int 0, .int 1].toArray s 0 0 A) (F0 m 94 ls []) := by
    intro k94_L_4 k94_L_3 k94_F_a_2 q94_2 q94_3 H locs hP hD hS ls hl
    refine lv_aload_n hx hb dX7_takeNumber_94 rfl (lv_at hl 2 rfl) ?_
    refine va_get (D := D) (ci := 7) (v := .int k94_F_a_2) (C := RX7) (T := TX7) (N := 4) hx hb hT i_X7 hown hK hP 0 rfl rfl 2 (by decide) (hT _ q_129) (fun _ h9 => h9) rfl dX7_takeNumber_95 ?_
    refine lv_iload_n hx hb dX7_takeNumber_98 rfl (lv_at hl 1 rfl) ?_
    refine lv_icmp_ne (tgt := 111) hx hb dX7_takeNumber_99 (by decide) (fun c4 => ?_) (fun c4 => ?_)
    · refine lv_aload_n hx hb dX7_takeNumber_111 rfl (lv_at hl 2 rfl) ?_
      refine va_get (D := D) (ci := 7) (v := .int k94_F_a_2) (C := RX7) (T := TX7) (N := 4) hx hb hT i_X7 hown hK hP 0 rfl rfl 2 (by decide) (hT _ q_129) (fun _ h9 => h9) rfl dX7_takeNumber_112 ?_
      refine lv_iload_n hx hb dX7_takeNumber_115 rfl (lv_at hl 1 rfl) ?_
      refine lv_isub hx hb dX7_takeNumber_116 ?_
      refine lv_topi (fun v5 ev5 => ?_)
      have hv5 : IV (-400) 400 v5 := iv_sub ev5 q94_2 q94_3 (by decide) (by decide)
      refine lv_iconst (v := 5) hx hb dX7_takeNumber_117 (by decide) ?_
      refine lv_icmp_gt (tgt := 133) hx hb dX7_takeNumber_118 (by decide) (fun c6 => ?_) (fun c6 => ?_)
      · have h7 : IV 6 400 v5 := iv_lt2 c6 (iv_c (a := 5) (b := 5) (by decide)) hv5 (by decide)
        exact K133 k94_L_4 k94_L_3 k94_F_a_2 q94_2 q94_3 H locs (hP.sub (ws' := [(a, .inr (7, [.ref a_bytes, .int a__length, .int k94_F_a_2, .int a__fault])), (a_bytes, .inl (cs 0, 400, .inl a_bytes_c))]) [0, 1] rfl) (hD.sub (ws' := [(a, .inr (7, [.ref a_bytes, .int a__length, .int k94_F_a_2, .int a__fault])), (a_bytes, .inl (cs 0, 400, .inl a_bytes_c))]) [0, 1] (by decide) rfl) hS ls (lv_sub hl [0, 1, 2, 3, 4] rfl)
      · have h8 : IV (-400) 5 v5 := iv_le1 (Int32.not_lt.mp c6) hv5 (iv_c (a := 5) (b := 5) (by decide)) (by decide)
        refine lv_iload hx hb dX7_takeNumber_121 (lv_at hl 0 rfl) ?_
        refine lv_iload_n hx hb dX7_takeNumber_123 rfl (lv_at hl 3 rfl) ?_
        refine lv_icmp_lt (tgt := 133) hx hb dX7_takeNumber_124 (by decide) (fun c9 => ?_) (fun c9 => ?_)
        · have h10 : IV (-2147483648) (-1) k94_L_4 := iv_lt1 c9 iv_top (iv_c (a := 0) (b := 0) (by decide)) (by decide)
          exact K133 k94_L_4 k94_L_3 k94_F_a_2 q94_2 q94_3 H locs (hP.sub (ws' := [(a, .inr (7, [.ref a_bytes, .int a__length, .int k94_F_a_2, .int a__fault])), (a_bytes, .inl (cs 0, 400, .inl a_bytes_c))]) [0, 1] rfl) (hD.sub (ws' := [(a, .inr (7, [.ref a_bytes, .int a__length, .int k94_F_a_2, .int a__fault])), (a_bytes, .inl (cs 0, 400, .inl a_bytes_c))]) [0, 1] (by decide) rfl) hS ls (lv_sub hl [0, 1, 2, 3, 4] rfl)
        · have h11 : IV 0 2147483647 k94_L_4 := iv_le2 (Int32.not_lt.mp c9) (iv_c (a := 0) (b := 0) (by decide)) iv_top (by decide)
          refine lv_iload hx hb dX7_takeNumber_127 (lv_at hl 0 rfl) ?_
          refine lv_iload_n hx hb dX7_takeNumber_129 rfl (lv_at hl 4 rfl) ?_
          refine lv_icmp_le (tgt := 139) hx hb dX7_takeNumber_130 (by decide) (fun c12 => ?_) (fun c12 => ?_)
          · have h13 : IV 0 1 k94_L_4 := iv_le1 c12 h11 (iv_c (a := 1) (b := 1) (by decide)) (by decide)
            refine lv_iload hx hb dX7_takeNumber_139 (lv_at hl 0 rfl) ?_
            refine W.widen (k := 0) (n := 0) (Nat.le_of_ble_eq_true rfl) (Nat.le_of_ble_eq_true rfl) ?_
            exact W.iret (v := k94_L_4) hx hb hr (fun t ht hW => ⟨⟨k94_L_4, (fun k => match k with | 0 => a__fault | 1 => k94_F_a_2 | _ => 0, fun _ _ => 0), rfl, (Or.inl (⟨h13, h_a__fault, q94_2⟩)), by rw [ht]; exact hP.sub [0, 1] rfl, hD.sub [0, 1] (by decide) rfl⟩, hS.F ht⟩) hS.2.2 dX7_takeNumber_141
          · have h14 : IV 2 2147483647 k94_L_4 := iv_lt2 (Int32.not_le.mp c12) (iv_c (a := 1) (b := 1) (by decide)) h11 (by decide)
            exact K133 k94_L_4 k94_L_3 k94_F_a_2 q94_2 q94_3 H locs (hP.sub (ws' := [(a, .inr (7, [.ref a_bytes, .int a__length, .int k94_F_a_2, .int a__fault])), (a_bytes, .inl (cs 0, 400, .inl a_bytes_c))]) [0, 1] rfl) (hD.sub (ws' := [(a, .inr (7, [.ref a_bytes, .int a__length, .int k94_F_a_2, .int a__fault])), (a_bytes, .inl (cs 0, 400, .inl a_bytes_c))]) [0, 1] (by decide) rfl) hS ls (lv_sub hl [0, 1, 2, 3, 4] rfl)
    · refine lv_aload_n hx hb dX7_takeNumber_102 rfl (lv_at hl 2 rfl) ?_
      refine lv_iload_n hx hb dX7_takeNumber_103 rfl (lv_at hl 1 rfl) ?_
      refine lv_iconst (v := 0) hx hb dX7_takeNumber_104 (by decide) ?_
      have hFc := va_free (wc := [(a, .inr (7, [.ref a_bytes, .int a__length, .int k94_F_a_2, .int a__fault]))]) hD hS hA [0] rfl
      refine va_callv (va_runV (As := [.int k94_L_3, .int 0]) (rest := []) ⟨hx, hb, hml, hown, hT⟩ (c_X7_fail l D cs kK kV a k94_L_3 0 a_bytes a__length k94_F_a_2 a__fault q94_3 ((iv_c (by decide))) h_a__fault H.size) (cwV 2 hT (hz_gV q_633 q_445 q_446 q_221 q_447) rfl rfl rfl (by decide +kernel) ⟨(Nat.le_of_ble_eq_true rfl), (Nat.le_of_ble_eq_true rfl)⟩) ⟨hz_C.blind, va_recv hK hP (ci := 7) (q0 := 0) rfl rfl, hz_C.mk (hP.sub (ws' := [(a, .inr (7, [.ref a_bytes, .int a__length, .int k94_F_a_2, .int a__fault]))]) [0] rfl) (hD.sub (ws' := [(a, .inr (7, [.ref a_bytes, .int a__length, .int k94_F_a_2, .int a__fault]))]) [0] (by decide) rfl) hE hS hFc⟩ rfl rfl hl.1 rfl (lv_room (Nat.le_of_ble_eq_true rfl)) dX7_takeNumber_105 ⟨(Nat.le_of_ble_eq_true rfl), (Nat.le_of_ble_eq_true rfl)⟩) hS (fun q _ h => hFc q h) hFc (fun o16 t H1 locs ht hvm hw hB hz1 hk1 hS => ?_)
      obtain ⟨hP1, hD1⟩ := hB
      rw [ht] at hP1
      obtain ⟨hP, hD⟩ := va_join (wr := [(a_bytes, .inl (cs 0, 400, .inl a_bytes_c))]) (w1 := [(a, .inr (7, [.ref a_bytes, .int a__length, .int k94_F_a_2, .int (o16.1 0)]))]) hP hD [0] [1] rfl rfl (by decide) (by decide) hk1 hFc hP1 hD1
      generalize H1 = H at hP hS ⊢
      have hP : va_P D classes [(a_bytes, .inl (cs 0, 400, .inl a_bytes_c)), (a, .inr (7, [.ref a_bytes, .int a__length, .int k94_F_a_2, .int (o16.1 0)]))] H := hP
      have hD : va_D A [(a_bytes, .inl (cs 0, 400, .inl a_bytes_c)), (a, .inr (7, [.ref a_bytes, .int a__length, .int k94_F_a_2, .int (o16.1 0)]))] := hD
      clear hk1 hFc hP1 hD1 hz1
      have h17 := hw
      refine lv_goto (tgt := 139) hx hb dX7_takeNumber_108 (by decide) ?_
      refine lv_iload hx hb dX7_takeNumber_139 (lv_at hl 0 rfl) ?_
      refine W.widen (k := 0) (n := 0) (Nat.le_of_ble_eq_true rfl) (Nat.le_of_ble_eq_true rfl) ?_
      exact W.iret (v := k94_L_4) hx hb hr (fun t ht hW => ⟨⟨k94_L_4, (fun k => match k with | 0 => o16.1 0 | 1 => k94_F_a_2 | _ => 0, fun _ _ => 0), rfl, (Or.inr ((⟨h17, q94_2⟩))), by rw [ht]; exact hP.sub [1, 0] rfl, hD.sub [1, 0] (by decide) rfl⟩, hS.F ht⟩) hS.2.2 dX7_takeNumber_141
  have K12 : ∀ (n : Nat) (k12_L_4 : Int32) (k12_L_3 : Int32) (k12_F_a_2 : Int32), (400 - k12_F_a_2.toInt + 1).toNat ≤ n → IV 0 400 k12_F_a_2 → IV 0 400 k12_L_3 → ∀ (H : Heap) (locs : List Loc), va_P D classes [(a, .inr (7, [.ref a_bytes, .int a__length, .int k12_F_a_2, .int a__fault])), (a_bytes, .inl (cs 0, 400, .inl a_bytes_c))] H → va_D A [(a, .inr (7, [.ref a_bytes, .int a__length, .int k12_F_a_2, .int a__fault])), (a_bytes, .inl (cs 0, 400, .inl a_bytes_c))] → va_S A s.heap H locs → ∀ ls : Array Slot, lv_has ls 5 [(4, .int k12_L_4), (3, .int k12_L_3), (0, .ref a), (1, .int 0), (2, .int 1)] → W p l e (headSpec (hz_w yX7_takeNumber cX7_takeNumber 5 (some .int)) ({ frames := 1, cells := 0, slots := 0, locals := 22 })).room s m [.ref a, .int 0, .int 1].toArray below meth c H locs 0 0 (MQ below (va_Qi (fun (r : Int32) (u : (Nat → Int32) × (Nat → Nat → Int32)) => (IV 0 1 r ∧ IV 0 3205 (u.1 0) ∧ IV 0 400 (u.1 1)) ∨ (IV 1 3205 (u.1 0) ∧ IV 0 400 (u.1 1))) (fun u t => va_P D classes [(a, .inr (7, [.ref a_bytes, .int a__length, .int (u.1 1), .int (u.1 0)])), (a_bytes, .inl (cs 0, 400, .inl a_bytes_c))] t.heap ∧ va_D A [(a, .inr (7, [.ref a_bytes, .int a__length, .int (u.1 1), .int (u.1 0)])), (a_bytes, .inl (cs 0, 400, .inl a_bytes_c))]) A) [.ref a, .int 0, .int 1].toArray s 0 0 A) (F0 m 12 ls []) := by
    intro n
    induction n with
    | zero =>
      intro k12_L_4 k12_L_3 k12_F_a_2 hn q12_2 q12_3 H locs hP hD hS ls hl
      exact absurd hn (by unfold IV at q12_2; omega)
    | succ n ih12 =>
      intro k12_L_4 k12_L_3 k12_F_a_2 hn q12_2 q12_3 H locs hP hD hS ls hl
      have K81 : ∀ (k81_L_4 : Int32), IV 1 400 a__length → IV 0 399 k12_F_a_2 → IV 0 400 k12_L_3 → ∀ (H : Heap) (locs : List Loc), va_P D classes [(a, .inr (7, [.ref a_bytes, .int a__length, .int k12_F_a_2, .int a__fault])), (a_bytes, .inl (cs 0, 400, .inl a_bytes_c))] H → va_D A [(a, .inr (7, [.ref a_bytes, .int a__length, .int k12_F_a_2, .int a__fault])), (a_bytes, .inl (cs 0, 400, .inl a_bytes_c))] → va_S A s.heap H locs → ∀ ls : Array Slot, lv_has ls 5 [(4, .int k81_L_4), (3, .int k12_L_3), (0, .ref a), (1, .int 0), (2, .int 1)] → W p l e (headSpec (hz_w yX7_takeNumber cX7_takeNumber 5 (some .int)) ({ frames := 1, cells := 0, slots := 0, locals := 22 })).room s m [.ref a, .int 0, .int 1].toArray below meth c H locs 0 0 (MQ below (va_Qi (fun (r : Int32) (u : (Nat → Int32) × (Nat → Nat → Int32)) => (IV 0 1 r ∧ IV 0 3205 (u.1 0) ∧ IV 0 400 (u.1 1)) ∨ (IV 1 3205 (u.1 0) ∧ IV 0 400 (u.1 1))) (fun u t => va_P D classes [(a, .inr (7, [.ref a_bytes, .int a__length, .int (u.1 1), .int (u.1 0)])), (a_bytes, .inl (cs 0, 400, .inl a_bytes_c))] t.heap ∧ va_D A [(a, .inr (7, [.ref a_bytes, .int a__length, .int (u.1 1), .int (u.1 0)])), (a_bytes, .inl (cs 0, 400, .inl a_bytes_c))]) A) [.ref a, .int 0, .int 1].toArray s 0 0 A) (F0 m 81 ls []) := by
        intro k81_L_4 q81_1 q81_2 q81_3 H locs hP hD hS ls hl
        refine lv_aload_n hx hb dX7_takeNumber_81 rfl (lv_at hl 2 rfl) ?_
        refine lv_dup hx hb dX7_takeNumber_82 rfl ?_
        refine va_get (D := D) (ci := 7) (v := .int k12_F_a_2) (C := RX7) (T := TX7) (N := 4) hx hb hT i_X7 hown hK hP 0 rfl rfl 2 (by decide) (hT _ q_129) (fun _ h9 => h9) rfl dX7_takeNumber_83 ?_
        refine lv_iconst (v := 1) hx hb dX7_takeNumber_86 (by decide) ?_
        refine lv_iadd hx hb dX7_takeNumber_87 ?_
        refine lv_topi (fun v18 ev18 => ?_)
        have hv18 : IV 1 400 v18 := iv_add ev18 q81_2 (iv_c (a := 1) (b := 1) (by decide)) (by decide) (by decide)
        have dv18 : v18.toInt = k12_F_a_2.toInt + 1 := iv_addE ev18 q81_2 (iv_c (a := 1) (b := 1) (by decide)) (by decide) (by decide) (by decide)
        refine va_put (D := D) (ci := 7) (v := .int v18) (ty := .int) (C := RX7) (T := TX7) (N := 4) hx hb hT i_X7 tyX7 tyX7_ok nmX7 hown hK hP hD hS 0 rfl rfl 2 (by decide) (hT _ q_129) (fun _ h9 => h9) rfl (by decide +kernel) rfl rfl (Nat.le_of_ble_eq_true rfl) dX7_takeNumber_88 (fun H locs hP hD hS => ?_)
        have hP : va_P D classes [(a, .inr (7, [.ref a_bytes, .int a__length, .int v18, .int a__fault])), (a_bytes, .inl (cs 0, 400, .inl a_bytes_c))] H := hP
        have hD : va_D A [(a, .inr (7, [.ref a_bytes, .int a__length, .int v18, .int a__fault])), (a_bytes, .inl (cs 0, 400, .inl a_bytes_c))] := hD
        refine lv_goto (tgt := 12) hx hb dX7_takeNumber_91 (by decide) ?_
        exact ih12 k81_L_4 k12_L_3 v18 (by have h9 := q81_2; unfold IV at h9; have := dv18; omega) (iv_w hv18 (by decide) (by decide)) q81_3 H locs (hP.sub (ws' := [(a, .inr (7, [.ref a_bytes, .int a__length, .int v18, .int a__fault])), (a_bytes, .inl (cs 0, 400, .inl a_bytes_c))]) [0, 1] rfl) (hD.sub (ws' := [(a, .inr (7, [.ref a_bytes, .int a__length, .int v18, .int a__fault])), (a_bytes, .inl (cs 0, 400, .inl a_bytes_c))]) [0, 1] (by decide) rfl) hS ls (lv_sub hl [0, 1, 2, 3, 4] rfl)
      refine lv_aload_n hx hb dX7_takeNumber_12 rfl (lv_at hl 2 rfl) ?_
      refine va_get (D := D) (ci := 7) (v := .int k12_F_a_2) (C := RX7) (T := TX7) (N := 4) hx hb hT i_X7 hown hK hP 0 rfl rfl 2 (by decide) (hT _ q_129) (fun _ h9 => h9) rfl dX7_takeNumber_13 ?_
      refine lv_aload_n hx hb dX7_takeNumber_16 rfl (lv_at hl 2 rfl) ?_
      refine va_get (D := D) (ci := 7) (v := .int a__length) (C := RX7) (T := TX7) (N := 4) hx hb hT i_X7 hown hK hP 0 rfl rfl 1 (by decide) (hT _ q_128) (fun _ h9 => h9) rfl dX7_takeNumber_17 ?_
      refine lv_icmp_ge (tgt := 94) hx hb dX7_takeNumber_20 (by decide) (fun c19 => ?_) (fun c19 => ?_)
      · exact K94 k12_L_4 k12_L_3 k12_F_a_2 q12_2 q12_3 H locs (hP.sub (ws' := [(a, .inr (7, [.ref a_bytes, .int a__length, .int k12_F_a_2, .int a__fault])), (a_bytes, .inl (cs 0, 400, .inl a_bytes_c))]) [0, 1] rfl) (hD.sub (ws' := [(a, .inr (7, [.ref a_bytes, .int a__length, .int k12_F_a_2, .int a__fault])), (a_bytes, .inl (cs 0, 400, .inl a_bytes_c))]) [0, 1] (by decide) rfl) hS ls (lv_sub hl [0, 1, 2, 3, 4] rfl)
      · have h20 : IV 0 399 k12_F_a_2 := iv_lt1 (Int32.not_le.mp c19) q12_2 h_a__length (by decide)
        have h21 : IV 1 400 a__length := iv_lt2 (Int32.not_le.mp c19) q12_2 h_a__length (by decide)
        refine lv_aload_n hx hb dX7_takeNumber_23 rfl (lv_at hl 2 rfl) ?_
        refine va_get (D := D) (ci := 7) (v := .ref a_bytes) (C := RX7) (T := TX7) (N := 4) hx hb hT i_X7 hown hK hP 0 rfl rfl 0 (by decide) (hT _ q_127) (fun _ h9 => h9) rfl dX7_takeNumber_24 ?_
        refine lv_aload_n hx hb dX7_takeNumber_27 rfl (lv_at hl 2 rfl) ?_
        refine va_get (D := D) (ci := 7) (v := .int k12_F_a_2) (C := RX7) (T := TX7) (N := 4) hx hb hT i_X7 hown hK hP 0 rfl rfl 2 (by decide) (hT _ q_129) (fun _ h9 => h9) rfl dX7_takeNumber_28 ?_
        refine va_iald hx hb hK hP 1 0 rfl rfl (iv_v h20 (by decide) (by decide)) dX7_takeNumber_31 ?_
        refine lv_topi (fun v22 ev22 => ?_)
        have hv22 : IV 0 255 v22 := iv_ci ev22 h_a_bytes_c (iv_v h20 (by decide) (by decide))
        refine lv_bipush (v := 48) hx hb dX7_takeNumber_32 (by decide) ?_
        refine lv_icmp_lt (tgt := 94) hx hb dX7_takeNumber_34 (by decide) (fun c23 => ?_) (fun c23 => ?_)
        · have h24 : IV 0 47 v22 := iv_lt1 c23 hv22 (iv_c (a := 48) (b := 48) (by decide)) (by decide)
          exact K94 k12_L_4 k12_L_3 k12_F_a_2 (iv_w h20 (by decide) (by decide)) q12_3 H locs (hP.sub (ws' := [(a, .inr (7, [.ref a_bytes, .int a__length, .int k12_F_a_2, .int a__fault])), (a_bytes, .inl (cs 0, 400, .inl a_bytes_c))]) [0, 1] rfl) (hD.sub (ws' := [(a, .inr (7, [.ref a_bytes, .int a__length, .int k12_F_a_2, .int a__fault])), (a_bytes, .inl (cs 0, 400, .inl a_bytes_c))]) [0, 1] (by decide) rfl) hS ls (lv_sub hl [0, 1, 2, 3, 4] rfl)
        · have h25 : IV 48 255 v22 := iv_le2 (Int32.not_lt.mp c23) (iv_c (a := 48) (b := 48) (by decide)) hv22 (by decide)
          refine lv_aload_n hx hb dX7_takeNumber_37 rfl (lv_at hl 2 rfl) ?_
          refine va_get (D := D) (ci := 7) (v := .ref a_bytes) (C := RX7) (T := TX7) (N := 4) hx hb hT i_X7 hown hK hP 0 rfl rfl 0 (by decide) (hT _ q_127) (fun _ h9 => h9) rfl dX7_takeNumber_38 ?_
          refine lv_aload_n hx hb dX7_takeNumber_41 rfl (lv_at hl 2 rfl) ?_
          refine va_get (D := D) (ci := 7) (v := .int k12_F_a_2) (C := RX7) (T := TX7) (N := 4) hx hb hT i_X7 hown hK hP 0 rfl rfl 2 (by decide) (hT _ q_129) (fun _ h9 => h9) rfl dX7_takeNumber_42 ?_
          refine va_iald hx hb hK hP 1 0 rfl rfl (iv_v h20 (by decide) (by decide)) dX7_takeNumber_45 ?_
          refine hz_ev v22 ev22.symm ?_
          refine lv_bipush (v := 57) hx hb dX7_takeNumber_46 (by decide) ?_
          refine lv_icmp_gt (tgt := 94) hx hb dX7_takeNumber_48 (by decide) (fun c26 => ?_) (fun c26 => ?_)
          · have h27 : IV 58 255 v22 := iv_lt2 c26 (iv_c (a := 57) (b := 57) (by decide)) h25 (by decide)
            exact K94 k12_L_4 k12_L_3 k12_F_a_2 (iv_w h20 (by decide) (by decide)) q12_3 H locs (hP.sub (ws' := [(a, .inr (7, [.ref a_bytes, .int a__length, .int k12_F_a_2, .int a__fault])), (a_bytes, .inl (cs 0, 400, .inl a_bytes_c))]) [0, 1] rfl) (hD.sub (ws' := [(a, .inr (7, [.ref a_bytes, .int a__length, .int k12_F_a_2, .int a__fault])), (a_bytes, .inl (cs 0, 400, .inl a_bytes_c))]) [0, 1] (by decide) rfl) hS ls (lv_sub hl [0, 1, 2, 3, 4] rfl)
          · have h28 : IV 48 57 v22 := iv_le1 (Int32.not_lt.mp c26) h25 (iv_c (a := 57) (b := 57) (by decide)) (by decide)
            refine lv_aload_n hx hb dX7_takeNumber_51 rfl (lv_at hl 2 rfl) ?_
            refine va_get (D := D) (ci := 7) (v := .int k12_F_a_2) (C := RX7) (T := TX7) (N := 4) hx hb hT i_X7 hown hK hP 0 rfl rfl 2 (by decide) (hT _ q_129) (fun _ h9 => h9) rfl dX7_takeNumber_52 ?_
            refine lv_iload_n hx hb dX7_takeNumber_55 rfl (lv_at hl 1 rfl) ?_
            refine lv_isub hx hb dX7_takeNumber_56 ?_
            refine lv_topi (fun v29 ev29 => ?_)
            have hv29 : IV (-400) 399 v29 := iv_sub ev29 h20 q12_3 (by decide) (by decide)
            refine lv_iconst (v := 5) hx hb dX7_takeNumber_57 (by decide) ?_
            refine lv_icmp_ge (tgt := 81) hx hb dX7_takeNumber_58 (by decide) (fun c30 => ?_) (fun c30 => ?_)
            · have h31 : IV 5 399 v29 := iv_le2 c30 (iv_c (a := 5) (b := 5) (by decide)) hv29 (by decide)
              exact K81 k12_L_4 h21 h20 q12_3 H locs (hP.sub (ws' := [(a, .inr (7, [.ref a_bytes, .int a__length, .int k12_F_a_2, .int a__fault])), (a_bytes, .inl (cs 0, 400, .inl a_bytes_c))]) [0, 1] rfl) (hD.sub (ws' := [(a, .inr (7, [.ref a_bytes, .int a__length, .int k12_F_a_2, .int a__fault])), (a_bytes, .inl (cs 0, 400, .inl a_bytes_c))]) [0, 1] (by decide) rfl) hS ls (lv_sub hl [0, 1, 2, 3, 4] rfl)
            · have h32 : IV (-400) 4 v29 := iv_lt1 (Int32.not_le.mp c30) hv29 (iv_c (a := 5) (b := 5) (by decide)) (by decide)
              refine lv_iload hx hb dX7_takeNumber_61 (lv_at hl 0 rfl) ?_
              refine lv_bipush (v := 10) hx hb dX7_takeNumber_63 (by decide) ?_
              refine lv_imul hx hb dX7_takeNumber_65 ?_
              refine lv_topi (fun v33 ev33 => ?_)
              refine lv_aload_n hx hb dX7_takeNumber_66 rfl (lv_at hl 2 rfl) ?_
              refine va_get (D := D) (ci := 7) (v := .ref a_bytes) (C := RX7) (T := TX7) (N := 4) hx hb hT i_X7 hown hK hP 0 rfl rfl 0 (by decide) (hT _ q_127) (fun _ h9 => h9) rfl dX7_takeNumber_67 ?_
              refine lv_aload_n hx hb dX7_takeNumber_70 rfl (lv_at hl 2 rfl) ?_
              refine va_get (D := D) (ci := 7) (v := .int k12_F_a_2) (C := RX7) (T := TX7) (N := 4) hx hb hT i_X7 hown hK hP 0 rfl rfl 2 (by decide) (hT _ q_129) (fun _ h9 => h9) rfl dX7_takeNumber_71 ?_
              refine va_iald hx hb hK hP 1 0 rfl rfl (iv_v h20 (by decide) (by decide)) dX7_takeNumber_74 ?_
              refine hz_ev v22 ev22.symm ?_
              refine lv_iadd hx hb dX7_takeNumber_75 ?_
              refine lv_topi (fun v34 ev34 => ?_)
              refine lv_bipush (v := 48) hx hb dX7_takeNumber_76 (by decide) ?_
              refine lv_isub hx hb dX7_takeNumber_78 ?_
              refine lv_topi (fun v35 ev35 => ?_)
              refine lv_istore (lv' := [(4, .int v35), (3, .int k12_L_3), (0, .ref a), (1, .int 0), (2, .int 1)]) hx hb dX7_takeNumber_79 hl (by decide) rfl (fun ls hl => ?_)
              exact K81 v35 h21 h20 q12_3 H locs (hP.sub (ws' := [(a, .inr (7, [.ref a_bytes, .int a__length, .int k12_F_a_2, .int a__fault])), (a_bytes, .inl (cs 0, 400, .inl a_bytes_c))]) [0, 1] rfl) (hD.sub (ws' := [(a, .inr (7, [.ref a_bytes, .int a__length, .int k12_F_a_2, .int a__fault])), (a_bytes, .inl (cs 0, 400, .inl a_bytes_c))]) [0, 1] (by decide) rfl) hS ls (lv_sub hl [0, 1, 2, 3, 4] rfl)
  refine lv_aload_n hx hb dX7_takeNumber_0 rfl (lv_at hl 0 rfl) ?_
  have hFc := va_free (wc := [(a, .inr (7, [.ref a_bytes, .int a__length, .int a__place, .int a__fault])), (a_bytes, .inl (cs 0, 400, .inl a_bytes_c))]) hD hS hA [0,1] rfl
  refine va_callv (va_runV (As := []) (rest := []) ⟨hx, hb, hml, hown, hT⟩ (c_X7_skipBlanks l D cs kK kV a a_bytes a__length a__place a__fault a_bytes_c h_a__length h_a__place h_a_bytes_c H.size) (cwV 0 hT (hz_gV q_631 q_437 q_438 q_221 q_439) rfl rfl rfl (by decide +kernel) ⟨(Nat.le_of_ble_eq_true rfl), (Nat.le_of_ble_eq_true rfl)⟩) ⟨hz_C.blind, va_recv hK hP (ci := 7) (q0 := 0) rfl rfl, hz_C.mk (hP.sub (ws' := [(a, .inr (7, [.ref a_bytes, .int a__length, .int a__place, .int a__fault])), (a_bytes, .inl (cs 0, 400, .inl a_bytes_c))]) [0,1] rfl) (hD.sub (ws' := [(a, .inr (7, [.ref a_bytes, .int a__length, .int a__place, .int a__fault])), (a_bytes, .inl (cs 0, 400, .inl a_bytes_c))]) [0,1] (by decide) rfl) hE hS hFc⟩ rfl rfl hl.1 rfl (lv_room (Nat.le_of_ble_eq_true rfl)) dX7_takeNumber_1 ⟨(Nat.le_of_ble_eq_true rfl), (Nat.le_of_ble_eq_true rfl)⟩) hS (fun q _ h => hFc q h) hFc (fun u t H1 locs ht hvm hw hB hz1 hk1 hS => ?_)
  obtain ⟨o37, h38, hP1, hD1⟩ := hB
  rw [ht] at hP1
  obtain ⟨hP, hD⟩ := va_join (wr := []) (w1 := [(a, .inr (7, [.ref a_bytes, .int a__length, .int o37, .int a__fault])), (a_bytes, .inl (cs 0, 400, .inl a_bytes_c))]) hP hD [0, 1] [] rfl rfl (by decide) (by decide) hk1 hFc hP1 hD1
  generalize H1 = H at hP hS ⊢
  have hP : va_P D classes [(a, .inr (7, [.ref a_bytes, .int a__length, .int o37, .int a__fault])), (a_bytes, .inl (cs 0, 400, .inl a_bytes_c))] H := hP
  have hD : va_D A [(a, .inr (7, [.ref a_bytes, .int a__length, .int o37, .int a__fault])), (a_bytes, .inl (cs 0, 400, .inl a_bytes_c))] := hD
  clear hk1 hFc hP1 hD1 hz1
  refine lv_aload_n hx hb dX7_takeNumber_4 rfl (lv_at hl 0 rfl) ?_
  refine va_get (D := D) (ci := 7) (v := .int o37) (C := RX7) (T := TX7) (N := 4) hx hb hT i_X7 hown hK hP 0 rfl rfl 2 (by decide) (hT _ q_129) (fun _ h9 => h9) rfl dX7_takeNumber_5 ?_
  refine lv_istore_n (lv' := [(3, .int o37), (0, .ref a), (1, .int 0), (2, .int 1)]) hx hb dX7_takeNumber_8 rfl hl (by decide) rfl (fun ls hl => ?_)
  refine lv_iconst (v := 0) hx hb dX7_takeNumber_9 (by decide) ?_
  refine lv_istore (lv' := [(4, .int 0), (3, .int o37), (0, .ref a), (1, .int 0), (2, .int 1)]) hx hb dX7_takeNumber_10 hl (by decide) rfl (fun ls hl => ?_)
  exact K12 _ 0 o37 o37 (Nat.le_refl _) h38 h38 H locs (hP.sub (ws' := [(a, .inr (7, [.ref a_bytes, .int a__length, .int o37, .int a__fault])), (a_bytes, .inl (cs 0, 400, .inl a_bytes_c))]) [0, 1] rfl) (hD.sub (ws' := [(a, .inr (7, [.ref a_bytes, .int a__length, .int o37, .int a__fault])), (a_bytes, .inl (cs 0, 400, .inl a_bytes_c))]) [0, 1] (by decide) rfl) hS ls (lv_sub hl [0, 1, 2, 3, 4] rfl)
set_option maxHeartbeats 4000000 in
set_option maxRecDepth 100000 in
theorem c_X0_numberTold_64 (l : Launch) (D : va_G) (cs : Nat → ClassId) (kK kV : Nat → Nat) (a : Nat) (a_tape : Nat) (a_told : Nat) (a__kindsTold : Int32) (a_tape_bytes : Nat) (a_tape__length : Int32) (a_tape__place : Int32) (a_tape__fault : Int32) (a_tape_bytes_c : Nat → Int32) (h_a_tape__length : IV 0 400 a_tape__length) (h_a_tape__place : IV 0 400 a_tape__place) (h_a_tape__fault : IV 0 3205 a_tape__fault) (h_a_tape_bytes_c : CI 400 0 255 a_tape_bytes_c) (sz : Nat) : Met l yX0_numberTold (hz_w yX0_numberTold cX0_numberTold 3 (some .int)) ({ frames := 2, cells := 0, slots := 0, locals := 46 }) (va_Pc [.ref a, .int 0, .int 1] (hz_C D cs kK kV sz [(a, .inr (0, [.ref a_tape, .ref a_told, .int a__kindsTold])), (a_tape, .inr (7, [.ref a_tape_bytes, .int a_tape__length, .int a_tape__place, .int a_tape__fault])), (a_tape_bytes, .inl (cs 0, 400, .inl a_tape_bytes_c))])) (va_Qi (fun (r : Int32) (u : (Nat → Int32) × (Nat → Nat → Int32)) => (r = 0 ∧ IV 1 3205 (u.1 0) ∧ IV 1 3205 a_tape__fault ∧ IV 0 400 (u.1 1)) ∨ (IV 0 1 r ∧ IV 0 3205 (u.1 0) ∧ IV 0 0 a_tape__fault ∧ IV 0 400 (u.1 1)) ∨ (IV 1 3205 (u.1 0) ∧ IV 0 0 a_tape__fault ∧ IV 0 400 (u.1 1))) (fun u t => va_P D classes [(a, .inr (0, [.ref a_tape, .ref a_told, .int a__kindsTold])), (a_tape, .inr (7, [.ref a_tape_bytes, .int a_tape__length, .int (u.1 1), .int (u.1 0)])), (a_tape_bytes, .inl (cs 0, 400, .inl a_tape_bytes_c))] t.heap ∧ va_D (va_A [(a, .inr (0, [.ref a_tape, .ref a_told, .int a__kindsTold])), (a_tape, .inr (7, [.ref a_tape_bytes, .int a_tape__length, .int a_tape__place, .int a_tape__fault])), (a_tape_bytes, .inl (cs 0, 400, .inl a_tape_bytes_c))] sz) [(a, .inr (0, [.ref a_tape, .ref a_told, .int a__kindsTold])), (a_tape, .inr (7, [.ref a_tape_bytes, .int a_tape__length, .int (u.1 1), .int (u.1 0)])), (a_tape_bytes, .inl (cs 0, 400, .inl a_tape_bytes_c))]) (va_A [(a, .inr (0, [.ref a_tape, .ref a_told, .int a__kindsTold])), (a_tape, .inr (7, [.ref a_tape_bytes, .int a_tape__length, .int a_tape__place, .int a_tape__fault])), (a_tape_bytes, .inl (cs 0, 400, .inl a_tape_bytes_c))] sz)) 0 0 (va_A [(a, .inr (0, [.ref a_tape, .ref a_told, .int a__kindsTold])), (a_tape, .inr (7, [.ref a_tape_bytes, .int a_tape__length, .int a_tape__place, .int a_tape__fault])), (a_tape_bytes, .inl (cs 0, 400, .inl a_tape_bytes_c))] sz) := by
  refine Met.ofW (cc := cX0_numberTold) (maxL := 3) (ret := (some .int)) (by decide) rfl ?_
  intro p e s m args below meth c s₁ B hml hv
  obtain ⟨rfl, hsz, hP, hD0, hE⟩ := hv
  have hx := B.exec
  have hb := B.bytes
  have hr := B.returns
  have hT : ∀ w ∈ TB, w.before _ s = true := fun w h => atoms_spec (ws := hz_w yX0_numberTold cX0_numberTold 3 (some .int)) B.pre w (List.mem_cons_of_mem _ h)
  have hown : s.vm.findClass RX0 = some m.cls := findClass_of_methodNamed B.named
  have hlocks := B.notSynchronized
  clear B
  subst hsz
  have hD := hD0.self (sz := s.heap.size)
  generalize hAe : va_A [(a, .inr (0, [.ref a_tape, .ref a_told, .int a__kindsTold])), (a_tape, .inr (7, [.ref a_tape_bytes, .int a_tape__length, .int a_tape__place, .int a_tape__fault])), (a_tape_bytes, .inl (cs 0, 400, .inl a_tape_bytes_c))] s.heap.size = A at hD hE ⊢
  have hA : ∀ q : Nat, s.heap.size ≤ q → A q := fun q h => by rw [← hAe]; exact Or.inr h
  clear hAe hD0
  have hS : va_S A s.heap s.heap [] := va_S.rf
  have hK := hE.1
  have hl := lv_entry ([.ref a, .int 0, .int 1]) (n := 3) (Nat.le_of_ble_eq_true rfl)
  rw [lg_entry_eq]
  generalize (lg_sl ([.ref a, .int 0, .int 1]) ++ List.replicate (3 - (lg_sl ([.ref a, .int 0, .int 1])).length) Slot.unset).toArray = ls at hl ⊢
  have hl : lv_has ls 3 [(0, .ref a), (1, .int 0), (2, .int 1)] := hl
  obtain ⟨H, eH⟩ : ∃ z, z = s.heap := ⟨_, rfl⟩
  have hP : va_P D classes [(a, .inr (0, [.ref a_tape, .ref a_told, .int a__kindsTold])), (a_tape, .inr (7, [.ref a_tape_bytes, .int a_tape__length, .int a_tape__place, .int a_tape__fault])), (a_tape_bytes, .inl (cs 0, 400, .inl a_tape_bytes_c))] H := by rw [eH]; exact hP
  have hS : va_S A s.heap H [] := by rw [eH]; exact hS
  rw [← eH]
  clear eH
  obtain ⟨locs, el⟩ : ∃ z : List Loc, z = [] := ⟨_, rfl⟩
  rw [← el] at hS ⊢
  clear el
  refine lv_aload_n hx hb dX0_numberTold_0 rfl (lv_at hl 0 rfl) ?_
  refine va_get (D := D) (ci := 0) (v := .ref a_tape) (C := RX0) (T := TX0) (N := 3) hx hb hT i_X0 hown hK hP 0 rfl rfl 0 (by decide) (hT _ q_44) (fun _ h9 => h9) rfl dX0_numberTold_1 ?_
  refine va_calli (va_runV (As := []) (rest := []) ⟨hx, hb, hml, hown, hT⟩ (c_X7_isSound l D cs kK kV a_tape a_tape_bytes a_tape__length a_tape__place a_tape__fault h_a_tape__fault) (cwV 0 hT (hz_gV q_420 q_421 q_422 q_221 q_423) rfl rfl rfl (by decide +kernel) ⟨(Nat.le_of_ble_eq_true rfl), (Nat.le_of_ble_eq_true rfl)⟩) ⟨hz_P.blind, va_recv hK hP (ci := 7) (q0 := 1) rfl rfl, hz_P.mk (hP.sub (ws' := [(a_tape, .inr (7, [.ref a_tape_bytes, .int a_tape__length, .int a_tape__place, .int a_tape__fault]))]) [1] rfl) hE hS⟩ rfl rfl hl.1 rfl (lv_room (Nat.le_of_ble_eq_true rfl)) dX0_numberTold_4 ⟨(Nat.le_of_ble_eq_true rfl), (Nat.le_of_ble_eq_true rfl)⟩) hS (fun _ _ h => h.elim) (fun _ h => h.elim) (fun r1 u t H1 locs ht hvm hw hB hz1 hk1 hS => ?_)
  have hP := hz_keep hP hk1
  clear hk1 hB hz1
  generalize H1 = H at hP hS ⊢
  rcases hw with ⟨rfl, h2⟩ | ⟨rfl, h3⟩
  · refine lv_if_eq (tgt := 22) hx hb dX0_numberTold_7 (by decide) (fun _ => ?_) (fun z => absurd (by decide) z)
    refine lv_iload_n hx hb dX0_numberTold_22 rfl (lv_at hl 1 rfl) ?_
    refine W.widen (k := 0) (n := 0) (Nat.le_of_ble_eq_true rfl) (Nat.le_of_ble_eq_true rfl) ?_
    exact W.iret (v := 0) hx hb hr (fun t ht hW => ⟨⟨0, (fun k => match k with | 0 => a_tape__fault | 1 => a_tape__place | _ => 0, fun _ _ => 0), rfl, (Or.inl (⟨rfl, h2, h2, h_a_tape__place⟩)), by rw [ht]; exact hP.sub [0, 1, 2] rfl, hD.sub [0, 1, 2] (by decide) rfl⟩, hS.F ht⟩) hS.2.2 dX0_numberTold_23
  · refine lv_if_eq (tgt := 22) hx hb dX0_numberTold_7 (by decide) (fun z => absurd z (by decide)) (fun _ => ?_)
    refine lv_aload_n hx hb dX0_numberTold_10 rfl (lv_at hl 0 rfl) ?_
    refine va_get (D := D) (ci := 0) (v := .ref a_tape) (C := RX0) (T := TX0) (N := 3) hx hb hT i_X0 hown hK hP 0 rfl rfl 0 (by decide) (hT _ q_44) (fun _ h9 => h9) rfl dX0_numberTold_11 ?_
    refine lv_iload_n hx hb dX0_numberTold_14 rfl (lv_at hl 1 rfl) ?_
    refine lv_iload_n hx hb dX0_numberTold_15 rfl (lv_at hl 2 rfl) ?_
    have hFc := va_free (wc := [(a_tape, .inr (7, [.ref a_tape_bytes, .int a_tape__length, .int a_tape__place, .int a_tape__fault])), (a_tape_bytes, .inl (cs 0, 400, .inl a_tape_bytes_c))]) hD hS hA [1,2] rfl
    refine va_calli (va_runV (As := [.int 0, .int 1]) (rest := []) ⟨hx, hb, hml, hown, hT⟩ (c_X7_takeNumber_65 l D cs kK kV a_tape a_tape_bytes a_tape__length a_tape__place a_tape__fault a_tape_bytes_c h_a_tape__length h_a_tape__place ((iv_w h3 (by decide) (by decide))) h_a_tape_bytes_c H.size) (cwV 2 hT (hz_gV q_472 q_473 q_474 q_221 q_475) rfl rfl rfl (by decide +kernel) ⟨(Nat.le_of_ble_eq_true rfl), (Nat.le_of_ble_eq_true rfl)⟩) ⟨hz_C.blind, va_recv hK hP (ci := 7) (q0 := 1) rfl rfl, hz_C.mk (hP.sub (ws' := [(a_tape, .inr (7, [.ref a_tape_bytes, .int a_tape__length, .int a_tape__place, .int a_tape__fault])), (a_tape_bytes, .inl (cs 0, 400, .inl a_tape_bytes_c))]) [1,2] rfl) (hD.sub (ws' := [(a_tape, .inr (7, [.ref a_tape_bytes, .int a_tape__length, .int a_tape__place, .int a_tape__fault])), (a_tape_bytes, .inl (cs 0, 400, .inl a_tape_bytes_c))]) [1,2] (by decide) rfl) hE hS hFc⟩ rfl rfl hl.1 rfl (lv_room (Nat.le_of_ble_eq_true rfl)) dX0_numberTold_16 ⟨(Nat.le_of_ble_eq_true rfl), (Nat.le_of_ble_eq_true rfl)⟩) hS (fun q _ h => hFc q h) hFc (fun r4 o5 t H1 locs ht hvm hw hB hz1 hk1 hS => ?_)
    obtain ⟨hP1, hD1⟩ := hB
    rw [ht] at hP1
    obtain ⟨hP, hD⟩ := va_join (wr := [(a, .inr (0, [.ref a_tape, .ref a_told, .int a__kindsTold]))]) (w1 := [(a_tape, .inr (7, [.ref a_tape_bytes, .int a_tape__length, .int (o5.1 1), .int (o5.1 0)])), (a_tape_bytes, .inl (cs 0, 400, .inl a_tape_bytes_c))]) hP hD [1, 2] [0] rfl rfl (by decide) (by decide) hk1 hFc hP1 hD1
    generalize H1 = H at hP hS ⊢
    have hP : va_P D classes [(a, .inr (0, [.ref a_tape, .ref a_told, .int a__kindsTold])), (a_tape, .inr (7, [.ref a_tape_bytes, .int a_tape__length, .int (o5.1 1), .int (o5.1 0)])), (a_tape_bytes, .inl (cs 0, 400, .inl a_tape_bytes_c))] H := hP
    have hD : va_D A [(a, .inr (0, [.ref a_tape, .ref a_told, .int a__kindsTold])), (a_tape, .inr (7, [.ref a_tape_bytes, .int a_tape__length, .int (o5.1 1), .int (o5.1 0)])), (a_tape_bytes, .inl (cs 0, 400, .inl a_tape_bytes_c))] := hD
    clear hk1 hFc hP1 hD1 hz1
    rcases hw with ⟨h6, h7, h8⟩ | ⟨h9, h10⟩
    · refine lv_goto (tgt := 23) hx hb dX0_numberTold_19 (by decide) ?_
      refine W.widen (k := 0) (n := 0) (Nat.le_of_ble_eq_true rfl) (Nat.le_of_ble_eq_true rfl) ?_
      exact W.iret (v := r4) hx hb hr (fun t ht hW => ⟨⟨r4, (fun k => match k with | 0 => o5.1 0 | 1 => o5.1 1 | _ => 0, fun _ _ => 0), rfl, (Or.inr (Or.inl (⟨h6, h7, h3, h8⟩))), by rw [ht]; exact hP.sub [0, 1, 2] rfl, hD.sub [0, 1, 2] (by decide) rfl⟩, hS.F ht⟩) hS.2.2 dX0_numberTold_23
    · refine lv_goto (tgt := 23) hx hb dX0_numberTold_19 (by decide) ?_
      refine W.widen (k := 0) (n := 0) (Nat.le_of_ble_eq_true rfl) (Nat.le_of_ble_eq_true rfl) ?_
      exact W.iret (v := r4) hx hb hr (fun t ht hW => ⟨⟨r4, (fun k => match k with | 0 => o5.1 0 | 1 => o5.1 1 | _ => 0, fun _ _ => 0), rfl, (Or.inr (Or.inr ((⟨h9, h3, h10⟩)))), by rw [ht]; exact hP.sub [0, 1, 2] rfl, hD.sub [0, 1, 2] (by decide) rfl⟩, hS.F ht⟩) hS.2.2 dX0_numberTold_23
set_option maxHeartbeats 4000000 in
set_option maxRecDepth 100000 in
theorem c_X7_takeNumber_67 (l : Launch) (D : va_G) (cs : Nat → ClassId) (kK kV : Nat → Nat) (a : Nat) (a_bytes : Nat) (a__length : Int32) (a__place : Int32) (a__fault : Int32) (a_bytes_c : Nat → Int32) (h_a__length : IV 0 400 a__length) (h_a__place : IV 0 400 a__place) (h_a__fault : IV 0 3205 a__fault) (h_a_bytes_c : CI 400 0 255 a_bytes_c) (sz : Nat) : Met l yX7_takeNumber (hz_w yX7_takeNumber cX7_takeNumber 5 (some .int)) ({ frames := 1, cells := 0, slots := 0, locals := 22 }) (va_Pc [.ref a, .int 1, .int 99] (hz_C D cs kK kV sz [(a, .inr (7, [.ref a_bytes, .int a__length, .int a__place, .int a__fault])), (a_bytes, .inl (cs 0, 400, .inl a_bytes_c))])) (va_Qi (fun (r : Int32) (u : (Nat → Int32) × (Nat → Nat → Int32)) => (IV 1 99 r ∧ IV 0 3205 (u.1 0) ∧ IV 0 400 (u.1 1)) ∨ (IV 1 3205 (u.1 0) ∧ IV 0 400 (u.1 1))) (fun u t => va_P D classes [(a, .inr (7, [.ref a_bytes, .int a__length, .int (u.1 1), .int (u.1 0)])), (a_bytes, .inl (cs 0, 400, .inl a_bytes_c))] t.heap ∧ va_D (va_A [(a, .inr (7, [.ref a_bytes, .int a__length, .int a__place, .int a__fault])), (a_bytes, .inl (cs 0, 400, .inl a_bytes_c))] sz) [(a, .inr (7, [.ref a_bytes, .int a__length, .int (u.1 1), .int (u.1 0)])), (a_bytes, .inl (cs 0, 400, .inl a_bytes_c))]) (va_A [(a, .inr (7, [.ref a_bytes, .int a__length, .int a__place, .int a__fault])), (a_bytes, .inl (cs 0, 400, .inl a_bytes_c))] sz)) 0 0 (va_A [(a, .inr (7, [.ref a_bytes, .int a__length, .int a__place, .int a__fault])), (a_bytes, .inl (cs 0, 400, .inl a_bytes_c))] sz) := by
  refine Met.ofW (cc := cX7_takeNumber) (maxL := 5) (ret := (some .int)) (by decide) rfl ?_
  intro p e s m args below meth c s₁ B hml hv
  obtain ⟨rfl, hsz, hP, hD0, hE⟩ := hv
  have hx := B.exec
  have hb := B.bytes
  have hr := B.returns
  have hT : ∀ w ∈ TB, w.before _ s = true := fun w h => atoms_spec (ws := hz_w yX7_takeNumber cX7_takeNumber 5 (some .int)) B.pre w (List.mem_cons_of_mem _ h)
  have hown : s.vm.findClass RX7 = some m.cls := findClass_of_methodNamed B.named
  have hlocks := B.notSynchronized
  clear B
  subst hsz
  have hD := hD0.self (sz := s.heap.size)
  generalize hAe : va_A [(a, .inr (7, [.ref a_bytes, .int a__length, .int a__place, .int a__fault])), (a_bytes, .inl (cs 0, 400, .inl a_bytes_c))] s.heap.size = A at hD hE ⊢
  have hA : ∀ q : Nat, s.heap.size ≤ q → A q := fun q h => by rw [← hAe]; exact Or.inr h
  clear hAe hD0
  have hS : va_S A s.heap s.heap [] := va_S.rf
  have hK := hE.1
  have hl := lv_entry ([.ref a, .int 1, .int 99]) (n := 5) (Nat.le_of_ble_eq_true rfl)
  rw [lg_entry_eq]
  generalize (lg_sl ([.ref a, .int 1, .int 99]) ++ List.replicate (5 - (lg_sl ([.ref a, .int 1, .int 99])).length) Slot.unset).toArray = ls at hl ⊢
  have hl : lv_has ls 5 [(0, .ref a), (1, .int 1), (2, .int 99)] := hl
  obtain ⟨H, eH⟩ : ∃ z, z = s.heap := ⟨_, rfl⟩
  have hP : va_P D classes [(a, .inr (7, [.ref a_bytes, .int a__length, .int a__place, .int a__fault])), (a_bytes, .inl (cs 0, 400, .inl a_bytes_c))] H := by rw [eH]; exact hP
  have hS : va_S A s.heap H [] := by rw [eH]; exact hS
  rw [← eH]
  clear eH
  obtain ⟨locs, el⟩ : ∃ z : List Loc, z = [] := ⟨_, rfl⟩
  rw [← el] at hS ⊢
  clear el
  have K133 : ∀ (k133_L_4 : Int32) (k133_L_3 : Int32) (k133_F_a_2 : Int32), IV 0 400 k133_F_a_2 → IV 0 400 k133_L_3 → ∀ (H : Heap) (locs : List Loc), va_P D classes [(a, .inr (7, [.ref a_bytes, .int a__length, .int k133_F_a_2, .int a__fault])), (a_bytes, .inl (cs 0, 400, .inl a_bytes_c))] H → va_D A [(a, .inr (7, [.ref a_bytes, .int a__length, .int k133_F_a_2, .int a__fault])), (a_bytes, .inl (cs 0, 400, .inl a_bytes_c))] → va_S A s.heap H locs → ∀ ls : Array Slot, lv_has ls 5 [(4, .int k133_L_4), (3, .int k133_L_3), (0, .ref a), (1, .int 1), (2, .int 99)] → W p l e (headSpec (hz_w yX7_takeNumber cX7_takeNumber 5 (some .int)) ({ frames := 1, cells := 0, slots := 0, locals := 22 })).room s m [.ref a, .int 1, .int 99].toArray below meth c H locs 0 0 (MQ below (va_Qi (fun (r : Int32) (u : (Nat → Int32) × (Nat → Nat → Int32)) => (IV 1 99 r ∧ IV 0 3205 (u.1 0) ∧ IV 0 400 (u.1 1)) ∨ (IV 1 3205 (u.1 0) ∧ IV 0 400 (u.1 1))) (fun u t => va_P D classes [(a, .inr (7, [.ref a_bytes, .int a__length, .int (u.1 1), .int (u.1 0)])), (a_bytes, .inl (cs 0, 400, .inl a_bytes_c))] t.heap ∧ va_D A [(a, .inr (7, [.ref a_bytes, .int a__length, .int (u.1 1), .int (u.1 0)])), (a_bytes, .inl (cs 0, 400, .inl a_bytes_c))]) A) [.ref a, .int 1, .int 99].toArray s 0 0 A) (F0 m 133 ls []) := by
    intro k133_L_4 k133_L_3 k133_F_a_2 q133_2 q133_3 H locs hP hD hS ls hl
    refine lv_aload_n hx hb dX7_takeNumber_133 rfl (lv_at hl 2 rfl) ?_
    refine lv_iload_n hx hb dX7_takeNumber_134 rfl (lv_at hl 1 rfl) ?_
    refine lv_iconst (v := 1) hx hb dX7_takeNumber_135 (by decide) ?_
    have hFc := va_free (wc := [(a, .inr (7, [.ref a_bytes, .int a__length, .int k133_F_a_2, .int a__fault]))]) hD hS hA [0] rfl
    refine va_callv (va_runV (As := [.int k133_L_3, .int 1]) (rest := []) ⟨hx, hb, hml, hown, hT⟩ (c_X7_fail l D cs kK kV a k133_L_3 1 a_bytes a__length k133_F_a_2 a__fault q133_3 ((iv_c (by decide))) h_a__fault H.size) (cwV 2 hT (hz_gV q_633 q_445 q_446 q_221 q_447) rfl rfl rfl (by decide +kernel) ⟨(Nat.le_of_ble_eq_true rfl), (Nat.le_of_ble_eq_true rfl)⟩) ⟨hz_C.blind, va_recv hK hP (ci := 7) (q0 := 0) rfl rfl, hz_C.mk (hP.sub (ws' := [(a, .inr (7, [.ref a_bytes, .int a__length, .int k133_F_a_2, .int a__fault]))]) [0] rfl) (hD.sub (ws' := [(a, .inr (7, [.ref a_bytes, .int a__length, .int k133_F_a_2, .int a__fault]))]) [0] (by decide) rfl) hE hS hFc⟩ rfl rfl hl.1 rfl (lv_room (Nat.le_of_ble_eq_true rfl)) dX7_takeNumber_136 ⟨(Nat.le_of_ble_eq_true rfl), (Nat.le_of_ble_eq_true rfl)⟩) hS (fun q _ h => hFc q h) hFc (fun o2 t H1 locs ht hvm hw hB hz1 hk1 hS => ?_)
    obtain ⟨hP1, hD1⟩ := hB
    rw [ht] at hP1
    obtain ⟨hP, hD⟩ := va_join (wr := [(a_bytes, .inl (cs 0, 400, .inl a_bytes_c))]) (w1 := [(a, .inr (7, [.ref a_bytes, .int a__length, .int k133_F_a_2, .int (o2.1 0)]))]) hP hD [0] [1] rfl rfl (by decide) (by decide) hk1 hFc hP1 hD1
    generalize H1 = H at hP hS ⊢
    have hP : va_P D classes [(a_bytes, .inl (cs 0, 400, .inl a_bytes_c)), (a, .inr (7, [.ref a_bytes, .int a__length, .int k133_F_a_2, .int (o2.1 0)]))] H := hP
    have hD : va_D A [(a_bytes, .inl (cs 0, 400, .inl a_bytes_c)), (a, .inr (7, [.ref a_bytes, .int a__length, .int k133_F_a_2, .int (o2.1 0)]))] := hD
    clear hk1 hFc hP1 hD1 hz1
    have h3 := hw
    refine lv_iload hx hb dX7_takeNumber_139 (lv_at hl 0 rfl) ?_
    refine W.widen (k := 0) (n := 0) (Nat.le_of_ble_eq_true rfl) (Nat.le_of_ble_eq_true rfl) ?_
    exact W.iret (v := k133_L_4) hx hb hr (fun t ht hW => ⟨⟨k133_L_4, (fun k => match k with | 0 => o2.1 0 | 1 => k133_F_a_2 | _ => 0, fun _ _ => 0), rfl, (Or.inr ((⟨h3, q133_2⟩))), by rw [ht]; exact hP.sub [1, 0] rfl, hD.sub [1, 0] (by decide) rfl⟩, hS.F ht⟩) hS.2.2 dX7_takeNumber_141
  have K94 : ∀ (k94_L_4 : Int32) (k94_L_3 : Int32) (k94_F_a_2 : Int32), IV 0 400 k94_F_a_2 → IV 0 400 k94_L_3 → ∀ (H : Heap) (locs : List Loc), va_P D classes [(a, .inr (7, [.ref a_bytes, .int a__length, .int k94_F_a_2, .int a__fault])), (a_bytes, .inl (cs 0, 400, .inl a_bytes_c))] H → va_D A [(a, .inr (7, [.ref a_bytes, .int a__length, .int k94_F_a_2, .int a__fault])), (a_bytes, .inl (cs 0, 400, .inl a_bytes_c))] → va_S A s.heap H locs → ∀ ls : Array Slot, lv_has ls 5 [(4, .int k94_L_4), (3, .int k94_L_3), (0, .ref a), (1, .int 1), (2, .int 99)] → W p l e (headSpec (hz_w yX7_takeNumber cX7_takeNumber 5 (some .int)) ({ frames := 1, cells := 0, slots := 0, locals := 22 })).room s m [.ref a, .int 1, .int 99].toArray below meth c H locs 0 0 (MQ below (va_Qi (fun (r : Int32) (u : (Nat → Int32) × (Nat → Nat → Int32)) => (IV 1 99 r ∧ IV 0 3205 (u.1 0) ∧ IV 0 400 (u.1 1)) ∨ (IV 1 3205 (u.1 0) ∧ IV 0 400 (u.1 1))) (fun u t => va_P D classes [(a, .inr (7, [.ref a_bytes, .int a__length, .int (u.1 1), .int (u.1 0)])), (a_bytes, .inl (cs 0, 400, .inl a_bytes_c))] t.heap ∧ va_D A [(a, .inr (7, [.ref a_bytes, .int a__length, .int (u.1 1), .int (u.1 0)])), (a_bytes, .inl (cs 0, 400, .inl a_bytes_c))]) A) [.ref a, .int 1, .int 99].toArray s 0 0 A) (F0 m 94 ls []) := by
    intro k94_L_4 k94_L_3 k94_F_a_2 q94_2 q94_3 H locs hP hD hS ls hl
    refine lv_aload_n hx hb dX7_takeNumber_94 rfl (lv_at hl 2 rfl) ?_
    refine va_get (D := D) (ci := 7) (v := .int k94_F_a_2) (C := RX7) (T := TX7) (N := 4) hx hb hT i_X7 hown hK hP 0 rfl rfl 2 (by decide) (hT _ q_129) (fun _ h9 => h9) rfl dX7_takeNumber_95 ?_
    refine lv_iload_n hx hb dX7_takeNumber_98 rfl (lv_at hl 1 rfl) ?_
    refine lv_icmp_ne (tgt := 111) hx hb dX7_takeNumber_99 (by decide) (fun c4 => ?_) (fun c4 => ?_)
    · refine lv_aload_n hx hb dX7_takeNumber_111 rfl (lv_at hl 2 rfl) ?_
      refine va_get (D := D) (ci := 7) (v := .int k94_F_a_2) (C := RX7) (T := TX7) (N := 4) hx hb hT i_X7 hown hK hP 0 rfl rfl 2 (by decide) (hT _ q_129) (fun _ h9 => h9) rfl dX7_takeNumber_112 ?_
      refine lv_iload_n hx hb dX7_takeNumber_115 rfl (lv_at hl 1 rfl) ?_
      refine lv_isub hx hb dX7_takeNumber_116 ?_
      refine lv_topi (fun v5 ev5 => ?_)
      have hv5 : IV (-400) 400 v5 := iv_sub ev5 q94_2 q94_3 (by decide) (by decide)
      refine lv_iconst (v := 5) hx hb dX7_takeNumber_117 (by decide) ?_
      refine lv_icmp_gt (tgt := 133) hx hb dX7_takeNumber_118 (by decide) (fun c6 => ?_) (fun c6 => ?_)
      · have h7 : IV 6 400 v5 := iv_lt2 c6 (iv_c (a := 5) (b := 5) (by decide)) hv5 (by decide)
        exact K133 k94_L_4 k94_L_3 k94_F_a_2 q94_2 q94_3 H locs (hP.sub (ws' := [(a, .inr (7, [.ref a_bytes, .int a__length, .int k94_F_a_2, .int a__fault])), (a_bytes, .inl (cs 0, 400, .inl a_bytes_c))]) [0, 1] rfl) (hD.sub (ws' := [(a, .inr (7, [.ref a_bytes, .int a__length, .int k94_F_a_2, .int a__fault])), (a_bytes, .inl (cs 0, 400, .inl a_bytes_c))]) [0, 1] (by decide) rfl) hS ls (lv_sub hl [0, 1, 2, 3, 4] rfl)
      · have h8 : IV (-400) 5 v5 := iv_le1 (Int32.not_lt.mp c6) hv5 (iv_c (a := 5) (b := 5) (by decide)) (by decide)
        refine lv_iload hx hb dX7_takeNumber_121 (lv_at hl 0 rfl) ?_
        refine lv_iload_n hx hb dX7_takeNumber_123 rfl (lv_at hl 3 rfl) ?_
        refine lv_icmp_lt (tgt := 133) hx hb dX7_takeNumber_124 (by decide) (fun c9 => ?_) (fun c9 => ?_)
        · have h10 : IV (-2147483648) 0 k94_L_4 := iv_lt1 c9 iv_top (iv_c (a := 1) (b := 1) (by decide)) (by decide)
          exact K133 k94_L_4 k94_L_3 k94_F_a_2 q94_2 q94_3 H locs (hP.sub (ws' := [(a, .inr (7, [.ref a_bytes, .int a__length, .int k94_F_a_2, .int a__fault])), (a_bytes, .inl (cs 0, 400, .inl a_bytes_c))]) [0, 1] rfl) (hD.sub (ws' := [(a, .inr (7, [.ref a_bytes, .int a__length, .int k94_F_a_2, .int a__fault])), (a_bytes, .inl (cs 0, 400, .inl a_bytes_c))]) [0, 1] (by decide) rfl) hS ls (lv_sub hl [0, 1, 2, 3, 4] rfl)
        · have h11 : IV 1 2147483647 k94_L_4 := iv_le2 (Int32.not_lt.mp c9) (iv_c (a := 1) (b := 1) (by decide)) iv_top (by decide)
          refine lv_iload hx hb dX7_takeNumber_127 (lv_at hl 0 rfl) ?_
          refine lv_iload_n hx hb dX7_takeNumber_129 rfl (lv_at hl 4 rfl) ?_
          refine lv_icmp_le (tgt := 139) hx hb dX7_takeNumber_130 (by decide) (fun c12 => ?_) (fun c12 => ?_)
          · have h13 : IV 1 99 k94_L_4 := iv_le1 c12 h11 (iv_c (a := 99) (b := 99) (by decide)) (by decide)
            refine lv_iload hx hb dX7_takeNumber_139 (lv_at hl 0 rfl) ?_
            refine W.widen (k := 0) (n := 0) (Nat.le_of_ble_eq_true rfl) (Nat.le_of_ble_eq_true rfl) ?_
            exact W.iret (v := k94_L_4) hx hb hr (fun t ht hW => ⟨⟨k94_L_4, (fun k => match k with | 0 => a__fault | 1 => k94_F_a_2 | _ => 0, fun _ _ => 0), rfl, (Or.inl (⟨h13, h_a__fault, q94_2⟩)), by rw [ht]; exact hP.sub [0, 1] rfl, hD.sub [0, 1] (by decide) rfl⟩, hS.F ht⟩) hS.2.2 dX7_takeNumber_141
          · have h14 : IV 100 2147483647 k94_L_4 := iv_lt2 (Int32.not_le.mp c12) (iv_c (a := 99) (b := 99) (by decide)) h11 (by decide)
            exact K133 k94_L_4 k94_L_3 k94_F_a_2 q94_2 q94_3 H locs (hP.sub (ws' := [(a, .inr (7, [.ref a_bytes, .int a__length, .int k94_F_a_2, .int a__fault])), (a_bytes, .inl (cs 0, 400, .inl a_bytes_c))]) [0, 1] rfl) (hD.sub (ws' := [(a, .inr (7, [.ref a_bytes, .int a__length, .int k94_F_a_2, .int a__fault])), (a_bytes, .inl (cs 0, 400, .inl a_bytes_c))]) [0, 1] (by decide) rfl) hS ls (lv_sub hl [0, 1, 2, 3, 4] rfl)
    · refine lv_aload_n hx hb dX7_takeNumber_102 rfl (lv_at hl 2 rfl) ?_
      refine lv_iload_n hx hb dX7_takeNumber_103 rfl (lv_at hl 1 rfl) ?_
      refine lv_iconst (v := 0) hx hb dX7_takeNumber_104 (by decide) ?_
      have hFc := va_free (wc := [(a, .inr (7, [.ref a_bytes, .int a__length, .int k94_F_a_2, .int a__fault]))]) hD hS hA [0] rfl
      refine va_callv (va_runV (As := [.int k94_L_3, .int 0]) (rest := []) ⟨hx, hb, hml, hown, hT⟩ (c_X7_fail l D cs kK kV a k94_L_3 0 a_bytes a__length k94_F_a_2 a__fault q94_3 ((iv_c (by decide))) h_a__fault H.size) (cwV 2 hT (hz_gV q_633 q_445 q_446 q_221 q_447) rfl rfl rfl (by decide +kernel) ⟨(Nat.le_of_ble_eq_true rfl), (Nat.le_of_ble_eq_true rfl)⟩) ⟨hz_C.blind, va_recv hK hP (ci := 7) (q0 := 0) rfl rfl, hz_C.mk (hP.sub (ws' := [(a, .inr (7, [.ref a_bytes, .int a__length, .int k94_F_a_2, .int a__fault]))]) [0] rfl) (hD.sub (ws' := [(a, .inr (7, [.ref a_bytes, .int a__length, .int k94_F_a_2, .int a__fault]))]) [0] (by decide) rfl) hE hS hFc⟩ rfl rfl hl.1 rfl (lv_room (Nat.le_of_ble_eq_true rfl)) dX7_takeNumber_105 ⟨(Nat.le_of_ble_eq_true rfl), (Nat.le_of_ble_eq_true rfl)⟩) hS (fun q _ h => hFc q h) hFc (fun o16 t H1 locs ht hvm hw hB hz1 hk1 hS => ?_)
      obtain ⟨hP1, hD1⟩ := hB
      rw [ht] at hP1
      obtain ⟨hP, hD⟩ := va_join (wr := [(a_bytes, .inl (cs 0, 400, .inl a_bytes_c))]) (w1 := [(a, .inr (7, [.ref a_bytes, .int a__length, .int k94_F_a_2, .int (o16.1 0)]))]) hP hD [0] [1] rfl rfl (by decide) (by decide) hk1 hFc hP1 hD1
      generalize H1 = H at hP hS ⊢
      have hP : va_P D classes [(a_bytes, .inl (cs 0, 400, .inl a_bytes_c)), (a, .inr (7, [.ref a_bytes, .int a__length, .int k94_F_a_2, .int (o16.1 0)]))] H := hP
      have hD : va_D A [(a_bytes, .inl (cs 0, 400, .inl a_bytes_c)), (a, .inr (7, [.ref a_bytes, .int a__length, .int k94_F_a_2, .int (o16.1 0)]))] := hD
      clear hk1 hFc hP1 hD1 hz1
      have h17 := hw
      refine lv_goto (tgt := 139) hx hb dX7_takeNumber_108 (by decide) ?_
      refine lv_iload hx hb dX7_takeNumber_139 (lv_at hl 0 rfl) ?_
      refine W.widen (k := 0) (n := 0) (Nat.le_of_ble_eq_true rfl) (Nat.le_of_ble_eq_true rfl) ?_
      exact W.iret (v := k94_L_4) hx hb hr (fun t ht hW => ⟨⟨k94_L_4, (fun k => match k with | 0 => o16.1 0 | 1 => k94_F_a_2 | _ => 0, fun _ _ => 0), rfl, (Or.inr ((⟨h17, q94_2⟩))), by rw [ht]; exact hP.sub [1, 0] rfl, hD.sub [1, 0] (by decide) rfl⟩, hS.F ht⟩) hS.2.2 dX7_takeNumber_141
  have K12 : ∀ (n : Nat) (k12_L_4 : Int32) (k12_L_3 : Int32) (k12_F_a_2 : Int32), (400 - k12_F_a_2.toInt + 1).toNat ≤ n → IV 0 400 k12_F_a_2 → IV 0 400 k12_L_3 → ∀ (H : Heap) (locs : List Loc), va_P D classes [(a, .inr (7, [.ref a_bytes, .int a__length, .int k12_F_a_2, .int a__fault])), (a_bytes, .inl (cs 0, 400, .inl a_bytes_c))] H → va_D A [(a, .inr (7, [.ref a_bytes, .int a__length, .int k12_F_a_2, .int a__fault])), (a_bytes, .inl (cs 0, 400, .inl a_bytes_c))] → va_S A s.heap H locs → ∀ ls : Array Slot, lv_has ls 5 [(4, .int k12_L_4), (3, .int k12_L_3), (0, .ref a), (1, .int 1), (2, .int 99)] → W p l e (headSpec (hz_w yX7_takeNumber cX7_takeNumber 5 (some .int)) ({ frames := 1, cells := 0, slots := 0, locals := 22 })).room s m [.ref a, .int 1, .int 99].toArray below meth c H locs 0 0 (MQ below (va_Qi (fun (r : Int32) (u : (Nat → Int32) × (Nat → Nat → Int32)) => (IV 1 99 r ∧ IV 0 3205 (u.1 0) ∧ IV 0 400 (u.1 1)) ∨ (IV 1 3205 (u.1 0) ∧ IV 0 400 (u.1 1))) (fun u t => va_P D classes [(a, .inr (7, [.ref a_bytes, .int a__length, .int (u.1 1), .int (u.1 0)])), (a_bytes, .inl (cs 0, 400, .inl a_bytes_c))] t.heap ∧ va_D A [(a, .inr (7, [.ref a_bytes, .int a__length, .int (u.1 1), .int (u.1 0)])), (a_bytes, .inl (cs 0, 400, .inl a_bytes_c))]) A) [.ref a, .int 1, .int 99].toArray s 0 0 A) (F0 m 12 ls []) := by
    intro n
    induction n with
    | zero =>
      intro k12_L_4 k12_L_3 k12_F_a_2 hn q12_2 q12_3 H locs hP hD hS ls hl
      exact absurd hn (by unfold IV at q12_2; omega)
    | succ n ih12 =>
      intro k12_L_4 k12_L_3 k12_F_a_2 hn q12_2 q12_3 H locs hP hD hS ls hl
      have K81 : ∀ (k81_L_4 : Int32), IV 1 400 a__length → IV 0 399 k12_F_a_2 → IV 0 400 k12_L_3 → ∀ (H : Heap) (locs : List Loc), va_P D classes [(a, .inr (7, [.ref a_bytes, .int a__length, .int k12_F_a_2, .int a__fault])), (a_bytes, .inl (cs 0, 400, .inl a_bytes_c))] H → va_D A [(a, .inr (7, [.ref a_bytes, .int a__length, .int k12_F_a_2, .int a__fault])), (a_bytes, .inl (cs 0, 400, .inl a_bytes_c))] → va_S A s.heap H locs → ∀ ls : Array Slot, lv_has ls 5 [(4, .int k81_L_4), (3, .int k12_L_3), (0, .ref a), (1, .int 1), (2, .int 99)] → W p l e (headSpec (hz_w yX7_takeNumber cX7_takeNumber 5 (some .int)) ({ frames := 1, cells := 0, slots := 0, locals := 22 })).room s m [.ref a, .int 1, .int 99].toArray below meth c H locs 0 0 (MQ below (va_Qi (fun (r : Int32) (u : (Nat → Int32) × (Nat → Nat → Int32)) => (IV 1 99 r ∧ IV 0 3205 (u.1 0) ∧ IV 0 400 (u.1 1)) ∨ (IV 1 3205 (u.1 0) ∧ IV 0 400 (u.1 1))) (fun u t => va_P D classes [(a, .inr (7, [.ref a_bytes, .int a__length, .int (u.1 1), .int (u.1 0)])), (a_bytes, .inl (cs 0, 400, .inl a_bytes_c))] t.heap ∧ va_D A [(a, .inr (7, [.ref a_bytes, .int a__length, .int (u.1 1), .int (u.1 0)])), (a_bytes, .inl (cs 0, 400, .inl a_bytes_c))]) A) [.ref a, .int 1, .int 99].toArray s 0 0 A) (F0 m 81 ls []) := by
        intro k81_L_4 q81_1 q81_2 q81_3 H locs hP hD hS ls hl
        refine lv_aload_n hx hb dX7_takeNumber_81 rfl (lv_at hl 2 rfl) ?_
        refine lv_dup hx hb dX7_takeNumber_82 rfl ?_
        refine va_get (D := D) (ci := 7) (v := .int k12_F_a_2) (C := RX7) (T := TX7) (N := 4) hx hb hT i_X7 hown hK hP 0 rfl rfl 2 (by decide) (hT _ q_129) (fun _ h9 => h9) rfl dX7_takeNumber_83 ?_
        refine lv_iconst (v := 1) hx hb dX7_takeNumber_86 (by decide) ?_
        refine lv_iadd hx hb dX7_takeNumber_87 ?_
        refine lv_topi (fun v18 ev18 => ?_)
        have hv18 : IV 1 400 v18 := iv_add ev18 q81_2 (iv_c (a := 1) (b := 1) (by decide)) (by decide) (by decide)
        have dv18 : v18.toInt = k12_F_a_2.toInt + 1 := iv_addE ev18 q81_2 (iv_c (a := 1) (b := 1) (by decide)) (by decide) (by decide) (by decide)
        refine va_put (D := D) (ci := 7) (v := .int v18) (ty := .int) (C := RX7) (T := TX7) (N := 4) hx hb hT i_X7 tyX7 tyX7_ok nmX7 hown hK hP hD hS 0 rfl rfl 2 (by decide) (hT _ q_129) (fun _ h9 => h9) rfl (by decide +kernel) rfl rfl (Nat.le_of_ble_eq_true rfl) dX7_takeNumber_88 (fun H locs hP hD hS => ?_)
        have hP : va_P D classes [(a, .inr (7, [.ref a_bytes, .int a__length, .int v18, .int a__fault])), (a_bytes, .inl (cs 0, 400, .inl a_bytes_c))] H := hP
        have hD : va_D A [(a, .inr (7, [.ref a_bytes, .int a__length, .int v18, .int a__fault])), (a_bytes, .inl (cs 0, 400, .inl a_bytes_c))] := hD
        refine lv_goto (tgt := 12) hx hb dX7_takeNumber_91 (by decide) ?_
        exact ih12 k81_L_4 k12_L_3 v18 (by have h9 := q81_2; unfold IV at h9; have := dv18; omega) (iv_w hv18 (by decide) (by decide)) q81_3 H locs (hP.sub (ws' := [(a, .inr (7, [.ref a_bytes, .int a__length, .int v18, .int a__fault])), (a_bytes, .inl (cs 0, 400, .inl a_bytes_c))]) [0, 1] rfl) (hD.sub (ws' := [(a, .inr (7, [.ref a_bytes, .int a__length, .int v18, .int a__fault])), (a_bytes, .inl (cs 0, 400, .inl a_bytes_c))]) [0, 1] (by decide) rfl) hS ls (lv_sub hl [0, 1, 2, 3, 4] rfl)
      refine lv_aload_n hx hb dX7_takeNumber_12 rfl (lv_at hl 2 rfl) ?_
      refine va_get (D := D) (ci := 7) (v := .int k12_F_a_2) (C := RX7) (T := TX7) (N := 4) hx hb hT i_X7 hown hK hP 0 rfl rfl 2 (by decide) (hT _ q_129) (fun _ h9 => h9) rfl dX7_takeNumber_13 ?_
      refine lv_aload_n hx hb dX7_takeNumber_16 rfl (lv_at hl 2 rfl) ?_
      refine va_get (D := D) (ci := 7) (v := .int a__length) (C := RX7) (T := TX7) (N := 4) hx hb hT i_X7 hown hK hP 0 rfl rfl 1 (by decide) (hT _ q_128) (fun _ h9 => h9) rfl dX7_takeNumber_17 ?_
      refine lv_icmp_ge (tgt := 94) hx hb dX7_takeNumber_20 (by decide) (fun c19 => ?_) (fun c19 => ?_)
      · exact K94 k12_L_4 k12_L_3 k12_F_a_2 q12_2 q12_3 H locs (hP.sub (ws' := [(a, .inr (7, [.ref a_bytes, .int a__length, .int k12_F_a_2, .int a__fault])), (a_bytes, .inl (cs 0, 400, .inl a_bytes_c))]) [0, 1] rfl) (hD.sub (ws' := [(a, .inr (7, [.ref a_bytes, .int a__length, .int k12_F_a_2, .int a__fault])), (a_bytes, .inl (cs 0, 400, .inl a_bytes_c))]) [0, 1] (by decide) rfl) hS ls (lv_sub hl [0, 1, 2, 3, 4] rfl)
      · have h20 : IV 0 399 k12_F_a_2 := iv_lt1 (Int32.not_le.mp c19) q12_2 h_a__length (by decide)
        have h21 : IV 1 400 a__length := iv_lt2 (Int32.not_le.mp c19) q12_2 h_a__length (by decide)
        refine lv_aload_n hx hb dX7_takeNumber_23 rfl (lv_at hl 2 rfl) ?_
        refine va_get (D := D) (ci := 7) (v := .ref a_bytes) (C := RX7) (T := TX7) (N := 4) hx hb hT i_X7 hown hK hP 0 rfl rfl 0 (by decide) (hT _ q_127) (fun _ h9 => h9) rfl dX7_takeNumber_24 ?_
        refine lv_aload_n hx hb dX7_takeNumber_27 rfl (lv_at hl 2 rfl) ?_
        refine va_get (D := D) (ci := 7) (v := .int k12_F_a_2) (C := RX7) (T := TX7) (N := 4) hx hb hT i_X7 hown hK hP 0 rfl rfl 2 (by decide) (hT _ q_129) (fun _ h9 => h9) rfl dX7_takeNumber_28 ?_
        refine va_iald hx hb hK hP 1 0 rfl rfl (iv_v h20 (by decide) (by decide)) dX7_takeNumber_31 ?_
        refine lv_topi (fun v22 ev22 => ?_)
        have hv22 : IV 0 255 v22 := iv_ci ev22 h_a_bytes_c (iv_v h20 (by decide) (by decide))
        refine lv_bipush (v := 48) hx hb dX7_takeNumber_32 (by decide) ?_
        refine lv_icmp_lt (tgt := 94) hx hb dX7_takeNumber_34 (by decide) (fun c23 => ?_) (fun c23 => ?_)
        · have h24 : IV 0 47 v22 := iv_lt1 c23 hv22 (iv_c (a := 48) (b := 48) (by decide)) (by decide)
          exact K94 k12_L_4 k12_L_3 k12_F_a_2 (iv_w h20 (by decide) (by decide)) q12_3 H locs (hP.sub (ws' := [(a, .inr (7, [.ref a_bytes, .int a__length, .int k12_F_a_2, .int a__fault])), (a_bytes, .inl (cs 0, 400, .inl a_bytes_c))]) [0, 1] rfl) (hD.sub (ws' := [(a, .inr (7, [.ref a_bytes, .int a__length, .int k12_F_a_2, .int a__fault])), (a_bytes, .inl (cs 0, 400, .inl a_bytes_c))]) [0, 1] (by decide) rfl) hS ls (lv_sub hl [0, 1, 2, 3, 4] rfl)
        · have h25 : IV 48 255 v22 := iv_le2 (Int32.not_lt.mp c23) (iv_c (a := 48) (b := 48) (by decide)) hv22 (by decide)
          refine lv_aload_n hx hb dX7_takeNumber_37 rfl (lv_at hl 2 rfl) ?_
          refine va_get (D := D) (ci := 7) (v := .ref a_bytes) (C := RX7) (T := TX7) (N := 4) hx hb hT i_X7 hown hK hP 0 rfl rfl 0 (by decide) (hT _ q_127) (fun _ h9 => h9) rfl dX7_takeNumber_38 ?_
          refine lv_aload_n hx hb dX7_takeNumber_41 rfl (lv_at hl 2 rfl) ?_
          refine va_get (D := D) (ci := 7) (v := .int k12_F_a_2) (C := RX7) (T := TX7) (N := 4) hx hb hT i_X7 hown hK hP 0 rfl rfl 2 (by decide) (hT _ q_129) (fun _ h9 => h9) rfl dX7_takeNumber_42 ?_
          refine va_iald hx hb hK hP 1 0 rfl rfl (iv_v h20 (by decide) (by decide)) dX7_takeNumber_45 ?_
          refine hz_ev v22 ev22.symm ?_
          refine lv_bipush (v := 57) hx hb dX7_takeNumber_46 (by decide) ?_
          refine lv_icmp_gt (tgt := 94) hx hb dX7_takeNumber_48 (by decide) (fun c26 => ?_) (fun c26 => ?_)
          · have h27 : IV 58 255 v22 := iv_lt2 c26 (iv_c (a := 57) (b := 57) (by decide)) h25 (by decide)
            exact K94 k12_L_4 k12_L_3 k12_F_a_2 (iv_w h20 (by decide) (by decide)) q12_3 H locs (hP.sub (ws' := [(a, .inr (7, [.ref a_bytes, .int a__length, .int k12_F_a_2, .int a__fault])), (a_bytes, .inl (cs 0, 400, .inl a_bytes_c))]) [0, 1] rfl) (hD.sub (ws' := [(a, .inr (7, [.ref a_bytes, .int a__length, .int k12_F_a_2, .int a__fault])), (a_bytes, .inl (cs 0, 400, .inl a_bytes_c))]) [0, 1] (by decide) rfl) hS ls (lv_sub hl [0, 1, 2, 3, 4] rfl)
          · have h28 : IV 48 57 v22 := iv_le1 (Int32.not_lt.mp c26) h25 (iv_c (a := 57) (b := 57) (by decide)) (by decide)
            refine lv_aload_n hx hb dX7_takeNumber_51 rfl (lv_at hl 2 rfl) ?_
            refine va_get (D := D) (ci := 7) (v := .int k12_F_a_2) (C := RX7) (T := TX7) (N := 4) hx hb hT i_X7 hown hK hP 0 rfl rfl 2 (by decide) (hT _ q_129) (fun _ h9 => h9) rfl dX7_takeNumber_52 ?_
            refine lv_iload_n hx hb dX7_takeNumber_55 rfl (lv_at hl 1 rfl) ?_
            refine lv_isub hx hb dX7_takeNumber_56 ?_
            refine lv_topi (fun v29 ev29 => ?_)
            have hv29 : IV (-400) 399 v29 := iv_sub ev29 h20 q12_3 (by decide) (by decide)
            refine lv_iconst (v := 5) hx hb dX7_takeNumber_57 (by decide) ?_
            refine lv_icmp_ge (tgt := 81) hx hb dX7_takeNumber_58 (by decide) (fun c30 => ?_) (fun c30 => ?_)
            · have h31 : IV 5 399 v29 := iv_le2 c30 (iv_c (a := 5) (b := 5) (by decide)) hv29 (by decide)
              exact K81 k12_L_4 h21 h20 q12_3 H locs (hP.sub (ws' := [(a, .inr (7, [.ref a_bytes, .int a__length, .int k12_F_a_2, .int a__fault])), (a_bytes, .inl (cs 0, 400, .inl a_bytes_c))]) [0, 1] rfl) (hD.sub (ws' := [(a, .inr (7, [.ref a_bytes, .int a__length, .int k12_F_a_2, .int a__fault])), (a_bytes, .inl (cs 0, 400, .inl a_bytes_c))]) [0, 1] (by decide) rfl) hS ls (lv_sub hl [0, 1, 2, 3, 4] rfl)
            · have h32 : IV (-400) 4 v29 := iv_lt1 (Int32.not_le.mp c30) hv29 (iv_c (a := 5) (b := 5) (by decide)) (by decide)
              refine lv_iload hx hb dX7_takeNumber_61 (lv_at hl 0 rfl) ?_
              refine lv_bipush (v := 10) hx hb dX7_takeNumber_63 (by decide) ?_
              refine lv_imul hx hb dX7_takeNumber_65 ?_
              refine lv_topi (fun v33 ev33 => ?_)
              refine lv_aload_n hx hb dX7_takeNumber_66 rfl (lv_at hl 2 rfl) ?_
              refine va_get (D := D) (ci := 7) (v := .ref a_bytes) (C := RX7) (T := TX7) (N := 4) hx hb hT i_X7 hown hK hP 0 rfl rfl 0 (by decide) (hT _ q_127) (fun _ h9 => h9) rfl dX7_takeNumber_67 ?_
              refine lv_aload_n hx hb dX7_takeNumber_70 rfl (lv_at hl 2 rfl) ?_
              refine va_get (D := D) (ci := 7) (v := .int k12_F_a_2) (C := RX7) (T := TX7) (N := 4) hx hb hT i_X7 hown hK hP 0 rfl rfl 2 (by decide) (hT _ q_129) (fun _ h9 => h9) rfl dX7_takeNumber_71 ?_
              refine va_iald hx hb hK hP 1 0 rfl rfl (iv_v h20 (by decide) (by decide)) dX7_takeNumber_74 ?_
              refine hz_ev v22 ev22.symm ?_
              refine lv_iadd hx hb dX7_takeNumber_75 ?_
              refine lv_topi (fun v34 ev34 => ?_)
              refine lv_bipush (v := 48) hx hb dX7_takeNumber_76 (by decide) ?_
              refine lv_isub hx hb dX7_takeNumber_78 ?_
              refine lv_topi (fun v35 ev35 => ?_)
              refine lv_istore (lv' := [(4, .int v35), (3, .int k12_L_3), (0, .ref a), (1, .int 1), (2, .int 99)]) hx hb dX7_takeNumber_79 hl (by decide) rfl (fun ls hl => ?_)
              exact K81 v35 h21 h20 q12_3 H locs (hP.sub (ws' := [(a, .inr (7, [.ref a_bytes, .int a__length, .int k12_F_a_2, .int a__fault])), (a_bytes, .inl (cs 0, 400, .inl a_bytes_c))]) [0, 1] rfl) (hD.sub (ws' := [(a, .inr (7, [.ref a_bytes, .int a__length, .int k12_F_a_2, .int a__fault])), (a_bytes, .inl (cs 0, 400, .inl a_bytes_c))]) [0, 1] (by decide) rfl) hS ls (lv_sub hl [0, 1, 2, 3, 4] rfl)
  refine lv_aload_n hx hb dX7_takeNumber_0 rfl (lv_at hl 0 rfl) ?_
  have hFc := va_free (wc := [(a, .inr (7, [.ref a_bytes, .int a__length, .int a__place, .int a__fault])), (a_bytes, .inl (cs 0, 400, .inl a_bytes_c))]) hD hS hA [0,1] rfl
  refine va_callv (va_runV (As := []) (rest := []) ⟨hx, hb, hml, hown, hT⟩ (c_X7_skipBlanks l D cs kK kV a a_bytes a__length a__place a__fault a_bytes_c h_a__length h_a__place h_a_bytes_c H.size) (cwV 0 hT (hz_gV q_631 q_437 q_438 q_221 q_439) rfl rfl rfl (by decide +kernel) ⟨(Nat.le_of_ble_eq_true rfl), (Nat.le_of_ble_eq_true rfl)⟩) ⟨hz_C.blind, va_recv hK hP (ci := 7) (q0 := 0) rfl rfl, hz_C.mk (hP.sub (ws' := [(a, .inr (7, [.ref a_bytes, .int a__length, .int a__place, .int a__fault])), (a_bytes, .inl (cs 0, 400, .inl a_bytes_c))]) [0,1] rfl) (hD.sub (ws' := [(a, .inr (7, [.ref a_bytes, .int a__length, .int a__place, .int a__fault])), (a_bytes, .inl (cs 0, 400, .inl a_bytes_c))]) [0,1] (by decide) rfl) hE hS hFc⟩ rfl rfl hl.1 rfl (lv_room (Nat.le_of_ble_eq_true rfl)) dX7_takeNumber_1 ⟨(Nat.le_of_ble_eq_true rfl), (Nat.le_of_ble_eq_true rfl)⟩) hS (fun q _ h => hFc q h) hFc (fun u t H1 locs ht hvm hw hB hz1 hk1 hS => ?_)
  obtain ⟨o37, h38, hP1, hD1⟩ := hB
  rw [ht] at hP1
  obtain ⟨hP, hD⟩ := va_join (wr := []) (w1 := [(a, .inr (7, [.ref a_bytes, .int a__length, .int o37, .int a__fault])), (a_bytes, .inl (cs 0, 400, .inl a_bytes_c))]) hP hD [0, 1] [] rfl rfl (by decide) (by decide) hk1 hFc hP1 hD1
  generalize H1 = H at hP hS ⊢
  have hP : va_P D classes [(a, .inr (7, [.ref a_bytes, .int a__length, .int o37, .int a__fault])), (a_bytes, .inl (cs 0, 400, .inl a_bytes_c))] H := hP
  have hD : va_D A [(a, .inr (7, [.ref a_bytes, .int a__length, .int o37, .int a__fault])), (a_bytes, .inl (cs 0, 400, .inl a_bytes_c))] := hD
  clear hk1 hFc hP1 hD1 hz1
  refine lv_aload_n hx hb dX7_takeNumber_4 rfl (lv_at hl 0 rfl) ?_
  refine va_get (D := D) (ci := 7) (v := .int o37) (C := RX7) (T := TX7) (N := 4) hx hb hT i_X7 hown hK hP 0 rfl rfl 2 (by decide) (hT _ q_129) (fun _ h9 => h9) rfl dX7_takeNumber_5 ?_
  refine lv_istore_n (lv' := [(3, .int o37), (0, .ref a), (1, .int 1), (2, .int 99)]) hx hb dX7_takeNumber_8 rfl hl (by decide) rfl (fun ls hl => ?_)
  refine lv_iconst (v := 0) hx hb dX7_takeNumber_9 (by decide) ?_
  refine lv_istore (lv' := [(4, .int 0), (3, .int o37), (0, .ref a), (1, .int 1), (2, .int 99)]) hx hb dX7_takeNumber_10 hl (by decide) rfl (fun ls hl => ?_)
  exact K12 _ 0 o37 o37 (Nat.le_refl _) h38 h38 H locs (hP.sub (ws' := [(a, .inr (7, [.ref a_bytes, .int a__length, .int o37, .int a__fault])), (a_bytes, .inl (cs 0, 400, .inl a_bytes_c))]) [0, 1] rfl) (hD.sub (ws' := [(a, .inr (7, [.ref a_bytes, .int a__length, .int o37, .int a__fault])), (a_bytes, .inl (cs 0, 400, .inl a_bytes_c))]) [0, 1] (by decide) rfl) hS ls (lv_sub hl [0, 1, 2, 3, 4] rfl)
set_option maxHeartbeats 4000000 in
set_option maxRecDepth 100000 in
theorem c_X0_numberTold_66 (l : Launch) (D : va_G) (cs : Nat → ClassId) (kK kV : Nat → Nat) (a : Nat) (a_tape : Nat) (a_told : Nat) (a__kindsTold : Int32) (a_tape_bytes : Nat) (a_tape__length : Int32) (a_tape__place : Int32) (a_tape__fault : Int32) (a_tape_bytes_c : Nat → Int32) (h_a_tape__length : IV 0 400 a_tape__length) (h_a_tape__place : IV 0 400 a_tape__place) (h_a_tape__fault : IV 0 3205 a_tape__fault) (h_a_tape_bytes_c : CI 400 0 255 a_tape_bytes_c) (sz : Nat) : Met l yX0_numberTold (hz_w yX0_numberTold cX0_numberTold 3 (some .int)) ({ frames := 2, cells := 0, slots := 0, locals := 46 }) (va_Pc [.ref a, .int 1, .int 99] (hz_C D cs kK kV sz [(a, .inr (0, [.ref a_tape, .ref a_told, .int a__kindsTold])), (a_tape, .inr (7, [.ref a_tape_bytes, .int a_tape__length, .int a_tape__place, .int a_tape__fault])), (a_tape_bytes, .inl (cs 0, 400, .inl a_tape_bytes_c))])) (va_Qi (fun (r : Int32) (u : (Nat → Int32) × (Nat → Nat → Int32)) => (r = 1 ∧ IV 1 3205 (u.1 0) ∧ IV 1 3205 a_tape__fault ∧ IV 0 400 (u.1 1)) ∨ (IV 1 99 r ∧ IV 0 3205 (u.1 0) ∧ IV 0 0 a_tape__fault ∧ IV 0 400 (u.1 1)) ∨ (IV 1 3205 (u.1 0) ∧ IV 0 0 a_tape__fault ∧ IV 0 400 (u.1 1))) (fun u t => va_P D classes [(a, .inr (0, [.ref a_tape, .ref a_told, .int a__kindsTold])), (a_tape, .inr (7, [.ref a_tape_bytes, .int a_tape__length, .int (u.1 1), .int (u.1 0)])), (a_tape_bytes, .inl (cs 0, 400, .inl a_tape_bytes_c))] t.heap ∧ va_D (va_A [(a, .inr (0, [.ref a_tape, .ref a_told, .int a__kindsTold])), (a_tape, .inr (7, [.ref a_tape_bytes, .int a_tape__length, .int a_tape__place, .int a_tape__fault])), (a_tape_bytes, .inl (cs 0, 400, .inl a_tape_bytes_c))] sz) [(a, .inr (0, [.ref a_tape, .ref a_told, .int a__kindsTold])), (a_tape, .inr (7, [.ref a_tape_bytes, .int a_tape__length, .int (u.1 1), .int (u.1 0)])), (a_tape_bytes, .inl (cs 0, 400, .inl a_tape_bytes_c))]) (va_A [(a, .inr (0, [.ref a_tape, .ref a_told, .int a__kindsTold])), (a_tape, .inr (7, [.ref a_tape_bytes, .int a_tape__length, .int a_tape__place, .int a_tape__fault])), (a_tape_bytes, .inl (cs 0, 400, .inl a_tape_bytes_c))] sz)) 0 0 (va_A [(a, .inr (0, [.ref a_tape, .ref a_told, .int a__kindsTold])), (a_tape, .inr (7, [.ref a_tape_bytes, .int a_tape__length, .int a_tape__place, .int a_tape__fault])), (a_tape_bytes, .inl (cs 0, 400, .inl a_tape_bytes_c))] sz) := by
  refine Met.ofW (cc := cX0_numberTold) (maxL := 3) (ret := (some .int)) (by decide) rfl ?_
  intro p e s m args below meth c s₁ B hml hv
  obtain ⟨rfl, hsz, hP, hD0, hE⟩ := hv
  have hx := B.exec
  have hb := B.bytes
  have hr := B.returns
  have hT : ∀ w ∈ TB, w.before _ s = true := fun w h => atoms_spec (ws := hz_w yX0_numberTold cX0_numberTold 3 (some .int)) B.pre w (List.mem_cons_of_mem _ h)
  have hown : s.vm.findClass RX0 = some m.cls := findClass_of_methodNamed B.named
  have hlocks := B.notSynchronized
  clear B
  subst hsz
  have hD := hD0.self (sz := s.heap.size)
  generalize hAe : va_A [(a, .inr (0, [.ref a_tape, .ref a_told, .int a__kindsTold])), (a_tape, .inr (7, [.ref a_tape_bytes, .int a_tape__length, .int a_tape__place, .int a_tape__fault])), (a_tape_bytes, .inl (cs 0, 400, .inl a_tape_bytes_c))] s.heap.size = A at hD hE ⊢
  have hA : ∀ q : Nat, s.heap.size ≤ q → A q := fun q h => by rw [← hAe]; exact Or.inr h
  clear hAe hD0
  have hS : va_S A s.heap s.heap [] := va_S.rf
  have hK := hE.1
  have hl := lv_entry ([.ref a, .int 1, .int 99]) (n := 3) (Nat.le_of_ble_eq_true rfl)
  rw [lg_entry_eq]
  generalize (lg_sl ([.ref a, .int 1, .int 99]) ++ List.replicate (3 - (lg_sl ([.ref a, .int 1, .int 99])).length) Slot.unset).toArray = ls at hl ⊢
  have hl : lv_has ls 3 [(0, .ref a), (1, .int 1), (2, .int 99)] := hl
  obtain ⟨H, eH⟩ : ∃ z, z = s.heap := ⟨_, rfl⟩
  have hP : va_P D classes [(a, .inr (0, [.ref a_tape, .ref a_told, .int a__kindsTold])), (a_tape, .inr (7, [.ref a_tape_bytes, .int a_tape__length, .int a_tape__place, .int a_tape__fault])), (a_tape_bytes, .inl (cs 0, 400, .inl a_tape_bytes_c))] H := by rw [eH]; exact hP
  have hS : va_S A s.heap H [] := by rw [eH]; exact hS
  rw [← eH]
  clear eH
  obtain ⟨locs, el⟩ : ∃ z : List Loc, z = [] := ⟨_, rfl⟩
  rw [← el] at hS ⊢
  clear el
  refine lv_aload_n hx hb dX0_numberTold_0 rfl (lv_at hl 0 rfl) ?_
  refine va_get (D := D) (ci := 0) (v := .ref a_tape) (C := RX0) (T := TX0) (N := 3) hx hb hT i_X0 hown hK hP 0 rfl rfl 0 (by decide) (hT _ q_44) (fun _ h9 => h9) rfl dX0_numberTold_1 ?_
  refine va_calli (va_runV (As := []) (rest := []) ⟨hx, hb, hml, hown, hT⟩ (c_X7_isSound l D cs kK kV a_tape a_tape_bytes a_tape__length a_tape__place a_tape__fault h_a_tape__fault) (cwV 0 hT (hz_gV q_420 q_421 q_422 q_221 q_423) rfl rfl rfl (by decide +kernel) ⟨(Nat.le_of_ble_eq_true rfl), (Nat.le_of_ble_eq_true rfl)⟩) ⟨hz_P.blind, va_recv hK hP (ci := 7) (q0 := 1) rfl rfl, hz_P.mk (hP.sub (ws' := [(a_tape, .inr (7, [.ref a_tape_bytes, .int a_tape__length, .int a_tape__place, .int a_tape__fault]))]) [1] rfl) hE hS⟩ rfl rfl hl.1 rfl (lv_room (Nat.le_of_ble_eq_true rfl)) dX0_numberTold_4 ⟨(Nat.le_of_ble_eq_true rfl), (Nat.le_of_ble_eq_true rfl)⟩) hS (fun _ _ h => h.elim) (fun _ h => h.elim) (fun r1 u t H1 locs ht hvm hw hB hz1 hk1 hS => ?_)
  have hP := hz_keep hP hk1
  clear hk1 hB hz1
  generalize H1 = H at hP hS ⊢
  rcases hw with ⟨rfl, h2⟩ | ⟨rfl, h3⟩
  · refine lv_if_eq (tgt := 22) hx hb dX0_numberTold_7 (by decide) (fun _ => ?_) (fun z => absurd (by decide) z)
    refine lv_iload_n hx hb dX0_numberTold_22 rfl (lv_at hl 1 rfl) ?_
    refine W.widen (k := 0) (n := 0) (Nat.le_of_ble_eq_true rfl) (Nat.le_of_ble_eq_true rfl) ?_
    exact W.iret (v := 1) hx hb hr (fun t ht hW => ⟨⟨1, (fun k => match k with | 0 => a_tape__fault | 1 => a_tape__place | _ => 0, fun _ _ => 0), rfl, (Or.inl (⟨rfl, h2, h2, h_a_tape__place⟩)), by rw [ht]; exact hP.sub [0, 1, 2] rfl, hD.sub [0, 1, 2] (by decide) rfl⟩, hS.F ht⟩) hS.2.2 dX0_numberTold_23
  · refine lv_if_eq (tgt := 22) hx hb dX0_numberTold_7 (by decide) (fun z => absurd z (by decide)) (fun _ => ?_)
    refine lv_aload_n hx hb dX0_numberTold_10 rfl (lv_at hl 0 rfl) ?_
    refine va_get (D := D) (ci := 0) (v := .ref a_tape) (C := RX0) (T := TX0) (N := 3) hx hb hT i_X0 hown hK hP 0 rfl rfl 0 (by decide) (hT _ q_44) (fun _ h9 => h9) rfl dX0_numberTold_11 ?_
    refine lv_iload_n hx hb dX0_numberTold_14 rfl (lv_at hl 1 rfl) ?_
    refine lv_iload_n hx hb dX0_numberTold_15 rfl (lv_at hl 2 rfl) ?_
    have hFc := va_free (wc := [(a_tape, .inr (7, [.ref a_tape_bytes, .int a_tape__length, .int a_tape__place, .int a_tape__fault])), (a_tape_bytes, .inl (cs 0, 400, .inl a_tape_bytes_c))]) hD hS hA [1,2] rfl
    refine va_calli (va_runV (As := [.int 1, .int 99]) (rest := []) ⟨hx, hb, hml, hown, hT⟩ (c_X7_takeNumber_67 l D cs kK kV a_tape a_tape_bytes a_tape__length a_tape__place a_tape__fault a_tape_bytes_c h_a_tape__length h_a_tape__place ((iv_w h3 (by decide) (by decide))) h_a_tape_bytes_c H.size) (cwV 2 hT (hz_gV q_472 q_473 q_474 q_221 q_475) rfl rfl rfl (by decide +kernel) ⟨(Nat.le_of_ble_eq_true rfl), (Nat.le_of_ble_eq_true rfl)⟩) ⟨hz_C.blind, va_recv hK hP (ci := 7) (q0 := 1) rfl rfl, hz_C.mk (hP.sub (ws' := [(a_tape, .inr (7, [.ref a_tape_bytes, .int a_tape__length, .int a_tape__place, .int a_tape__fault])), (a_tape_bytes, .inl (cs 0, 400, .inl a_tape_bytes_c))]) [1,2] rfl) (hD.sub (ws' := [(a_tape, .inr (7, [.ref a_tape_bytes, .int a_tape__length, .int a_tape__place, .int a_tape__fault])), (a_tape_bytes, .inl (cs 0, 400, .inl a_tape_bytes_c))]) [1,2] (by decide) rfl) hE hS hFc⟩ rfl rfl hl.1 rfl (lv_room (Nat.le_of_ble_eq_true rfl)) dX0_numberTold_16 ⟨(Nat.le_of_ble_eq_true rfl), (Nat.le_of_ble_eq_true rfl)⟩) hS (fun q _ h => hFc q h) hFc (fun r4 o5 t H1 locs ht hvm hw hB hz1 hk1 hS => ?_)
    obtain ⟨hP1, hD1⟩ := hB
    rw [ht] at hP1
    obtain ⟨hP, hD⟩ := va_join (wr := [(a, .inr (0, [.ref a_tape, .ref a_told, .int a__kindsTold]))]) (w1 := [(a_tape, .inr (7, [.ref a_tape_bytes, .int a_tape__length, .int (o5.1 1), .int (o5.1 0)])), (a_tape_bytes, .inl (cs 0, 400, .inl a_tape_bytes_c))]) hP hD [1, 2] [0] rfl rfl (by decide) (by decide) hk1 hFc hP1 hD1
    generalize H1 = H at hP hS ⊢
    have hP : va_P D classes [(a, .inr (0, [.ref a_tape, .ref a_told, .int a__kindsTold])), (a_tape, .inr (7, [.ref a_tape_bytes, .int a_tape__length, .int (o5.1 1), .int (o5.1 0)])), (a_tape_bytes, .inl (cs 0, 400, .inl a_tape_bytes_c))] H := hP
    have hD : va_D A [(a, .inr (0, [.ref a_tape, .ref a_told, .int a__kindsTold])), (a_tape, .inr (7, [.ref a_tape_bytes, .int a_tape__length, .int (o5.1 1), .int (o5.1 0)])), (a_tape_bytes, .inl (cs 0, 400, .inl a_tape_bytes_c))] := hD
    clear hk1 hFc hP1 hD1 hz1
    rcases hw with ⟨h6, h7, h8⟩ | ⟨h9, h10⟩
    · refine lv_goto (tgt := 23) hx hb dX0_numberTold_19 (by decide) ?_
      refine W.widen (k := 0) (n := 0) (Nat.le_of_ble_eq_true rfl) (Nat.le_of_ble_eq_true rfl) ?_
      exact W.iret (v := r4) hx hb hr (fun t ht hW => ⟨⟨r4, (fun k => match k with | 0 => o5.1 0 | 1 => o5.1 1 | _ => 0, fun _ _ => 0), rfl, (Or.inr (Or.inl (⟨h6, h7, h3, h8⟩))), by rw [ht]; exact hP.sub [0, 1, 2] rfl, hD.sub [0, 1, 2] (by decide) rfl⟩, hS.F ht⟩) hS.2.2 dX0_numberTold_23
    · refine lv_goto (tgt := 23) hx hb dX0_numberTold_19 (by decide) ?_
      refine W.widen (k := 0) (n := 0) (Nat.le_of_ble_eq_true rfl) (Nat.le_of_ble_eq_true rfl) ?_
      exact W.iret (v := r4) hx hb hr (fun t ht hW => ⟨⟨r4, (fun k => match k with | 0 => o5.1 0 | 1 => o5.1 1 | _ => 0, fun _ _ => 0), rfl, (Or.inr (Or.inr ((⟨h9, h3, h10⟩)))), by rw [ht]; exact hP.sub [0, 1, 2] rfl, hD.sub [0, 1, 2] (by decide) rfl⟩, hS.F ht⟩) hS.2.2 dX0_numberTold_23
