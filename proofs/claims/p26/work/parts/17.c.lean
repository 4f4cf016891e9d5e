theorem dX0_readBuyer_0 : decode cX0_readBuyer 0 = .ok (.aload_n 0, 1) := by decide +kernel
theorem dX0_readBuyer_1 : decode cX0_readBuyer 1 = .ok (.getfield 18, 3) := by decide +kernel
theorem dX0_readBuyer_4 : decode cX0_readBuyer 4 = .ok (.getfield 102, 3) := by decide +kernel
theorem dX0_readBuyer_7 : decode cX0_readBuyer 7 = .ok (.istore_n 1, 1) := by decide +kernel
theorem dX0_readBuyer_8 : decode cX0_readBuyer 8 = .ok (.aload_n 0, 1) := by decide +kernel
theorem dX0_readBuyer_9 : decode cX0_readBuyer 9 = .ok (.getfield 18, 3) := by decide +kernel
theorem dX0_readBuyer_12 : decode cX0_readBuyer 12 = .ok (.getfield 124, 3) := by decide +kernel
theorem dX0_readBuyer_15 : decode cX0_readBuyer 15 = .ok (.iload_n 1, 1) := by decide +kernel
theorem dX0_readBuyer_16 : decode cX0_readBuyer 16 = .ok (.aload_n 0, 1) := by decide +kernel
theorem dX0_readBuyer_17 : decode cX0_readBuyer 17 = .ok (.iconst 0, 1) := by decide +kernel
theorem dX0_readBuyer_18 : decode cX0_readBuyer 18 = .ok (.sipush 999, 3) := by decide +kernel
theorem dX0_readBuyer_21 : decode cX0_readBuyer 21 = .ok (.invokevirtual 65, 3) := by decide +kernel
theorem dX0_readBuyer_24 : decode cX0_readBuyer 24 = .ok (.iastore, 1) := by decide +kernel
theorem dX0_readBuyer_25 : decode cX0_readBuyer 25 = .ok (.aload_n 0, 1) := by decide +kernel
theorem dX0_readBuyer_26 : decode cX0_readBuyer 26 = .ok (.getfield 18, 3) := by decide +kernel
theorem dX0_readBuyer_29 : decode cX0_readBuyer 29 = .ok (.getfield 127, 3) := by decide +kernel
theorem dX0_readBuyer_32 : decode cX0_readBuyer 32 = .ok (.iload_n 1, 1) := by decide +kernel
theorem dX0_readBuyer_33 : decode cX0_readBuyer 33 = .ok (.aload_n 0, 1) := by decide +kernel
theorem dX0_readBuyer_34 : decode cX0_readBuyer 34 = .ok (.iconst 0, 1) := by decide +kernel
theorem dX0_readBuyer_35 : decode cX0_readBuyer 35 = .ok (.aload_n 0, 1) := by decide +kernel
theorem dX0_readBuyer_36 : decode cX0_readBuyer 36 = .ok (.getfield 18, 3) := by decide +kernel
theorem dX0_readBuyer_39 : decode cX0_readBuyer 39 = .ok (.getfield 69, 3) := by decide +kernel
theorem dX0_readBuyer_42 : decode cX0_readBuyer 42 = .ok (.iconst 1, 1) := by decide +kernel
theorem dX0_readBuyer_43 : decode cX0_readBuyer 43 = .ok (.isub, 1) := by decide +kernel
theorem dX0_readBuyer_44 : decode cX0_readBuyer 44 = .ok (.invokevirtual 65, 3) := by decide +kernel
theorem dX0_readBuyer_47 : decode cX0_readBuyer 47 = .ok (.iastore, 1) := by decide +kernel
theorem dX0_readBuyer_48 : decode cX0_readBuyer 48 = .ok (.aload_n 0, 1) := by decide +kernel
theorem dX0_readBuyer_49 : decode cX0_readBuyer 49 = .ok (.getfield 18, 3) := by decide +kernel
theorem dX0_readBuyer_52 : decode cX0_readBuyer 52 = .ok (.getfield 130, 3) := by decide +kernel
theorem dX0_readBuyer_55 : decode cX0_readBuyer 55 = .ok (.iload_n 1, 1) := by decide +kernel
theorem dX0_readBuyer_56 : decode cX0_readBuyer 56 = .ok (.iconst 1, 1) := by decide +kernel
theorem dX0_readBuyer_57 : decode cX0_readBuyer 57 = .ok (.iload_n 1, 1) := by decide +kernel
theorem dX0_readBuyer_58 : decode cX0_readBuyer 58 = .ok (.ishl, 1) := by decide +kernel
theorem dX0_readBuyer_59 : decode cX0_readBuyer 59 = .ok (.iastore, 1) := by decide +kernel
theorem dX0_readBuyer_60 : decode cX0_readBuyer 60 = .ok (.aload_n 0, 1) := by decide +kernel
theorem dX0_readBuyer_61 : decode cX0_readBuyer 61 = .ok (.getfield 18, 3) := by decide +kernel
theorem dX0_readBuyer_64 : decode cX0_readBuyer 64 = .ok (.dup, 1) := by decide +kernel
theorem dX0_readBuyer_65 : decode cX0_readBuyer 65 = .ok (.getfield 102, 3) := by decide +kernel
theorem dX0_readBuyer_68 : decode cX0_readBuyer 68 = .ok (.iconst 1, 1) := by decide +kernel
theorem dX0_readBuyer_69 : decode cX0_readBuyer 69 = .ok (.iadd, 1) := by decide +kernel
theorem dX0_readBuyer_70 : decode cX0_readBuyer 70 = .ok (.putfield 102, 3) := by decide +kernel
theorem dX0_readBuyer_73 : decode cX0_readBuyer 73 = .ok (.return_, 1) := by decide +kernel
set_option maxHeartbeats 4000000 in
set_option maxRecDepth 100000 in
theorem c_X0_readBuyer (l : Launch) (D : va_G) (cs : Nat → ClassId) (kK kV : Nat → Nat) (a : Nat) (a_tape : Nat) (a_told : Nat) (a__kindsTold : Int32) (a_told__stalls : Int32) (a_told__shift : Int32) (a_told__halves : Int32) (a_told__buyers : Int32) (a_told__near : Int32) (a_told__dusk : Int32) (a_told__duskPrice : Int32) (a_told__hear : Int32) (a_told__forged : Int32) (a_told_stall : Nat) (a_told_shape : Nat) (a_told_side : Nat) (a_told_price : Nat) (a_told_purse : Nat) (a_told_spot : Nat) (a_told_club : Nat) (a_told_fitting : Nat) (a_told_nearly : Nat) (a_tape_bytes : Nat) (a_tape__length : Int32) (a_tape__place : Int32) (a_tape__fault : Int32) (a_tape_bytes_c : Nat → Int32) (a_told_purse_c : Nat → Int32) (a_told_spot_c : Nat → Int32) (a_told_club_c : Nat → Int32) (h_a_told__stalls : IV 0 8 a_told__stalls) (h_a_told__buyers : IV 0 3 a_told__buyers) (h_a_tape__length : IV 0 400 a_tape__length) (h_a_tape__place : IV 0 400 a_tape__place) (h_a_tape__fault : IV 0 3205 a_tape__fault) (h_a_tape_bytes_c : CI 400 0 255 a_tape_bytes_c) (sz : Nat) : Met l yX0_readBuyer (hz_w yX0_readBuyer cX0_readBuyer 2 none) ({ frames := 3, cells := 0, slots := 0, locals := 68 }) (va_Pc [.ref a] (hz_C D cs kK kV sz [(a, .inr (0, [.ref a_tape, .ref a_told, .int a__kindsTold])), (a_told, .inr (8, [.int a_told__stalls, .int a_told__shift, .int a_told__halves, .int a_told__buyers, .int a_told__near, .int a_told__dusk, .int a_told__duskPrice, .int a_told__hear, .int a_told__forged, .ref a_told_stall, .ref a_told_shape, .ref a_told_side, .ref a_told_price, .ref a_told_purse, .ref a_told_spot, .ref a_told_club, .ref a_told_fitting, .ref a_told_nearly])), (a_tape, .inr (7, [.ref a_tape_bytes, .int a_tape__length, .int a_tape__place, .int a_tape__fault])), (a_tape_bytes, .inl (cs 0, 400, .inl a_tape_bytes_c)), (a_told_purse, .inl (cs 0, 4, .inl a_told_purse_c)), (a_told_spot, .inl (cs 0, 4, .inl a_told_spot_c)), (a_told_club, .inl (cs 0, 4, .inl a_told_club_c))])) (va_Qv (fun (u : (Nat → Int32) × (Nat → Nat → Int32)) => (IV 0 3205 (u.1 0) ∧ IV 0 0 a_tape__fault ∧ IV 0 400 (u.1 1) ∧ IV 1 4 (u.1 2)) ∨ (IV 1 3205 (u.1 0) ∧ IV 0 400 (u.1 1) ∧ IV 1 4 (u.1 2))) (fun u t => va_P D classes [(a, .inr (0, [.ref a_tape, .ref a_told, .int a__kindsTold])), (a_told, .inr (8, [.int a_told__stalls, .int a_told__shift, .int a_told__halves, .int (u.1 2), .int a_told__near, .int a_told__dusk, .int a_told__duskPrice, .int a_told__hear, .int a_told__forged, .ref a_told_stall, .ref a_told_shape, .ref a_told_side, .ref a_told_price, .ref a_told_purse, .ref a_told_spot, .ref a_told_club, .ref a_told_fitting, .ref a_told_nearly])), (a_tape, .inr (7, [.ref a_tape_bytes, .int a_tape__length, .int (u.1 1), .int (u.1 0)])), (a_tape_bytes, .inl (cs 0, 400, .inl a_tape_bytes_c)), (a_told_purse, .inl (cs 0, 4, .inl (u.2 1))), (a_told_spot, .inl (cs 0, 4, .inl (u.2 2))), (a_told_club, .inl (cs 0, 4, .inl (u.2 0)))] t.heap ∧ va_D (va_A [(a, .inr (0, [.ref a_tape, .ref a_told, .int a__kindsTold])), (a_told, .inr (8, [.int a_told__stalls, .int a_told__shift, .int a_told__halves, .int a_told__buyers, .int a_told__near, .int a_told__dusk, .int a_told__duskPrice, .int a_told__hear, .int a_told__forged, .ref a_told_stall, .ref a_told_shape, .ref a_told_side, .ref a_told_price, .ref a_told_purse, .ref a_told_spot, .ref a_told_club, .ref a_told_fitting, .ref a_told_nearly])), (a_tape, .inr (7, [.ref a_tape_bytes, .int a_tape__length, .int a_tape__place, .int a_tape__fault])), (a_tape_bytes, .inl (cs 0, 400, .inl a_tape_bytes_c)), (a_told_purse, .inl (cs 0, 4, .inl a_told_purse_c)), (a_told_spot, .inl (cs 0, 4, .inl a_told_spot_c)), (a_told_club, .inl (cs 0, 4, .inl a_told_club_c))] sz) [(a, .inr (0, [.ref a_tape, .ref a_told, .int a__kindsTold])), (a_told, .inr (8, [.int a_told__stalls, .int a_told__shift, .int a_told__halves, .int (u.1 2), .int a_told__near, .int a_told__dusk, .int a_told__duskPrice, .int a_told__hear, .int a_told__forged, .ref a_told_stall, .ref a_told_shape, .ref a_told_side, .ref a_told_price, .ref a_told_purse, .ref a_told_spot, .ref a_told_club, .ref a_told_fitting, .ref a_told_nearly])), (a_tape, .inr (7, [.ref a_tape_bytes, .int a_tape__length, .int (u.1 1), .int (u.1 0)])), (a_tape_bytes, .inl (cs 0, 400, .inl a_tape_bytes_c)), (a_told_purse, .inl (cs 0, 4, .inl (u.2 1))), (a_told_spot, .inl (cs 0, 4, .inl (u.2 2))), (a_told_club, .inl (cs 0, 4, .inl (u.2 0)))]) (va_A [(a, .inr (0, [.ref a_tape, .ref a_told, .int a__kindsTold])), (a_told, .inr (8, [.int a_told__stalls, .int a_told__shift, .int a_told__halves, .int a_told__buyers, .int a_told__near, .int a_told__dusk, .int a_told__duskPrice, .int a_told__hear, .int a_told__forged, .ref a_told_stall, .ref a_told_shape, .ref a_told_side, .ref a_told_price, .ref a_told_purse, .ref a_told_spot, .ref a_told_club, .ref a_told_fitting, .ref a_told_nearly])), (a_tape, .inr (7, [.ref a_tape_bytes, .int a_tape__length, .int a_tape__place, .int a_tape__fault])), (a_tape_bytes, .inl (cs 0, 400, .inl a_tape_bytes_c)), (a_told_purse, .inl (cs 0, 4, .inl a_told_purse_c)), (a_told_spot, .inl (cs 0, 4, .inl a_told_spot_c)), (a_told_club, .inl (cs 0, 4, .inl a_told_club_c))] sz)) 0 0 (va_A [(a, .inr (0, [.ref a_tape, .ref a_told, .int a__kindsTold])), (a_told, .inr (8, [.int a_told__stalls, .int a_told__shift, .int a_told__halves, .int a_told__buyers, .int a_told__near, .int a_told__dusk, .int a_told__duskPrice, .int a_told__hear, .int a_told__forged, .ref a_told_stall, .ref a_told_shape, .ref a_told_side, .ref a_told_price, .ref a_told_purse, .ref a_told_spot, .ref a_told_club, .ref a_told_fitting, .ref a_told_nearly])), (a_tape, .inr (7, [.ref a_tape_bytes, .int a_tape__length, .int a_tape__place, .int a_tape__fault])), (a_tape_bytes, .inl (cs 0, 400, .inl a_tape_bytes_c)), (a_told_purse, .inl (cs 0, 4, .inl a_told_purse_c)), (a_told_spot, .inl (cs 0, 4, .inl a_told_spot_c)), (a_told_club, .inl (cs 0, 4, .inl a_told_club_c))] sz) := by
  refine Met.ofW (cc := cX0_readBuyer) (maxL := 2) (ret := none) (by decide) rfl ?_
  intro p e s m args below meth c s₁ B hml hv
  obtain ⟨rfl, hsz, hP, hD0, hE⟩ := hv
  have hx := B.exec
  have hb := B.bytes
  have hr := B.returns
  have hT : ∀ w ∈ TB, w.before _ s = true := fun w h => atoms_spec (ws := hz_w yX0_readBuyer cX0_readBuyer 2 none) B.pre w (List.mem_cons_of_mem _ h)
  have hown : s.vm.findClass RX0 = some m.cls := findClass_of_methodNamed B.named
  have hlocks := B.notSynchronized
  clear B
  subst hsz
  have hD := hD0.self (sz := s.heap.size)
  generalize hAe : va_A [(a, .inr (0, [.ref a_tape, .ref a_told, .int a__kindsTold])), (a_told, .inr (8, [.int a_told__stalls, .int a_told__shift, .int a_told__halves, .int a_told__buyers, .int a_told__near, .int a_told__dusk, .int a_told__duskPrice, .int a_told__hear, .int a_told__forged, .ref a_told_stall, .ref a_told_shape, .ref a_told_side, .ref a_told_price, .ref a_told_purse, .ref a_told_spot, .ref a_told_club, .ref a_told_fitting, .ref a_told_nearly])), (a_tape, .inr (7, [.ref a_tape_bytes, .int a_tape__length, .int a_tape__place, .int a_tape__fault])), (a_tape_bytes, .inl (cs 0, 400, .inl a_tape_bytes_c)), (a_told_purse, .inl (cs 0, 4, .inl a_told_purse_c)), (a_told_spot, .inl (cs 0, 4, .inl a_told_spot_c)), (a_told_club, .inl (cs 0, 4, .inl a_told_club_c))] s.heap.size = A at hD hE ⊢
  have hA : ∀ q : Nat, s.heap.size ≤ q → A q := fun q h => by rw [← hAe]; exact Or.inr h
  clear hAe hD0
  have hS : va_S A s.heap s.heap [] := va_S.rf
  have hK := hE.1
  have hl := lv_entry ([.ref a]) (n := 2) (Nat.le_of_ble_eq_true rfl)
  rw [lg_entry_eq]
  generalize (lg_sl ([.ref a]) ++ List.replicate (2 - (lg_sl ([.ref a])).length) Slot.unset).toArray = ls at hl ⊢
  have hl : lv_has ls 2 [(0, .ref a)] := hl
  obtain ⟨H, eH⟩ : ∃ z, z = s.heap := ⟨_, rfl⟩
  have hP : va_P D classes [(a, .inr (0, [.ref a_tape, .ref a_told, .int a__kindsTold])), (a_told, .inr (8, [.int a_told__stalls, .int a_told__shift, .int a_told__halves, .int a_told__buyers, .int a_told__near, .int a_told__dusk, .int a_told__duskPrice, .int a_told__hear, .int a_told__forged, .ref a_told_stall, .ref a_told_shape, .ref a_told_side, .ref a_told_price, .ref a_told_purse, .ref a_told_spot, .ref a_told_club, .ref a_told_fitting, .ref a_told_nearly])), (a_tape, .inr (7, [.ref a_tape_bytes, .int a_tape__length, .int a_tape__place, .int a_tape__fault])), (a_tape_bytes, .inl (cs 0, 400, .inl a_tape_bytes_c)), (a_told_purse, .inl (cs 0, 4, .inl a_told_purse_c)), (a_told_spot, .inl (cs 0, 4, .inl a_told_spot_c)), (a_told_club, .inl (cs 0, 4, .inl a_told_club_c))] H := by rw [eH]; exact hP
  have hS : va_S A s.heap H [] := by rw [eH]; exact hS
  rw [← eH]
  clear eH
  obtain ⟨locs, el⟩ : ∃ z : List Loc, z = [] := ⟨_, rfl⟩
  rw [← el] at hS ⊢
  clear el
  refine lv_aload_n hx hb dX0_readBuyer_0 rfl (lv_at hl 0 rfl) ?_
  refine va_get (D := D) (ci := 0) (v := .ref a_told) (C := RX0) (T := TX0) (N := 3) hx hb hT i_X0 hown hK hP 0 rfl rfl 1 (by decide) (hT _ q_45) (fun _ h9 => h9) rfl dX0_readBuyer_1 ?_
  refine va_get (D := D) (ci := 8) (v := .int a_told__buyers) (C := RX8) (T := TX8) (N := 18) hx hb hT i_X8 hown hK hP 1 rfl rfl 3 (by decide) (hT _ q_55) (fun _ h9 => h9) rfl dX0_readBuyer_4 ?_
  refine lv_istore_n (lv' := [(1, .int a_told__buyers), (0, .ref a)]) hx hb dX0_readBuyer_7 rfl hl (by decide) rfl (fun ls hl => ?_)
  refine lv_aload_n hx hb dX0_readBuyer_8 rfl (lv_at hl 1 rfl) ?_
  refine va_get (D := D) (ci := 0) (v := .ref a_told) (C := RX0) (T := TX0) (N := 3) hx hb hT i_X0 hown hK hP 0 rfl rfl 1 (by decide) (hT _ q_45) (fun _ h9 => h9) rfl dX0_readBuyer_9 ?_
  refine va_get (D := D) (ci := 8) (v := .ref a_told_purse) (C := RX8) (T := TX8) (N := 18) hx hb hT i_X8 hown hK hP 1 rfl rfl 13 (by decide) (hT _ q_61) (fun _ h9 => h9) rfl dX0_readBuyer_12 ?_
  refine lv_iload_n hx hb dX0_readBuyer_15 rfl (lv_at hl 0 rfl) ?_
  refine lv_aload_n hx hb dX0_readBuyer_16 rfl (lv_at hl 1 rfl) ?_
  refine lv_iconst (v := 0) hx hb dX0_readBuyer_17 (by decide) ?_
  refine lv_sipush (v := 999) hx hb dX0_readBuyer_18 (by decide) ?_
  have hFc := va_free (wc := [(a, .inr (0, [.ref a_tape, .ref a_told, .int a__kindsTold])), (a_tape, .inr (7, [.ref a_tape_bytes, .int a_tape__length, .int a_tape__place, .int a_tape__fault])), (a_tape_bytes, .inl (cs 0, 400, .inl a_tape_bytes_c))]) hD hS hA [0,2,3] rfl
  refine va_calli (va_runV (As := [.int 0, .int 999]) (rest := [.int a_told__buyers, .ref a_told_purse]) ⟨hx, hb, hml, hown, hT⟩ (c_X0_numberTold_68 l D cs kK kV a a_tape a_told a__kindsTold a_tape_bytes a_tape__length a_tape__place a_tape__fault a_tape_bytes_c h_a_tape__length h_a_tape__place h_a_tape__fault h_a_tape_bytes_c H.size) (cwV 2 hT (hz_gV q_452 q_453 q_454 q_226 q_455) rfl rfl rfl (by decide +kernel) ⟨(Nat.le_of_ble_eq_true rfl), (Nat.le_of_ble_eq_true rfl)⟩) ⟨hz_C.blind, va_recv hK hP (ci := 0) (q0 := 0) rfl rfl, hz_C.mk (hP.sub (ws' := [(a, .inr (0, [.ref a_tape, .ref a_told, .int a__kindsTold])), (a_tape, .inr (7, [.ref a_tape_bytes, .int a_tape__length, .int a_tape__place, .int a_tape__fault])), (a_tape_bytes, .inl (cs 0, 400, .inl a_tape_bytes_c))]) [0,2,3] rfl) (hD.sub (ws' := [(a, .inr (0, [.ref a_tape, .ref a_told, .int a__kindsTold])), (a_tape, .inr (7, [.ref a_tape_bytes, .int a_tape__length, .int a_tape__place, .int a_tape__fault])), (a_tape_bytes, .inl (cs 0, 400, .inl a_tape_bytes_c))]) [0,2,3] (by decide) rfl) hE hS hFc⟩ rfl rfl hl.1 rfl (lv_room (Nat.le_of_ble_eq_true rfl)) dX0_readBuyer_21 ⟨(Nat.le_of_ble_eq_true rfl), (Nat.le_of_ble_eq_true rfl)⟩) hS (fun q _ h => hFc q h) hFc (fun r1 o2 t H1 locs ht hvm hw hB hz1 hk1 hS => ?_)
  obtain ⟨hP1, hD1⟩ := hB
  rw [ht] at hP1
  obtain ⟨hP, hD⟩ := va_join (wr := [(a_told, .inr (8, [.int a_told__stalls, .int a_told__shift, .int a_told__halves, .int a_told__buyers, .int a_told__near, .int a_told__dusk, .int a_told__duskPrice, .int a_told__hear, .int a_told__forged, .ref a_told_stall, .ref a_told_shape, .ref a_told_side, .ref a_told_price, .ref a_told_purse, .ref a_told_spot, .ref a_told_club, .ref a_told_fitting, .ref a_told_nearly])), (a_told_purse, .inl (cs 0, 4, .inl a_told_purse_c)), (a_told_spot, .inl (cs 0, 4, .inl a_told_spot_c)), (a_told_club, .inl (cs 0, 4, .inl a_told_club_c))]) (w1 := [(a, .inr (0, [.ref a_tape, .ref a_told, .int a__kindsTold])), (a_tape, .inr (7, [.ref a_tape_bytes, .int a_tape__length, .int (o2.1 1), .int (o2.1 0)])), (a_tape_bytes, .inl (cs 0, 400, .inl a_tape_bytes_c))]) hP hD [0, 2, 3] [1, 4, 5, 6] rfl rfl (by decide) (by decide) hk1 hFc hP1 hD1
  generalize H1 = H at hP hS ⊢
  have hP : va_P D classes [(a_told, .inr (8, [.int a_told__stalls, .int a_told__shift, .int a_told__halves, .int a_told__buyers, .int a_told__near, .int a_told__dusk, .int a_told__duskPrice, .int a_told__hear, .int a_told__forged, .ref a_told_stall, .ref a_told_shape, .ref a_told_side, .ref a_told_price, .ref a_told_purse, .ref a_told_spot, .ref a_told_club, .ref a_told_fitting, .ref a_told_nearly])), (a_told_purse, .inl (cs 0, 4, .inl a_told_purse_c)), (a_told_spot, .inl (cs 0, 4, .inl a_told_spot_c)), (a_told_club, .inl (cs 0, 4, .inl a_told_club_c)), (a, .inr (0, [.ref a_tape, .ref a_told, .int a__kindsTold])), (a_tape, .inr (7, [.ref a_tape_bytes, .int a_tape__length, .int (o2.1 1), .int (o2.1 0)])), (a_tape_bytes, .inl (cs 0, 400, .inl a_tape_bytes_c))] H := hP
  have hD : va_D A [(a_told, .inr (8, [.int a_told__stalls, .int a_told__shift, .int a_told__halves, .int a_told__buyers, .int a_told__near, .int a_told__dusk, .int a_told__duskPrice, .int a_told__hear, .int a_told__forged, .ref a_told_stall, .ref a_told_shape, .ref a_told_side, .ref a_told_price, .ref a_told_purse, .ref a_told_spot, .ref a_told_club, .ref a_told_fitting, .ref a_told_nearly])), (a_told_purse, .inl (cs 0, 4, .inl a_told_purse_c)), (a_told_spot, .inl (cs 0, 4, .inl a_told_spot_c)), (a_told_club, .inl (cs 0, 4, .inl a_told_club_c)), (a, .inr (0, [.ref a_tape, .ref a_told, .int a__kindsTold])), (a_tape, .inr (7, [.ref a_tape_bytes, .int a_tape__length, .int (o2.1 1), .int (o2.1 0)])), (a_tape_bytes, .inl (cs 0, 400, .inl a_tape_bytes_c))] := hD
  clear hk1 hFc hP1 hD1 hz1
  rcases hw with ⟨rfl, h3, h4, h5⟩ | ⟨h6, h7, h8, h9⟩ | ⟨h10, h11, h12⟩
  · refine va_iast hx hb hK hP hD hS 1 0 rfl rfl (iv_v h_a_told__buyers (by decide) (by decide)) dX0_readBuyer_24 (fun H locs hP hD hS => ?_)
    have hP : va_P D classes [(a_told, .inr (8, [.int a_told__stalls, .int a_told__shift, .int a_told__halves, .int a_told__buyers, .int a_told__near, .int a_told__dusk, .int a_told__duskPrice, .int a_told__hear, .int a_told__forged, .ref a_told_stall, .ref a_told_shape, .ref a_told_side, .ref a_told_price, .ref a_told_purse, .ref a_told_spot, .ref a_told_club, .ref a_told_fitting, .ref a_told_nearly])), (a_told_purse, .inl (cs 0, 4, .inl (upd a_told_purse_c (Int32.toNatClampNeg a_told__buyers) (0 : Int32)))), (a_told_spot, .inl (cs 0, 4, .inl a_told_spot_c)), (a_told_club, .inl (cs 0, 4, .inl a_told_club_c)), (a, .inr (0, [.ref a_tape, .ref a_told, .int a__kindsTold])), (a_tape, .inr (7, [.ref a_tape_bytes, .int a_tape__length, .int (o2.1 1), .int (o2.1 0)])), (a_tape_bytes, .inl (cs 0, 400, .inl a_tape_bytes_c))] H := hP
    have hD : va_D A [(a_told, .inr (8, [.int a_told__stalls, .int a_told__shift, .int a_told__halves, .int a_told__buyers, .int a_told__near, .int a_told__dusk, .int a_told__duskPrice, .int a_told__hear, .int a_told__forged, .ref a_told_stall, .ref a_told_shape, .ref a_told_side, .ref a_told_price, .ref a_told_purse, .ref a_told_spot, .ref a_told_club, .ref a_told_fitting, .ref a_told_nearly])), (a_told_purse, .inl (cs 0, 4, .inl (upd a_told_purse_c (Int32.toNatClampNeg a_told__buyers) (0 : Int32)))), (a_told_spot, .inl (cs 0, 4, .inl a_told_spot_c)), (a_told_club, .inl (cs 0, 4, .inl a_told_club_c)), (a, .inr (0, [.ref a_tape, .ref a_told, .int a__kindsTold])), (a_tape, .inr (7, [.ref a_tape_bytes, .int a_tape__length, .int (o2.1 1), .int (o2.1 0)])), (a_tape_bytes, .inl (cs 0, 400, .inl a_tape_bytes_c))] := hD
    generalize upd a_told_purse_c (Int32.toNatClampNeg a_told__buyers) (0 : Int32) = f13 at hP hD
    refine lv_aload_n hx hb dX0_readBuyer_25 rfl (lv_at hl 1 rfl) ?_
    refine va_get (D := D) (ci := 0) (v := .ref a_told) (C := RX0) (T := TX0) (N := 3) hx hb hT i_X0 hown hK hP 4 rfl rfl 1 (by decide) (hT _ q_45) (fun _ h9 => h9) rfl dX0_readBuyer_26 ?_
    refine va_get (D := D) (ci := 8) (v := .ref a_told_spot) (C := RX8) (T := TX8) (N := 18) hx hb hT i_X8 hown hK hP 0 rfl rfl 14 (by decide) (hT _ q_62) (fun _ h9 => h9) rfl dX0_readBuyer_29 ?_
    refine lv_iload_n hx hb dX0_readBuyer_32 rfl (lv_at hl 0 rfl) ?_
    refine lv_aload_n hx hb dX0_readBuyer_33 rfl (lv_at hl 1 rfl) ?_
    refine lv_iconst (v := 0) hx hb dX0_readBuyer_34 (by decide) ?_
    refine lv_aload_n hx hb dX0_readBuyer_35 rfl (lv_at hl 1 rfl) ?_
    refine va_get (D := D) (ci := 0) (v := .ref a_told) (C := RX0) (T := TX0) (N := 3) hx hb hT i_X0 hown hK hP 4 rfl rfl 1 (by decide) (hT _ q_45) (fun _ h9 => h9) rfl dX0_readBuyer_36 ?_
    refine va_get (D := D) (ci := 8) (v := .int a_told__stalls) (C := RX8) (T := TX8) (N := 18) hx hb hT i_X8 hown hK hP 0 rfl rfl 0 (by decide) (hT _ q_48) (fun _ h9 => h9) rfl dX0_readBuyer_39 ?_
    refine lv_iconst (v := 1) hx hb dX0_readBuyer_42 (by decide) ?_
    refine lv_isub hx hb dX0_readBuyer_43 ?_
    refine lv_topi (fun v14 ev14 => ?_)
    have hv14 : IV (-1) 7 v14 := iv_sub ev14 h_a_told__stalls (iv_c (a := 1) (b := 1) (by decide)) (by decide) (by decide)
    have dv14 : v14.toInt = a_told__stalls.toInt + (-1) := iv_subE ev14 h_a_told__stalls (iv_c (a := 1) (b := 1) (by decide)) (by decide) (by decide) (by decide)
    have hFc := va_free (wc := [(a, .inr (0, [.ref a_tape, .ref a_told, .int a__kindsTold])), (a_tape, .inr (7, [.ref a_tape_bytes, .int a_tape__length, .int (o2.1 1), .int (o2.1 0)])), (a_tape_bytes, .inl (cs 0, 400, .inl a_tape_bytes_c))]) hD hS hA [4,5,6] rfl
    refine va_calli (va_runV (As := [.int 0, .int v14]) (rest := [.int a_told__buyers, .ref a_told_spot]) ⟨hx, hb, hml, hown, hT⟩ (c_X0_numberTold_60 l D cs kK kV a v14 a_tape a_told a__kindsTold a_tape_bytes a_tape__length (o2.1 1) (o2.1 0) a_tape_bytes_c hv14 h_a_tape__length h5 ((iv_w h3 (by decide) (by decide))) h_a_tape_bytes_c H.size) (cwV 2 hT (hz_gV q_452 q_453 q_454 q_226 q_455) rfl rfl rfl (by decide +kernel) ⟨(Nat.le_of_ble_eq_true rfl), (Nat.le_of_ble_eq_true rfl)⟩) ⟨hz_C.blind, va_recv hK hP (ci := 0) (q0 := 4) rfl rfl, hz_C.mk (hP.sub (ws' := [(a, .inr (0, [.ref a_tape, .ref a_told, .int a__kindsTold])), (a_tape, .inr (7, [.ref a_tape_bytes, .int a_tape__length, .int (o2.1 1), .int (o2.1 0)])), (a_tape_bytes, .inl (cs 0, 400, .inl a_tape_bytes_c))]) [4,5,6] rfl) (hD.sub (ws' := [(a, .inr (0, [.ref a_tape, .ref a_told, .int a__kindsTold])), (a_tape, .inr (7, [.ref a_tape_bytes, .int a_tape__length, .int (o2.1 1), .int (o2.1 0)])), (a_tape_bytes, .inl (cs 0, 400, .inl a_tape_bytes_c))]) [4,5,6] (by decide) rfl) hE hS hFc⟩ rfl rfl hl.1 rfl (lv_room (Nat.le_of_ble_eq_true rfl)) dX0_readBuyer_44 ⟨(Nat.le_of_ble_eq_true rfl), (Nat.le_of_ble_eq_true rfl)⟩) hS (fun q _ h => hFc q h) hFc (fun r15 o16 t H1 locs ht hvm hw hB hz1 hk1 hS => ?_)
    obtain ⟨hP1, hD1⟩ := hB
    rw [ht] at hP1
    obtain ⟨hP, hD⟩ := va_join (wr := [(a_told, .inr (8, [.int a_told__stalls, .int a_told__shift, .int a_told__halves, .int a_told__buyers, .int a_told__near, .int a_told__dusk, .int a_told__duskPrice, .int a_told__hear, .int a_told__forged, .ref a_told_stall, .ref a_told_shape, .ref a_told_side, .ref a_told_price, .ref a_told_purse, .ref a_told_spot, .ref a_told_club, .ref a_told_fitting, .ref a_told_nearly])), (a_told_purse, .inl (cs 0, 4, .inl f13)), (a_told_spot, .inl (cs 0, 4, .inl a_told_spot_c)), (a_told_club, .inl (cs 0, 4, .inl a_told_club_c))]) (w1 := [(a, .inr (0, [.ref a_tape, .ref a_told, .int a__kindsTold])), (a_tape, .inr (7, [.ref a_tape_bytes, .int a_tape__length, .int (o16.1 1), .int (o16.1 0)])), (a_tape_bytes, .inl (cs 0, 400, .inl a_tape_bytes_c))]) hP hD [4, 5, 6] [0, 1, 2, 3] rfl rfl (by decide) (by decide) hk1 hFc hP1 hD1
    generalize H1 = H at hP hS ⊢
    have hP : va_P D classes [(a_told, .inr (8, [.int a_told__stalls, .int a_told__shift, .int a_told__halves, .int a_told__buyers, .int a_told__near, .int a_told__dusk, .int a_told__duskPrice, .int a_told__hear, .int a_told__forged, .ref a_told_stall, .ref a_told_shape, .ref a_told_side, .ref a_told_price, .ref a_told_purse, .ref a_told_spot, .ref a_told_club, .ref a_told_fitting, .ref a_told_nearly])), (a_told_purse, .inl (cs 0, 4, .inl f13)), (a_told_spot, .inl (cs 0, 4, .inl a_told_spot_c)), (a_told_club, .inl (cs 0, 4, .inl a_told_club_c)), (a, .inr (0, [.ref a_tape, .ref a_told, .int a__kindsTold])), (a_tape, .inr (7, [.ref a_tape_bytes, .int a_tape__length, .int (o16.1 1), .int (o16.1 0)])), (a_tape_bytes, .inl (cs 0, 400, .inl a_tape_bytes_c))] H := hP
    have hD : va_D A [(a_told, .inr (8, [.int a_told__stalls, .int a_told__shift, .int a_told__halves, .int a_told__buyers, .int a_told__near, .int a_told__dusk, .int a_told__duskPrice, .int a_told__hear, .int a_told__forged, .ref a_told_stall, .ref a_told_shape, .ref a_told_side, .ref a_told_price, .ref a_told_purse, .ref a_told_spot, .ref a_told_club, .ref a_told_fitting, .ref a_told_nearly])), (a_told_purse, .inl (cs 0, 4, .inl f13)), (a_told_spot, .inl (cs 0, 4, .inl a_told_spot_c)), (a_told_club, .inl (cs 0, 4, .inl a_told_club_c)), (a, .inr (0, [.ref a_tape, .ref a_told, .int a__kindsTold])), (a_tape, .inr (7, [.ref a_tape_bytes, .int a_tape__length, .int (o16.1 1), .int (o16.1 0)])), (a_tape_bytes, .inl (cs 0, 400, .inl a_tape_bytes_c))] := hD
    clear hk1 hFc hP1 hD1 hz1
    rcases hw with ⟨rfl, h17, h18, h19⟩ | ⟨h20, h21, h22, h23, h24⟩ | ⟨h25, h26, h27⟩
    · refine va_iast hx hb hK hP hD hS 2 0 rfl rfl (iv_v h_a_told__buyers (by decide) (by decide)) dX0_readBuyer_47 (fun H locs hP hD hS => ?_)
      have hP : va_P D classes [(a_told, .inr (8, [.int a_told__stalls, .int a_told__shift, .int a_told__halves, .int a_told__buyers, .int a_told__near, .int a_told__dusk, .int a_told__duskPrice, .int a_told__hear, .int a_told__forged, .ref a_told_stall, .ref a_told_shape, .ref a_told_side, .ref a_told_price, .ref a_told_purse, .ref a_told_spot, .ref a_told_club, .ref a_told_fitting, .ref a_told_nearly])), (a_told_purse, .inl (cs 0, 4, .inl f13)), (a_told_spot, .inl (cs 0, 4, .inl (upd a_told_spot_c (Int32.toNatClampNeg a_told__buyers) (0 : Int32)))), (a_told_club, .inl (cs 0, 4, .inl a_told_club_c)), (a, .inr (0, [.ref a_tape, .ref a_told, .int a__kindsTold])), (a_tape, .inr (7, [.ref a_tape_bytes, .int a_tape__length, .int (o16.1 1), .int (o16.1 0)])), (a_tape_bytes, .inl (cs 0, 400, .inl a_tape_bytes_c))] H := hP
      have hD : va_D A [(a_told, .inr (8, [.int a_told__stalls, .int a_told__shift, .int a_told__halves, .int a_told__buyers, .int a_told__near, .int a_told__dusk, .int a_told__duskPrice, .int a_told__hear, .int a_told__forged, .ref a_told_stall, .ref a_told_shape, .ref a_told_side, .ref a_told_price, .ref a_told_purse, .ref a_told_spot, .ref a_told_club, .ref a_told_fitting, .ref a_told_nearly])), (a_told_purse, .inl (cs 0, 4, .inl f13)), (a_told_spot, .inl (cs 0, 4, .inl (upd a_told_spot_c (Int32.toNatClampNeg a_told__buyers) (0 : Int32)))), (a_told_club, .inl (cs 0, 4, .inl a_told_club_c)), (a, .inr (0, [.ref a_tape, .ref a_told, .int a__kindsTold])), (a_tape, .inr (7, [.ref a_tape_bytes, .int a_tape__length, .int (o16.1 1), .int (o16.1 0)])), (a_tape_bytes, .inl (cs 0, 400, .inl a_tape_bytes_c))] := hD
      generalize upd a_told_spot_c (Int32.toNatClampNeg a_told__buyers) (0 : Int32) = f28 at hP hD
      refine lv_aload_n hx hb dX0_readBuyer_48 rfl (lv_at hl 1 rfl) ?_
      refine va_get (D := D) (ci := 0) (v := .ref a_told) (C := RX0) (T := TX0) (N := 3) hx hb hT i_X0 hown hK hP 4 rfl rfl 1 (by decide) (hT _ q_45) (fun _ h9 => h9) rfl dX0_readBuyer_49 ?_
      refine va_get (D := D) (ci := 8) (v := .ref a_told_club) (C := RX8) (T := TX8) (N := 18) hx hb hT i_X8 hown hK hP 0 rfl rfl 15 (by decide) (hT _ q_63) (fun _ h9 => h9) rfl dX0_readBuyer_52 ?_
      refine lv_iload_n hx hb dX0_readBuyer_55 rfl (lv_at hl 0 rfl) ?_
      refine lv_iconst (v := 1) hx hb dX0_readBuyer_56 (by decide) ?_
      refine lv_iload_n hx hb dX0_readBuyer_57 rfl (lv_at hl 0 rfl) ?_
      refine lv_ishl hx hb dX0_readBuyer_58 ?_
      refine lv_topi (fun v29 ev29 => ?_)
      have hv29 : IV 1 8 v29 := iv_shl1 ev29 h_a_told__buyers (by decide) (by decide) (by decide)
      refine va_iast hx hb hK hP hD hS 3 0 rfl rfl (iv_v h_a_told__buyers (by decide) (by decide)) dX0_readBuyer_59 (fun H locs hP hD hS => ?_)
      have hP : va_P D classes [(a_told, .inr (8, [.int a_told__stalls, .int a_told__shift, .int a_told__halves, .int a_told__buyers, .int a_told__near, .int a_told__dusk, .int a_told__duskPrice, .int a_told__hear, .int a_told__forged, .ref a_told_stall, .ref a_told_shape, .ref a_told_side, .ref a_told_price, .ref a_told_purse, .ref a_told_spot, .ref a_told_club, .ref a_told_fitting, .ref a_told_nearly])), (a_told_purse, .inl (cs 0, 4, .inl f13)), (a_told_spot, .inl (cs 0, 4, .inl f28)), (a_told_club, .inl (cs 0, 4, .inl (upd a_told_club_c (Int32.toNatClampNeg a_told__buyers) v29))), (a, .inr (0, [.ref a_tape, .ref a_told, .int a__kindsTold])), (a_tape, .inr (7, [.ref a_tape_bytes, .int a_tape__length, .int (o16.1 1), .int (o16.1 0)])), (a_tape_bytes, .inl (cs 0, 400, .inl a_tape_bytes_c))] H := hP
      have hD : va_D A [(a_told, .inr (8, [.int a_told__stalls, .int a_told__shift, .int a_told__halves, .int a_told__buyers, .int a_told__near, .int a_told__dusk, .int a_told__duskPrice, .int a_told__hear, .int a_told__forged, .ref a_told_stall, .ref a_told_shape, .ref a_told_side, .ref a_told_price, .ref a_told_purse, .ref a_told_spot, .ref a_told_club, .ref a_told_fitting, .ref a_told_nearly])), (a_told_purse, .inl (cs 0, 4, .inl f13)), (a_told_spot, .inl (cs 0, 4, .inl f28)), (a_told_club, .inl (cs 0, 4, .inl (upd a_told_club_c (Int32.toNatClampNeg a_told__buyers) v29))), (a, .inr (0, [.ref a_tape, .ref a_told, .int a__kindsTold])), (a_tape, .inr (7, [.ref a_tape_bytes, .int a_tape__length, .int (o16.1 1), .int (o16.1 0)])), (a_tape_bytes, .inl (cs 0, 400, .inl a_tape_bytes_c))] := hD
      generalize upd a_told_club_c (Int32.toNatClampNeg a_told__buyers) v29 = f30 at hP hD
      refine lv_aload_n hx hb dX0_readBuyer_60 rfl (lv_at hl 1 rfl) ?_
      refine va_get (D := D) (ci := 0) (v := .ref a_told) (C := RX0) (T := TX0) (N := 3) hx hb hT i_X0 hown hK hP 4 rfl rfl 1 (by decide) (hT _ q_45) (fun _ h9 => h9) rfl dX0_readBuyer_61 ?_
      refine lv_dup hx hb dX0_readBuyer_64 rfl ?_
      refine va_get (D := D) (ci := 8) (v := .int a_told__buyers) (C := RX8) (T := TX8) (N := 18) hx hb hT i_X8 hown hK hP 0 rfl rfl 3 (by decide) (hT _ q_55) (fun _ h9 => h9) rfl dX0_readBuyer_65 ?_
      refine lv_iconst (v := 1) hx hb dX0_readBuyer_68 (by decide) ?_
      refine lv_iadd hx hb dX0_readBuyer_69 ?_
      refine lv_topi (fun v31 ev31 => ?_)
      have hv31 : IV 1 4 v31 := iv_add ev31 h_a_told__buyers (iv_c (a := 1) (b := 1) (by decide)) (by decide) (by decide)
      have dv31 : v31.toInt = a_told__buyers.toInt + 1 := iv_addE ev31 h_a_told__buyers (iv_c (a := 1) (b := 1) (by decide)) (by decide) (by decide) (by decide)
      refine va_put (D := D) (ci := 8) (v := .int v31) (ty := .int) (C := RX8) (T := TX8) (N := 18) hx hb hT i_X8 tyX8 tyX8_ok nmX8 hown hK hP hD hS 0 rfl rfl 3 (by decide) (hT _ q_55) (fun _ h9 => h9) rfl (by decide +kernel) rfl rfl (Nat.le_of_ble_eq_true rfl) dX0_readBuyer_70 (fun H locs hP hD hS => ?_)
      have hP : va_P D classes [(a_told, .inr (8, [.int a_told__stalls, .int a_told__shift, .int a_told__halves, .int v31, .int a_told__near, .int a_told__dusk, .int a_told__duskPrice, .int a_told__hear, .int a_told__forged, .ref a_told_stall, .ref a_told_shape, .ref a_told_side, .ref a_told_price, .ref a_told_purse, .ref a_told_spot, .ref a_told_club, .ref a_told_fitting, .ref a_told_nearly])), (a_told_purse, .inl (cs 0, 4, .inl f13)), (a_told_spot, .inl (cs 0, 4, .inl f28)), (a_told_club, .inl (cs 0, 4, .inl f30)), (a, .inr (0, [.ref a_tape, .ref a_told, .int a__kindsTold])), (a_tape, .inr (7, [.ref a_tape_bytes, .int a_tape__length, .int (o16.1 1), .int (o16.1 0)])), (a_tape_bytes, .inl (cs 0, 400, .inl a_tape_bytes_c))] H := hP
      have hD : va_D A [(a_told, .inr (8, [.int a_told__stalls, .int a_told__shift, .int a_told__halves, .int v31, .int a_told__near, .int a_told__dusk, .int a_told__duskPrice, .int a_told__hear, .int a_told__forged, .ref a_told_stall, .ref a_told_shape, .ref a_told_side, .ref a_told_price, .ref a_told_purse, .ref a_told_spot, .ref a_told_club, .ref a_told_fitting, .ref a_told_nearly])), (a_told_purse, .inl (cs 0, 4, .inl f13)), (a_told_spot, .inl (cs 0, 4, .inl f28)), (a_told_club, .inl (cs 0, 4, .inl f30)), (a, .inr (0, [.ref a_tape, .ref a_told, .int a__kindsTold])), (a_tape, .inr (7, [.ref a_tape_bytes, .int a_tape__length, .int (o16.1 1), .int (o16.1 0)])), (a_tape_bytes, .inl (cs 0, 400, .inl a_tape_bytes_c))] := hD
      refine W.widen (k := 0) (n := 0) (Nat.le_of_ble_eq_true rfl) (Nat.le_of_ble_eq_true rfl) ?_
      exact W.vret hx hb hr (fun t ht hW => ⟨⟨(fun k => match k with | 0 => o16.1 0 | 1 => o16.1 1 | 2 => v31 | _ => 0, fun k => match k with | 0 => f30 | 1 => f13 | 2 => f28 | _ => fun _ => 0), rfl, (Or.inr ((⟨h17, h19, hv31⟩))), by rw [ht]; exact hP.sub [4, 0, 5, 6, 1, 2, 3] rfl, hD.sub [4, 0, 5, 6, 1, 2, 3] (by decide) rfl⟩, hS.F ht⟩) hS.2.2 dX0_readBuyer_73
    · exact (iv_no h22 h3 (by decide)).elim
    · exact (iv_no h26 h3 (by decide)).elim
  · refine va_iast hx hb hK hP hD hS 1 0 rfl rfl (iv_v h_a_told__buyers (by decide) (by decide)) dX0_readBuyer_24 (fun H locs hP hD hS => ?_)
    have hP : va_P D classes [(a_told, .inr (8, [.int a_told__stalls, .int a_told__shift, .int a_told__halves, .int a_told__buyers, .int a_told__near, .int a_told__dusk, .int a_told__duskPrice, .int a_told__hear, .int a_told__forged, .ref a_told_stall, .ref a_told_shape, .ref a_told_side, .ref a_told_price, .ref a_told_purse, .ref a_told_spot, .ref a_told_club, .ref a_told_fitting, .ref a_told_nearly])), (a_told_purse, .inl (cs 0, 4, .inl (upd a_told_purse_c (Int32.toNatClampNeg a_told__buyers) r1))), (a_told_spot, .inl (cs 0, 4, .inl a_told_spot_c)), (a_told_club, .inl (cs 0, 4, .inl a_told_club_c)), (a, .inr (0, [.ref a_tape, .ref a_told, .int a__kindsTold])), (a_tape, .inr (7, [.ref a_tape_bytes, .int a_tape__length, .int (o2.1 1), .int (o2.1 0)])), (a_tape_bytes, .inl (cs 0, 400, .inl a_tape_bytes_c))] H := hP
    have hD : va_D A [(a_told, .inr (8, [.int a_told__stalls, .int a_told__shift, .int a_told__halves, .int a_told__buyers, .int a_told__near, .int a_told__dusk, .int a_told__duskPrice, .int a_told__hear, .int a_told__forged, .ref a_told_stall, .ref a_told_shape, .ref a_told_side, .ref a_told_price, .ref a_told_purse, .ref a_told_spot, .ref a_told_club, .ref a_told_fitting, .ref a_told_nearly])), (a_told_purse, .inl (cs 0, 4, .inl (upd a_told_purse_c (Int32.toNatClampNeg a_told__buyers) r1))), (a_told_spot, .inl (cs 0, 4, .inl a_told_spot_c)), (a_told_club, .inl (cs 0, 4, .inl a_told_club_c)), (a, .inr (0, [.ref a_tape, .ref a_told, .int a__kindsTold])), (a_tape, .inr (7, [.ref a_tape_bytes, .int a_tape__length, .int (o2.1 1), .int (o2.1 0)])), (a_tape_bytes, .inl (cs 0, 400, .inl a_tape_bytes_c))] := hD
    generalize upd a_told_purse_c (Int32.toNatClampNeg a_told__buyers) r1 = f32 at hP hD
    refine lv_aload_n hx hb dX0_readBuyer_25 rfl (lv_at hl 1 rfl) ?_
    refine va_get (D := D) (ci := 0) (v := .ref a_told) (C := RX0) (T := TX0) (N := 3) hx hb hT i_X0 hown hK hP 4 rfl rfl 1 (by decide) (hT _ q_45) (fun _ h9 => h9) rfl dX0_readBuyer_26 ?_
    refine va_get (D := D) (ci := 8) (v := .ref a_told_spot) (C := RX8) (T := TX8) (N := 18) hx hb hT i_X8 hown hK hP 0 rfl rfl 14 (by decide) (hT _ q_62) (fun _ h9 => h9) rfl dX0_readBuyer_29 ?_
    refine lv_iload_n hx hb dX0_readBuyer_32 rfl (lv_at hl 0 rfl) ?_
    refine lv_aload_n hx hb dX0_readBuyer_33 rfl (lv_at hl 1 rfl) ?_
    refine lv_iconst (v := 0) hx hb dX0_readBuyer_34 (by decide) ?_
    refine lv_aload_n hx hb dX0_readBuyer_35 rfl (lv_at hl 1 rfl) ?_
    refine va_get (D := D) (ci := 0) (v := .ref a_told) (C := RX0) (T := TX0) (N := 3) hx hb hT i_X0 hown hK hP 4 rfl rfl 1 (by decide) (hT _ q_45) (fun _ h9 => h9) rfl dX0_readBuyer_36 ?_
    refine va_get (D := D) (ci := 8) (v := .int a_told__stalls) (C := RX8) (T := TX8) (N := 18) hx hb hT i_X8 hown hK hP 0 rfl rfl 0 (by decide) (hT _ q_48) (fun _ h9 => h9) rfl dX0_readBuyer_39 ?_
    refine lv_iconst (v := 1) hx hb dX0_readBuyer_42 (by decide) ?_
    refine lv_isub hx hb dX0_readBuyer_43 ?_
    refine lv_topi (fun v33 ev33 => ?_)
    have hv33 : IV (-1) 7 v33 := iv_sub ev33 h_a_told__stalls (iv_c (a := 1) (b := 1) (by decide)) (by decide) (by decide)
    have dv33 : v33.toInt = a_told__stalls.toInt + (-1) := iv_subE ev33 h_a_told__stalls (iv_c (a := 1) (b := 1) (by decide)) (by decide) (by decide) (by decide)
    have hFc := va_free (wc := [(a, .inr (0, [.ref a_tape, .ref a_told, .int a__kindsTold])), (a_tape, .inr (7, [.ref a_tape_bytes, .int a_tape__length, .int (o2.1 1), .int (o2.1 0)])), (a_tape_bytes, .inl (cs 0, 400, .inl a_tape_bytes_c))]) hD hS hA [4,5,6] rfl
    refine va_calli (va_runV (As := [.int 0, .int v33]) (rest := [.int a_told__buyers, .ref a_told_spot]) ⟨hx, hb, hml, hown, hT⟩ (c_X0_numberTold_60 l D cs kK kV a v33 a_tape a_told a__kindsTold a_tape_bytes a_tape__length (o2.1 1) (o2.1 0) a_tape_bytes_c hv33 h_a_tape__length h9 h7 h_a_tape_bytes_c H.size) (cwV 2 hT (hz_gV q_452 q_453 q_454 q_226 q_455) rfl rfl rfl (by decide +kernel) ⟨(Nat.le_of_ble_eq_true rfl), (Nat.le_of_ble_eq_true rfl)⟩) ⟨hz_C.blind, va_recv hK hP (ci := 0) (q0 := 4) rfl rfl, hz_C.mk (hP.sub (ws' := [(a, .inr (0, [.ref a_tape, .ref a_told, .int a__kindsTold])), (a_tape, .inr (7, [.ref a_tape_bytes, .int a_tape__length, .int (o2.1 1), .int (o2.1 0)])), (a_tape_bytes, .inl (cs 0, 400, .inl a_tape_bytes_c))]) [4,5,6] rfl) (hD.sub (ws' := [(a, .inr (0, [.ref a_tape, .ref a_told, .int a__kindsTold])), (a_tape, .inr (7, [.ref a_tape_bytes, .int a_tape__length, .int (o2.1 1), .int (o2.1 0)])), (a_tape_bytes, .inl (cs 0, 400, .inl a_tape_bytes_c))]) [4,5,6] (by decide) rfl) hE hS hFc⟩ rfl rfl hl.1 rfl (lv_room (Nat.le_of_ble_eq_true rfl)) dX0_readBuyer_44 ⟨(Nat.le_of_ble_eq_true rfl), (Nat.le_of_ble_eq_true rfl)⟩) hS (fun q _ h => hFc q h) hFc (fun r34 o35 t H1 locs ht hvm hw hB hz1 hk1 hS => ?_)
    obtain ⟨hP1, hD1⟩ := hB
    rw [ht] at hP1
    obtain ⟨hP, hD⟩ := va_join (wr := [(a_told, .inr (8, [.int a_told__stalls, .int a_told__shift, .int a_told__halves, .int a_told__buyers, .int a_told__near, .int a_told__dusk, .int a_told__duskPrice, .int a_told__hear, .int a_told__forged, .ref a_told_stall, .ref a_told_shape, .ref a_told_side, .ref a_told_price, .ref a_told_purse, .ref a_told_spot, .ref a_told_club, .ref a_told_fitting, .ref a_told_nearly])), (a_told_purse, .inl (cs 0, 4, .inl f32)), (a_told_spot, .inl (cs 0, 4, .inl a_told_spot_c)), (a_told_club, .inl (cs 0, 4, .inl a_told_club_c))]) (w1 := [(a, .inr (0, [.ref a_tape, .ref a_told, .int a__kindsTold])), (a_tape, .inr (7, [.ref a_tape_bytes, .int a_tape__length, .int (o35.1 1), .int (o35.1 0)])), (a_tape_bytes, .inl (cs 0, 400, .inl a_tape_bytes_c))]) hP hD [4, 5, 6] [0, 1, 2, 3] rfl rfl (by decide) (by decide) hk1 hFc hP1 hD1
    generalize H1 = H at hP hS ⊢
    have hP : va_P D classes [(a_told, .inr (8, [.int a_told__stalls, .int a_told__shift, .int a_told__halves, .int a_told__buyers, .int a_told__near, .int a_told__dusk, .int a_told__duskPrice, .int a_told__hear, .int a_told__forged, .ref a_told_stall, .ref a_told_shape, .ref a_told_side, .ref a_told_price, .ref a_told_purse, .ref a_told_spot, .ref a_told_club, .ref a_told_fitting, .ref a_told_nearly])), (a_told_purse, .inl (cs 0, 4, .inl f32)), (a_told_spot, .inl (cs 0, 4, .inl a_told_spot_c)), (a_told_club, .inl (cs 0, 4, .inl a_told_club_c)), (a, .inr (0, [.ref a_tape, .ref a_told, .int a__kindsTold])), (a_tape, .inr (7, [.ref a_tape_bytes, .int a_tape__length, .int (o35.1 1), .int (o35.1 0)])), (a_tape_bytes, .inl (cs 0, 400, .inl a_tape_bytes_c))] H := hP
    have hD : va_D A [(a_told, .inr (8, [.int a_told__stalls, .int a_told__shift, .int a_told__halves, .int a_told__buyers, .int a_told__near, .int a_told__dusk, .int a_told__duskPrice, .int a_told__hear, .int a_told__forged, .ref a_told_stall, .ref a_told_shape, .ref a_told_side, .ref a_told_price, .ref a_told_purse, .ref a_told_spot, .ref a_told_club, .ref a_told_fitting, .ref a_told_nearly])), (a_told_purse, .inl (cs 0, 4, .inl f32)), (a_told_spot, .inl (cs 0, 4, .inl a_told_spot_c)), (a_told_club, .inl (cs 0, 4, .inl a_told_club_c)), (a, .inr (0, [.ref a_tape, .ref a_told, .int a__kindsTold])), (a_tape, .inr (7, [.ref a_tape_bytes, .int a_tape__length, .int (o35.1 1), .int (o35.1 0)])), (a_tape_bytes, .inl (cs 0, 400, .inl a_tape_bytes_c))] := hD
    clear hk1 hFc hP1 hD1 hz1
    rcases hw with ⟨rfl, h36, h37, h38⟩ | ⟨h39, h40, h41, h42, h43⟩ | ⟨h44, h45, h46⟩
    · refine va_iast hx hb hK hP hD hS 2 0 rfl rfl (iv_v h_a_told__buyers (by decide) (by decide)) dX0_readBuyer_47 (fun H locs hP hD hS => ?_)
      have hP : va_P D classes [(a_told, .inr (8, [.int a_told__stalls, .int a_told__shift, .int a_told__halves, .int a_told__buyers, .int a_told__near, .int a_told__dusk, .int a_told__duskPrice, .int a_told__hear, .int a_told__forged, .ref a_told_stall, .ref a_told_shape, .ref a_told_side, .ref a_told_price, .ref a_told_purse, .ref a_told_spot, .ref a_told_club, .ref a_told_fitting, .ref a_told_nearly])), (a_told_purse, .inl (cs 0, 4, .inl f32)), (a_told_spot, .inl (cs 0, 4, .inl (upd a_told_spot_c (Int32.toNatClampNeg a_told__buyers) (0 : Int32)))), (a_told_club, .inl (cs 0, 4, .inl a_told_club_c)), (a, .inr (0, [.ref a_tape, .ref a_told, .int a__kindsTold])), (a_tape, .inr (7, [.ref a_tape_bytes, .int a_tape__length, .int (o35.1 1), .int (o35.1 0)])), (a_tape_bytes, .inl (cs 0, 400, .inl a_tape_bytes_c))] H := hP
      have hD : va_D A [(a_told, .inr (8, [.int a_told__stalls, .int a_told__shift, .int a_told__halves, .int a_told__buyers, .int a_told__near, .int a_told__dusk, .int a_told__duskPrice, .int a_told__hear, .int a_told__forged, .ref a_told_stall, .ref a_told_shape, .ref a_told_side, .ref a_told_price, .ref a_told_purse, .ref a_told_spot, .ref a_told_club, .ref a_told_fitting, .ref a_told_nearly])), (a_told_purse, .inl (cs 0, 4, .inl f32)), (a_told_spot, .inl (cs 0, 4, .inl (upd a_told_spot_c (Int32.toNatClampNeg a_told__buyers) (0 : Int32)))), (a_told_club, .inl (cs 0, 4, .inl a_told_club_c)), (a, .inr (0, [.ref a_tape, .ref a_told, .int a__kindsTold])), (a_tape, .inr (7, [.ref a_tape_bytes, .int a_tape__length, .int (o35.1 1), .int (o35.1 0)])), (a_tape_bytes, .inl (cs 0, 400, .inl a_tape_bytes_c))] := hD
      generalize upd a_told_spot_c (Int32.toNatClampNeg a_told__buyers) (0 : Int32) = f47 at hP hD
      refine lv_aload_n hx hb dX0_readBuyer_48 rfl (lv_at hl 1 rfl) ?_
      refine va_get (D := D) (ci := 0) (v := .ref a_told) (C := RX0) (T := TX0) (N := 3) hx hb hT i_X0 hown hK hP 4 rfl rfl 1 (by decide) (hT _ q_45) (fun _ h9 => h9) rfl dX0_readBuyer_49 ?_
      refine va_get (D := D) (ci := 8) (v := .ref a_told_club) (C := RX8) (T := TX8) (N := 18) hx hb hT i_X8 hown hK hP 0 rfl rfl 15 (by decide) (hT _ q_63) (fun _ h9 => h9) rfl dX0_readBuyer_52 ?_
      refine lv_iload_n hx hb dX0_readBuyer_55 rfl (lv_at hl 0 rfl) ?_
      refine lv_iconst (v := 1) hx hb dX0_readBuyer_56 (by decide) ?_
      refine lv_iload_n hx hb dX0_readBuyer_57 rfl (lv_at hl 0 rfl) ?_
      refine lv_ishl hx hb dX0_readBuyer_58 ?_
      refine lv_topi (fun v48 ev48 => ?_)
      have hv48 : IV 1 8 v48 := iv_shl1 ev48 h_a_told__buyers (by decide) (by decide) (by decide)
      refine va_iast hx hb hK hP hD hS 3 0 rfl rfl (iv_v h_a_told__buyers (by decide) (by decide)) dX0_readBuyer_59 (fun H locs hP hD hS => ?_)
      have hP : va_P D classes [(a_told, .inr (8, [.int a_told__stalls, .int a_told__shift, .int a_told__halves, .int a_told__buyers, .int a_told__near, .int a_told__dusk, .int a_told__duskPrice, .int a_told__hear, .int a_told__forged, .ref a_told_stall, .ref a_told_shape, .ref a_told_side, .ref a_told_price, .ref a_told_purse, .ref a_told_spot, .ref a_told_club, .ref a_told_fitting, .ref a_told_nearly])), (a_told_purse, .inl (cs 0, 4, .inl f32)), (a_told_spot, .inl (cs 0, 4, .inl f47)), (a_told_club, .inl (cs 0, 4, .inl (upd a_told_club_c (Int32.toNatClampNeg a_told__buyers) v48))), (a, .inr (0, [.ref a_tape, .ref a_told, .int a__kindsTold])), (a_tape, .inr (7, [.ref a_tape_bytes, .int a_tape__length, .int (o35.1 1), .int (o35.1 0)])), (a_tape_bytes, .inl (cs 0, 400, .inl a_tape_bytes_c))] H := hP
      have hD : va_D A [(a_told, .inr (8, [.int a_told__stalls, .int a_told__shift, .int a_told__halves, .int a_told__buyers, .int a_told__near, .int a_told__dusk, .int a_told__duskPrice, .int a_told__hear, .int a_told__forged, .ref a_told_stall, .ref a_told_shape, .ref a_told_side, .ref a_told_price, .ref a_told_purse, .ref a_told_spot, .ref a_told_club, .ref a_told_fitting, .ref a_told_nearly])), (a_told_purse, .inl (cs 0, 4, .inl f32)), (a_told_spot, .inl (cs 0, 4, .inl f47)), (a_told_club, .inl (cs 0, 4, .inl (upd a_told_club_c (Int32.toNatClampNeg a_told__buyers) v48))), (a, .inr (0, [.ref a_tape, .ref a_told, .int a__kindsTold])), (a_tape, .inr (7, [.ref a_tape_bytes, .int a_tape__length, .int (o35.1 1), .int (o35.1 0)])), (a_tape_bytes, .inl (cs 0, 400, .inl a_tape_bytes_c))] := hD
      generalize upd a_told_club_c (Int32.toNatClampNeg a_told__buyers) v48 = f49 at hP hD
      refine lv_aload_n hx hb dX0_readBuyer_60 rfl (lv_at hl 1 rfl) ?_
      refine va_get (D := D) (ci := 0) (v := .ref a_told) (C := RX0) (T := TX0) (N := 3) hx hb hT i_X0 hown hK hP 4 rfl rfl 1 (by decide) (hT _ q_45) (fun _ h9 => h9) rfl dX0_readBuyer_61 ?_
      refine lv_dup hx hb dX0_readBuyer_64 rfl ?_
      refine va_get (D := D) (ci := 8) (v := .int a_told__buyers) (C := RX8) (T := TX8) (N := 18) hx hb hT i_X8 hown hK hP 0 rfl rfl 3 (by decide) (hT _ q_55) (fun _ h9 => h9) rfl dX0_readBuyer_65 ?_
      refine lv_iconst (v := 1) hx hb dX0_readBuyer_68 (by decide) ?_
      refine lv_iadd hx hb dX0_readBuyer_69 ?_
      refine lv_topi (fun v50 ev50 => ?_)
      have hv50 : IV 1 4 v50 := iv_add ev50 h_a_told__buyers (iv_c (a := 1) (b := 1) (by decide)) (by decide) (by decide)
      have dv50 : v50.toInt = a_told__buyers.toInt + 1 := iv_addE ev50 h_a_told__buyers (iv_c (a := 1) (b := 1) (by decide)) (by decide) (by decide) (by decide)
      refine va_put (D := D) (ci := 8) (v := .int v50) (ty := .int) (C := RX8) (T := TX8) (N := 18) hx hb hT i_X8 tyX8 tyX8_ok nmX8 hown hK hP hD hS 0 rfl rfl 3 (by decide) (hT _ q_55) (fun _ h9 => h9) rfl (by decide +kernel) rfl rfl (Nat.le_of_ble_eq_true rfl) dX0_readBuyer_70 (fun H locs hP hD hS => ?_)
      have hP : va_P D classes [(a_told, .inr (8, [.int a_told__stalls, .int a_told__shift, .int a_told__halves, .int v50, .int a_told__near, .int a_told__dusk, .int a_told__duskPrice, .int a_told__hear, .int a_told__forged, .ref a_told_stall, .ref a_told_shape, .ref a_told_side, .ref a_told_price, .ref a_told_purse, .ref a_told_spot, .ref a_told_club, .ref a_told_fitting, .ref a_told_nearly])), (a_told_purse, .inl (cs 0, 4, .inl f32)), (a_told_spot, .inl (cs 0, 4, .inl f47)), (a_told_club, .inl (cs 0, 4, .inl f49)), (a, .inr (0, [.ref a_tape, .ref a_told, .int a__kindsTold])), (a_tape, .inr (7, [.ref a_tape_bytes, .int a_tape__length, .int (o35.1 1), .int (o35.1 0)])), (a_tape_bytes, .inl (cs 0, 400, .inl a_tape_bytes_c))] H := hP
      have hD : va_D A [(a_told, .inr (8, [.int a_told__stalls, .int a_told__shift, .int a_told__halves, .int v50, .int a_told__near, .int a_told__dusk, .int a_told__duskPrice, .int a_told__hear, .int a_told__forged, .ref a_told_stall, .ref a_told_shape, .ref a_told_side, .ref a_told_price, .ref a_told_purse, .ref a_told_spot, .ref a_told_club, .ref a_told_fitting, .ref a_told_nearly])), (a_told_purse, .inl (cs 0, 4, .inl f32)), (a_told_spot, .inl (cs 0, 4, .inl f47)), (a_told_club, .inl (cs 0, 4, .inl f49)), (a, .inr (0, [.ref a_tape, .ref a_told, .int a__kindsTold])), (a_tape, .inr (7, [.ref a_tape_bytes, .int a_tape__length, .int (o35.1 1), .int (o35.1 0)])), (a_tape_bytes, .inl (cs 0, 400, .inl a_tape_bytes_c))] := hD
      refine W.widen (k := 0) (n := 0) (Nat.le_of_ble_eq_true rfl) (Nat.le_of_ble_eq_true rfl) ?_
      exact W.vret hx hb hr (fun t ht hW => ⟨⟨(fun k => match k with | 0 => o35.1 0 | 1 => o35.1 1 | 2 => v50 | _ => 0, fun k => match k with | 0 => f49 | 1 => f32 | 2 => f47 | _ => fun _ => 0), rfl, (Or.inr ((⟨h36, h38, hv50⟩))), by rw [ht]; exact hP.sub [4, 0, 5, 6, 1, 2, 3] rfl, hD.sub [4, 0, 5, 6, 1, 2, 3] (by decide) rfl⟩, hS.F ht⟩) hS.2.2 dX0_readBuyer_73
    · refine va_iast hx hb hK hP hD hS 2 0 rfl rfl (iv_v h_a_told__buyers (by decide) (by decide)) dX0_readBuyer_47 (fun H locs hP hD hS => ?_)
      have hP : va_P D classes [(a_told, .inr (8, [.int a_told__stalls, .int a_told__shift, .int a_told__halves, .int a_told__buyers, .int a_told__near, .int a_told__dusk, .int a_told__duskPrice, .int a_told__hear, .int a_told__forged, .ref a_told_stall, .ref a_told_shape, .ref a_told_side, .ref a_told_price, .ref a_told_purse, .ref a_told_spot, .ref a_told_club, .ref a_told_fitting, .ref a_told_nearly])), (a_told_purse, .inl (cs 0, 4, .inl f32)), (a_told_spot, .inl (cs 0, 4, .inl (upd a_told_spot_c (Int32.toNatClampNeg a_told__buyers) r34))), (a_told_club, .inl (cs 0, 4, .inl a_told_club_c)), (a, .inr (0, [.ref a_tape, .ref a_told, .int a__kindsTold])), (a_tape, .inr (7, [.ref a_tape_bytes, .int a_tape__length, .int (o35.1 1), .int (o35.1 0)])), (a_tape_bytes, .inl (cs 0, 400, .inl a_tape_bytes_c))] H := hP
      have hD : va_D A [(a_told, .inr (8, [.int a_told__stalls, .int a_told__shift, .int a_told__halves, .int a_told__buyers, .int a_told__near, .int a_told__dusk, .int a_told__duskPrice, .int a_told__hear, .int a_told__forged, .ref a_told_stall, .ref a_told_shape, .ref a_told_side, .ref a_told_price, .ref a_told_purse, .ref a_told_spot, .ref a_told_club, .ref a_told_fitting, .ref a_told_nearly])), (a_told_purse, .inl (cs 0, 4, .inl f32)), (a_told_spot, .inl (cs 0, 4, .inl (upd a_told_spot_c (Int32.toNatClampNeg a_told__buyers) r34))), (a_told_club, .inl (cs 0, 4, .inl a_told_club_c)), (a, .inr (0, [.ref a_tape, .ref a_told, .int a__kindsTold])), (a_tape, .inr (7, [.ref a_tape_bytes, .int a_tape__length, .int (o35.1 1), .int (o35.1 0)])), (a_tape_bytes, .inl (cs 0, 400, .inl a_tape_bytes_c))] := hD
      generalize upd a_told_spot_c (Int32.toNatClampNeg a_told__buyers) r34 = f51 at hP hD
      refine lv_aload_n hx hb dX0_readBuyer_48 rfl (lv_at hl 1 rfl) ?_
      refine va_get (D := D) (ci := 0) (v := .ref a_told) (C := RX0) (T := TX0) (N := 3) hx hb hT i_X0 hown hK hP 4 rfl rfl 1 (by decide) (hT _ q_45) (fun _ h9 => h9) rfl dX0_readBuyer_49 ?_
      refine va_get (D := D) (ci := 8) (v := .ref a_told_club) (C := RX8) (T := TX8) (N := 18) hx hb hT i_X8 hown hK hP 0 rfl rfl 15 (by decide) (hT _ q_63) (fun _ h9 => h9) rfl dX0_readBuyer_52 ?_
      refine lv_iload_n hx hb dX0_readBuyer_55 rfl (lv_at hl 0 rfl) ?_
      refine lv_iconst (v := 1) hx hb dX0_readBuyer_56 (by decide) ?_
      refine lv_iload_n hx hb dX0_readBuyer_57 rfl (lv_at hl 0 rfl) ?_
      refine lv_ishl hx hb dX0_readBuyer_58 ?_
      refine lv_topi (fun v52 ev52 => ?_)
      have hv52 : IV 1 8 v52 := iv_shl1 ev52 h_a_told__buyers (by decide) (by decide) (by decide)
      refine va_iast hx hb hK hP hD hS 3 0 rfl rfl (iv_v h_a_told__buyers (by decide) (by decide)) dX0_readBuyer_59 (fun H locs hP hD hS => ?_)
      have hP : va_P D classes [(a_told, .inr (8, [.int a_told__stalls, .int a_told__shift, .int a_told__halves, .int a_told__buyers, .int a_told__near, .int a_told__dusk, .int a_told__duskPrice, .int a_told__hear, .int a_told__forged, .ref a_told_stall, .ref a_told_shape, .ref a_told_side, .ref a_told_price, .ref a_told_purse, .ref a_told_spot, .ref a_told_club, .ref a_told_fitting, .ref a_told_nearly])), (a_told_purse, .inl (cs 0, 4, .inl f32)), (a_told_spot, .inl (cs 0, 4, .inl f51)), (a_told_club, .inl (cs 0, 4, .inl (upd a_told_club_c (Int32.toNatClampNeg a_told__buyers) v52))), (a, .inr (0, [.ref a_tape, .ref a_told, .int a__kindsTold])), (a_tape, .inr (7, [.ref a_tape_bytes, .int a_tape__length, .int (o35.1 1), .int (o35.1 0)])), (a_tape_bytes, .inl (cs 0, 400, .inl a_tape_bytes_c))] H := hP
      have hD : va_D A [(a_told, .inr (8, [.int a_told__stalls, .int a_told__shift, .int a_told__halves, .int a_told__buyers, .int a_told__near, .int a_told__dusk, .int a_told__duskPrice, .int a_told__hear, .int a_told__forged, .ref a_told_stall, .ref a_told_shape, .ref a_told_side, .ref a_told_price, .ref a_told_purse, .ref a_told_spot, .ref a_told_club, .ref a_told_fitting, .ref a_told_nearly])), (a_told_purse, .inl (cs 0, 4, .inl f32)), (a_told_spot, .inl (cs 0, 4, .inl f51)), (a_told_club, .inl (cs 0, 4, .inl (upd a_told_club_c (Int32.toNatClampNeg a_told__buyers) v52))), (a, .inr (0, [.ref a_tape, .ref a_told, .int a__kindsTold])), (a_tape, .inr (7, [.ref a_tape_bytes, .int a_tape__length, .int (o35.1 1), .int (o35.1 0)])), (a_tape_bytes, .inl (cs 0, 400, .inl a_tape_bytes_c))] := hD
      generalize upd a_told_club_c (Int32.toNatClampNeg a_told__buyers) v52 = f53 at hP hD
      refine lv_aload_n hx hb dX0_readBuyer_60 rfl (lv_at hl 1 rfl) ?_
      refine va_get (D := D) (ci := 0) (v := .ref a_told) (C := RX0) (T := TX0) (N := 3) hx hb hT i_X0 hown hK hP 4 rfl rfl 1 (by decide) (hT _ q_45) (fun _ h9 => h9) rfl dX0_readBuyer_61 ?_
      refine lv_dup hx hb dX0_readBuyer_64 rfl ?_
      refine va_get (D := D) (ci := 8) (v := .int a_told__buyers) (C := RX8) (T := TX8) (N := 18) hx hb hT i_X8 hown hK hP 0 rfl rfl 3 (by decide) (hT _ q_55) (fun _ h9 => h9) rfl dX0_readBuyer_65 ?_
      refine lv_iconst (v := 1) hx hb dX0_readBuyer_68 (by decide) ?_
      refine lv_iadd hx hb dX0_readBuyer_69 ?_
      refine lv_topi (fun v54 ev54 => ?_)
      have hv54 : IV 1 4 v54 := iv_add ev54 h_a_told__buyers (iv_c (a := 1) (b := 1) (by decide)) (by decide) (by decide)
      have dv54 : v54.toInt = a_told__buyers.toInt + 1 := iv_addE ev54 h_a_told__buyers (iv_c (a := 1) (b := 1) (by decide)) (by decide) (by decide) (by decide)
      refine va_put (D := D) (ci := 8) (v := .int v54) (ty := .int) (C := RX8) (T := TX8) (N := 18) hx hb hT i_X8 tyX8 tyX8_ok nmX8 hown hK hP hD hS 0 rfl rfl 3 (by decide) (hT _ q_55) (fun _ h9 => h9) rfl (by decide +kernel) rfl rfl (Nat.le_of_ble_eq_true rfl) dX0_readBuyer_70 (fun H locs hP hD hS => ?_)
      have hP : va_P D classes [(a_told, .inr (8, [.int a_told__stalls, .int a_told__shift, .int a_told__halves, .int v54, .int a_told__near, .int a_told__dusk, .int a_told__duskPrice, .int a_told__hear, .int a_told__forged, .ref a_told_stall, .ref a_told_shape, .ref a_told_side, .ref a_told_price, .ref a_told_purse, .ref a_told_spot, .ref a_told_club, .ref a_told_fitting, .ref a_told_nearly])), (a_told_purse, .inl (cs 0, 4, .inl f32)), (a_told_spot, .inl (cs 0, 4, .inl f51)), (a_told_club, .inl (cs 0, 4, .inl f53)), (a, .inr (0, [.ref a_tape, .ref a_told, .int a__kindsTold])), (a_tape, .inr (7, [.ref a_tape_bytes, .int a_tape__length, .int (o35.1 1), .int (o35.1 0)])), (a_tape_bytes, .inl (cs 0, 400, .inl a_tape_bytes_c))] H := hP
      have hD : va_D A [(a_told, .inr (8, [.int a_told__stalls, .int a_told__shift, .int a_told__halves, .int v54, .int a_told__near, .int a_told__dusk, .int a_told__duskPrice, .int a_told__hear, .int a_told__forged, .ref a_told_stall, .ref a_told_shape, .ref a_told_side, .ref a_told_price, .ref a_told_purse, .ref a_told_spot, .ref a_told_club, .ref a_told_fitting, .ref a_told_nearly])), (a_told_purse, .inl (cs 0, 4, .inl f32)), (a_told_spot, .inl (cs 0, 4, .inl f51)), (a_told_club, .inl (cs 0, 4, .inl f53)), (a, .inr (0, [.ref a_tape, .ref a_told, .int a__kindsTold])), (a_tape, .inr (7, [.ref a_tape_bytes, .int a_tape__length, .int (o35.1 1), .int (o35.1 0)])), (a_tape_bytes, .inl (cs 0, 400, .inl a_tape_bytes_c))] := hD
      refine W.widen (k := 0) (n := 0) (Nat.le_of_ble_eq_true rfl) (Nat.le_of_ble_eq_true rfl) ?_
      exact W.vret hx hb hr (fun t ht hW => ⟨⟨(fun k => match k with | 0 => o35.1 0 | 1 => o35.1 1 | 2 => v54 | _ => 0, fun k => match k with | 0 => f53 | 1 => f32 | 2 => f51 | _ => fun _ => 0), rfl, (Or.inl (⟨h40, h8, h43, hv54⟩)), by rw [ht]; exact hP.sub [4, 0, 5, 6, 1, 2, 3] rfl, hD.sub [4, 0, 5, 6, 1, 2, 3] (by decide) rfl⟩, hS.F ht⟩) hS.2.2 dX0_readBuyer_73
    · refine va_iast hx hb hK hP hD hS 2 0 rfl rfl (iv_v h_a_told__buyers (by decide) (by decide)) dX0_readBuyer_47 (fun H locs hP hD hS => ?_)
      have hP : va_P D classes [(a_told, .inr (8, [.int a_told__stalls, .int a_told__shift, .int a_told__halves, .int a_told__buyers, .int a_told__near, .int a_told__dusk, .int a_told__duskPrice, .int a_told__hear, .int a_told__forged, .ref a_told_stall, .ref a_told_shape, .ref a_told_side, .ref a_told_price, .ref a_told_purse, .ref a_told_spot, .ref a_told_club, .ref a_told_fitting, .ref a_told_nearly])), (a_told_purse, .inl (cs 0, 4, .inl f32)), (a_told_spot, .inl (cs 0, 4, .inl (upd a_told_spot_c (Int32.toNatClampNeg a_told__buyers) r34))), (a_told_club, .inl (cs 0, 4, .inl a_told_club_c)), (a, .inr (0, [.ref a_tape, .ref a_told, .int a__kindsTold])), (a_tape, .inr (7, [.ref a_tape_bytes, .int a_tape__length, .int (o35.1 1), .int (o35.1 0)])), (a_tape_bytes, .inl (cs 0, 400, .inl a_tape_bytes_c))] H := hP
      have hD : va_D A [(a_told, .inr (8, [.int a_told__stalls, .int a_told__shift, .int a_told__halves, .int a_told__buyers, .int a_told__near, .int a_told__dusk, .int a_told__duskPrice, .int a_told__hear, .int a_told__forged, .ref a_told_stall, .ref a_told_shape, .ref a_told_side, .ref a_told_price, .ref a_told_purse, .ref a_told_spot, .ref a_told_club, .ref a_told_fitting, .ref a_told_nearly])), (a_told_purse, .inl (cs 0, 4, .inl f32)), (a_told_spot, .inl (cs 0, 4, .inl (upd a_told_spot_c (Int32.toNatClampNeg a_told__buyers) r34))), (a_told_club, .inl (cs 0, 4, .inl a_told_club_c)), (a, .inr (0, [.ref a_tape, .ref a_told, .int a__kindsTold])), (a_tape, .inr (7, [.ref a_tape_bytes, .int a_tape__length, .int (o35.1 1), .int (o35.1 0)])), (a_tape_bytes, .inl (cs 0, 400, .inl a_tape_bytes_c))] := hD
      generalize upd a_told_spot_c (Int32.toNatClampNeg a_told__buyers) r34 = f55 at hP hD
      refine lv_aload_n hx hb dX0_readBuyer_48 rfl (lv_at hl 1 rfl) ?_
      refine va_get (D := D) (ci := 0) (v := .ref a_told) (C := RX0) (T := TX0) (N := 3) hx hb hT i_X0 hown hK hP 4 rfl rfl 1 (by decide) (hT _ q_45) (fun _ h9 => h9) rfl dX0_readBuyer_49 ?_
      refine va_get (D := D) (ci := 8) (v := .ref a_told_club) (C := RX8) (T := TX8) (N := 18) hx hb hT i_X8 hown hK hP 0 rfl rfl 15 (by decide) (hT _ q_63) (fun _ h9 => h9) rfl dX0_readBuyer_52 ?_
      refine lv_iload_n hx hb dX0_readBuyer_55 rfl (lv_at hl 0 rfl) ?_
      refine lv_iconst (v := 1) hx hb dX0_readBuyer_56 (by decide) ?_
      refine lv_iload_n hx hb dX0_readBuyer_57 rfl (lv_at hl 0 rfl) ?_
      refine lv_ishl hx hb dX0_readBuyer_58 ?_
      refine lv_topi (fun v56 ev56 => ?_)
      have hv56 : IV 1 8 v56 := iv_shl1 ev56 h_a_told__buyers (by decide) (by decide) (by decide)
      refine va_iast hx hb hK hP hD hS 3 0 rfl rfl (iv_v h_a_told__buyers (by decide) (by decide)) dX0_readBuyer_59 (fun H locs hP hD hS => ?_)
      have hP : va_P D classes [(a_told, .inr (8, [.int a_told__stalls, .int a_told__shift, .int a_told__halves, .int a_told__buyers, .int a_told__near, .int a_told__dusk, .int a_told__duskPrice, .int a_told__hear, .int a_told__forged, .ref a_told_stall, .ref a_told_shape, .ref a_told_side, .ref a_told_price, .ref a_told_purse, .ref a_told_spot, .ref a_told_club, .ref a_told_fitting, .ref a_told_nearly])), (a_told_purse, .inl (cs 0, 4, .inl f32)), (a_told_spot, .inl (cs 0, 4, .inl f55)), (a_told_club, .inl (cs 0, 4, .inl (upd a_told_club_c (Int32.toNatClampNeg a_told__buyers) v56))), (a, .inr (0, [.ref a_tape, .ref a_told, .int a__kindsTold])), (a_tape, .inr (7, [.ref a_tape_bytes, .int a_tape__length, .int (o35.1 1), .int (o35.1 0)])), (a_tape_bytes, .inl (cs 0, 400, .inl a_tape_bytes_c))] H := hP
      have hD : va_D A [(a_told, .inr (8, [.int a_told__stalls, .int a_told__shift, .int a_told__halves, .int a_told__buyers, .int a_told__near, .int a_told__dusk, .int a_told__duskPrice, .int a_told__hear, .int a_told__forged, .ref a_told_stall, .ref a_told_shape, .ref a_told_side, .ref a_told_price, .ref a_told_purse, .ref a_told_spot, .ref a_told_club, .ref a_told_fitting, .ref a_told_nearly])), (a_told_purse, .inl (cs 0, 4, .inl f32)), (a_told_spot, .inl (cs 0, 4, .inl f55)), (a_told_club, .inl (cs 0, 4, .inl (upd a_told_club_c (Int32.toNatClampNeg a_told__buyers) v56))), (a, .inr (0, [.ref a_tape, .ref a_told, .int a__kindsTold])), (a_tape, .inr (7, [.ref a_tape_bytes, .int a_tape__length, .int (o35.1 1), .int (o35.1 0)])), (a_tape_bytes, .inl (cs 0, 400, .inl a_tape_bytes_c))] := hD
      generalize upd a_told_club_c (Int32.toNatClampNeg a_told__buyers) v56 = f57 at hP hD
      refine lv_aload_n hx hb dX0_readBuyer_60 rfl (lv_at hl 1 rfl) ?_
      refine va_get (D := D) (ci := 0) (v := .ref a_told) (C := RX0) (T := TX0) (N := 3) hx hb hT i_X0 hown hK hP 4 rfl rfl 1 (by decide) (hT _ q_45) (fun _ h9 => h9) rfl dX0_readBuyer_61 ?_
      refine lv_dup hx hb dX0_readBuyer_64 rfl ?_
      refine va_get (D := D) (ci := 8) (v := .int a_told__buyers) (C := RX8) (T := TX8) (N := 18) hx hb hT i_X8 hown hK hP 0 rfl rfl 3 (by decide) (hT _ q_55) (fun _ h9 => h9) rfl dX0_readBuyer_65 ?_
      refine lv_iconst (v := 1) hx hb dX0_readBuyer_68 (by decide) ?_
      refine lv_iadd hx hb dX0_readBuyer_69 ?_
      refine lv_topi (fun v58 ev58 => ?_)
      have hv58 : IV 1 4 v58 := iv_add ev58 h_a_told__buyers (iv_c (a := 1) (b := 1) (by decide)) (by decide) (by decide)
      have dv58 : v58.toInt = a_told__buyers.toInt + 1 := iv_addE ev58 h_a_told__buyers (iv_c (a := 1) (b := 1) (by decide)) (by decide) (by decide) (by decide)
      refine va_put (D := D) (ci := 8) (v := .int v58) (ty := .int) (C := RX8) (T := TX8) (N := 18) hx hb hT i_X8 tyX8 tyX8_ok nmX8 hown hK hP hD hS 0 rfl rfl 3 (by decide) (hT _ q_55) (fun _ h9 => h9) rfl (by decide +kernel) rfl rfl (Nat.le_of_ble_eq_true rfl) dX0_readBuyer_70 (fun H locs hP hD hS => ?_)
      have hP : va_P D classes [(a_told, .inr (8, [.int a_told__stalls, .int a_told__shift, .int a_told__halves, .int v58, .int a_told__near, .int a_told__dusk, .int a_told__duskPrice, .int a_told__hear, .int a_told__forged, .ref a_told_stall, .ref a_told_shape, .ref a_told_side, .ref a_told_price, .ref a_told_purse, .ref a_told_spot, .ref a_told_club, .ref a_told_fitting, .ref a_told_nearly])), (a_told_purse, .inl (cs 0, 4, .inl f32)), (a_told_spot, .inl (cs 0, 4, .inl f55)), (a_told_club, .inl (cs 0, 4, .inl f57)), (a, .inr (0, [.ref a_tape, .ref a_told, .int a__kindsTold])), (a_tape, .inr (7, [.ref a_tape_bytes, .int a_tape__length, .int (o35.1 1), .int (o35.1 0)])), (a_tape_bytes, .inl (cs 0, 400, .inl a_tape_bytes_c))] H := hP
      have hD : va_D A [(a_told, .inr (8, [.int a_told__stalls, .int a_told__shift, .int a_told__halves, .int v58, .int a_told__near, .int a_told__dusk, .int a_told__duskPrice, .int a_told__hear, .int a_told__forged, .ref a_told_stall, .ref a_told_shape, .ref a_told_side, .ref a_told_price, .ref a_told_purse, .ref a_told_spot, .ref a_told_club, .ref a_told_fitting, .ref a_told_nearly])), (a_told_purse, .inl (cs 0, 4, .inl f32)), (a_told_spot, .inl (cs 0, 4, .inl f55)), (a_told_club, .inl (cs 0, 4, .inl f57)), (a, .inr (0, [.ref a_tape, .ref a_told, .int a__kindsTold])), (a_tape, .inr (7, [.ref a_tape_bytes, .int a_tape__length, .int (o35.1 1), .int (o35.1 0)])), (a_tape_bytes, .inl (cs 0, 400, .inl a_tape_bytes_c))] := hD
      refine W.widen (k := 0) (n := 0) (Nat.le_of_ble_eq_true rfl) (Nat.le_of_ble_eq_true rfl) ?_
      exact W.vret hx hb hr (fun t ht hW => ⟨⟨(fun k => match k with | 0 => o35.1 0 | 1 => o35.1 1 | 2 => v58 | _ => 0, fun k => match k with | 0 => f57 | 1 => f32 | 2 => f55 | _ => fun _ => 0), rfl, (Or.inr ((⟨h44, h46, hv58⟩))), by rw [ht]; exact hP.sub [4, 0, 5, 6, 1, 2, 3] rfl, hD.sub [4, 0, 5, 6, 1, 2, 3] (by decide) rfl⟩, hS.F ht⟩) hS.2.2 dX0_readBuyer_73
  · refine va_iast hx hb hK hP hD hS 1 0 rfl rfl (iv_v h_a_told__buyers (by decide) (by decide)) dX0_readBuyer_24 (fun H locs hP hD hS => ?_)
    have hP : va_P D classes [(a_told, .inr (8, [.int a_told__stalls, .int a_told__shift, .int a_told__halves, .int a_told__buyers, .int a_told__near, .int a_told__dusk, .int a_told__duskPrice, .int a_told__hear, .int a_told__forged, .ref a_told_stall, .ref a_told_shape, .ref a_told_side, .ref a_told_price, .ref a_told_purse, .ref a_told_spot, .ref a_told_club, .ref a_told_fitting, .ref a_told_nearly])), (a_told_purse, .inl (cs 0, 4, .inl (upd a_told_purse_c (Int32.toNatClampNeg a_told__buyers) r1))), (a_told_spot, .inl (cs 0, 4, .inl a_told_spot_c)), (a_told_club, .inl (cs 0, 4, .inl a_told_club_c)), (a, .inr (0, [.ref a_tape, .ref a_told, .int a__kindsTold])), (a_tape, .inr (7, [.ref a_tape_bytes, .int a_tape__length, .int (o2.1 1), .int (o2.1 0)])), (a_tape_bytes, .inl (cs 0, 400, .inl a_tape_bytes_c))] H := hP
    have hD : va_D A [(a_told, .inr (8, [.int a_told__stalls, .int a_told__shift, .int a_told__halves, .int a_told__buyers, .int a_told__near, .int a_told__dusk, .int a_told__duskPrice, .int a_told__hear, .int a_told__forged, .ref a_told_stall, .ref a_told_shape, .ref a_told_side, .ref a_told_price, .ref a_told_purse, .ref a_told_spot, .ref a_told_club, .ref a_told_fitting, .ref a_told_nearly])), (a_told_purse, .inl (cs 0, 4, .inl (upd a_told_purse_c (Int32.toNatClampNeg a_told__buyers) r1))), (a_told_spot, .inl (cs 0, 4, .inl a_told_spot_c)), (a_told_club, .inl (cs 0, 4, .inl a_told_club_c)), (a, .inr (0, [.ref a_tape, .ref a_told, .int a__kindsTold])), (a_tape, .inr (7, [.ref a_tape_bytes, .int a_tape__length, .int (o2.1 1), .int (o2.1 0)])), (a_tape_bytes, .inl (cs 0, 400, .inl a_tape_bytes_c))] := hD
    generalize upd a_told_purse_c (Int32.toNatClampNeg a_told__buyers) r1 = f59 at hP hD
    refine lv_aload_n hx hb dX0_readBuyer_25 rfl (lv_at hl 1 rfl) ?_
    refine va_get (D := D) (ci := 0) (v := .ref a_told) (C := RX0) (T := TX0) (N := 3) hx hb hT i_X0 hown hK hP 4 rfl rfl 1 (by decide) (hT _ q_45) (fun _ h9 => h9) rfl dX0_readBuyer_26 ?_
    refine va_get (D := D) (ci := 8) (v := .ref a_told_spot) (C := RX8) (T := TX8) (N := 18) hx hb hT i_X8 hown hK hP 0 rfl rfl 14 (by decide) (hT _ q_62) (fun _ h9 => h9) rfl dX0_readBuyer_29 ?_
    refine lv_iload_n hx hb dX0_readBuyer_32 rfl (lv_at hl 0 rfl) ?_
    refine lv_aload_n hx hb dX0_readBuyer_33 rfl (lv_at hl 1 rfl) ?_
    refine lv_iconst (v := 0) hx hb dX0_readBuyer_34 (by decide) ?_
    refine lv_aload_n hx hb dX0_readBuyer_35 rfl (lv_at hl 1 rfl) ?_
    refine va_get (D := D) (ci := 0) (v := .ref a_told) (C := RX0) (T := TX0) (N := 3) hx hb hT i_X0 hown hK hP 4 rfl rfl 1 (by decide) (hT _ q_45) (fun _ h9 => h9) rfl dX0_readBuyer_36 ?_
    refine va_get (D := D) (ci := 8) (v := .int a_told__stalls) (C := RX8) (T := TX8) (N := 18) hx hb hT i_X8 hown hK hP 0 rfl rfl 0 (by decide) (hT _ q_48) (fun _ h9 => h9) rfl dX0_readBuyer_39 ?_
    refine lv_iconst (v := 1) hx hb dX0_readBuyer_42 (by decide) ?_
    refine lv_isub hx hb dX0_readBuyer_43 ?_
    refine lv_topi (fun v60 ev60 => ?_)
    have hv60 : IV (-1) 7 v60 := iv_sub ev60 h_a_told__stalls (iv_c (a := 1) (b := 1) (by decide)) (by decide) (by decide)
    have dv60 : v60.toInt = a_told__stalls.toInt + (-1) := iv_subE ev60 h_a_told__stalls (iv_c (a := 1) (b := 1) (by decide)) (by decide) (by decide) (by decide)
    have hFc := va_free (wc := [(a, .inr (0, [.ref a_tape, .ref a_told, .int a__kindsTold])), (a_tape, .inr (7, [.ref a_tape_bytes, .int a_tape__length, .int (o2.1 1), .int (o2.1 0)])), (a_tape_bytes, .inl (cs 0, 400, .inl a_tape_bytes_c))]) hD hS hA [4,5,6] rfl
    refine va_calli (va_runV (As := [.int 0, .int v60]) (rest := [.int a_told__buyers, .ref a_told_spot]) ⟨hx, hb, hml, hown, hT⟩ (c_X0_numberTold_60 l D cs kK kV a v60 a_tape a_told a__kindsTold a_tape_bytes a_tape__length (o2.1 1) (o2.1 0) a_tape_bytes_c hv60 h_a_tape__length h12 ((iv_w h10 (by decide) (by decide))) h_a_tape_bytes_c H.size) (cwV 2 hT (hz_gV q_452 q_453 q_454 q_226 q_455) rfl rfl rfl (by decide +kernel) ⟨(Nat.le_of_ble_eq_true rfl), (Nat.le_of_ble_eq_true rfl)⟩) ⟨hz_C.blind, va_recv hK hP (ci := 0) (q0 := 4) rfl rfl, hz_C.mk (hP.sub (ws' := [(a, .inr (0, [.ref a_tape, .ref a_told, .int a__kindsTold])), (a_tape, .inr (7, [.ref a_tape_bytes, .int a_tape__length, .int (o2.1 1), .int (o2.1 0)])), (a_tape_bytes, .inl (cs 0, 400, .inl a_tape_bytes_c))]) [4,5,6] rfl) (hD.sub (ws' := [(a, .inr (0, [.ref a_tape, .ref a_told, .int a__kindsTold])), (a_tape, .inr (7, [.ref a_tape_bytes, .int a_tape__length, .int (o2.1 1), .int (o2.1 0)])), (a_tape_bytes, .inl (cs 0, 400, .inl a_tape_bytes_c))]) [4,5,6] (by decide) rfl) hE hS hFc⟩ rfl rfl hl.1 rfl (lv_room (Nat.le_of_ble_eq_true rfl)) dX0_readBuyer_44 ⟨(Nat.le_of_ble_eq_true rfl), (Nat.le_of_ble_eq_true rfl)⟩) hS (fun q _ h => hFc q h) hFc (fun r61 o62 t H1 locs ht hvm hw hB hz1 hk1 hS => ?_)
    obtain ⟨hP1, hD1⟩ := hB
    rw [ht] at hP1
    obtain ⟨hP, hD⟩ := va_join (wr := [(a_told, .inr (8, [.int a_told__stalls, .int a_told__shift, .int a_told__halves, .int a_told__buyers, .int a_told__near, .int a_told__dusk, .int a_told__duskPrice, .int a_told__hear, .int a_told__forged, .ref a_told_stall, .ref a_told_shape, .ref a_told_side, .ref a_told_price, .ref a_told_purse, .ref a_told_spot, .ref a_told_club, .ref a_told_fitting, .ref a_told_nearly])), (a_told_purse, .inl (cs 0, 4, .inl f59)), (a_told_spot, .inl (cs 0, 4, .inl a_told_spot_c)), (a_told_club, .inl (cs 0, 4, .inl a_told_club_c))]) (w1 := [(a, .inr (0, [.ref a_tape, .ref a_told, .int a__kindsTold])), (a_tape, .inr (7, [.ref a_tape_bytes, .int a_tape__length, .int (o62.1 1), .int (o62.1 0)])), (a_tape_bytes, .inl (cs 0, 400, .inl a_tape_bytes_c))]) hP hD [4, 5, 6] [0, 1, 2, 3] rfl rfl (by decide) (by decide) hk1 hFc hP1 hD1
    generalize H1 = H at hP hS ⊢
    have hP : va_P D classes [(a_told, .inr (8, [.int a_told__stalls, .int a_told__shift, .int a_told__halves, .int a_told__buyers, .int a_told__near, .int a_told__dusk, .int a_told__duskPrice, .int a_told__hear, .int a_told__forged, .ref a_told_stall, .ref a_told_shape, .ref a_told_side, .ref a_told_price, .ref a_told_purse, .ref a_told_spot, .ref a_told_club, .ref a_told_fitting, .ref a_told_nearly])), (a_told_purse, .inl (cs 0, 4, .inl f59)), (a_told_spot, .inl (cs 0, 4, .inl a_told_spot_c)), (a_told_club, .inl (cs 0, 4, .inl a_told_club_c)), (a, .inr (0, [.ref a_tape, .ref a_told, .int a__kindsTold])), (a_tape, .inr (7, [.ref a_tape_bytes, .int a_tape__length, .int (o62.1 1), .int (o62.1 0)])), (a_tape_bytes, .inl (cs 0, 400, .inl a_tape_bytes_c))] H := hP
    have hD : va_D A [(a_told, .inr (8, [.int a_told__stalls, .int a_told__shift, .int a_told__halves, .int a_told__buyers, .int a_told__near, .int a_told__dusk, .int a_told__duskPrice, .int a_told__hear, .int a_told__forged, .ref a_told_stall, .ref a_told_shape, .ref a_told_side, .ref a_told_price, .ref a_told_purse, .ref a_told_spot, .ref a_told_club, .ref a_told_fitting, .ref a_told_nearly])), (a_told_purse, .inl (cs 0, 4, .inl f59)), (a_told_spot, .inl (cs 0, 4, .inl a_told_spot_c)), (a_told_club, .inl (cs 0, 4, .inl a_told_club_c)), (a, .inr (0, [.ref a_tape, .ref a_told, .int a__kindsTold])), (a_tape, .inr (7, [.ref a_tape_bytes, .int a_tape__length, .int (o62.1 1), .int (o62.1 0)])), (a_tape_bytes, .inl (cs 0, 400, .inl a_tape_bytes_c))] := hD
    clear hk1 hFc hP1 hD1 hz1
    rcases hw with ⟨rfl, h63, h64, h65⟩ | ⟨h66, h67, h68, h69, h70⟩ | ⟨h71, h72, h73⟩
    · refine va_iast hx hb hK hP hD hS 2 0 rfl rfl (iv_v h_a_told__buyers (by decide) (by decide)) dX0_readBuyer_47 (fun H locs hP hD hS => ?_)
      have hP : va_P D classes [(a_told, .inr (8, [.int a_told__stalls, .int a_told__shift, .int a_told__halves, .int a_told__buyers, .int a_told__near, .int a_told__dusk, .int a_told__duskPrice, .int a_told__hear, .int a_told__forged, .ref a_told_stall, .ref a_told_shape, .ref a_told_side, .ref a_told_price, .ref a_told_purse, .ref a_told_spot, .ref a_told_club, .ref a_told_fitting, .ref a_told_nearly])), (a_told_purse, .inl (cs 0, 4, .inl f59)), (a_told_spot, .inl (cs 0, 4, .inl (upd a_told_spot_c (Int32.toNatClampNeg a_told__buyers) (0 : Int32)))), (a_told_club, .inl (cs 0, 4, .inl a_told_club_c)), (a, .inr (0, [.ref a_tape, .ref a_told, .int a__kindsTold])), (a_tape, .inr (7, [.ref a_tape_bytes, .int a_tape__length, .int (o62.1 1), .int (o62.1 0)])), (a_tape_bytes, .inl (cs 0, 400, .inl a_tape_bytes_c))] H := hP
      have hD : va_D A [(a_told, .inr (8, [.int a_told__stalls, .int a_told__shift, .int a_told__halves, .int a_told__buyers, .int a_told__near, .int a_told__dusk, .int a_told__duskPrice, .int a_told__hear, .int a_told__forged, .ref a_told_stall, .ref a_told_shape, .ref a_told_side, .ref a_told_price, .ref a_told_purse, .ref a_told_spot, .ref a_told_club, .ref a_told_fitting, .ref a_told_nearly])), (a_told_purse, .inl (cs 0, 4, .inl f59)), (a_told_spot, .inl (cs 0, 4, .inl (upd a_told_spot_c (Int32.toNatClampNeg a_told__buyers) (0 : Int32)))), (a_told_club, .inl (cs 0, 4, .inl a_told_club_c)), (a, .inr (0, [.ref a_tape, .ref a_told, .int a__kindsTold])), (a_tape, .inr (7, [.ref a_tape_bytes, .int a_tape__length, .int (o62.1 1), .int (o62.1 0)])), (a_tape_bytes, .inl (cs 0, 400, .inl a_tape_bytes_c))] := hD
      generalize upd a_told_spot_c (Int32.toNatClampNeg a_told__buyers) (0 : Int32) = f74 at hP hD
      refine lv_aload_n hx hb dX0_readBuyer_48 rfl (lv_at hl 1 rfl) ?_
      refine va_get (D := D) (ci := 0) (v := .ref a_told) (C := RX0) (T := TX0) (N := 3) hx hb hT i_X0 hown hK hP 4 rfl rfl 1 (by decide) (hT _ q_45) (fun _ h9 => h9) rfl dX0_readBuyer_49 ?_
      refine va_get (D := D) (ci := 8) (v := .ref a_told_club) (C := RX8) (T := TX8) (N := 18) hx hb hT i_X8 hown hK hP 0 rfl rfl 15 (by decide) (hT _ q_63) (fun _ h9 => h9) rfl dX0_readBuyer_52 ?_
      refine lv_iload_n hx hb dX0_readBuyer_55 rfl (lv_at hl 0 rfl) ?_
      refine lv_iconst (v := 1) hx hb dX0_readBuyer_56 (by decide) ?_
      refine lv_iload_n hx hb dX0_readBuyer_57 rfl (lv_at hl 0 rfl) ?_
      refine lv_ishl hx hb dX0_readBuyer_58 ?_
      refine lv_topi (fun v75 ev75 => ?_)
      have hv75 : IV 1 8 v75 := iv_shl1 ev75 h_a_told__buyers (by decide) (by decide) (by decide)
      refine va_iast hx hb hK hP hD hS 3 0 rfl rfl (iv_v h_a_told__buyers (by decide) (by decide)) dX0_readBuyer_59 (fun H locs hP hD hS => ?_)
      have hP : va_P D classes [(a_told, .inr (8, [.int a_told__stalls, .int a_told__shift, .int a_told__halves, .int a_told__buyers, .int a_told__near, .int a_told__dusk, .int a_told__duskPrice, .int a_told__hear, .int a_told__forged, .ref a_told_stall, .ref a_told_shape, .ref a_told_side, .ref a_told_price, .ref a_told_purse, .ref a_told_spot, .ref a_told_club, .ref a_told_fitting, .ref a_told_nearly])), (a_told_purse, .inl (cs 0, 4, .inl f59)), (a_told_spot, .inl (cs 0, 4, .inl f74)), (a_told_club, .inl (cs 0, 4, .inl (upd a_told_club_c (Int32.toNatClampNeg a_told__buyers) v75))), (a, .inr (0, [.ref a_tape, .ref a_told, .int a__kindsTold])), (a_tape, .inr (7, [.ref a_tape_bytes, .int a_tape__length, .int (o62.1 1), .int (o62.1 0)])), (a_tape_bytes, .inl (cs 0, 400, .inl a_tape_bytes_c))] H := hP
      have hD : va_D A [(a_told, .inr (8, [.int a_told__stalls, .int a_told__shift, .int a_told__halves, .int a_told__buyers, .int a_told__near, .int a_told__dusk, .int a_told__duskPrice, .int a_told__hear, .int a_told__forged, .ref a_told_stall, .ref a_told_shape, .ref a_told_side, .ref a_told_price, .ref a_told_purse, .ref a_told_spot, .ref a_told_club, .ref a_told_fitting, .ref a_told_nearly])), (a_told_purse, .inl (cs 0, 4, .inl f59)), (a_told_spot, .inl (cs 0, 4, .inl f74)), (a_told_club, .inl (cs 0, 4, .inl (upd a_told_club_c (Int32.toNatClampNeg a_told__buyers) v75))), (a, .inr (0, [.ref a_tape, .ref a_told, .int a__kindsTold])), (a_tape, .inr (7, [.ref a_tape_bytes, .int a_tape__length, .int (o62.1 1), .int (o62.1 0)])), (a_tape_bytes, .inl (cs 0, 400, .inl a_tape_bytes_c))] := hD
      generalize upd a_told_club_c (Int32.toNatClampNeg a_told__buyers) v75 = f76 at hP hD
      refine lv_aload_n hx hb dX0_readBuyer_60 rfl (lv_at hl 1 rfl) ?_
      refine va_get (D := D) (ci := 0) (v := .ref a_told) (C := RX0) (T := TX0) (N := 3) hx hb hT i_X0 hown hK hP 4 rfl rfl 1 (by decide) (hT _ q_45) (fun _ h9 => h9) rfl dX0_readBuyer_61 ?_
      refine lv_dup hx hb dX0_readBuyer_64 rfl ?_
      refine va_get (D := D) (ci := 8) (v := .int a_told__buyers) (C := RX8) (T := TX8) (N := 18) hx hb hT i_X8 hown hK hP 0 rfl rfl 3 (by decide) (hT _ q_55) (fun _ h9 => h9) rfl dX0_readBuyer_65 ?_
      refine lv_iconst (v := 1) hx hb dX0_readBuyer_68 (by decide) ?_
      refine lv_iadd hx hb dX0_readBuyer_69 ?_
      refine lv_topi (fun v77 ev77 => ?_)
      have hv77 : IV 1 4 v77 := iv_add ev77 h_a_told__buyers (iv_c (a := 1) (b := 1) (by decide)) (by decide) (by decide)
      have dv77 : v77.toInt = a_told__buyers.toInt + 1 := iv_addE ev77 h_a_told__buyers (iv_c (a := 1) (b := 1) (by decide)) (by decide) (by decide) (by decide)
      refine va_put (D := D) (ci := 8) (v := .int v77) (ty := .int) (C := RX8) (T := TX8) (N := 18) hx hb hT i_X8 tyX8 tyX8_ok nmX8 hown hK hP hD hS 0 rfl rfl 3 (by decide) (hT _ q_55) (fun _ h9 => h9) rfl (by decide +kernel) rfl rfl (Nat.le_of_ble_eq_true rfl) dX0_readBuyer_70 (fun H locs hP hD hS => ?_)
      have hP : va_P D classes [(a_told, .inr (8, [.int a_told__stalls, .int a_told__shift, .int a_told__halves, .int v77, .int a_told__near, .int a_told__dusk, .int a_told__duskPrice, .int a_told__hear, .int a_told__forged, .ref a_told_stall, .ref a_told_shape, .ref a_told_side, .ref a_told_price, .ref a_told_purse, .ref a_told_spot, .ref a_told_club, .ref a_told_fitting, .ref a_told_nearly])), (a_told_purse, .inl (cs 0, 4, .inl f59)), (a_told_spot, .inl (cs 0, 4, .inl f74)), (a_told_club, .inl (cs 0, 4, .inl f76)), (a, .inr (0, [.ref a_tape, .ref a_told, .int a__kindsTold])), (a_tape, .inr (7, [.ref a_tape_bytes, .int a_tape__length, .int (o62.1 1), .int (o62.1 0)])), (a_tape_bytes, .inl (cs 0, 400, .inl a_tape_bytes_c))] H := hP
      have hD : va_D A [(a_told, .inr (8, [.int a_told__stalls, .int a_told__shift, .int a_told__halves, .int v77, .int a_told__near, .int a_told__dusk, .int a_told__duskPrice, .int a_told__hear, .int a_told__forged, .ref a_told_stall, .ref a_told_shape, .ref a_told_side, .ref a_told_price, .ref a_told_purse, .ref a_told_spot, .ref a_told_club, .ref a_told_fitting, .ref a_told_nearly])), (a_told_purse, .inl (cs 0, 4, .inl f59)), (a_told_spot, .inl (cs 0, 4, .inl f74)), (a_told_club, .inl (cs 0, 4, .inl f76)), (a, .inr (0, [.ref a_tape, .ref a_told, .int a__kindsTold])), (a_tape, .inr (7, [.ref a_tape_bytes, .int a_tape__length, .int (o62.1 1), .int (o62.1 0)])), (a_tape_bytes, .inl (cs 0, 400, .inl a_tape_bytes_c))] := hD
      refine W.widen (k := 0) (n := 0) (Nat.le_of_ble_eq_true rfl) (Nat.le_of_ble_eq_true rfl) ?_
      exact W.vret hx hb hr (fun t ht hW => ⟨⟨(fun k => match k with | 0 => o62.1 0 | 1 => o62.1 1 | 2 => v77 | _ => 0, fun k => match k with | 0 => f76 | 1 => f59 | 2 => f74 | _ => fun _ => 0), rfl, (Or.inr ((⟨h63, h65, hv77⟩))), by rw [ht]; exact hP.sub [4, 0, 5, 6, 1, 2, 3] rfl, hD.sub [4, 0, 5, 6, 1, 2, 3] (by decide) rfl⟩, hS.F ht⟩) hS.2.2 dX0_readBuyer_73
    · exact (iv_no h68 h10 (by decide)).elim
    · exact (iv_no h72 h10 (by decide)).elim
theorem dX8_init_0 : decode cX8_init 0 = .ok (.aload_n 0, 1) := by decide +kernel
theorem dX8_init_1 : decode cX8_init 1 = .ok (.invokespecial 3, 3) := by decide +kernel
theorem dX8_init_4 : decode cX8_init 4 = .ok (.aload_n 0, 1) := by decide +kernel
theorem dX8_init_5 : decode cX8_init 5 = .ok (.bipush 12, 2) := by decide +kernel
theorem dX8_init_7 : decode cX8_init 7 = .ok (.putfield 9, 3) := by decide +kernel
theorem dX8_init_10 : decode cX8_init 10 = .ok (.aload_n 0, 1) := by decide +kernel
theorem dX8_init_11 : decode cX8_init 11 = .ok (.iconst 5, 1) := by decide +kernel
theorem dX8_init_12 : decode cX8_init 12 = .ok (.putfield 15, 3) := by decide +kernel
theorem dX8_init_15 : decode cX8_init 15 = .ok (.aload_n 0, 1) := by decide +kernel
theorem dX8_init_16 : decode cX8_init 16 = .ok (.iconst 1, 1) := by decide +kernel
theorem dX8_init_17 : decode cX8_init 17 = .ok (.putfield 18, 3) := by decide +kernel
theorem dX8_init_20 : decode cX8_init 20 = .ok (.aload_n 0, 1) := by decide +kernel
theorem dX8_init_21 : decode cX8_init 21 = .ok (.bipush 12, 2) := by decide +kernel
theorem dX8_init_23 : decode cX8_init 23 = .ok (.newarray .int, 2) := by decide +kernel
theorem dX8_init_25 : decode cX8_init 25 = .ok (.putfield 21, 3) := by decide +kernel
theorem dX8_init_28 : decode cX8_init 28 = .ok (.aload_n 0, 1) := by decide +kernel
theorem dX8_init_29 : decode cX8_init 29 = .ok (.bipush 12, 2) := by decide +kernel
theorem dX8_init_31 : decode cX8_init 31 = .ok (.newarray .int, 2) := by decide +kernel
theorem dX8_init_33 : decode cX8_init 33 = .ok (.putfield 25, 3) := by decide +kernel
theorem dX8_init_36 : decode cX8_init 36 = .ok (.aload_n 0, 1) := by decide +kernel
theorem dX8_init_37 : decode cX8_init 37 = .ok (.bipush 12, 2) := by decide +kernel
theorem dX8_init_39 : decode cX8_init 39 = .ok (.newarray .int, 2) := by decide +kernel
theorem dX8_init_41 : decode cX8_init 41 = .ok (.putfield 28, 3) := by decide +kernel
theorem dX8_init_44 : decode cX8_init 44 = .ok (.aload_n 0, 1) := by decide +kernel
theorem dX8_init_45 : decode cX8_init 45 = .ok (.bipush 12, 2) := by decide +kernel
theorem dX8_init_47 : decode cX8_init 47 = .ok (.newarray .int, 2) := by decide +kernel
theorem dX8_init_49 : decode cX8_init 49 = .ok (.putfield 31, 3) := by decide +kernel
theorem dX8_init_52 : decode cX8_init 52 = .ok (.aload_n 0, 1) := by decide +kernel
theorem dX8_init_53 : decode cX8_init 53 = .ok (.iconst 4, 1) := by decide +kernel
theorem dX8_init_54 : decode cX8_init 54 = .ok (.newarray .int, 2) := by decide +kernel
theorem dX8_init_56 : decode cX8_init 56 = .ok (.putfield 34, 3) := by decide +kernel
theorem dX8_init_59 : decode cX8_init 59 = .ok (.aload_n 0, 1) := by decide +kernel
theorem dX8_init_60 : decode cX8_init 60 = .ok (.iconst 4, 1) := by decide +kernel
theorem dX8_init_61 : decode cX8_init 61 = .ok (.newarray .int, 2) := by decide +kernel
theorem dX8_init_63 : decode cX8_init 63 = .ok (.putfield 37, 3) := by decide +kernel
theorem dX8_init_66 : decode cX8_init 66 = .ok (.aload_n 0, 1) := by decide +kernel
theorem dX8_init_67 : decode cX8_init 67 = .ok (.iconst 4, 1) := by decide +kernel
theorem dX8_init_68 : decode cX8_init 68 = .ok (.newarray .int, 2) := by decide +kernel
theorem dX8_init_70 : decode cX8_init 70 = .ok (.putfield 40, 3) := by decide +kernel
theorem dX8_init_73 : decode cX8_init 73 = .ok (.aload_n 0, 1) := by decide +kernel
theorem dX8_init_74 : decode cX8_init 74 = .ok (.bipush 12, 2) := by decide +kernel
theorem dX8_init_76 : decode cX8_init 76 = .ok (.newarray .int, 2) := by decide +kernel
theorem dX8_init_78 : decode cX8_init 78 = .ok (.putfield 43, 3) := by decide +kernel
theorem dX8_init_81 : decode cX8_init 81 = .ok (.aload_n 0, 1) := by decide +kernel
theorem dX8_init_82 : decode cX8_init 82 = .ok (.bipush 12, 2) := by decide +kernel
theorem dX8_init_84 : decode cX8_init 84 = .ok (.newarray .int, 2) := by decide +kernel
theorem dX8_init_86 : decode cX8_init 86 = .ok (.putfield 46, 3) := by decide +kernel
theorem dX8_init_89 : decode cX8_init 89 = .ok (.return_, 1) := by decide +kernel
set_option maxHeartbeats 4000000 in
set_option maxRecDepth 100000 in
theorem c_X8_init (l : Launch) (D : va_G) (cs : Nat → ClassId) (kK kV : Nat → Nat) (a : Nat)  (sz : Nat) : Met l yX8_init (hz_w yX8_init cX8_init 1 none) ({ frames := 1, cells := 9, slots := 84, locals := 12 }) (va_Pc [.ref a] (hz_C D cs kK kV sz [(a, .inr (8, [.int 0, .int 0, .int 0, .int 0, .int 0, .int 0, .int 0, .int 0, .int 0, .null, .null, .null, .null, .null, .null, .null, .null, .null]))])) (va_Qv (fun (_ : Unit) => True) (fun _ t => ∃ (m0 : Nat), ∃ (m0_c : Nat → Int32), ∃ (m1 : Nat), ∃ (m1_c : Nat → Int32), ∃ (m2 : Nat), ∃ (m2_c : Nat → Int32), ∃ (m3 : Nat), ∃ (m3_c : Nat → Int32), ∃ (m4 : Nat), ∃ (m4_c : Nat → Int32), ∃ (m5 : Nat), ∃ (m5_c : Nat → Int32), ∃ (m6 : Nat), ∃ (m6_c : Nat → Int32), ∃ (m7 : Nat), ∃ (m7_c : Nat → Int32), ∃ (m8 : Nat), ∃ (m8_c : Nat → Int32), CI 12 0 0 m0_c ∧ CI 12 0 0 m1_c ∧ CI 12 0 0 m2_c ∧ CI 12 0 0 m3_c ∧ CI 4 0 0 m4_c ∧ CI 4 0 0 m5_c ∧ CI 4 0 0 m6_c ∧ CI 12 0 0 m7_c ∧ CI 12 0 0 m8_c ∧ va_P D classes [(a, .inr (8, [.int 0, .int 0, .int 0, .int 0, .int 0, .int 12, .int 5, .int 1, .int 0, .ref m0, .ref m1, .ref m2, .ref m3, .ref m4, .ref m5, .ref m6, .ref m7, .ref m8])), (m0, .inl (cs 0, 12, .inl m0_c)), (m1, .inl (cs 0, 12, .inl m1_c)), (m2, .inl (cs 0, 12, .inl m2_c)), (m3, .inl (cs 0, 12, .inl m3_c)), (m4, .inl (cs 0, 4, .inl m4_c)), (m5, .inl (cs 0, 4, .inl m5_c)), (m6, .inl (cs 0, 4, .inl m6_c)), (m7, .inl (cs 0, 12, .inl m7_c)), (m8, .inl (cs 0, 12, .inl m8_c))] t.heap ∧ va_D (va_A [(a, .inr (8, [.int 0, .int 0, .int 0, .int 0, .int 0, .int 0, .int 0, .int 0, .int 0, .null, .null, .null, .null, .null, .null, .null, .null, .null]))] sz) [(a, .inr (8, [.int 0, .int 0, .int 0, .int 0, .int 0, .int 12, .int 5, .int 1, .int 0, .ref m0, .ref m1, .ref m2, .ref m3, .ref m4, .ref m5, .ref m6, .ref m7, .ref m8])), (m0, .inl (cs 0, 12, .inl m0_c)), (m1, .inl (cs 0, 12, .inl m1_c)), (m2, .inl (cs 0, 12, .inl m2_c)), (m3, .inl (cs 0, 12, .inl m3_c)), (m4, .inl (cs 0, 4, .inl m4_c)), (m5, .inl (cs 0, 4, .inl m5_c)), (m6, .inl (cs 0, 4, .inl m6_c)), (m7, .inl (cs 0, 12, .inl m7_c)), (m8, .inl (cs 0, 12, .inl m8_c))]) (va_A [(a, .inr (8, [.int 0, .int 0, .int 0, .int 0, .int 0, .int 0, .int 0, .int 0, .int 0, .null, .null, .null, .null, .null, .null, .null, .null, .null]))] sz)) 9 84 (va_A [(a, .inr (8, [.int 0, .int 0, .int 0, .int 0, .int 0, .int 0, .int 0, .int 0, .int 0, .null, .null, .null, .null, .null, .null, .null, .null, .null]))] sz) := by
  refine Met.ofW (cc := cX8_init) (maxL := 1) (ret := none) (by decide) rfl ?_
  intro p e s m args below meth c s₁ B hml hv
  obtain ⟨rfl, hsz, hP, hD0, hE⟩ := hv
  have hx := B.exec
  have hb := B.bytes
  have hr := B.returns
  have hT : ∀ w ∈ TB, w.before _ s = true := fun w h => atoms_spec (ws := hz_w yX8_init cX8_init 1 none) B.pre w (List.mem_cons_of_mem _ h)
  have hown : s.vm.findClass RX8 = some m.cls := findClass_of_methodNamed B.named
  have hlocks := B.notSynchronized
  have hin : meth.name = "<init>" := (name_of_methodNamed B.named B.method).1
  clear B
  subst hsz
  have hD := hD0.self (sz := s.heap.size)
  generalize hAe : va_A [(a, .inr (8, [.int 0, .int 0, .int 0, .int 0, .int 0, .int 0, .int 0, .int 0, .int 0, .null, .null, .null, .null, .null, .null, .null, .null, .null]))] s.heap.size = A at hD hE ⊢
  have hA : ∀ q : Nat, s.heap.size ≤ q → A q := fun q h => by rw [← hAe]; exact Or.inr h
  clear hAe hD0
  have hS : va_S A s.heap s.heap [] := va_S.rf
  have hK := hE.1
  have hl := lv_entry ([.ref a]) (n := 1) (Nat.le_of_ble_eq_true rfl)
  rw [lg_entry_eq]
  generalize (lg_sl ([.ref a]) ++ List.replicate (1 - (lg_sl ([.ref a])).length) Slot.unset).toArray = ls at hl ⊢
  have hl : lv_has ls 1 [(0, .ref a)] := hl
  obtain ⟨H, eH⟩ : ∃ z, z = s.heap := ⟨_, rfl⟩
  have hP : va_P D classes [(a, .inr (8, [.int 0, .int 0, .int 0, .int 0, .int 0, .int 0, .int 0, .int 0, .int 0, .null, .null, .null, .null, .null, .null, .null, .null, .null]))] H := by rw [eH]; exact hP
  have hS : va_S A s.heap H [] := by rw [eH]; exact hS
  rw [← eH]
  clear eH
  obtain ⟨locs, el⟩ : ∃ z : List Loc, z = [] := ⟨_, rfl⟩
  rw [← el] at hS ⊢
  clear el
  refine lv_aload_n hx hb dX8_init_0 rfl (lv_at hl 0 rfl) ?_
  refine W.objInit hx hb hown (hT _ q_643) (hT _ q_218) (hT _ q_1353) rfl (by rw [hml]; exact hl.1) rfl dX8_init_1 (Nat.le_of_ble_eq_true rfl) (Nat.le_of_ble_eq_true rfl) ?_
  refine W.eq (g2 := F0 m 4 ls []) rfl ?_
  refine lv_aload_n hx hb dX8_init_4 rfl (lv_at hl 0 rfl) ?_
  refine lv_bipush (v := 12) hx hb dX8_init_5 (by decide) ?_
  refine va_put (D := D) (ci := 8) (v := .int 12) (ty := .int) (C := RX8) (T := TX8) (N := 18) hx hb hT i_X8 tyX8 tyX8_ok nmX8 hown hK hP hD hS 0 rfl rfl 5 (by decide) (hT _ q_131) (fun _ h9 => h9) rfl (by decide +kernel) rfl rfl (Nat.le_of_ble_eq_true rfl) dX8_init_7 (fun H locs hP hD hS => ?_)
  have hP : va_P D classes [(a, .inr (8, [.int 0, .int 0, .int 0, .int 0, .int 0, .int 12, .int 0, .int 0, .int 0, .null, .null, .null, .null, .null, .null, .null, .null, .null]))] H := hP
  have hD : va_D A [(a, .inr (8, [.int 0, .int 0, .int 0, .int 0, .int 0, .int 12, .int 0, .int 0, .int 0, .null, .null, .null, .null, .null, .null, .null, .null, .null]))] := hD
  refine lv_aload_n hx hb dX8_init_10 rfl (lv_at hl 0 rfl) ?_
  refine lv_iconst (v := 5) hx hb dX8_init_11 (by decide) ?_
  refine va_put (D := D) (ci := 8) (v := .int 5) (ty := .int) (C := RX8) (T := TX8) (N := 18) hx hb hT i_X8 tyX8 tyX8_ok nmX8 hown hK hP hD hS 0 rfl rfl 6 (by decide) (hT _ q_132) (fun _ h9 => h9) rfl (by decide +kernel) rfl rfl (Nat.le_of_ble_eq_true rfl) dX8_init_12 (fun H locs hP hD hS => ?_)
  have hP : va_P D classes [(a, .inr (8, [.int 0, .int 0, .int 0, .int 0, .int 0, .int 12, .int 5, .int 0, .int 0, .null, .null, .null, .null, .null, .null, .null, .null, .null]))] H := hP
  have hD : va_D A [(a, .inr (8, [.int 0, .int 0, .int 0, .int 0, .int 0, .int 12, .int 5, .int 0, .int 0, .null, .null, .null, .null, .null, .null, .null, .null, .null]))] := hD
  refine lv_aload_n hx hb dX8_init_15 rfl (lv_at hl 0 rfl) ?_
  refine lv_iconst (v := 1) hx hb dX8_init_16 (by decide) ?_
  refine va_put (D := D) (ci := 8) (v := .int 1) (ty := .int) (C := RX8) (T := TX8) (N := 18) hx hb hT i_X8 tyX8 tyX8_ok nmX8 hown hK hP hD hS 0 rfl rfl 7 (by decide) (hT _ q_133) (fun _ h9 => h9) rfl (by decide +kernel) rfl rfl (Nat.le_of_ble_eq_true rfl) dX8_init_17 (fun H locs hP hD hS => ?_)
  have hP : va_P D classes [(a, .inr (8, [.int 0, .int 0, .int 0, .int 0, .int 0, .int 12, .int 5, .int 1, .int 0, .null, .null, .null, .null, .null, .null, .null, .null, .null]))] H := hP
  have hD : va_D A [(a, .inr (8, [.int 0, .int 0, .int 0, .int 0, .int 0, .int 12, .int 5, .int 1, .int 0, .null, .null, .null, .null, .null, .null, .null, .null, .null]))] := hD
  refine lv_aload_n hx hb dX8_init_20 rfl (lv_at hl 0 rfl) ?_
  refine lv_bipush (v := 12) hx hb dX8_init_21 (by decide) ?_
  refine hz_newa (atype := .int) (ty := .int) (N' := 12) (a0 := (12, .inl (fun _ => (0 : Int32)))) hx hb (hT _ q_1384) rfl hK hP hD hS hA (fun _ => rfl) (by decide) (by decide) (Nat.le_of_ble_eq_true rfl) (Nat.le_of_ble_eq_true rfl) (Nat.le_of_ble_eq_true rfl) dX8_init_23 0 rfl (fun n1 H hP hD hS => ?_)
  have hP : va_P D classes [(a, .inr (8, [.int 0, .int 0, .int 0, .int 0, .int 0, .int 12, .int 5, .int 1, .int 0, .null, .null, .null, .null, .null, .null, .null, .null, .null])), (n1, .inl (cs 0, 12, .inl (fun _ => (0 : Int32))))] H := hP
  have hD : va_D A [(a, .inr (8, [.int 0, .int 0, .int 0, .int 0, .int 0, .int 12, .int 5, .int 1, .int 0, .null, .null, .null, .null, .null, .null, .null, .null, .null])), (n1, .inl (cs 0, 12, .inl (fun _ => (0 : Int32))))] := hD
  have hf2 : CI 12 0 0 (fun _ => (0 : Int32)) := ci_0
  generalize (fun _ => (0 : Int32)) = f2 at hP hD hf2
  refine W.widen (k := 1) (n := 12) (Nat.le_of_ble_eq_true rfl) (Nat.le_of_ble_eq_true rfl) ?_
  refine va_putF (D := D) (ci := 8) (v := .ref n1) (ty := .array .int) (C := RX8) (T := TX8) (N := 18) hx hb hT i_X8 tyX8 tyX8_ok nmX8 hown hK hP hD hS 0 rfl rfl 9 (by decide) (hT _ q_134) (fun _ h9 => h9) rfl hin rfl (by decide +kernel) rfl rfl (Nat.le_of_ble_eq_true rfl) dX8_init_25 (fun H locs hP hD hS => ?_)
  have hP : va_P D classes [(a, .inr (8, [.int 0, .int 0, .int 0, .int 0, .int 0, .int 12, .int 5, .int 1, .int 0, .ref n1, .null, .null, .null, .null, .null, .null, .null, .null])), (n1, .inl (cs 0, 12, .inl f2))] H := hP
  have hD : va_D A [(a, .inr (8, [.int 0, .int 0, .int 0, .int 0, .int 0, .int 12, .int 5, .int 1, .int 0, .ref n1, .null, .null, .null, .null, .null, .null, .null, .null])), (n1, .inl (cs 0, 12, .inl f2))] := hD
  refine lv_aload_n hx hb dX8_init_28 rfl (lv_at hl 0 rfl) ?_
  refine lv_bipush (v := 12) hx hb dX8_init_29 (by decide) ?_
  refine hz_newa (atype := .int) (ty := .int) (N' := 12) (a0 := (12, .inl (fun _ => (0 : Int32)))) hx hb (hT _ q_1384) rfl hK hP hD hS hA (fun _ => rfl) (by decide) (by decide) (Nat.le_of_ble_eq_true rfl) (Nat.le_of_ble_eq_true rfl) (Nat.le_of_ble_eq_true rfl) dX8_init_31 0 rfl (fun n3 H hP hD hS => ?_)
  have hP : va_P D classes [(a, .inr (8, [.int 0, .int 0, .int 0, .int 0, .int 0, .int 12, .int 5, .int 1, .int 0, .ref n1, .null, .null, .null, .null, .null, .null, .null, .null])), (n1, .inl (cs 0, 12, .inl f2)), (n3, .inl (cs 0, 12, .inl (fun _ => (0 : Int32))))] H := hP
  have hD : va_D A [(a, .inr (8, [.int 0, .int 0, .int 0, .int 0, .int 0, .int 12, .int 5, .int 1, .int 0, .ref n1, .null, .null, .null, .null, .null, .null, .null, .null])), (n1, .inl (cs 0, 12, .inl f2)), (n3, .inl (cs 0, 12, .inl (fun _ => (0 : Int32))))] := hD
  have hf4 : CI 12 0 0 (fun _ => (0 : Int32)) := ci_0
  generalize (fun _ => (0 : Int32)) = f4 at hP hD hf4
  refine W.widen (k := 2) (n := 24) (Nat.le_of_ble_eq_true rfl) (Nat.le_of_ble_eq_true rfl) ?_
  refine va_putF (D := D) (ci := 8) (v := .ref n3) (ty := .array .int) (C := RX8) (T := TX8) (N := 18) hx hb hT i_X8 tyX8 tyX8_ok nmX8 hown hK hP hD hS 0 rfl rfl 10 (by decide) (hT _ q_135) (fun _ h9 => h9) rfl hin rfl (by decide +kernel) rfl rfl (Nat.le_of_ble_eq_true rfl) dX8_init_33 (fun H locs hP hD hS => ?_)
  have hP : va_P D classes [(a, .inr (8, [.int 0, .int 0, .int 0, .int 0, .int 0, .int 12, .int 5, .int 1, .int 0, .ref n1, .ref n3, .null, .null, .null, .null, .null, .null, .null])), (n1, .inl (cs 0, 12, .inl f2)), (n3, .inl (cs 0, 12, .inl f4))] H := hP
  have hD : va_D A [(a, .inr (8, [.int 0, .int 0, .int 0, .int 0, .int 0, .int 12, .int 5, .int 1, .int 0, .ref n1, .ref n3, .null, .null, .null, .null, .null, .null, .null])), (n1, .inl (cs 0, 12, .inl f2)), (n3, .inl (cs 0, 12, .inl f4))] := hD
  refine lv_aload_n hx hb dX8_init_36 rfl (lv_at hl 0 rfl) ?_
  refine lv_bipush (v := 12) hx hb dX8_init_37 (by decide) ?_
  refine hz_newa (atype := .int) (ty := .int) (N' := 12) (a0 := (12, .inl (fun _ => (0 : Int32)))) hx hb (hT _ q_1384) rfl hK hP hD hS hA (fun _ => rfl) (by decide) (by decide) (Nat.le_of_ble_eq_true rfl) (Nat.le_of_ble_eq_true rfl) (Nat.le_of_ble_eq_true rfl) dX8_init_39 0 rfl (fun n5 H hP hD hS => ?_)
  have hP : va_P D classes [(a, .inr (8, [.int 0, .int 0, .int 0, .int 0, .int 0, .int 12, .int 5, .int 1, .int 0, .ref n1, .ref n3, .null, .null, .null, .null, .null, .null, .null])), (n1, .inl (cs 0, 12, .inl f2)), (n3, .inl (cs 0, 12, .inl f4)), (n5, .inl (cs 0, 12, .inl (fun _ => (0 : Int32))))] H := hP
  have hD : va_D A [(a, .inr (8, [.int 0, .int 0, .int 0, .int 0, .int 0, .int 12, .int 5, .int 1, .int 0, .ref n1, .ref n3, .null, .null, .null, .null, .null, .null, .null])), (n1, .inl (cs 0, 12, .inl f2)), (n3, .inl (cs 0, 12, .inl f4)), (n5, .inl (cs 0, 12, .inl (fun _ => (0 : Int32))))] := hD
  have hf6 : CI 12 0 0 (fun _ => (0 : Int32)) := ci_0
  generalize (fun _ => (0 : Int32)) = f6 at hP hD hf6
  refine W.widen (k := 3) (n := 36) (Nat.le_of_ble_eq_true rfl) (Nat.le_of_ble_eq_true rfl) ?_
  refine va_putF (D := D) (ci := 8) (v := .ref n5) (ty := .array .int) (C := RX8) (T := TX8) (N := 18) hx hb hT i_X8 tyX8 tyX8_ok nmX8 hown hK hP hD hS 0 rfl rfl 11 (by decide) (hT _ q_136) (fun _ h9 => h9) rfl hin rfl (by decide +kernel) rfl rfl (Nat.le_of_ble_eq_true rfl) dX8_init_41 (fun H locs hP hD hS => ?_)
  have hP : va_P D classes [(a, .inr (8, [.int 0, .int 0, .int 0, .int 0, .int 0, .int 12, .int 5, .int 1, .int 0, .ref n1, .ref n3, .ref n5, .null, .null, .null, .null, .null, .null])), (n1, .inl (cs 0, 12, .inl f2)), (n3, .inl (cs 0, 12, .inl f4)), (n5, .inl (cs 0, 12, .inl f6))] H := hP
  have hD : va_D A [(a, .inr (8, [.int 0, .int 0, .int 0, .int 0, .int 0, .int 12, .int 5, .int 1, .int 0, .ref n1, .ref n3, .ref n5, .null, .null, .null, .null, .null, .null])), (n1, .inl (cs 0, 12, .inl f2)), (n3, .inl (cs 0, 12, .inl f4)), (n5, .inl (cs 0, 12, .inl f6))] := hD
  refine lv_aload_n hx hb dX8_init_44 rfl (lv_at hl 0 rfl) ?_
  refine lv_bipush (v := 12) hx hb dX8_init_45 (by decide) ?_
  refine hz_newa (atype := .int) (ty := .int) (N' := 12) (a0 := (12, .inl (fun _ => (0 : Int32)))) hx hb (hT _ q_1384) rfl hK hP hD hS hA (fun _ => rfl) (by decide) (by decide) (Nat.le_of_ble_eq_true rfl) (Nat.le_of_ble_eq_true rfl) (Nat.le_of_ble_eq_true rfl) dX8_init_47 0 rfl (fun n7 H hP hD hS => ?_)
  have hP : va_P D classes [(a, .inr (8, [.int 0, .int 0, .int 0, .int 0, .int 0, .int 12, .int 5, .int 1, .int 0, .ref n1, .ref n3, .ref n5, .null, .null, .null, .null, .null, .null])), (n1, .inl (cs 0, 12, .inl f2)), (n3, .inl (cs 0, 12, .inl f4)), (n5, .inl (cs 0, 12, .inl f6)), (n7, .inl (cs 0, 12, .inl (fun _ => (0 : Int32))))] H := hP
  have hD : va_D A [(a, .inr (8, [.int 0, .int 0, .int 0, .int 0, .int 0, .int 12, .int 5, .int 1, .int 0, .ref n1, .ref n3, .ref n5, .null, .null, .null, .null, .null, .null])), (n1, .inl (cs 0, 12, .inl f2)), (n3, .inl (cs 0, 12, .inl f4)), (n5, .inl (cs 0, 12, .inl f6)), (n7, .inl (cs 0, 12, .inl (fun _ => (0 : Int32))))] := hD
  have hf8 : CI 12 0 0 (fun _ => (0 : Int32)) := ci_0
  generalize (fun _ => (0 : Int32)) = f8 at hP hD hf8
  refine W.widen (k := 4) (n := 48) (Nat.le_of_ble_eq_true rfl) (Nat.le_of_ble_eq_true rfl) ?_
  refine va_putF (D := D) (ci := 8) (v := .ref n7) (ty := .array .int) (C := RX8) (T := TX8) (N := 18) hx hb hT i_X8 tyX8 tyX8_ok nmX8 hown hK hP hD hS 0 rfl rfl 12 (by decide) (hT _ q_137) (fun _ h9 => h9) rfl hin rfl (by decide +kernel) rfl rfl (Nat.le_of_ble_eq_true rfl) dX8_init_49 (fun H locs hP hD hS => ?_)
  have hP : va_P D classes [(a, .inr (8, [.int 0, .int 0, .int 0, .int 0, .int 0, .int 12, .int 5, .int 1, .int 0, .ref n1, .ref n3, .ref n5, .ref n7, .null, .null, .null, .null, .null])), (n1, .inl (cs 0, 12, .inl f2)), (n3, .inl (cs 0, 12, .inl f4)), (n5, .inl (cs 0, 12, .inl f6)), (n7, .inl (cs 0, 12, .inl f8))] H := hP
  have hD : va_D A [(a, .inr (8, [.int 0, .int 0, .int 0, .int 0, .int 0, .int 12, .int 5, .int 1, .int 0, .ref n1, .ref n3, .ref n5, .ref n7, .null, .null, .null, .null, .null])), (n1, .inl (cs 0, 12, .inl f2)), (n3, .inl (cs 0, 12, .inl f4)), (n5, .inl (cs 0, 12, .inl f6)), (n7, .inl (cs 0, 12, .inl f8))] := hD
  refine lv_aload_n hx hb dX8_init_52 rfl (lv_at hl 0 rfl) ?_
  refine lv_iconst (v := 4) hx hb dX8_init_53 (by decide) ?_
  refine hz_newa (atype := .int) (ty := .int) (N' := 4) (a0 := (4, .inl (fun _ => (0 : Int32)))) hx hb (hT _ q_1384) rfl hK hP hD hS hA (fun _ => rfl) (by decide) (by decide) (Nat.le_of_ble_eq_true rfl) (Nat.le_of_ble_eq_true rfl) (Nat.le_of_ble_eq_true rfl) dX8_init_54 0 rfl (fun n9 H hP hD hS => ?_)
  have hP : va_P D classes [(a, .inr (8, [.int 0, .int 0, .int 0, .int 0, .int 0, .int 12, .int 5, .int 1, .int 0, .ref n1, .ref n3, .ref n5, .ref n7, .null, .null, .null, .null, .null])), (n1, .inl (cs 0, 12, .inl f2)), (n3, .inl (cs 0, 12, .inl f4)), (n5, .inl (cs 0, 12, .inl f6)), (n7, .inl (cs 0, 12, .inl f8)), (n9, .inl (cs 0, 4, .inl (fun _ => (0 : Int32))))] H := hP
  have hD : va_D A [(a, .inr (8, [.int 0, .int 0, .int 0, .int 0, .int 0, .int 12, .int 5, .int 1, .int 0, .ref n1, .ref n3, .ref n5, .ref n7, .null, .null, .null, .null, .null])), (n1, .inl (cs 0, 12, .inl f2)), (n3, .inl (cs 0, 12, .inl f4)), (n5, .inl (cs 0, 12, .inl f6)), (n7, .inl (cs 0, 12, .inl f8)), (n9, .inl (cs 0, 4, .inl (fun _ => (0 : Int32))))] := hD
  have hf10 : CI 4 0 0 (fun _ => (0 : Int32)) := ci_0
  generalize (fun _ => (0 : Int32)) = f10 at hP hD hf10
  refine W.widen (k := 5) (n := 52) (Nat.le_of_ble_eq_true rfl) (Nat.le_of_ble_eq_true rfl) ?_
  refine va_putF (D := D) (ci := 8) (v := .ref n9) (ty := .array .int) (C := RX8) (T := TX8) (N := 18) hx hb hT i_X8 tyX8 tyX8_ok nmX8 hown hK hP hD hS 0 rfl rfl 13 (by decide) (hT _ q_138) (fun _ h9 => h9) rfl hin rfl (by decide +kernel) rfl rfl (Nat.le_of_ble_eq_true rfl) dX8_init_56 (fun H locs hP hD hS => ?_)
  have hP : va_P D classes [(a, .inr (8, [.int 0, .int 0, .int 0, .int 0, .int 0, .int 12, .int 5, .int 1, .int 0, .ref n1, .ref n3, .ref n5, .ref n7, .ref n9, .null, .null, .null, .null])), (n1, .inl (cs 0, 12, .inl f2)), (n3, .inl (cs 0, 12, .inl f4)), (n5, .inl (cs 0, 12, .inl f6)), (n7, .inl (cs 0, 12, .inl f8)), (n9, .inl (cs 0, 4, .inl f10))] H := hP
  have hD : va_D A [(a, .inr (8, [.int 0, .int 0, .int 0, .int 0, .int 0, .int 12, .int 5, .int 1, .int 0, .ref n1, .ref n3, .ref n5, .ref n7, .ref n9, .null, .null, .null, .null])), (n1, .inl (cs 0, 12, .inl f2)), (n3, .inl (cs 0, 12, .inl f4)), (n5, .inl (cs 0, 12, .inl f6)), (n7, .inl (cs 0, 12, .inl f8)), (n9, .inl (cs 0, 4, .inl f10))] := hD
  refine lv_aload_n hx hb dX8_init_59 rfl (lv_at hl 0 rfl) ?_
  refine lv_iconst (v := 4) hx hb dX8_init_60 (by decide) ?_
  refine hz_newa (atype := .int) (ty := .int) (N' := 4) (a0 := (4, .inl (fun _ => (0 : Int32)))) hx hb (hT _ q_1384) rfl hK hP hD hS hA (fun _ => rfl) (by decide) (by decide) (Nat.le_of_ble_eq_true rfl) (Nat.le_of_ble_eq_true rfl) (Nat.le_of_ble_eq_true rfl) dX8_init_61 0 rfl (fun n11 H hP hD hS => ?_)
  have hP : va_P D classes [(a, .inr (8, [.int 0, .int 0, .int 0, .int 0, .int 0, .int 12, .int 5, .int 1, .int 0, .ref n1, .ref n3, .ref n5, .ref n7, .ref n9, .null, .null, .null, .null])), (n1, .inl (cs 0, 12, .inl f2)), (n3, .inl (cs 0, 12, .inl f4)), (n5, .inl (cs 0, 12, .inl f6)), (n7, .inl (cs 0, 12, .inl f8)), (n9, .inl (cs 0, 4, .inl f10)), (n11, .inl (cs 0, 4, .inl (fun _ => (0 : Int32))))] H := hP
  have hD : va_D A [(a, .inr (8, [.int 0, .int 0, .int 0, .int 0, .int 0, .int 12, .int 5, .int 1, .int 0, .ref n1, .ref n3, .ref n5, .ref n7, .ref n9, .null, .null, .null, .null])), (n1, .inl (cs 0, 12, .inl f2)), (n3, .inl (cs 0, 12, .inl f4)), (n5, .inl (cs 0, 12, .inl f6)), (n7, .inl (cs 0, 12, .inl f8)), (n9, .inl (cs 0, 4, .inl f10)), (n11, .inl (cs 0, 4, .inl (fun _ => (0 : Int32))))] := hD
  have hf12 : CI 4 0 0 (fun _ => (0 : Int32)) := ci_0
  generalize (fun _ => (0 : Int32)) = f12 at hP hD hf12
  refine W.widen (k := 6) (n := 56) (Nat.le_of_ble_eq_true rfl) (Nat.le_of_ble_eq_true rfl) ?_
  refine va_putF (D := D) (ci := 8) (v := .ref n11) (ty := .array .int) (C := RX8) (T := TX8) (N := 18) hx hb hT i_X8 tyX8 tyX8_ok nmX8 hown hK hP hD hS 0 rfl rfl 14 (by decide) (hT _ q_139) (fun _ h9 => h9) rfl hin rfl (by decide +kernel) rfl rfl (Nat.le_of_ble_eq_true rfl) dX8_init_63 (fun H locs hP hD hS => ?_)
  have hP : va_P D classes [(a, .inr (8, [.int 0, .int 0, .int 0, .int 0, .int 0, .int 12, .int 5, .int 1, .int 0, .ref n1, .ref n3, .ref n5, .ref n7, .ref n9, .ref n11, .null, .null, .null])), (n1, .inl (cs 0, 12, .inl f2)), (n3, .inl (cs 0, 12, .inl f4)), (n5, .inl (cs 0, 12, .inl f6)), (n7, .inl (cs 0, 12, .inl f8)), (n9, .inl (cs 0, 4, .inl f10)), (n11, .inl (cs 0, 4, .inl f12))] H := hP
  have hD : va_D A [(a, .inr (8, [.int 0, .int 0, .int 0, .int 0, .int 0, .int 12, .int 5, .int 1, .int 0, .ref n1, .ref n3, .ref n5, .ref n7, .ref n9, .ref n11, .null, .null, .null])), (n1, .inl (cs 0, 12, .inl f2)), (n3, .inl (cs 0, 12, .inl f4)), (n5, .inl (cs 0, 12, .inl f6)), (n7, .inl (cs 0, 12, .inl f8)), (n9, .inl (cs 0, 4, .inl f10)), (n11, .inl (cs 0, 4, .inl f12))] := hD
  refine lv_aload_n hx hb dX8_init_66 rfl (lv_at hl 0 rfl) ?_
  refine lv_iconst (v := 4) hx hb dX8_init_67 (by decide) ?_
  refine hz_newa (atype := .int) (ty := .int) (N' := 4) (a0 := (4, .inl (fun _ => (0 : Int32)))) hx hb (hT _ q_1384) rfl hK hP hD hS hA (fun _ => rfl) (by decide) (by decide) (Nat.le_of_ble_eq_true rfl) (Nat.le_of_ble_eq_true rfl) (Nat.le_of_ble_eq_true rfl) dX8_init_68 0 rfl (fun n13 H hP hD hS => ?_)
  have hP : va_P D classes [(a, .inr (8, [.int 0, .int 0, .int 0, .int 0, .int 0, .int 12, .int 5, .int 1, .int 0, .ref n1, .ref n3, .ref n5, .ref n7, .ref n9, .ref n11, .null, .null, .null])), (n1, .inl (cs 0, 12, .inl f2)), (n3, .inl (cs 0, 12, .inl f4)), (n5, .inl (cs 0, 12, .inl f6)), (n7, .inl (cs 0, 12, .inl f8)), (n9, .inl (cs 0, 4, .inl f10)), (n11, .inl (cs 0, 4, .inl f12)), (n13, .inl (cs 0, 4, .inl (fun _ => (0 : Int32))))] H := hP
  have hD : va_D A [(a, .inr (8, [.int 0, .int 0, .int 0, .int 0, .int 0, .int 12, .int 5, .int 1, .int 0, .ref n1, .ref n3, .ref n5, .ref n7, .ref n9, .ref n11, .null, .null, .null])), (n1, .inl (cs 0, 12, .inl f2)), (n3, .inl (cs 0, 12, .inl f4)), (n5, .inl (cs 0, 12, .inl f6)), (n7, .inl (cs 0, 12, .inl f8)), (n9, .inl (cs 0, 4, .inl f10)), (n11, .inl (cs 0, 4, .inl f12)), (n13, .inl (cs 0, 4, .inl (fun _ => (0 : Int32))))] := hD
  have hf14 : CI 4 0 0 (fun _ => (0 : Int32)) := ci_0
  generalize (fun _ => (0 : Int32)) = f14 at hP hD hf14
  refine W.widen (k := 7) (n := 60) (Nat.le_of_ble_eq_true rfl) (Nat.le_of_ble_eq_true rfl) ?_
  refine va_putF (D := D) (ci := 8) (v := .ref n13) (ty := .array .int) (C := RX8) (T := TX8) (N := 18) hx hb hT i_X8 tyX8 tyX8_ok nmX8 hown hK hP hD hS 0 rfl rfl 15 (by decide) (hT _ q_140) (fun _ h9 => h9) rfl hin rfl (by decide +kernel) rfl rfl (Nat.le_of_ble_eq_true rfl) dX8_init_70 (fun H locs hP hD hS => ?_)
  have hP : va_P D classes [(a, .inr (8, [.int 0, .int 0, .int 0, .int 0, .int 0, .int 12, .int 5, .int 1, .int 0, .ref n1, .ref n3, .ref n5, .ref n7, .ref n9, .ref n11, .ref n13, .null, .null])), (n1, .inl (cs 0, 12, .inl f2)), (n3, .inl (cs 0, 12, .inl f4)), (n5, .inl (cs 0, 12, .inl f6)), (n7, .inl (cs 0, 12, .inl f8)), (n9, .inl (cs 0, 4, .inl f10)), (n11, .inl (cs 0, 4, .inl f12)), (n13, .inl (cs 0, 4, .inl f14))] H := hP
  have hD : va_D A [(a, .inr (8, [.int 0, .int 0, .int 0, .int 0, .int 0, .int 12, .int 5, .int 1, .int 0, .ref n1, .ref n3, .ref n5, .ref n7, .ref n9, .ref n11, .ref n13, .null, .null])), (n1, .inl (cs 0, 12, .inl f2)), (n3, .inl (cs 0, 12, .inl f4)), (n5, .inl (cs 0, 12, .inl f6)), (n7, .inl (cs 0, 12, .inl f8)), (n9, .inl (cs 0, 4, .inl f10)), (n11, .inl (cs 0, 4, .inl f12)), (n13, .inl (cs 0, 4, .inl f14))] := hD
  refine lv_aload_n hx hb dX8_init_73 rfl (lv_at hl 0 rfl) ?_
  refine lv_bipush (v := 12) hx hb dX8_init_74 (by decide) ?_
  refine hz_newa (atype := .int) (ty := .int) (N' := 12) (a0 := (12, .inl (fun _ => (0 : Int32)))) hx hb (hT _ q_1384) rfl hK hP hD hS hA (fun _ => rfl) (by decide) (by decide) (Nat.le_of_ble_eq_true rfl) (Nat.le_of_ble_eq_true rfl) (Nat.le_of_ble_eq_true rfl) dX8_init_76 0 rfl (fun n15 H hP hD hS => ?_)
  have hP : va_P D classes [(a, .inr (8, [.int 0, .int 0, .int 0, .int 0, .int 0, .int 12, .int 5, .int 1, .int 0, .ref n1, .ref n3, .ref n5, .ref n7, .ref n9, .ref n11, .ref n13, .null, .null])), (n1, .inl (cs 0, 12, .inl f2)), (n3, .inl (cs 0, 12, .inl f4)), (n5, .inl (cs 0, 12, .inl f6)), (n7, .inl (cs 0, 12, .inl f8)), (n9, .inl (cs 0, 4, .inl f10)), (n11, .inl (cs 0, 4, .inl f12)), (n13, .inl (cs 0, 4, .inl f14)), (n15, .inl (cs 0, 12, .inl (fun _ => (0 : Int32))))] H := hP
  have hD : va_D A [(a, .inr (8, [.int 0, .int 0, .int 0, .int 0, .int 0, .int 12, .int 5, .int 1, .int 0, .ref n1, .ref n3, .ref n5, .ref n7, .ref n9, .ref n11, .ref n13, .null, .null])), (n1, .inl (cs 0, 12, .inl f2)), (n3, .inl (cs 0, 12, .inl f4)), (n5, .inl (cs 0, 12, .inl f6)), (n7, .inl (cs 0, 12, .inl f8)), (n9, .inl (cs 0, 4, .inl f10)), (n11, .inl (cs 0, 4, .inl f12)), (n13, .inl (cs 0, 4, .inl f14)), (n15, .inl (cs 0, 12, .inl (fun _ => (0 : Int32))))] := hD
  have hf16 : CI 12 0 0 (fun _ => (0 : Int32)) := ci_0
  generalize (fun _ => (0 : Int32)) = f16 at hP hD hf16
  refine W.widen (k := 8) (n := 72) (Nat.le_of_ble_eq_true rfl) (Nat.le_of_ble_eq_true rfl) ?_
  refine va_putF (D := D) (ci := 8) (v := .ref n15) (ty := .array .int) (C := RX8) (T := TX8) (N := 18) hx hb hT i_X8 tyX8 tyX8_ok nmX8 hown hK hP hD hS 0 rfl rfl 16 (by decide) (hT _ q_141) (fun _ h9 => h9) rfl hin rfl (by decide +kernel) rfl rfl (Nat.le_of_ble_eq_true rfl) dX8_init_78 (fun H locs hP hD hS => ?_)
  have hP : va_P D classes [(a, .inr (8, [.int 0, .int 0, .int 0, .int 0, .int 0, .int 12, .int 5, .int 1, .int 0, .ref n1, .ref n3, .ref n5, .ref n7, .ref n9, .ref n11, .ref n13, .ref n15, .null])), (n1, .inl (cs 0, 12, .inl f2)), (n3, .inl (cs 0, 12, .inl f4)), (n5, .inl (cs 0, 12, .inl f6)), (n7, .inl (cs 0, 12, .inl f8)), (n9, .inl (cs 0, 4, .inl f10)), (n11, .inl (cs 0, 4, .inl f12)), (n13, .inl (cs 0, 4, .inl f14)), (n15, .inl (cs 0, 12, .inl f16))] H := hP
  have hD : va_D A [(a, .inr (8, [.int 0, .int 0, .int 0, .int 0, .int 0, .int 12, .int 5, .int 1, .int 0, .ref n1, .ref n3, .ref n5, .ref n7, .ref n9, .ref n11, .ref n13, .ref n15, .null])), (n1, .inl (cs 0, 12, .inl f2)), (n3, .inl (cs 0, 12, .inl f4)), (n5, .inl (cs 0, 12, .inl f6)), (n7, .inl (cs 0, 12, .inl f8)), (n9, .inl (cs 0, 4, .inl f10)), (n11, .inl (cs 0, 4, .inl f12)), (n13, .inl (cs 0, 4, .inl f14)), (n15, .inl (cs 0, 12, .inl f16))] := hD
  refine lv_aload_n hx hb dX8_init_81 rfl (lv_at hl 0 rfl) ?_
  refine lv_bipush (v := 12) hx hb dX8_init_82 (by decide) ?_
  refine hz_newa (atype := .int) (ty := .int) (N' := 12) (a0 := (12, .inl (fun _ => (0 : Int32)))) hx hb (hT _ q_1384) rfl hK hP hD hS hA (fun _ => rfl) (by decide) (by decide) (Nat.le_of_ble_eq_true rfl) (Nat.le_of_ble_eq_true rfl) (Nat.le_of_ble_eq_true rfl) dX8_init_84 0 rfl (fun n17 H hP hD hS => ?_)
  have hP : va_P D classes [(a, .inr (8, [.int 0, .int 0, .int 0, .int 0, .int 0, .int 12, .int 5, .int 1, .int 0, .ref n1, .ref n3, .ref n5, .ref n7, .ref n9, .ref n11, .ref n13, .ref n15, .null])), (n1, .inl (cs 0, 12, .inl f2)), (n3, .inl (cs 0, 12, .inl f4)), (n5, .inl (cs 0, 12, .inl f6)), (n7, .inl (cs 0, 12, .inl f8)), (n9, .inl (cs 0, 4, .inl f10)), (n11, .inl (cs 0, 4, .inl f12)), (n13, .inl (cs 0, 4, .inl f14)), (n15, .inl (cs 0, 12, .inl f16)), (n17, .inl (cs 0, 12, .inl (fun _ => (0 : Int32))))] H := hP
  have hD : va_D A [(a, .inr (8, [.int 0, .int 0, .int 0, .int 0, .int 0, .int 12, .int 5, .int 1, .int 0, .ref n1, .ref n3, .ref n5, .ref n7, .ref n9, .ref n11, .ref n13, .ref n15, .null])), (n1, .inl (cs 0, 12, .inl f2)), (n3, .inl (cs 0, 12, .inl f4)), (n5, .inl (cs 0, 12, .inl f6)), (n7, .inl (cs 0, 12, .inl f8)), (n9, .inl (cs 0, 4, .inl f10)), (n11, .inl (cs 0, 4, .inl f12)), (n13, .inl (cs 0, 4, .inl f14)), (n15, .inl (cs 0, 12, .inl f16)), (n17, .inl (cs 0, 12, .inl (fun _ => (0 : Int32))))] := hD
  have hf18 : CI 12 0 0 (fun _ => (0 : Int32)) := ci_0
  generalize (fun _ => (0 : Int32)) = f18 at hP hD hf18
  refine W.widen (k := 9) (n := 84) (Nat.le_of_ble_eq_true rfl) (Nat.le_of_ble_eq_true rfl) ?_
  refine va_putF (D := D) (ci := 8) (v := .ref n17) (ty := .array .int) (C := RX8) (T := TX8) (N := 18) hx hb hT i_X8 tyX8 tyX8_ok nmX8 hown hK hP hD hS 0 rfl rfl 17 (by decide) (hT _ q_142) (fun _ h9 => h9) rfl hin rfl (by decide +kernel) rfl rfl (Nat.le_of_ble_eq_true rfl) dX8_init_86 (fun H locs hP hD hS => ?_)
  have hP : va_P D classes [(a, .inr (8, [.int 0, .int 0, .int 0, .int 0, .int 0, .int 12, .int 5, .int 1, .int 0, .ref n1, .ref n3, .ref n5, .ref n7, .ref n9, .ref n11, .ref n13, .ref n15, .ref n17])), (n1, .inl (cs 0, 12, .inl f2)), (n3, .inl (cs 0, 12, .inl f4)), (n5, .inl (cs 0, 12, .inl f6)), (n7, .inl (cs 0, 12, .inl f8)), (n9, .inl (cs 0, 4, .inl f10)), (n11, .inl (cs 0, 4, .inl f12)), (n13, .inl (cs 0, 4, .inl f14)), (n15, .inl (cs 0, 12, .inl f16)), (n17, .inl (cs 0, 12, .inl f18))] H := hP
  have hD : va_D A [(a, .inr (8, [.int 0, .int 0, .int 0, .int 0, .int 0, .int 12, .int 5, .int 1, .int 0, .ref n1, .ref n3, .ref n5, .ref n7, .ref n9, .ref n11, .ref n13, .ref n15, .ref n17])), (n1, .inl (cs 0, 12, .inl f2)), (n3, .inl (cs 0, 12, .inl f4)), (n5, .inl (cs 0, 12, .inl f6)), (n7, .inl (cs 0, 12, .inl f8)), (n9, .inl (cs 0, 4, .inl f10)), (n11, .inl (cs 0, 4, .inl f12)), (n13, .inl (cs 0, 4, .inl f14)), (n15, .inl (cs 0, 12, .inl f16)), (n17, .inl (cs 0, 12, .inl f18))] := hD
  refine W.widen (k := 9) (n := 84) (Nat.le_of_ble_eq_true rfl) (Nat.le_of_ble_eq_true rfl) ?_
  exact W.vret hx hb hr (fun t ht hW => ⟨⟨(), rfl, trivial, n1, f2, n3, f4, n5, f6, n7, f8, n9, f10, n11, f12, n13, f14, n15, f16, n17, f18, hf2, hf4, hf6, hf8, hf10, hf12, hf14, hf16, hf18, by rw [ht]; exact hP.sub [0, 1, 2, 3, 4, 5, 6, 7, 8, 9] rfl, hD.sub [0, 1, 2, 3, 4, 5, 6, 7, 8, 9] (by decide) rfl⟩, hS.F ht⟩) hS.2.2 dX8_init_89
theorem dX4_init_0 : decode cX4_init 0 = .ok (.aload_n 0, 1) := by decide +kernel
theorem dX4_init_1 : decode cX4_init 1 = .ok (.invokespecial 1, 3) := by decide +kernel
theorem dX4_init_4 : decode cX4_init 4 = .ok (.aload_n 0, 1) := by decide +kernel
theorem dX4_init_5 : decode cX4_init 5 = .ok (.bipush 12, 2) := by decide +kernel
theorem dX4_init_7 : decode cX4_init 7 = .ok (.newarray .int, 2) := by decide +kernel
theorem dX4_init_9 : decode cX4_init 9 = .ok (.putfield 9, 3) := by decide +kernel
theorem dX4_init_12 : decode cX4_init 12 = .ok (.aload_n 0, 1) := by decide +kernel
theorem dX4_init_13 : decode cX4_init 13 = .ok (.bipush 12, 2) := by decide +kernel
theorem dX4_init_15 : decode cX4_init 15 = .ok (.newarray .int, 2) := by decide +kernel
theorem dX4_init_17 : decode cX4_init 17 = .ok (.putfield 13, 3) := by decide +kernel
theorem dX4_init_20 : decode cX4_init 20 = .ok (.aload_n 0, 1) := by decide +kernel
theorem dX4_init_21 : decode cX4_init 21 = .ok (.bipush 12, 2) := by decide +kernel
theorem dX4_init_23 : decode cX4_init 23 = .ok (.newarray .int, 2) := by decide +kernel
theorem dX4_init_25 : decode cX4_init 25 = .ok (.putfield 16, 3) := by decide +kernel
theorem dX4_init_28 : decode cX4_init 28 = .ok (.aload_n 0, 1) := by decide +kernel
theorem dX4_init_29 : decode cX4_init 29 = .ok (.bipush 12, 2) := by decide +kernel
theorem dX4_init_31 : decode cX4_init 31 = .ok (.newarray .int, 2) := by decide +kernel
theorem dX4_init_33 : decode cX4_init 33 = .ok (.putfield 19, 3) := by decide +kernel
theorem dX4_init_36 : decode cX4_init 36 = .ok (.aload_n 0, 1) := by decide +kernel
theorem dX4_init_37 : decode cX4_init 37 = .ok (.iconst 0, 1) := by decide +kernel
theorem dX4_init_38 : decode cX4_init 38 = .ok (.newarray .int, 2) := by decide +kernel
theorem dX4_init_40 : decode cX4_init 40 = .ok (.putfield 22, 3) := by decide +kernel
theorem dX4_init_43 : decode cX4_init 43 = .ok (.return_, 1) := by decide +kernel
set_option maxHeartbeats 4000000 in
set_option maxRecDepth 100000 in
theorem c_X4_init (l : Launch) (D : va_G) (cs : Nat → ClassId) (kK kV : Nat → Nat) (a : Nat)  (sz : Nat) : Met l yX4_init (hz_w yX4_init cX4_init 1 none) ({ frames := 1, cells := 5, slots := 48, locals := 12 }) (va_Pc [.ref a] (hz_C D cs kK kV sz [(a, .inr (4, [.int 0, .null, .null, .null, .null, .null]))])) (va_Qv (fun (_ : Unit) => True) (fun _ t => ∃ (m0 : Nat), ∃ (m0_c : Nat → Int32), ∃ (m1 : Nat), ∃ (m1_c : Nat → Int32), ∃ (m2 : Nat), ∃ (m2_c : Nat → Int32), ∃ (m3 : Nat), ∃ (m3_c : Nat → Int32), ∃ (m4 : Nat), ∃ (m4_c : Nat → Int32), CI 12 0 0 m0_c ∧ CI 12 0 0 m1_c ∧ CI 12 0 0 m2_c ∧ CI 12 0 0 m3_c ∧ CI 0 0 0 m4_c ∧ va_P D classes [(a, .inr (4, [.int 0, .ref m0, .ref m1, .ref m2, .ref m3, .ref m4])), (m0, .inl (cs 0, 12, .inl m0_c)), (m1, .inl (cs 0, 12, .inl m1_c)), (m2, .inl (cs 0, 12, .inl m2_c)), (m3, .inl (cs 0, 12, .inl m3_c)), (m4, .inl (cs 0, 0, .inl m4_c))] t.heap ∧ va_D (va_A [(a, .inr (4, [.int 0, .null, .null, .null, .null, .null]))] sz) [(a, .inr (4, [.int 0, .ref m0, .ref m1, .ref m2, .ref m3, .ref m4])), (m0, .inl (cs 0, 12, .inl m0_c)), (m1, .inl (cs 0, 12, .inl m1_c)), (m2, .inl (cs 0, 12, .inl m2_c)), (m3, .inl (cs 0, 12, .inl m3_c)), (m4, .inl (cs 0, 0, .inl m4_c))]) (va_A [(a, .inr (4, [.int 0, .null, .null, .null, .null, .null]))] sz)) 5 48 (va_A [(a, .inr (4, [.int 0, .null, .null, .null, .null, .null]))] sz) := by
  refine Met.ofW (cc := cX4_init) (maxL := 1) (ret := none) (by decide) rfl ?_
  intro p e s m args below meth c s₁ B hml hv
  obtain ⟨rfl, hsz, hP, hD0, hE⟩ := hv
  have hx := B.exec
  have hb := B.bytes
  have hr := B.returns
  have hT : ∀ w ∈ TB, w.before _ s = true := fun w h => atoms_spec (ws := hz_w yX4_init cX4_init 1 none) B.pre w (List.mem_cons_of_mem _ h)
  have hown : s.vm.findClass RX4 = some m.cls := findClass_of_methodNamed B.named
  have hlocks := B.notSynchronized
  have hin : meth.name = "<init>" := (name_of_methodNamed B.named B.method).1
  clear B
  subst hsz
  have hD := hD0.self (sz := s.heap.size)
  generalize hAe : va_A [(a, .inr (4, [.int 0, .null, .null, .null, .null, .null]))] s.heap.size = A at hD hE ⊢
  have hA : ∀ q : Nat, s.heap.size ≤ q → A q := fun q h => by rw [← hAe]; exact Or.inr h
  clear hAe hD0
  have hS : va_S A s.heap s.heap [] := va_S.rf
  have hK := hE.1
  have hl := lv_entry ([.ref a]) (n := 1) (Nat.le_of_ble_eq_true rfl)
  rw [lg_entry_eq]
  generalize (lg_sl ([.ref a]) ++ List.replicate (1 - (lg_sl ([.ref a])).length) Slot.unset).toArray = ls at hl ⊢
  have hl : lv_has ls 1 [(0, .ref a)] := hl
  obtain ⟨H, eH⟩ : ∃ z, z = s.heap := ⟨_, rfl⟩
  have hP : va_P D classes [(a, .inr (4, [.int 0, .null, .null, .null, .null, .null]))] H := by rw [eH]; exact hP
  have hS : va_S A s.heap H [] := by rw [eH]; exact hS
  rw [← eH]
  clear eH
  obtain ⟨locs, el⟩ : ∃ z : List Loc, z = [] := ⟨_, rfl⟩
  rw [← el] at hS ⊢
  clear el
  refine lv_aload_n hx hb dX4_init_0 rfl (lv_at hl 0 rfl) ?_
  refine W.objInit hx hb hown (hT _ q_550) (hT _ q_218) (hT _ q_1353) rfl (by rw [hml]; exact hl.1) rfl dX4_init_1 (Nat.le_of_ble_eq_true rfl) (Nat.le_of_ble_eq_true rfl) ?_
  refine W.eq (g2 := F0 m 4 ls []) rfl ?_
  refine lv_aload_n hx hb dX4_init_4 rfl (lv_at hl 0 rfl) ?_
  refine lv_bipush (v := 12) hx hb dX4_init_5 (by decide) ?_
  refine hz_newa (atype := .int) (ty := .int) (N' := 12) (a0 := (12, .inl (fun _ => (0 : Int32)))) hx hb (hT _ q_1384) rfl hK hP hD hS hA (fun _ => rfl) (by decide) (by decide) (Nat.le_of_ble_eq_true rfl) (Nat.le_of_ble_eq_true rfl) (Nat.le_of_ble_eq_true rfl) dX4_init_7 0 rfl (fun n1 H hP hD hS => ?_)
  have hP : va_P D classes [(a, .inr (4, [.int 0, .null, .null, .null, .null, .null])), (n1, .inl (cs 0, 12, .inl (fun _ => (0 : Int32))))] H := hP
  have hD : va_D A [(a, .inr (4, [.int 0, .null, .null, .null, .null, .null])), (n1, .inl (cs 0, 12, .inl (fun _ => (0 : Int32))))] := hD
  have hf2 : CI 12 0 0 (fun _ => (0 : Int32)) := ci_0
  generalize (fun _ => (0 : Int32)) = f2 at hP hD hf2
  refine W.widen (k := 1) (n := 12) (Nat.le_of_ble_eq_true rfl) (Nat.le_of_ble_eq_true rfl) ?_
  refine va_putF (D := D) (ci := 4) (v := .ref n1) (ty := .array .int) (C := RX4) (T := TX4) (N := 6) hx hb hT i_X4 tyX4 tyX4_ok nmX4 hown hK hP hD hS 0 rfl rfl 1 (by decide) (hT _ q_98) (fun _ h9 => h9) rfl hin rfl (by decide +kernel) rfl rfl (Nat.le_of_ble_eq_true rfl) dX4_init_9 (fun H locs hP hD hS => ?_)
  have hP : va_P D classes [(a, .inr (4, [.int 0, .ref n1, .null, .null, .null, .null])), (n1, .inl (cs 0, 12, .inl f2))] H := hP
  have hD : va_D A [(a, .inr (4, [.int 0, .ref n1, .null, .null, .null, .null])), (n1, .inl (cs 0, 12, .inl f2))] := hD
  refine lv_aload_n hx hb dX4_init_12 rfl (lv_at hl 0 rfl) ?_
  refine lv_bipush (v := 12) hx hb dX4_init_13 (by decide) ?_
  refine hz_newa (atype := .int) (ty := .int) (N' := 12) (a0 := (12, .inl (fun _ => (0 : Int32)))) hx hb (hT _ q_1384) rfl hK hP hD hS hA (fun _ => rfl) (by decide) (by decide) (Nat.le_of_ble_eq_true rfl) (Nat.le_of_ble_eq_true rfl) (Nat.le_of_ble_eq_true rfl) dX4_init_15 0 rfl (fun n3 H hP hD hS => ?_)
  have hP : va_P D classes [(a, .inr (4, [.int 0, .ref n1, .null, .null, .null, .null])), (n1, .inl (cs 0, 12, .inl f2)), (n3, .inl (cs 0, 12, .inl (fun _ => (0 : Int32))))] H := hP
  have hD : va_D A [(a, .inr (4, [.int 0, .ref n1, .null, .null, .null, .null])), (n1, .inl (cs 0, 12, .inl f2)), (n3, .inl (cs 0, 12, .inl (fun _ => (0 : Int32))))] := hD
  have hf4 : CI 12 0 0 (fun _ => (0 : Int32)) := ci_0
  generalize (fun _ => (0 : Int32)) = f4 at hP hD hf4
  refine W.widen (k := 2) (n := 24) (Nat.le_of_ble_eq_true rfl) (Nat.le_of_ble_eq_true rfl) ?_
  refine va_putF (D := D) (ci := 4) (v := .ref n3) (ty := .array .int) (C := RX4) (T := TX4) (N := 6) hx hb hT i_X4 tyX4 tyX4_ok nmX4 hown hK hP hD hS 0 rfl rfl 2 (by decide) (hT _ q_99) (fun _ h9 => h9) rfl hin rfl (by decide +kernel) rfl rfl (Nat.le_of_ble_eq_true rfl) dX4_init_17 (fun H locs hP hD hS => ?_)
  have hP : va_P D classes [(a, .inr (4, [.int 0, .ref n1, .ref n3, .null, .null, .null])), (n1, .inl (cs 0, 12, .inl f2)), (n3, .inl (cs 0, 12, .inl f4))] H := hP
  have hD : va_D A [(a, .inr (4, [.int 0, .ref n1, .ref n3, .null, .null, .null])), (n1, .inl (cs 0, 12, .inl f2)), (n3, .inl (cs 0, 12, .inl f4))] := hD
  refine lv_aload_n hx hb dX4_init_20 rfl (lv_at hl 0 rfl) ?_
  refine lv_bipush (v := 12) hx hb dX4_init_21 (by decide) ?_
  refine hz_newa (atype := .int) (ty := .int) (N' := 12) (a0 := (12, .inl (fun _ => (0 : Int32)))) hx hb (hT _ q_1384) rfl hK hP hD hS hA (fun _ => rfl) (by decide) (by decide) (Nat.le_of_ble_eq_true rfl) (Nat.le_of_ble_eq_true rfl) (Nat.le_of_ble_eq_true rfl) dX4_init_23 0 rfl (fun n5 H hP hD hS => ?_)
  have hP : va_P D classes [(a, .inr (4, [.int 0, .ref n1, .ref n3, .null, .null, .null])), (n1, .inl (cs 0, 12, .inl f2)), (n3, .inl (cs 0, 12, .inl f4)), (n5, .inl (cs 0, 12, .inl (fun _ => (0 : Int32))))] H := hP
  have hD : va_D A [(a, .inr (4, [.int 0, .ref n1, .ref n3, .null, .null, .null])), (n1, .inl (cs 0, 12, .inl f2)), (n3, .inl (cs 0, 12, .inl f4)), (n5, .inl (cs 0, 12, .inl (fun _ => (0 : Int32))))] := hD
  have hf6 : CI 12 0 0 (fun _ => (0 : Int32)) := ci_0
  generalize (fun _ => (0 : Int32)) = f6 at hP hD hf6
  refine W.widen (k := 3) (n := 36) (Nat.le_of_ble_eq_true rfl) (Nat.le_of_ble_eq_true rfl) ?_
  refine va_putF (D := D) (ci := 4) (v := .ref n5) (ty := .array .int) (C := RX4) (T := TX4) (N := 6) hx hb hT i_X4 tyX4 tyX4_ok nmX4 hown hK hP hD hS 0 rfl rfl 3 (by decide) (hT _ q_100) (fun _ h9 => h9) rfl hin rfl (by decide +kernel) rfl rfl (Nat.le_of_ble_eq_true rfl) dX4_init_25 (fun H locs hP hD hS => ?_)
  have hP : va_P D classes [(a, .inr (4, [.int 0, .ref n1, .ref n3, .ref n5, .null, .null])), (n1, .inl (cs 0, 12, .inl f2)), (n3, .inl (cs 0, 12, .inl f4)), (n5, .inl (cs 0, 12, .inl f6))] H := hP
  have hD : va_D A [(a, .inr (4, [.int 0, .ref n1, .ref n3, .ref n5, .null, .null])), (n1, .inl (cs 0, 12, .inl f2)), (n3, .inl (cs 0, 12, .inl f4)), (n5, .inl (cs 0, 12, .inl f6))] := hD
  refine lv_aload_n hx hb dX4_init_28 rfl (lv_at hl 0 rfl) ?_
  refine lv_bipush (v := 12) hx hb dX4_init_29 (by decide) ?_
  refine hz_newa (atype := .int) (ty := .int) (N' := 12) (a0 := (12, .inl (fun _ => (0 : Int32)))) hx hb (hT _ q_1384) rfl hK hP hD hS hA (fun _ => rfl) (by decide) (by decide) (Nat.le_of_ble_eq_true rfl) (Nat.le_of_ble_eq_true rfl) (Nat.le_of_ble_eq_true rfl) dX4_init_31 0 rfl (fun n7 H hP hD hS => ?_)
  have hP : va_P D classes [(a, .inr (4, [.int 0, .ref n1, .ref n3, .ref n5, .null, .null])), (n1, .inl (cs 0, 12, .inl f2)), (n3, .inl (cs 0, 12, .inl f4)), (n5, .inl (cs 0, 12, .inl f6)), (n7, .inl (cs 0, 12, .inl (fun _ => (0 : Int32))))] H := hP
  have hD : va_D A [(a, .inr (4, [.int 0, .ref n1, .ref n3, .ref n5, .null, .null])), (n1, .inl (cs 0, 12, .inl f2)), (n3, .inl (cs 0, 12, .inl f4)), (n5, .inl (cs 0, 12, .inl f6)), (n7, .inl (cs 0, 12, .inl (fun _ => (0 : Int32))))] := hD
  have hf8 : CI 12 0 0 (fun _ => (0 : Int32)) := ci_0
  generalize (fun _ => (0 : Int32)) = f8 at hP hD hf8
  refine W.widen (k := 4) (n := 48) (Nat.le_of_ble_eq_true rfl) (Nat.le_of_ble_eq_true rfl) ?_
  refine va_putF (D := D) (ci := 4) (v := .ref n7) (ty := .array .int) (C := RX4) (T := TX4) (N := 6) hx hb hT i_X4 tyX4 tyX4_ok nmX4 hown hK hP hD hS 0 rfl rfl 4 (by decide) (hT _ q_101) (fun _ h9 => h9) rfl hin rfl (by decide +kernel) rfl rfl (Nat.le_of_ble_eq_true rfl) dX4_init_33 (fun H locs hP hD hS => ?_)
  have hP : va_P D classes [(a, .inr (4, [.int 0, .ref n1, .ref n3, .ref n5, .ref n7, .null])), (n1, .inl (cs 0, 12, .inl f2)), (n3, .inl (cs 0, 12, .inl f4)), (n5, .inl (cs 0, 12, .inl f6)), (n7, .inl (cs 0, 12, .inl f8))] H := hP
  have hD : va_D A [(a, .inr (4, [.int 0, .ref n1, .ref n3, .ref n5, .ref n7, .null])), (n1, .inl (cs 0, 12, .inl f2)), (n3, .inl (cs 0, 12, .inl f4)), (n5, .inl (cs 0, 12, .inl f6)), (n7, .inl (cs 0, 12, .inl f8))] := hD
  refine lv_aload_n hx hb dX4_init_36 rfl (lv_at hl 0 rfl) ?_
  refine lv_iconst (v := 0) hx hb dX4_init_37 (by decide) ?_
  refine hz_newa (atype := .int) (ty := .int) (N' := 0) (a0 := (0, .inl (fun _ => (0 : Int32)))) hx hb (hT _ q_1384) rfl hK hP hD hS hA (fun _ => rfl) (by decide) (by decide) (Nat.le_of_ble_eq_true rfl) (Nat.le_of_ble_eq_true rfl) (Nat.le_of_ble_eq_true rfl) dX4_init_38 0 rfl (fun n9 H hP hD hS => ?_)
  have hP : va_P D classes [(a, .inr (4, [.int 0, .ref n1, .ref n3, .ref n5, .ref n7, .null])), (n1, .inl (cs 0, 12, .inl f2)), (n3, .inl (cs 0, 12, .inl f4)), (n5, .inl (cs 0, 12, .inl f6)), (n7, .inl (cs 0, 12, .inl f8)), (n9, .inl (cs 0, 0, .inl (fun _ => (0 : Int32))))] H := hP
  have hD : va_D A [(a, .inr (4, [.int 0, .ref n1, .ref n3, .ref n5, .ref n7, .null])), (n1, .inl (cs 0, 12, .inl f2)), (n3, .inl (cs 0, 12, .inl f4)), (n5, .inl (cs 0, 12, .inl f6)), (n7, .inl (cs 0, 12, .inl f8)), (n9, .inl (cs 0, 0, .inl (fun _ => (0 : Int32))))] := hD
  have hf10 : CI 0 0 0 (fun _ => (0 : Int32)) := ci_0
  generalize (fun _ => (0 : Int32)) = f10 at hP hD hf10
  refine W.widen (k := 5) (n := 48) (Nat.le_of_ble_eq_true rfl) (Nat.le_of_ble_eq_true rfl) ?_
  refine va_put (D := D) (ci := 4) (v := .ref n9) (ty := .array .int) (C := RX4) (T := TX4) (N := 6) hx hb hT i_X4 tyX4 tyX4_ok nmX4 hown hK hP hD hS 0 rfl rfl 5 (by decide) (hT _ q_102) (fun _ h9 => h9) rfl (by decide +kernel) rfl rfl (Nat.le_of_ble_eq_true rfl) dX4_init_40 (fun H locs hP hD hS => ?_)
  have hP : va_P D classes [(a, .inr (4, [.int 0, .ref n1, .ref n3, .ref n5, .ref n7, .ref n9])), (n1, .inl (cs 0, 12, .inl f2)), (n3, .inl (cs 0, 12, .inl f4)), (n5, .inl (cs 0, 12, .inl f6)), (n7, .inl (cs 0, 12, .inl f8)), (n9, .inl (cs 0, 0, .inl f10))] H := hP
  have hD : va_D A [(a, .inr (4, [.int 0, .ref n1, .ref n3, .ref n5, .ref n7, .ref n9])), (n1, .inl (cs 0, 12, .inl f2)), (n3, .inl (cs 0, 12, .inl f4)), (n5, .inl (cs 0, 12, .inl f6)), (n7, .inl (cs 0, 12, .inl f8)), (n9, .inl (cs 0, 0, .inl f10))] := hD
  refine W.widen (k := 5) (n := 48) (Nat.le_of_ble_eq_true rfl) (Nat.le_of_ble_eq_true rfl) ?_
  exact W.vret hx hb hr (fun t ht hW => ⟨⟨(), rfl, trivial, n1, f2, n3, f4, n5, f6, n7, f8, n9, f10, hf2, hf4, hf6, hf8, hf10, by rw [ht]; exact hP.sub [0, 1, 2, 3, 4, 5] rfl, hD.sub [0, 1, 2, 3, 4, 5] (by decide) rfl⟩, hS.F ht⟩) hS.2.2 dX4_init_43
theorem dX6_init_0 : decode cX6_init 0 = .ok (.aload_n 0, 1) := by decide +kernel
theorem dX6_init_1 : decode cX6_init 1 = .ok (.invokespecial 3, 3) := by decide +kernel
theorem dX6_init_4 : decode cX6_init 4 = .ok (.aload_n 0, 1) := by decide +kernel
theorem dX6_init_5 : decode cX6_init 5 = .ok (.iconst 4, 1) := by decide +kernel
theorem dX6_init_6 : decode cX6_init 6 = .ok (.newarray .int, 2) := by decide +kernel
theorem dX6_init_8 : decode cX6_init 8 = .ok (.putfield 9, 3) := by decide +kernel
theorem dX6_init_11 : decode cX6_init 11 = .ok (.aload_n 0, 1) := by decide +kernel
theorem dX6_init_12 : decode cX6_init 12 = .ok (.iconst 4, 1) := by decide +kernel
theorem dX6_init_13 : decode cX6_init 13 = .ok (.newarray .int, 2) := by decide +kernel
theorem dX6_init_15 : decode cX6_init 15 = .ok (.putfield 15, 3) := by decide +kernel
theorem dX6_init_18 : decode cX6_init 18 = .ok (.aload_n 0, 1) := by decide +kernel
theorem dX6_init_19 : decode cX6_init 19 = .ok (.iconst 4, 1) := by decide +kernel
theorem dX6_init_20 : decode cX6_init 20 = .ok (.newarray .int, 2) := by decide +kernel
theorem dX6_init_22 : decode cX6_init 22 = .ok (.putfield 18, 3) := by decide +kernel
theorem dX6_init_25 : decode cX6_init 25 = .ok (.aload_n 0, 1) := by decide +kernel
theorem dX6_init_26 : decode cX6_init 26 = .ok (.iconst 4, 1) := by decide +kernel
theorem dX6_init_27 : decode cX6_init 27 = .ok (.newarray .int, 2) := by decide +kernel
theorem dX6_init_29 : decode cX6_init 29 = .ok (.putfield 21, 3) := by decide +kernel
theorem dX6_init_32 : decode cX6_init 32 = .ok (.aload_n 0, 1) := by decide +kernel
theorem dX6_init_33 : decode cX6_init 33 = .ok (.bipush 8, 2) := by decide +kernel
theorem dX6_init_35 : decode cX6_init 35 = .ok (.newarray .int, 2) := by decide +kernel
theorem dX6_init_37 : decode cX6_init 37 = .ok (.putfield 24, 3) := by decide +kernel
theorem dX6_init_40 : decode cX6_init 40 = .ok (.return_, 1) := by decide +kernel
set_option maxHeartbeats 4000000 in
set_option maxRecDepth 100000 in
theorem c_X6_init (l : Launch) (D : va_G) (cs : Nat → ClassId) (kK kV : Nat → Nat) (a : Nat)  (sz : Nat) : Met l yX6_init (hz_w yX6_init cX6_init 1 none) ({ frames := 1, cells := 5, slots := 24, locals := 12 }) (va_Pc [.ref a] (hz_C D cs kK kV sz [(a, .inr (6, [.int 0, .null, .null, .null, .null, .null]))])) (va_Qv (fun (_ : Unit) => True) (fun _ t => ∃ (m0 : Nat), ∃ (m0_c : Nat → Int32), ∃ (m1 : Nat), ∃ (m1_c : Nat → Int32), ∃ (m2 : Nat), ∃ (m2_c : Nat → Int32), ∃ (m3 : Nat), ∃ (m3_c : Nat → Int32), ∃ (m4 : Nat), ∃ (m4_c : Nat → Int32), CI 4 0 0 m0_c ∧ CI 4 0 0 m1_c ∧ CI 4 0 0 m2_c ∧ CI 4 0 0 m3_c ∧ CI 8 0 0 m4_c ∧ va_P D classes [(a, .inr (6, [.int 0, .ref m0, .ref m1, .ref m2, .ref m3, .ref m4])), (m0, .inl (cs 0, 4, .inl m0_c)), (m1, .inl (cs 0, 4, .inl m1_c)), (m2, .inl (cs 0, 4, .inl m2_c)), (m3, .inl (cs 0, 4, .inl m3_c)), (m4, .inl (cs 0, 8, .inl m4_c))] t.heap ∧ va_D (va_A [(a, .inr (6, [.int 0, .null, .null, .null, .null, .null]))] sz) [(a, .inr (6, [.int 0, .ref m0, .ref m1, .ref m2, .ref m3, .ref m4])), (m0, .inl (cs 0, 4, .inl m0_c)), (m1, .inl (cs 0, 4, .inl m1_c)), (m2, .inl (cs 0, 4, .inl m2_c)), (m3, .inl (cs 0, 4, .inl m3_c)), (m4, .inl (cs 0, 8, .inl m4_c))]) (va_A [(a, .inr (6, [.int 0, .null, .null, .null, .null, .null]))] sz)) 5 24 (va_A [(a, .inr (6, [.int 0, .null, .null, .null, .null, .null]))] sz) := by
  refine Met.ofW (cc := cX6_init) (maxL := 1) (ret := none) (by decide) rfl ?_
  intro p e s m args below meth c s₁ B hml hv
  obtain ⟨rfl, hsz, hP, hD0, hE⟩ := hv
  have hx := B.exec
  have hb := B.bytes
  have hr := B.returns
  have hT : ∀ w ∈ TB, w.before _ s = true := fun w h => atoms_spec (ws := hz_w yX6_init cX6_init 1 none) B.pre w (List.mem_cons_of_mem _ h)
  have hown : s.vm.findClass RX6 = some m.cls := findClass_of_methodNamed B.named
  have hlocks := B.notSynchronized
  have hin : meth.name = "<init>" := (name_of_methodNamed B.named B.method).1
  clear B
  subst hsz
  have hD := hD0.self (sz := s.heap.size)
  generalize hAe : va_A [(a, .inr (6, [.int 0, .null, .null, .null, .null, .null]))] s.heap.size = A at hD hE ⊢
  have hA : ∀ q : Nat, s.heap.size ≤ q → A q := fun q h => by rw [← hAe]; exact Or.inr h
  clear hAe hD0
  have hS : va_S A s.heap s.heap [] := va_S.rf
  have hK := hE.1
  have hl := lv_entry ([.ref a]) (n := 1) (Nat.le_of_ble_eq_true rfl)
  rw [lg_entry_eq]
  generalize (lg_sl ([.ref a]) ++ List.replicate (1 - (lg_sl ([.ref a])).length) Slot.unset).toArray = ls at hl ⊢
  have hl : lv_has ls 1 [(0, .ref a)] := hl
  obtain ⟨H, eH⟩ : ∃ z, z = s.heap := ⟨_, rfl⟩
  have hP : va_P D classes [(a, .inr (6, [.int 0, .null, .null, .null, .null, .null]))] H := by rw [eH]; exact hP
  have hS : va_S A s.heap H [] := by rw [eH]; exact hS
  rw [← eH]
  clear eH
  obtain ⟨locs, el⟩ : ∃ z : List Loc, z = [] := ⟨_, rfl⟩
  rw [← el] at hS ⊢
  clear el
  refine lv_aload_n hx hb dX6_init_0 rfl (lv_at hl 0 rfl) ?_
  refine W.objInit hx hb hown (hT _ q_614) (hT _ q_218) (hT _ q_1353) rfl (by rw [hml]; exact hl.1) rfl dX6_init_1 (Nat.le_of_ble_eq_true rfl) (Nat.le_of_ble_eq_true rfl) ?_
  refine W.eq (g2 := F0 m 4 ls []) rfl ?_
  refine lv_aload_n hx hb dX6_init_4 rfl (lv_at hl 0 rfl) ?_
  refine lv_iconst (v := 4) hx hb dX6_init_5 (by decide) ?_
  refine hz_newa (atype := .int) (ty := .int) (N' := 4) (a0 := (4, .inl (fun _ => (0 : Int32)))) hx hb (hT _ q_1384) rfl hK hP hD hS hA (fun _ => rfl) (by decide) (by decide) (Nat.le_of_ble_eq_true rfl) (Nat.le_of_ble_eq_true rfl) (Nat.le_of_ble_eq_true rfl) dX6_init_6 0 rfl (fun n1 H hP hD hS => ?_)
  have hP : va_P D classes [(a, .inr (6, [.int 0, .null, .null, .null, .null, .null])), (n1, .inl (cs 0, 4, .inl (fun _ => (0 : Int32))))] H := hP
  have hD : va_D A [(a, .inr (6, [.int 0, .null, .null, .null, .null, .null])), (n1, .inl (cs 0, 4, .inl (fun _ => (0 : Int32))))] := hD
  have hf2 : CI 4 0 0 (fun _ => (0 : Int32)) := ci_0
  generalize (fun _ => (0 : Int32)) = f2 at hP hD hf2
  refine W.widen (k := 1) (n := 4) (Nat.le_of_ble_eq_true rfl) (Nat.le_of_ble_eq_true rfl) ?_
  refine va_putF (D := D) (ci := 6) (v := .ref n1) (ty := .array .int) (C := RX6) (T := TX6) (N := 6) hx hb hT i_X6 tyX6 tyX6_ok nmX6 hown hK hP hD hS 0 rfl rfl 1 (by decide) (hT _ q_114) (fun _ h9 => h9) rfl hin rfl (by decide +kernel) rfl rfl (Nat.le_of_ble_eq_true rfl) dX6_init_8 (fun H locs hP hD hS => ?_)
  have hP : va_P D classes [(a, .inr (6, [.int 0, .ref n1, .null, .null, .null, .null])), (n1, .inl (cs 0, 4, .inl f2))] H := hP
  have hD : va_D A [(a, .inr (6, [.int 0, .ref n1, .null, .null, .null, .null])), (n1, .inl (cs 0, 4, .inl f2))] := hD
  refine lv_aload_n hx hb dX6_init_11 rfl (lv_at hl 0 rfl) ?_
  refine lv_iconst (v := 4) hx hb dX6_init_12 (by decide) ?_
  refine hz_newa (atype := .int) (ty := .int) (N' := 4) (a0 := (4, .inl (fun _ => (0 : Int32)))) hx hb (hT _ q_1384) rfl hK hP hD hS hA (fun _ => rfl) (by decide) (by decide) (Nat.le_of_ble_eq_true rfl) (Nat.le_of_ble_eq_true rfl) (Nat.le_of_ble_eq_true rfl) dX6_init_13 0 rfl (fun n3 H hP hD hS => ?_)
  have hP : va_P D classes [(a, .inr (6, [.int 0, .ref n1, .null, .null, .null, .null])), (n1, .inl (cs 0, 4, .inl f2)), (n3, .inl (cs 0, 4, .inl (fun _ => (0 : Int32))))] H := hP
  have hD : va_D A [(a, .inr (6, [.int 0, .ref n1, .null, .null, .null, .null])), (n1, .inl (cs 0, 4, .inl f2)), (n3, .inl (cs 0, 4, .inl (fun _ => (0 : Int32))))] := hD
  have hf4 : CI 4 0 0 (fun _ => (0 : Int32)) := ci_0
  generalize (fun _ => (0 : Int32)) = f4 at hP hD hf4
  refine W.widen (k := 2) (n := 8) (Nat.le_of_ble_eq_true rfl) (Nat.le_of_ble_eq_true rfl) ?_
  refine va_putF (D := D) (ci := 6) (v := .ref n3) (ty := .array .int) (C := RX6) (T := TX6) (N := 6) hx hb hT i_X6 tyX6 tyX6_ok nmX6 hown hK hP hD hS 0 rfl rfl 2 (by decide) (hT _ q_115) (fun _ h9 => h9) rfl hin rfl (by decide +kernel) rfl rfl (Nat.le_of_ble_eq_true rfl) dX6_init_15 (fun H locs hP hD hS => ?_)
  have hP : va_P D classes [(a, .inr (6, [.int 0, .ref n1, .ref n3, .null, .null, .null])), (n1, .inl (cs 0, 4, .inl f2)), (n3, .inl (cs 0, 4, .inl f4))] H := hP
  have hD : va_D A [(a, .inr (6, [.int 0, .ref n1, .ref n3, .null, .null, .null])), (n1, .inl (cs 0, 4, .inl f2)), (n3, .inl (cs 0, 4, .inl f4))] := hD
  refine lv_aload_n hx hb dX6_init_18 rfl (lv_at hl 0 rfl) ?_
  refine lv_iconst (v := 4) hx hb dX6_init_19 (by decide) ?_
  refine hz_newa (atype := .int) (ty := .int) (N' := 4) (a0 := (4, .inl (fun _ => (0 : Int32)))) hx hb (hT _ q_1384) rfl hK hP hD hS hA (fun _ => rfl) (by decide) (by decide) (Nat.le_of_ble_eq_true rfl) (Nat.le_of_ble_eq_true rfl) (Nat.le_of_ble_eq_true rfl) dX6_init_20 0 rfl (fun n5 H hP hD hS => ?_)
  have hP : va_P D classes [(a, .inr (6, [.int 0, .ref n1, .ref n3, .null, .null, .null])), (n1, .inl (cs 0, 4, .inl f2)), (n3, .inl (cs 0, 4, .inl f4)), (n5, .inl (cs 0, 4, .inl (fun _ => (0 : Int32))))] H := hP
  have hD : va_D A [(a, .inr (6, [.int 0, .ref n1, .ref n3, .null, .null, .null])), (n1, .inl (cs 0, 4, .inl f2)), (n3, .inl (cs 0, 4, .inl f4)), (n5, .inl (cs 0, 4, .inl (fun _ => (0 : Int32))))] := hD
  have hf6 : CI 4 0 0 (fun _ => (0 : Int32)) := ci_0
  generalize (fun _ => (0 : Int32)) = f6 at hP hD hf6
  refine W.widen (k := 3) (n := 12) (Nat.le_of_ble_eq_true rfl) (Nat.le_of_ble_eq_true rfl) ?_
  refine va_putF (D := D) (ci := 6) (v := .ref n5) (ty := .array .int) (C := RX6) (T := TX6) (N := 6) hx hb hT i_X6 tyX6 tyX6_ok nmX6 hown hK hP hD hS 0 rfl rfl 3 (by decide) (hT _ q_116) (fun _ h9 => h9) rfl hin rfl (by decide +kernel) rfl rfl (Nat.le_of_ble_eq_true rfl) dX6_init_22 (fun H locs hP hD hS => ?_)
  have hP : va_P D classes [(a, .inr (6, [.int 0, .ref n1, .ref n3, .ref n5, .null, .null])), (n1, .inl (cs 0, 4, .inl f2)), (n3, .inl (cs 0, 4, .inl f4)), (n5, .inl (cs 0, 4, .inl f6))] H := hP
  have hD : va_D A [(a, .inr (6, [.int 0, .ref n1, .ref n3, .ref n5, .null, .null])), (n1, .inl (cs 0, 4, .inl f2)), (n3, .inl (cs 0, 4, .inl f4)), (n5, .inl (cs 0, 4, .inl f6))] := hD
  refine lv_aload_n hx hb dX6_init_25 rfl (lv_at hl 0 rfl) ?_
  refine lv_iconst (v := 4) hx hb dX6_init_26 (by decide) ?_
  refine hz_newa (atype := .int) (ty := .int) (N' := 4) (a0 := (4, .inl (fun _ => (0 : Int32)))) hx hb (hT _ q_1384) rfl hK hP hD hS hA (fun _ => rfl) (by decide) (by decide) (Nat.le_of_ble_eq_true rfl) (Nat.le_of_ble_eq_true rfl) (Nat.le_of_ble_eq_true rfl) dX6_init_27 0 rfl (fun n7 H hP hD hS => ?_)
  have hP : va_P D classes [(a, .inr (6, [.int 0, .ref n1, .ref n3, .ref n5, .null, .null])), (n1, .inl (cs 0, 4, .inl f2)), (n3, .inl (cs 0, 4, .inl f4)), (n5, .inl (cs 0, 4, .inl f6)), (n7, .inl (cs 0, 4, .inl (fun _ => (0 : Int32))))] H := hP
  have hD : va_D A [(a, .inr (6, [.int 0, .ref n1, .ref n3, .ref n5, .null, .null])), (n1, .inl (cs 0, 4, .inl f2)), (n3, .inl (cs 0, 4, .inl f4)), (n5, .inl (cs 0, 4, .inl f6)), (n7, .inl (cs 0, 4, .inl (fun _ => (0 : Int32))))] := hD
  have hf8 : CI 4 0 0 (fun _ => (0 : Int32)) := ci_0
  generalize (fun _ => (0 : Int32)) = f8 at hP hD hf8
  refine W.widen (k := 4) (n := 16) (Nat.le_of_ble_eq_true rfl) (Nat.le_of_ble_eq_true rfl) ?_
  refine va_putF (D := D) (ci := 6) (v := .ref n7) (ty := .array .int) (C := RX6) (T := TX6) (N := 6) hx hb hT i_X6 tyX6 tyX6_ok nmX6 hown hK hP hD hS 0 rfl rfl 4 (by decide) (hT _ q_117) (fun _ h9 => h9) rfl hin rfl (by decide +kernel) rfl rfl (Nat.le_of_ble_eq_true rfl) dX6_init_29 (fun H locs hP hD hS => ?_)
  have hP : va_P D classes [(a, .inr (6, [.int 0, .ref n1, .ref n3, .ref n5, .ref n7, .null])), (n1, .inl (cs 0, 4, .inl f2)), (n3, .inl (cs 0, 4, .inl f4)), (n5, .inl (cs 0, 4, .inl f6)), (n7, .inl (cs 0, 4, .inl f8))] H := hP
  have hD : va_D A [(a, .inr (6, [.int 0, .ref n1, .ref n3, .ref n5, .ref n7, .null])), (n1, .inl (cs 0, 4, .inl f2)), (n3, .inl (cs 0, 4, .inl f4)), (n5, .inl (cs 0, 4, .inl f6)), (n7, .inl (cs 0, 4, .inl f8))] := hD
  refine lv_aload_n hx hb dX6_init_32 rfl (lv_at hl 0 rfl) ?_
  refine lv_bipush (v := 8) hx hb dX6_init_33 (by decide) ?_
  refine hz_newa (atype := .int) (ty := .int) (N' := 8) (a0 := (8, .inl (fun _ => (0 : Int32)))) hx hb (hT _ q_1384) rfl hK hP hD hS hA (fun _ => rfl) (by decide) (by decide) (Nat.le_of_ble_eq_true rfl) (Nat.le_of_ble_eq_true rfl) (Nat.le_of_ble_eq_true rfl) dX6_init_35 0 rfl (fun n9 H hP hD hS => ?_)
  have hP : va_P D classes [(a, .inr (6, [.int 0, .ref n1, .ref n3, .ref n5, .ref n7, .null])), (n1, .inl (cs 0, 4, .inl f2)), (n3, .inl (cs 0, 4, .inl f4)), (n5, .inl (cs 0, 4, .inl f6)), (n7, .inl (cs 0, 4, .inl f8)), (n9, .inl (cs 0, 8, .inl (fun _ => (0 : Int32))))] H := hP
  have hD : va_D A [(a, .inr (6, [.int 0, .ref n1, .ref n3, .ref n5, .ref n7, .null])), (n1, .inl (cs 0, 4, .inl f2)), (n3, .inl (cs 0, 4, .inl f4)), (n5, .inl (cs 0, 4, .inl f6)), (n7, .inl (cs 0, 4, .inl f8)), (n9, .inl (cs 0, 8, .inl (fun _ => (0 : Int32))))] := hD
  have hf10 : CI 8 0 0 (fun _ => (0 : Int32)) := ci_0
  generalize (fun _ => (0 : Int32)) = f10 at hP hD hf10
  refine W.widen (k := 5) (n := 24) (Nat.le_of_ble_eq_true rfl) (Nat.le_of_ble_eq_true rfl) ?_
  refine va_putF (D := D) (ci := 6) (v := .ref n9) (ty := .array .int) (C := RX6) (T := TX6) (N := 6) hx hb hT i_X6 tyX6 tyX6_ok nmX6 hown hK hP hD hS 0 rfl rfl 5 (by decide) (hT _ q_118) (fun _ h9 => h9) rfl hin rfl (by decide +kernel) rfl rfl (Nat.le_of_ble_eq_true rfl) dX6_init_37 (fun H locs hP hD hS => ?_)
  have hP : va_P D classes [(a, .inr (6, [.int 0, .ref n1, .ref n3, .ref n5, .ref n7, .ref n9])), (n1, .inl (cs 0, 4, .inl f2)), (n3, .inl (cs 0, 4, .inl f4)), (n5, .inl (cs 0, 4, .inl f6)), (n7, .inl (cs 0, 4, .inl f8)), (n9, .inl (cs 0, 8, .inl f10))] H := hP
  have hD : va_D A [(a, .inr (6, [.int 0, .ref n1, .ref n3, .ref n5, .ref n7, .ref n9])), (n1, .inl (cs 0, 4, .inl f2)), (n3, .inl (cs 0, 4, .inl f4)), (n5, .inl (cs 0, 4, .inl f6)), (n7, .inl (cs 0, 4, .inl f8)), (n9, .inl (cs 0, 8, .inl f10))] := hD
  refine W.widen (k := 5) (n := 24) (Nat.le_of_ble_eq_true rfl) (Nat.le_of_ble_eq_true rfl) ?_
  exact W.vret hx hb hr (fun t ht hW => ⟨⟨(), rfl, trivial, n1, f2, n3, f4, n5, f6, n7, f8, n9, f10, hf2, hf4, hf6, hf8, hf10, by rw [ht]; exact hP.sub [0, 1, 2, 3, 4, 5] rfl, hD.sub [0, 1, 2, 3, 4, 5] (by decide) rfl⟩, hS.F ht⟩) hS.2.2 dX6_init_40
theorem dX9_init_0 : decode cX9_init 0 = .ok (.aload_n 0, 1) := by decide +kernel
theorem dX9_init_1 : decode cX9_init 1 = .ok (.invokespecial 3, 3) := by decide +kernel
theorem dX9_init_4 : decode cX9_init 4 = .ok (.aload_n 0, 1) := by decide +kernel
theorem dX9_init_5 : decode cX9_init 5 = .ok (.bipush 12, 2) := by decide +kernel
theorem dX9_init_7 : decode cX9_init 7 = .ok (.newarray .int, 2) := by decide +kernel
theorem dX9_init_9 : decode cX9_init 9 = .ok (.putfield 11, 3) := by decide +kernel
theorem dX9_init_12 : decode cX9_init 12 = .ok (.aload_n 0, 1) := by decide +kernel
theorem dX9_init_13 : decode cX9_init 13 = .ok (.bipush 12, 2) := by decide +kernel
theorem dX9_init_15 : decode cX9_init 15 = .ok (.newarray .int, 2) := by decide +kernel
theorem dX9_init_17 : decode cX9_init 17 = .ok (.putfield 15, 3) := by decide +kernel
theorem dX9_init_20 : decode cX9_init 20 = .ok (.aload_n 0, 1) := by decide +kernel
theorem dX9_init_21 : decode cX9_init 21 = .ok (.bipush 12, 2) := by decide +kernel
theorem dX9_init_23 : decode cX9_init 23 = .ok (.newarray .int, 2) := by decide +kernel
theorem dX9_init_25 : decode cX9_init 25 = .ok (.putfield 18, 3) := by decide +kernel
theorem dX9_init_28 : decode cX9_init 28 = .ok (.aload_n 0, 1) := by decide +kernel
theorem dX9_init_29 : decode cX9_init 29 = .ok (.bipush 12, 2) := by decide +kernel
theorem dX9_init_31 : decode cX9_init 31 = .ok (.newarray .boolean, 2) := by decide +kernel
theorem dX9_init_33 : decode cX9_init 33 = .ok (.putfield 21, 3) := by decide +kernel
theorem dX9_init_36 : decode cX9_init 36 = .ok (.return_, 1) := by decide +kernel
set_option maxHeartbeats 4000000 in
set_option maxRecDepth 100000 in
theorem c_X9_init (l : Launch) (D : va_G) (cs : Nat → ClassId) (kK kV : Nat → Nat) (a : Nat)  (sz : Nat) : Met l yX9_init (hz_w yX9_init cX9_init 1 none) ({ frames := 1, cells := 4, slots := 48, locals := 12 }) (va_Pc [.ref a] (hz_C D cs kK kV sz [(a, .inr (9, [.int 0, .int 0, .int 0, .null, .null, .null, .null]))])) (va_Qv (fun (_ : Unit) => True) (fun _ t => ∃ (m0 : Nat), ∃ (m0_c : Nat → Int32), ∃ (m1 : Nat), ∃ (m1_c : Nat → Int32), ∃ (m2 : Nat), ∃ (m2_c : Nat → Int32), ∃ (m3 : Nat), ∃ (m3_c : Nat → Int32), CI 12 0 0 m0_c ∧ CI 12 0 0 m1_c ∧ CI 12 0 0 m2_c ∧ CI 12 0 0 m3_c ∧ va_P D classes [(a, .inr (9, [.int 0, .int 0, .int 0, .ref m0, .ref m1, .ref m2, .ref m3])), (m0, .inl (cs 0, 12, .inl m0_c)), (m1, .inl (cs 0, 12, .inl m1_c)), (m2, .inl (cs 0, 12, .inl m2_c)), (m3, .inl (cs 2, 12, .inl m3_c))] t.heap ∧ va_D (va_A [(a, .inr (9, [.int 0, .int 0, .int 0, .null, .null, .null, .null]))] sz) [(a, .inr (9, [.int 0, .int 0, .int 0, .ref m0, .ref m1, .ref m2, .ref m3])), (m0, .inl (cs 0, 12, .inl m0_c)), (m1, .inl (cs 0, 12, .inl m1_c)), (m2, .inl (cs 0, 12, .inl m2_c)), (m3, .inl (cs 2, 12, .inl m3_c))]) (va_A [(a, .inr (9, [.int 0, .int 0, .int 0, .null, .null, .null, .null]))] sz)) 4 48 (va_A [(a, .inr (9, [.int 0, .int 0, .int 0, .null, .null, .null, .null]))] sz) := by
  refine Met.ofW (cc := cX9_init) (maxL := 1) (ret := none) (by decide) rfl ?_
  intro p e s m args below meth c s₁ B hml hv
  obtain ⟨rfl, hsz, hP, hD0, hE⟩ := hv
  have hx := B.exec
  have hb := B.bytes
  have hr := B.returns
  have hT : ∀ w ∈ TB, w.before _ s = true := fun w h => atoms_spec (ws := hz_w yX9_init cX9_init 1 none) B.pre w (List.mem_cons_of_mem _ h)
  have hown : s.vm.findClass RX9 = some m.cls := findClass_of_methodNamed B.named
  have hlocks := B.notSynchronized
  have hin : meth.name = "<init>" := (name_of_methodNamed B.named B.method).1
  clear B
  subst hsz
  have hD := hD0.self (sz := s.heap.size)
  generalize hAe : va_A [(a, .inr (9, [.int 0, .int 0, .int 0, .null, .null, .null, .null]))] s.heap.size = A at hD hE ⊢
  have hA : ∀ q : Nat, s.heap.size ≤ q → A q := fun q h => by rw [← hAe]; exact Or.inr h
  clear hAe hD0
  have hS : va_S A s.heap s.heap [] := va_S.rf
  have hK := hE.1
  have hl := lv_entry ([.ref a]) (n := 1) (Nat.le_of_ble_eq_true rfl)
  rw [lg_entry_eq]
  generalize (lg_sl ([.ref a]) ++ List.replicate (1 - (lg_sl ([.ref a])).length) Slot.unset).toArray = ls at hl ⊢
  have hl : lv_has ls 1 [(0, .ref a)] := hl
  obtain ⟨H, eH⟩ : ∃ z, z = s.heap := ⟨_, rfl⟩
  have hP : va_P D classes [(a, .inr (9, [.int 0, .int 0, .int 0, .null, .null, .null, .null]))] H := by rw [eH]; exact hP
  have hS : va_S A s.heap H [] := by rw [eH]; exact hS
  rw [← eH]
  clear eH
  obtain ⟨locs, el⟩ : ∃ z : List Loc, z = [] := ⟨_, rfl⟩
  rw [← el] at hS ⊢
  clear el
  refine lv_aload_n hx hb dX9_init_0 rfl (lv_at hl 0 rfl) ?_
  refine W.objInit hx hb hown (hT _ q_656) (hT _ q_218) (hT _ q_1353) rfl (by rw [hml]; exact hl.1) rfl dX9_init_1 (Nat.le_of_ble_eq_true rfl) (Nat.le_of_ble_eq_true rfl) ?_
  refine W.eq (g2 := F0 m 4 ls []) rfl ?_
  refine lv_aload_n hx hb dX9_init_4 rfl (lv_at hl 0 rfl) ?_
  refine lv_bipush (v := 12) hx hb dX9_init_5 (by decide) ?_
  refine hz_newa (atype := .int) (ty := .int) (N' := 12) (a0 := (12, .inl (fun _ => (0 : Int32)))) hx hb (hT _ q_1384) rfl hK hP hD hS hA (fun _ => rfl) (by decide) (by decide) (Nat.le_of_ble_eq_true rfl) (Nat.le_of_ble_eq_true rfl) (Nat.le_of_ble_eq_true rfl) dX9_init_7 0 rfl (fun n1 H hP hD hS => ?_)
  have hP : va_P D classes [(a, .inr (9, [.int 0, .int 0, .int 0, .null, .null, .null, .null])), (n1, .inl (cs 0, 12, .inl (fun _ => (0 : Int32))))] H := hP
  have hD : va_D A [(a, .inr (9, [.int 0, .int 0, .int 0, .null, .null, .null, .null])), (n1, .inl (cs 0, 12, .inl (fun _ => (0 : Int32))))] := hD
  have hf2 : CI 12 0 0 (fun _ => (0 : Int32)) := ci_0
  generalize (fun _ => (0 : Int32)) = f2 at hP hD hf2
  refine W.widen (k := 1) (n := 12) (Nat.le_of_ble_eq_true rfl) (Nat.le_of_ble_eq_true rfl) ?_
  refine va_putF (D := D) (ci := 9) (v := .ref n1) (ty := .array .int) (C := RX9) (T := TX9) (N := 7) hx hb hT i_X9 tyX9 tyX9_ok nmX9 hown hK hP hD hS 0 rfl rfl 3 (by decide) (hT _ q_149) (fun _ h9 => h9) rfl hin rfl (by decide +kernel) rfl rfl (Nat.le_of_ble_eq_true rfl) dX9_init_9 (fun H locs hP hD hS => ?_)
  have hP : va_P D classes [(a, .inr (9, [.int 0, .int 0, .int 0, .ref n1, .null, .null, .null])), (n1, .inl (cs 0, 12, .inl f2))] H := hP
  have hD : va_D A [(a, .inr (9, [.int 0, .int 0, .int 0, .ref n1, .null, .null, .null])), (n1, .inl (cs 0, 12, .inl f2))] := hD
  refine lv_aload_n hx hb dX9_init_12 rfl (lv_at hl 0 rfl) ?_
  refine lv_bipush (v := 12) hx hb dX9_init_13 (by decide) ?_
  refine hz_newa (atype := .int) (ty := .int) (N' := 12) (a0 := (12, .inl (fun _ => (0 : Int32)))) hx hb (hT _ q_1384) rfl hK hP hD hS hA (fun _ => rfl) (by decide) (by decide) (Nat.le_of_ble_eq_true rfl) (Nat.le_of_ble_eq_true rfl) (Nat.le_of_ble_eq_true rfl) dX9_init_15 0 rfl (fun n3 H hP hD hS => ?_)
  have hP : va_P D classes [(a, .inr (9, [.int 0, .int 0, .int 0, .ref n1, .null, .null, .null])), (n1, .inl (cs 0, 12, .inl f2)), (n3, .inl (cs 0, 12, .inl (fun _ => (0 : Int32))))] H := hP
  have hD : va_D A [(a, .inr (9, [.int 0, .int 0, .int 0, .ref n1, .null, .null, .null])), (n1, .inl (cs 0, 12, .inl f2)), (n3, .inl (cs 0, 12, .inl (fun _ => (0 : Int32))))] := hD
  have hf4 : CI 12 0 0 (fun _ => (0 : Int32)) := ci_0
  generalize (fun _ => (0 : Int32)) = f4 at hP hD hf4
  refine W.widen (k := 2) (n := 24) (Nat.le_of_ble_eq_true rfl) (Nat.le_of_ble_eq_true rfl) ?_
  refine va_putF (D := D) (ci := 9) (v := .ref n3) (ty := .array .int) (C := RX9) (T := TX9) (N := 7) hx hb hT i_X9 tyX9 tyX9_ok nmX9 hown hK hP hD hS 0 rfl rfl 4 (by decide) (hT _ q_150) (fun _ h9 => h9) rfl hin rfl (by decide +kernel) rfl rfl (Nat.le_of_ble_eq_true rfl) dX9_init_17 (fun H locs hP hD hS => ?_)
  have hP : va_P D classes [(a, .inr (9, [.int 0, .int 0, .int 0, .ref n1, .ref n3, .null, .null])), (n1, .inl (cs 0, 12, .inl f2)), (n3, .inl (cs 0, 12, .inl f4))] H := hP
  have hD : va_D A [(a, .inr (9, [.int 0, .int 0, .int 0, .ref n1, .ref n3, .null, .null])), (n1, .inl (cs 0, 12, .inl f2)), (n3, .inl (cs 0, 12, .inl f4))] := hD
  refine lv_aload_n hx hb dX9_init_20 rfl (lv_at hl 0 rfl) ?_
  refine lv_bipush (v := 12) hx hb dX9_init_21 (by decide) ?_
  refine hz_newa (atype := .int) (ty := .int) (N' := 12) (a0 := (12, .inl (fun _ => (0 : Int32)))) hx hb (hT _ q_1384) rfl hK hP hD hS hA (fun _ => rfl) (by decide) (by decide) (Nat.le_of_ble_eq_true rfl) (Nat.le_of_ble_eq_true rfl) (Nat.le_of_ble_eq_true rfl) dX9_init_23 0 rfl (fun n5 H hP hD hS => ?_)
  have hP : va_P D classes [(a, .inr (9, [.int 0, .int 0, .int 0, .ref n1, .ref n3, .null, .null])), (n1, .inl (cs 0, 12, .inl f2)), (n3, .inl (cs 0, 12, .inl f4)), (n5, .inl (cs 0, 12, .inl (fun _ => (0 : Int32))))] H := hP
  have hD : va_D A [(a, .inr (9, [.int 0, .int 0, .int 0, .ref n1, .ref n3, .null, .null])), (n1, .inl (cs 0, 12, .inl f2)), (n3, .inl (cs 0, 12, .inl f4)), (n5, .inl (cs 0, 12, .inl (fun _ => (0 : Int32))))] := hD
  have hf6 : CI 12 0 0 (fun _ => (0 : Int32)) := ci_0
  generalize (fun _ => (0 : Int32)) = f6 at hP hD hf6
  refine W.widen (k := 3) (n := 36) (Nat.le_of_ble_eq_true rfl) (Nat.le_of_ble_eq_true rfl) ?_
  refine va_putF (D := D) (ci := 9) (v := .ref n5) (ty := .array .int) (C := RX9) (T := TX9) (N := 7) hx hb hT i_X9 tyX9 tyX9_ok nmX9 hown hK hP hD hS 0 rfl rfl 5 (by decide) (hT _ q_151) (fun _ h9 => h9) rfl hin rfl (by decide +kernel) rfl rfl (Nat.le_of_ble_eq_true rfl) dX9_init_25 (fun H locs hP hD hS => ?_)
  have hP : va_P D classes [(a, .inr (9, [.int 0, .int 0, .int 0, .ref n1, .ref n3, .ref n5, .null])), (n1, .inl (cs 0, 12, .inl f2)), (n3, .inl (cs 0, 12, .inl f4)), (n5, .inl (cs 0, 12, .inl f6))] H := hP
  have hD : va_D A [(a, .inr (9, [.int 0, .int 0, .int 0, .ref n1, .ref n3, .ref n5, .null])), (n1, .inl (cs 0, 12, .inl f2)), (n3, .inl (cs 0, 12, .inl f4)), (n5, .inl (cs 0, 12, .inl f6))] := hD
  refine lv_aload_n hx hb dX9_init_28 rfl (lv_at hl 0 rfl) ?_
  refine lv_bipush (v := 12) hx hb dX9_init_29 (by decide) ?_
  refine hz_newa (atype := .boolean) (ty := .boolean) (N' := 12) (a0 := (12, .inl (fun _ => (0 : Int32)))) hx hb (hT _ q_1386) rfl hK hP hD hS hA (fun _ => rfl) (by decide) (by decide) (Nat.le_of_ble_eq_true rfl) (Nat.le_of_ble_eq_true rfl) (Nat.le_of_ble_eq_true rfl) dX9_init_31 2 rfl (fun n7 H hP hD hS => ?_)
  have hP : va_P D classes [(a, .inr (9, [.int 0, .int 0, .int 0, .ref n1, .ref n3, .ref n5, .null])), (n1, .inl (cs 0, 12, .inl f2)), (n3, .inl (cs 0, 12, .inl f4)), (n5, .inl (cs 0, 12, .inl f6)), (n7, .inl (cs 2, 12, .inl (fun _ => (0 : Int32))))] H := hP
  have hD : va_D A [(a, .inr (9, [.int 0, .int 0, .int 0, .ref n1, .ref n3, .ref n5, .null])), (n1, .inl (cs 0, 12, .inl f2)), (n3, .inl (cs 0, 12, .inl f4)), (n5, .inl (cs 0, 12, .inl f6)), (n7, .inl (cs 2, 12, .inl (fun _ => (0 : Int32))))] := hD
  have hf8 : CI 12 0 0 (fun _ => (0 : Int32)) := ci_0
  generalize (fun _ => (0 : Int32)) = f8 at hP hD hf8
  refine W.widen (k := 4) (n := 48) (Nat.le_of_ble_eq_true rfl) (Nat.le_of_ble_eq_true rfl) ?_
  refine va_putF (D := D) (ci := 9) (v := .ref n7) (ty := .array .boolean) (C := RX9) (T := TX9) (N := 7) hx hb hT i_X9 tyX9 tyX9_ok nmX9 hown hK hP hD hS 0 rfl rfl 6 (by decide) (hT _ q_152) (fun _ h9 => h9) rfl hin rfl (by decide +kernel) rfl rfl (Nat.le_of_ble_eq_true rfl) dX9_init_33 (fun H locs hP hD hS => ?_)
  have hP : va_P D classes [(a, .inr (9, [.int 0, .int 0, .int 0, .ref n1, .ref n3, .ref n5, .ref n7])), (n1, .inl (cs 0, 12, .inl f2)), (n3, .inl (cs 0, 12, .inl f4)), (n5, .inl (cs 0, 12, .inl f6)), (n7, .inl (cs 2, 12, .inl f8))] H := hP
  have hD : va_D A [(a, .inr (9, [.int 0, .int 0, .int 0, .ref n1, .ref n3, .ref n5, .ref n7])), (n1, .inl (cs 0, 12, .inl f2)), (n3, .inl (cs 0, 12, .inl f4)), (n5, .inl (cs 0, 12, .inl f6)), (n7, .inl (cs 2, 12, .inl f8))] := hD
  refine W.widen (k := 4) (n := 48) (Nat.le_of_ble_eq_true rfl) (Nat.le_of_ble_eq_true rfl) ?_
  exact W.vret hx hb hr (fun t ht hW => ⟨⟨(), rfl, trivial, n1, f2, n3, f4, n5, f6, n7, f8, hf2, hf4, hf6, hf8, by rw [ht]; exact hP.sub [0, 1, 2, 3, 4] rfl, hD.sub [0, 1, 2, 3, 4] (by decide) rfl⟩, hS.F ht⟩) hS.2.2 dX9_init_36
theorem dX7_init_0 : decode cX7_init 0 = .ok (.aload_n 0, 1) := by decide +kernel
theorem dX7_init_1 : decode cX7_init 1 = .ok (.invokespecial 3, 3) := by decide +kernel
theorem dX7_init_4 : decode cX7_init 4 = .ok (.aload_n 0, 1) := by decide +kernel
theorem dX7_init_5 : decode cX7_init 5 = .ok (.sipush 400, 3) := by decide +kernel
theorem dX7_init_8 : decode cX7_init 8 = .ok (.newarray .int, 2) := by decide +kernel
theorem dX7_init_10 : decode cX7_init 10 = .ok (.putfield 9, 3) := by decide +kernel
theorem dX7_init_13 : decode cX7_init 13 = .ok (.return_, 1) := by decide +kernel
set_option maxHeartbeats 4000000 in
set_option maxRecDepth 100000 in
theorem c_X7_init (l : Launch) (D : va_G) (cs : Nat → ClassId) (kK kV : Nat → Nat) (a : Nat)  (sz : Nat) : Met l yX7_init (hz_w yX7_init cX7_init 1 none) ({ frames := 1, cells := 1, slots := 400, locals := 12 }) (va_Pc [.ref a] (hz_C D cs kK kV sz [(a, .inr (7, [.null, .int 0, .int 0, .int 0]))])) (va_Qv (fun (_ : Unit) => True) (fun _ t => ∃ (m0 : Nat), ∃ (m0_c : Nat → Int32), CI 400 0 0 m0_c ∧ va_P D classes [(a, .inr (7, [.ref m0, .int 0, .int 0, .int 0])), (m0, .inl (cs 0, 400, .inl m0_c))] t.heap ∧ va_D (va_A [(a, .inr (7, [.null, .int 0, .int 0, .int 0]))] sz) [(a, .inr (7, [.ref m0, .int 0, .int 0, .int 0])), (m0, .inl (cs 0, 400, .inl m0_c))]) (va_A [(a, .inr (7, [.null, .int 0, .int 0, .int 0]))] sz)) 1 400 (va_A [(a, .inr (7, [.null, .int 0, .int 0, .int 0]))] sz) := by
  refine Met.ofW (cc := cX7_init) (maxL := 1) (ret := none) (by decide) rfl ?_
  intro p e s m args below meth c s₁ B hml hv
  obtain ⟨rfl, hsz, hP, hD0, hE⟩ := hv
  have hx := B.exec
  have hb := B.bytes
  have hr := B.returns
  have hT : ∀ w ∈ TB, w.before _ s = true := fun w h => atoms_spec (ws := hz_w yX7_init cX7_init 1 none) B.pre w (List.mem_cons_of_mem _ h)
  have hown : s.vm.findClass RX7 = some m.cls := findClass_of_methodNamed B.named
  have hlocks := B.notSynchronized
  have hin : meth.name = "<init>" := (name_of_methodNamed B.named B.method).1
  clear B
  subst hsz
  have hD := hD0.self (sz := s.heap.size)
  generalize hAe : va_A [(a, .inr (7, [.null, .int 0, .int 0, .int 0]))] s.heap.size = A at hD hE ⊢
  have hA : ∀ q : Nat, s.heap.size ≤ q → A q := fun q h => by rw [← hAe]; exact Or.inr h
  clear hAe hD0
  have hS : va_S A s.heap s.heap [] := va_S.rf
  have hK := hE.1
  have hl := lv_entry ([.ref a]) (n := 1) (Nat.le_of_ble_eq_true rfl)
  rw [lg_entry_eq]
  generalize (lg_sl ([.ref a]) ++ List.replicate (1 - (lg_sl ([.ref a])).length) Slot.unset).toArray = ls at hl ⊢
  have hl : lv_has ls 1 [(0, .ref a)] := hl
  obtain ⟨H, eH⟩ : ∃ z, z = s.heap := ⟨_, rfl⟩
  have hP : va_P D classes [(a, .inr (7, [.null, .int 0, .int 0, .int 0]))] H := by rw [eH]; exact hP
  have hS : va_S A s.heap H [] := by rw [eH]; exact hS
  rw [← eH]
  clear eH
  obtain ⟨locs, el⟩ : ∃ z : List Loc, z = [] := ⟨_, rfl⟩
  rw [← el] at hS ⊢
  clear el
  refine lv_aload_n hx hb dX7_init_0 rfl (lv_at hl 0 rfl) ?_
  refine W.objInit hx hb hown (hT _ q_626) (hT _ q_218) (hT _ q_1353) rfl (by rw [hml]; exact hl.1) rfl dX7_init_1 (Nat.le_of_ble_eq_true rfl) (Nat.le_of_ble_eq_true rfl) ?_
  refine W.eq (g2 := F0 m 4 ls []) rfl ?_
  refine lv_aload_n hx hb dX7_init_4 rfl (lv_at hl 0 rfl) ?_
  refine lv_sipush (v := 400) hx hb dX7_init_5 (by decide) ?_
  refine hz_newa (atype := .int) (ty := .int) (N' := 400) (a0 := (400, .inl (fun _ => (0 : Int32)))) hx hb (hT _ q_1384) rfl hK hP hD hS hA (fun _ => rfl) (by decide) (by decide) (Nat.le_of_ble_eq_true rfl) (Nat.le_of_ble_eq_true rfl) (Nat.le_of_ble_eq_true rfl) dX7_init_8 0 rfl (fun n1 H hP hD hS => ?_)
  have hP : va_P D classes [(a, .inr (7, [.null, .int 0, .int 0, .int 0])), (n1, .inl (cs 0, 400, .inl (fun _ => (0 : Int32))))] H := hP
  have hD : va_D A [(a, .inr (7, [.null, .int 0, .int 0, .int 0])), (n1, .inl (cs 0, 400, .inl (fun _ => (0 : Int32))))] := hD
  have hf2 : CI 400 0 0 (fun _ => (0 : Int32)) := ci_0
  generalize (fun _ => (0 : Int32)) = f2 at hP hD hf2
  refine W.widen (k := 1) (n := 400) (Nat.le_of_ble_eq_true rfl) (Nat.le_of_ble_eq_true rfl) ?_
  refine va_putF (D := D) (ci := 7) (v := .ref n1) (ty := .array .int) (C := RX7) (T := TX7) (N := 4) hx hb hT i_X7 tyX7 tyX7_ok nmX7 hown hK hP hD hS 0 rfl rfl 0 (by decide) (hT _ q_127) (fun _ h9 => h9) rfl hin rfl (by decide +kernel) rfl rfl (Nat.le_of_ble_eq_true rfl) dX7_init_10 (fun H locs hP hD hS => ?_)
  have hP : va_P D classes [(a, .inr (7, [.ref n1, .int 0, .int 0, .int 0])), (n1, .inl (cs 0, 400, .inl f2))] H := hP
  have hD : va_D A [(a, .inr (7, [.ref n1, .int 0, .int 0, .int 0])), (n1, .inl (cs 0, 400, .inl f2))] := hD
  refine W.widen (k := 1) (n := 400) (Nat.le_of_ble_eq_true rfl) (Nat.le_of_ble_eq_true rfl) ?_
  exact W.vret hx hb hr (fun t ht hW => ⟨⟨(), rfl, trivial, n1, f2, hf2, by rw [ht]; exact hP.sub [0, 1] rfl, hD.sub [0, 1] (by decide) rfl⟩, hS.F ht⟩) hS.2.2 dX7_init_13
theorem dX0_init_0 : decode cX0_init 0 = .ok (.aload_n 0, 1) := by decide +kernel
theorem dX0_init_1 : decode cX0_init 1 = .ok (.invokespecial 3, 3) := by decide +kernel
theorem dX0_init_4 : decode cX0_init 4 = .ok (.return_, 1) := by decide +kernel
set_option maxHeartbeats 4000000 in
set_option maxRecDepth 100000 in
theorem c_X0_init (l : Launch) (D : va_G) (cs : Nat → ClassId) (kK kV : Nat → Nat) (a : Nat)  : Met l yX0_init (hz_w yX0_init cX0_init 1 none) ({ frames := 1, cells := 0, slots := 0, locals := 12 }) (va_Pc [.ref a] (hz_P D cs kK kV [])) (va_Qv (fun (_ : Unit) => True) (fun _ t => True) (fun _ => False)) 0 0 (fun _ => False) := by
  refine Met.ofW (cc := cX0_init) (maxL := 1) (ret := none) (by decide) rfl ?_
  intro p e s m args below meth c s₁ B hml hv
  obtain ⟨rfl, hP, hE⟩ := hv
  have hx := B.exec
  have hb := B.bytes
  have hr := B.returns
  have hT : ∀ w ∈ TB, w.before _ s = true := fun w h => atoms_spec (ws := hz_w yX0_init cX0_init 1 none) B.pre w (List.mem_cons_of_mem _ h)
  have hown : s.vm.findClass RX0 = some m.cls := findClass_of_methodNamed B.named
  have hlocks := B.notSynchronized
  have hin : meth.name = "<init>" := (name_of_methodNamed B.named B.method).1
  clear B
  have hS : va_S (fun _ => False) s.heap s.heap [] := va_S.rf
  have hK := hE.1
  have hl := lv_entry ([.ref a]) (n := 1) (Nat.le_of_ble_eq_true rfl)
  rw [lg_entry_eq]
  generalize (lg_sl ([.ref a]) ++ List.replicate (1 - (lg_sl ([.ref a])).length) Slot.unset).toArray = ls at hl ⊢
  have hl : lv_has ls 1 [(0, .ref a)] := hl
  obtain ⟨H, eH⟩ : ∃ z, z = s.heap := ⟨_, rfl⟩
  have hP : va_P D classes [] H := by rw [eH]; exact hP
  have hS : va_S (fun _ => False) s.heap H [] := by rw [eH]; exact hS
  rw [← eH]
  clear eH
  obtain ⟨locs, el⟩ : ∃ z : List Loc, z = [] := ⟨_, rfl⟩
  rw [← el] at hS ⊢
  clear el
  refine lv_aload_n hx hb dX0_init_0 rfl (lv_at hl 0 rfl) ?_
  refine W.objInit hx hb hown (hT _ q_415) (hT _ q_218) (hT _ q_1353) rfl (by rw [hml]; exact hl.1) rfl dX0_init_1 (Nat.le_of_ble_eq_true rfl) (Nat.le_of_ble_eq_true rfl) ?_
  refine W.eq (g2 := F0 m 4 ls []) rfl ?_
  exact W.vret hx hb hr (fun t ht hW => ⟨⟨(), rfl, trivial, trivial⟩, hS.F ht⟩) hS.2.2 dX0_init_4
theorem dX5_init_0 : decode cX5_init 0 = .ok (.aload_n 0, 1) := by decide +kernel
theorem dX5_init_1 : decode cX5_init 1 = .ok (.invokespecial 3, 3) := by decide +kernel
theorem dX5_init_4 : decode cX5_init 4 = .ok (.aload_n 0, 1) := by decide +kernel
theorem dX5_init_5 : decode cX5_init 5 = .ok (.sipush 400, 3) := by decide +kernel
theorem dX5_init_8 : decode cX5_init 8 = .ok (.newarray .int, 2) := by decide +kernel
theorem dX5_init_10 : decode cX5_init 10 = .ok (.putfield 9, 3) := by decide +kernel
theorem dX5_init_13 : decode cX5_init 13 = .ok (.return_, 1) := by decide +kernel
set_option maxHeartbeats 4000000 in
set_option maxRecDepth 100000 in
theorem c_X5_init (l : Launch) (D : va_G) (cs : Nat → ClassId) (kK kV : Nat → Nat) (a : Nat)  (sz : Nat) : Met l yX5_init (hz_w yX5_init cX5_init 1 none) ({ frames := 1, cells := 1, slots := 400, locals := 12 }) (va_Pc [.ref a] (hz_C D cs kK kV sz [(a, .inr (5, [.null, .null, .int 0, .int 0]))])) (va_Qv (fun (_ : Unit) => True) (fun _ t => ∃ (m0 : Nat), ∃ (m0_c : Nat → Int32), CI 400 0 0 m0_c ∧ va_P D classes [(a, .inr (5, [.null, .ref m0, .int 0, .int 0])), (m0, .inl (cs 0, 400, .inl m0_c))] t.heap ∧ va_D (va_A [(a, .inr (5, [.null, .null, .int 0, .int 0]))] sz) [(a, .inr (5, [.null, .ref m0, .int 0, .int 0])), (m0, .inl (cs 0, 400, .inl m0_c))]) (va_A [(a, .inr (5, [.null, .null, .int 0, .int 0]))] sz)) 1 400 (va_A [(a, .inr (5, [.null, .null, .int 0, .int 0]))] sz) := by
  refine Met.ofW (cc := cX5_init) (maxL := 1) (ret := none) (by decide) rfl ?_
  intro p e s m args below meth c s₁ B hml hv
  obtain ⟨rfl, hsz, hP, hD0, hE⟩ := hv
  have hx := B.exec
  have hb := B.bytes
  have hr := B.returns
  have hT : ∀ w ∈ TB, w.before _ s = true := fun w h => atoms_spec (ws := hz_w yX5_init cX5_init 1 none) B.pre w (List.mem_cons_of_mem _ h)
  have hown : s.vm.findClass RX5 = some m.cls := findClass_of_methodNamed B.named
  have hlocks := B.notSynchronized
  have hin : meth.name = "<init>" := (name_of_methodNamed B.named B.method).1
  clear B
  subst hsz
  have hD := hD0.self (sz := s.heap.size)
  generalize hAe : va_A [(a, .inr (5, [.null, .null, .int 0, .int 0]))] s.heap.size = A at hD hE ⊢
  have hA : ∀ q : Nat, s.heap.size ≤ q → A q := fun q h => by rw [← hAe]; exact Or.inr h
  clear hAe hD0
  have hS : va_S A s.heap s.heap [] := va_S.rf
  have hK := hE.1
  have hl := lv_entry ([.ref a]) (n := 1) (Nat.le_of_ble_eq_true rfl)
  rw [lg_entry_eq]
  generalize (lg_sl ([.ref a]) ++ List.replicate (1 - (lg_sl ([.ref a])).length) Slot.unset).toArray = ls at hl ⊢
  have hl : lv_has ls 1 [(0, .ref a)] := hl
  obtain ⟨H, eH⟩ : ∃ z, z = s.heap := ⟨_, rfl⟩
  have hP : va_P D classes [(a, .inr (5, [.null, .null, .int 0, .int 0]))] H := by rw [eH]; exact hP
  have hS : va_S A s.heap H [] := by rw [eH]; exact hS
  rw [← eH]
  clear eH
  obtain ⟨locs, el⟩ : ∃ z : List Loc, z = [] := ⟨_, rfl⟩
  rw [← el] at hS ⊢
  clear el
  refine lv_aload_n hx hb dX5_init_0 rfl (lv_at hl 0 rfl) ?_
  refine W.objInit hx hb hown (hT _ q_551) (hT _ q_218) (hT _ q_1353) rfl (by rw [hml]; exact hl.1) rfl dX5_init_1 (Nat.le_of_ble_eq_true rfl) (Nat.le_of_ble_eq_true rfl) ?_
  refine W.eq (g2 := F0 m 4 ls []) rfl ?_
  refine lv_aload_n hx hb dX5_init_4 rfl (lv_at hl 0 rfl) ?_
  refine lv_sipush (v := 400) hx hb dX5_init_5 (by decide) ?_
  refine hz_newa (atype := .int) (ty := .int) (N' := 400) (a0 := (400, .inl (fun _ => (0 : Int32)))) hx hb (hT _ q_1384) rfl hK hP hD hS hA (fun _ => rfl) (by decide) (by decide) (Nat.le_of_ble_eq_true rfl) (Nat.le_of_ble_eq_true rfl) (Nat.le_of_ble_eq_true rfl) dX5_init_8 0 rfl (fun n1 H hP hD hS => ?_)
  have hP : va_P D classes [(a, .inr (5, [.null, .null, .int 0, .int 0])), (n1, .inl (cs 0, 400, .inl (fun _ => (0 : Int32))))] H := hP
  have hD : va_D A [(a, .inr (5, [.null, .null, .int 0, .int 0])), (n1, .inl (cs 0, 400, .inl (fun _ => (0 : Int32))))] := hD
  have hf2 : CI 400 0 0 (fun _ => (0 : Int32)) := ci_0
  generalize (fun _ => (0 : Int32)) = f2 at hP hD hf2
  refine W.widen (k := 1) (n := 400) (Nat.le_of_ble_eq_true rfl) (Nat.le_of_ble_eq_true rfl) ?_
  refine va_putF (D := D) (ci := 5) (v := .ref n1) (ty := .array .int) (C := RX5) (T := TX5) (N := 4) hx hb hT i_X5 tyX5 tyX5_ok nmX5 hown hK hP hD hS 0 rfl rfl 1 (by decide) (hT _ q_103) (fun _ h9 => h9) rfl hin rfl (by decide +kernel) rfl rfl (Nat.le_of_ble_eq_true rfl) dX5_init_10 (fun H locs hP hD hS => ?_)
  have hP : va_P D classes [(a, .inr (5, [.null, .ref n1, .int 0, .int 0])), (n1, .inl (cs 0, 400, .inl f2))] H := hP
  have hD : va_D A [(a, .inr (5, [.null, .ref n1, .int 0, .int 0])), (n1, .inl (cs 0, 400, .inl f2))] := hD
  refine W.widen (k := 1) (n := 400) (Nat.le_of_ble_eq_true rfl) (Nat.le_of_ble_eq_true rfl) ?_
  exact W.vret hx hb hr (fun t ht hW => ⟨⟨(), rfl, trivial, n1, f2, hf2, by rw [ht]; exact hP.sub [0, 1] rfl, hD.sub [0, 1] (by decide) rfl⟩, hS.F ht⟩) hS.2.2 dX5_init_13
theorem dX1_init_0 : decode cX1_init 0 = .ok (.aload_n 0, 1) := by decide +kernel
theorem dX1_init_1 : decode cX1_init 1 = .ok (.invokespecial 1, 3) := by decide +kernel
theorem dX1_init_4 : decode cX1_init 4 = .ok (.aload_n 0, 1) := by decide +kernel
theorem dX1_init_5 : decode cX1_init 5 = .ok (.new 7, 3) := by decide +kernel
theorem dX1_init_8 : decode cX1_init 8 = .ok (.dup, 1) := by decide +kernel
theorem dX1_init_9 : decode cX1_init 9 = .ok (.invokespecial 9, 3) := by decide +kernel
theorem dX1_init_12 : decode cX1_init 12 = .ok (.putfield 10, 3) := by decide +kernel
theorem dX1_init_15 : decode cX1_init 15 = .ok (.aload_n 0, 1) := by decide +kernel
theorem dX1_init_16 : decode cX1_init 16 = .ok (.new 16, 3) := by decide +kernel
theorem dX1_init_19 : decode cX1_init 19 = .ok (.dup, 1) := by decide +kernel
theorem dX1_init_20 : decode cX1_init 20 = .ok (.invokespecial 18, 3) := by decide +kernel
theorem dX1_init_23 : decode cX1_init 23 = .ok (.putfield 19, 3) := by decide +kernel
theorem dX1_init_26 : decode cX1_init 26 = .ok (.return_, 1) := by decide +kernel
set_option maxHeartbeats 4000000 in
set_option maxRecDepth 100000 in
theorem c_X1_init (l : Launch) (D : va_G) (cs : Nat → ClassId) (kK kV : Nat → Nat) (a : Nat)  (sz : Nat) : Met l yX1_init (hz_w yX1_init cX1_init 1 none) ({ frames := 2, cells := 11, slots := 85, locals := 32 }) (va_Pc [.ref a] (hz_C D cs kK kV sz [(a, .inr (1, [.null, .null, .null, .int 0]))])) (va_Qv (fun (_ : Unit) => True) (fun _ t => ∃ (m0 : Nat), ∃ (m1 : Nat), ∃ (m1_c : Nat → Int32), ∃ (m2 : Nat), ∃ (m2_c : Nat → Int32), ∃ (m3 : Nat), ∃ (m3_c : Nat → Int32), ∃ (m4 : Nat), ∃ (m4_c : Nat → Int32), ∃ (m5 : Nat), ∃ (m5_c : Nat → Int32), ∃ (m6 : Nat), ∃ (m7 : Nat), ∃ (m7_c : Nat → Int32), ∃ (m8 : Nat), ∃ (m8_c : Nat → Int32), ∃ (m9 : Nat), ∃ (m9_c : Nat → Int32), ∃ (m10 : Nat), ∃ (m10_c : Nat → Int32), CI 4 0 0 m1_c ∧ CI 4 0 0 m2_c ∧ CI 4 0 0 m3_c ∧ CI 4 0 0 m4_c ∧ CI 8 0 0 m5_c ∧ CI 12 0 0 m7_c ∧ CI 12 0 0 m8_c ∧ CI 12 0 0 m9_c ∧ CI 12 0 0 m10_c ∧ va_P D classes [(a, .inr (1, [.null, .ref m0, .ref m6, .int 0])), (m0, .inr (6, [.int 0, .ref m1, .ref m2, .ref m3, .ref m4, .ref m5])), (m1, .inl (cs 0, 4, .inl m1_c)), (m2, .inl (cs 0, 4, .inl m2_c)), (m3, .inl (cs 0, 4, .inl m3_c)), (m4, .inl (cs 0, 4, .inl m4_c)), (m5, .inl (cs 0, 8, .inl m5_c)), (m6, .inr (9, [.int 0, .int 0, .int 0, .ref m7, .ref m8, .ref m9, .ref m10])), (m7, .inl (cs 0, 12, .inl m7_c)), (m8, .inl (cs 0, 12, .inl m8_c)), (m9, .inl (cs 0, 12, .inl m9_c)), (m10, .inl (cs 2, 12, .inl m10_c))] t.heap ∧ va_D (va_A [(a, .inr (1, [.null, .null, .null, .int 0]))] sz) [(a, .inr (1, [.null, .ref m0, .ref m6, .int 0])), (m0, .inr (6, [.int 0, .ref m1, .ref m2, .ref m3, .ref m4, .ref m5])), (m1, .inl (cs 0, 4, .inl m1_c)), (m2, .inl (cs 0, 4, .inl m2_c)), (m3, .inl (cs 0, 4, .inl m3_c)), (m4, .inl (cs 0, 4, .inl m4_c)), (m5, .inl (cs 0, 8, .inl m5_c)), (m6, .inr (9, [.int 0, .int 0, .int 0, .ref m7, .ref m8, .ref m9, .ref m10])), (m7, .inl (cs 0, 12, .inl m7_c)), (m8, .inl (cs 0, 12, .inl m8_c)), (m9, .inl (cs 0, 12, .inl m9_c)), (m10, .inl (cs 2, 12, .inl m10_c))]) (va_A [(a, .inr (1, [.null, .null, .null, .int 0]))] sz)) 11 85 (va_A [(a, .inr (1, [.null, .null, .null, .int 0]))] sz) := by
  refine Met.ofW (cc := cX1_init) (maxL := 1) (ret := none) (by decide) rfl ?_
  intro p e s m args below meth c s₁ B hml hv
  obtain ⟨rfl, hsz, hP, hD0, hE⟩ := hv
  have hx := B.exec
  have hb := B.bytes
  have hr := B.returns
  have hT : ∀ w ∈ TB, w.before _ s = true := fun w h => atoms_spec (ws := hz_w yX1_init cX1_init 1 none) B.pre w (List.mem_cons_of_mem _ h)
  have hown : s.vm.findClass RX1 = some m.cls := findClass_of_methodNamed B.named
  have hlocks := B.notSynchronized
  have hin : meth.name = "<init>" := (name_of_methodNamed B.named B.method).1
  clear B
  subst hsz
  have hD := hD0.self (sz := s.heap.size)
  generalize hAe : va_A [(a, .inr (1, [.null, .null, .null, .int 0]))] s.heap.size = A at hD hE ⊢
  have hA : ∀ q : Nat, s.heap.size ≤ q → A q := fun q h => by rw [← hAe]; exact Or.inr h
  clear hAe hD0
  have hS : va_S A s.heap s.heap [] := va_S.rf
  have hK := hE.1
  have hl := lv_entry ([.ref a]) (n := 1) (Nat.le_of_ble_eq_true rfl)
  rw [lg_entry_eq]
  generalize (lg_sl ([.ref a]) ++ List.replicate (1 - (lg_sl ([.ref a])).length) Slot.unset).toArray = ls at hl ⊢
  have hl : lv_has ls 1 [(0, .ref a)] := hl
  obtain ⟨H, eH⟩ : ∃ z, z = s.heap := ⟨_, rfl⟩
  have hP : va_P D classes [(a, .inr (1, [.null, .null, .null, .int 0]))] H := by rw [eH]; exact hP
  have hS : va_S A s.heap H [] := by rw [eH]; exact hS
  rw [← eH]
  clear eH
  obtain ⟨locs, el⟩ : ∃ z : List Loc, z = [] := ⟨_, rfl⟩
  rw [← el] at hS ⊢
  clear el
  refine lv_aload_n hx hb dX1_init_0 rfl (lv_at hl 0 rfl) ?_
  refine W.objInit hx hb hown (hT _ q_480) (hT _ q_218) (hT _ q_1353) rfl (by rw [hml]; exact hl.1) rfl dX1_init_1 (Nat.le_of_ble_eq_true rfl) (Nat.le_of_ble_eq_true rfl) ?_
  refine W.eq (g2 := F0 m 4 ls []) rfl ?_
  refine lv_aload_n hx hb dX1_init_4 rfl (lv_at hl 0 rfl) ?_
  refine va_new (D := D) (ci := 6) (fs := [.int 0, .null, .null, .null, .null, .null]) (C := RX6) (T := TX6) (N := 6) hx hb hT i_X6 tyX6 tyX6_ok hown (hT _ q_1377) (hT _ q_1365) (hT _ q_231) hK hP hD hS hA rfl df_X6 (Nat.le_of_ble_eq_true rfl) (Nat.le_of_ble_eq_true rfl) dX1_init_5 (fun n1 H hP hD hS => ?_)
  have hP : va_P D classes [(a, .inr (1, [.null, .null, .null, .int 0])), (n1, .inr (6, [.int 0, .null, .null, .null, .null, .null]))] H := hP
  have hD : va_D A [(a, .inr (1, [.null, .null, .null, .int 0])), (n1, .inr (6, [.int 0, .null, .null, .null, .null, .null]))] := hD
  refine W.widen (k := 1) (n := 6) (Nat.le_of_ble_eq_true rfl) (Nat.le_of_ble_eq_true rfl) ?_
  refine lv_dup hx hb dX1_init_8 rfl ?_
  have hFc := va_free (wc := [(n1, .inr (6, [.int 0, .null, .null, .null, .null, .null]))]) hD hS hA [1] rfl
  refine va_callv (va_runIN (As := []) (rest := [.ref n1, .ref a]) ⟨hx, hb, hml, hown, hT⟩ (c_X6_init l D cs kK kV n1 H.size) ⟨va_cnB 0 hT (hz_gw q_1338) rfl rfl rfl (hE.2.1 12 (by decide)) (hT _ q_231) (by decide +kernel) ⟨(Nat.le_of_ble_eq_true rfl), (Nat.le_of_ble_eq_true rfl)⟩, rfl, hT _ q_1337⟩ ⟨hz_C.blind, hz_C.mk (hP.sub (ws' := [(n1, .inr (6, [.int 0, .null, .null, .null, .null, .null]))]) [1] rfl) (hD.sub (ws' := [(n1, .inr (6, [.int 0, .null, .null, .null, .null, .null]))]) [1] (by decide) rfl) hE hS hFc⟩ rfl rfl hl.1 rfl (lv_room (Nat.le_of_ble_eq_true rfl)) dX1_init_9 ⟨(Nat.le_of_ble_eq_true rfl), (Nat.le_of_ble_eq_true rfl)⟩) hS (fun q _ h => hFc q h) hFc (fun u t H1 locs ht hvm hw hB hz1 hk1 hS => ?_)
  obtain ⟨o3, o4, o5, o6, o7, o8, o9, o10, o11, o12, h13, h14, h15, h16, h17, hP1, hD1⟩ := hB
  rw [ht] at hP1
  obtain ⟨hP, hD⟩ := va_join (wr := [(a, .inr (1, [.null, .null, .null, .int 0]))]) (w1 := [(n1, .inr (6, [.int 0, .ref o3, .ref o5, .ref o7, .ref o9, .ref o11])), (o3, .inl (cs 0, 4, .inl o4)), (o5, .inl (cs 0, 4, .inl o6)), (o7, .inl (cs 0, 4, .inl o8)), (o9, .inl (cs 0, 4, .inl o10)), (o11, .inl (cs 0, 8, .inl o12))]) hP hD [1] [0] rfl rfl (by decide) (by decide) hk1 hFc hP1 hD1
  generalize H1 = H at hP hS ⊢
  have hP : va_P D classes [(a, .inr (1, [.null, .null, .null, .int 0])), (n1, .inr (6, [.int 0, .ref o3, .ref o5, .ref o7, .ref o9, .ref o11])), (o3, .inl (cs 0, 4, .inl o4)), (o5, .inl (cs 0, 4, .inl o6)), (o7, .inl (cs 0, 4, .inl o8)), (o9, .inl (cs 0, 4, .inl o10)), (o11, .inl (cs 0, 8, .inl o12))] H := hP
  have hD : va_D A [(a, .inr (1, [.null, .null, .null, .int 0])), (n1, .inr (6, [.int 0, .ref o3, .ref o5, .ref o7, .ref o9, .ref o11])), (o3, .inl (cs 0, 4, .inl o4)), (o5, .inl (cs 0, 4, .inl o6)), (o7, .inl (cs 0, 4, .inl o8)), (o9, .inl (cs 0, 4, .inl o10)), (o11, .inl (cs 0, 8, .inl o12))] := hD
  clear hk1 hFc hP1 hD1 hz1
  refine W.widen (k := 6) (n := 30) (Nat.le_of_ble_eq_true rfl) (Nat.le_of_ble_eq_true rfl) ?_
  refine va_putF (D := D) (ci := 1) (v := .ref n1) (ty := .object "HalfFair$Scene") (C := RX1) (T := TX1) (N := 4) hx hb hT i_X1 tyX1 tyX1_ok nmX1 hown hK hP hD hS 0 rfl rfl 1 (by decide) (hT _ q_64) (fun _ h9 => h9) rfl hin rfl (by decide +kernel) rfl rfl (Nat.le_of_ble_eq_true rfl) dX1_init_12 (fun H locs hP hD hS => ?_)
  have hP : va_P D classes [(a, .inr (1, [.null, .ref n1, .null, .int 0])), (n1, .inr (6, [.int 0, .ref o3, .ref o5, .ref o7, .ref o9, .ref o11])), (o3, .inl (cs 0, 4, .inl o4)), (o5, .inl (cs 0, 4, .inl o6)), (o7, .inl (cs 0, 4, .inl o8)), (o9, .inl (cs 0, 4, .inl o10)), (o11, .inl (cs 0, 8, .inl o12))] H := hP
  have hD : va_D A [(a, .inr (1, [.null, .ref n1, .null, .int 0])), (n1, .inr (6, [.int 0, .ref o3, .ref o5, .ref o7, .ref o9, .ref o11])), (o3, .inl (cs 0, 4, .inl o4)), (o5, .inl (cs 0, 4, .inl o6)), (o7, .inl (cs 0, 4, .inl o8)), (o9, .inl (cs 0, 4, .inl o10)), (o11, .inl (cs 0, 8, .inl o12))] := hD
  refine lv_aload_n hx hb dX1_init_15 rfl (lv_at hl 0 rfl) ?_
  refine va_new (D := D) (ci := 9) (fs := [.int 0, .int 0, .int 0, .null, .null, .null, .null]) (C := RX9) (T := TX9) (N := 7) hx hb hT i_X9 tyX9 tyX9_ok hown (hT _ q_1378) (hT _ q_1367) (hT _ q_388) hK hP hD hS hA rfl df_X9 (Nat.le_of_ble_eq_true rfl) (Nat.le_of_ble_eq_true rfl) dX1_init_16 (fun n18 H hP hD hS => ?_)
  have hP : va_P D classes [(a, .inr (1, [.null, .ref n1, .null, .int 0])), (n1, .inr (6, [.int 0, .ref o3, .ref o5, .ref o7, .ref o9, .ref o11])), (o3, .inl (cs 0, 4, .inl o4)), (o5, .inl (cs 0, 4, .inl o6)), (o7, .inl (cs 0, 4, .inl o8)), (o9, .inl (cs 0, 4, .inl o10)), (o11, .inl (cs 0, 8, .inl o12)), (n18, .inr (9, [.int 0, .int 0, .int 0, .null, .null, .null, .null]))] H := hP
  have hD : va_D A [(a, .inr (1, [.null, .ref n1, .null, .int 0])), (n1, .inr (6, [.int 0, .ref o3, .ref o5, .ref o7, .ref o9, .ref o11])), (o3, .inl (cs 0, 4, .inl o4)), (o5, .inl (cs 0, 4, .inl o6)), (o7, .inl (cs 0, 4, .inl o8)), (o9, .inl (cs 0, 4, .inl o10)), (o11, .inl (cs 0, 8, .inl o12)), (n18, .inr (9, [.int 0, .int 0, .int 0, .null, .null, .null, .null]))] := hD
  refine W.widen (k := 7) (n := 37) (Nat.le_of_ble_eq_true rfl) (Nat.le_of_ble_eq_true rfl) ?_
  refine lv_dup hx hb dX1_init_19 rfl ?_
  have hFc := va_free (wc := [(n18, .inr (9, [.int 0, .int 0, .int 0, .null, .null, .null, .null]))]) hD hS hA [7] rfl
  refine va_callv (va_runIN (As := []) (rest := [.ref n18, .ref a]) ⟨hx, hb, hml, hown, hT⟩ (c_X9_init l D cs kK kV n18 H.size) ⟨va_cnB 0 hT (hz_gw q_1340) rfl rfl rfl (hE.2.1 13 (by decide)) (hT _ q_388) (by decide +kernel) ⟨(Nat.le_of_ble_eq_true rfl), (Nat.le_of_ble_eq_true rfl)⟩, rfl, hT _ q_1339⟩ ⟨hz_C.blind, hz_C.mk (hP.sub (ws' := [(n18, .inr (9, [.int 0, .int 0, .int 0, .null, .null, .null, .null]))]) [7] rfl) (hD.sub (ws' := [(n18, .inr (9, [.int 0, .int 0, .int 0, .null, .null, .null, .null]))]) [7] (by decide) rfl) hE hS hFc⟩ rfl rfl hl.1 rfl (lv_room (Nat.le_of_ble_eq_true rfl)) dX1_init_20 ⟨(Nat.le_of_ble_eq_true rfl), (Nat.le_of_ble_eq_true rfl)⟩) hS (fun q _ h => hFc q h) hFc (fun u t H1 locs ht hvm hw hB hz1 hk1 hS => ?_)
  obtain ⟨o20, o21, o22, o23, o24, o25, o26, o27, h28, h29, h30, h31, hP1, hD1⟩ := hB
  rw [ht] at hP1
  obtain ⟨hP, hD⟩ := va_join (wr := [(a, .inr (1, [.null, .ref n1, .null, .int 0])), (n1, .inr (6, [.int 0, .ref o3, .ref o5, .ref o7, .ref o9, .ref o11])), (o3, .inl (cs 0, 4, .inl o4)), (o5, .inl (cs 0, 4, .inl o6)), (o7, .inl (cs 0, 4, .inl o8)), (o9, .inl (cs 0, 4, .inl o10)), (o11, .inl (cs 0, 8, .inl o12))]) (w1 := [(n18, .inr (9, [.int 0, .int 0, .int 0, .ref o20, .ref o22, .ref o24, .ref o26])), (o20, .inl (cs 0, 12, .inl o21)), (o22, .inl (cs 0, 12, .inl o23)), (o24, .inl (cs 0, 12, .inl o25)), (o26, .inl (cs 2, 12, .inl o27))]) hP hD [7] [0, 1, 2, 3, 4, 5, 6] rfl rfl (by decide) (by decide) hk1 hFc hP1 hD1
  generalize H1 = H at hP hS ⊢
  have hP : va_P D classes [(a, .inr (1, [.null, .ref n1, .null, .int 0])), (n1, .inr (6, [.int 0, .ref o3, .ref o5, .ref o7, .ref o9, .ref o11])), (o3, .inl (cs 0, 4, .inl o4)), (o5, .inl (cs 0, 4, .inl o6)), (o7, .inl (cs 0, 4, .inl o8)), (o9, .inl (cs 0, 4, .inl o10)), (o11, .inl (cs 0, 8, .inl o12)), (n18, .inr (9, [.int 0, .int 0, .int 0, .ref o20, .ref o22, .ref o24, .ref o26])), (o20, .inl (cs 0, 12, .inl o21)), (o22, .inl (cs 0, 12, .inl o23)), (o24, .inl (cs 0, 12, .inl o25)), (o26, .inl (cs 2, 12, .inl o27))] H := hP
  have hD : va_D A [(a, .inr (1, [.null, .ref n1, .null, .int 0])), (n1, .inr (6, [.int 0, .ref o3, .ref o5, .ref o7, .ref o9, .ref o11])), (o3, .inl (cs 0, 4, .inl o4)), (o5, .inl (cs 0, 4, .inl o6)), (o7, .inl (cs 0, 4, .inl o8)), (o9, .inl (cs 0, 4, .inl o10)), (o11, .inl (cs 0, 8, .inl o12)), (n18, .inr (9, [.int 0, .int 0, .int 0, .ref o20, .ref o22, .ref o24, .ref o26])), (o20, .inl (cs 0, 12, .inl o21)), (o22, .inl (cs 0, 12, .inl o23)), (o24, .inl (cs 0, 12, .inl o25)), (o26, .inl (cs 2, 12, .inl o27))] := hD
  clear hk1 hFc hP1 hD1 hz1
  refine W.widen (k := 11) (n := 85) (Nat.le_of_ble_eq_true rfl) (Nat.le_of_ble_eq_true rfl) ?_
  refine va_putF (D := D) (ci := 1) (v := .ref n18) (ty := .object "HalfFair$Trials") (C := RX1) (T := TX1) (N := 4) hx hb hT i_X1 tyX1 tyX1_ok nmX1 hown hK hP hD hS 0 rfl rfl 2 (by decide) (hT _ q_65) (fun _ h9 => h9) rfl hin rfl (by decide +kernel) rfl rfl (Nat.le_of_ble_eq_true rfl) dX1_init_23 (fun H locs hP hD hS => ?_)
  have hP : va_P D classes [(a, .inr (1, [.null, .ref n1, .ref n18, .int 0])), (n1, .inr (6, [.int 0, .ref o3, .ref o5, .ref o7, .ref o9, .ref o11])), (o3, .inl (cs 0, 4, .inl o4)), (o5, .inl (cs 0, 4, .inl o6)), (o7, .inl (cs 0, 4, .inl o8)), (o9, .inl (cs 0, 4, .inl o10)), (o11, .inl (cs 0, 8, .inl o12)), (n18, .inr (9, [.int 0, .int 0, .int 0, .ref o20, .ref o22, .ref o24, .ref o26])), (o20, .inl (cs 0, 12, .inl o21)), (o22, .inl (cs 0, 12, .inl o23)), (o24, .inl (cs 0, 12, .inl o25)), (o26, .inl (cs 2, 12, .inl o27))] H := hP
  have hD : va_D A [(a, .inr (1, [.null, .ref n1, .ref n18, .int 0])), (n1, .inr (6, [.int 0, .ref o3, .ref o5, .ref o7, .ref o9, .ref o11])), (o3, .inl (cs 0, 4, .inl o4)), (o5, .inl (cs 0, 4, .inl o6)), (o7, .inl (cs 0, 4, .inl o8)), (o9, .inl (cs 0, 4, .inl o10)), (o11, .inl (cs 0, 8, .inl o12)), (n18, .inr (9, [.int 0, .int 0, .int 0, .ref o20, .ref o22, .ref o24, .ref o26])), (o20, .inl (cs 0, 12, .inl o21)), (o22, .inl (cs 0, 12, .inl o23)), (o24, .inl (cs 0, 12, .inl o25)), (o26, .inl (cs 2, 12, .inl o27))] := hD
  refine W.widen (k := 11) (n := 85) (Nat.le_of_ble_eq_true rfl) (Nat.le_of_ble_eq_true rfl) ?_
  exact W.vret hx hb hr (fun t ht hW => ⟨⟨(), rfl, trivial, n1, o3, o4, o5, o6, o7, o8, o9, o10, o11, o12, n18, o20, o21, o22, o23, o24, o25, o26, o27, h13, h14, h15, h16, h17, h28, h29, h30, h31, by rw [ht]; exact hP.sub [0, 1, 2, 3, 4, 5, 6, 7, 8, 9, 10, 11] rfl, hD.sub [0, 1, 2, 3, 4, 5, 6, 7, 8, 9, 10, 11] (by decide) rfl⟩, hS.F ht⟩) hS.2.2 dX1_init_26
theorem dX0_isTooMany_0 : decode cX0_isTooMany 0 = .ok (.iload_n 1, 1) := by decide +kernel
theorem dX0_isTooMany_1 : decode cX0_isTooMany 1 = .ok (.ifCond .eq 14, 3) := by decide +kernel
theorem dX0_isTooMany_4 : decode cX0_isTooMany 4 = .ok (.aload_n 0, 1) := by decide +kernel
theorem dX0_isTooMany_5 : decode cX0_isTooMany 5 = .ok (.getfield 22, 3) := by decide +kernel
theorem dX0_isTooMany_8 : decode cX0_isTooMany 8 = .ok (.iconst 1, 1) := by decide +kernel
theorem dX0_isTooMany_9 : decode cX0_isTooMany 9 = .ok (.iand, 1) := by decide +kernel
theorem dX0_isTooMany_10 : decode cX0_isTooMany 10 = .ok (.ifCond .ne 5, 3) := by decide +kernel
theorem dX0_isTooMany_13 : decode cX0_isTooMany 13 = .ok (.iconst 1, 1) := by decide +kernel
theorem dX0_isTooMany_14 : decode cX0_isTooMany 14 = .ok (.ireturn, 1) := by decide +kernel
theorem dX0_isTooMany_15 : decode cX0_isTooMany 15 = .ok (.iload_n 1, 1) := by decide +kernel
theorem dX0_isTooMany_16 : decode cX0_isTooMany 16 = .ok (.tableswitch 101 0 7 #[48, 66, 101, 84, 101, 48, 48, 48], 48) := by decide +kernel
theorem dX0_isTooMany_64 : decode cX0_isTooMany 64 = .ok (.aload_n 0, 1) := by decide +kernel
theorem dX0_isTooMany_65 : decode cX0_isTooMany 65 = .ok (.getfield 22, 3) := by decide +kernel
theorem dX0_isTooMany_68 : decode cX0_isTooMany 68 = .ok (.iload_n 1, 1) := by decide +kernel
theorem dX0_isTooMany_69 : decode cX0_isTooMany 69 = .ok (.ishr, 1) := by decide +kernel
theorem dX0_isTooMany_70 : decode cX0_isTooMany 70 = .ok (.iconst 1, 1) := by decide +kernel
theorem dX0_isTooMany_71 : decode cX0_isTooMany 71 = .ok (.iand, 1) := by decide +kernel
theorem dX0_isTooMany_72 : decode cX0_isTooMany 72 = .ok (.iconst 1, 1) := by decide +kernel
theorem dX0_isTooMany_73 : decode cX0_isTooMany 73 = .ok (.if_icmp .ne 7, 3) := by decide +kernel
theorem dX0_isTooMany_76 : decode cX0_isTooMany 76 = .ok (.iconst 1, 1) := by decide +kernel
theorem dX0_isTooMany_77 : decode cX0_isTooMany 77 = .ok (.goto 4, 3) := by decide +kernel
theorem dX0_isTooMany_80 : decode cX0_isTooMany 80 = .ok (.iconst 0, 1) := by decide +kernel
theorem dX0_isTooMany_81 : decode cX0_isTooMany 81 = .ok (.ireturn, 1) := by decide +kernel
theorem dX0_isTooMany_82 : decode cX0_isTooMany 82 = .ok (.aload_n 0, 1) := by decide +kernel
theorem dX0_isTooMany_83 : decode cX0_isTooMany 83 = .ok (.getfield 18, 3) := by decide +kernel
theorem dX0_isTooMany_86 : decode cX0_isTooMany 86 = .ok (.getfield 99, 3) := by decide +kernel
theorem dX0_isTooMany_89 : decode cX0_isTooMany 89 = .ok (.bipush 12, 2) := by decide +kernel
theorem dX0_isTooMany_91 : decode cX0_isTooMany 91 = .ok (.if_icmp .lt 7, 3) := by decide +kernel
theorem dX0_isTooMany_94 : decode cX0_isTooMany 94 = .ok (.iconst 1, 1) := by decide +kernel
theorem dX0_isTooMany_95 : decode cX0_isTooMany 95 = .ok (.goto 4, 3) := by decide +kernel
theorem dX0_isTooMany_98 : decode cX0_isTooMany 98 = .ok (.iconst 0, 1) := by decide +kernel
theorem dX0_isTooMany_99 : decode cX0_isTooMany 99 = .ok (.ireturn, 1) := by decide +kernel
theorem dX0_isTooMany_100 : decode cX0_isTooMany 100 = .ok (.aload_n 0, 1) := by decide +kernel
theorem dX0_isTooMany_101 : decode cX0_isTooMany 101 = .ok (.getfield 18, 3) := by decide +kernel
theorem dX0_isTooMany_104 : decode cX0_isTooMany 104 = .ok (.getfield 102, 3) := by decide +kernel
theorem dX0_isTooMany_107 : decode cX0_isTooMany 107 = .ok (.iconst 4, 1) := by decide +kernel
theorem dX0_isTooMany_108 : decode cX0_isTooMany 108 = .ok (.if_icmp .lt 7, 3) := by decide +kernel
theorem dX0_isTooMany_111 : decode cX0_isTooMany 111 = .ok (.iconst 1, 1) := by decide +kernel
theorem dX0_isTooMany_112 : decode cX0_isTooMany 112 = .ok (.goto 4, 3) := by decide +kernel
theorem dX0_isTooMany_115 : decode cX0_isTooMany 115 = .ok (.iconst 0, 1) := by decide +kernel
theorem dX0_isTooMany_116 : decode cX0_isTooMany 116 = .ok (.ireturn, 1) := by decide +kernel
theorem dX0_isTooMany_117 : decode cX0_isTooMany 117 = .ok (.iconst 0, 1) := by decide +kernel
theorem dX0_isTooMany_118 : decode cX0_isTooMany 118 = .ok (.ireturn, 1) := by decide +kernel
set_option maxHeartbeats 4000000 in
set_option maxRecDepth 100000 in
theorem c_X0_isTooMany_70 (l : Launch) (D : va_G) (cs : Nat → ClassId) (kK kV : Nat → Nat) (a : Nat) (a_tape : Nat) (a_told : Nat) (a__kindsTold : Int32)  : Met l yX0_isTooMany (hz_w yX0_isTooMany cX0_isTooMany 2 (some .boolean)) ({ frames := 0, cells := 0, slots := 0, locals := 0 }) (va_Pc [.ref a, .int 0] (hz_P D cs kK kV [(a, .inr (0, [.ref a_tape, .ref a_told, .int a__kindsTold]))])) (va_Qi (fun (r : Int32) (_ : Unit) => (r = 0) ∨ (r = 1)) (fun _ t => True) (fun _ => False)) 0 0 (fun _ => False) := by
  refine Met.ofW (cc := cX0_isTooMany) (maxL := 2) (ret := (some .boolean)) (by decide) rfl ?_
  intro p e s m args below meth c s₁ B hml hv
  obtain ⟨rfl, hP, hE⟩ := hv
  have hx := B.exec
  have hb := B.bytes
  have hr := B.returns
  have hT : ∀ w ∈ TB, w.before _ s = true := fun w h => atoms_spec (ws := hz_w yX0_isTooMany cX0_isTooMany 2 (some .boolean)) B.pre w (List.mem_cons_of_mem _ h)
  have hown : s.vm.findClass RX0 = some m.cls := findClass_of_methodNamed B.named
  have hlocks := B.notSynchronized
  clear B
  have hS : va_S (fun _ => False) s.heap s.heap [] := va_S.rf
  have hK := hE.1
  have hl := lv_entry ([.ref a, .int 0]) (n := 2) (Nat.le_of_ble_eq_true rfl)
  rw [lg_entry_eq]
  generalize (lg_sl ([.ref a, .int 0]) ++ List.replicate (2 - (lg_sl ([.ref a, .int 0])).length) Slot.unset).toArray = ls at hl ⊢
  have hl : lv_has ls 2 [(0, .ref a), (1, .int 0)] := hl
  obtain ⟨H, eH⟩ : ∃ z, z = s.heap := ⟨_, rfl⟩
  have hP : va_P D classes [(a, .inr (0, [.ref a_tape, .ref a_told, .int a__kindsTold]))] H := by rw [eH]; exact hP
  have hS : va_S (fun _ => False) s.heap H [] := by rw [eH]; exact hS
  rw [← eH]
  clear eH
  obtain ⟨locs, el⟩ : ∃ z : List Loc, z = [] := ⟨_, rfl⟩
  rw [← el] at hS ⊢
  clear el
  have K15 : ∀ (H : Heap) (locs : List Loc), va_P D classes [(a, .inr (0, [.ref a_tape, .ref a_told, .int a__kindsTold]))] H → va_S (fun _ => False) s.heap H locs → ∀ ls : Array Slot, lv_has ls 2 [(0, .ref a), (1, .int 0)] → W p l e (headSpec (hz_w yX0_isTooMany cX0_isTooMany 2 (some .boolean)) ({ frames := 0, cells := 0, slots := 0, locals := 0 })).room s m [.ref a, .int 0].toArray below meth c H locs 0 0 (MQ below (va_Qi (fun (r : Int32) (_ : Unit) => (r = 0) ∨ (r = 1)) (fun _ t => True) (fun _ => False)) [.ref a, .int 0].toArray s 0 0 (fun _ => False)) (F0 m 15 ls []) := by
    intro   H locs hP hS ls hl
    refine lv_iload_n hx hb dX0_isTooMany_15 rfl (lv_at hl 1 rfl) ?_
    refine lv_tableIn (off := 48) (tgt := 64) hx hb dX0_isTooMany_16 (by decide) (by decide) (by decide) (by decide) ?_
    refine lv_aload_n hx hb dX0_isTooMany_64 rfl (lv_at hl 0 rfl) ?_
    refine va_get (D := D) (ci := 0) (v := .int a__kindsTold) (C := RX0) (T := TX0) (N := 3) hx hb hT i_X0 hown hK hP 0 rfl rfl 2 (by decide) (hT _ q_46) (fun _ h9 => h9) rfl dX0_isTooMany_65 ?_
    refine lv_iload_n hx hb dX0_isTooMany_68 rfl (lv_at hl 1 rfl) ?_
    refine lv_ishr hx hb dX0_isTooMany_69 ?_
    refine lv_topi (fun v1 ev1 => ?_)
    refine lv_iconst (v := 1) hx hb dX0_isTooMany_70 (by decide) ?_
    refine lv_iand hx hb dX0_isTooMany_71 ?_
    refine lv_topi (fun v2 ev2 => ?_)
    have hv2 : IV 0 1 v2 := iv_and2 ev2 (iv_c (a := 1) (b := 1) (by decide))
    refine lv_iconst (v := 1) hx hb dX0_isTooMany_72 (by decide) ?_
    refine lv_icmp_ne (tgt := 80) hx hb dX0_isTooMany_73 (by decide) (fun c3 => ?_) (fun c3 => ?_)
    · have h4 : IV 0 0 v2 := iv_neR c3 hv2 (by decide)
      refine lv_iconst (v := 0) hx hb dX0_isTooMany_80 (by decide) ?_
      exact W.zret (v := 0) hx hb hr rfl (fun t ht hW => ⟨⟨0, (), rfl, (Or.inl (rfl)), trivial⟩, hS.F ht⟩) hS.2.2 dX0_isTooMany_81
    · have h5 : IV 1 1 v2 := iv_eq1 c3 hv2 (iv_c (a := 1) (b := 1) (by decide)) (by decide) (by decide)
      refine lv_iconst (v := 1) hx hb dX0_isTooMany_76 (by decide) ?_
      refine lv_goto (tgt := 81) hx hb dX0_isTooMany_77 (by decide) ?_
      exact W.zret (v := 1) hx hb hr rfl (fun t ht hW => ⟨⟨1, (), rfl, (Or.inr ((rfl))), trivial⟩, hS.F ht⟩) hS.2.2 dX0_isTooMany_81
  refine lv_iload_n hx hb dX0_isTooMany_0 rfl (lv_at hl 1 rfl) ?_
  refine lv_if_eq (tgt := 15) hx hb dX0_isTooMany_1 (by decide) (fun _ => ?_) (fun z => absurd (by decide) z)
  exact K15  H locs (hP.sub (ws' := [(a, .inr (0, [.ref a_tape, .ref a_told, .int a__kindsTold]))]) [0] rfl) hS ls (lv_sub hl [0, 1] rfl)
set_option maxHeartbeats 4000000 in
set_option maxRecDepth 100000 in
theorem c_X7_takeNumber_72 (l : Launch) (D : va_G) (cs : Nat → ClassId) (kK kV : Nat → Nat) (a : Nat) (a_bytes : Nat) (a__length : Int32) (a__place : Int32) (a__fault : Int32) (a_bytes_c : Nat → Int32) (h_a__length : IV 0 400 a__length) (h_a__place : IV 0 400 a__place) (h_a__fault : IV 0 3205 a__fault) (h_a_bytes_c : CI 400 0 255 a_bytes_c) (sz : Nat) : Met l yX7_takeNumber (hz_w yX7_takeNumber cX7_takeNumber 5 (some .int)) ({ frames := 1, cells := 0, slots := 0, locals := 22 }) (va_Pc [.ref a, .int 2, .int 8] (hz_C D cs kK kV sz [(a, .inr (7, [.ref a_bytes, .int a__length, .int a__place, .int a__fault])), (a_bytes, .inl (cs 0, 400, .inl a_bytes_c))])) (va_Qi (fun (r : Int32) (u : (Nat → Int32) × (Nat → Nat → Int32)) => (IV 2 8 r ∧ IV 0 3205 (u.1 0) ∧ IV 0 400 (u.1 1)) ∨ (IV 1 3205 (u.1 0) ∧ IV 0 400 (u.1 1))) (fun u t => va_P D classes [(a, .inr (7, [.ref a_bytes, .int a__length, .int (u.1 1), .int (u.1 0)])), (a_bytes, .inl (cs 0, 400, .inl a_bytes_c))] t.heap ∧ va_D (va_A [(a, .inr (7, [.ref a_bytes, .int a__length, .int a__place, .int a__fault])), (a_bytes, .inl (cs 0, 400, .inl a_bytes_c))] sz) [(a, .inr (7, [.ref a_bytes, .int a__length, .int (u.1 1), .int (u.1 0)])), (a_bytes, .inl (cs 0, 400, .inl a_bytes_c))]) (va_A [(a, .inr (7, [.ref a_bytes, .int a__length, .int a__place, .int a__fault])), (a_bytes, .inl (cs 0, 400, .inl a_bytes_c))] sz)) 0 0 (va_A [(a, .inr (7, [.ref a_bytes, .int a__length, .int a__place, .int a__fault])), (a_bytes, .inl (cs 0, 400, .inl a_bytes_c))] sz) := by
  refine Met.ofW (cc := cX7_takeNumber) (maxL := 5) (ret := (some .int)) (by decide) rfl ?_
  intro p e s m args below meth c s₁ B hml hv
  obtain ⟨rfl, hsz, hP, hD0, hE⟩ := hv
  have hx := B.exec
  have hb := B.bytes
  have hr := B.returns
  have hT : ∀ w ∈ TB, w.before _ s = true := fun w h => atoms_spec (ws := hz_w yX7_takeNumber cX7_takeNumber 5 (some .int)) B.pre w (List.mem_cons_of_mem _ h)
  have hown : s.vm.findClass RX7 = some m.cls := findClass_of_methodNamed B.named
  have hlocks := B.notSynchronized
  clear B
  subst hsz
  have hD := hD0.self (sz := s.heap.size)
  generalize hAe : va_A [(a, .inr (7, [.ref a_bytes, .int a__length, .int a__place, .int a__fault])), (a_bytes, .inl (cs 0, 400, .inl a_bytes_c))] s.heap.size = A at hD hE ⊢
  have hA : ∀ q : Nat, s.heap.size ≤ q → A q := fun q h => by rw [← hAe]; exact Or.inr h
  clear hAe hD0
  have hS : va_S A s.heap s.heap [] := va_S.rf
  have hK := hE.1
  have hl := lv_entry ([.ref a, .int 2, .int 8]) (n := 5) (Nat.le_of_ble_eq_true rfl)
  rw [lg_entry_eq]
  generalize (lg_sl ([.ref a, .int 2, .int 8]) ++ List.replicate (5 - (lg_sl ([.ref a, .int 2, .int 8])).length) Slot.unset).toArray = ls at hl ⊢
  have hl : lv_has ls 5 [(0, .ref a), (1, .int 2), (2, .int 8)] := hl
  obtain ⟨H, eH⟩ : ∃ z, z = s.heap := ⟨_, rfl⟩
  have hP : va_P D classes [(a, .inr (7, [.ref a_bytes, .int a__length, .int a__place, .int a__fault])), (a_bytes, .inl (cs 0, 400, .inl a_bytes_c))] H := by rw [eH]; exact hP
  have hS : va_S A s.heap H [] := by rw [eH]; exact hS
  rw [← eH]
  clear eH
  obtain ⟨locs, el⟩ : ∃ z : List Loc, z = [] := ⟨_, rfl⟩
  rw [← el] at hS ⊢
  clear el
  have K133 : ∀ (k133_L_4 : Int32) (k133_L_3 : Int32) (k133_F_a_2 : Int32), IV 0 400 k133_F_a_2 → IV 0 400 k133_L_3 → ∀ (H : Heap) (locs : List Loc), va_P D classes [(a, .inr (7, [.ref a_bytes, .int a__length, .int k133_F_a_2, .int a__fault])), (a_bytes, .inl (cs 0, 400, .inl a_bytes_c))] H → va_D A [(a, .inr (7, [.ref a_bytes, .int a__length, .int k133_F_a_2, .int a__fault])), (a_bytes, .inl (cs 0, 400, .inl a_bytes_c))] → va_S A s.heap H locs → ∀ ls : Array Slot, lv_has ls 5 [(4, .int k133_L_4), (3, .int k133_L_3), (0, .ref a), (1, .int 2), (2, .int 8)] → W p l e (headSpec (hz_w yX7_takeNumber cX7_takeNumber 5 (some .int)) ({ frames := 1, cells := 0, slots := 0, locals := 22 })).room s m [.ref a, .int 2, .int 8].toArray below meth c H locs 0 0 (MQ below (va_Qi (fun (r : Int32) (u : (Nat → Int32) × (Nat → Nat → Int32)) => (IV 2 8 r ∧ IV 0 3205 (u.1 0) ∧ IV 0 400 (u.1 1)) ∨ (IV 1 3205 (u.1 0) ∧ IV 0 400 (u.1 1))) (fun u t => va_P D classes [(a, .inr (7, [.ref a_bytes, .int a__length, .int (u.1 1), .int (u.1 0)])), (a_bytes, .inl (cs 0, 400, .inl a_bytes_c))] t.heap ∧ va_D A [(a, .inr (7, [.ref a_bytes, .int a__length, .int (u.1 1), .int (u.1 0)])), (a_bytes, .inl (cs 0, 400, .inl a_bytes_c))]) A) [.ref a, .int 2, .int 8].toArray s 0 0 A) (F0 m 133 ls []) := by
    intro k133_L_4 k133_L_3 k133_F_a_2 q133_2 q133_3 H locs hP hD hS ls hl
    refine lv_aload_n hx hb dX7_takeNumber_133 rfl (lv_at hl 2 rfl) ?_
    refine lv_iload_n hx hb dX7_takeNumber_134 rfl (lv_at hl 1 rfl) ?_
    refine lv_iconst (v := 1) hx hb dX7_takeNumber_135 (by decide) ?_
    have hFc := va_free (wc := [(a, .inr (7, [.ref a_bytes, .int a__length, .int k133_F_a_2, .int a__fault]))]) hD hS hA [0] rfl
    refine va_callv (va_runV (As := [.int k133_L_3, .int 1]) (rest := []) ⟨hx, hb, hml, hown, hT⟩ (c_X7_fail l D cs kK kV a k133_L_3 1 a_bytes a__length k133_F_a_2 a__fault q133_3 ((iv_c (by decide))) h_a__fault H.size) (cwV 2 hT (hz_gV q_633 q_445 q_446 q_221 q_447) rfl rfl rfl (by decide +kernel) ⟨(Nat.le_of_ble_eq_true rfl), (Nat.le_of_ble_eq_true rfl)⟩) ⟨hz_C.blind, va_recv hK hP (ci := 7) (q0 := 0) rfl rfl, hz_C.mk (hP.sub (ws' := [(a, .inr (7, [.ref a_bytes, .int a__length, .int k133_F_a_2, .int a__fault]))]) [0] rfl) (hD.sub (ws' := [(a, .inr (7, [.ref a_bytes, .int a__length, .int k133_F_a_2, .int a__fault]))]) [0] (by decide) rfl) hE hS hFc⟩ rfl rfl hl.1 rfl (lv_room (Nat.le_of_ble_eq_true rfl)) dX7_takeNumber_136 ⟨(Nat.le_of_ble_eq_true rfl), (Nat.le_of_ble_eq_true rfl)⟩) hS (fun q _ h => hFc q h) hFc (fun o2 t H1 locs ht hvm hw hB hz1 hk1 hS => ?_)
    obtain ⟨hP1, hD1⟩ := hB
    rw [ht] at hP1
    obtain ⟨hP, hD⟩ := va_join (wr := [(a_bytes, .inl (cs 0, 400, .inl a_bytes_c))]) (w1 := [(a, .inr (7, [.ref a_bytes, .int a__length, .int k133_F_a_2, .int (o2.1 0)]))]) hP hD [0] [1] rfl rfl (by decide) (by decide) hk1 hFc hP1 hD1
    generalize H1 = H at hP hS ⊢
    have hP : va_P D classes [(a_bytes, .inl (cs 0, 400, .inl a_bytes_c)), (a, .inr (7, [.ref a_bytes, .int a__length, .int k133_F_a_2, .int (o2.1 0)]))] H := hP
    have hD : va_D A [(a_bytes, .inl (cs 0, 400, .inl a_bytes_c)), (a, .inr (7, [.ref a_bytes, .int a__length, .int k133_F_a_2, .int (o2.1 0)]))] := hD
    clear hk1 hFc hP1 hD1 hz1
    have h3 := hw
    refine lv_iload hx hb dX7_takeNumber_139 (lv_at hl 0 rfl) ?_
    refine W.widen (k := 0) (n := 0) (Nat.le_of_ble_eq_true rfl) (Nat.le_of_ble_eq_true rfl) ?_
    exact W.iret (v := k133_L_4) hx hb hr (fun t ht hW => ⟨⟨k133_L_4, (fun k => match k with | 0 => o2.1 0 | 1 => k133_F_a_2 | _ => 0, fun _ _ => 0), rfl, (Or.inr ((⟨h3, q133_2⟩))), by rw [ht]; exact hP.sub [1, 0] rfl, hD.sub [1, 0] (by decide) rfl⟩, hS.F ht⟩) hS.2.2 dX7_takeNumber_141
  have K94 : ∀ (k94_L_4 : Int32) (k94_L_3 : Int32) (k94_F_a_2 : Int32), IV 0 400 k94_F_a_2 → IV 0 400 k94_L_3 → ∀ (H : Heap) (locs : List Loc), va_P D classes [(a, .inr (7, [.ref a_bytes, .int a__length, .int k94_F_a_2, .int a__fault])), (a_bytes, .inl (cs 0, 400, .inl a_bytes_c))] H → va_D A [(a, .inr (7, [.ref a_bytes, .int a__length, .int k94_F_a_2, .int a__fault])), (a_bytes, .inl (cs 0, 400, .inl a_bytes_c))] → va_S A s.heap H locs → ∀ ls : Array Slot, lv_has ls 5 [(4, .int k94_L_4), (3, .int k94_L_3), (0, .ref a), (1, .int 2), (2, .int 8)] → W p l e (headSpec (hz_w yX7_takeNumber cX7_takeNumber 5 (some .int)) ({ frames := 1, cells := 0, slots := 0, locals := 22 })).room s m [.ref a, .int 2, .int 8].toArray below meth c H locs 0 0 (MQ below (va_Qi (fun (r : Int32) (u : (Nat → Int32) × (Nat → Nat → Int32)) => (IV 2 8 r ∧ IV 0 3205 (u.1 0) ∧ IV 0 400 (u.1 1)) ∨ (IV 1 3205 (u.1 0) ∧ IV 0 400 (u.1 1))) (fun u t => va_P D classes [(a, .inr (7, [.ref a_bytes, .int a__length, .int (u.1 1), .int (u.1 0)])), (a_bytes, .inl (cs 0, 400, .inl a_bytes_c))] t.heap ∧ va_D A [(a, .inr (7, [.ref a_bytes, .int a__length, .int (u.1 1), .int (u.1 0)])), (a_bytes, .inl (cs 0, 400, .inl a_bytes_c))]) A) [.ref a, .int 2, .int 8].toArray s 0 0 A) (F0 m 94 ls []) := by
    intro k94_L_4 k94_L_3 k94_F_a_2 q94_2 q94_3 H locs hP hD hS ls hl
    refine lv_aload_n hx hb dX7_takeNumber_94 rfl (lv_at hl 2 rfl) ?_
    refine va_get (D := D) (ci := 7) (v := .int k94_F_a_2) (C := RX7) (T := TX7) (N := 4) hx hb hT i_X7 hown hK hP 0 rfl rfl 2 (by decide) (hT _ q_129) (fun _ h9 => h9) rfl dX7_takeNumber_95 ?_
    refine lv_iload_n hx hb dX7_takeNumber_98 rfl (lv_at hl 1 rfl) ?_
    refine lv_icmp_ne (tgt := 111) hx hb dX7_takeNumber_99 (by decide) (fun c4 => ?_) (fun c4 => ?_)
    · refine lv_aload_n hx hb dX7_takeNumber_111 rfl (lv_at hl 2 rfl) ?_
      refine va_get (D := D) (ci := 7) (v := .int k94_F_a_2) (C := RX7) (T := TX7) (N := 4) hx hb hT i_X7 hown hK hP 0 rfl rfl 2 (by decide) (hT _ q_129) (fun _ h9 => h9) rfl dX7_takeNumber_112 ?_
      refine lv_iload_n hx hb dX7_takeNumber_115 rfl (lv_at hl 1 rfl) ?_
      refine lv_isub hx hb dX7_takeNumber_116 ?_
      refine lv_topi (fun v5 ev5 => ?_)
      have hv5 : IV (-400) 400 v5 := iv_sub ev5 q94_2 q94_3 (by decide) (by decide)
      refine lv_iconst (v := 5) hx hb dX7_takeNumber_117 (by decide) ?_
      refine lv_icmp_gt (tgt := 133) hx hb dX7_takeNumber_118 (by decide) (fun c6 => ?_) (fun c6 => ?_)
      · have h7 : IV 6 400 v5 := iv_lt2 c6 (iv_c (a := 5) (b := 5) (by decide)) hv5 (by decide)
        exact K133 k94_L_4 k94_L_3 k94_F_a_2 q94_2 q94_3 H locs (hP.sub (ws' := [(a, .inr (7, [.ref a_bytes, .int a__length, .int k94_F_a_2, .int a__fault])), (a_bytes, .inl (cs 0, 400, .inl a_bytes_c))]) [0, 1] rfl) (hD.sub (ws' := [(a, .inr (7, [.ref a_bytes, .int a__length, .int k94_F_a_2, .int a__fault])), (a_bytes, .inl (cs 0, 400, .inl a_bytes_c))]) [0, 1] (by decide) rfl) hS ls (lv_sub hl [0, 1, 2, 3, 4] rfl)
      · have h8 : IV (-400) 5 v5 := iv_le1 (Int32.not_lt.mp c6) hv5 (iv_c (a := 5) (b := 5) (by decide)) (by decide)
        refine lv_iload hx hb dX7_takeNumber_121 (lv_at hl 0 rfl) ?_
        refine lv_iload_n hx hb dX7_takeNumber_123 rfl (lv_at hl 3 rfl) ?_
        refine lv_icmp_lt (tgt := 133) hx hb dX7_takeNumber_124 (by decide) (fun c9 => ?_) (fun c9 => ?_)
        · have h10 : IV (-2147483648) 1 k94_L_4 := iv_lt1 c9 iv_top (iv_c (a := 2) (b := 2) (by decide)) (by decide)
          exact K133 k94_L_4 k94_L_3 k94_F_a_2 q94_2 q94_3 H locs (hP.sub (ws' := [(a, .inr (7, [.ref a_bytes, .int a__length, .int k94_F_a_2, .int a__fault])), (a_bytes, .inl (cs 0, 400, .inl a_bytes_c))]) [0, 1] rfl) (hD.sub (ws' := [(a, .inr (7, [.ref a_bytes, .int a__length, .int k94_F_a_2, .int a__fault])), (a_bytes, .inl (cs 0, 400, .inl a_bytes_c))]) [0, 1] (by decide) rfl) hS ls (lv_sub hl [0, 1, 2, 3, 4] rfl)
        · have h11 : IV 2 2147483647 k94_L_4 := iv_le2 (Int32.not_lt.mp c9) (iv_c (a := 2) (b := 2) (by decide)) iv_top (by decide)
          refine lv_iload hx hb dX7_takeNumber_127 (lv_at hl 0 rfl) ?_
          refine lv_iload_n hx hb dX7_takeNumber_129 rfl (lv_at hl 4 rfl) ?_
          refine lv_icmp_le (tgt := 139) hx hb dX7_takeNumber_130 (by decide) (fun c12 => ?_) (fun c12 => ?_)
          · have h13 : IV 2 8 k94_L_4 := iv_le1 c12 h11 (iv_c (a := 8) (b := 8) (by decide)) (by decide)
            refine lv_iload hx hb dX7_takeNumber_139 (lv_at hl 0 rfl) ?_
            refine W.widen (k := 0) (n := 0) (Nat.le_of_ble_eq_true rfl) (Nat.le_of_ble_eq_true rfl) ?_
            exact W.iret (v := k94_L_4) hx hb hr (fun t ht hW => ⟨⟨k94_L_4, (fun k => match k with | 0 => a__fault | 1 => k94_F_a_2 | _ => 0, fun _ _ => 0), rfl, (Or.inl (⟨h13, h_a__fault, q94_2⟩)), by rw [ht]; exact hP.sub [0, 1] rfl, hD.sub [0, 1] (by decide) rfl⟩, hS.F ht⟩) hS.2.2 dX7_takeNumber_141
          · have h14 : IV 9 2147483647 k94_L_4 := iv_lt2 (Int32.not_le.mp c12) (iv_c (a := 8) (b := 8) (by decide)) h11 (by decide)
            exact K133 k94_L_4 k94_L_3 k94_F_a_2 q94_2 q94_3 H locs (hP.sub (ws' := [(a, .inr (7, [.ref a_bytes, .int a__length, .int k94_F_a_2, .int a__fault])), (a_bytes, .inl (cs 0, 400, .inl a_bytes_c))]) [0, 1] rfl) (hD.sub (ws' := [(a, .inr (7, [.ref a_bytes, .int a__length, .int k94_F_a_2, .int a__fault])), (a_bytes, .inl (cs 0, 400, .inl a_bytes_c))]) [0, 1] (by decide) rfl) hS ls (lv_sub hl [0, 1, 2, 3, 4] rfl)
    · refine lv_aload_n hx hb dX7_takeNumber_102 rfl (lv_at hl 2 rfl) ?_
      refine lv_iload_n hx hb dX7_takeNumber_103 rfl (lv_at hl 1 rfl) ?_
      refine lv_iconst (v := 0) hx hb dX7_takeNumber_104 (by decide) ?_
      have hFc := va_free (wc := [(a, .inr (7, [.ref a_bytes, .int a__length, .int k94_F_a_2, .int a__fault]))]) hD hS hA [0] rfl
      refine va_callv (va_runV (As := [.int k94_L_3, .int 0]) (rest := []) ⟨hx, hb, hml, hown, hT⟩ (c_X7_fail l D cs kK kV a k94_L_3 0 a_bytes a__length k94_F_a_2 a__fault q94_3 ((iv_c (by decide))) h_a__fault H.size) (cwV 2 hT (hz_gV q_633 q_445 q_446 q_221 q_447) rfl rfl rfl (by decide +kernel) ⟨(Nat.le_of_ble_eq_true rfl), (Nat.le_of_ble_eq_true rfl)⟩) ⟨hz_C.blind, va_recv hK hP (ci := 7) (q0 := 0) rfl rfl, hz_C.mk (hP.sub (ws' := [(a, .inr (7, [.ref a_bytes, .int a__length, .int k94_F_a_2, .int a__fault]))]) [0] rfl) (hD.sub (ws' := [(a, .inr (7, [.ref a_bytes, .int a__length, .int k94_F_a_2, .int a__fault]))]) [0] (by decide) rfl) hE hS hFc⟩ rfl rfl hl.1 rfl (lv_room (Nat.le_of_ble_eq_true rfl)) dX7_takeNumber_105 ⟨(Nat.le_of_ble_eq_true rfl), (Nat.le_of_ble_eq_true rfl)⟩) hS (fun q _ h => hFc q h) hFc (fun o16 t H1 locs ht hvm hw hB hz1 hk1 hS => ?_)
      obtain ⟨hP1, hD1⟩ := hB
      rw [ht] at hP1
      obtain ⟨hP, hD⟩ := va_join (wr := [(a_bytes, .inl (cs 0, 400, .inl a_bytes_c))]) (w1 := [(a, .inr (7, [.ref a_bytes, .int a__length, .int k94_F_a_2, .int (o16.1 0)]))]) hP hD [0] [1] rfl rfl (by decide) (by decide) hk1 hFc hP1 hD1
      generalize H1 = H at hP hS ⊢
      have hP : va_P D classes [(a_bytes, .inl (cs 0, 400, .inl a_bytes_c)), (a, .inr (7, [.ref a_bytes, .int a__length, .int k94_F_a_2, .int (o16.1 0)]))] H := hP
      have hD : va_D A [(a_bytes, .inl (cs 0, 400, .inl a_bytes_c)), (a, .inr (7, [.ref a_bytes, .int a__length, .int k94_F_a_2, .int (o16.1 0)]))] := hD
      clear hk1 hFc hP1 hD1 hz1
      have h17 := hw
      refine lv_goto (tgt := 139) hx hb dX7_takeNumber_108 (by decide) ?_
      refine lv_iload hx hb dX7_takeNumber_139 (lv_at hl 0 rfl) ?_
      refine W.widen (k := 0) (n := 0) (Nat.le_of_ble_eq_true rfl) (Nat.le_of_ble_eq_true rfl) ?_
      exact W.iret (v := k94_L_4) hx hb hr (fun t ht hW => ⟨⟨k94_L_4, (fun k => match k with | 0 => o16.1 0 | 1 => k94_F_a_2 | _ => 0, fun _ _ => 0), rfl, (Or.inr ((⟨h17, q94_2⟩))), by rw [ht]; exact hP.sub [1, 0] rfl, hD.sub [1, 0] (by decide) rfl⟩, hS.F ht⟩) hS.2.2 dX7_takeNumber_141
  have K12 : ∀ (n : Nat) (k12_L_4 : Int32) (k12_L_3 : Int32) (k12_F_a_2 : Int32), (400 - k12_F_a_2.toInt + 1).toNat ≤ n → IV 0 400 k12_F_a_2 → IV 0 400 k12_L_3 → ∀ (H : Heap) (locs : List Loc), va_P D classes [(a, .inr (7, [.ref a_bytes, .int a__length, .int k12_F_a_2, .int a__fault])), (a_bytes, .inl (cs 0, 400, .inl a_bytes_c))] H → va_D A [(a, .inr (7, [.ref a_bytes, .int a__length, .int k12_F_a_2, .int a__fault])), (a_bytes, .inl (cs 0, 400, .inl a_bytes_c))] → va_S A s.heap H locs → ∀ ls : Array Slot, lv_has ls 5 [(4, .int k12_L_4), (3, .int k12_L_3), (0, .ref a), (1, .int 2), (2, .int 8)] → W p l e (headSpec (hz_w yX7_takeNumber cX7_takeNumber 5 (some .int)) ({ frames := 1, cells := 0, slots := 0, locals := 22 })).room s m [.ref a, .int 2, .int 8].toArray below meth c H locs 0 0 (MQ below (va_Qi (fun (r : Int32) (u : (Nat → Int32) × (Nat → Nat → Int32)) => (IV 2 8 r ∧ IV 0 3205 (u.1 0) ∧ IV 0 400 (u.1 1)) ∨ (IV 1 3205 (u.1 0) ∧ IV 0 400 (u.1 1))) (fun u t => va_P D classes [(a, .inr (7, [.ref a_bytes, .int a__length, .int (u.1 1), .int (u.1 0)])), (a_bytes, .inl (cs 0, 400, .inl a_bytes_c))] t.heap ∧ va_D A [(a, .inr (7, [.ref a_bytes, .int a__length, .int (u.1 1), .int (u.1 0)])), (a_bytes, .inl (cs 0, 400, .inl a_bytes_c))]) A) [.ref a, .int 2, .int 8].toArray s 0 0 A) (F0 m 12 ls []) := by
    intro n
    induction n with
    | zero =>
      intro k12_L_4 k12_L_3 k12_F_a_2 hn q12_2 q12_3 H locs hP hD hS ls hl
      exact absurd hn (by unfold IV at q12_2; omega)
    | succ n ih12 =>
      intro k12_L_4 k12_L_3 k12_F_a_2 hn q12_2 q12_3 H locs hP hD hS ls hl
      have K81 : ∀ (k81_L_4 : Int32), IV 1 400 a__length → IV 0 399 k12_F_a_2 → IV 0 400 k12_L_3 → ∀ (H : Heap) (locs : List Loc), va_P D classes [(a, .inr (7, [.ref a_bytes, .int a__length, .int k12_F_a_2, .int a__fault])), (a_bytes, .inl (cs 0, 400, .inl a_bytes_c))] H → va_D A [(a, .inr (7, [.ref a_bytes, .int a__length, .int k12_F_a_2, .int a__fault])), (a_bytes, .inl (cs 0, 400, .inl a_bytes_c))] → va_S A s.heap H locs → ∀ ls : Array Slot, lv_has ls 5 [(4, .int k81_L_4), (3, .int k12_L_3), (0, .ref a), (1, .int 2), (2, .int 8)] → W p l e (headSpec (hz_w yX7_takeNumber cX7_takeNumber 5 (some .int)) ({ frames := 1, cells := 0, slots := 0, locals := 22 })).room s m [.ref a, .int 2, .int 8].toArray below meth c H locs 0 0 (MQ below (va_Qi (fun (r : Int32) (u : (Nat → Int32) × (Nat → Nat → Int32)) => (IV 2 8 r ∧ IV 0 3205 (u.1 0) ∧ IV 0 400 (u.1 1)) ∨ (IV 1 3205 (u.1 0) ∧ IV 0 400 (u.1 1))) (fun u t => va_P D classes [(a, .inr (7, [.ref a_bytes, .int a__length, .int (u.1 1), .int (u.1 0)])), (a_bytes, .inl (cs 0, 400, .inl a_bytes_c))] t.heap ∧ va_D A [(a, .inr (7, [.ref a_bytes, .int a__length, .int (u.1 1), .int (u.1 0)])), (a_bytes, .inl (cs 0, 400, .inl a_bytes_c))]) A) [.ref a, .int 2, .int 8].toArray s 0 0 A) (F0 m 81 ls []) := by
        intro k81_L_4 q81_1 q81_2 q81_3 H locs hP hD hS ls hl
        refine lv_aload_n hx hb dX7_takeNumber_81 rfl (lv_at hl 2 rfl) ?_
        refine lv_dup hx hb dX7_takeNumber_82 rfl ?_
        refine va_get (D := D) (ci := 7) (v := .int k12_F_a_2) (C := RX7) (T := TX7) (N := 4) hx hb hT i_X7 hown hK hP 0 rfl rfl 2 (by decide) (hT _ q_129) (fun _ h9 => h9) rfl dX7_takeNumber_83 ?_
        refine lv_iconst (v := 1) hx hb dX7_takeNumber_86 (by decide) ?_
        refine lv_iadd hx hb dX7_takeNumber_87 ?_
        refine lv_topi (fun v18 ev18 => ?_)
        have hv18 : IV 1 400 v18 := iv_add ev18 q81_2 (iv_c (a := 1) (b := 1) (by decide)) (by decide) (by decide)
        have dv18 : v18.toInt = k12_F_a_2.toInt + 1 := iv_addE ev18 q81_2 (iv_c (a := 1) (b := 1) (by decide)) (by decide) (by decide) (by decide)
        refine va_put (D := D) (ci := 7) (v := .int v18) (ty := .int) (C := RX7) (T := TX7) (N := 4) hx hb hT i_X7 tyX7 tyX7_ok nmX7 hown hK hP hD hS 0 rfl rfl 2 (by decide) (hT _ q_129) (fun _ h9 => h9) rfl (by decide +kernel) rfl rfl (Nat.le_of_ble_eq_true rfl) dX7_takeNumber_88 (fun H locs hP hD hS => ?_)
        have hP : va_P D classes [(a, .inr (7, [.ref a_bytes, .int a__length, .int v18, .int a__fault])), (a_bytes, .inl (cs 0, 400, .inl a_bytes_c))] H := hP
        have hD : va_D A [(a, .inr (7, [.ref a_bytes, .int a__length, .int v18, .int a__fault])), (a_bytes, .inl (cs 0, 400, .inl a_bytes_c))] := hD
        refine lv_goto (tgt := 12) hx hb dX7_takeNumber_91 (by decide) ?_
        exact ih12 k81_L_4 k12_L_3 v18 (by have h9 := q81_2; unfold IV at h9; have := dv18; omega) (iv_w hv18 (by decide) (by decide)) q81_3 H locs (hP.sub (ws' := [(a, .inr (7, [.ref a_bytes, .int a__length, .int v18, .int a__fault])), (a_bytes, .inl (cs 0, 400, .inl a_bytes_c))]) [0, 1] rfl) (hD.sub (ws' := [(a, .inr (7, [.ref a_bytes, .int a__length, .int v18, .int a__fault])), (a_bytes, .inl (cs 0, 400, .inl a_bytes_c))]) [0, 1] (by decide) rfl) hS ls (lv_sub hl [0, 1, 2, 3, 4] rfl)
      refine lv_aload_n hx hb dX7_takeNumber_12 rfl (lv_at hl 2 rfl) ?_
      refine va_get (D := D) (ci := 7) (v := .int k12_F_a_2) (C := RX7) (T := TX7) (N := 4) hx hb hT i_X7 hown hK hP 0 rfl rfl 2 (by decide) (hT _ q_129) (fun _ h9 => h9) rfl dX7_takeNumber_13 ?_
      refine lv_aload_n hx hb dX7_takeNumber_16 rfl (lv_at hl 2 rfl) ?_
      refine va_get (D := D) (ci := 7) (v := .int a__length) (C := RX7) (T := TX7) (N := 4) hx hb hT i_X7 hown hK hP 0 rfl rfl 1 (by decide) (hT _ q_128) (fun _ h9 => h9) rfl dX7_takeNumber_17 ?_
      refine lv_icmp_ge (tgt := 94) hx hb dX7_takeNumber_20 (by decide) (fun c19 => ?_) (fun c19 => ?_)
      · exact K94 k12_L_4 k12_L_3 k12_F_a_2 q12_2 q12_3 H locs (hP.sub (ws' := [(a, .inr (7, [.ref a_bytes, .int a__length, .int k12_F_a_2, .int a__fault])), (a_bytes, .inl (cs 0, 400, .inl a_bytes_c))]) [0, 1] rfl) (hD.sub (ws' := [(a, .inr (7, [.ref a_bytes, .int a__length, .int k12_F_a_2, .int a__fault])), (a_bytes, .inl (cs 0, 400, .inl a_bytes_c))]) [0, 1] (by decide) rfl) hS ls (lv_sub hl [0, 1, 2, 3, 4] rfl)
      · have h20 : IV 0 399 k12_F_a_2 := iv_lt1 (Int32.not_le.mp c19) q12_2 h_a__length (by decide)
        have h21 : IV 1 400 a__length := iv_lt2 (Int32.not_le.mp c19) q12_2 h_a__length (by decide)
        refine lv_aload_n hx hb dX7_takeNumber_23 rfl (lv_at hl 2 rfl) ?_
        refine va_get (D := D) (ci := 7) (v := .ref a_bytes) (C := RX7) (T := TX7) (N := 4) hx hb hT i_X7 hown hK hP 0 rfl rfl 0 (by decide) (hT _ q_127) (fun _ h9 => h9) rfl dX7_takeNumber_24 ?_
        refine lv_aload_n hx hb dX7_takeNumber_27 rfl (lv_at hl 2 rfl) ?_
        refine va_get (D := D) (ci := 7) (v := .int k12_F_a_2) (C := RX7) (T := TX7) (N := 4) hx hb hT i_X7 hown hK hP 0 rfl rfl 2 (by decide) (hT _ q_129) (fun _ h9 => h9) rfl dX7_takeNumber_28 ?_
        refine va_iald hx hb hK hP 1 0 rfl rfl (iv_v h20 (by decide) (by decide)) dX7_takeNumber_31 ?_
        refine lv_topi (fun v22 ev22 => ?_)
        have hv22 : IV 0 255 v22 := iv_ci ev22 h_a_bytes_c (iv_v h20 (by decide) (by decide))
        refine lv_bipush (v := 48) hx hb dX7_takeNumber_32 (by decide) ?_
        refine lv_icmp_lt (tgt := 94) hx hb dX7_takeNumber_34 (by decide) (fun c23 => ?_) (fun c23 => ?_)
        · have h24 : IV 0 47 v22 := iv_lt1 c23 hv22 (iv_c (a := 48) (b := 48) (by decide)) (by decide)
          exact K94 k12_L_4 k12_L_3 k12_F_a_2 (iv_w h20 (by decide) (by decide)) q12_3 H locs (hP.sub (ws' := [(a, .inr (7, [.ref a_bytes, .int a__length, .int k12_F_a_2, .int a__fault])), (a_bytes, .inl (cs 0, 400, .inl a_bytes_c))]) [0, 1] rfl) (hD.sub (ws' := [(a, .inr (7, [.ref a_bytes, .int a__length, .int k12_F_a_2, .int a__fault])), (a_bytes, .inl (cs 0, 400, .inl a_bytes_c))]) [0, 1] (by decide) rfl) hS ls (lv_sub hl [0, 1, 2, 3, 4] rfl)
        · have h25 : IV 48 255 v22 := iv_le2 (Int32.not_lt.mp c23) (iv_c (a := 48) (b := 48) (by decide)) hv22 (by decide)
          refine lv_aload_n hx hb dX7_takeNumber_37 rfl (lv_at hl 2 rfl) ?_
          refine va_get (D := D) (ci := 7) (v := .ref a_bytes) (C := RX7) (T := TX7) (N := 4) hx hb hT i_X7 hown hK hP 0 rfl rfl 0 (by decide) (hT _ q_127) (fun _ h9 => h9) rfl dX7_takeNumber_38 ?_
          refine lv_aload_n hx hb dX7_takeNumber_41 rfl (lv_at hl 2 rfl) ?_
          refine va_get (D := D) (ci := 7) (v := .int k12_F_a_2) (C := RX7) (T := TX7) (N := 4) hx hb hT i_X7 hown hK hP 0 rfl rfl 2 (by decide) (hT _ q_129) (fun _ h9 => h9) rfl dX7_takeNumber_42 ?_
          refine va_iald hx hb hK hP 1 0 rfl rfl (iv_v h20 (by decide) (by decide)) dX7_takeNumber_45 ?_
          refine hz_ev v22 ev22.symm ?_
          refine lv_bipush (v := 57) hx hb dX7_takeNumber_46 (by decide) ?_
          refine lv_icmp_gt (tgt := 94) hx hb dX7_takeNumber_48 (by decide) (fun c26 => ?_) (fun c26 => ?_)
          · have h27 : IV 58 255 v22 := iv_lt2 c26 (iv_c (a := 57) (b := 57) (by decide)) h25 (by decide)
            exact K94 k12_L_4 k12_L_3 k12_F_a_2 (iv_w h20 (by decide) (by decide)) q12_3 H locs (hP.sub (ws' := [(a, .inr (7, [.ref a_bytes, .int a__length, .int k12_F_a_2, .int a__fault])), (a_bytes, .inl (cs 0, 400, .inl a_bytes_c))]) [0, 1] rfl) (hD.sub (ws' := [(a, .inr (7, [.ref a_bytes, .int a__length, .int k12_F_a_2, .int a__fault])), (a_bytes, .inl (cs 0, 400, .inl a_bytes_c))]) [0, 1] (by decide) rfl) hS ls (lv_sub hl [0, 1, 2, 3, 4] rfl)
          · have h28 : IV 48 57 v22 := iv_le1 (Int32.not_lt.mp c26) h25 (iv_c (a := 57) (b := 57) (by decide)) (by decide)
            refine lv_aload_n hx hb dX7_takeNumber_51 rfl (lv_at hl 2 rfl) ?_
            refine va_get (D := D) (ci := 7) (v := .int k12_F_a_2) (C := RX7) (T := TX7) (N := 4) hx hb hT i_X7 hown hK hP 0 rfl rfl 2 (by decide) (hT _ q_129) (fun _ h9 => h9) rfl dX7_takeNumber_52 ?_
            refine lv_iload_n hx hb dX7_takeNumber_55 rfl (lv_at hl 1 rfl) ?_
            refine lv_isub hx hb dX7_takeNumber_56 ?_
            refine lv_topi (fun v29 ev29 => ?_)
            have hv29 : IV (-400) 399 v29 := iv_sub ev29 h20 q12_3 (by decide) (by decide)
            refine lv_iconst (v := 5) hx hb dX7_takeNumber_57 (by decide) ?_
            refine lv_icmp_ge (tgt := 81) hx hb dX7_takeNumber_58 (by decide) (fun c30 => ?_) (fun c30 => ?_)
            · have h31 : IV 5 399 v29 := iv_le2 c30 (iv_c (a := 5) (b := 5) (by decide)) hv29 (by decide)
              exact K81 k12_L_4 h21 h20 q12_3 H locs (hP.sub (ws' := [(a, .inr (7, [.ref a_bytes, .int a__length, .int k12_F_a_2, .int a__fault])), (a_bytes, .inl (cs 0, 400, .inl a_bytes_c))]) [0, 1] rfl) (hD.sub (ws' := [(a, .inr (7, [.ref a_bytes, .int a__length, .int k12_F_a_2, .int a__fault])), (a_bytes, .inl (cs 0, 400, .inl a_bytes_c))]) [0, 1] (by decide) rfl) hS ls (lv_sub hl [0, 1, 2, 3, 4] rfl)
            · have h32 : IV (-400) 4 v29 := iv_lt1 (Int32.not_le.mp c30) hv29 (iv_c (a := 5) (b := 5) (by decide)) (by decide)
              refine lv_iload hx hb dX7_takeNumber_61 (lv_at hl 0 rfl) ?_
              refine lv_bipush (v := 10) hx hb dX7_takeNumber_63 (by decide) ?_
              refine lv_imul hx hb dX7_takeNumber_65 ?_
              refine lv_topi (fun v33 ev33 => ?_)
              refine lv_aload_n hx hb dX7_takeNumber_66 rfl (lv_at hl 2 rfl) ?_
              refine va_get (D := D) (ci := 7) (v := .ref a_bytes) (C := RX7) (T := TX7) (N := 4) hx hb hT i_X7 hown hK hP 0 rfl rfl 0 (by decide) (hT _ q_127) (fun _ h9 => h9) rfl dX7_takeNumber_67 ?_
              refine lv_aload_n hx hb dX7_takeNumber_70 rfl (lv_at hl 2 rfl) ?_
              refine va_get (D := D) (ci := 7) (v := .int k12_F_a_2) (C := RX7) (T := TX7) (N := 4) hx hb hT i_X7 hown hK hP 0 rfl rfl 2 (by decide) (hT _ q_129) (fun _ h9 => h9) rfl dX7_takeNumber_71 ?_
              refine va_iald hx hb hK hP 1 0 rfl rfl (iv_v h20 (by decide) (by decide)) dX7_takeNumber_74 ?_
              refine hz_ev v22 ev22.symm ?_
              refine lv_iadd hx hb dX7_takeNumber_75 ?_
              refine lv_topi (fun v34 ev34 => ?_)
              refine lv_bipush (v := 48) hx hb dX7_takeNumber_76 (by decide) ?_
              refine lv_isub hx hb dX7_takeNumber_78 ?_
              refine lv_topi (fun v35 ev35 => ?_)
              refine lv_istore (lv' := [(4, .int v35), (3, .int k12_L_3), (0, .ref a), (1, .int 2), (2, .int 8)]) hx hb dX7_takeNumber_79 hl (by decide) rfl (fun ls hl => ?_)
              exact K81 v35 h21 h20 q12_3 H locs (hP.sub (ws' := [(a, .inr (7, [.ref a_bytes, .int a__length, .int k12_F_a_2, .int a__fault])), (a_bytes, .inl (cs 0, 400, .inl a_bytes_c))]) [0, 1] rfl) (hD.sub (ws' := [(a, .inr (7, [.ref a_bytes, .int a__length, .int k12_F_a_2, .int a__fault])), (a_bytes, .inl (cs 0, 400, .inl a_bytes_c))]) [0, 1] (by decide) rfl) hS ls (lv_sub hl [0, 1, 2, 3, 4] rfl)
  refine lv_aload_n hx hb dX7_takeNumber_0 rfl (lv_at hl 0 rfl) ?_
  have hFc := va_free (wc := [(a, .inr (7, [.ref a_bytes, .int a__length, .int a__place, .int a__fault])), (a_bytes, .inl (cs 0, 400, .inl a_bytes_c))]) hD hS hA [0,1] rfl
  refine va_callv (va_runV (As := []) (rest := []) ⟨hx, hb, hml, hown, hT⟩ (c_X7_skipBlanks l D cs kK kV a a_bytes a__length a__place a__fault a_bytes_c h_a__length h_a__place h_a_bytes_c H.size) (cwV 0 hT (hz_gV q_631 q_437 q_438 q_221 q_439) rfl rfl rfl (by decide +kernel) ⟨(Nat.le_of_ble_eq_true rfl), (Nat.le_of_ble_eq_true rfl)⟩) ⟨hz_C.blind, va_recv hK hP (ci := 7) (q0 := 0) rfl rfl, hz_C.mk (hP.sub (ws' := [(a, .inr (7, [.ref a_bytes, .int a__length, .int a__place, .int a__fault])), (a_bytes, .inl (cs 0, 400, .inl a_bytes_c))]) [0,1] rfl) (hD.sub (ws' := [(a, .inr (7, [.ref a_bytes, .int a__length, .int a__place, .int a__fault])), (a_bytes, .inl (cs 0, 400, .inl a_bytes_c))]) [0,1] (by decide) rfl) hE hS hFc⟩ rfl rfl hl.1 rfl (lv_room (Nat.le_of_ble_eq_true rfl)) dX7_takeNumber_1 ⟨(Nat.le_of_ble_eq_true rfl), (Nat.le_of_ble_eq_true rfl)⟩) hS (fun q _ h => hFc q h) hFc (fun u t H1 locs ht hvm hw hB hz1 hk1 hS => ?_)
  obtain ⟨o37, h38, hP1, hD1⟩ := hB
  rw [ht] at hP1
  obtain ⟨hP, hD⟩ := va_join (wr := []) (w1 := [(a, .inr (7, [.ref a_bytes, .int a__length, .int o37, .int a__fault])), (a_bytes, .inl (cs 0, 400, .inl a_bytes_c))]) hP hD [0, 1] [] rfl rfl (by decide) (by decide) hk1 hFc hP1 hD1
  generalize H1 = H at hP hS ⊢
  have hP : va_P D classes [(a, .inr (7, [.ref a_bytes, .int a__length, .int o37, .int a__fault])), (a_bytes, .inl (cs 0, 400, .inl a_bytes_c))] H := hP
  have hD : va_D A [(a, .inr (7, [.ref a_bytes, .int a__length, .int o37, .int a__fault])), (a_bytes, .inl (cs 0, 400, .inl a_bytes_c))] := hD
  clear hk1 hFc hP1 hD1 hz1
  refine lv_aload_n hx hb dX7_takeNumber_4 rfl (lv_at hl 0 rfl) ?_
  refine va_get (D := D) (ci := 7) (v := .int o37) (C := RX7) (T := TX7) (N := 4) hx hb hT i_X7 hown hK hP 0 rfl rfl 2 (by decide) (hT _ q_129) (fun _ h9 => h9) rfl dX7_takeNumber_5 ?_
  refine lv_istore_n (lv' := [(3, .int o37), (0, .ref a), (1, .int 2), (2, .int 8)]) hx hb dX7_takeNumber_8 rfl hl (by decide) rfl (fun ls hl => ?_)
  refine lv_iconst (v := 0) hx hb dX7_takeNumber_9 (by decide) ?_
  refine lv_istore (lv' := [(4, .int 0), (3, .int o37), (0, .ref a), (1, .int 2), (2, .int 8)]) hx hb dX7_takeNumber_10 hl (by decide) rfl (fun ls hl => ?_)
  exact K12 _ 0 o37 o37 (Nat.le_refl _) h38 h38 H locs (hP.sub (ws' := [(a, .inr (7, [.ref a_bytes, .int a__length, .int o37, .int a__fault])), (a_bytes, .inl (cs 0, 400, .inl a_bytes_c))]) [0, 1] rfl) (hD.sub (ws' := [(a, .inr (7, [.ref a_bytes, .int a__length, .int o37, .int a__fault])), (a_bytes, .inl (cs 0, 400, .inl a_bytes_c))]) [0, 1] (by decide) rfl) hS ls (lv_sub hl [0, 1, 2, 3, 4] rfl)
set_option maxHeartbeats 4000000 in
set_option maxRecDepth 100000 in
theorem c_X0_numberTold_71 (l : Launch) (D : va_G) (cs : Nat → ClassId) (kK kV : Nat → Nat) (a : Nat) (a_tape : Nat) (a_told : Nat) (a__kindsTold : Int32) (a_tape_bytes : Nat) (a_tape__length : Int32) (a_tape__place : Int32) (a_tape__fault : Int32) (a_tape_bytes_c : Nat → Int32) (h_a_tape__length : IV 0 400 a_tape__length) (h_a_tape__place : IV 0 400 a_tape__place) (h_a_tape__fault : IV 0 3205 a_tape__fault) (h_a_tape_bytes_c : CI 400 0 255 a_tape_bytes_c) (sz : Nat) : Met l yX0_numberTold (hz_w yX0_numberTold cX0_numberTold 3 (some .int)) ({ frames := 2, cells := 0, slots := 0, locals := 46 }) (va_Pc [.ref a, .int 2, .int 8] (hz_C D cs kK kV sz [(a, .inr (0, [.ref a_tape, .ref a_told, .int a__kindsTold])), (a_tape, .inr (7, [.ref a_tape_bytes, .int a_tape__length, .int a_tape__place, .int a_tape__fault])), (a_tape_bytes, .inl (cs 0, 400, .inl a_tape_bytes_c))])) (va_Qi (fun (r : Int32) (u : (Nat → Int32) × (Nat → Nat → Int32)) => (r = 2 ∧ IV 1 3205 (u.1 0) ∧ IV 1 3205 a_tape__fault ∧ IV 0 400 (u.1 1)) ∨ (IV 2 8 r ∧ IV 0 3205 (u.1 0) ∧ IV 0 0 a_tape__fault ∧ IV 0 400 (u.1 1)) ∨ (IV 1 3205 (u.1 0) ∧ IV 0 0 a_tape__fault ∧ IV 0 400 (u.1 1))) (fun u t => va_P D classes [(a, .inr (0, [.ref a_tape, .ref a_told, .int a__kindsTold])), (a_tape, .inr (7, [.ref a_tape_bytes, .int a_tape__length, .int (u.1 1), .int (u.1 0)])), (a_tape_bytes, .inl (cs 0, 400, .inl a_tape_bytes_c))] t.heap ∧ va_D (va_A [(a, .inr (0, [.ref a_tape, .ref a_told, .int a__kindsTold])), (a_tape, .inr (7, [.ref a_tape_bytes, .int a_tape__length, .int a_tape__place, .int a_tape__fault])), (a_tape_bytes, .inl (cs 0, 400, .inl a_tape_bytes_c))] sz) [(a, .inr (0, [.ref a_tape, .ref a_told, .int a__kindsTold])), (a_tape, .inr (7, [.ref a_tape_bytes, .int a_tape__length, .int (u.1 1), .int (u.1 0)])), (a_tape_bytes, .inl (cs 0, 400, .inl a_tape_bytes_c))]) (va_A [(a, .inr (0, [.ref a_tape, .ref a_told, .int a__kindsTold])), (a_tape, .inr (7, [.ref a_tape_bytes, .int a_tape__length, .int a_tape__place, .int a_tape__fault])), (a_tape_bytes, .inl (cs 0, 400, .inl a_tape_bytes_c))] sz)) 0 0 (va_A [(a, .inr (0, [.ref a_tape, .ref a_told, .int a__kindsTold])), (a_tape, .inr (7, [.ref a_tape_bytes, .int a_tape__length, .int a_tape__place, .int a_tape__fault])), (a_tape_bytes, .inl (cs 0, 400, .inl a_tape_bytes_c))] sz) := by
  refine Met.ofW (cc := cX0_numberTold) (maxL := 3) (ret := (some .int)) (by decide) rfl ?_
  intro p e s m args below meth c s₁ B hml hv
  obtain ⟨rfl, hsz, hP, hD0, hE⟩ := hv
  have hx := B.exec
  have hb := B.bytes
  have hr := B.returns
  have hT : ∀ w ∈ TB, w.before _ s = true := fun w h => atoms_spec (ws := hz_w yX0_numberTold cX0_numberTold 3 (some .int)) B.pre w (List.mem_cons_of_mem _ h)
  have hown : s.vm.findClass RX0 = some m.cls := findClass_of_methodNamed B.named
  have hlocks := B.notSynchronized
  clear B
  subst hsz
  have hD := hD0.self (sz := s.heap.size)
  generalize hAe : va_A [(a, .inr (0, [.ref a_tape, .ref a_told, .int a__kindsTold])), (a_tape, .inr (7, [.ref a_tape_bytes, .int a_tape__length, .int a_tape__place, .int a_tape__fault])), (a_tape_bytes, .inl (cs 0, 400, .inl a_tape_bytes_c))] s.heap.size = A at hD hE ⊢
  have hA : ∀ q : Nat, s.heap.size ≤ q → A q := fun q h => by rw [← hAe]; exact Or.inr h
  clear hAe hD0
  have hS : va_S A s.heap s.heap [] := va_S.rf
  have hK := hE.1
  have hl := lv_entry ([.ref a, .int 2, .int 8]) (n := 3) (Nat.le_of_ble_eq_true rfl)
  rw [lg_entry_eq]
  generalize (lg_sl ([.ref a, .int 2, .int 8]) ++ List.replicate (3 - (lg_sl ([.ref a, .int 2, .int 8])).length) Slot.unset).toArray = ls at hl ⊢
  have hl : lv_has ls 3 [(0, .ref a), (1, .int 2), (2, .int 8)] := hl
  obtain ⟨H, eH⟩ : ∃ z, z = s.heap := ⟨_, rfl⟩
  have hP : va_P D classes [(a, .inr (0, [.ref a_tape, .ref a_told, .int a__kindsTold])), (a_tape, .inr (7, [.ref a_tape_bytes, .int a_tape__length, .int a_tape__place, .int a_tape__fault])), (a_tape_bytes, .inl (cs 0, 400, .inl a_tape_bytes_c))] H := by rw [eH]; exact hP
  have hS : va_S A s.heap H [] := by rw [eH]; exact hS
  rw [← eH]
  clear eH
  obtain ⟨locs, el⟩ : ∃ z : List Loc, z = [] := ⟨_, rfl⟩
  rw [← el] at hS ⊢
  clear el
  refine lv_aload_n hx hb dX0_numberTold_0 rfl (lv_at hl 0 rfl) ?_
  refine va_get (D := D) (ci := 0) (v := .ref a_tape) (C := RX0) (T := TX0) (N := 3) hx hb hT i_X0 hown hK hP 0 rfl rfl 0 (by decide) (hT _ q_44) (fun _ h9 => h9) rfl dX0_numberTold_1 ?_
  refine va_calli (va_runV (As := []) (rest := []) ⟨hx, hb, hml, hown, hT⟩ (c_X7_isSound l D cs kK kV a_tape a_tape_bytes a_tape__length a_tape__place a_tape__fault h_a_tape__fault) (cwV 0 hT (hz_gV q_420 q_421 q_422 q_221 q_423) rfl rfl rfl (by decide +kernel) ⟨(Nat.le_of_ble_eq_true rfl), (Nat.le_of_ble_eq_true rfl)⟩) ⟨hz_P.blind, va_recv hK hP (ci := 7) (q0 := 1) rfl rfl, hz_P.mk (hP.sub (ws' := [(a_tape, .inr (7, [.ref a_tape_bytes, .int a_tape__length, .int a_tape__place, .int a_tape__fault]))]) [1] rfl) hE hS⟩ rfl rfl hl.1 rfl (lv_room (Nat.le_of_ble_eq_true rfl)) dX0_numberTold_4 ⟨(Nat.le_of_ble_eq_true rfl), (Nat.le_of_ble_eq_true rfl)⟩) hS (fun _ _ h => h.elim) (fun _ h => h.elim) (fun r1 u t H1 locs ht hvm hw hB hz1 hk1 hS => ?_)
  have hP := hz_keep hP hk1
  clear hk1 hB hz1
  generalize H1 = H at hP hS ⊢
  rcases hw with ⟨rfl, h2⟩ | ⟨rfl, h3⟩
  · refine lv_if_eq (tgt := 22) hx hb dX0_numberTold_7 (by decide) (fun _ => ?_) (fun z => absurd (by decide) z)
    refine lv_iload_n hx hb dX0_numberTold_22 rfl (lv_at hl 1 rfl) ?_
    refine W.widen (k := 0) (n := 0) (Nat.le_of_ble_eq_true rfl) (Nat.le_of_ble_eq_true rfl) ?_
    exact W.iret (v := 2) hx hb hr (fun t ht hW => ⟨⟨2, (fun k => match k with | 0 => a_tape__fault | 1 => a_tape__place | _ => 0, fun _ _ => 0), rfl, (Or.inl (⟨rfl, h2, h2, h_a_tape__place⟩)), by rw [ht]; exact hP.sub [0, 1, 2] rfl, hD.sub [0, 1, 2] (by decide) rfl⟩, hS.F ht⟩) hS.2.2 dX0_numberTold_23
  · refine lv_if_eq (tgt := 22) hx hb dX0_numberTold_7 (by decide) (fun z => absurd z (by decide)) (fun _ => ?_)
    refine lv_aload_n hx hb dX0_numberTold_10 rfl (lv_at hl 0 rfl) ?_
    refine va_get (D := D) (ci := 0) (v := .ref a_tape) (C := RX0) (T := TX0) (N := 3) hx hb hT i_X0 hown hK hP 0 rfl rfl 0 (by decide) (hT _ q_44) (fun _ h9 => h9) rfl dX0_numberTold_11 ?_
    refine lv_iload_n hx hb dX0_numberTold_14 rfl (lv_at hl 1 rfl) ?_
    refine lv_iload_n hx hb dX0_numberTold_15 rfl (lv_at hl 2 rfl) ?_
    have hFc := va_free (wc := [(a_tape, .inr (7, [.ref a_tape_bytes, .int a_tape__length, .int a_tape__place, .int a_tape__fault])), (a_tape_bytes, .inl (cs 0, 400, .inl a_tape_bytes_c))]) hD hS hA [1,2] rfl
    refine va_calli (va_runV (As := [.int 2, .int 8]) (rest := []) ⟨hx, hb, hml, hown, hT⟩ (c_X7_takeNumber_72 l D cs kK kV a_tape a_tape_bytes a_tape__length a_tape__place a_tape__fault a_tape_bytes_c h_a_tape__length h_a_tape__place ((iv_w h3 (by decide) (by decide))) h_a_tape_bytes_c H.size) (cwV 2 hT (hz_gV q_472 q_473 q_474 q_221 q_475) rfl rfl rfl (by decide +kernel) ⟨(Nat.le_of_ble_eq_true rfl), (Nat.le_of_ble_eq_true rfl)⟩) ⟨hz_C.blind, va_recv hK hP (ci := 7) (q0 := 1) rfl rfl, hz_C.mk (hP.sub (ws' := [(a_tape, .inr (7, [.ref a_tape_bytes, .int a_tape__length, .int a_tape__place, .int a_tape__fault])), (a_tape_bytes, .inl (cs 0, 400, .inl a_tape_bytes_c))]) [1,2] rfl) (hD.sub (ws' := [(a_tape, .inr (7, [.ref a_tape_bytes, .int a_tape__length, .int a_tape__place, .int a_tape__fault])), (a_tape_bytes, .inl (cs 0, 400, .inl a_tape_bytes_c))]) [1,2] (by decide) rfl) hE hS hFc⟩ rfl rfl hl.1 rfl (lv_room (Nat.le_of_ble_eq_true rfl)) dX0_numberTold_16 ⟨(Nat.le_of_ble_eq_true rfl), (Nat.le_of_ble_eq_true rfl)⟩) hS (fun q _ h => hFc q h) hFc (fun r4 o5 t H1 locs ht hvm hw hB hz1 hk1 hS => ?_)
    obtain ⟨hP1, hD1⟩ := hB
    rw [ht] at hP1
    obtain ⟨hP, hD⟩ := va_join (wr := [(a, .inr (0, [.ref a_tape, .ref a_told, .int a__kindsTold]))]) (w1 := [(a_tape, .inr (7, [.ref a_tape_bytes, .int a_tape__length, .int (o5.1 1), .int (o5.1 0)])), (a_tape_bytes, .inl (cs 0, 400, .inl a_tape_bytes_c))]) hP hD [1, 2] [0] rfl rfl (by decide) (by decide) hk1 hFc hP1 hD1
    generalize H1 = H at hP hS ⊢
    have hP : va_P D classes [(a, .inr (0, [.ref a_tape, .ref a_told, .int a__kindsTold])), (a_tape, .inr (7, [.ref a_tape_bytes, .int a_tape__length, .int (o5.1 1), .int (o5.1 0)])), (a_tape_bytes, .inl (cs 0, 400, .inl a_tape_bytes_c))] H := hP
    have hD : va_D A [(a, .inr (0, [.ref a_tape, .ref a_told, .int a__kindsTold])), (a_tape, .inr (7, [.ref a_tape_bytes, .int a_tape__length, .int (o5.1 1), .int (o5.1 0)])), (a_tape_bytes, .inl (cs 0, 400, .inl a_tape_bytes_c))] := hD
    clear hk1 hFc hP1 hD1 hz1
    rcases hw with ⟨h6, h7, h8⟩ | ⟨h9, h10⟩
    · refine lv_goto (tgt := 23) hx hb dX0_numberTold_19 (by decide) ?_
      refine W.widen (k := 0) (n := 0) (Nat.le_of_ble_eq_true rfl) (Nat.le_of_ble_eq_true rfl) ?_
      exact W.iret (v := r4) hx hb hr (fun t ht hW => ⟨⟨r4, (fun k => match k with | 0 => o5.1 0 | 1 => o5.1 1 | _ => 0, fun _ _ => 0), rfl, (Or.inr (Or.inl (⟨h6, h7, h3, h8⟩))), by rw [ht]; exact hP.sub [0, 1, 2] rfl, hD.sub [0, 1, 2] (by decide) rfl⟩, hS.F ht⟩) hS.2.2 dX0_numberTold_23
    · refine lv_goto (tgt := 23) hx hb dX0_numberTold_19 (by decide) ?_
      refine W.widen (k := 0) (n := 0) (Nat.le_of_ble_eq_true rfl) (Nat.le_of_ble_eq_true rfl) ?_
      exact W.iret (v := r4) hx hb hr (fun t ht hW => ⟨⟨r4, (fun k => match k with | 0 => o5.1 0 | 1 => o5.1 1 | _ => 0, fun _ _ => 0), rfl, (Or.inr (Or.inr ((⟨h9, h3, h10⟩)))), by rw [ht]; exact hP.sub [0, 1, 2] rfl, hD.sub [0, 1, 2] (by decide) rfl⟩, hS.F ht⟩) hS.2.2 dX0_numberTold_23
