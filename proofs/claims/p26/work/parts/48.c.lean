theorem dX11_forgers_0 : decode cX11_forgers 0 = .ok (.aload_n 0, 1) := by decide +kernel
theorem dX11_forgers_1 : decode cX11_forgers 1 = .ok (.invokevirtual 232, 3) := by decide +kernel
theorem dX11_forgers_4 : decode cX11_forgers 4 = .ok (.ifCond .eq 12, 3) := by decide +kernel
theorem dX11_forgers_7 : decode cX11_forgers 7 = .ok (.iload_n 1, 1) := by decide +kernel
theorem dX11_forgers_8 : decode cX11_forgers 8 = .ok (.ifCond .lt 8, 3) := by decide +kernel
theorem dX11_forgers_11 : decode cX11_forgers 11 = .ok (.iload_n 1, 1) := by decide +kernel
theorem dX11_forgers_12 : decode cX11_forgers 12 = .ok (.iconst 1, 1) := by decide +kernel
theorem dX11_forgers_13 : decode cX11_forgers 13 = .ok (.if_icmp .le 5, 3) := by decide +kernel
theorem dX11_forgers_16 : decode cX11_forgers 16 = .ok (.iconst (-1), 1) := by decide +kernel
theorem dX11_forgers_17 : decode cX11_forgers 17 = .ok (.ireturn, 1) := by decide +kernel
theorem dX11_forgers_18 : decode cX11_forgers 18 = .ok (.aload_n 0, 1) := by decide +kernel
theorem dX11_forgers_19 : decode cX11_forgers 19 = .ok (.getfield 60, 3) := by decide +kernel
theorem dX11_forgers_22 : decode cX11_forgers 22 = .ok (.aload_n 0, 1) := by decide +kernel
theorem dX11_forgers_23 : decode cX11_forgers 23 = .ok (.getfield 39, 3) := by decide +kernel
theorem dX11_forgers_26 : decode cX11_forgers 26 = .ok (.invokevirtual 303, 3) := by decide +kernel
theorem dX11_forgers_29 : decode cX11_forgers 29 = .ok (.iload_n 1, 1) := by decide +kernel
theorem dX11_forgers_30 : decode cX11_forgers 30 = .ok (.ifCond .ne 13, 3) := by decide +kernel
theorem dX11_forgers_33 : decode cX11_forgers 33 = .ok (.aload_n 0, 1) := by decide +kernel
theorem dX11_forgers_34 : decode cX11_forgers 34 = .ok (.getfield 60, 3) := by decide +kernel
theorem dX11_forgers_37 : decode cX11_forgers 37 = .ok (.getfield 306, 3) := by decide +kernel
theorem dX11_forgers_40 : decode cX11_forgers 40 = .ok (.goto 10, 3) := by decide +kernel
theorem dX11_forgers_43 : decode cX11_forgers 43 = .ok (.aload_n 0, 1) := by decide +kernel
theorem dX11_forgers_44 : decode cX11_forgers 44 = .ok (.getfield 60, 3) := by decide +kernel
theorem dX11_forgers_47 : decode cX11_forgers 47 = .ok (.getfield 309, 3) := by decide +kernel
theorem dX11_forgers_50 : decode cX11_forgers 50 = .ok (.ireturn, 1) := by decide +kernel
set_option maxHeartbeats 4000000 in
set_option maxRecDepth 100000 in
theorem c_X11_forgers (l : Launch) (D : va_G) (cs : Nat → ClassId) (kK kV : Nat → Nat) (a : Nat) (p0 : Int32) (a_tape : Nat) (a_fairReader : Nat) (a_ruleReader : Nat) (a_rules : Nat) (a__ruleCount : Int32) (a_told : Nat) (a_scene : Nat) (a_spare : Nat) (a_past : Nat) (a__pastFirst : Int32) (a__pastCount : Int32) (a_trials : Nat) (a_images : Nat) (a_pairs : Nat) (a_walker : Nat) (a_market : Nat) (a__x : Int32) (a_told__stalls : Int32) (a_told__shift : Int32) (a_told__halves : Int32) (a_told__buyers : Int32) (a_told__near : Int32) (a_told__dusk : Int32) (a_told__duskPrice : Int32) (a_told__hear : Int32) (a_told__forged : Int32) (a_told_stall : Nat) (a_told_shape : Nat) (a_told_side : Nat) (a_told_price : Nat) (a_told_purse : Nat) (a_told_spot : Nat) (a_told_club : Nat) (a_told_fitting : Nat) (a_told_nearly : Nat) (a_trials__size : Int32) (a_trials__fewest : Int32) (a_trials__honest : Int32) (a_trials_pair : Nat) (a_trials_one : Nat) (a_trials_other : Nat) (a_trials_fitted : Nat) (a_trials_one_c : Nat → Int32) (a_trials_other_c : Nat → Int32) (a_told_side_c : Nat → Int32) (a_told_shape_c : Nat → Int32) (a_trials_fitted_c : Nat → Int32) (a_trials_pair_c : Nat → Int32) (h_a_told__stalls : IV 0 8 a_told__stalls) (h_a_told__halves : IV 0 12 a_told__halves) (h_a_trials__size : IV 0 12 a_trials__size) (h_a_trials_one_c : CI 12 0 11 a_trials_one_c) (h_a_trials_other_c : CI 12 0 11 a_trials_other_c) (sz : Nat) : Met l yX11_forgers (hz_w yX11_forgers cX11_forgers 2 (some .int)) ({ frames := 3, cells := 0, slots := 0, locals := 73 }) (va_Pc [.ref a, .int p0] (hz_C D cs kK kV sz [(a, .inr (11, [.ref a_tape, .ref a_fairReader, .ref a_ruleReader, .ref a_rules, .int a__ruleCount, .ref a_told, .ref a_scene, .ref a_spare, .ref a_past, .int a__pastFirst, .int a__pastCount, .ref a_trials, .ref a_images, .ref a_pairs, .ref a_walker, .ref a_market, .int a__x])), (a_told, .inr (8, [.int a_told__stalls, .int a_told__shift, .int a_told__halves, .int a_told__buyers, .int a_told__near, .int a_told__dusk, .int a_told__duskPrice, .int a_told__hear, .int a_told__forged, .ref a_told_stall, .ref a_told_shape, .ref a_told_side, .ref a_told_price, .ref a_told_purse, .ref a_told_spot, .ref a_told_club, .ref a_told_fitting, .ref a_told_nearly])), (a_trials, .inr (9, [.int a_trials__size, .int a_trials__fewest, .int a_trials__honest, .ref a_trials_pair, .ref a_trials_one, .ref a_trials_other, .ref a_trials_fitted])), (a_trials_one, .inl (cs 0, 12, .inl a_trials_one_c)), (a_trials_other, .inl (cs 0, 12, .inl a_trials_other_c)), (a_told_side, .inl (cs 0, 12, .inl a_told_side_c)), (a_told_shape, .inl (cs 0, 12, .inl a_told_shape_c)), (a_trials_fitted, .inl (cs 2, 12, .inl a_trials_fitted_c)), (a_trials_pair, .inl (cs 0, 12, .inl a_trials_pair_c))])) (va_Qi (fun (r : Int32) (_ : Unit) => (r = (-1)) ∨ (IV (-2) 4095 r ∧ IV 1 8 a_told__stalls ∧ IV 0 1 p0)) (fun _ t => ∃ (o_a_trials_1 : Int32), ∃ (o_a_trials_2 : Int32), ∃ (o_a_trials_pair_c : Nat → Int32), va_P D classes [(a, .inr (11, [.ref a_tape, .ref a_fairReader, .ref a_ruleReader, .ref a_rules, .int a__ruleCount, .ref a_told, .ref a_scene, .ref a_spare, .ref a_past, .int a__pastFirst, .int a__pastCount, .ref a_trials, .ref a_images, .ref a_pairs, .ref a_walker, .ref a_market, .int a__x])), (a_told, .inr (8, [.int a_told__stalls, .int a_told__shift, .int a_told__halves, .int a_told__buyers, .int a_told__near, .int a_told__dusk, .int a_told__duskPrice, .int a_told__hear, .int a_told__forged, .ref a_told_stall, .ref a_told_shape, .ref a_told_side, .ref a_told_price, .ref a_told_purse, .ref a_told_spot, .ref a_told_club, .ref a_told_fitting, .ref a_told_nearly])), (a_trials, .inr (9, [.int a_trials__size, .int o_a_trials_1, .int o_a_trials_2, .ref a_trials_pair, .ref a_trials_one, .ref a_trials_other, .ref a_trials_fitted])), (a_trials_one, .inl (cs 0, 12, .inl a_trials_one_c)), (a_trials_other, .inl (cs 0, 12, .inl a_trials_other_c)), (a_told_side, .inl (cs 0, 12, .inl a_told_side_c)), (a_told_shape, .inl (cs 0, 12, .inl a_told_shape_c)), (a_trials_fitted, .inl (cs 2, 12, .inl a_trials_fitted_c)), (a_trials_pair, .inl (cs 0, 12, .inl o_a_trials_pair_c))] t.heap ∧ va_D (va_A [(a, .inr (11, [.ref a_tape, .ref a_fairReader, .ref a_ruleReader, .ref a_rules, .int a__ruleCount, .ref a_told, .ref a_scene, .ref a_spare, .ref a_past, .int a__pastFirst, .int a__pastCount, .ref a_trials, .ref a_images, .ref a_pairs, .ref a_walker, .ref a_market, .int a__x])), (a_told, .inr (8, [.int a_told__stalls, .int a_told__shift, .int a_told__halves, .int a_told__buyers, .int a_told__near, .int a_told__dusk, .int a_told__duskPrice, .int a_told__hear, .int a_told__forged, .ref a_told_stall, .ref a_told_shape, .ref a_told_side, .ref a_told_price, .ref a_told_purse, .ref a_told_spot, .ref a_told_club, .ref a_told_fitting, .ref a_told_nearly])), (a_trials, .inr (9, [.int a_trials__size, .int a_trials__fewest, .int a_trials__honest, .ref a_trials_pair, .ref a_trials_one, .ref a_trials_other, .ref a_trials_fitted])), (a_trials_one, .inl (cs 0, 12, .inl a_trials_one_c)), (a_trials_other, .inl (cs 0, 12, .inl a_trials_other_c)), (a_told_side, .inl (cs 0, 12, .inl a_told_side_c)), (a_told_shape, .inl (cs 0, 12, .inl a_told_shape_c)), (a_trials_fitted, .inl (cs 2, 12, .inl a_trials_fitted_c)), (a_trials_pair, .inl (cs 0, 12, .inl a_trials_pair_c))] sz) [(a, .inr (11, [.ref a_tape, .ref a_fairReader, .ref a_ruleReader, .ref a_rules, .int a__ruleCount, .ref a_told, .ref a_scene, .ref a_spare, .ref a_past, .int a__pastFirst, .int a__pastCount, .ref a_trials, .ref a_images, .ref a_pairs, .ref a_walker, .ref a_market, .int a__x])), (a_told, .inr (8, [.int a_told__stalls, .int a_told__shift, .int a_told__halves, .int a_told__buyers, .int a_told__near, .int a_told__dusk, .int a_told__duskPrice, .int a_told__hear, .int a_told__forged, .ref a_told_stall, .ref a_told_shape, .ref a_told_side, .ref a_told_price, .ref a_told_purse, .ref a_told_spot, .ref a_told_club, .ref a_told_fitting, .ref a_told_nearly])), (a_trials, .inr (9, [.int a_trials__size, .int o_a_trials_1, .int o_a_trials_2, .ref a_trials_pair, .ref a_trials_one, .ref a_trials_other, .ref a_trials_fitted])), (a_trials_one, .inl (cs 0, 12, .inl a_trials_one_c)), (a_trials_other, .inl (cs 0, 12, .inl a_trials_other_c)), (a_told_side, .inl (cs 0, 12, .inl a_told_side_c)), (a_told_shape, .inl (cs 0, 12, .inl a_told_shape_c)), (a_trials_fitted, .inl (cs 2, 12, .inl a_trials_fitted_c)), (a_trials_pair, .inl (cs 0, 12, .inl o_a_trials_pair_c))]) (va_A [(a, .inr (11, [.ref a_tape, .ref a_fairReader, .ref a_ruleReader, .ref a_rules, .int a__ruleCount, .ref a_told, .ref a_scene, .ref a_spare, .ref a_past, .int a__pastFirst, .int a__pastCount, .ref a_trials, .ref a_images, .ref a_pairs, .ref a_walker, .ref a_market, .int a__x])), (a_told, .inr (8, [.int a_told__stalls, .int a_told__shift, .int a_told__halves, .int a_told__buyers, .int a_told__near, .int a_told__dusk, .int a_told__duskPrice, .int a_told__hear, .int a_told__forged, .ref a_told_stall, .ref a_told_shape, .ref a_told_side, .ref a_told_price, .ref a_told_purse, .ref a_told_spot, .ref a_told_club, .ref a_told_fitting, .ref a_told_nearly])), (a_trials, .inr (9, [.int a_trials__size, .int a_trials__fewest, .int a_trials__honest, .ref a_trials_pair, .ref a_trials_one, .ref a_trials_other, .ref a_trials_fitted])), (a_trials_one, .inl (cs 0, 12, .inl a_trials_one_c)), (a_trials_other, .inl (cs 0, 12, .inl a_trials_other_c)), (a_told_side, .inl (cs 0, 12, .inl a_told_side_c)), (a_told_shape, .inl (cs 0, 12, .inl a_told_shape_c)), (a_trials_fitted, .inl (cs 2, 12, .inl a_trials_fitted_c)), (a_trials_pair, .inl (cs 0, 12, .inl a_trials_pair_c))] sz)) 0 0 (va_A [(a, .inr (11, [.ref a_tape, .ref a_fairReader, .ref a_ruleReader, .ref a_rules, .int a__ruleCount, .ref a_told, .ref a_scene, .ref a_spare, .ref a_past, .int a__pastFirst, .int a__pastCount, .ref a_trials, .ref a_images, .ref a_pairs, .ref a_walker, .ref a_market, .int a__x])), (a_told, .inr (8, [.int a_told__stalls, .int a_told__shift, .int a_told__halves, .int a_told__buyers, .int a_told__near, .int a_told__dusk, .int a_told__duskPrice, .int a_told__hear, .int a_told__forged, .ref a_told_stall, .ref a_told_shape, .ref a_told_side, .ref a_told_price, .ref a_told_purse, .ref a_told_spot, .ref a_told_club, .ref a_told_fitting, .ref a_told_nearly])), (a_trials, .inr (9, [.int a_trials__size, .int a_trials__fewest, .int a_trials__honest, .ref a_trials_pair, .ref a_trials_one, .ref a_trials_other, .ref a_trials_fitted])), (a_trials_one, .inl (cs 0, 12, .inl a_trials_one_c)), (a_trials_other, .inl (cs 0, 12, .inl a_trials_other_c)), (a_told_side, .inl (cs 0, 12, .inl a_told_side_c)), (a_told_shape, .inl (cs 0, 12, .inl a_told_shape_c)), (a_trials_fitted, .inl (cs 2, 12, .inl a_trials_fitted_c)), (a_trials_pair, .inl (cs 0, 12, .inl a_trials_pair_c))] sz) := by
  refine Met.ofW (cc := cX11_forgers) (maxL := 2) (ret := (some .int)) (by decide) rfl ?_
  intro p e s m args below meth c s₁ B hml hv
  obtain ⟨rfl, hsz, hP, hD0, hE⟩ := hv
  have hx := B.exec
  have hb := B.bytes
  have hr := B.returns
  have hT : ∀ w ∈ TB, w.before _ s = true := fun w h => atoms_spec (ws := hz_w yX11_forgers cX11_forgers 2 (some .int)) B.pre w (List.mem_cons_of_mem _ h)
  have hown : s.vm.findClass RX11 = some m.cls := findClass_of_methodNamed B.named
  have hlocks := B.notSynchronized
  clear B
  subst hsz
  have hD := hD0.self (sz := s.heap.size)
  generalize hAe : va_A [(a, .inr (11, [.ref a_tape, .ref a_fairReader, .ref a_ruleReader, .ref a_rules, .int a__ruleCount, .ref a_told, .ref a_scene, .ref a_spare, .ref a_past, .int a__pastFirst, .int a__pastCount, .ref a_trials, .ref a_images, .ref a_pairs, .ref a_walker, .ref a_market, .int a__x])), (a_told, .inr (8, [.int a_told__stalls, .int a_told__shift, .int a_told__halves, .int a_told__buyers, .int a_told__near, .int a_told__dusk, .int a_told__duskPrice, .int a_told__hear, .int a_told__forged, .ref a_told_stall, .ref a_told_shape, .ref a_told_side, .ref a_told_price, .ref a_told_purse, .ref a_told_spot, .ref a_told_club, .ref a_told_fitting, .ref a_told_nearly])), (a_trials, .inr (9, [.int a_trials__size, .int a_trials__fewest, .int a_trials__honest, .ref a_trials_pair, .ref a_trials_one, .ref a_trials_other, .ref a_trials_fitted])), (a_trials_one, .inl (cs 0, 12, .inl a_trials_one_c)), (a_trials_other, .inl (cs 0, 12, .inl a_trials_other_c)), (a_told_side, .inl (cs 0, 12, .inl a_told_side_c)), (a_told_shape, .inl (cs 0, 12, .inl a_told_shape_c)), (a_trials_fitted, .inl (cs 2, 12, .inl a_trials_fitted_c)), (a_trials_pair, .inl (cs 0, 12, .inl a_trials_pair_c))] s.heap.size = A at hD hE ⊢
  have hA : ∀ q : Nat, s.heap.size ≤ q → A q := fun q h => by rw [← hAe]; exact Or.inr h
  clear hAe hD0
  have hS : va_S A s.heap s.heap [] := va_S.rf
  have hK := hE.1
  have hl := lv_entry ([.ref a, .int p0]) (n := 2) (Nat.le_of_ble_eq_true rfl)
  rw [lg_entry_eq]
  generalize (lg_sl ([.ref a, .int p0]) ++ List.replicate (2 - (lg_sl ([.ref a, .int p0])).length) Slot.unset).toArray = ls at hl ⊢
  have hl : lv_has ls 2 [(0, .ref a), (1, .int p0)] := hl
  obtain ⟨H, eH⟩ : ∃ z, z = s.heap := ⟨_, rfl⟩
  have hP : va_P D classes [(a, .inr (11, [.ref a_tape, .ref a_fairReader, .ref a_ruleReader, .ref a_rules, .int a__ruleCount, .ref a_told, .ref a_scene, .ref a_spare, .ref a_past, .int a__pastFirst, .int a__pastCount, .ref a_trials, .ref a_images, .ref a_pairs, .ref a_walker, .ref a_market, .int a__x])), (a_told, .inr (8, [.int a_told__stalls, .int a_told__shift, .int a_told__halves, .int a_told__buyers, .int a_told__near, .int a_told__dusk, .int a_told__duskPrice, .int a_told__hear, .int a_told__forged, .ref a_told_stall, .ref a_told_shape, .ref a_told_side, .ref a_told_price, .ref a_told_purse, .ref a_told_spot, .ref a_told_club, .ref a_told_fitting, .ref a_told_nearly])), (a_trials, .inr (9, [.int a_trials__size, .int a_trials__fewest, .int a_trials__honest, .ref a_trials_pair, .ref a_trials_one, .ref a_trials_other, .ref a_trials_fitted])), (a_trials_one, .inl (cs 0, 12, .inl a_trials_one_c)), (a_trials_other, .inl (cs 0, 12, .inl a_trials_other_c)), (a_told_side, .inl (cs 0, 12, .inl a_told_side_c)), (a_told_shape, .inl (cs 0, 12, .inl a_told_shape_c)), (a_trials_fitted, .inl (cs 2, 12, .inl a_trials_fitted_c)), (a_trials_pair, .inl (cs 0, 12, .inl a_trials_pair_c))] H := by rw [eH]; exact hP
  have hS : va_S A s.heap H [] := by rw [eH]; exact hS
  rw [← eH]
  clear eH
  obtain ⟨locs, el⟩ : ∃ z : List Loc, z = [] := ⟨_, rfl⟩
  rw [← el] at hS ⊢
  clear el
  refine lv_aload_n hx hb dX11_forgers_0 rfl (lv_at hl 0 rfl) ?_
  refine va_calli (va_runV (As := []) (rest := []) ⟨hx, hb, hml, hown, hT⟩ (c_X11_isFair l D cs kK kV a a_tape a_fairReader a_ruleReader a_rules a__ruleCount a_told a_scene a_spare a_past a__pastFirst a__pastCount a_trials a_images a_pairs a_walker a_market a__x a_told__stalls a_told__shift a_told__halves a_told__buyers a_told__near a_told__dusk a_told__duskPrice a_told__hear a_told__forged a_told_stall a_told_shape a_told_side a_told_price a_told_purse a_told_spot a_told_club a_told_fitting a_told_nearly h_a_told__stalls) (cwV 0 hT (hz_gV q_322 q_323 q_324 q_241 q_325) rfl rfl rfl (by decide +kernel) ⟨(Nat.le_of_ble_eq_true rfl), (Nat.le_of_ble_eq_true rfl)⟩) ⟨hz_P.blind, va_recv hK hP (ci := 11) (q0 := 0) rfl rfl, hz_P.mk (hP.sub (ws' := [(a, .inr (11, [.ref a_tape, .ref a_fairReader, .ref a_ruleReader, .ref a_rules, .int a__ruleCount, .ref a_told, .ref a_scene, .ref a_spare, .ref a_past, .int a__pastFirst, .int a__pastCount, .ref a_trials, .ref a_images, .ref a_pairs, .ref a_walker, .ref a_market, .int a__x])), (a_told, .inr (8, [.int a_told__stalls, .int a_told__shift, .int a_told__halves, .int a_told__buyers, .int a_told__near, .int a_told__dusk, .int a_told__duskPrice, .int a_told__hear, .int a_told__forged, .ref a_told_stall, .ref a_told_shape, .ref a_told_side, .ref a_told_price, .ref a_told_purse, .ref a_told_spot, .ref a_told_club, .ref a_told_fitting, .ref a_told_nearly]))]) [0,1] rfl) hE hS⟩ rfl rfl hl.1 rfl (lv_room (Nat.le_of_ble_eq_true rfl)) dX11_forgers_1 ⟨(Nat.le_of_ble_eq_true rfl), (Nat.le_of_ble_eq_true rfl)⟩) hS (fun _ _ h => h.elim) (fun _ h => h.elim) (fun r1 u t H1 locs ht hvm hw hB hz1 hk1 hS => ?_)
  have hP := hz_keep hP hk1
  clear hk1 hB hz1
  generalize H1 = H at hP hS ⊢
  rcases hw with ⟨rfl, h2⟩ | ⟨rfl, h3⟩
  · refine lv_if_eq (tgt := 16) hx hb dX11_forgers_4 (by decide) (fun _ => ?_) (fun z => absurd (by decide) z)
    refine lv_iconst (v := (-1)) hx hb dX11_forgers_16 (by decide) ?_
    refine W.widen (k := 0) (n := 0) (Nat.le_of_ble_eq_true rfl) (Nat.le_of_ble_eq_true rfl) ?_
    exact W.iret (v := (-1)) hx hb hr (fun t ht hW => ⟨⟨(-1), (), rfl, (Or.inl (rfl)), a_trials__fewest, a_trials__honest, a_trials_pair_c, by rw [ht]; exact hP.sub [0, 1, 2, 3, 4, 5, 6, 7, 8] rfl, hD.sub [0, 1, 2, 3, 4, 5, 6, 7, 8] (by decide) rfl⟩, hS.F ht⟩) hS.2.2 dX11_forgers_17
  · refine lv_if_eq (tgt := 16) hx hb dX11_forgers_4 (by decide) (fun z => absurd z (by decide)) (fun _ => ?_)
    refine lv_iload_n hx hb dX11_forgers_7 rfl (lv_at hl 1 rfl) ?_
    refine lv_if_lt (tgt := 16) hx hb dX11_forgers_8 (by decide) (fun c4 => ?_) (fun c4 => ?_)
    · have h5 : IV (-2147483648) (-1) p0 := iv_lt1 c4 iv_top (iv_c (a := 0) (b := 0) (by decide)) (by decide)
      refine lv_iconst (v := (-1)) hx hb dX11_forgers_16 (by decide) ?_
      refine W.widen (k := 0) (n := 0) (Nat.le_of_ble_eq_true rfl) (Nat.le_of_ble_eq_true rfl) ?_
      exact W.iret (v := (-1)) hx hb hr (fun t ht hW => ⟨⟨(-1), (), rfl, (Or.inl (rfl)), a_trials__fewest, a_trials__honest, a_trials_pair_c, by rw [ht]; exact hP.sub [0, 1, 2, 3, 4, 5, 6, 7, 8] rfl, hD.sub [0, 1, 2, 3, 4, 5, 6, 7, 8] (by decide) rfl⟩, hS.F ht⟩) hS.2.2 dX11_forgers_17
    · have h6 : IV 0 2147483647 p0 := iv_le2 (Int32.not_lt.mp c4) (iv_c (a := 0) (b := 0) (by decide)) iv_top (by decide)
      refine lv_iload_n hx hb dX11_forgers_11 rfl (lv_at hl 1 rfl) ?_
      refine lv_iconst (v := 1) hx hb dX11_forgers_12 (by decide) ?_
      refine lv_icmp_le (tgt := 18) hx hb dX11_forgers_13 (by decide) (fun c7 => ?_) (fun c7 => ?_)
      · have h8 : IV 0 1 p0 := iv_le1 c7 h6 (iv_c (a := 1) (b := 1) (by decide)) (by decide)
        refine lv_aload_n hx hb dX11_forgers_18 rfl (lv_at hl 0 rfl) ?_
        refine va_get (D := D) (ci := 11) (v := .ref a_trials) (C := RX11) (T := TX11) (N := 17) hx hb hT i_X11 hown hK hP 0 rfl rfl 11 (by decide) (hT _ q_8) (fun _ h9 => h9) rfl dX11_forgers_19 ?_
        refine lv_aload_n hx hb dX11_forgers_22 rfl (lv_at hl 0 rfl) ?_
        refine va_get (D := D) (ci := 11) (v := .ref a_told) (C := RX11) (T := TX11) (N := 17) hx hb hT i_X11 hown hK hP 0 rfl rfl 5 (by decide) (hT _ q_4) (fun _ h9 => h9) rfl dX11_forgers_23 ?_
        have hFc := va_free (wc := [(a_trials, .inr (9, [.int a_trials__size, .int a_trials__fewest, .int a_trials__honest, .ref a_trials_pair, .ref a_trials_one, .ref a_trials_other, .ref a_trials_fitted])), (a_trials_one, .inl (cs 0, 12, .inl a_trials_one_c)), (a_trials_other, .inl (cs 0, 12, .inl a_trials_other_c)), (a_told, .inr (8, [.int a_told__stalls, .int a_told__shift, .int a_told__halves, .int a_told__buyers, .int a_told__near, .int a_told__dusk, .int a_told__duskPrice, .int a_told__hear, .int a_told__forged, .ref a_told_stall, .ref a_told_shape, .ref a_told_side, .ref a_told_price, .ref a_told_purse, .ref a_told_spot, .ref a_told_club, .ref a_told_fitting, .ref a_told_nearly])), (a_told_side, .inl (cs 0, 12, .inl a_told_side_c)), (a_told_shape, .inl (cs 0, 12, .inl a_told_shape_c)), (a_trials_fitted, .inl (cs 2, 12, .inl a_trials_fitted_c)), (a_trials_pair, .inl (cs 0, 12, .inl a_trials_pair_c))]) hD hS hA [2,3,4,1,5,6,7,8] rfl
        refine va_callv (va_runV (As := [.ref a_told]) (rest := []) ⟨hx, hb, hml, hown, hT⟩ (c_X9_seekForgers l D cs kK kV a_trials a_told a_trials__size a_trials__fewest a_trials__honest a_trials_pair a_trials_one a_trials_other a_trials_fitted a_trials_one_c a_trials_other_c a_told__stalls a_told__shift a_told__halves a_told__buyers a_told__near a_told__dusk a_told__duskPrice a_told__hear a_told__forged a_told_stall a_told_shape a_told_side a_told_price a_told_purse a_told_spot a_told_club a_told_fitting a_told_nearly a_told_side_c a_told_shape_c a_trials_fitted_c a_trials_pair_c h_a_trials__size h_a_trials_one_c h_a_trials_other_c h_a_told__halves H.size) (cwV 1 hT (hz_gV q_395 q_396 q_397 q_388 q_398) rfl rfl rfl (by decide +kernel) ⟨(Nat.le_of_ble_eq_true rfl), (Nat.le_of_ble_eq_true rfl)⟩) ⟨hz_C.blind, va_recv hK hP (ci := 9) (q0 := 2) rfl rfl, hz_C.mk (hP.sub (ws' := [(a_trials, .inr (9, [.int a_trials__size, .int a_trials__fewest, .int a_trials__honest, .ref a_trials_pair, .ref a_trials_one, .ref a_trials_other, .ref a_trials_fitted])), (a_trials_one, .inl (cs 0, 12, .inl a_trials_one_c)), (a_trials_other, .inl (cs 0, 12, .inl a_trials_other_c)), (a_told, .inr (8, [.int a_told__stalls, .int a_told__shift, .int a_told__halves, .int a_told__buyers, .int a_told__near, .int a_told__dusk, .int a_told__duskPrice, .int a_told__hear, .int a_told__forged, .ref a_told_stall, .ref a_told_shape, .ref a_told_side, .ref a_told_price, .ref a_told_purse, .ref a_told_spot, .ref a_told_club, .ref a_told_fitting, .ref a_told_nearly])), (a_told_side, .inl (cs 0, 12, .inl a_told_side_c)), (a_told_shape, .inl (cs 0, 12, .inl a_told_shape_c)), (a_trials_fitted, .inl (cs 2, 12, .inl a_trials_fitted_c)), (a_trials_pair, .inl (cs 0, 12, .inl a_trials_pair_c))]) [2,3,4,1,5,6,7,8] rfl) (hD.sub (ws' := [(a_trials, .inr (9, [.int a_trials__size, .int a_trials__fewest, .int a_trials__honest, .ref a_trials_pair, .ref a_trials_one, .ref a_trials_other, .ref a_trials_fitted])), (a_trials_one, .inl (cs 0, 12, .inl a_trials_one_c)), (a_trials_other, .inl (cs 0, 12, .inl a_trials_other_c)), (a_told, .inr (8, [.int a_told__stalls, .int a_told__shift, .int a_told__halves, .int a_told__buyers, .int a_told__near, .int a_told__dusk, .int a_told__duskPrice, .int a_told__hear, .int a_told__forged, .ref a_told_stall, .ref a_told_shape, .ref a_told_side, .ref a_told_price, .ref a_told_purse, .ref a_told_spot, .ref a_told_club, .ref a_told_fitting, .ref a_told_nearly])), (a_told_side, .inl (cs 0, 12, .inl a_told_side_c)), (a_told_shape, .inl (cs 0, 12, .inl a_told_shape_c)), (a_trials_fitted, .inl (cs 2, 12, .inl a_trials_fitted_c)), (a_trials_pair, .inl (cs 0, 12, .inl a_trials_pair_c))]) [2,3,4,1,5,6,7,8] (by decide) rfl) hE hS hFc⟩ rfl rfl hl.1 rfl (lv_room (Nat.le_of_ble_eq_true rfl)) dX11_forgers_26 ⟨(Nat.le_of_ble_eq_true rfl), (Nat.le_of_ble_eq_true rfl)⟩) hS (fun q _ h => hFc q h) hFc (fun u t H1 locs ht hvm hw hB hz1 hk1 hS => ?_)
        obtain ⟨o10, o11, o12, h13, h14, hP1, hD1⟩ := hB
        rw [ht] at hP1
        obtain ⟨hP, hD⟩ := va_join (wr := [(a, .inr (11, [.ref a_tape, .ref a_fairReader, .ref a_ruleReader, .ref a_rules, .int a__ruleCount, .ref a_told, .ref a_scene, .ref a_spare, .ref a_past, .int a__pastFirst, .int a__pastCount, .ref a_trials, .ref a_images, .ref a_pairs, .ref a_walker, .ref a_market, .int a__x]))]) (w1 := [(a_trials, .inr (9, [.int a_trials__size, .int o10, .int o11, .ref a_trials_pair, .ref a_trials_one, .ref a_trials_other, .ref a_trials_fitted])), (a_trials_one, .inl (cs 0, 12, .inl a_trials_one_c)), (a_trials_other, .inl (cs 0, 12, .inl a_trials_other_c)), (a_told, .inr (8, [.int a_told__stalls, .int a_told__shift, .int a_told__halves, .int a_told__buyers, .int a_told__near, .int a_told__dusk, .int a_told__duskPrice, .int a_told__hear, .int a_told__forged, .ref a_told_stall, .ref a_told_shape, .ref a_told_side, .ref a_told_price, .ref a_told_purse, .ref a_told_spot, .ref a_told_club, .ref a_told_fitting, .ref a_told_nearly])), (a_told_side, .inl (cs 0, 12, .inl a_told_side_c)), (a_told_shape, .inl (cs 0, 12, .inl a_told_shape_c)), (a_trials_fitted, .inl (cs 2, 12, .inl a_trials_fitted_c)), (a_trials_pair, .inl (cs 0, 12, .inl o12))]) hP hD [2, 3, 4, 1, 5, 6, 7, 8] [0] rfl rfl (by decide) (by decide) hk1 hFc hP1 hD1
        generalize H1 = H at hP hS ⊢
        have hP : va_P D classes [(a, .inr (11, [.ref a_tape, .ref a_fairReader, .ref a_ruleReader, .ref a_rules, .int a__ruleCount, .ref a_told, .ref a_scene, .ref a_spare, .ref a_past, .int a__pastFirst, .int a__pastCount, .ref a_trials, .ref a_images, .ref a_pairs, .ref a_walker, .ref a_market, .int a__x])), (a_trials, .inr (9, [.int a_trials__size, .int o10, .int o11, .ref a_trials_pair, .ref a_trials_one, .ref a_trials_other, .ref a_trials_fitted])), (a_trials_one, .inl (cs 0, 12, .inl a_trials_one_c)), (a_trials_other, .inl (cs 0, 12, .inl a_trials_other_c)), (a_told, .inr (8, [.int a_told__stalls, .int a_told__shift, .int a_told__halves, .int a_told__buyers, .int a_told__near, .int a_told__dusk, .int a_told__duskPrice, .int a_told__hear, .int a_told__forged, .ref a_told_stall, .ref a_told_shape, .ref a_told_side, .ref a_told_price, .ref a_told_purse, .ref a_told_spot, .ref a_told_club, .ref a_told_fitting, .ref a_told_nearly])), (a_told_side, .inl (cs 0, 12, .inl a_told_side_c)), (a_told_shape, .inl (cs 0, 12, .inl a_told_shape_c)), (a_trials_fitted, .inl (cs 2, 12, .inl a_trials_fitted_c)), (a_trials_pair, .inl (cs 0, 12, .inl o12))] H := hP
        have hD : va_D A [(a, .inr (11, [.ref a_tape, .ref a_fairReader, .ref a_ruleReader, .ref a_rules, .int a__ruleCount, .ref a_told, .ref a_scene, .ref a_spare, .ref a_past, .int a__pastFirst, .int a__pastCount, .ref a_trials, .ref a_images, .ref a_pairs, .ref a_walker, .ref a_market, .int a__x])), (a_trials, .inr (9, [.int a_trials__size, .int o10, .int o11, .ref a_trials_pair, .ref a_trials_one, .ref a_trials_other, .ref a_trials_fitted])), (a_trials_one, .inl (cs 0, 12, .inl a_trials_one_c)), (a_trials_other, .inl (cs 0, 12, .inl a_trials_other_c)), (a_told, .inr (8, [.int a_told__stalls, .int a_told__shift, .int a_told__halves, .int a_told__buyers, .int a_told__near, .int a_told__dusk, .int a_told__duskPrice, .int a_told__hear, .int a_told__forged, .ref a_told_stall, .ref a_told_shape, .ref a_told_side, .ref a_told_price, .ref a_told_purse, .ref a_told_spot, .ref a_told_club, .ref a_told_fitting, .ref a_told_nearly])), (a_told_side, .inl (cs 0, 12, .inl a_told_side_c)), (a_told_shape, .inl (cs 0, 12, .inl a_told_shape_c)), (a_trials_fitted, .inl (cs 2, 12, .inl a_trials_fitted_c)), (a_trials_pair, .inl (cs 0, 12, .inl o12))] := hD
        clear hk1 hFc hP1 hD1 hz1
        refine lv_iload_n hx hb dX11_forgers_29 rfl (lv_at hl 1 rfl) ?_
        refine lv_if_ne (tgt := 43) hx hb dX11_forgers_30 (by decide) (fun c15 => ?_) (fun c15 => ?_)
        · have h16 : IV 1 1 p0 := iv_neL c15 h8 (by decide)
          refine lv_aload_n hx hb dX11_forgers_43 rfl (lv_at hl 0 rfl) ?_
          refine va_get (D := D) (ci := 11) (v := .ref a_trials) (C := RX11) (T := TX11) (N := 17) hx hb hT i_X11 hown hK hP 0 rfl rfl 11 (by decide) (hT _ q_8) (fun _ h9 => h9) rfl dX11_forgers_44 ?_
          refine va_get (D := D) (ci := 9) (v := .int o11) (C := RX9) (T := TX9) (N := 7) hx hb hT i_X9 hown hK hP 1 rfl rfl 2 (by decide) (hT _ q_35) (fun _ h9 => h9) rfl dX11_forgers_47 ?_
          refine W.widen (k := 0) (n := 0) (Nat.le_of_ble_eq_true rfl) (Nat.le_of_ble_eq_true rfl) ?_
          exact W.iret (v := o11) hx hb hr (fun t ht hW => ⟨⟨o11, (), rfl, (Or.inr ((⟨(iv_w h14 (by decide) (by decide)), h3, (iv_w h16 (by decide) (by decide))⟩))), o10, o11, o12, by rw [ht]; exact hP.sub [0, 4, 1, 2, 3, 5, 6, 7, 8] rfl, hD.sub [0, 4, 1, 2, 3, 5, 6, 7, 8] (by decide) rfl⟩, hS.F ht⟩) hS.2.2 dX11_forgers_50
        · have h17 : IV 0 0 p0 := iv_eq1 c15 h8 (iv_c (a := 0) (b := 0) (by decide)) (by decide) (by decide)
          refine lv_aload_n hx hb dX11_forgers_33 rfl (lv_at hl 0 rfl) ?_
          refine va_get (D := D) (ci := 11) (v := .ref a_trials) (C := RX11) (T := TX11) (N := 17) hx hb hT i_X11 hown hK hP 0 rfl rfl 11 (by decide) (hT _ q_8) (fun _ h9 => h9) rfl dX11_forgers_34 ?_
          refine va_get (D := D) (ci := 9) (v := .int o10) (C := RX9) (T := TX9) (N := 7) hx hb hT i_X9 hown hK hP 1 rfl rfl 1 (by decide) (hT _ q_34) (fun _ h9 => h9) rfl dX11_forgers_37 ?_
          refine lv_goto (tgt := 50) hx hb dX11_forgers_40 (by decide) ?_
          refine W.widen (k := 0) (n := 0) (Nat.le_of_ble_eq_true rfl) (Nat.le_of_ble_eq_true rfl) ?_
          exact W.iret (v := o10) hx hb hr (fun t ht hW => ⟨⟨o10, (), rfl, (Or.inr ((⟨h13, h3, (iv_w h17 (by decide) (by decide))⟩))), o10, o11, o12, by rw [ht]; exact hP.sub [0, 4, 1, 2, 3, 5, 6, 7, 8] rfl, hD.sub [0, 4, 1, 2, 3, 5, 6, 7, 8] (by decide) rfl⟩, hS.F ht⟩) hS.2.2 dX11_forgers_50
      · have h18 : IV 2 2147483647 p0 := iv_lt2 (Int32.not_le.mp c7) (iv_c (a := 1) (b := 1) (by decide)) h6 (by decide)
        refine lv_iconst (v := (-1)) hx hb dX11_forgers_16 (by decide) ?_
        refine W.widen (k := 0) (n := 0) (Nat.le_of_ble_eq_true rfl) (Nat.le_of_ble_eq_true rfl) ?_
        exact W.iret (v := (-1)) hx hb hr (fun t ht hW => ⟨⟨(-1), (), rfl, (Or.inl (rfl)), a_trials__fewest, a_trials__honest, a_trials_pair_c, by rw [ht]; exact hP.sub [0, 1, 2, 3, 4, 5, 6, 7, 8] rfl, hD.sub [0, 1, 2, 3, 4, 5, 6, 7, 8] (by decide) rfl⟩, hS.F ht⟩) hS.2.2 dX11_forgers_17
theorem dX11_seed_0 : decode cX11_seed 0 = .ok (.iload_n 1, 1) := by decide +kernel
theorem dX11_seed_1 : decode cX11_seed 1 = .ok (.ifCond .ge 5, 3) := by decide +kernel
theorem dX11_seed_4 : decode cX11_seed 4 = .ok (.iconst (-1), 1) := by decide +kernel
theorem dX11_seed_5 : decode cX11_seed 5 = .ok (.ireturn, 1) := by decide +kernel
theorem dX11_seed_6 : decode cX11_seed 6 = .ok (.aload_n 0, 1) := by decide +kernel
theorem dX11_seed_7 : decode cX11_seed 7 = .ok (.getfield 312, 3) := by decide +kernel
theorem dX11_seed_10 : decode cX11_seed 10 = .ok (.istore_n 2, 1) := by decide +kernel
theorem dX11_seed_11 : decode cX11_seed 11 = .ok (.aload_n 0, 1) := by decide +kernel
theorem dX11_seed_12 : decode cX11_seed 12 = .ok (.iload_n 1, 1) := by decide +kernel
theorem dX11_seed_13 : decode cX11_seed 13 = .ok (.putfield 312, 3) := by decide +kernel
theorem dX11_seed_16 : decode cX11_seed 16 = .ok (.iload_n 2, 1) := by decide +kernel
theorem dX11_seed_17 : decode cX11_seed 17 = .ok (.ireturn, 1) := by decide +kernel
set_option maxHeartbeats 4000000 in
set_option maxRecDepth 100000 in
theorem c_X11_seed (l : Launch) (D : va_G) (cs : Nat → ClassId) (kK kV : Nat → Nat) (a : Nat) (p0 : Int32) (a_tape : Nat) (a_fairReader : Nat) (a_ruleReader : Nat) (a_rules : Nat) (a__ruleCount : Int32) (a_told : Nat) (a_scene : Nat) (a_spare : Nat) (a_past : Nat) (a__pastFirst : Int32) (a__pastCount : Int32) (a_trials : Nat) (a_images : Nat) (a_pairs : Nat) (a_walker : Nat) (a_market : Nat) (a__x : Int32)  (sz : Nat) : Met l yX11_seed (hz_w yX11_seed cX11_seed 3 (some .int)) ({ frames := 0, cells := 0, slots := 0, locals := 0 }) (va_Pc [.ref a, .int p0] (hz_C D cs kK kV sz [(a, .inr (11, [.ref a_tape, .ref a_fairReader, .ref a_ruleReader, .ref a_rules, .int a__ruleCount, .ref a_told, .ref a_scene, .ref a_spare, .ref a_past, .int a__pastFirst, .int a__pastCount, .ref a_trials, .ref a_images, .ref a_pairs, .ref a_walker, .ref a_market, .int a__x]))])) (va_Qi (fun (r : Int32) (_ : Unit) => (r = (-1) ∧ IV (-2147483648) (-1) p0) ∨ (IV 0 2147483647 p0)) (fun _ t => ∃ (o_a_16 : Int32), va_P D classes [(a, .inr (11, [.ref a_tape, .ref a_fairReader, .ref a_ruleReader, .ref a_rules, .int a__ruleCount, .ref a_told, .ref a_scene, .ref a_spare, .ref a_past, .int a__pastFirst, .int a__pastCount, .ref a_trials, .ref a_images, .ref a_pairs, .ref a_walker, .ref a_market, .int o_a_16]))] t.heap ∧ va_D (va_A [(a, .inr (11, [.ref a_tape, .ref a_fairReader, .ref a_ruleReader, .ref a_rules, .int a__ruleCount, .ref a_told, .ref a_scene, .ref a_spare, .ref a_past, .int a__pastFirst, .int a__pastCount, .ref a_trials, .ref a_images, .ref a_pairs, .ref a_walker, .ref a_market, .int a__x]))] sz) [(a, .inr (11, [.ref a_tape, .ref a_fairReader, .ref a_ruleReader, .ref a_rules, .int a__ruleCount, .ref a_told, .ref a_scene, .ref a_spare, .ref a_past, .int a__pastFirst, .int a__pastCount, .ref a_trials, .ref a_images, .ref a_pairs, .ref a_walker, .ref a_market, .int o_a_16]))]) (va_A [(a, .inr (11, [.ref a_tape, .ref a_fairReader, .ref a_ruleReader, .ref a_rules, .int a__ruleCount, .ref a_told, .ref a_scene, .ref a_spare, .ref a_past, .int a__pastFirst, .int a__pastCount, .ref a_trials, .ref a_images, .ref a_pairs, .ref a_walker, .ref a_market, .int a__x]))] sz)) 0 0 (va_A [(a, .inr (11, [.ref a_tape, .ref a_fairReader, .ref a_ruleReader, .ref a_rules, .int a__ruleCount, .ref a_told, .ref a_scene, .ref a_spare, .ref a_past, .int a__pastFirst, .int a__pastCount, .ref a_trials, .ref a_images, .ref a_pairs, .ref a_walker, .ref a_market, .int a__x]))] sz) := by
  refine Met.ofW (cc := cX11_seed) (maxL := 3) (ret := (some .int)) (by decide) rfl ?_
  intro p e s m args below meth c s₁ B hml hv
  obtain ⟨rfl, hsz, hP, hD0, hE⟩ := hv
  have hx := B.exec
  have hb := B.bytes
  have hr := B.returns
  have hT : ∀ w ∈ TB, w.before _ s = true := fun w h => atoms_spec (ws := hz_w yX11_seed cX11_seed 3 (some .int)) B.pre w (List.mem_cons_of_mem _ h)
  have hown : s.vm.findClass RX11 = some m.cls := findClass_of_methodNamed B.named
  have hlocks := B.notSynchronized
  clear B
  subst hsz
  have hD := hD0.self (sz := s.heap.size)
  generalize hAe : va_A [(a, .inr (11, [.ref a_tape, .ref a_fairReader, .ref a_ruleReader, .ref a_rules, .int a__ruleCount, .ref a_told, .ref a_scene, .ref a_spare, .ref a_past, .int a__pastFirst, .int a__pastCount, .ref a_trials, .ref a_images, .ref a_pairs, .ref a_walker, .ref a_market, .int a__x]))] s.heap.size = A at hD hE ⊢
  have hA : ∀ q : Nat, s.heap.size ≤ q → A q := fun q h => by rw [← hAe]; exact Or.inr h
  clear hAe hD0
  have hS : va_S A s.heap s.heap [] := va_S.rf
  have hK := hE.1
  have hl := lv_entry ([.ref a, .int p0]) (n := 3) (Nat.le_of_ble_eq_true rfl)
  rw [lg_entry_eq]
  generalize (lg_sl ([.ref a, .int p0]) ++ List.replicate (3 - (lg_sl ([.ref a, .int p0])).length) Slot.unset).toArray = ls at hl ⊢
  have hl : lv_has ls 3 [(0, .ref a), (1, .int p0)] := hl
  obtain ⟨H, eH⟩ : ∃ z, z = s.heap := ⟨_, rfl⟩
  have hP : va_P D classes [(a, .inr (11, [.ref a_tape, .ref a_fairReader, .ref a_ruleReader, .ref a_rules, .int a__ruleCount, .ref a_told, .ref a_scene, .ref a_spare, .ref a_past, .int a__pastFirst, .int a__pastCount, .ref a_trials, .ref a_images, .ref a_pairs, .ref a_walker, .ref a_market, .int a__x]))] H := by rw [eH]; exact hP
  have hS : va_S A s.heap H [] := by rw [eH]; exact hS
  rw [← eH]
  clear eH
  obtain ⟨locs, el⟩ : ∃ z : List Loc, z = [] := ⟨_, rfl⟩
  rw [← el] at hS ⊢
  clear el
  refine lv_iload_n hx hb dX11_seed_0 rfl (lv_at hl 1 rfl) ?_
  refine lv_if_ge (tgt := 6) hx hb dX11_seed_1 (by decide) (fun c1 => ?_) (fun c1 => ?_)
  · have h2 : IV 0 2147483647 p0 := iv_le2 c1 (iv_c (a := 0) (b := 0) (by decide)) iv_top (by decide)
    refine lv_aload_n hx hb dX11_seed_6 rfl (lv_at hl 0 rfl) ?_
    refine va_get (D := D) (ci := 11) (v := .int a__x) (C := RX11) (T := TX11) (N := 17) hx hb hT i_X11 hown hK hP 0 rfl rfl 16 (by decide) (hT _ q_36) (fun _ h9 => h9) rfl dX11_seed_7 ?_
    refine lv_istore_n (lv' := [(2, .int a__x), (0, .ref a), (1, .int p0)]) hx hb dX11_seed_10 rfl hl (by decide) rfl (fun ls hl => ?_)
    refine lv_aload_n hx hb dX11_seed_11 rfl (lv_at hl 1 rfl) ?_
    refine lv_iload_n hx hb dX11_seed_12 rfl (lv_at hl 2 rfl) ?_
    refine va_put (D := D) (ci := 11) (v := .int p0) (ty := .int) (C := RX11) (T := TX11) (N := 17) hx hb hT i_X11 tyX11 tyX11_ok nmX11 hown hK hP hD hS 0 rfl rfl 16 (by decide) (hT _ q_36) (fun _ h9 => h9) rfl (by decide +kernel) rfl rfl (Nat.le_of_ble_eq_true rfl) dX11_seed_13 (fun H locs hP hD hS => ?_)
    have hP : va_P D classes [(a, .inr (11, [.ref a_tape, .ref a_fairReader, .ref a_ruleReader, .ref a_rules, .int a__ruleCount, .ref a_told, .ref a_scene, .ref a_spare, .ref a_past, .int a__pastFirst, .int a__pastCount, .ref a_trials, .ref a_images, .ref a_pairs, .ref a_walker, .ref a_market, .int p0]))] H := hP
    have hD : va_D A [(a, .inr (11, [.ref a_tape, .ref a_fairReader, .ref a_ruleReader, .ref a_rules, .int a__ruleCount, .ref a_told, .ref a_scene, .ref a_spare, .ref a_past, .int a__pastFirst, .int a__pastCount, .ref a_trials, .ref a_images, .ref a_pairs, .ref a_walker, .ref a_market, .int p0]))] := hD
    refine lv_iload_n hx hb dX11_seed_16 rfl (lv_at hl 0 rfl) ?_
    refine W.widen (k := 0) (n := 0) (Nat.le_of_ble_eq_true rfl) (Nat.le_of_ble_eq_true rfl) ?_
    exact W.iret (v := a__x) hx hb hr (fun t ht hW => ⟨⟨a__x, (), rfl, (Or.inr ((h2))), p0, by rw [ht]; exact hP.sub [0] rfl, hD.sub [0] (by decide) rfl⟩, hS.F ht⟩) hS.2.2 dX11_seed_17
  · have h3 : IV (-2147483648) (-1) p0 := iv_lt1 (Int32.not_le.mp c1) iv_top (iv_c (a := 0) (b := 0) (by decide)) (by decide)
    refine lv_iconst (v := (-1)) hx hb dX11_seed_4 (by decide) ?_
    refine W.widen (k := 0) (n := 0) (Nat.le_of_ble_eq_true rfl) (Nat.le_of_ble_eq_true rfl) ?_
    exact W.iret (v := (-1)) hx hb hr (fun t ht hW => ⟨⟨(-1), (), rfl, (Or.inl (⟨rfl, h3⟩)), a__x, by rw [ht]; exact hP.sub [0] rfl, hD.sub [0] (by decide) rfl⟩, hS.F ht⟩) hS.2.2 dX11_seed_5
theorem dX11_count_0 : decode cX11_count 0 = .ok (.iload_n 1, 1) := by decide +kernel
theorem dX11_count_1 : decode cX11_count 1 = .ok (.tableswitch 159 0 10 #[59, 67, 75, 83, 88, 96, 122, 133, 141, 146, 151], 59) := by decide +kernel
theorem dX11_count_60 : decode cX11_count 60 = .ok (.aload_n 0, 1) := by decide +kernel
theorem dX11_count_61 : decode cX11_count 61 = .ok (.getfield 39, 3) := by decide +kernel
theorem dX11_count_64 : decode cX11_count 64 = .ok (.getfield 178, 3) := by decide +kernel
theorem dX11_count_67 : decode cX11_count 67 = .ok (.ireturn, 1) := by decide +kernel
theorem dX11_count_68 : decode cX11_count 68 = .ok (.aload_n 0, 1) := by decide +kernel
theorem dX11_count_69 : decode cX11_count 69 = .ok (.getfield 39, 3) := by decide +kernel
theorem dX11_count_72 : decode cX11_count 72 = .ok (.getfield 119, 3) := by decide +kernel
theorem dX11_count_75 : decode cX11_count 75 = .ok (.ireturn, 1) := by decide +kernel
theorem dX11_count_76 : decode cX11_count 76 = .ok (.aload_n 0, 1) := by decide +kernel
theorem dX11_count_77 : decode cX11_count 77 = .ok (.getfield 39, 3) := by decide +kernel
theorem dX11_count_80 : decode cX11_count 80 = .ok (.getfield 319, 3) := by decide +kernel
theorem dX11_count_83 : decode cX11_count 83 = .ok (.ireturn, 1) := by decide +kernel
theorem dX11_count_84 : decode cX11_count 84 = .ok (.aload_n 0, 1) := by decide +kernel
theorem dX11_count_85 : decode cX11_count 85 = .ok (.getfield 122, 3) := by decide +kernel
theorem dX11_count_88 : decode cX11_count 88 = .ok (.ireturn, 1) := by decide +kernel
theorem dX11_count_89 : decode cX11_count 89 = .ok (.aload_n 0, 1) := by decide +kernel
theorem dX11_count_90 : decode cX11_count 90 = .ok (.getfield 46, 3) := by decide +kernel
theorem dX11_count_93 : decode cX11_count 93 = .ok (.getfield 140, 3) := by decide +kernel
theorem dX11_count_96 : decode cX11_count 96 = .ok (.ireturn, 1) := by decide +kernel
theorem dX11_count_97 : decode cX11_count 97 = .ok (.aload_n 0, 1) := by decide +kernel
theorem dX11_count_98 : decode cX11_count 98 = .ok (.invokevirtual 232, 3) := by decide +kernel
theorem dX11_count_101 : decode cX11_count 101 = .ok (.ifCond .eq 20, 3) := by decide +kernel
theorem dX11_count_104 : decode cX11_count 104 = .ok (.aload_n 0, 1) := by decide +kernel
theorem dX11_count_105 : decode cX11_count 105 = .ok (.getfield 39, 3) := by decide +kernel
theorem dX11_count_108 : decode cX11_count 108 = .ok (.aload_n 0, 1) := by decide +kernel
theorem dX11_count_109 : decode cX11_count 109 = .ok (.getfield 46, 3) := by decide +kernel
theorem dX11_count_112 : decode cX11_count 112 = .ok (.getfield 140, 3) := by decide +kernel
theorem dX11_count_115 : decode cX11_count 115 = .ok (.invokevirtual 252, 3) := by decide +kernel
theorem dX11_count_118 : decode cX11_count 118 = .ok (.goto 4, 3) := by decide +kernel
theorem dX11_count_121 : decode cX11_count 121 = .ok (.iconst (-1), 1) := by decide +kernel
theorem dX11_count_122 : decode cX11_count 122 = .ok (.ireturn, 1) := by decide +kernel
theorem dX11_count_123 : decode cX11_count 123 = .ok (.aload_n 0, 1) := by decide +kernel
theorem dX11_count_124 : decode cX11_count 124 = .ok (.getfield 46, 3) := by decide +kernel
theorem dX11_count_127 : decode cX11_count 127 = .ok (.invokevirtual 323, 3) := by decide +kernel
theorem dX11_count_130 : decode cX11_count 130 = .ok (.invokestatic 206, 3) := by decide +kernel
theorem dX11_count_133 : decode cX11_count 133 = .ok (.ireturn, 1) := by decide +kernel
theorem dX11_count_134 : decode cX11_count 134 = .ok (.aload_n 0, 1) := by decide +kernel
theorem dX11_count_135 : decode cX11_count 135 = .ok (.getfield 60, 3) := by decide +kernel
theorem dX11_count_138 : decode cX11_count 138 = .ok (.getfield 113, 3) := by decide +kernel
theorem dX11_count_141 : decode cX11_count 141 = .ok (.ireturn, 1) := by decide +kernel
theorem dX11_count_142 : decode cX11_count 142 = .ok (.aload_n 0, 1) := by decide +kernel
theorem dX11_count_143 : decode cX11_count 143 = .ok (.getfield 222, 3) := by decide +kernel
theorem dX11_count_146 : decode cX11_count 146 = .ok (.ireturn, 1) := by decide +kernel
theorem dX11_count_147 : decode cX11_count 147 = .ok (.aload_n 0, 1) := by decide +kernel
theorem dX11_count_148 : decode cX11_count 148 = .ok (.getfield 312, 3) := by decide +kernel
theorem dX11_count_151 : decode cX11_count 151 = .ok (.ireturn, 1) := by decide +kernel
theorem dX11_count_152 : decode cX11_count 152 = .ok (.aload_n 0, 1) := by decide +kernel
theorem dX11_count_153 : decode cX11_count 153 = .ok (.getfield 10, 3) := by decide +kernel
theorem dX11_count_156 : decode cX11_count 156 = .ok (.getfield 91, 3) := by decide +kernel
theorem dX11_count_159 : decode cX11_count 159 = .ok (.ireturn, 1) := by decide +kernel
theorem dX11_count_160 : decode cX11_count 160 = .ok (.iconst (-1), 1) := by decide +kernel
theorem dX11_count_161 : decode cX11_count 161 = .ok (.ireturn, 1) := by decide +kernel
set_option maxHeartbeats 4000000 in
set_option maxRecDepth 100000 in
theorem c_X11_count (l : Launch) (D : va_G) (cs : Nat → ClassId) (kK kV : Nat → Nat) (a : Nat) (p0 : Int32) (a_tape : Nat) (a_fairReader : Nat) (a_ruleReader : Nat) (a_rules : Nat) (a__ruleCount : Int32) (a_told : Nat) (a_scene : Nat) (a_spare : Nat) (a_past : Nat) (a__pastFirst : Int32) (a__pastCount : Int32) (a_trials : Nat) (a_images : Nat) (a_pairs : Nat) (a_walker : Nat) (a_market : Nat) (a__x : Int32) (a_told__stalls : Int32) (a_told__shift : Int32) (a_told__halves : Int32) (a_told__buyers : Int32) (a_told__near : Int32) (a_told__dusk : Int32) (a_told__duskPrice : Int32) (a_told__hear : Int32) (a_told__forged : Int32) (a_told_stall : Nat) (a_told_shape : Nat) (a_told_side : Nat) (a_told_price : Nat) (a_told_purse : Nat) (a_told_spot : Nat) (a_told_club : Nat) (a_told_fitting : Nat) (a_told_nearly : Nat) (a_scene__hour : Int32) (a_scene_purse : Nat) (a_scene_spot : Nat) (a_scene_seen : Nat) (a_scene_has : Nat) (a_scene_at : Nat) (a_scene_at_c : Nat → Int32) (a_trials__size : Int32) (a_trials__fewest : Int32) (a_trials__honest : Int32) (a_trials_pair : Nat) (a_trials_one : Nat) (a_trials_other : Nat) (a_trials_fitted : Nat) (a_tape_bytes : Nat) (a_tape__length : Int32) (a_tape__place : Int32) (a_tape__fault : Int32) (h_a_told__stalls : IV 0 8 a_told__stalls) : Met l yX11_count (hz_w yX11_count cX11_count 2 (some .int)) ({ frames := 2, cells := 0, slots := 0, locals := 42 }) (va_Pc [.ref a, .int p0] (hz_P D cs kK kV [(a, .inr (11, [.ref a_tape, .ref a_fairReader, .ref a_ruleReader, .ref a_rules, .int a__ruleCount, .ref a_told, .ref a_scene, .ref a_spare, .ref a_past, .int a__pastFirst, .int a__pastCount, .ref a_trials, .ref a_images, .ref a_pairs, .ref a_walker, .ref a_market, .int a__x])), (a_told, .inr (8, [.int a_told__stalls, .int a_told__shift, .int a_told__halves, .int a_told__buyers, .int a_told__near, .int a_told__dusk, .int a_told__duskPrice, .int a_told__hear, .int a_told__forged, .ref a_told_stall, .ref a_told_shape, .ref a_told_side, .ref a_told_price, .ref a_told_purse, .ref a_told_spot, .ref a_told_club, .ref a_told_fitting, .ref a_told_nearly])), (a_scene, .inr (6, [.int a_scene__hour, .ref a_scene_purse, .ref a_scene_spot, .ref a_scene_seen, .ref a_scene_has, .ref a_scene_at])), (a_scene_at, .inl (cs 0, 8, .inl a_scene_at_c)), (a_trials, .inr (9, [.int a_trials__size, .int a_trials__fewest, .int a_trials__honest, .ref a_trials_pair, .ref a_trials_one, .ref a_trials_other, .ref a_trials_fitted])), (a_tape, .inr (7, [.ref a_tape_bytes, .int a_tape__length, .int a_tape__place, .int a_tape__fault]))])) (va_Qi (fun (r : Int32) (_ : Unit) => (r = (-1)) ∨ (IV 0 10 p0)) (fun _ t => True) (fun _ => False)) 0 0 (fun _ => False) := by
  refine Met.ofW (cc := cX11_count) (maxL := 2) (ret := (some .int)) (by decide) rfl ?_
  intro p e s m args below meth c s₁ B hml hv
  obtain ⟨rfl, hP, hE⟩ := hv
  have hx := B.exec
  have hb := B.bytes
  have hr := B.returns
  have hT : ∀ w ∈ TB, w.before _ s = true := fun w h => atoms_spec (ws := hz_w yX11_count cX11_count 2 (some .int)) B.pre w (List.mem_cons_of_mem _ h)
  have hown : s.vm.findClass RX11 = some m.cls := findClass_of_methodNamed B.named
  have hlocks := B.notSynchronized
  clear B
  have hS : va_S (fun _ => False) s.heap s.heap [] := va_S.rf
  have hK := hE.1
  have hl := lv_entry ([.ref a, .int p0]) (n := 2) (Nat.le_of_ble_eq_true rfl)
  rw [lg_entry_eq]
  generalize (lg_sl ([.ref a, .int p0]) ++ List.replicate (2 - (lg_sl ([.ref a, .int p0])).length) Slot.unset).toArray = ls at hl ⊢
  have hl : lv_has ls 2 [(0, .ref a), (1, .int p0)] := hl
  obtain ⟨H, eH⟩ : ∃ z, z = s.heap := ⟨_, rfl⟩
  have hP : va_P D classes [(a, .inr (11, [.ref a_tape, .ref a_fairReader, .ref a_ruleReader, .ref a_rules, .int a__ruleCount, .ref a_told, .ref a_scene, .ref a_spare, .ref a_past, .int a__pastFirst, .int a__pastCount, .ref a_trials, .ref a_images, .ref a_pairs, .ref a_walker, .ref a_market, .int a__x])), (a_told, .inr (8, [.int a_told__stalls, .int a_told__shift, .int a_told__halves, .int a_told__buyers, .int a_told__near, .int a_told__dusk, .int a_told__duskPrice, .int a_told__hear, .int a_told__forged, .ref a_told_stall, .ref a_told_shape, .ref a_told_side, .ref a_told_price, .ref a_told_purse, .ref a_told_spot, .ref a_told_club, .ref a_told_fitting, .ref a_told_nearly])), (a_scene, .inr (6, [.int a_scene__hour, .ref a_scene_purse, .ref a_scene_spot, .ref a_scene_seen, .ref a_scene_has, .ref a_scene_at])), (a_scene_at, .inl (cs 0, 8, .inl a_scene_at_c)), (a_trials, .inr (9, [.int a_trials__size, .int a_trials__fewest, .int a_trials__honest, .ref a_trials_pair, .ref a_trials_one, .ref a_trials_other, .ref a_trials_fitted])), (a_tape, .inr (7, [.ref a_tape_bytes, .int a_tape__length, .int a_tape__place, .int a_tape__fault]))] H := by rw [eH]; exact hP
  have hS : va_S (fun _ => False) s.heap H [] := by rw [eH]; exact hS
  rw [← eH]
  clear eH
  obtain ⟨locs, el⟩ : ∃ z : List Loc, z = [] := ⟨_, rfl⟩
  rw [← el] at hS ⊢
  clear el
  refine lv_iload_n hx hb dX11_count_0 rfl (lv_at hl 1 rfl) ?_
  by_cases c1 : p0.toInt < 0 ∨ 10 < p0.toInt
  · refine lv_tableOut (tgt := 160) hx hb dX11_count_1 c1 (by decide) ?_
    refine lv_iconst (v := (-1)) hx hb dX11_count_160 (by decide) ?_
    exact W.iret (v := (-1)) hx hb hr (fun t ht hW => ⟨⟨(-1), (), rfl, (Or.inl (rfl)), trivial⟩, hS.F ht⟩) hS.2.2 dX11_count_161
  · rcases (show p0.toInt = 0 ∨ p0.toInt = 1 ∨ p0.toInt = 2 ∨ p0.toInt = 3 ∨ p0.toInt = 4 ∨ p0.toInt = 5 ∨ p0.toInt = 6 ∨ p0.toInt = 7 ∨ p0.toInt = 8 ∨ p0.toInt = 9 ∨ p0.toInt = 10 by omega) with c1e | c1e | c1e | c1e | c1e | c1e | c1e | c1e | c1e | c1e | c1e
    · refine lv_tableIn (off := 59) (tgt := 60) hx hb dX11_count_1 (by omega) (by omega) (by rw [c1e]; rfl) (by decide) ?_
      have h2 : IV 0 0 p0 := ⟨by omega, by omega⟩
      refine lv_aload_n hx hb dX11_count_60 rfl (lv_at hl 0 rfl) ?_
      refine va_get (D := D) (ci := 11) (v := .ref a_told) (C := RX11) (T := TX11) (N := 17) hx hb hT i_X11 hown hK hP 0 rfl rfl 5 (by decide) (hT _ q_4) (fun _ h9 => h9) rfl dX11_count_61 ?_
      refine va_get (D := D) (ci := 8) (v := .int a_told__stalls) (C := RX8) (T := TX8) (N := 18) hx hb hT i_X8 hown hK hP 1 rfl rfl 0 (by decide) (hT _ q_26) (fun _ h9 => h9) rfl dX11_count_64 ?_
      exact W.iret (v := a_told__stalls) hx hb hr (fun t ht hW => ⟨⟨a_told__stalls, (), rfl, (Or.inr (((iv_w h2 (by decide) (by decide))))), trivial⟩, hS.F ht⟩) hS.2.2 dX11_count_67
    · refine lv_tableIn (off := 67) (tgt := 68) hx hb dX11_count_1 (by omega) (by omega) (by rw [c1e]; rfl) (by decide) ?_
      have h3 : IV 1 1 p0 := ⟨by omega, by omega⟩
      refine lv_aload_n hx hb dX11_count_68 rfl (lv_at hl 0 rfl) ?_
      refine va_get (D := D) (ci := 11) (v := .ref a_told) (C := RX11) (T := TX11) (N := 17) hx hb hT i_X11 hown hK hP 0 rfl rfl 5 (by decide) (hT _ q_4) (fun _ h9 => h9) rfl dX11_count_69 ?_
      refine va_get (D := D) (ci := 8) (v := .int a_told__halves) (C := RX8) (T := TX8) (N := 18) hx hb hT i_X8 hown hK hP 1 rfl rfl 2 (by decide) (hT _ q_16) (fun _ h9 => h9) rfl dX11_count_72 ?_
      exact W.iret (v := a_told__halves) hx hb hr (fun t ht hW => ⟨⟨a_told__halves, (), rfl, (Or.inr (((iv_w h3 (by decide) (by decide))))), trivial⟩, hS.F ht⟩) hS.2.2 dX11_count_75
    · refine lv_tableIn (off := 75) (tgt := 76) hx hb dX11_count_1 (by omega) (by omega) (by rw [c1e]; rfl) (by decide) ?_
      have h4 : IV 2 2 p0 := ⟨by omega, by omega⟩
      refine lv_aload_n hx hb dX11_count_76 rfl (lv_at hl 0 rfl) ?_
      refine va_get (D := D) (ci := 11) (v := .ref a_told) (C := RX11) (T := TX11) (N := 17) hx hb hT i_X11 hown hK hP 0 rfl rfl 5 (by decide) (hT _ q_4) (fun _ h9 => h9) rfl dX11_count_77 ?_
      refine va_get (D := D) (ci := 8) (v := .int a_told__buyers) (C := RX8) (T := TX8) (N := 18) hx hb hT i_X8 hown hK hP 1 rfl rfl 3 (by decide) (hT _ q_38) (fun _ h9 => h9) rfl dX11_count_80 ?_
      exact W.iret (v := a_told__buyers) hx hb hr (fun t ht hW => ⟨⟨a_told__buyers, (), rfl, (Or.inr (((iv_w h4 (by decide) (by decide))))), trivial⟩, hS.F ht⟩) hS.2.2 dX11_count_83
    · refine lv_tableIn (off := 83) (tgt := 84) hx hb dX11_count_1 (by omega) (by omega) (by rw [c1e]; rfl) (by decide) ?_
      have h5 : IV 3 3 p0 := ⟨by omega, by omega⟩
      refine lv_aload_n hx hb dX11_count_84 rfl (lv_at hl 0 rfl) ?_
      refine va_get (D := D) (ci := 11) (v := .int a__ruleCount) (C := RX11) (T := TX11) (N := 17) hx hb hT i_X11 hown hK hP 0 rfl rfl 4 (by decide) (hT _ q_17) (fun _ h9 => h9) rfl dX11_count_85 ?_
      exact W.iret (v := a__ruleCount) hx hb hr (fun t ht hW => ⟨⟨a__ruleCount, (), rfl, (Or.inr (((iv_w h5 (by decide) (by decide))))), trivial⟩, hS.F ht⟩) hS.2.2 dX11_count_88
    · refine lv_tableIn (off := 88) (tgt := 89) hx hb dX11_count_1 (by omega) (by omega) (by rw [c1e]; rfl) (by decide) ?_
      have h6 : IV 4 4 p0 := ⟨by omega, by omega⟩
      refine lv_aload_n hx hb dX11_count_89 rfl (lv_at hl 0 rfl) ?_
      refine va_get (D := D) (ci := 11) (v := .ref a_scene) (C := RX11) (T := TX11) (N := 17) hx hb hT i_X11 hown hK hP 0 rfl rfl 6 (by decide) (hT _ q_5) (fun _ h9 => h9) rfl dX11_count_90 ?_
      refine va_get (D := D) (ci := 6) (v := .int a_scene__hour) (C := RX6) (T := TX6) (N := 6) hx hb hT i_X6 hown hK hP 2 rfl rfl 0 (by decide) (hT _ q_20) (fun _ h9 => h9) rfl dX11_count_93 ?_
      exact W.iret (v := a_scene__hour) hx hb hr (fun t ht hW => ⟨⟨a_scene__hour, (), rfl, (Or.inr (((iv_w h6 (by decide) (by decide))))), trivial⟩, hS.F ht⟩) hS.2.2 dX11_count_96
    · refine lv_tableIn (off := 96) (tgt := 97) hx hb dX11_count_1 (by omega) (by omega) (by rw [c1e]; rfl) (by decide) ?_
      have h7 : IV 5 5 p0 := ⟨by omega, by omega⟩
      refine lv_aload_n hx hb dX11_count_97 rfl (lv_at hl 0 rfl) ?_
      refine va_calli (va_runV (As := []) (rest := []) ⟨hx, hb, hml, hown, hT⟩ (c_X11_isFair l D cs kK kV a a_tape a_fairReader a_ruleReader a_rules a__ruleCount a_told a_scene a_spare a_past a__pastFirst a__pastCount a_trials a_images a_pairs a_walker a_market a__x a_told__stalls a_told__shift a_told__halves a_told__buyers a_told__near a_told__dusk a_told__duskPrice a_told__hear a_told__forged a_told_stall a_told_shape a_told_side a_told_price a_told_purse a_told_spot a_told_club a_told_fitting a_told_nearly h_a_told__stalls) (cwV 0 hT (hz_gV q_322 q_323 q_324 q_241 q_325) rfl rfl rfl (by decide +kernel) ⟨(Nat.le_of_ble_eq_true rfl), (Nat.le_of_ble_eq_true rfl)⟩) ⟨hz_P.blind, va_recv hK hP (ci := 11) (q0 := 0) rfl rfl, hz_P.mk (hP.sub (ws' := [(a, .inr (11, [.ref a_tape, .ref a_fairReader, .ref a_ruleReader, .ref a_rules, .int a__ruleCount, .ref a_told, .ref a_scene, .ref a_spare, .ref a_past, .int a__pastFirst, .int a__pastCount, .ref a_trials, .ref a_images, .ref a_pairs, .ref a_walker, .ref a_market, .int a__x])), (a_told, .inr (8, [.int a_told__stalls, .int a_told__shift, .int a_told__halves, .int a_told__buyers, .int a_told__near, .int a_told__dusk, .int a_told__duskPrice, .int a_told__hear, .int a_told__forged, .ref a_told_stall, .ref a_told_shape, .ref a_told_side, .ref a_told_price, .ref a_told_purse, .ref a_told_spot, .ref a_told_club, .ref a_told_fitting, .ref a_told_nearly]))]) [0,1] rfl) hE hS⟩ rfl rfl hl.1 rfl (lv_room (Nat.le_of_ble_eq_true rfl)) dX11_count_98 ⟨(Nat.le_of_ble_eq_true rfl), (Nat.le_of_ble_eq_true rfl)⟩) hS (fun _ _ h => h.elim) (fun _ h => h.elim) (fun r8 u t H1 locs ht hvm hw hB hz1 hk1 hS => ?_)
      have hP := hz_keep hP hk1
      clear hk1 hB hz1
      generalize H1 = H at hP hS ⊢
      rcases hw with ⟨rfl, h9⟩ | ⟨rfl, h10⟩
      · refine lv_if_eq (tgt := 121) hx hb dX11_count_101 (by decide) (fun _ => ?_) (fun z => absurd (by decide) z)
        refine lv_iconst (v := (-1)) hx hb dX11_count_121 (by decide) ?_
        exact W.iret (v := (-1)) hx hb hr (fun t ht hW => ⟨⟨(-1), (), rfl, (Or.inl (rfl)), trivial⟩, hS.F ht⟩) hS.2.2 dX11_count_122
      · refine lv_if_eq (tgt := 121) hx hb dX11_count_101 (by decide) (fun z => absurd z (by decide)) (fun _ => ?_)
        refine lv_aload_n hx hb dX11_count_104 rfl (lv_at hl 0 rfl) ?_
        refine va_get (D := D) (ci := 11) (v := .ref a_told) (C := RX11) (T := TX11) (N := 17) hx hb hT i_X11 hown hK hP 0 rfl rfl 5 (by decide) (hT _ q_4) (fun _ h9 => h9) rfl dX11_count_105 ?_
        refine lv_aload_n hx hb dX11_count_108 rfl (lv_at hl 0 rfl) ?_
        refine va_get (D := D) (ci := 11) (v := .ref a_scene) (C := RX11) (T := TX11) (N := 17) hx hb hT i_X11 hown hK hP 0 rfl rfl 6 (by decide) (hT _ q_5) (fun _ h9 => h9) rfl dX11_count_109 ?_
        refine va_get (D := D) (ci := 6) (v := .int a_scene__hour) (C := RX6) (T := TX6) (N := 6) hx hb hT i_X6 hown hK hP 2 rfl rfl 0 (by decide) (hT _ q_20) (fun _ h9 => h9) rfl dX11_count_112 ?_
        refine va_calli (va_runV (As := [.int a_scene__hour]) (rest := []) ⟨hx, hb, hml, hown, hT⟩ (c_X8_left l D cs kK kV a_told a_scene__hour a_told__stalls a_told__shift a_told__halves a_told__buyers a_told__near a_told__dusk a_told__duskPrice a_told__hear a_told__forged a_told_stall a_told_shape a_told_side a_told_price a_told_purse a_told_spot a_told_club a_told_fitting a_told_nearly) (cwV 1 hT (hz_gV q_347 q_348 q_349 q_251 q_350) rfl rfl rfl (by decide +kernel) ⟨(Nat.le_of_ble_eq_true rfl), (Nat.le_of_ble_eq_true rfl)⟩) ⟨hz_P.blind, va_recv hK hP (ci := 8) (q0 := 1) rfl rfl, hz_P.mk (hP.sub (ws' := [(a_told, .inr (8, [.int a_told__stalls, .int a_told__shift, .int a_told__halves, .int a_told__buyers, .int a_told__near, .int a_told__dusk, .int a_told__duskPrice, .int a_told__hear, .int a_told__forged, .ref a_told_stall, .ref a_told_shape, .ref a_told_side, .ref a_told_price, .ref a_told_purse, .ref a_told_spot, .ref a_told_club, .ref a_told_fitting, .ref a_told_nearly]))]) [1] rfl) hE hS⟩ rfl rfl hl.1 rfl (lv_room (Nat.le_of_ble_eq_true rfl)) dX11_count_115 ⟨(Nat.le_of_ble_eq_true rfl), (Nat.le_of_ble_eq_true rfl)⟩) hS (fun _ _ h => h.elim) (fun _ h => h.elim) (fun r11 u t H1 locs ht hvm hw hB hz1 hk1 hS => ?_)
        have hP := hz_keep hP hk1
        clear hk1 hB hz1
        generalize H1 = H at hP hS ⊢
        have hw_r11 := hw
        refine lv_goto (tgt := 122) hx hb dX11_count_118 (by decide) ?_
        exact W.iret (v := r11) hx hb hr (fun t ht hW => ⟨⟨r11, (), rfl, (Or.inr (((iv_w h7 (by decide) (by decide))))), trivial⟩, hS.F ht⟩) hS.2.2 dX11_count_122
    · refine lv_tableIn (off := 122) (tgt := 123) hx hb dX11_count_1 (by omega) (by omega) (by rw [c1e]; rfl) (by decide) ?_
      have h12 : IV 6 6 p0 := ⟨by omega, by omega⟩
      refine lv_aload_n hx hb dX11_count_123 rfl (lv_at hl 0 rfl) ?_
      refine va_get (D := D) (ci := 11) (v := .ref a_scene) (C := RX11) (T := TX11) (N := 17) hx hb hT i_X11 hown hK hP 0 rfl rfl 6 (by decide) (hT _ q_5) (fun _ h9 => h9) rfl dX11_count_124 ?_
      refine va_calli (va_runV (As := []) (rest := []) ⟨hx, hb, hml, hown, hT⟩ (c_X6_atStalls l D cs kK kV a_scene a_scene__hour a_scene_purse a_scene_spot a_scene_seen a_scene_has a_scene_at a_scene_at_c) (cwV 0 hT (hz_gV q_403 q_404 q_405 q_231 q_406) rfl rfl rfl (by decide +kernel) ⟨(Nat.le_of_ble_eq_true rfl), (Nat.le_of_ble_eq_true rfl)⟩) ⟨hz_P.blind, va_recv hK hP (ci := 6) (q0 := 2) rfl rfl, hz_P.mk (hP.sub (ws' := [(a_scene, .inr (6, [.int a_scene__hour, .ref a_scene_purse, .ref a_scene_spot, .ref a_scene_seen, .ref a_scene_has, .ref a_scene_at])), (a_scene_at, .inl (cs 0, 8, .inl a_scene_at_c))]) [2,3] rfl) hE hS⟩ rfl rfl hl.1 rfl (lv_room (Nat.le_of_ble_eq_true rfl)) dX11_count_127 ⟨(Nat.le_of_ble_eq_true rfl), (Nat.le_of_ble_eq_true rfl)⟩) hS (fun _ _ h => h.elim) (fun _ h => h.elim) (fun r13 u t H1 locs ht hvm hw hB hz1 hk1 hS => ?_)
      have hP := hz_keep hP hk1
      clear hk1 hB hz1
      generalize H1 = H at hP hS ⊢
      refine va_calli (va_runS (As := [.int r13]) (rest := []) ⟨hx, hb, hml, hown, hT⟩ (c_J6_bitCount_0f7a4_6 l D cs kK kV r13) (va_cwS 1 hT (hz_gS q_302 q_303 q_304 q_305) rfl rfl rfl (by decide +kernel) ⟨(Nat.le_of_ble_eq_true rfl), (Nat.le_of_ble_eq_true rfl)⟩) ⟨hz_P.blind, hz_P.mk (hP.sub (ws' := []) [] rfl) hE hS⟩ rfl rfl hl.1 rfl (lv_room (Nat.le_of_ble_eq_true rfl)) dX11_count_130 ⟨(Nat.le_of_ble_eq_true rfl), (Nat.le_of_ble_eq_true rfl)⟩) hS (fun _ _ h => h.elim) (fun _ h => h.elim) (fun r14 u t H1 locs ht hvm hw hB hz1 hk1 hS => ?_)
      have hP := hz_keep hP hk1
      clear hk1 hB hz1
      generalize H1 = H at hP hS ⊢
      have hw_r14 := hw
      have h15 : IV 0 63 r14 := bc_iv hw_r14
      exact W.iret (v := r14) hx hb hr (fun t ht hW => ⟨⟨r14, (), rfl, (Or.inr (((iv_w h12 (by decide) (by decide))))), trivial⟩, hS.F ht⟩) hS.2.2 dX11_count_133
    · refine lv_tableIn (off := 133) (tgt := 134) hx hb dX11_count_1 (by omega) (by omega) (by rw [c1e]; rfl) (by decide) ?_
      have h16 : IV 7 7 p0 := ⟨by omega, by omega⟩
      refine lv_aload_n hx hb dX11_count_134 rfl (lv_at hl 0 rfl) ?_
      refine va_get (D := D) (ci := 11) (v := .ref a_trials) (C := RX11) (T := TX11) (N := 17) hx hb hT i_X11 hown hK hP 0 rfl rfl 11 (by decide) (hT _ q_8) (fun _ h9 => h9) rfl dX11_count_135 ?_
      refine va_get (D := D) (ci := 9) (v := .int a_trials__size) (C := RX9) (T := TX9) (N := 7) hx hb hT i_X9 hown hK hP 4 rfl rfl 0 (by decide) (hT _ q_15) (fun _ h9 => h9) rfl dX11_count_138 ?_
      exact W.iret (v := a_trials__size) hx hb hr (fun t ht hW => ⟨⟨a_trials__size, (), rfl, (Or.inr (((iv_w h16 (by decide) (by decide))))), trivial⟩, hS.F ht⟩) hS.2.2 dX11_count_141
    · refine lv_tableIn (off := 141) (tgt := 142) hx hb dX11_count_1 (by omega) (by omega) (by rw [c1e]; rfl) (by decide) ?_
      have h17 : IV 8 8 p0 := ⟨by omega, by omega⟩
      refine lv_aload_n hx hb dX11_count_142 rfl (lv_at hl 0 rfl) ?_
      refine va_get (D := D) (ci := 11) (v := .int a__pastCount) (C := RX11) (T := TX11) (N := 17) hx hb hT i_X11 hown hK hP 0 rfl rfl 10 (by decide) (hT _ q_29) (fun _ h9 => h9) rfl dX11_count_143 ?_
      exact W.iret (v := a__pastCount) hx hb hr (fun t ht hW => ⟨⟨a__pastCount, (), rfl, (Or.inr (((iv_w h17 (by decide) (by decide))))), trivial⟩, hS.F ht⟩) hS.2.2 dX11_count_146
    · refine lv_tableIn (off := 146) (tgt := 147) hx hb dX11_count_1 (by omega) (by omega) (by rw [c1e]; rfl) (by decide) ?_
      have h18 : IV 9 9 p0 := ⟨by omega, by omega⟩
      refine lv_aload_n hx hb dX11_count_147 rfl (lv_at hl 0 rfl) ?_
      refine va_get (D := D) (ci := 11) (v := .int a__x) (C := RX11) (T := TX11) (N := 17) hx hb hT i_X11 hown hK hP 0 rfl rfl 16 (by decide) (hT _ q_36) (fun _ h9 => h9) rfl dX11_count_148 ?_
      exact W.iret (v := a__x) hx hb hr (fun t ht hW => ⟨⟨a__x, (), rfl, (Or.inr (((iv_w h18 (by decide) (by decide))))), trivial⟩, hS.F ht⟩) hS.2.2 dX11_count_151
    · refine lv_tableIn (off := 151) (tgt := 152) hx hb dX11_count_1 (by omega) (by omega) (by rw [c1e]; rfl) (by decide) ?_
      have h19 : IV 10 10 p0 := ⟨by omega, by omega⟩
      refine lv_aload_n hx hb dX11_count_152 rfl (lv_at hl 0 rfl) ?_
      refine va_get (D := D) (ci := 11) (v := .ref a_tape) (C := RX11) (T := TX11) (N := 17) hx hb hT i_X11 hown hK hP 0 rfl rfl 0 (by decide) (hT _ q_0) (fun _ h9 => h9) rfl dX11_count_153 ?_
      refine va_get (D := D) (ci := 7) (v := .int a_tape__length) (C := RX7) (T := TX7) (N := 4) hx hb hT i_X7 hown hK hP 5 rfl rfl 1 (by decide) (hT _ q_13) (fun _ h9 => h9) rfl dX11_count_156 ?_
      exact W.iret (v := a_tape__length) hx hb hr (fun t ht hW => ⟨⟨a_tape__length, (), rfl, (Or.inr (((iv_w h19 (by decide) (by decide))))), trivial⟩, hS.F ht⟩) hS.2.2 dX11_count_159
theorem iv_div {a b c d : Int} {x y v : Int32} (e : v = x / y) (h : IV a b x) (g : IV c d y) (h1 : 0 ≤ a) (h2 : 1 ≤ c) : IV 0 b v := by
  have x0 := h.1
  have x1 := h.2
  have y0 := g.1
  have x2 := Int32.toInt_lt x
  have q0 : 0 ≤ x.toInt / y.toInt := Int.ediv_nonneg (by omega) (by omega)
  have q1 : x.toInt / y.toInt ≤ x.toInt := Int.ediv_le_self _ (by omega)
  unfold IV
  rw [e, Int32.toInt_div, Int.tdiv_eq_ediv_of_nonneg (by omega), iv_bm (by omega) (by omega)]
  omega
set_option maxHeartbeats 4000000 in
set_option maxRecDepth 100000 in
theorem c_J9_max_7cf53_112 (l : Launch) (D : va_G) (cs : Nat → ClassId) (kK kV : Nat → Nat) (p0 : Int32) (h_p0 : IV 1 99 p0) : Met l yJ9_max_7cf53 (hz_w yJ9_max_7cf53 cJ9_max_7cf53 2 (some .int)) ({ frames := 0, cells := 0, slots := 0, locals := 0 }) (va_Pc [.int p0, .int 1] (hz_P D cs kK kV [])) (va_Qi (fun (r : Int32) (_ : Unit) => IV 1 99 r) (fun _ t => True) (fun _ => False)) 0 0 (fun _ => False) := by
  refine hz_ofW (cc := cJ9_max_7cf53) (maxL := 2) (ret := (some .int)) (by decide +kernel) rfl ?_
  intro p e s m args below meth c s₁ B hml hv
  obtain ⟨rfl, hP, hE⟩ := hv
  have hx := B.exec
  have hb := B.bytes
  have hr := B.returns
  have hT : ∀ w ∈ TB, w.before _ s = true := fun w h => atoms_spec (ws := hz_w yJ9_max_7cf53 cJ9_max_7cf53 2 (some .int)) B.pre w (List.mem_cons_of_mem _ h)
  have hown : s.vm.findClass RJ9 = some m.cls := findClass_of_methodNamed B.named
  have hlocks := B.notSynchronized
  clear B
  have hS : va_S (fun _ => False) s.heap s.heap [] := va_S.rf
  have hK := hE.1
  have hl := lv_entry ([.int p0, .int 1]) (n := 2) (Nat.le_of_ble_eq_true rfl)
  rw [lg_entry_eq]
  generalize (lg_sl ([.int p0, .int 1]) ++ List.replicate (2 - (lg_sl ([.int p0, .int 1])).length) Slot.unset).toArray = ls at hl ⊢
  have hl : lv_has ls 2 [(0, .int p0), (1, .int 1)] := hl
  obtain ⟨H, eH⟩ : ∃ z, z = s.heap := ⟨_, rfl⟩
  have hP : va_P D classes [] H := by rw [eH]; exact hP
  have hS : va_S (fun _ => False) s.heap H [] := by rw [eH]; exact hS
  rw [← eH]
  clear eH
  obtain ⟨locs, el⟩ : ∃ z : List Loc, z = [] := ⟨_, rfl⟩
  rw [← el] at hS ⊢
  clear el
  refine lv_iload_n hx hb dJ9_max_7cf53_0 rfl (lv_at hl 0 rfl) ?_
  refine lv_iload_n hx hb dJ9_max_7cf53_1 rfl (lv_at hl 1 rfl) ?_
  refine lv_icmp_lt (tgt := 9) hx hb dJ9_max_7cf53_2 (by decide) (fun z => absurd z (iv_ltF h_p0 (iv_c (a := 1) (b := 1) (by decide)) (by decide))) (fun _ => ?_)
  refine lv_iload_n hx hb dJ9_max_7cf53_5 rfl (lv_at hl 0 rfl) ?_
  refine lv_goto (tgt := 10) hx hb dJ9_max_7cf53_6 (by decide) ?_
  exact W.iret (v := p0) hx hb hr (fun t ht hW => ⟨⟨p0, (), rfl, h_p0, trivial⟩, hS.F ht⟩) hS.2.2 dJ9_max_7cf53_10
theorem dX11_chance_0 : decode cX11_chance 0 = .ok (.aload_n 0, 1) := by decide +kernel
theorem dX11_chance_1 : decode cX11_chance 1 = .ok (.getfield 39, 3) := by decide +kernel
theorem dX11_chance_4 : decode cX11_chance 4 = .ok (.iload_n 1, 1) := by decide +kernel
theorem dX11_chance_5 : decode cX11_chance 5 = .ok (.invokevirtual 157, 3) := by decide +kernel
theorem dX11_chance_8 : decode cX11_chance 8 = .ok (.ifCond .eq 23, 3) := by decide +kernel
theorem dX11_chance_11 : decode cX11_chance 11 = .ok (.aload_n 0, 1) := by decide +kernel
theorem dX11_chance_12 : decode cX11_chance 12 = .ok (.getfield 39, 3) := by decide +kernel
theorem dX11_chance_15 : decode cX11_chance 15 = .ok (.iload_n 2, 1) := by decide +kernel
theorem dX11_chance_16 : decode cX11_chance 16 = .ok (.invokevirtual 129, 3) := by decide +kernel
theorem dX11_chance_19 : decode cX11_chance 19 = .ok (.ifCond .eq 12, 3) := by decide +kernel
theorem dX11_chance_22 : decode cX11_chance 22 = .ok (.iload_n 3, 1) := by decide +kernel
theorem dX11_chance_23 : decode cX11_chance 23 = .ok (.ifCond .lt 8, 3) := by decide +kernel
theorem dX11_chance_26 : decode cX11_chance 26 = .ok (.iload_n 3, 1) := by decide +kernel
theorem dX11_chance_27 : decode cX11_chance 27 = .ok (.iconst 1, 1) := by decide +kernel
theorem dX11_chance_28 : decode cX11_chance 28 = .ok (.if_icmp .le 5, 3) := by decide +kernel
theorem dX11_chance_31 : decode cX11_chance 31 = .ok (.iconst (-1), 1) := by decide +kernel
theorem dX11_chance_32 : decode cX11_chance 32 = .ok (.ireturn, 1) := by decide +kernel
theorem dX11_chance_33 : decode cX11_chance 33 = .ok (.aload_n 0, 1) := by decide +kernel
theorem dX11_chance_34 : decode cX11_chance 34 = .ok (.iload_n 1, 1) := by decide +kernel
theorem dX11_chance_35 : decode cX11_chance 35 = .ok (.invokevirtual 269, 3) := by decide +kernel
theorem dX11_chance_38 : decode cX11_chance 38 = .ok (.istore 4, 2) := by decide +kernel
theorem dX11_chance_40 : decode cX11_chance 40 = .ok (.iload 4, 2) := by decide +kernel
theorem dX11_chance_42 : decode cX11_chance 42 = .ok (.invokestatic 206, 3) := by decide +kernel
theorem dX11_chance_45 : decode cX11_chance 45 = .ok (.istore 5, 2) := by decide +kernel
theorem dX11_chance_47 : decode cX11_chance 47 = .ok (.iload 4, 2) := by decide +kernel
theorem dX11_chance_49 : decode cX11_chance 49 = .ok (.aload_n 0, 1) := by decide +kernel
theorem dX11_chance_50 : decode cX11_chance 50 = .ok (.getfield 39, 3) := by decide +kernel
theorem dX11_chance_53 : decode cX11_chance 53 = .ok (.getfield 272, 3) := by decide +kernel
theorem dX11_chance_56 : decode cX11_chance 56 = .ok (.iload_n 2, 1) := by decide +kernel
theorem dX11_chance_57 : decode cX11_chance 57 = .ok (.iaload, 1) := by decide +kernel
theorem dX11_chance_58 : decode cX11_chance 58 = .ok (.iand, 1) := by decide +kernel
theorem dX11_chance_59 : decode cX11_chance 59 = .ok (.invokestatic 206, 3) := by decide +kernel
theorem dX11_chance_62 : decode cX11_chance 62 = .ok (.istore 6, 2) := by decide +kernel
theorem dX11_chance_64 : decode cX11_chance 64 = .ok (.iload 6, 2) := by decide +kernel
theorem dX11_chance_66 : decode cX11_chance 66 = .ok (.ifCond .ne 5, 3) := by decide +kernel
theorem dX11_chance_69 : decode cX11_chance 69 = .ok (.iload_n 3, 1) := by decide +kernel
theorem dX11_chance_70 : decode cX11_chance 70 = .ok (.ireturn, 1) := by decide +kernel
theorem dX11_chance_71 : decode cX11_chance 71 = .ok (.iload 6, 2) := by decide +kernel
theorem dX11_chance_73 : decode cX11_chance 73 = .ok (.iload 5, 2) := by decide +kernel
theorem dX11_chance_75 : decode cX11_chance 75 = .ok (.invokestatic 275, 3) := by decide +kernel
theorem dX11_chance_78 : decode cX11_chance 78 = .ok (.istore 7, 2) := by decide +kernel
theorem dX11_chance_80 : decode cX11_chance 80 = .ok (.iload_n 3, 1) := by decide +kernel
theorem dX11_chance_81 : decode cX11_chance 81 = .ok (.ifCond .ne 8, 3) := by decide +kernel
theorem dX11_chance_84 : decode cX11_chance 84 = .ok (.iload 6, 2) := by decide +kernel
theorem dX11_chance_86 : decode cX11_chance 86 = .ok (.goto 5, 3) := by decide +kernel
theorem dX11_chance_89 : decode cX11_chance 89 = .ok (.iload 5, 2) := by decide +kernel
theorem dX11_chance_91 : decode cX11_chance 91 = .ok (.iload 7, 2) := by decide +kernel
theorem dX11_chance_93 : decode cX11_chance 93 = .ok (.iconst 1, 1) := by decide +kernel
theorem dX11_chance_94 : decode cX11_chance 94 = .ok (.invokestatic 278, 3) := by decide +kernel
theorem dX11_chance_97 : decode cX11_chance 97 = .ok (.idiv, 1) := by decide +kernel
theorem dX11_chance_98 : decode cX11_chance 98 = .ok (.ireturn, 1) := by decide +kernel
set_option maxHeartbeats 4000000 in
set_option maxRecDepth 100000 in
theorem c_X11_chance (l : Launch) (D : va_G) (cs : Nat → ClassId) (kK kV : Nat → Nat) (a : Nat) (p0 : Int32) (p1 : Int32) (p2 : Int32) (a_tape : Nat) (a_fairReader : Nat) (a_ruleReader : Nat) (a_rules : Nat) (a__ruleCount : Int32) (a_told : Nat) (a_scene : Nat) (a_spare : Nat) (a_past : Nat) (a__pastFirst : Int32) (a__pastCount : Int32) (a_trials : Nat) (a_images : Nat) (a_pairs : Nat) (a_walker : Nat) (a_market : Nat) (a__x : Int32) (a_told__stalls : Int32) (a_told__shift : Int32) (a_told__halves : Int32) (a_told__buyers : Int32) (a_told__near : Int32) (a_told__dusk : Int32) (a_told__duskPrice : Int32) (a_told__hear : Int32) (a_told__forged : Int32) (a_told_stall : Nat) (a_told_shape : Nat) (a_told_side : Nat) (a_told_price : Nat) (a_told_purse : Nat) (a_told_spot : Nat) (a_told_club : Nat) (a_told_fitting : Nat) (a_told_nearly : Nat) (a_scene__hour : Int32) (a_scene_purse : Nat) (a_scene_spot : Nat) (a_scene_seen : Nat) (a_scene_has : Nat) (a_scene_at : Nat) (a_scene_at_c : Nat → Int32) (a_told_club_c : Nat → Int32) (a_scene_seen_c : Nat → Int32) (a_told_fitting_c : Nat → Int32) (h_a_told__halves : IV 0 12 a_told__halves) (h_a_told__buyers : IV 0 4 a_told__buyers) : Met l yX11_chance (hz_w yX11_chance cX11_chance 8 (some .int)) ({ frames := 2, cells := 0, slots := 0, locals := 44 }) (va_Pc [.ref a, .int p0, .int p1, .int p2] (hz_P D cs kK kV [(a, .inr (11, [.ref a_tape, .ref a_fairReader, .ref a_ruleReader, .ref a_rules, .int a__ruleCount, .ref a_told, .ref a_scene, .ref a_spare, .ref a_past, .int a__pastFirst, .int a__pastCount, .ref a_trials, .ref a_images, .ref a_pairs, .ref a_walker, .ref a_market, .int a__x])), (a_told, .inr (8, [.int a_told__stalls, .int a_told__shift, .int a_told__halves, .int a_told__buyers, .int a_told__near, .int a_told__dusk, .int a_told__duskPrice, .int a_told__hear, .int a_told__forged, .ref a_told_stall, .ref a_told_shape, .ref a_told_side, .ref a_told_price, .ref a_told_purse, .ref a_told_spot, .ref a_told_club, .ref a_told_fitting, .ref a_told_nearly])), (a_scene, .inr (6, [.int a_scene__hour, .ref a_scene_purse, .ref a_scene_spot, .ref a_scene_seen, .ref a_scene_has, .ref a_scene_at])), (a_scene_at, .inl (cs 0, 8, .inl a_scene_at_c)), (a_told_club, .inl (cs 0, 4, .inl a_told_club_c)), (a_scene_seen, .inl (cs 0, 4, .inl a_scene_seen_c)), (a_told_fitting, .inl (cs 0, 12, .inl a_told_fitting_c))])) (va_Qi (fun (r : Int32) (_ : Unit) => (r = (-1) ∧ IV (-2147483648) 2147483647 p0) ∨ (IV 0 63 r ∧ IV 1 4 a_told__buyers ∧ IV 1 12 a_told__halves ∧ IV 0 3 p0 ∧ IV 0 11 p1 ∧ IV 0 1 p2)) (fun _ t => True) (fun _ => False)) 0 0 (fun _ => False) := by
  refine Met.ofW (cc := cX11_chance) (maxL := 8) (ret := (some .int)) (by decide) rfl ?_
  intro p e s m args below meth c s₁ B hml hv
  obtain ⟨rfl, hP, hE⟩ := hv
  have hx := B.exec
  have hb := B.bytes
  have hr := B.returns
  have hT : ∀ w ∈ TB, w.before _ s = true := fun w h => atoms_spec (ws := hz_w yX11_chance cX11_chance 8 (some .int)) B.pre w (List.mem_cons_of_mem _ h)
  have hown : s.vm.findClass RX11 = some m.cls := findClass_of_methodNamed B.named
  have hlocks := B.notSynchronized
  clear B
  have hS : va_S (fun _ => False) s.heap s.heap [] := va_S.rf
  have hK := hE.1
  have hl := lv_entry ([.ref a, .int p0, .int p1, .int p2]) (n := 8) (Nat.le_of_ble_eq_true rfl)
  rw [lg_entry_eq]
  generalize (lg_sl ([.ref a, .int p0, .int p1, .int p2]) ++ List.replicate (8 - (lg_sl ([.ref a, .int p0, .int p1, .int p2])).length) Slot.unset).toArray = ls at hl ⊢
  have hl : lv_has ls 8 [(0, .ref a), (1, .int p0), (2, .int p1), (3, .int p2)] := hl
  obtain ⟨H, eH⟩ : ∃ z, z = s.heap := ⟨_, rfl⟩
  have hP : va_P D classes [(a, .inr (11, [.ref a_tape, .ref a_fairReader, .ref a_ruleReader, .ref a_rules, .int a__ruleCount, .ref a_told, .ref a_scene, .ref a_spare, .ref a_past, .int a__pastFirst, .int a__pastCount, .ref a_trials, .ref a_images, .ref a_pairs, .ref a_walker, .ref a_market, .int a__x])), (a_told, .inr (8, [.int a_told__stalls, .int a_told__shift, .int a_told__halves, .int a_told__buyers, .int a_told__near, .int a_told__dusk, .int a_told__duskPrice, .int a_told__hear, .int a_told__forged, .ref a_told_stall, .ref a_told_shape, .ref a_told_side, .ref a_told_price, .ref a_told_purse, .ref a_told_spot, .ref a_told_club, .ref a_told_fitting, .ref a_told_nearly])), (a_scene, .inr (6, [.int a_scene__hour, .ref a_scene_purse, .ref a_scene_spot, .ref a_scene_seen, .ref a_scene_has, .ref a_scene_at])), (a_scene_at, .inl (cs 0, 8, .inl a_scene_at_c)), (a_told_club, .inl (cs 0, 4, .inl a_told_club_c)), (a_scene_seen, .inl (cs 0, 4, .inl a_scene_seen_c)), (a_told_fitting, .inl (cs 0, 12, .inl a_told_fitting_c))] H := by rw [eH]; exact hP
  have hS : va_S (fun _ => False) s.heap H [] := by rw [eH]; exact hS
  rw [← eH]
  clear eH
  obtain ⟨locs, el⟩ : ∃ z : List Loc, z = [] := ⟨_, rfl⟩
  rw [← el] at hS ⊢
  clear el
  have K91 : ∀ (k91_L_7 : Int32) (k91_L_6 : Int32) (k91_L_5 : Int32) (k91_L_4 : Int32) (k91_S_0 : Int32), IV 1 4 a_told__buyers → IV 1 12 a_told__halves → IV 0 63 k91_L_5 → IV 1 63 k91_L_6 → IV 1 99 k91_L_7 → IV 0 63 k91_S_0 → IV 0 3 p0 → IV 0 11 p1 → IV 0 1 p2 → ∀ (H : Heap) (locs : List Loc), va_P D classes [(a, .inr (11, [.ref a_tape, .ref a_fairReader, .ref a_ruleReader, .ref a_rules, .int a__ruleCount, .ref a_told, .ref a_scene, .ref a_spare, .ref a_past, .int a__pastFirst, .int a__pastCount, .ref a_trials, .ref a_images, .ref a_pairs, .ref a_walker, .ref a_market, .int a__x])), (a_told, .inr (8, [.int a_told__stalls, .int a_told__shift, .int a_told__halves, .int a_told__buyers, .int a_told__near, .int a_told__dusk, .int a_told__duskPrice, .int a_told__hear, .int a_told__forged, .ref a_told_stall, .ref a_told_shape, .ref a_told_side, .ref a_told_price, .ref a_told_purse, .ref a_told_spot, .ref a_told_club, .ref a_told_fitting, .ref a_told_nearly])), (a_scene, .inr (6, [.int a_scene__hour, .ref a_scene_purse, .ref a_scene_spot, .ref a_scene_seen, .ref a_scene_has, .ref a_scene_at])), (a_scene_at, .inl (cs 0, 8, .inl a_scene_at_c)), (a_told_club, .inl (cs 0, 4, .inl a_told_club_c)), (a_scene_seen, .inl (cs 0, 4, .inl a_scene_seen_c)), (a_told_fitting, .inl (cs 0, 12, .inl a_told_fitting_c))] H → va_S (fun _ => False) s.heap H locs → ∀ ls : Array Slot, lv_has ls 8 [(7, .int k91_L_7), (6, .int k91_L_6), (5, .int k91_L_5), (4, .int k91_L_4), (0, .ref a), (1, .int p0), (2, .int p1), (3, .int p2)] → W p l e (headSpec (hz_w yX11_chance cX11_chance 8 (some .int)) ({ frames := 2, cells := 0, slots := 0, locals := 44 })).room s m [.ref a, .int p0, .int p1, .int p2].toArray below meth c H locs 0 0 (MQ below (va_Qi (fun (r : Int32) (_ : Unit) => (r = (-1) ∧ IV (-2147483648) 2147483647 p0) ∨ (IV 0 63 r ∧ IV 1 4 a_told__buyers ∧ IV 1 12 a_told__halves ∧ IV 0 3 p0 ∧ IV 0 11 p1 ∧ IV 0 1 p2)) (fun _ t => True) (fun _ => False)) [.ref a, .int p0, .int p1, .int p2].toArray s 0 0 (fun _ => False)) (F0 m 91 ls [.int k91_S_0]) := by
    intro k91_L_7 k91_L_6 k91_L_5 k91_L_4 k91_S_0 q91_3 q91_4 q91_6 q91_7 q91_8 q91_9 q91_10 q91_11 q91_12 H locs hP hS ls hl
    refine lv_iload hx hb dX11_chance_91 (lv_at hl 0 rfl) ?_
    refine lv_iconst (v := 1) hx hb dX11_chance_93 (by decide) ?_
    refine va_calli (va_runS (As := [.int k91_L_7, .int 1]) (rest := [.int k91_S_0]) ⟨hx, hb, hml, hown, hT⟩ (c_J9_max_7cf53_112 l D cs kK kV k91_L_7 q91_8) (va_cwS 2 hT (hz_gS q_367 q_368 q_369 q_370) rfl rfl rfl (by decide +kernel) ⟨(Nat.le_of_ble_eq_true rfl), (Nat.le_of_ble_eq_true rfl)⟩) ⟨hz_P.blind, hz_P.mk (hP.sub (ws' := []) [] rfl) hE hS⟩ rfl rfl hl.1 rfl (lv_room (Nat.le_of_ble_eq_true rfl)) dX11_chance_94 ⟨(Nat.le_of_ble_eq_true rfl), (Nat.le_of_ble_eq_true rfl)⟩) hS (fun _ _ h => h.elim) (fun _ h => h.elim) (fun r1 u t H1 locs ht hvm hw hB hz1 hk1 hS => ?_)
    have hP := hz_keep hP hk1
    clear hk1 hB hz1
    generalize H1 = H at hP hS ⊢
    have hw_r1 := hw
    refine lv_idiv hx hb dX11_chance_97 (iv_ne0 hw_r1 (by decide)) ?_
    refine lv_topi (fun v2 ev2 => ?_)
    have hv2 : IV 0 63 v2 := iv_div ev2 q91_9 hw_r1 (by decide) (by decide)
    exact W.iret (v := v2) hx hb hr (fun t ht hW => ⟨⟨v2, (), rfl, (Or.inr ((⟨hv2, q91_3, q91_4, q91_10, q91_11, q91_12⟩))), trivial⟩, hS.F ht⟩) hS.2.2 dX11_chance_98
  refine lv_aload_n hx hb dX11_chance_0 rfl (lv_at hl 0 rfl) ?_
  refine va_get (D := D) (ci := 11) (v := .ref a_told) (C := RX11) (T := TX11) (N := 17) hx hb hT i_X11 hown hK hP 0 rfl rfl 5 (by decide) (hT _ q_4) (fun _ h9 => h9) rfl dX11_chance_1 ?_
  refine lv_iload_n hx hb dX11_chance_4 rfl (lv_at hl 1 rfl) ?_
  refine va_calli (va_runV (As := [.int p0]) (rest := []) ⟨hx, hb, hml, hown, hT⟩ (c_X8_isBuyer l D cs kK kV a_told p0 a_told__stalls a_told__shift a_told__halves a_told__buyers a_told__near a_told__dusk a_told__duskPrice a_told__hear a_told__forged a_told_stall a_told_shape a_told_side a_told_price a_told_purse a_told_spot a_told_club a_told_fitting a_told_nearly h_a_told__buyers) (cwV 1 hT (hz_gV q_266 q_267 q_268 q_251 q_269) rfl rfl rfl (by decide +kernel) ⟨(Nat.le_of_ble_eq_true rfl), (Nat.le_of_ble_eq_true rfl)⟩) ⟨hz_P.blind, va_recv hK hP (ci := 8) (q0 := 1) rfl rfl, hz_P.mk (hP.sub (ws' := [(a_told, .inr (8, [.int a_told__stalls, .int a_told__shift, .int a_told__halves, .int a_told__buyers, .int a_told__near, .int a_told__dusk, .int a_told__duskPrice, .int a_told__hear, .int a_told__forged, .ref a_told_stall, .ref a_told_shape, .ref a_told_side, .ref a_told_price, .ref a_told_purse, .ref a_told_spot, .ref a_told_club, .ref a_told_fitting, .ref a_told_nearly]))]) [1] rfl) hE hS⟩ rfl rfl hl.1 rfl (lv_room (Nat.le_of_ble_eq_true rfl)) dX11_chance_5 ⟨(Nat.le_of_ble_eq_true rfl), (Nat.le_of_ble_eq_true rfl)⟩) hS (fun _ _ h => h.elim) (fun _ h => h.elim) (fun r3 u t H1 locs ht hvm hw hB hz1 hk1 hS => ?_)
  have hP := hz_keep hP hk1
  clear hk1 hB hz1
  generalize H1 = H at hP hS ⊢
  rcases hw with ⟨rfl, h4⟩ | ⟨rfl, h5, h6⟩
  · refine lv_if_eq (tgt := 31) hx hb dX11_chance_8 (by decide) (fun _ => ?_) (fun z => absurd (by decide) z)
    refine lv_iconst (v := (-1)) hx hb dX11_chance_31 (by decide) ?_
    exact W.iret (v := (-1)) hx hb hr (fun t ht hW => ⟨⟨(-1), (), rfl, (Or.inl (⟨rfl, h4⟩)), trivial⟩, hS.F ht⟩) hS.2.2 dX11_chance_32
  · refine lv_if_eq (tgt := 31) hx hb dX11_chance_8 (by decide) (fun z => absurd z (by decide)) (fun _ => ?_)
    refine lv_aload_n hx hb dX11_chance_11 rfl (lv_at hl 0 rfl) ?_
    refine va_get (D := D) (ci := 11) (v := .ref a_told) (C := RX11) (T := TX11) (N := 17) hx hb hT i_X11 hown hK hP 0 rfl rfl 5 (by decide) (hT _ q_4) (fun _ h9 => h9) rfl dX11_chance_12 ?_
    refine lv_iload_n hx hb dX11_chance_15 rfl (lv_at hl 2 rfl) ?_
    refine va_calli (va_runV (As := [.int p1]) (rest := []) ⟨hx, hb, hml, hown, hT⟩ (c_X8_isHalf l D cs kK kV a_told p1 a_told__stalls a_told__shift a_told__halves a_told__buyers a_told__near a_told__dusk a_told__duskPrice a_told__hear a_told__forged a_told_stall a_told_shape a_told_side a_told_price a_told_purse a_told_spot a_told_club a_told_fitting a_told_nearly h_a_told__halves) (cwV 1 hT (hz_gV q_249 q_250 q_252 q_251 q_253) rfl rfl rfl (by decide +kernel) ⟨(Nat.le_of_ble_eq_true rfl), (Nat.le_of_ble_eq_true rfl)⟩) ⟨hz_P.blind, va_recv hK hP (ci := 8) (q0 := 1) rfl rfl, hz_P.mk (hP.sub (ws' := [(a_told, .inr (8, [.int a_told__stalls, .int a_told__shift, .int a_told__halves, .int a_told__buyers, .int a_told__near, .int a_told__dusk, .int a_told__duskPrice, .int a_told__hear, .int a_told__forged, .ref a_told_stall, .ref a_told_shape, .ref a_told_side, .ref a_told_price, .ref a_told_purse, .ref a_told_spot, .ref a_told_club, .ref a_told_fitting, .ref a_told_nearly]))]) [1] rfl) hE hS⟩ rfl rfl hl.1 rfl (lv_room (Nat.le_of_ble_eq_true rfl)) dX11_chance_16 ⟨(Nat.le_of_ble_eq_true rfl), (Nat.le_of_ble_eq_true rfl)⟩) hS (fun _ _ h => h.elim) (fun _ h => h.elim) (fun r7 u t H1 locs ht hvm hw hB hz1 hk1 hS => ?_)
    have hP := hz_keep hP hk1
    clear hk1 hB hz1
    generalize H1 = H at hP hS ⊢
    rcases hw with ⟨rfl, h8⟩ | ⟨rfl, h9, h10⟩
    · refine lv_if_eq (tgt := 31) hx hb dX11_chance_19 (by decide) (fun _ => ?_) (fun z => absurd (by decide) z)
      refine lv_iconst (v := (-1)) hx hb dX11_chance_31 (by decide) ?_
      exact W.iret (v := (-1)) hx hb hr (fun t ht hW => ⟨⟨(-1), (), rfl, (Or.inl (⟨rfl, (iv_w h6 (by decide) (by decide))⟩)), trivial⟩, hS.F ht⟩) hS.2.2 dX11_chance_32
    · refine lv_if_eq (tgt := 31) hx hb dX11_chance_19 (by decide) (fun z => absurd z (by decide)) (fun _ => ?_)
      refine lv_iload_n hx hb dX11_chance_22 rfl (lv_at hl 3 rfl) ?_
      refine lv_if_lt (tgt := 31) hx hb dX11_chance_23 (by decide) (fun c11 => ?_) (fun c11 => ?_)
      · have h12 : IV (-2147483648) (-1) p2 := iv_lt1 c11 iv_top (iv_c (a := 0) (b := 0) (by decide)) (by decide)
        refine lv_iconst (v := (-1)) hx hb dX11_chance_31 (by decide) ?_
        exact W.iret (v := (-1)) hx hb hr (fun t ht hW => ⟨⟨(-1), (), rfl, (Or.inl (⟨rfl, (iv_w h6 (by decide) (by decide))⟩)), trivial⟩, hS.F ht⟩) hS.2.2 dX11_chance_32
      · have h13 : IV 0 2147483647 p2 := iv_le2 (Int32.not_lt.mp c11) (iv_c (a := 0) (b := 0) (by decide)) iv_top (by decide)
        refine lv_iload_n hx hb dX11_chance_26 rfl (lv_at hl 3 rfl) ?_
        refine lv_iconst (v := 1) hx hb dX11_chance_27 (by decide) ?_
        refine lv_icmp_le (tgt := 33) hx hb dX11_chance_28 (by decide) (fun c14 => ?_) (fun c14 => ?_)
        · have h15 : IV 0 1 p2 := iv_le1 c14 h13 (iv_c (a := 1) (b := 1) (by decide)) (by decide)
          refine lv_aload_n hx hb dX11_chance_33 rfl (lv_at hl 0 rfl) ?_
          refine lv_iload_n hx hb dX11_chance_34 rfl (lv_at hl 1 rfl) ?_
          refine va_calli (va_runV (As := [.int p0]) (rest := []) ⟨hx, hb, hml, hown, hT⟩ (c_X11_unseenBy l D cs kK kV a p0 a_tape a_fairReader a_ruleReader a_rules a__ruleCount a_told a_scene a_spare a_past a__pastFirst a__pastCount a_trials a_images a_pairs a_walker a_market a__x a_scene__hour a_scene_purse a_scene_spot a_scene_seen a_scene_has a_scene_at a_scene_at_c a_told__stalls a_told__shift a_told__halves a_told__buyers a_told__near a_told__dusk a_told__duskPrice a_told__hear a_told__forged a_told_stall a_told_shape a_told_side a_told_price a_told_purse a_told_spot a_told_club a_told_fitting a_told_nearly a_told_club_c a_scene_seen_c h6) (cwV 1 hT (hz_gV q_360 q_361 q_362 q_241 q_363) rfl rfl rfl (by decide +kernel) ⟨(Nat.le_of_ble_eq_true rfl), (Nat.le_of_ble_eq_true rfl)⟩) ⟨hz_P.blind, va_recv hK hP (ci := 11) (q0 := 0) rfl rfl, hz_P.mk (hP.sub (ws' := [(a, .inr (11, [.ref a_tape, .ref a_fairReader, .ref a_ruleReader, .ref a_rules, .int a__ruleCount, .ref a_told, .ref a_scene, .ref a_spare, .ref a_past, .int a__pastFirst, .int a__pastCount, .ref a_trials, .ref a_images, .ref a_pairs, .ref a_walker, .ref a_market, .int a__x])), (a_scene, .inr (6, [.int a_scene__hour, .ref a_scene_purse, .ref a_scene_spot, .ref a_scene_seen, .ref a_scene_has, .ref a_scene_at])), (a_scene_at, .inl (cs 0, 8, .inl a_scene_at_c)), (a_told, .inr (8, [.int a_told__stalls, .int a_told__shift, .int a_told__halves, .int a_told__buyers, .int a_told__near, .int a_told__dusk, .int a_told__duskPrice, .int a_told__hear, .int a_told__forged, .ref a_told_stall, .ref a_told_shape, .ref a_told_side, .ref a_told_price, .ref a_told_purse, .ref a_told_spot, .ref a_told_club, .ref a_told_fitting, .ref a_told_nearly])), (a_told_club, .inl (cs 0, 4, .inl a_told_club_c)), (a_scene_seen, .inl (cs 0, 4, .inl a_scene_seen_c))]) [0,2,3,1,4,5] rfl) hE hS⟩ rfl rfl hl.1 rfl (lv_room (Nat.le_of_ble_eq_true rfl)) dX11_chance_35 ⟨(Nat.le_of_ble_eq_true rfl), (Nat.le_of_ble_eq_true rfl)⟩) hS (fun _ _ h => h.elim) (fun _ h => h.elim) (fun r16 u t H1 locs ht hvm hw hB hz1 hk1 hS => ?_)
          have hP := hz_keep hP hk1
          clear hk1 hB hz1
          generalize H1 = H at hP hS ⊢
          refine lv_istore (lv' := [(4, .int r16), (0, .ref a), (1, .int p0), (2, .int p1), (3, .int p2)]) hx hb dX11_chance_38 hl (by decide) rfl (fun ls hl => ?_)
          refine lv_iload hx hb dX11_chance_40 (lv_at hl 0 rfl) ?_
          refine va_calli (va_runS (As := [.int r16]) (rest := []) ⟨hx, hb, hml, hown, hT⟩ (c_J6_bitCount_0f7a4_6 l D cs kK kV r16) (va_cwS 1 hT (hz_gS q_302 q_303 q_304 q_305) rfl rfl rfl (by decide +kernel) ⟨(Nat.le_of_ble_eq_true rfl), (Nat.le_of_ble_eq_true rfl)⟩) ⟨hz_P.blind, hz_P.mk (hP.sub (ws' := []) [] rfl) hE hS⟩ rfl rfl hl.1 rfl (lv_room (Nat.le_of_ble_eq_true rfl)) dX11_chance_42 ⟨(Nat.le_of_ble_eq_true rfl), (Nat.le_of_ble_eq_true rfl)⟩) hS (fun _ _ h => h.elim) (fun _ h => h.elim) (fun r17 u t H1 locs ht hvm hw hB hz1 hk1 hS => ?_)
          have hP := hz_keep hP hk1
          clear hk1 hB hz1
          generalize H1 = H at hP hS ⊢
          have hw_r17 := hw
          have h18 : IV 0 63 r17 := bc_iv hw_r17
          refine lv_istore (lv' := [(5, .int r17), (4, .int r16), (0, .ref a), (1, .int p0), (2, .int p1), (3, .int p2)]) hx hb dX11_chance_45 hl (by decide) rfl (fun ls hl => ?_)
          refine lv_iload hx hb dX11_chance_47 (lv_at hl 1 rfl) ?_
          refine lv_aload_n hx hb dX11_chance_49 rfl (lv_at hl 2 rfl) ?_
          refine va_get (D := D) (ci := 11) (v := .ref a_told) (C := RX11) (T := TX11) (N := 17) hx hb hT i_X11 hown hK hP 0 rfl rfl 5 (by decide) (hT _ q_4) (fun _ h9 => h9) rfl dX11_chance_50 ?_
          refine va_get (D := D) (ci := 8) (v := .ref a_told_fitting) (C := RX8) (T := TX8) (N := 18) hx hb hT i_X8 hown hK hP 1 rfl rfl 16 (by decide) (hT _ q_33) (fun _ h9 => h9) rfl dX11_chance_53 ?_
          refine lv_iload_n hx hb dX11_chance_56 rfl (lv_at hl 4 rfl) ?_
          refine va_iald hx hb hK hP 6 0 rfl rfl (iv_v h10 (by decide) (by decide)) dX11_chance_57 ?_
          refine lv_topi (fun v19 ev19 => ?_)
          refine lv_iand hx hb dX11_chance_58 ?_
          refine lv_topi (fun v20 ev20 => ?_)
          refine va_calli (va_runS (As := [.int v20]) (rest := []) ⟨hx, hb, hml, hown, hT⟩ (c_J6_bitCount_0f7a4_6 l D cs kK kV v20) (va_cwS 1 hT (hz_gS q_302 q_303 q_304 q_305) rfl rfl rfl (by decide +kernel) ⟨(Nat.le_of_ble_eq_true rfl), (Nat.le_of_ble_eq_true rfl)⟩) ⟨hz_P.blind, hz_P.mk (hP.sub (ws' := []) [] rfl) hE hS⟩ rfl rfl hl.1 rfl (lv_room (Nat.le_of_ble_eq_true rfl)) dX11_chance_59 ⟨(Nat.le_of_ble_eq_true rfl), (Nat.le_of_ble_eq_true rfl)⟩) hS (fun _ _ h => h.elim) (fun _ h => h.elim) (fun r21 u t H1 locs ht hvm hw hB hz1 hk1 hS => ?_)
          have hP := hz_keep hP hk1
          clear hk1 hB hz1
          generalize H1 = H at hP hS ⊢
          have hw_r21 := hw
          have h22 : IV 0 63 r21 := bc_iv hw_r21
          refine lv_istore (lv' := [(6, .int r21), (5, .int r17), (4, .int r16), (0, .ref a), (1, .int p0), (2, .int p1), (3, .int p2)]) hx hb dX11_chance_62 hl (by decide) rfl (fun ls hl => ?_)
          refine lv_iload hx hb dX11_chance_64 (lv_at hl 0 rfl) ?_
          refine lv_if_ne (tgt := 71) hx hb dX11_chance_66 (by decide) (fun c23 => ?_) (fun c23 => ?_)
          · have h24 : IV 1 63 r21 := iv_neL c23 h22 (by decide)
            refine lv_iload hx hb dX11_chance_71 (lv_at hl 0 rfl) ?_
            refine lv_iload hx hb dX11_chance_73 (lv_at hl 1 rfl) ?_
            refine va_calli (va_runS (As := [.int r21, .int r17]) (rest := []) ⟨hx, hb, hml, hown, hT⟩ (c_X11_commonDivisor l D cs kK kV r21 r17 h24) (va_cwS 2 hT (hz_gS q_364 q_365 q_241 q_366) rfl rfl rfl (by decide +kernel) ⟨(Nat.le_of_ble_eq_true rfl), (Nat.le_of_ble_eq_true rfl)⟩) ⟨hz_P.blind, hz_P.mk (hP.sub (ws' := []) [] rfl) hE hS⟩ rfl rfl hl.1 rfl (lv_room (Nat.le_of_ble_eq_true rfl)) dX11_chance_75 ⟨(Nat.le_of_ble_eq_true rfl), (Nat.le_of_ble_eq_true rfl)⟩) hS (fun _ _ h => h.elim) (fun _ h => h.elim) (fun r25 u t H1 locs ht hvm hw hB hz1 hk1 hS => ?_)
            have hP := hz_keep hP hk1
            clear hk1 hB hz1
            generalize H1 = H at hP hS ⊢
            have hw_r25 := hw
            refine lv_istore (lv' := [(7, .int r25), (6, .int r21), (5, .int r17), (4, .int r16), (0, .ref a), (1, .int p0), (2, .int p1), (3, .int p2)]) hx hb dX11_chance_78 hl (by decide) rfl (fun ls hl => ?_)
            refine lv_iload_n hx hb dX11_chance_80 rfl (lv_at hl 7 rfl) ?_
            refine lv_if_ne (tgt := 89) hx hb dX11_chance_81 (by decide) (fun c26 => ?_) (fun c26 => ?_)
            · have h27 : IV 1 1 p2 := iv_neL c26 h15 (by decide)
              refine lv_iload hx hb dX11_chance_89 (lv_at hl 2 rfl) ?_
              exact K91 r25 r21 r17 r16 r17 h5 h9 h18 h24 hw_r25 h18 h6 h10 (iv_w h27 (by decide) (by decide)) H locs (hP.sub (ws' := [(a, .inr (11, [.ref a_tape, .ref a_fairReader, .ref a_ruleReader, .ref a_rules, .int a__ruleCount, .ref a_told, .ref a_scene, .ref a_spare, .ref a_past, .int a__pastFirst, .int a__pastCount, .ref a_trials, .ref a_images, .ref a_pairs, .ref a_walker, .ref a_market, .int a__x])), (a_told, .inr (8, [.int a_told__stalls, .int a_told__shift, .int a_told__halves, .int a_told__buyers, .int a_told__near, .int a_told__dusk, .int a_told__duskPrice, .int a_told__hear, .int a_told__forged, .ref a_told_stall, .ref a_told_shape, .ref a_told_side, .ref a_told_price, .ref a_told_purse, .ref a_told_spot, .ref a_told_club, .ref a_told_fitting, .ref a_told_nearly])), (a_scene, .inr (6, [.int a_scene__hour, .ref a_scene_purse, .ref a_scene_spot, .ref a_scene_seen, .ref a_scene_has, .ref a_scene_at])), (a_scene_at, .inl (cs 0, 8, .inl a_scene_at_c)), (a_told_club, .inl (cs 0, 4, .inl a_told_club_c)), (a_scene_seen, .inl (cs 0, 4, .inl a_scene_seen_c)), (a_told_fitting, .inl (cs 0, 12, .inl a_told_fitting_c))]) [0, 1, 2, 3, 4, 5, 6] rfl) hS ls (lv_sub hl [0, 1, 2, 3, 4, 5, 6, 7] rfl)
            · have h28 : IV 0 0 p2 := iv_eq1 c26 h15 (iv_c (a := 0) (b := 0) (by decide)) (by decide) (by decide)
              refine lv_iload hx hb dX11_chance_84 (lv_at hl 1 rfl) ?_
              refine lv_goto (tgt := 91) hx hb dX11_chance_86 (by decide) ?_
              exact K91 r25 r21 r17 r16 r21 h5 h9 h18 h24 hw_r25 (iv_w h24 (by decide) (by decide)) h6 h10 (iv_w h28 (by decide) (by decide)) H locs (hP.sub (ws' := [(a, .inr (11, [.ref a_tape, .ref a_fairReader, .ref a_ruleReader, .ref a_rules, .int a__ruleCount, .ref a_told, .ref a_scene, .ref a_spare, .ref a_past, .int a__pastFirst, .int a__pastCount, .ref a_trials, .ref a_images, .ref a_pairs, .ref a_walker, .ref a_market, .int a__x])), (a_told, .inr (8, [.int a_told__stalls, .int a_told__shift, .int a_told__halves, .int a_told__buyers, .int a_told__near, .int a_told__dusk, .int a_told__duskPrice, .int a_told__hear, .int a_told__forged, .ref a_told_stall, .ref a_told_shape, .ref a_told_side, .ref a_told_price, .ref a_told_purse, .ref a_told_spot, .ref a_told_club, .ref a_told_fitting, .ref a_told_nearly])), (a_scene, .inr (6, [.int a_scene__hour, .ref a_scene_purse, .ref a_scene_spot, .ref a_scene_seen, .ref a_scene_has, .ref a_scene_at])), (a_scene_at, .inl (cs 0, 8, .inl a_scene_at_c)), (a_told_club, .inl (cs 0, 4, .inl a_told_club_c)), (a_scene_seen, .inl (cs 0, 4, .inl a_scene_seen_c)), (a_told_fitting, .inl (cs 0, 12, .inl a_told_fitting_c))]) [0, 1, 2, 3, 4, 5, 6] rfl) hS ls (lv_sub hl [0, 1, 2, 3, 4, 5, 6, 7] rfl)
          · have h29 : IV 0 0 r21 := iv_eq1 c23 h22 (iv_c (a := 0) (b := 0) (by decide)) (by decide) (by decide)
            refine lv_iload_n hx hb dX11_chance_69 rfl (lv_at hl 6 rfl) ?_
            exact W.iret (v := p2) hx hb hr (fun t ht hW => ⟨⟨p2, (), rfl, (Or.inr ((⟨(iv_w h15 (by decide) (by decide)), h5, h9, h6, h10, h15⟩))), trivial⟩, hS.F ht⟩) hS.2.2 dX11_chance_70
        · have h30 : IV 2 2147483647 p2 := iv_lt2 (Int32.not_le.mp c14) (iv_c (a := 1) (b := 1) (by decide)) h13 (by decide)
          refine lv_iconst (v := (-1)) hx hb dX11_chance_31 (by decide) ?_
          exact W.iret (v := (-1)) hx hb hr (fun t ht hW => ⟨⟨(-1), (), rfl, (Or.inl (⟨rfl, (iv_w h6 (by decide) (by decide))⟩)), trivial⟩, hS.F ht⟩) hS.2.2 dX11_chance_32
theorem dX11_cry_0 : decode cX11_cry 0 = .ok (.aload_n 0, 1) := by decide +kernel
theorem dX11_cry_1 : decode cX11_cry 1 = .ok (.getfield 39, 3) := by decide +kernel
theorem dX11_cry_4 : decode cX11_cry 4 = .ok (.iload_n 1, 1) := by decide +kernel
theorem dX11_cry_5 : decode cX11_cry 5 = .ok (.invokevirtual 157, 3) := by decide +kernel
theorem dX11_cry_8 : decode cX11_cry 8 = .ok (.ifCond .eq 12, 3) := by decide +kernel
theorem dX11_cry_11 : decode cX11_cry 11 = .ok (.iload_n 2, 1) := by decide +kernel
theorem dX11_cry_12 : decode cX11_cry 12 = .ok (.ifCond .lt 8, 3) := by decide +kernel
theorem dX11_cry_15 : decode cX11_cry 15 = .ok (.iload_n 2, 1) := by decide +kernel
theorem dX11_cry_16 : decode cX11_cry 16 = .ok (.iconst 1, 1) := by decide +kernel
theorem dX11_cry_17 : decode cX11_cry 17 = .ok (.if_icmp .le 5, 3) := by decide +kernel
theorem dX11_cry_20 : decode cX11_cry 20 = .ok (.iconst (-1), 1) := by decide +kernel
theorem dX11_cry_21 : decode cX11_cry 21 = .ok (.ireturn, 1) := by decide +kernel
theorem dX11_cry_22 : decode cX11_cry 22 = .ok (.aload_n 0, 1) := by decide +kernel
theorem dX11_cry_23 : decode cX11_cry 23 = .ok (.iload_n 1, 1) := by decide +kernel
theorem dX11_cry_24 : decode cX11_cry 24 = .ok (.invokevirtual 269, 3) := by decide +kernel
theorem dX11_cry_27 : decode cX11_cry 27 = .ok (.istore_n 3, 1) := by decide +kernel
theorem dX11_cry_28 : decode cX11_cry 28 = .ok (.aload_n 0, 1) := by decide +kernel
theorem dX11_cry_29 : decode cX11_cry 29 = .ok (.getfield 46, 3) := by decide +kernel
theorem dX11_cry_32 : decode cX11_cry 32 = .ok (.getfield 166, 3) := by decide +kernel
theorem dX11_cry_35 : decode cX11_cry 35 = .ok (.iload_n 1, 1) := by decide +kernel
theorem dX11_cry_36 : decode cX11_cry 36 = .ok (.iaload, 1) := by decide +kernel
theorem dX11_cry_37 : decode cX11_cry 37 = .ok (.aload_n 0, 1) := by decide +kernel
theorem dX11_cry_38 : decode cX11_cry 38 = .ok (.getfield 39, 3) := by decide +kernel
theorem dX11_cry_41 : decode cX11_cry 41 = .ok (.getfield 151, 3) := by decide +kernel
theorem dX11_cry_44 : decode cX11_cry 44 = .ok (.iconst (-1), 1) := by decide +kernel
theorem dX11_cry_45 : decode cX11_cry 45 = .ok (.ixor, 1) := by decide +kernel
theorem dX11_cry_46 : decode cX11_cry 46 = .ok (.iand, 1) := by decide +kernel
theorem dX11_cry_47 : decode cX11_cry 47 = .ok (.istore 4, 2) := by decide +kernel
theorem dX11_cry_49 : decode cX11_cry 49 = .ok (.bipush (-2), 2) := by decide +kernel
theorem dX11_cry_51 : decode cX11_cry 51 = .ok (.istore 5, 2) := by decide +kernel
theorem dX11_cry_53 : decode cX11_cry 53 = .ok (.iconst 0, 1) := by decide +kernel
theorem dX11_cry_54 : decode cX11_cry 54 = .ok (.istore 6, 2) := by decide +kernel
theorem dX11_cry_56 : decode cX11_cry 56 = .ok (.iconst 0, 1) := by decide +kernel
theorem dX11_cry_57 : decode cX11_cry 57 = .ok (.istore 7, 2) := by decide +kernel
theorem dX11_cry_59 : decode cX11_cry 59 = .ok (.iload 7, 2) := by decide +kernel
theorem dX11_cry_61 : decode cX11_cry 61 = .ok (.aload_n 0, 1) := by decide +kernel
theorem dX11_cry_62 : decode cX11_cry 62 = .ok (.getfield 39, 3) := by decide +kernel
theorem dX11_cry_65 : decode cX11_cry 65 = .ok (.getfield 119, 3) := by decide +kernel
theorem dX11_cry_68 : decode cX11_cry 68 = .ok (.if_icmp .ge 82, 3) := by decide +kernel
theorem dX11_cry_71 : decode cX11_cry 71 = .ok (.iload 4, 2) := by decide +kernel
theorem dX11_cry_73 : decode cX11_cry 73 = .ok (.iload 7, 2) := by decide +kernel
theorem dX11_cry_75 : decode cX11_cry 75 = .ok (.ishr, 1) := by decide +kernel
theorem dX11_cry_76 : decode cX11_cry 76 = .ok (.iconst 1, 1) := by decide +kernel
theorem dX11_cry_77 : decode cX11_cry 77 = .ok (.iand, 1) := by decide +kernel
theorem dX11_cry_78 : decode cX11_cry 78 = .ok (.ifCond .ne 6, 3) := by decide +kernel
theorem dX11_cry_81 : decode cX11_cry 81 = .ok (.goto 63, 3) := by decide +kernel
theorem dX11_cry_84 : decode cX11_cry 84 = .ok (.aload_n 0, 1) := by decide +kernel
theorem dX11_cry_85 : decode cX11_cry 85 = .ok (.getfield 39, 3) := by decide +kernel
theorem dX11_cry_88 : decode cX11_cry 88 = .ok (.getfield 133, 3) := by decide +kernel
theorem dX11_cry_91 : decode cX11_cry 91 = .ok (.iload 7, 2) := by decide +kernel
theorem dX11_cry_93 : decode cX11_cry 93 = .ok (.iaload, 1) := by decide +kernel
theorem dX11_cry_94 : decode cX11_cry 94 = .ok (.istore 8, 2) := by decide +kernel
theorem dX11_cry_96 : decode cX11_cry 96 = .ok (.iload_n 3, 1) := by decide +kernel
theorem dX11_cry_97 : decode cX11_cry 97 = .ok (.aload_n 0, 1) := by decide +kernel
theorem dX11_cry_98 : decode cX11_cry 98 = .ok (.iload_n 1, 1) := by decide +kernel
theorem dX11_cry_99 : decode cX11_cry 99 = .ok (.iload 8, 2) := by decide +kernel
theorem dX11_cry_101 : decode cX11_cry 101 = .ok (.invokevirtual 289, 3) := by decide +kernel
theorem dX11_cry_104 : decode cX11_cry 104 = .ok (.iand, 1) := by decide +kernel
theorem dX11_cry_105 : decode cX11_cry 105 = .ok (.invokestatic 206, 3) := by decide +kernel
theorem dX11_cry_108 : decode cX11_cry 108 = .ok (.istore 9, 2) := by decide +kernel
theorem dX11_cry_110 : decode cX11_cry 110 = .ok (.iload 5, 2) := by decide +kernel
theorem dX11_cry_112 : decode cX11_cry 112 = .ok (.ifCond .lt 24, 3) := by decide +kernel
theorem dX11_cry_115 : decode cX11_cry 115 = .ok (.iload 9, 2) := by decide +kernel
theorem dX11_cry_117 : decode cX11_cry 117 = .ok (.iload 6, 2) := by decide +kernel
theorem dX11_cry_119 : decode cX11_cry 119 = .ok (.if_icmp .gt 17, 3) := by decide +kernel
theorem dX11_cry_122 : decode cX11_cry 122 = .ok (.iload 9, 2) := by decide +kernel
theorem dX11_cry_124 : decode cX11_cry 124 = .ok (.iload 6, 2) := by decide +kernel
theorem dX11_cry_126 : decode cX11_cry 126 = .ok (.if_icmp .ne 18, 3) := by decide +kernel
theorem dX11_cry_129 : decode cX11_cry 129 = .ok (.iload 8, 2) := by decide +kernel
theorem dX11_cry_131 : decode cX11_cry 131 = .ok (.iload 5, 2) := by decide +kernel
theorem dX11_cry_133 : decode cX11_cry 133 = .ok (.if_icmp .ge 11, 3) := by decide +kernel
theorem dX11_cry_136 : decode cX11_cry 136 = .ok (.iload 8, 2) := by decide +kernel
theorem dX11_cry_138 : decode cX11_cry 138 = .ok (.istore 5, 2) := by decide +kernel
theorem dX11_cry_140 : decode cX11_cry 140 = .ok (.iload 9, 2) := by decide +kernel
theorem dX11_cry_142 : decode cX11_cry 142 = .ok (.istore 6, 2) := by decide +kernel
theorem dX11_cry_144 : decode cX11_cry 144 = .ok (.iinc 7 1, 3) := by decide +kernel
theorem dX11_cry_147 : decode cX11_cry 147 = .ok (.goto (-88), 3) := by decide +kernel
theorem dX11_cry_150 : decode cX11_cry 150 = .ok (.iload_n 2, 1) := by decide +kernel
theorem dX11_cry_151 : decode cX11_cry 151 = .ok (.ifCond .ne 8, 3) := by decide +kernel
theorem dX11_cry_154 : decode cX11_cry 154 = .ok (.iload 5, 2) := by decide +kernel
theorem dX11_cry_156 : decode cX11_cry 156 = .ok (.goto 5, 3) := by decide +kernel
theorem dX11_cry_159 : decode cX11_cry 159 = .ok (.iload 6, 2) := by decide +kernel
theorem dX11_cry_161 : decode cX11_cry 161 = .ok (.ireturn, 1) := by decide +kernel
set_option maxHeartbeats 4000000 in
set_option maxRecDepth 100000 in
theorem c_X11_cry (l : Launch) (D : va_G) (cs : Nat → ClassId) (kK kV : Nat → Nat) (a : Nat) (p0 : Int32) (p1 : Int32) (a_tape : Nat) (a_fairReader : Nat) (a_ruleReader : Nat) (a_rules : Nat) (a__ruleCount : Int32) (a_told : Nat) (a_scene : Nat) (a_spare : Nat) (a_past : Nat) (a__pastFirst : Int32) (a__pastCount : Int32) (a_trials : Nat) (a_images : Nat) (a_pairs : Nat) (a_walker : Nat) (a_market : Nat) (a__x : Int32) (a_told__stalls : Int32) (a_told__shift : Int32) (a_told__halves : Int32) (a_told__buyers : Int32) (a_told__near : Int32) (a_told__dusk : Int32) (a_told__duskPrice : Int32) (a_told__hear : Int32) (a_told__forged : Int32) (a_told_stall : Nat) (a_told_shape : Nat) (a_told_side : Nat) (a_told_price : Nat) (a_told_purse : Nat) (a_told_spot : Nat) (a_told_club : Nat) (a_told_fitting : Nat) (a_told_nearly : Nat) (a_scene__hour : Int32) (a_scene_purse : Nat) (a_scene_spot : Nat) (a_scene_seen : Nat) (a_scene_has : Nat) (a_scene_at : Nat) (a_scene_at_c : Nat → Int32) (a_told_club_c : Nat → Int32) (a_scene_seen_c : Nat → Int32) (a_scene_has_c : Nat → Int32) (a_told_shape_c : Nat → Int32) (a_told_fitting_c : Nat → Int32) (h_a_told__halves : IV 0 12 a_told__halves) (h_a_told__buyers : IV 0 4 a_told__buyers) : Met l yX11_cry (hz_w yX11_cry cX11_cry 10 (some .int)) ({ frames := 2, cells := 0, slots := 0, locals := 44 }) (va_Pc [.ref a, .int p0, .int p1] (hz_P D cs kK kV [(a, .inr (11, [.ref a_tape, .ref a_fairReader, .ref a_ruleReader, .ref a_rules, .int a__ruleCount, .ref a_told, .ref a_scene, .ref a_spare, .ref a_past, .int a__pastFirst, .int a__pastCount, .ref a_trials, .ref a_images, .ref a_pairs, .ref a_walker, .ref a_market, .int a__x])), (a_told, .inr (8, [.int a_told__stalls, .int a_told__shift, .int a_told__halves, .int a_told__buyers, .int a_told__near, .int a_told__dusk, .int a_told__duskPrice, .int a_told__hear, .int a_told__forged, .ref a_told_stall, .ref a_told_shape, .ref a_told_side, .ref a_told_price, .ref a_told_purse, .ref a_told_spot, .ref a_told_club, .ref a_told_fitting, .ref a_told_nearly])), (a_scene, .inr (6, [.int a_scene__hour, .ref a_scene_purse, .ref a_scene_spot, .ref a_scene_seen, .ref a_scene_has, .ref a_scene_at])), (a_scene_at, .inl (cs 0, 8, .inl a_scene_at_c)), (a_told_club, .inl (cs 0, 4, .inl a_told_club_c)), (a_scene_seen, .inl (cs 0, 4, .inl a_scene_seen_c)), (a_scene_has, .inl (cs 0, 4, .inl a_scene_has_c)), (a_told_shape, .inl (cs 0, 12, .inl a_told_shape_c)), (a_told_fitting, .inl (cs 0, 12, .inl a_told_fitting_c))])) (va_Qi (fun (r : Int32) (_ : Unit) => (r = (-1) ∧ IV (-2147483648) 2147483647 p0) ∨ (IV 1 4 a_told__buyers ∧ IV 0 3 p0 ∧ IV 0 1 p1)) (fun _ t => True) (fun _ => False)) 0 0 (fun _ => False) := by
  refine Met.ofW (cc := cX11_cry) (maxL := 10) (ret := (some .int)) (by decide) rfl ?_
  intro p e s m args below meth c s₁ B hml hv
  obtain ⟨rfl, hP, hE⟩ := hv
  have hx := B.exec
  have hb := B.bytes
  have hr := B.returns
  have hT : ∀ w ∈ TB, w.before _ s = true := fun w h => atoms_spec (ws := hz_w yX11_cry cX11_cry 10 (some .int)) B.pre w (List.mem_cons_of_mem _ h)
  have hown : s.vm.findClass RX11 = some m.cls := findClass_of_methodNamed B.named
  have hlocks := B.notSynchronized
  clear B
  have hS : va_S (fun _ => False) s.heap s.heap [] := va_S.rf
  have hK := hE.1
  have hl := lv_entry ([.ref a, .int p0, .int p1]) (n := 10) (Nat.le_of_ble_eq_true rfl)
  rw [lg_entry_eq]
  generalize (lg_sl ([.ref a, .int p0, .int p1]) ++ List.replicate (10 - (lg_sl ([.ref a, .int p0, .int p1])).length) Slot.unset).toArray = ls at hl ⊢
  have hl : lv_has ls 10 [(0, .ref a), (1, .int p0), (2, .int p1)] := hl
  obtain ⟨H, eH⟩ : ∃ z, z = s.heap := ⟨_, rfl⟩
  have hP : va_P D classes [(a, .inr (11, [.ref a_tape, .ref a_fairReader, .ref a_ruleReader, .ref a_rules, .int a__ruleCount, .ref a_told, .ref a_scene, .ref a_spare, .ref a_past, .int a__pastFirst, .int a__pastCount, .ref a_trials, .ref a_images, .ref a_pairs, .ref a_walker, .ref a_market, .int a__x])), (a_told, .inr (8, [.int a_told__stalls, .int a_told__shift, .int a_told__halves, .int a_told__buyers, .int a_told__near, .int a_told__dusk, .int a_told__duskPrice, .int a_told__hear, .int a_told__forged, .ref a_told_stall, .ref a_told_shape, .ref a_told_side, .ref a_told_price, .ref a_told_purse, .ref a_told_spot, .ref a_told_club, .ref a_told_fitting, .ref a_told_nearly])), (a_scene, .inr (6, [.int a_scene__hour, .ref a_scene_purse, .ref a_scene_spot, .ref a_scene_seen, .ref a_scene_has, .ref a_scene_at])), (a_scene_at, .inl (cs 0, 8, .inl a_scene_at_c)), (a_told_club, .inl (cs 0, 4, .inl a_told_club_c)), (a_scene_seen, .inl (cs 0, 4, .inl a_scene_seen_c)), (a_scene_has, .inl (cs 0, 4, .inl a_scene_has_c)), (a_told_shape, .inl (cs 0, 12, .inl a_told_shape_c)), (a_told_fitting, .inl (cs 0, 12, .inl a_told_fitting_c))] H := by rw [eH]; exact hP
  have hS : va_S (fun _ => False) s.heap H [] := by rw [eH]; exact hS
  rw [← eH]
  clear eH
  obtain ⟨locs, el⟩ : ∃ z : List Loc, z = [] := ⟨_, rfl⟩
  rw [← el] at hS ⊢
  clear el
  have K59 : ∀ (n : Nat) (k59_L_7 : Int32) (k59_L_6 : Int32) (k59_L_5 : Int32) (k59_L_4 : Int32) (k59_L_3 : Int32), (12 - k59_L_7.toInt + 1).toNat ≤ n → IV 1 4 a_told__buyers → IV 0 63 k59_L_6 → IV 0 12 k59_L_7 → IV 0 3 p0 → IV 0 1 p1 → ∀ (H : Heap) (locs : List Loc), va_P D classes [(a, .inr (11, [.ref a_tape, .ref a_fairReader, .ref a_ruleReader, .ref a_rules, .int a__ruleCount, .ref a_told, .ref a_scene, .ref a_spare, .ref a_past, .int a__pastFirst, .int a__pastCount, .ref a_trials, .ref a_images, .ref a_pairs, .ref a_walker, .ref a_market, .int a__x])), (a_told, .inr (8, [.int a_told__stalls, .int a_told__shift, .int a_told__halves, .int a_told__buyers, .int a_told__near, .int a_told__dusk, .int a_told__duskPrice, .int a_told__hear, .int a_told__forged, .ref a_told_stall, .ref a_told_shape, .ref a_told_side, .ref a_told_price, .ref a_told_purse, .ref a_told_spot, .ref a_told_club, .ref a_told_fitting, .ref a_told_nearly])), (a_scene, .inr (6, [.int a_scene__hour, .ref a_scene_purse, .ref a_scene_spot, .ref a_scene_seen, .ref a_scene_has, .ref a_scene_at])), (a_scene_at, .inl (cs 0, 8, .inl a_scene_at_c)), (a_told_club, .inl (cs 0, 4, .inl a_told_club_c)), (a_scene_seen, .inl (cs 0, 4, .inl a_scene_seen_c)), (a_scene_has, .inl (cs 0, 4, .inl a_scene_has_c)), (a_told_shape, .inl (cs 0, 12, .inl a_told_shape_c)), (a_told_fitting, .inl (cs 0, 12, .inl a_told_fitting_c))] H → va_S (fun _ => False) s.heap H locs → ∀ ls : Array Slot, lv_has ls 10 [(7, .int k59_L_7), (6, .int k59_L_6), (5, .int k59_L_5), (4, .int k59_L_4), (3, .int k59_L_3), (0, .ref a), (1, .int p0), (2, .int p1)] → W p l e (headSpec (hz_w yX11_cry cX11_cry 10 (some .int)) ({ frames := 2, cells := 0, slots := 0, locals := 44 })).room s m [.ref a, .int p0, .int p1].toArray below meth c H locs 0 0 (MQ below (va_Qi (fun (r : Int32) (_ : Unit) => (r = (-1) ∧ IV (-2147483648) 2147483647 p0) ∨ (IV 1 4 a_told__buyers ∧ IV 0 3 p0 ∧ IV 0 1 p1)) (fun _ t => True) (fun _ => False)) [.ref a, .int p0, .int p1].toArray s 0 0 (fun _ => False)) (F0 m 59 ls []) := by
    intro n
    induction n with
    | zero =>
      intro k59_L_7 k59_L_6 k59_L_5 k59_L_4 k59_L_3 hn q59_3 q59_6 q59_7 q59_8 q59_9 H locs hP hS ls hl
      exact absurd hn (by unfold IV at q59_7; omega)
    | succ n ih59 =>
      intro k59_L_7 k59_L_6 k59_L_5 k59_L_4 k59_L_3 hn q59_3 q59_6 q59_7 q59_8 q59_9 H locs hP hS ls hl
      have K144 : ∀ (k144_L_6 : Int32) (k144_L_5 : Int32), IV 1 4 a_told__buyers → IV 1 12 a_told__halves → IV 0 63 k144_L_6 → IV 0 11 k59_L_7 → IV 0 3 p0 → IV 0 1 p1 → ∀ (H : Heap) (locs : List Loc), va_P D classes [(a, .inr (11, [.ref a_tape, .ref a_fairReader, .ref a_ruleReader, .ref a_rules, .int a__ruleCount, .ref a_told, .ref a_scene, .ref a_spare, .ref a_past, .int a__pastFirst, .int a__pastCount, .ref a_trials, .ref a_images, .ref a_pairs, .ref a_walker, .ref a_market, .int a__x])), (a_told, .inr (8, [.int a_told__stalls, .int a_told__shift, .int a_told__halves, .int a_told__buyers, .int a_told__near, .int a_told__dusk, .int a_told__duskPrice, .int a_told__hear, .int a_told__forged, .ref a_told_stall, .ref a_told_shape, .ref a_told_side, .ref a_told_price, .ref a_told_purse, .ref a_told_spot, .ref a_told_club, .ref a_told_fitting, .ref a_told_nearly])), (a_scene, .inr (6, [.int a_scene__hour, .ref a_scene_purse, .ref a_scene_spot, .ref a_scene_seen, .ref a_scene_has, .ref a_scene_at])), (a_scene_at, .inl (cs 0, 8, .inl a_scene_at_c)), (a_told_club, .inl (cs 0, 4, .inl a_told_club_c)), (a_scene_seen, .inl (cs 0, 4, .inl a_scene_seen_c)), (a_scene_has, .inl (cs 0, 4, .inl a_scene_has_c)), (a_told_shape, .inl (cs 0, 12, .inl a_told_shape_c)), (a_told_fitting, .inl (cs 0, 12, .inl a_told_fitting_c))] H → va_S (fun _ => False) s.heap H locs → ∀ ls : Array Slot, lv_has ls 10 [(7, .int k59_L_7), (6, .int k144_L_6), (5, .int k144_L_5), (4, .int k59_L_4), (3, .int k59_L_3), (0, .ref a), (1, .int p0), (2, .int p1)] → W p l e (headSpec (hz_w yX11_cry cX11_cry 10 (some .int)) ({ frames := 2, cells := 0, slots := 0, locals := 44 })).room s m [.ref a, .int p0, .int p1].toArray below meth c H locs 0 0 (MQ below (va_Qi (fun (r : Int32) (_ : Unit) => (r = (-1) ∧ IV (-2147483648) 2147483647 p0) ∨ (IV 1 4 a_told__buyers ∧ IV 0 3 p0 ∧ IV 0 1 p1)) (fun _ t => True) (fun _ => False)) [.ref a, .int p0, .int p1].toArray s 0 0 (fun _ => False)) (F0 m 144 ls []) := by
        intro k144_L_6 k144_L_5 q144_3 q144_4 q144_6 q144_7 q144_8 q144_9 H locs hP hS ls hl
        obtain ⟨v1, ev1⟩ : ∃ z : Int32, z = k59_L_7 + 1 := ⟨_, rfl⟩
        have hv1 : IV 1 12 v1 := iv_add ev1 q144_7 (iv_c (a := 1) (b := 1) (by decide)) (by decide) (by decide)
        have dv1 : v1.toInt = k59_L_7.toInt + 1 := iv_addE ev1 q144_7 (iv_c (a := 1) (b := 1) (by decide)) (by decide) (by decide) (by decide)
        refine lv_iinc (v := v1) (lv' := [(7, .int v1), (6, .int k144_L_6), (5, .int k144_L_5), (4, .int k59_L_4), (3, .int k59_L_3), (0, .ref a), (1, .int p0), (2, .int p1)]) hx hb dX11_cry_144 hl (k := 0) rfl (by rw [ev1]; rfl) (by decide) rfl (fun ls hl => ?_)
        refine lv_goto (tgt := 59) hx hb dX11_cry_147 (by decide) ?_
        exact ih59 v1 k144_L_6 k144_L_5 k59_L_4 k59_L_3 (by have h9 := q144_7; unfold IV at h9; have := dv1; omega) q144_3 q144_6 (iv_w hv1 (by decide) (by decide)) q144_8 q144_9 H locs (hP.sub (ws' := [(a, .inr (11, [.ref a_tape, .ref a_fairReader, .ref a_ruleReader, .ref a_rules, .int a__ruleCount, .ref a_told, .ref a_scene, .ref a_spare, .ref a_past, .int a__pastFirst, .int a__pastCount, .ref a_trials, .ref a_images, .ref a_pairs, .ref a_walker, .ref a_market, .int a__x])), (a_told, .inr (8, [.int a_told__stalls, .int a_told__shift, .int a_told__halves, .int a_told__buyers, .int a_told__near, .int a_told__dusk, .int a_told__duskPrice, .int a_told__hear, .int a_told__forged, .ref a_told_stall, .ref a_told_shape, .ref a_told_side, .ref a_told_price, .ref a_told_purse, .ref a_told_spot, .ref a_told_club, .ref a_told_fitting, .ref a_told_nearly])), (a_scene, .inr (6, [.int a_scene__hour, .ref a_scene_purse, .ref a_scene_spot, .ref a_scene_seen, .ref a_scene_has, .ref a_scene_at])), (a_scene_at, .inl (cs 0, 8, .inl a_scene_at_c)), (a_told_club, .inl (cs 0, 4, .inl a_told_club_c)), (a_scene_seen, .inl (cs 0, 4, .inl a_scene_seen_c)), (a_scene_has, .inl (cs 0, 4, .inl a_scene_has_c)), (a_told_shape, .inl (cs 0, 12, .inl a_told_shape_c)), (a_told_fitting, .inl (cs 0, 12, .inl a_told_fitting_c))]) [0, 1, 2, 3, 4, 5, 6, 7, 8] rfl) hS ls (lv_sub hl [0, 1, 2, 3, 4, 5, 6, 7] rfl)
      have K136 : ∀ (k136_L_9 : Int32) (k136_L_8 : Int32), IV 1 4 a_told__buyers → IV 1 12 a_told__halves → IV 0 63 k136_L_9 → IV 0 63 k59_L_6 → IV 0 11 k59_L_7 → IV 0 3 p0 → IV 0 1 p1 → ∀ (H : Heap) (locs : List Loc), va_P D classes [(a, .inr (11, [.ref a_tape, .ref a_fairReader, .ref a_ruleReader, .ref a_rules, .int a__ruleCount, .ref a_told, .ref a_scene, .ref a_spare, .ref a_past, .int a__pastFirst, .int a__pastCount, .ref a_trials, .ref a_images, .ref a_pairs, .ref a_walker, .ref a_market, .int a__x])), (a_told, .inr (8, [.int a_told__stalls, .int a_told__shift, .int a_told__halves, .int a_told__buyers, .int a_told__near, .int a_told__dusk, .int a_told__duskPrice, .int a_told__hear, .int a_told__forged, .ref a_told_stall, .ref a_told_shape, .ref a_told_side, .ref a_told_price, .ref a_told_purse, .ref a_told_spot, .ref a_told_club, .ref a_told_fitting, .ref a_told_nearly])), (a_scene, .inr (6, [.int a_scene__hour, .ref a_scene_purse, .ref a_scene_spot, .ref a_scene_seen, .ref a_scene_has, .ref a_scene_at])), (a_scene_at, .inl (cs 0, 8, .inl a_scene_at_c)), (a_told_club, .inl (cs 0, 4, .inl a_told_club_c)), (a_scene_seen, .inl (cs 0, 4, .inl a_scene_seen_c)), (a_scene_has, .inl (cs 0, 4, .inl a_scene_has_c)), (a_told_shape, .inl (cs 0, 12, .inl a_told_shape_c)), (a_told_fitting, .inl (cs 0, 12, .inl a_told_fitting_c))] H → va_S (fun _ => False) s.heap H locs → ∀ ls : Array Slot, lv_has ls 10 [(9, .int k136_L_9), (8, .int k136_L_8), (7, .int k59_L_7), (6, .int k59_L_6), (5, .int k59_L_5), (4, .int k59_L_4), (3, .int k59_L_3), (0, .ref a), (1, .int p0), (2, .int p1)] → W p l e (headSpec (hz_w yX11_cry cX11_cry 10 (some .int)) ({ frames := 2, cells := 0, slots := 0, locals := 44 })).room s m [.ref a, .int p0, .int p1].toArray below meth c H locs 0 0 (MQ below (va_Qi (fun (r : Int32) (_ : Unit) => (r = (-1) ∧ IV (-2147483648) 2147483647 p0) ∨ (IV 1 4 a_told__buyers ∧ IV 0 3 p0 ∧ IV 0 1 p1)) (fun _ t => True) (fun _ => False)) [.ref a, .int p0, .int p1].toArray s 0 0 (fun _ => False)) (F0 m 136 ls []) := by
        intro k136_L_9 k136_L_8 q136_3 q136_4 q136_6 q136_7 q136_8 q136_9 q136_10 H locs hP hS ls hl
        refine lv_iload hx hb dX11_cry_136 (lv_at hl 1 rfl) ?_
        refine lv_istore (lv' := [(5, .int k136_L_8), (9, .int k136_L_9), (8, .int k136_L_8), (7, .int k59_L_7), (6, .int k59_L_6), (4, .int k59_L_4), (3, .int k59_L_3), (0, .ref a), (1, .int p0), (2, .int p1)]) hx hb dX11_cry_138 hl (by decide) rfl (fun ls hl => ?_)
        refine lv_iload hx hb dX11_cry_140 (lv_at hl 1 rfl) ?_
        refine lv_istore (lv' := [(6, .int k136_L_9), (5, .int k136_L_8), (9, .int k136_L_9), (8, .int k136_L_8), (7, .int k59_L_7), (4, .int k59_L_4), (3, .int k59_L_3), (0, .ref a), (1, .int p0), (2, .int p1)]) hx hb dX11_cry_142 hl (by decide) rfl (fun ls hl => ?_)
        exact K144 k136_L_9 k136_L_8 q136_3 q136_4 q136_6 q136_8 q136_9 q136_10 H locs (hP.sub (ws' := [(a, .inr (11, [.ref a_tape, .ref a_fairReader, .ref a_ruleReader, .ref a_rules, .int a__ruleCount, .ref a_told, .ref a_scene, .ref a_spare, .ref a_past, .int a__pastFirst, .int a__pastCount, .ref a_trials, .ref a_images, .ref a_pairs, .ref a_walker, .ref a_market, .int a__x])), (a_told, .inr (8, [.int a_told__stalls, .int a_told__shift, .int a_told__halves, .int a_told__buyers, .int a_told__near, .int a_told__dusk, .int a_told__duskPrice, .int a_told__hear, .int a_told__forged, .ref a_told_stall, .ref a_told_shape, .ref a_told_side, .ref a_told_price, .ref a_told_purse, .ref a_told_spot, .ref a_told_club, .ref a_told_fitting, .ref a_told_nearly])), (a_scene, .inr (6, [.int a_scene__hour, .ref a_scene_purse, .ref a_scene_spot, .ref a_scene_seen, .ref a_scene_has, .ref a_scene_at])), (a_scene_at, .inl (cs 0, 8, .inl a_scene_at_c)), (a_told_club, .inl (cs 0, 4, .inl a_told_club_c)), (a_scene_seen, .inl (cs 0, 4, .inl a_scene_seen_c)), (a_scene_has, .inl (cs 0, 4, .inl a_scene_has_c)), (a_told_shape, .inl (cs 0, 12, .inl a_told_shape_c)), (a_told_fitting, .inl (cs 0, 12, .inl a_told_fitting_c))]) [0, 1, 2, 3, 4, 5, 6, 7, 8] rfl) hS ls (lv_sub hl [4, 0, 1, 5, 6, 7, 8, 9] rfl)
      refine lv_iload hx hb dX11_cry_59 (lv_at hl 0 rfl) ?_
      refine lv_aload_n hx hb dX11_cry_61 rfl (lv_at hl 5 rfl) ?_
      refine va_get (D := D) (ci := 11) (v := .ref a_told) (C := RX11) (T := TX11) (N := 17) hx hb hT i_X11 hown hK hP 0 rfl rfl 5 (by decide) (hT _ q_4) (fun _ h9 => h9) rfl dX11_cry_62 ?_
      refine va_get (D := D) (ci := 8) (v := .int a_told__halves) (C := RX8) (T := TX8) (N := 18) hx hb hT i_X8 hown hK hP 1 rfl rfl 2 (by decide) (hT _ q_16) (fun _ h9 => h9) rfl dX11_cry_65 ?_
      refine lv_icmp_ge (tgt := 150) hx hb dX11_cry_68 (by decide) (fun c2 => ?_) (fun c2 => ?_)
      · refine lv_iload_n hx hb dX11_cry_150 rfl (lv_at hl 7 rfl) ?_
        refine lv_if_ne (tgt := 159) hx hb dX11_cry_151 (by decide) (fun c3 => ?_) (fun c3 => ?_)
        · have h4 : IV 1 1 p1 := iv_neL c3 q59_9 (by decide)
          refine lv_iload hx hb dX11_cry_159 (lv_at hl 1 rfl) ?_
          exact W.iret (v := k59_L_6) hx hb hr (fun t ht hW => ⟨⟨k59_L_6, (), rfl, (Or.inr ((⟨q59_3, q59_8, (iv_w h4 (by decide) (by decide))⟩))), trivial⟩, hS.F ht⟩) hS.2.2 dX11_cry_161
        · have h5 : IV 0 0 p1 := iv_eq1 c3 q59_9 (iv_c (a := 0) (b := 0) (by decide)) (by decide) (by decide)
          refine lv_iload hx hb dX11_cry_154 (lv_at hl 2 rfl) ?_
          refine lv_goto (tgt := 161) hx hb dX11_cry_156 (by decide) ?_
          exact W.iret (v := k59_L_5) hx hb hr (fun t ht hW => ⟨⟨k59_L_5, (), rfl, (Or.inr ((⟨q59_3, q59_8, (iv_w h5 (by decide) (by decide))⟩))), trivial⟩, hS.F ht⟩) hS.2.2 dX11_cry_161
      · have h6 : IV 0 11 k59_L_7 := iv_lt1 (Int32.not_le.mp c2) q59_7 h_a_told__halves (by decide)
        have h7 : IV 1 12 a_told__halves := iv_lt2 (Int32.not_le.mp c2) q59_7 h_a_told__halves (by decide)
        refine lv_iload hx hb dX11_cry_71 (lv_at hl 3 rfl) ?_
        refine lv_iload hx hb dX11_cry_73 (lv_at hl 0 rfl) ?_
        refine lv_ishr hx hb dX11_cry_75 ?_
        refine lv_topi (fun v8 ev8 => ?_)
        refine lv_iconst (v := 1) hx hb dX11_cry_76 (by decide) ?_
        refine lv_iand hx hb dX11_cry_77 ?_
        refine lv_topi (fun v9 ev9 => ?_)
        have hv9 : IV 0 1 v9 := iv_and2 ev9 (iv_c (a := 1) (b := 1) (by decide))
        refine lv_if_ne (tgt := 84) hx hb dX11_cry_78 (by decide) (fun c10 => ?_) (fun c10 => ?_)
        · have h11 : IV 1 1 v9 := iv_neL c10 hv9 (by decide)
          refine lv_aload_n hx hb dX11_cry_84 rfl (lv_at hl 5 rfl) ?_
          refine va_get (D := D) (ci := 11) (v := .ref a_told) (C := RX11) (T := TX11) (N := 17) hx hb hT i_X11 hown hK hP 0 rfl rfl 5 (by decide) (hT _ q_4) (fun _ h9 => h9) rfl dX11_cry_85 ?_
          refine va_get (D := D) (ci := 8) (v := .ref a_told_shape) (C := RX8) (T := TX8) (N := 18) hx hb hT i_X8 hown hK hP 1 rfl rfl 10 (by decide) (hT _ q_18) (fun _ h9 => h9) rfl dX11_cry_88 ?_
          refine lv_iload hx hb dX11_cry_91 (lv_at hl 0 rfl) ?_
          refine va_iald hx hb hK hP 7 0 rfl rfl (iv_v h6 (by decide) (by decide)) dX11_cry_93 ?_
          refine lv_topi (fun v12 ev12 => ?_)
          refine lv_istore (lv' := [(8, .int v12), (7, .int k59_L_7), (6, .int k59_L_6), (5, .int k59_L_5), (4, .int k59_L_4), (3, .int k59_L_3), (0, .ref a), (1, .int p0), (2, .int p1)]) hx hb dX11_cry_94 hl (by decide) rfl (fun ls hl => ?_)
          refine lv_iload_n hx hb dX11_cry_96 rfl (lv_at hl 5 rfl) ?_
          refine lv_aload_n hx hb dX11_cry_97 rfl (lv_at hl 6 rfl) ?_
          refine lv_iload_n hx hb dX11_cry_98 rfl (lv_at hl 7 rfl) ?_
          refine lv_iload hx hb dX11_cry_99 (lv_at hl 0 rfl) ?_
          refine va_calli (va_runV (As := [.int p0, .int v12]) (rest := [.int k59_L_3]) ⟨hx, hb, hml, hown, hT⟩ (c_X11_fittingShape l D cs kK kV a p0 v12 a_tape a_fairReader a_ruleReader a_rules a__ruleCount a_told a_scene a_spare a_past a__pastFirst a__pastCount a_trials a_images a_pairs a_walker a_market a__x a_told__stalls a_told__shift a_told__halves a_told__buyers a_told__near a_told__dusk a_told__duskPrice a_told__hear a_told__forged a_told_stall a_told_shape a_told_side a_told_price a_told_purse a_told_spot a_told_club a_told_fitting a_told_nearly a_scene__hour a_scene_purse a_scene_spot a_scene_seen a_scene_has a_scene_at a_scene_has_c a_told_shape_c a_told_fitting_c q59_8 ((iv_w h7 (by decide) (by decide)))) (cwV 2 hT (hz_gV q_378 q_379 q_380 q_241 q_381) rfl rfl rfl (by decide +kernel) ⟨(Nat.le_of_ble_eq_true rfl), (Nat.le_of_ble_eq_true rfl)⟩) ⟨hz_P.blind, va_recv hK hP (ci := 11) (q0 := 0) rfl rfl, hz_P.mk (hP.sub (ws' := [(a, .inr (11, [.ref a_tape, .ref a_fairReader, .ref a_ruleReader, .ref a_rules, .int a__ruleCount, .ref a_told, .ref a_scene, .ref a_spare, .ref a_past, .int a__pastFirst, .int a__pastCount, .ref a_trials, .ref a_images, .ref a_pairs, .ref a_walker, .ref a_market, .int a__x])), (a_told, .inr (8, [.int a_told__stalls, .int a_told__shift, .int a_told__halves, .int a_told__buyers, .int a_told__near, .int a_told__dusk, .int a_told__duskPrice, .int a_told__hear, .int a_told__forged, .ref a_told_stall, .ref a_told_shape, .ref a_told_side, .ref a_told_price, .ref a_told_purse, .ref a_told_spot, .ref a_told_club, .ref a_told_fitting, .ref a_told_nearly])), (a_scene, .inr (6, [.int a_scene__hour, .ref a_scene_purse, .ref a_scene_spot, .ref a_scene_seen, .ref a_scene_has, .ref a_scene_at])), (a_scene_has, .inl (cs 0, 4, .inl a_scene_has_c)), (a_told_shape, .inl (cs 0, 12, .inl a_told_shape_c)), (a_told_fitting, .inl (cs 0, 12, .inl a_told_fitting_c))]) [0,1,2,6,7,8] rfl) hE hS⟩ rfl rfl hl.1 rfl (lv_room (Nat.le_of_ble_eq_true rfl)) dX11_cry_101 ⟨(Nat.le_of_ble_eq_true rfl), (Nat.le_of_ble_eq_true rfl)⟩) hS (fun _ _ h => h.elim) (fun _ h => h.elim) (fun r13 u t H1 locs ht hvm hw hB hz1 hk1 hS => ?_)
          have hP := hz_keep hP hk1
          clear hk1 hB hz1
          generalize H1 = H at hP hS ⊢
          refine lv_iand hx hb dX11_cry_104 ?_
          refine lv_topi (fun v14 ev14 => ?_)
          refine va_calli (va_runS (As := [.int v14]) (rest := []) ⟨hx, hb, hml, hown, hT⟩ (c_J6_bitCount_0f7a4_6 l D cs kK kV v14) (va_cwS 1 hT (hz_gS q_302 q_303 q_304 q_305) rfl rfl rfl (by decide +kernel) ⟨(Nat.le_of_ble_eq_true rfl), (Nat.le_of_ble_eq_true rfl)⟩) ⟨hz_P.blind, hz_P.mk (hP.sub (ws' := []) [] rfl) hE hS⟩ rfl rfl hl.1 rfl (lv_room (Nat.le_of_ble_eq_true rfl)) dX11_cry_105 ⟨(Nat.le_of_ble_eq_true rfl), (Nat.le_of_ble_eq_true rfl)⟩) hS (fun _ _ h => h.elim) (fun _ h => h.elim) (fun r15 u t H1 locs ht hvm hw hB hz1 hk1 hS => ?_)
          have hP := hz_keep hP hk1
          clear hk1 hB hz1
          generalize H1 = H at hP hS ⊢
          have hw_r15 := hw
          have h16 : IV 0 63 r15 := bc_iv hw_r15
          refine lv_istore (lv' := [(9, .int r15), (8, .int v12), (7, .int k59_L_7), (6, .int k59_L_6), (5, .int k59_L_5), (4, .int k59_L_4), (3, .int k59_L_3), (0, .ref a), (1, .int p0), (2, .int p1)]) hx hb dX11_cry_108 hl (by decide) rfl (fun ls hl => ?_)
          refine lv_iload hx hb dX11_cry_110 (lv_at hl 4 rfl) ?_
          refine lv_if_lt (tgt := 136) hx hb dX11_cry_112 (by decide) (fun c17 => ?_) (fun c17 => ?_)
          · have h18 : IV (-2147483648) (-1) k59_L_5 := iv_lt1 c17 iv_top (iv_c (a := 0) (b := 0) (by decide)) (by decide)
            exact K136 r15 v12 q59_3 h7 h16 q59_6 h6 q59_8 q59_9 H locs (hP.sub (ws' := [(a, .inr (11, [.ref a_tape, .ref a_fairReader, .ref a_ruleReader, .ref a_rules, .int a__ruleCount, .ref a_told, .ref a_scene, .ref a_spare, .ref a_past, .int a__pastFirst, .int a__pastCount, .ref a_trials, .ref a_images, .ref a_pairs, .ref a_walker, .ref a_market, .int a__x])), (a_told, .inr (8, [.int a_told__stalls, .int a_told__shift, .int a_told__halves, .int a_told__buyers, .int a_told__near, .int a_told__dusk, .int a_told__duskPrice, .int a_told__hear, .int a_told__forged, .ref a_told_stall, .ref a_told_shape, .ref a_told_side, .ref a_told_price, .ref a_told_purse, .ref a_told_spot, .ref a_told_club, .ref a_told_fitting, .ref a_told_nearly])), (a_scene, .inr (6, [.int a_scene__hour, .ref a_scene_purse, .ref a_scene_spot, .ref a_scene_seen, .ref a_scene_has, .ref a_scene_at])), (a_scene_at, .inl (cs 0, 8, .inl a_scene_at_c)), (a_told_club, .inl (cs 0, 4, .inl a_told_club_c)), (a_scene_seen, .inl (cs 0, 4, .inl a_scene_seen_c)), (a_scene_has, .inl (cs 0, 4, .inl a_scene_has_c)), (a_told_shape, .inl (cs 0, 12, .inl a_told_shape_c)), (a_told_fitting, .inl (cs 0, 12, .inl a_told_fitting_c))]) [0, 1, 2, 3, 4, 5, 6, 7, 8] rfl) hS ls (lv_sub hl [0, 1, 2, 3, 4, 5, 6, 7, 8, 9] rfl)
          · have h19 : IV 0 2147483647 k59_L_5 := iv_le2 (Int32.not_lt.mp c17) (iv_c (a := 0) (b := 0) (by decide)) iv_top (by decide)
            refine lv_iload hx hb dX11_cry_115 (lv_at hl 0 rfl) ?_
            refine lv_iload hx hb dX11_cry_117 (lv_at hl 3 rfl) ?_
            refine lv_icmp_gt (tgt := 136) hx hb dX11_cry_119 (by decide) (fun c20 => ?_) (fun c20 => ?_)
            · have h21 : IV 0 62 k59_L_6 := iv_lt1 c20 q59_6 h16 (by decide)
              have h22 : IV 1 63 r15 := iv_lt2 c20 q59_6 h16 (by decide)
              exact K136 r15 v12 q59_3 h7 (iv_w h22 (by decide) (by decide)) (iv_w h21 (by decide) (by decide)) h6 q59_8 q59_9 H locs (hP.sub (ws' := [(a, .inr (11, [.ref a_tape, .ref a_fairReader, .ref a_ruleReader, .ref a_rules, .int a__ruleCount, .ref a_told, .ref a_scene, .ref a_spare, .ref a_past, .int a__pastFirst, .int a__pastCount, .ref a_trials, .ref a_images, .ref a_pairs, .ref a_walker, .ref a_market, .int a__x])), (a_told, .inr (8, [.int a_told__stalls, .int a_told__shift, .int a_told__halves, .int a_told__buyers, .int a_told__near, .int a_told__dusk, .int a_told__duskPrice, .int a_told__hear, .int a_told__forged, .ref a_told_stall, .ref a_told_shape, .ref a_told_side, .ref a_told_price, .ref a_told_purse, .ref a_told_spot, .ref a_told_club, .ref a_told_fitting, .ref a_told_nearly])), (a_scene, .inr (6, [.int a_scene__hour, .ref a_scene_purse, .ref a_scene_spot, .ref a_scene_seen, .ref a_scene_has, .ref a_scene_at])), (a_scene_at, .inl (cs 0, 8, .inl a_scene_at_c)), (a_told_club, .inl (cs 0, 4, .inl a_told_club_c)), (a_scene_seen, .inl (cs 0, 4, .inl a_scene_seen_c)), (a_scene_has, .inl (cs 0, 4, .inl a_scene_has_c)), (a_told_shape, .inl (cs 0, 12, .inl a_told_shape_c)), (a_told_fitting, .inl (cs 0, 12, .inl a_told_fitting_c))]) [0, 1, 2, 3, 4, 5, 6, 7, 8] rfl) hS ls (lv_sub hl [0, 1, 2, 3, 4, 5, 6, 7, 8, 9] rfl)
            · refine lv_iload hx hb dX11_cry_122 (lv_at hl 0 rfl) ?_
              refine lv_iload hx hb dX11_cry_124 (lv_at hl 3 rfl) ?_
              refine lv_icmp_ne (tgt := 144) hx hb dX11_cry_126 (by decide) (fun c23 => ?_) (fun c23 => ?_)
              · exact K144 k59_L_6 k59_L_5 q59_3 h7 q59_6 h6 q59_8 q59_9 H locs (hP.sub (ws' := [(a, .inr (11, [.ref a_tape, .ref a_fairReader, .ref a_ruleReader, .ref a_rules, .int a__ruleCount, .ref a_told, .ref a_scene, .ref a_spare, .ref a_past, .int a__pastFirst, .int a__pastCount, .ref a_trials, .ref a_images, .ref a_pairs, .ref a_walker, .ref a_market, .int a__x])), (a_told, .inr (8, [.int a_told__stalls, .int a_told__shift, .int a_told__halves, .int a_told__buyers, .int a_told__near, .int a_told__dusk, .int a_told__duskPrice, .int a_told__hear, .int a_told__forged, .ref a_told_stall, .ref a_told_shape, .ref a_told_side, .ref a_told_price, .ref a_told_purse, .ref a_told_spot, .ref a_told_club, .ref a_told_fitting, .ref a_told_nearly])), (a_scene, .inr (6, [.int a_scene__hour, .ref a_scene_purse, .ref a_scene_spot, .ref a_scene_seen, .ref a_scene_has, .ref a_scene_at])), (a_scene_at, .inl (cs 0, 8, .inl a_scene_at_c)), (a_told_club, .inl (cs 0, 4, .inl a_told_club_c)), (a_scene_seen, .inl (cs 0, 4, .inl a_scene_seen_c)), (a_scene_has, .inl (cs 0, 4, .inl a_scene_has_c)), (a_told_shape, .inl (cs 0, 12, .inl a_told_shape_c)), (a_told_fitting, .inl (cs 0, 12, .inl a_told_fitting_c))]) [0, 1, 2, 3, 4, 5, 6, 7, 8] rfl) hS ls (lv_sub hl [2, 3, 4, 5, 6, 7, 8, 9] rfl)
              · refine lv_iload hx hb dX11_cry_129 (lv_at hl 1 rfl) ?_
                refine lv_iload hx hb dX11_cry_131 (lv_at hl 4 rfl) ?_
                refine lv_icmp_ge (tgt := 144) hx hb dX11_cry_133 (by decide) (fun c24 => ?_) (fun c24 => ?_)
                · have h25 : IV 0 2147483647 v12 := iv_le2 c24 h19 iv_top (by decide)
                  exact K144 k59_L_6 k59_L_5 q59_3 h7 q59_6 h6 q59_8 q59_9 H locs (hP.sub (ws' := [(a, .inr (11, [.ref a_tape, .ref a_fairReader, .ref a_ruleReader, .ref a_rules, .int a__ruleCount, .ref a_told, .ref a_scene, .ref a_spare, .ref a_past, .int a__pastFirst, .int a__pastCount, .ref a_trials, .ref a_images, .ref a_pairs, .ref a_walker, .ref a_market, .int a__x])), (a_told, .inr (8, [.int a_told__stalls, .int a_told__shift, .int a_told__halves, .int a_told__buyers, .int a_told__near, .int a_told__dusk, .int a_told__duskPrice, .int a_told__hear, .int a_told__forged, .ref a_told_stall, .ref a_told_shape, .ref a_told_side, .ref a_told_price, .ref a_told_purse, .ref a_told_spot, .ref a_told_club, .ref a_told_fitting, .ref a_told_nearly])), (a_scene, .inr (6, [.int a_scene__hour, .ref a_scene_purse, .ref a_scene_spot, .ref a_scene_seen, .ref a_scene_has, .ref a_scene_at])), (a_scene_at, .inl (cs 0, 8, .inl a_scene_at_c)), (a_told_club, .inl (cs 0, 4, .inl a_told_club_c)), (a_scene_seen, .inl (cs 0, 4, .inl a_scene_seen_c)), (a_scene_has, .inl (cs 0, 4, .inl a_scene_has_c)), (a_told_shape, .inl (cs 0, 12, .inl a_told_shape_c)), (a_told_fitting, .inl (cs 0, 12, .inl a_told_fitting_c))]) [0, 1, 2, 3, 4, 5, 6, 7, 8] rfl) hS ls (lv_sub hl [2, 3, 4, 5, 6, 7, 8, 9] rfl)
                · have h26 : IV (-2147483648) 2147483646 v12 := iv_lt1 (Int32.not_le.mp c24) iv_top h19 (by decide)
                  exact K136 r15 v12 q59_3 h7 h16 q59_6 h6 q59_8 q59_9 H locs (hP.sub (ws' := [(a, .inr (11, [.ref a_tape, .ref a_fairReader, .ref a_ruleReader, .ref a_rules, .int a__ruleCount, .ref a_told, .ref a_scene, .ref a_spare, .ref a_past, .int a__pastFirst, .int a__pastCount, .ref a_trials, .ref a_images, .ref a_pairs, .ref a_walker, .ref a_market, .int a__x])), (a_told, .inr (8, [.int a_told__stalls, .int a_told__shift, .int a_told__halves, .int a_told__buyers, .int a_told__near, .int a_told__dusk, .int a_told__duskPrice, .int a_told__hear, .int a_told__forged, .ref a_told_stall, .ref a_told_shape, .ref a_told_side, .ref a_told_price, .ref a_told_purse, .ref a_told_spot, .ref a_told_club, .ref a_told_fitting, .ref a_told_nearly])), (a_scene, .inr (6, [.int a_scene__hour, .ref a_scene_purse, .ref a_scene_spot, .ref a_scene_seen, .ref a_scene_has, .ref a_scene_at])), (a_scene_at, .inl (cs 0, 8, .inl a_scene_at_c)), (a_told_club, .inl (cs 0, 4, .inl a_told_club_c)), (a_scene_seen, .inl (cs 0, 4, .inl a_scene_seen_c)), (a_scene_has, .inl (cs 0, 4, .inl a_scene_has_c)), (a_told_shape, .inl (cs 0, 12, .inl a_told_shape_c)), (a_told_fitting, .inl (cs 0, 12, .inl a_told_fitting_c))]) [0, 1, 2, 3, 4, 5, 6, 7, 8] rfl) hS ls (lv_sub hl [0, 1, 2, 3, 4, 5, 6, 7, 8, 9] rfl)
        · have h27 : IV 0 0 v9 := iv_eq1 c10 hv9 (iv_c (a := 0) (b := 0) (by decide)) (by decide) (by decide)
          refine lv_goto (tgt := 144) hx hb dX11_cry_81 (by decide) ?_
          exact K144 k59_L_6 k59_L_5 q59_3 h7 q59_6 h6 q59_8 q59_9 H locs (hP.sub (ws' := [(a, .inr (11, [.ref a_tape, .ref a_fairReader, .ref a_ruleReader, .ref a_rules, .int a__ruleCount, .ref a_told, .ref a_scene, .ref a_spare, .ref a_past, .int a__pastFirst, .int a__pastCount, .ref a_trials, .ref a_images, .ref a_pairs, .ref a_walker, .ref a_market, .int a__x])), (a_told, .inr (8, [.int a_told__stalls, .int a_told__shift, .int a_told__halves, .int a_told__buyers, .int a_told__near, .int a_told__dusk, .int a_told__duskPrice, .int a_told__hear, .int a_told__forged, .ref a_told_stall, .ref a_told_shape, .ref a_told_side, .ref a_told_price, .ref a_told_purse, .ref a_told_spot, .ref a_told_club, .ref a_told_fitting, .ref a_told_nearly])), (a_scene, .inr (6, [.int a_scene__hour, .ref a_scene_purse, .ref a_scene_spot, .ref a_scene_seen, .ref a_scene_has, .ref a_scene_at])), (a_scene_at, .inl (cs 0, 8, .inl a_scene_at_c)), (a_told_club, .inl (cs 0, 4, .inl a_told_club_c)), (a_scene_seen, .inl (cs 0, 4, .inl a_scene_seen_c)), (a_scene_has, .inl (cs 0, 4, .inl a_scene_has_c)), (a_told_shape, .inl (cs 0, 12, .inl a_told_shape_c)), (a_told_fitting, .inl (cs 0, 12, .inl a_told_fitting_c))]) [0, 1, 2, 3, 4, 5, 6, 7, 8] rfl) hS ls (lv_sub hl [0, 1, 2, 3, 4, 5, 6, 7] rfl)
  refine lv_aload_n hx hb dX11_cry_0 rfl (lv_at hl 0 rfl) ?_
  refine va_get (D := D) (ci := 11) (v := .ref a_told) (C := RX11) (T := TX11) (N := 17) hx hb hT i_X11 hown hK hP 0 rfl rfl 5 (by decide) (hT _ q_4) (fun _ h9 => h9) rfl dX11_cry_1 ?_
  refine lv_iload_n hx hb dX11_cry_4 rfl (lv_at hl 1 rfl) ?_
  refine va_calli (va_runV (As := [.int p0]) (rest := []) ⟨hx, hb, hml, hown, hT⟩ (c_X8_isBuyer l D cs kK kV a_told p0 a_told__stalls a_told__shift a_told__halves a_told__buyers a_told__near a_told__dusk a_told__duskPrice a_told__hear a_told__forged a_told_stall a_told_shape a_told_side a_told_price a_told_purse a_told_spot a_told_club a_told_fitting a_told_nearly h_a_told__buyers) (cwV 1 hT (hz_gV q_266 q_267 q_268 q_251 q_269) rfl rfl rfl (by decide +kernel) ⟨(Nat.le_of_ble_eq_true rfl), (Nat.le_of_ble_eq_true rfl)⟩) ⟨hz_P.blind, va_recv hK hP (ci := 8) (q0 := 1) rfl rfl, hz_P.mk (hP.sub (ws' := [(a_told, .inr (8, [.int a_told__stalls, .int a_told__shift, .int a_told__halves, .int a_told__buyers, .int a_told__near, .int a_told__dusk, .int a_told__duskPrice, .int a_told__hear, .int a_told__forged, .ref a_told_stall, .ref a_told_shape, .ref a_told_side, .ref a_told_price, .ref a_told_purse, .ref a_told_spot, .ref a_told_club, .ref a_told_fitting, .ref a_told_nearly]))]) [1] rfl) hE hS⟩ rfl rfl hl.1 rfl (lv_room (Nat.le_of_ble_eq_true rfl)) dX11_cry_5 ⟨(Nat.le_of_ble_eq_true rfl), (Nat.le_of_ble_eq_true rfl)⟩) hS (fun _ _ h => h.elim) (fun _ h => h.elim) (fun r28 u t H1 locs ht hvm hw hB hz1 hk1 hS => ?_)
  have hP := hz_keep hP hk1
  clear hk1 hB hz1
  generalize H1 = H at hP hS ⊢
  rcases hw with ⟨rfl, h29⟩ | ⟨rfl, h30, h31⟩
  · refine lv_if_eq (tgt := 20) hx hb dX11_cry_8 (by decide) (fun _ => ?_) (fun z => absurd (by decide) z)
    refine lv_iconst (v := (-1)) hx hb dX11_cry_20 (by decide) ?_
    exact W.iret (v := (-1)) hx hb hr (fun t ht hW => ⟨⟨(-1), (), rfl, (Or.inl (⟨rfl, h29⟩)), trivial⟩, hS.F ht⟩) hS.2.2 dX11_cry_21
  · refine lv_if_eq (tgt := 20) hx hb dX11_cry_8 (by decide) (fun z => absurd z (by decide)) (fun _ => ?_)
    refine lv_iload_n hx hb dX11_cry_11 rfl (lv_at hl 2 rfl) ?_
    refine lv_if_lt (tgt := 20) hx hb dX11_cry_12 (by decide) (fun c32 => ?_) (fun c32 => ?_)
    · have h33 : IV (-2147483648) (-1) p1 := iv_lt1 c32 iv_top (iv_c (a := 0) (b := 0) (by decide)) (by decide)
      refine lv_iconst (v := (-1)) hx hb dX11_cry_20 (by decide) ?_
      exact W.iret (v := (-1)) hx hb hr (fun t ht hW => ⟨⟨(-1), (), rfl, (Or.inl (⟨rfl, (iv_w h31 (by decide) (by decide))⟩)), trivial⟩, hS.F ht⟩) hS.2.2 dX11_cry_21
    · have h34 : IV 0 2147483647 p1 := iv_le2 (Int32.not_lt.mp c32) (iv_c (a := 0) (b := 0) (by decide)) iv_top (by decide)
      refine lv_iload_n hx hb dX11_cry_15 rfl (lv_at hl 2 rfl) ?_
      refine lv_iconst (v := 1) hx hb dX11_cry_16 (by decide) ?_
      refine lv_icmp_le (tgt := 22) hx hb dX11_cry_17 (by decide) (fun c35 => ?_) (fun c35 => ?_)
      · have h36 : IV 0 1 p1 := iv_le1 c35 h34 (iv_c (a := 1) (b := 1) (by decide)) (by decide)
        refine lv_aload_n hx hb dX11_cry_22 rfl (lv_at hl 0 rfl) ?_
        refine lv_iload_n hx hb dX11_cry_23 rfl (lv_at hl 1 rfl) ?_
        refine va_calli (va_runV (As := [.int p0]) (rest := []) ⟨hx, hb, hml, hown, hT⟩ (c_X11_unseenBy l D cs kK kV a p0 a_tape a_fairReader a_ruleReader a_rules a__ruleCount a_told a_scene a_spare a_past a__pastFirst a__pastCount a_trials a_images a_pairs a_walker a_market a__x a_scene__hour a_scene_purse a_scene_spot a_scene_seen a_scene_has a_scene_at a_scene_at_c a_told__stalls a_told__shift a_told__halves a_told__buyers a_told__near a_told__dusk a_told__duskPrice a_told__hear a_told__forged a_told_stall a_told_shape a_told_side a_told_price a_told_purse a_told_spot a_told_club a_told_fitting a_told_nearly a_told_club_c a_scene_seen_c h31) (cwV 1 hT (hz_gV q_360 q_361 q_362 q_241 q_363) rfl rfl rfl (by decide +kernel) ⟨(Nat.le_of_ble_eq_true rfl), (Nat.le_of_ble_eq_true rfl)⟩) ⟨hz_P.blind, va_recv hK hP (ci := 11) (q0 := 0) rfl rfl, hz_P.mk (hP.sub (ws' := [(a, .inr (11, [.ref a_tape, .ref a_fairReader, .ref a_ruleReader, .ref a_rules, .int a__ruleCount, .ref a_told, .ref a_scene, .ref a_spare, .ref a_past, .int a__pastFirst, .int a__pastCount, .ref a_trials, .ref a_images, .ref a_pairs, .ref a_walker, .ref a_market, .int a__x])), (a_scene, .inr (6, [.int a_scene__hour, .ref a_scene_purse, .ref a_scene_spot, .ref a_scene_seen, .ref a_scene_has, .ref a_scene_at])), (a_scene_at, .inl (cs 0, 8, .inl a_scene_at_c)), (a_told, .inr (8, [.int a_told__stalls, .int a_told__shift, .int a_told__halves, .int a_told__buyers, .int a_told__near, .int a_told__dusk, .int a_told__duskPrice, .int a_told__hear, .int a_told__forged, .ref a_told_stall, .ref a_told_shape, .ref a_told_side, .ref a_told_price, .ref a_told_purse, .ref a_told_spot, .ref a_told_club, .ref a_told_fitting, .ref a_told_nearly])), (a_told_club, .inl (cs 0, 4, .inl a_told_club_c)), (a_scene_seen, .inl (cs 0, 4, .inl a_scene_seen_c))]) [0,2,3,1,4,5] rfl) hE hS⟩ rfl rfl hl.1 rfl (lv_room (Nat.le_of_ble_eq_true rfl)) dX11_cry_24 ⟨(Nat.le_of_ble_eq_true rfl), (Nat.le_of_ble_eq_true rfl)⟩) hS (fun _ _ h => h.elim) (fun _ h => h.elim) (fun r37 u t H1 locs ht hvm hw hB hz1 hk1 hS => ?_)
        have hP := hz_keep hP hk1
        clear hk1 hB hz1
        generalize H1 = H at hP hS ⊢
        refine lv_istore_n (lv' := [(3, .int r37), (0, .ref a), (1, .int p0), (2, .int p1)]) hx hb dX11_cry_27 rfl hl (by decide) rfl (fun ls hl => ?_)
        refine lv_aload_n hx hb dX11_cry_28 rfl (lv_at hl 1 rfl) ?_
        refine va_get (D := D) (ci := 11) (v := .ref a_scene) (C := RX11) (T := TX11) (N := 17) hx hb hT i_X11 hown hK hP 0 rfl rfl 6 (by decide) (hT _ q_5) (fun _ h9 => h9) rfl dX11_cry_29 ?_
        refine va_get (D := D) (ci := 6) (v := .ref a_scene_has) (C := RX6) (T := TX6) (N := 6) hx hb hT i_X6 hown hK hP 2 rfl rfl 4 (by decide) (hT _ q_24) (fun _ h9 => h9) rfl dX11_cry_32 ?_
        refine lv_iload_n hx hb dX11_cry_35 rfl (lv_at hl 2 rfl) ?_
        refine va_iald hx hb hK hP 6 0 rfl rfl (iv_v h31 (by decide) (by decide)) dX11_cry_36 ?_
        refine lv_topi (fun v38 ev38 => ?_)
        refine lv_aload_n hx hb dX11_cry_37 rfl (lv_at hl 1 rfl) ?_
        refine va_get (D := D) (ci := 11) (v := .ref a_told) (C := RX11) (T := TX11) (N := 17) hx hb hT i_X11 hown hK hP 0 rfl rfl 5 (by decide) (hT _ q_4) (fun _ h9 => h9) rfl dX11_cry_38 ?_
        refine va_get (D := D) (ci := 8) (v := .int a_told__forged) (C := RX8) (T := TX8) (N := 18) hx hb hT i_X8 hown hK hP 1 rfl rfl 8 (by decide) (hT _ q_21) (fun _ h9 => h9) rfl dX11_cry_41 ?_
        refine lv_iconst (v := (-1)) hx hb dX11_cry_44 (by decide) ?_
        refine lv_ixor hx hb dX11_cry_45 ?_
        refine lv_topi (fun v39 ev39 => ?_)
        refine lv_iand hx hb dX11_cry_46 ?_
        refine lv_topi (fun v40 ev40 => ?_)
        refine lv_istore (lv' := [(4, .int v40), (3, .int r37), (0, .ref a), (1, .int p0), (2, .int p1)]) hx hb dX11_cry_47 hl (by decide) rfl (fun ls hl => ?_)
        refine lv_bipush (v := (-2)) hx hb dX11_cry_49 (by decide) ?_
        refine lv_istore (lv' := [(5, .int (-2)), (4, .int v40), (3, .int r37), (0, .ref a), (1, .int p0), (2, .int p1)]) hx hb dX11_cry_51 hl (by decide) rfl (fun ls hl => ?_)
        refine lv_iconst (v := 0) hx hb dX11_cry_53 (by decide) ?_
        refine lv_istore (lv' := [(6, .int 0), (5, .int (-2)), (4, .int v40), (3, .int r37), (0, .ref a), (1, .int p0), (2, .int p1)]) hx hb dX11_cry_54 hl (by decide) rfl (fun ls hl => ?_)
        refine lv_iconst (v := 0) hx hb dX11_cry_56 (by decide) ?_
        refine lv_istore (lv' := [(7, .int 0), (6, .int 0), (5, .int (-2)), (4, .int v40), (3, .int r37), (0, .ref a), (1, .int p0), (2, .int p1)]) hx hb dX11_cry_57 hl (by decide) rfl (fun ls hl => ?_)
        exact K59 _ 0 0 (-2) v40 r37 (Nat.le_refl _) h30 (iv_c (by decide)) (iv_c (by decide)) h31 h36 H locs (hP.sub (ws' := [(a, .inr (11, [.ref a_tape, .ref a_fairReader, .ref a_ruleReader, .ref a_rules, .int a__ruleCount, .ref a_told, .ref a_scene, .ref a_spare, .ref a_past, .int a__pastFirst, .int a__pastCount, .ref a_trials, .ref a_images, .ref a_pairs, .ref a_walker, .ref a_market, .int a__x])), (a_told, .inr (8, [.int a_told__stalls, .int a_told__shift, .int a_told__halves, .int a_told__buyers, .int a_told__near, .int a_told__dusk, .int a_told__duskPrice, .int a_told__hear, .int a_told__forged, .ref a_told_stall, .ref a_told_shape, .ref a_told_side, .ref a_told_price, .ref a_told_purse, .ref a_told_spot, .ref a_told_club, .ref a_told_fitting, .ref a_told_nearly])), (a_scene, .inr (6, [.int a_scene__hour, .ref a_scene_purse, .ref a_scene_spot, .ref a_scene_seen, .ref a_scene_has, .ref a_scene_at])), (a_scene_at, .inl (cs 0, 8, .inl a_scene_at_c)), (a_told_club, .inl (cs 0, 4, .inl a_told_club_c)), (a_scene_seen, .inl (cs 0, 4, .inl a_scene_seen_c)), (a_scene_has, .inl (cs 0, 4, .inl a_scene_has_c)), (a_told_shape, .inl (cs 0, 12, .inl a_told_shape_c)), (a_told_fitting, .inl (cs 0, 12, .inl a_told_fitting_c))]) [0, 1, 2, 3, 4, 5, 6, 7, 8] rfl) hS ls (lv_sub hl [0, 1, 2, 3, 4, 5, 6, 7] rfl)
      · have h41 : IV 2 2147483647 p1 := iv_lt2 (Int32.not_le.mp c35) (iv_c (a := 1) (b := 1) (by decide)) h34 (by decide)
        refine lv_iconst (v := (-1)) hx hb dX11_cry_20 (by decide) ?_
        exact W.iret (v := (-1)) hx hb hr (fun t ht hW => ⟨⟨(-1), (), rfl, (Or.inl (⟨rfl, (iv_w h31 (by decide) (by decide))⟩)), trivial⟩, hS.F ht⟩) hS.2.2 dX11_cry_21
theorem dX11_buyer_0 : decode cX11_buyer 0 = .ok (.aload_n 0, 1) := by decide +kernel
theorem dX11_buyer_1 : decode cX11_buyer 1 = .ok (.getfield 39, 3) := by decide +kernel
theorem dX11_buyer_4 : decode cX11_buyer 4 = .ok (.iload_n 1, 1) := by decide +kernel
theorem dX11_buyer_5 : decode cX11_buyer 5 = .ok (.invokevirtual 157, 3) := by decide +kernel
theorem dX11_buyer_8 : decode cX11_buyer 8 = .ok (.ifCond .ne 5, 3) := by decide +kernel
theorem dX11_buyer_11 : decode cX11_buyer 11 = .ok (.iconst (-1), 1) := by decide +kernel
theorem dX11_buyer_12 : decode cX11_buyer 12 = .ok (.ireturn, 1) := by decide +kernel
theorem dX11_buyer_13 : decode cX11_buyer 13 = .ok (.iload_n 2, 1) := by decide +kernel
theorem dX11_buyer_14 : decode cX11_buyer 14 = .ok (.tableswitch 112 0 5 #[38, 48, 58, 68, 85, 95], 38) := by decide +kernel
theorem dX11_buyer_52 : decode cX11_buyer 52 = .ok (.aload_n 0, 1) := by decide +kernel
theorem dX11_buyer_53 : decode cX11_buyer 53 = .ok (.getfield 46, 3) := by decide +kernel
theorem dX11_buyer_56 : decode cX11_buyer 56 = .ok (.getfield 160, 3) := by decide +kernel
theorem dX11_buyer_59 : decode cX11_buyer 59 = .ok (.iload_n 1, 1) := by decide +kernel
theorem dX11_buyer_60 : decode cX11_buyer 60 = .ok (.iaload, 1) := by decide +kernel
theorem dX11_buyer_61 : decode cX11_buyer 61 = .ok (.ireturn, 1) := by decide +kernel
theorem dX11_buyer_62 : decode cX11_buyer 62 = .ok (.aload_n 0, 1) := by decide +kernel
theorem dX11_buyer_63 : decode cX11_buyer 63 = .ok (.getfield 46, 3) := by decide +kernel
theorem dX11_buyer_66 : decode cX11_buyer 66 = .ok (.getfield 163, 3) := by decide +kernel
theorem dX11_buyer_69 : decode cX11_buyer 69 = .ok (.iload_n 1, 1) := by decide +kernel
theorem dX11_buyer_70 : decode cX11_buyer 70 = .ok (.iaload, 1) := by decide +kernel
theorem dX11_buyer_71 : decode cX11_buyer 71 = .ok (.ireturn, 1) := by decide +kernel
theorem dX11_buyer_72 : decode cX11_buyer 72 = .ok (.aload_n 0, 1) := by decide +kernel
theorem dX11_buyer_73 : decode cX11_buyer 73 = .ok (.getfield 46, 3) := by decide +kernel
theorem dX11_buyer_76 : decode cX11_buyer 76 = .ok (.getfield 166, 3) := by decide +kernel
theorem dX11_buyer_79 : decode cX11_buyer 79 = .ok (.iload_n 1, 1) := by decide +kernel
theorem dX11_buyer_80 : decode cX11_buyer 80 = .ok (.iaload, 1) := by decide +kernel
theorem dX11_buyer_81 : decode cX11_buyer 81 = .ok (.ireturn, 1) := by decide +kernel
theorem dX11_buyer_82 : decode cX11_buyer 82 = .ok (.aload_n 0, 1) := by decide +kernel
theorem dX11_buyer_83 : decode cX11_buyer 83 = .ok (.getfield 46, 3) := by decide +kernel
theorem dX11_buyer_86 : decode cX11_buyer 86 = .ok (.aload_n 0, 1) := by decide +kernel
theorem dX11_buyer_87 : decode cX11_buyer 87 = .ok (.getfield 39, 3) := by decide +kernel
theorem dX11_buyer_90 : decode cX11_buyer 90 = .ok (.getfield 169, 3) := by decide +kernel
theorem dX11_buyer_93 : decode cX11_buyer 93 = .ok (.iload_n 1, 1) := by decide +kernel
theorem dX11_buyer_94 : decode cX11_buyer 94 = .ok (.iaload, 1) := by decide +kernel
theorem dX11_buyer_95 : decode cX11_buyer 95 = .ok (.invokevirtual 172, 3) := by decide +kernel
theorem dX11_buyer_98 : decode cX11_buyer 98 = .ok (.ireturn, 1) := by decide +kernel
theorem dX11_buyer_99 : decode cX11_buyer 99 = .ok (.aload_n 0, 1) := by decide +kernel
theorem dX11_buyer_100 : decode cX11_buyer 100 = .ok (.getfield 39, 3) := by decide +kernel
theorem dX11_buyer_103 : decode cX11_buyer 103 = .ok (.getfield 169, 3) := by decide +kernel
theorem dX11_buyer_106 : decode cX11_buyer 106 = .ok (.iload_n 1, 1) := by decide +kernel
theorem dX11_buyer_107 : decode cX11_buyer 107 = .ok (.iaload, 1) := by decide +kernel
theorem dX11_buyer_108 : decode cX11_buyer 108 = .ok (.ireturn, 1) := by decide +kernel
theorem dX11_buyer_109 : decode cX11_buyer 109 = .ok (.aload_n 0, 1) := by decide +kernel
theorem dX11_buyer_110 : decode cX11_buyer 110 = .ok (.getfield 73, 3) := by decide +kernel
theorem dX11_buyer_113 : decode cX11_buyer 113 = .ok (.aload_n 0, 1) := by decide +kernel
theorem dX11_buyer_114 : decode cX11_buyer 114 = .ok (.getfield 46, 3) := by decide +kernel
theorem dX11_buyer_117 : decode cX11_buyer 117 = .ok (.getfield 166, 3) := by decide +kernel
theorem dX11_buyer_120 : decode cX11_buyer 120 = .ok (.iload_n 1, 1) := by decide +kernel
theorem dX11_buyer_121 : decode cX11_buyer 121 = .ok (.iaload, 1) := by decide +kernel
theorem dX11_buyer_122 : decode cX11_buyer 122 = .ok (.invokevirtual 175, 3) := by decide +kernel
theorem dX11_buyer_125 : decode cX11_buyer 125 = .ok (.ireturn, 1) := by decide +kernel
theorem dX11_buyer_126 : decode cX11_buyer 126 = .ok (.iconst (-1), 1) := by decide +kernel
theorem dX11_buyer_127 : decode cX11_buyer 127 = .ok (.ireturn, 1) := by decide +kernel
set_option maxHeartbeats 4000000 in
set_option maxRecDepth 100000 in
theorem c_X11_buyer (l : Launch) (D : va_G) (cs : Nat → ClassId) (kK kV : Nat → Nat) (a : Nat) (p0 : Int32) (p1 : Int32) (a_tape : Nat) (a_fairReader : Nat) (a_ruleReader : Nat) (a_rules : Nat) (a__ruleCount : Int32) (a_told : Nat) (a_scene : Nat) (a_spare : Nat) (a_past : Nat) (a__pastFirst : Int32) (a__pastCount : Int32) (a_trials : Nat) (a_images : Nat) (a_pairs : Nat) (a_walker : Nat) (a_market : Nat) (a__x : Int32) (a_told__stalls : Int32) (a_told__shift : Int32) (a_told__halves : Int32) (a_told__buyers : Int32) (a_told__near : Int32) (a_told__dusk : Int32) (a_told__duskPrice : Int32) (a_told__hear : Int32) (a_told__forged : Int32) (a_told_stall : Nat) (a_told_shape : Nat) (a_told_side : Nat) (a_told_price : Nat) (a_told_purse : Nat) (a_told_spot : Nat) (a_told_club : Nat) (a_told_fitting : Nat) (a_told_nearly : Nat) (a_scene__hour : Int32) (a_scene_purse : Nat) (a_scene_spot : Nat) (a_scene_seen : Nat) (a_scene_has : Nat) (a_scene_at : Nat) (a_scene_purse_c : Nat → Int32) (a_scene_spot_c : Nat → Int32) (a_scene_has_c : Nat → Int32) (a_told_club_c : Nat → Int32) (a_scene_seen_c : Nat → Int32) (a_pairs_known : Nat) (a_pairs_known_c : Nat → Int32) (a_told_fitting_c : Nat → Int32) (a_told_nearly_c : Nat → Int32) (h_a_told__buyers : IV 0 4 a_told__buyers) (sz : Nat) : Met l yX11_buyer (hz_w yX11_buyer cX11_buyer 3 (some .int)) ({ frames := 15, cells := 0, slots := 0, locals := 399 }) (va_Pc [.ref a, .int p0, .int p1] (hz_C D cs kK kV sz [(a, .inr (11, [.ref a_tape, .ref a_fairReader, .ref a_ruleReader, .ref a_rules, .int a__ruleCount, .ref a_told, .ref a_scene, .ref a_spare, .ref a_past, .int a__pastFirst, .int a__pastCount, .ref a_trials, .ref a_images, .ref a_pairs, .ref a_walker, .ref a_market, .int a__x])), (a_told, .inr (8, [.int a_told__stalls, .int a_told__shift, .int a_told__halves, .int a_told__buyers, .int a_told__near, .int a_told__dusk, .int a_told__duskPrice, .int a_told__hear, .int a_told__forged, .ref a_told_stall, .ref a_told_shape, .ref a_told_side, .ref a_told_price, .ref a_told_purse, .ref a_told_spot, .ref a_told_club, .ref a_told_fitting, .ref a_told_nearly])), (a_scene, .inr (6, [.int a_scene__hour, .ref a_scene_purse, .ref a_scene_spot, .ref a_scene_seen, .ref a_scene_has, .ref a_scene_at])), (a_scene_purse, .inl (cs 0, 4, .inl a_scene_purse_c)), (a_scene_spot, .inl (cs 0, 4, .inl a_scene_spot_c)), (a_scene_has, .inl (cs 0, 4, .inl a_scene_has_c)), (a_told_club, .inl (cs 0, 4, .inl a_told_club_c)), (a_scene_seen, .inl (cs 0, 4, .inl a_scene_seen_c)), (a_pairs, .inr (3, [.ref a_told, .ref a_pairs_known])), (a_pairs_known, .inl (cs 0, 4096, .inl a_pairs_known_c)), (a_told_fitting, .inl (cs 0, 12, .inl a_told_fitting_c)), (a_told_nearly, .inl (cs 0, 12, .inl a_told_nearly_c))])) (va_Qi (fun (r : Int32) (_ : Unit) => (r = (-1) ∧ IV (-2147483648) 2147483647 p0) ∨ (IV 1 4 a_told__buyers ∧ IV 0 3 p0 ∧ IV 0 5 p1)) (fun _ t => ∃ (o_a_pairs_known_c : Nat → Int32), va_P D classes [(a, .inr (11, [.ref a_tape, .ref a_fairReader, .ref a_ruleReader, .ref a_rules, .int a__ruleCount, .ref a_told, .ref a_scene, .ref a_spare, .ref a_past, .int a__pastFirst, .int a__pastCount, .ref a_trials, .ref a_images, .ref a_pairs, .ref a_walker, .ref a_market, .int a__x])), (a_told, .inr (8, [.int a_told__stalls, .int a_told__shift, .int a_told__halves, .int a_told__buyers, .int a_told__near, .int a_told__dusk, .int a_told__duskPrice, .int a_told__hear, .int a_told__forged, .ref a_told_stall, .ref a_told_shape, .ref a_told_side, .ref a_told_price, .ref a_told_purse, .ref a_told_spot, .ref a_told_club, .ref a_told_fitting, .ref a_told_nearly])), (a_scene, .inr (6, [.int a_scene__hour, .ref a_scene_purse, .ref a_scene_spot, .ref a_scene_seen, .ref a_scene_has, .ref a_scene_at])), (a_scene_purse, .inl (cs 0, 4, .inl a_scene_purse_c)), (a_scene_spot, .inl (cs 0, 4, .inl a_scene_spot_c)), (a_scene_has, .inl (cs 0, 4, .inl a_scene_has_c)), (a_told_club, .inl (cs 0, 4, .inl a_told_club_c)), (a_scene_seen, .inl (cs 0, 4, .inl a_scene_seen_c)), (a_pairs, .inr (3, [.ref a_told, .ref a_pairs_known])), (a_pairs_known, .inl (cs 0, 4096, .inl o_a_pairs_known_c)), (a_told_fitting, .inl (cs 0, 12, .inl a_told_fitting_c)), (a_told_nearly, .inl (cs 0, 12, .inl a_told_nearly_c))] t.heap ∧ va_D (va_A [(a, .inr (11, [.ref a_tape, .ref a_fairReader, .ref a_ruleReader, .ref a_rules, .int a__ruleCount, .ref a_told, .ref a_scene, .ref a_spare, .ref a_past, .int a__pastFirst, .int a__pastCount, .ref a_trials, .ref a_images, .ref a_pairs, .ref a_walker, .ref a_market, .int a__x])), (a_told, .inr (8, [.int a_told__stalls, .int a_told__shift, .int a_told__halves, .int a_told__buyers, .int a_told__near, .int a_told__dusk, .int a_told__duskPrice, .int a_told__hear, .int a_told__forged, .ref a_told_stall, .ref a_told_shape, .ref a_told_side, .ref a_told_price, .ref a_told_purse, .ref a_told_spot, .ref a_told_club, .ref a_told_fitting, .ref a_told_nearly])), (a_scene, .inr (6, [.int a_scene__hour, .ref a_scene_purse, .ref a_scene_spot, .ref a_scene_seen, .ref a_scene_has, .ref a_scene_at])), (a_scene_purse, .inl (cs 0, 4, .inl a_scene_purse_c)), (a_scene_spot, .inl (cs 0, 4, .inl a_scene_spot_c)), (a_scene_has, .inl (cs 0, 4, .inl a_scene_has_c)), (a_told_club, .inl (cs 0, 4, .inl a_told_club_c)), (a_scene_seen, .inl (cs 0, 4, .inl a_scene_seen_c)), (a_pairs, .inr (3, [.ref a_told, .ref a_pairs_known])), (a_pairs_known, .inl (cs 0, 4096, .inl a_pairs_known_c)), (a_told_fitting, .inl (cs 0, 12, .inl a_told_fitting_c)), (a_told_nearly, .inl (cs 0, 12, .inl a_told_nearly_c))] sz) [(a, .inr (11, [.ref a_tape, .ref a_fairReader, .ref a_ruleReader, .ref a_rules, .int a__ruleCount, .ref a_told, .ref a_scene, .ref a_spare, .ref a_past, .int a__pastFirst, .int a__pastCount, .ref a_trials, .ref a_images, .ref a_pairs, .ref a_walker, .ref a_market, .int a__x])), (a_told, .inr (8, [.int a_told__stalls, .int a_told__shift, .int a_told__halves, .int a_told__buyers, .int a_told__near, .int a_told__dusk, .int a_told__duskPrice, .int a_told__hear, .int a_told__forged, .ref a_told_stall, .ref a_told_shape, .ref a_told_side, .ref a_told_price, .ref a_told_purse, .ref a_told_spot, .ref a_told_club, .ref a_told_fitting, .ref a_told_nearly])), (a_scene, .inr (6, [.int a_scene__hour, .ref a_scene_purse, .ref a_scene_spot, .ref a_scene_seen, .ref a_scene_has, .ref a_scene_at])), (a_scene_purse, .inl (cs 0, 4, .inl a_scene_purse_c)), (a_scene_spot, .inl (cs 0, 4, .inl a_scene_spot_c)), (a_scene_has, .inl (cs 0, 4, .inl a_scene_has_c)), (a_told_club, .inl (cs 0, 4, .inl a_told_club_c)), (a_scene_seen, .inl (cs 0, 4, .inl a_scene_seen_c)), (a_pairs, .inr (3, [.ref a_told, .ref a_pairs_known])), (a_pairs_known, .inl (cs 0, 4096, .inl o_a_pairs_known_c)), (a_told_fitting, .inl (cs 0, 12, .inl a_told_fitting_c)), (a_told_nearly, .inl (cs 0, 12, .inl a_told_nearly_c))]) (va_A [(a, .inr (11, [.ref a_tape, .ref a_fairReader, .ref a_ruleReader, .ref a_rules, .int a__ruleCount, .ref a_told, .ref a_scene, .ref a_spare, .ref a_past, .int a__pastFirst, .int a__pastCount, .ref a_trials, .ref a_images, .ref a_pairs, .ref a_walker, .ref a_market, .int a__x])), (a_told, .inr (8, [.int a_told__stalls, .int a_told__shift, .int a_told__halves, .int a_told__buyers, .int a_told__near, .int a_told__dusk, .int a_told__duskPrice, .int a_told__hear, .int a_told__forged, .ref a_told_stall, .ref a_told_shape, .ref a_told_side, .ref a_told_price, .ref a_told_purse, .ref a_told_spot, .ref a_told_club, .ref a_told_fitting, .ref a_told_nearly])), (a_scene, .inr (6, [.int a_scene__hour, .ref a_scene_purse, .ref a_scene_spot, .ref a_scene_seen, .ref a_scene_has, .ref a_scene_at])), (a_scene_purse, .inl (cs 0, 4, .inl a_scene_purse_c)), (a_scene_spot, .inl (cs 0, 4, .inl a_scene_spot_c)), (a_scene_has, .inl (cs 0, 4, .inl a_scene_has_c)), (a_told_club, .inl (cs 0, 4, .inl a_told_club_c)), (a_scene_seen, .inl (cs 0, 4, .inl a_scene_seen_c)), (a_pairs, .inr (3, [.ref a_told, .ref a_pairs_known])), (a_pairs_known, .inl (cs 0, 4096, .inl a_pairs_known_c)), (a_told_fitting, .inl (cs 0, 12, .inl a_told_fitting_c)), (a_told_nearly, .inl (cs 0, 12, .inl a_told_nearly_c))] sz)) 0 0 (va_A [(a, .inr (11, [.ref a_tape, .ref a_fairReader, .ref a_ruleReader, .ref a_rules, .int a__ruleCount, .ref a_told, .ref a_scene, .ref a_spare, .ref a_past, .int a__pastFirst, .int a__pastCount, .ref a_trials, .ref a_images, .ref a_pairs, .ref a_walker, .ref a_market, .int a__x])), (a_told, .inr (8, [.int a_told__stalls, .int a_told__shift, .int a_told__halves, .int a_told__buyers, .int a_told__near, .int a_told__dusk, .int a_told__duskPrice, .int a_told__hear, .int a_told__forged, .ref a_told_stall, .ref a_told_shape, .ref a_told_side, .ref a_told_price, .ref a_told_purse, .ref a_told_spot, .ref a_told_club, .ref a_told_fitting, .ref a_told_nearly])), (a_scene, .inr (6, [.int a_scene__hour, .ref a_scene_purse, .ref a_scene_spot, .ref a_scene_seen, .ref a_scene_has, .ref a_scene_at])), (a_scene_purse, .inl (cs 0, 4, .inl a_scene_purse_c)), (a_scene_spot, .inl (cs 0, 4, .inl a_scene_spot_c)), (a_scene_has, .inl (cs 0, 4, .inl a_scene_has_c)), (a_told_club, .inl (cs 0, 4, .inl a_told_club_c)), (a_scene_seen, .inl (cs 0, 4, .inl a_scene_seen_c)), (a_pairs, .inr (3, [.ref a_told, .ref a_pairs_known])), (a_pairs_known, .inl (cs 0, 4096, .inl a_pairs_known_c)), (a_told_fitting, .inl (cs 0, 12, .inl a_told_fitting_c)), (a_told_nearly, .inl (cs 0, 12, .inl a_told_nearly_c))] sz) := by
  refine Met.ofW (cc := cX11_buyer) (maxL := 3) (ret := (some .int)) (by decide) rfl ?_
  intro p e s m args below meth c s₁ B hml hv
  obtain ⟨rfl, hsz, hP, hD0, hE⟩ := hv
  have hx := B.exec
  have hb := B.bytes
  have hr := B.returns
  have hT : ∀ w ∈ TB, w.before _ s = true := fun w h => atoms_spec (ws := hz_w yX11_buyer cX11_buyer 3 (some .int)) B.pre w (List.mem_cons_of_mem _ h)
  have hown : s.vm.findClass RX11 = some m.cls := findClass_of_methodNamed B.named
  have hlocks := B.notSynchronized
  clear B
  subst hsz
  have hD := hD0.self (sz := s.heap.size)
  generalize hAe : va_A [(a, .inr (11, [.ref a_tape, .ref a_fairReader, .ref a_ruleReader, .ref a_rules, .int a__ruleCount, .ref a_told, .ref a_scene, .ref a_spare, .ref a_past, .int a__pastFirst, .int a__pastCount, .ref a_trials, .ref a_images, .ref a_pairs, .ref a_walker, .ref a_market, .int a__x])), (a_told, .inr (8, [.int a_told__stalls, .int a_told__shift, .int a_told__halves, .int a_told__buyers, .int a_told__near, .int a_told__dusk, .int a_told__duskPrice, .int a_told__hear, .int a_told__forged, .ref a_told_stall, .ref a_told_shape, .ref a_told_side, .ref a_told_price, .ref a_told_purse, .ref a_told_spot, .ref a_told_club, .ref a_told_fitting, .ref a_told_nearly])), (a_scene, .inr (6, [.int a_scene__hour, .ref a_scene_purse, .ref a_scene_spot, .ref a_scene_seen, .ref a_scene_has, .ref a_scene_at])), (a_scene_purse, .inl (cs 0, 4, .inl a_scene_purse_c)), (a_scene_spot, .inl (cs 0, 4, .inl a_scene_spot_c)), (a_scene_has, .inl (cs 0, 4, .inl a_scene_has_c)), (a_told_club, .inl (cs 0, 4, .inl a_told_club_c)), (a_scene_seen, .inl (cs 0, 4, .inl a_scene_seen_c)), (a_pairs, .inr (3, [.ref a_told, .ref a_pairs_known])), (a_pairs_known, .inl (cs 0, 4096, .inl a_pairs_known_c)), (a_told_fitting, .inl (cs 0, 12, .inl a_told_fitting_c)), (a_told_nearly, .inl (cs 0, 12, .inl a_told_nearly_c))] s.heap.size = A at hD hE ⊢
  have hA : ∀ q : Nat, s.heap.size ≤ q → A q := fun q h => by rw [← hAe]; exact Or.inr h
  clear hAe hD0
  have hS : va_S A s.heap s.heap [] := va_S.rf
  have hK := hE.1
  have hl := lv_entry ([.ref a, .int p0, .int p1]) (n := 3) (Nat.le_of_ble_eq_true rfl)
  rw [lg_entry_eq]
  generalize (lg_sl ([.ref a, .int p0, .int p1]) ++ List.replicate (3 - (lg_sl ([.ref a, .int p0, .int p1])).length) Slot.unset).toArray = ls at hl ⊢
  have hl : lv_has ls 3 [(0, .ref a), (1, .int p0), (2, .int p1)] := hl
  obtain ⟨H, eH⟩ : ∃ z, z = s.heap := ⟨_, rfl⟩
  have hP : va_P D classes [(a, .inr (11, [.ref a_tape, .ref a_fairReader, .ref a_ruleReader, .ref a_rules, .int a__ruleCount, .ref a_told, .ref a_scene, .ref a_spare, .ref a_past, .int a__pastFirst, .int a__pastCount, .ref a_trials, .ref a_images, .ref a_pairs, .ref a_walker, .ref a_market, .int a__x])), (a_told, .inr (8, [.int a_told__stalls, .int a_told__shift, .int a_told__halves, .int a_told__buyers, .int a_told__near, .int a_told__dusk, .int a_told__duskPrice, .int a_told__hear, .int a_told__forged, .ref a_told_stall, .ref a_told_shape, .ref a_told_side, .ref a_told_price, .ref a_told_purse, .ref a_told_spot, .ref a_told_club, .ref a_told_fitting, .ref a_told_nearly])), (a_scene, .inr (6, [.int a_scene__hour, .ref a_scene_purse, .ref a_scene_spot, .ref a_scene_seen, .ref a_scene_has, .ref a_scene_at])), (a_scene_purse, .inl (cs 0, 4, .inl a_scene_purse_c)), (a_scene_spot, .inl (cs 0, 4, .inl a_scene_spot_c)), (a_scene_has, .inl (cs 0, 4, .inl a_scene_has_c)), (a_told_club, .inl (cs 0, 4, .inl a_told_club_c)), (a_scene_seen, .inl (cs 0, 4, .inl a_scene_seen_c)), (a_pairs, .inr (3, [.ref a_told, .ref a_pairs_known])), (a_pairs_known, .inl (cs 0, 4096, .inl a_pairs_known_c)), (a_told_fitting, .inl (cs 0, 12, .inl a_told_fitting_c)), (a_told_nearly, .inl (cs 0, 12, .inl a_told_nearly_c))] H := by rw [eH]; exact hP
  have hS : va_S A s.heap H [] := by rw [eH]; exact hS
  rw [← eH]
  clear eH
  obtain ⟨locs, el⟩ : ∃ z : List Loc, z = [] := ⟨_, rfl⟩
  rw [← el] at hS ⊢
  clear el
  refine lv_aload_n hx hb dX11_buyer_0 rfl (lv_at hl 0 rfl) ?_
  refine va_get (D := D) (ci := 11) (v := .ref a_told) (C := RX11) (T := TX11) (N := 17) hx hb hT i_X11 hown hK hP 0 rfl rfl 5 (by decide) (hT _ q_4) (fun _ h9 => h9) rfl dX11_buyer_1 ?_
  refine lv_iload_n hx hb dX11_buyer_4 rfl (lv_at hl 1 rfl) ?_
  refine va_calli (va_runV (As := [.int p0]) (rest := []) ⟨hx, hb, hml, hown, hT⟩ (c_X8_isBuyer l D cs kK kV a_told p0 a_told__stalls a_told__shift a_told__halves a_told__buyers a_told__near a_told__dusk a_told__duskPrice a_told__hear a_told__forged a_told_stall a_told_shape a_told_side a_told_price a_told_purse a_told_spot a_told_club a_told_fitting a_told_nearly h_a_told__buyers) (cwV 1 hT (hz_gV q_266 q_267 q_268 q_251 q_269) rfl rfl rfl (by decide +kernel) ⟨(Nat.le_of_ble_eq_true rfl), (Nat.le_of_ble_eq_true rfl)⟩) ⟨hz_P.blind, va_recv hK hP (ci := 8) (q0 := 1) rfl rfl, hz_P.mk (hP.sub (ws' := [(a_told, .inr (8, [.int a_told__stalls, .int a_told__shift, .int a_told__halves, .int a_told__buyers, .int a_told__near, .int a_told__dusk, .int a_told__duskPrice, .int a_told__hear, .int a_told__forged, .ref a_told_stall, .ref a_told_shape, .ref a_told_side, .ref a_told_price, .ref a_told_purse, .ref a_told_spot, .ref a_told_club, .ref a_told_fitting, .ref a_told_nearly]))]) [1] rfl) hE hS⟩ rfl rfl hl.1 rfl (lv_room (Nat.le_of_ble_eq_true rfl)) dX11_buyer_5 ⟨(Nat.le_of_ble_eq_true rfl), (Nat.le_of_ble_eq_true rfl)⟩) hS (fun _ _ h => h.elim) (fun _ h => h.elim) (fun r1 u t H1 locs ht hvm hw hB hz1 hk1 hS => ?_)
  have hP := hz_keep hP hk1
  clear hk1 hB hz1
  generalize H1 = H at hP hS ⊢
  rcases hw with ⟨rfl, h2⟩ | ⟨rfl, h3, h4⟩
  · refine lv_if_ne (tgt := 13) hx hb dX11_buyer_8 (by decide) (fun z => absurd (by decide) z) (fun _ => ?_)
    refine lv_iconst (v := (-1)) hx hb dX11_buyer_11 (by decide) ?_
    refine W.widen (k := 0) (n := 0) (Nat.le_of_ble_eq_true rfl) (Nat.le_of_ble_eq_true rfl) ?_
    exact W.iret (v := (-1)) hx hb hr (fun t ht hW => ⟨⟨(-1), (), rfl, (Or.inl (⟨rfl, h2⟩)), a_pairs_known_c, by rw [ht]; exact hP.sub [0, 1, 2, 3, 4, 5, 6, 7, 8, 9, 10, 11] rfl, hD.sub [0, 1, 2, 3, 4, 5, 6, 7, 8, 9, 10, 11] (by decide) rfl⟩, hS.F ht⟩) hS.2.2 dX11_buyer_12
  · refine lv_if_ne (tgt := 13) hx hb dX11_buyer_8 (by decide) (fun _ => ?_) (fun z => absurd z (by decide))
    refine lv_iload_n hx hb dX11_buyer_13 rfl (lv_at hl 2 rfl) ?_
    by_cases c5 : p1.toInt < 0 ∨ 5 < p1.toInt
    · refine lv_tableOut (tgt := 126) hx hb dX11_buyer_14 c5 (by decide) ?_
      refine lv_iconst (v := (-1)) hx hb dX11_buyer_126 (by decide) ?_
      refine W.widen (k := 0) (n := 0) (Nat.le_of_ble_eq_true rfl) (Nat.le_of_ble_eq_true rfl) ?_
      exact W.iret (v := (-1)) hx hb hr (fun t ht hW => ⟨⟨(-1), (), rfl, (Or.inl (⟨rfl, (iv_w h4 (by decide) (by decide))⟩)), a_pairs_known_c, by rw [ht]; exact hP.sub [0, 1, 2, 3, 4, 5, 6, 7, 8, 9, 10, 11] rfl, hD.sub [0, 1, 2, 3, 4, 5, 6, 7, 8, 9, 10, 11] (by decide) rfl⟩, hS.F ht⟩) hS.2.2 dX11_buyer_127
    · rcases (show p1.toInt = 0 ∨ p1.toInt = 1 ∨ p1.toInt = 2 ∨ p1.toInt = 3 ∨ p1.toInt = 4 ∨ p1.toInt = 5 by omega) with c5e | c5e | c5e | c5e | c5e | c5e
      · refine lv_tableIn (off := 38) (tgt := 52) hx hb dX11_buyer_14 (by omega) (by omega) (by rw [c5e]; rfl) (by decide) ?_
        have h6 : IV 0 0 p1 := ⟨by omega, by omega⟩
        refine lv_aload_n hx hb dX11_buyer_52 rfl (lv_at hl 0 rfl) ?_
        refine va_get (D := D) (ci := 11) (v := .ref a_scene) (C := RX11) (T := TX11) (N := 17) hx hb hT i_X11 hown hK hP 0 rfl rfl 6 (by decide) (hT _ q_5) (fun _ h9 => h9) rfl dX11_buyer_53 ?_
        refine va_get (D := D) (ci := 6) (v := .ref a_scene_purse) (C := RX6) (T := TX6) (N := 6) hx hb hT i_X6 hown hK hP 2 rfl rfl 1 (by decide) (hT _ q_22) (fun _ h9 => h9) rfl dX11_buyer_56 ?_
        refine lv_iload_n hx hb dX11_buyer_59 rfl (lv_at hl 1 rfl) ?_
        refine va_iald hx hb hK hP 3 0 rfl rfl (iv_v h4 (by decide) (by decide)) dX11_buyer_60 ?_
        refine lv_topi (fun v7 ev7 => ?_)
        refine W.widen (k := 0) (n := 0) (Nat.le_of_ble_eq_true rfl) (Nat.le_of_ble_eq_true rfl) ?_
        exact W.iret (v := v7) hx hb hr (fun t ht hW => ⟨⟨v7, (), rfl, (Or.inr ((⟨h3, h4, (iv_w h6 (by decide) (by decide))⟩))), a_pairs_known_c, by rw [ht]; exact hP.sub [0, 1, 2, 3, 4, 5, 6, 7, 8, 9, 10, 11] rfl, hD.sub [0, 1, 2, 3, 4, 5, 6, 7, 8, 9, 10, 11] (by decide) rfl⟩, hS.F ht⟩) hS.2.2 dX11_buyer_61
      · refine lv_tableIn (off := 48) (tgt := 62) hx hb dX11_buyer_14 (by omega) (by omega) (by rw [c5e]; rfl) (by decide) ?_
        have h8 : IV 1 1 p1 := ⟨by omega, by omega⟩
        refine lv_aload_n hx hb dX11_buyer_62 rfl (lv_at hl 0 rfl) ?_
        refine va_get (D := D) (ci := 11) (v := .ref a_scene) (C := RX11) (T := TX11) (N := 17) hx hb hT i_X11 hown hK hP 0 rfl rfl 6 (by decide) (hT _ q_5) (fun _ h9 => h9) rfl dX11_buyer_63 ?_
        refine va_get (D := D) (ci := 6) (v := .ref a_scene_spot) (C := RX6) (T := TX6) (N := 6) hx hb hT i_X6 hown hK hP 2 rfl rfl 2 (by decide) (hT _ q_23) (fun _ h9 => h9) rfl dX11_buyer_66 ?_
        refine lv_iload_n hx hb dX11_buyer_69 rfl (lv_at hl 1 rfl) ?_
        refine va_iald hx hb hK hP 4 0 rfl rfl (iv_v h4 (by decide) (by decide)) dX11_buyer_70 ?_
        refine lv_topi (fun v9 ev9 => ?_)
        refine W.widen (k := 0) (n := 0) (Nat.le_of_ble_eq_true rfl) (Nat.le_of_ble_eq_true rfl) ?_
        exact W.iret (v := v9) hx hb hr (fun t ht hW => ⟨⟨v9, (), rfl, (Or.inr ((⟨h3, h4, (iv_w h8 (by decide) (by decide))⟩))), a_pairs_known_c, by rw [ht]; exact hP.sub [0, 1, 2, 3, 4, 5, 6, 7, 8, 9, 10, 11] rfl, hD.sub [0, 1, 2, 3, 4, 5, 6, 7, 8, 9, 10, 11] (by decide) rfl⟩, hS.F ht⟩) hS.2.2 dX11_buyer_71
      · refine lv_tableIn (off := 58) (tgt := 72) hx hb dX11_buyer_14 (by omega) (by omega) (by rw [c5e]; rfl) (by decide) ?_
        have h10 : IV 2 2 p1 := ⟨by omega, by omega⟩
        refine lv_aload_n hx hb dX11_buyer_72 rfl (lv_at hl 0 rfl) ?_
        refine va_get (D := D) (ci := 11) (v := .ref a_scene) (C := RX11) (T := TX11) (N := 17) hx hb hT i_X11 hown hK hP 0 rfl rfl 6 (by decide) (hT _ q_5) (fun _ h9 => h9) rfl dX11_buyer_73 ?_
        refine va_get (D := D) (ci := 6) (v := .ref a_scene_has) (C := RX6) (T := TX6) (N := 6) hx hb hT i_X6 hown hK hP 2 rfl rfl 4 (by decide) (hT _ q_24) (fun _ h9 => h9) rfl dX11_buyer_76 ?_
        refine lv_iload_n hx hb dX11_buyer_79 rfl (lv_at hl 1 rfl) ?_
        refine va_iald hx hb hK hP 5 0 rfl rfl (iv_v h4 (by decide) (by decide)) dX11_buyer_80 ?_
        refine lv_topi (fun v11 ev11 => ?_)
        refine W.widen (k := 0) (n := 0) (Nat.le_of_ble_eq_true rfl) (Nat.le_of_ble_eq_true rfl) ?_
        exact W.iret (v := v11) hx hb hr (fun t ht hW => ⟨⟨v11, (), rfl, (Or.inr ((⟨h3, h4, (iv_w h10 (by decide) (by decide))⟩))), a_pairs_known_c, by rw [ht]; exact hP.sub [0, 1, 2, 3, 4, 5, 6, 7, 8, 9, 10, 11] rfl, hD.sub [0, 1, 2, 3, 4, 5, 6, 7, 8, 9, 10, 11] (by decide) rfl⟩, hS.F ht⟩) hS.2.2 dX11_buyer_81
      · refine lv_tableIn (off := 68) (tgt := 82) hx hb dX11_buyer_14 (by omega) (by omega) (by rw [c5e]; rfl) (by decide) ?_
        have h12 : IV 3 3 p1 := ⟨by omega, by omega⟩
        refine lv_aload_n hx hb dX11_buyer_82 rfl (lv_at hl 0 rfl) ?_
        refine va_get (D := D) (ci := 11) (v := .ref a_scene) (C := RX11) (T := TX11) (N := 17) hx hb hT i_X11 hown hK hP 0 rfl rfl 6 (by decide) (hT _ q_5) (fun _ h9 => h9) rfl dX11_buyer_83 ?_
        refine lv_aload_n hx hb dX11_buyer_86 rfl (lv_at hl 0 rfl) ?_
        refine va_get (D := D) (ci := 11) (v := .ref a_told) (C := RX11) (T := TX11) (N := 17) hx hb hT i_X11 hown hK hP 0 rfl rfl 5 (by decide) (hT _ q_4) (fun _ h9 => h9) rfl dX11_buyer_87 ?_
        refine va_get (D := D) (ci := 8) (v := .ref a_told_club) (C := RX8) (T := TX8) (N := 18) hx hb hT i_X8 hown hK hP 1 rfl rfl 15 (by decide) (hT _ q_25) (fun _ h9 => h9) rfl dX11_buyer_90 ?_
        refine lv_iload_n hx hb dX11_buyer_93 rfl (lv_at hl 1 rfl) ?_
        refine va_iald hx hb hK hP 6 0 rfl rfl (iv_v h4 (by decide) (by decide)) dX11_buyer_94 ?_
        refine lv_topi (fun v13 ev13 => ?_)
        refine va_calli (va_runV (As := [.int v13]) (rest := []) ⟨hx, hb, hml, hown, hT⟩ (c_X6_sawBy l D cs kK kV a_scene v13 a_scene__hour a_scene_purse a_scene_spot a_scene_seen a_scene_has a_scene_at a_scene_seen_c) (cwV 1 hT (hz_gV q_270 q_271 q_272 q_231 q_273) rfl rfl rfl (by decide +kernel) ⟨(Nat.le_of_ble_eq_true rfl), (Nat.le_of_ble_eq_true rfl)⟩) ⟨hz_P.blind, va_recv hK hP (ci := 6) (q0 := 2) rfl rfl, hz_P.mk (hP.sub (ws' := [(a_scene, .inr (6, [.int a_scene__hour, .ref a_scene_purse, .ref a_scene_spot, .ref a_scene_seen, .ref a_scene_has, .ref a_scene_at])), (a_scene_seen, .inl (cs 0, 4, .inl a_scene_seen_c))]) [2,7] rfl) hE hS⟩ rfl rfl hl.1 rfl (lv_room (Nat.le_of_ble_eq_true rfl)) dX11_buyer_95 ⟨(Nat.le_of_ble_eq_true rfl), (Nat.le_of_ble_eq_true rfl)⟩) hS (fun _ _ h => h.elim) (fun _ h => h.elim) (fun r14 u t H1 locs ht hvm hw hB hz1 hk1 hS => ?_)
        have hP := hz_keep hP hk1
        clear hk1 hB hz1
        generalize H1 = H at hP hS ⊢
        refine W.widen (k := 0) (n := 0) (Nat.le_of_ble_eq_true rfl) (Nat.le_of_ble_eq_true rfl) ?_
        exact W.iret (v := r14) hx hb hr (fun t ht hW => ⟨⟨r14, (), rfl, (Or.inr ((⟨h3, h4, (iv_w h12 (by decide) (by decide))⟩))), a_pairs_known_c, by rw [ht]; exact hP.sub [0, 1, 2, 3, 4, 5, 6, 7, 8, 9, 10, 11] rfl, hD.sub [0, 1, 2, 3, 4, 5, 6, 7, 8, 9, 10, 11] (by decide) rfl⟩, hS.F ht⟩) hS.2.2 dX11_buyer_98
      · refine lv_tableIn (off := 85) (tgt := 99) hx hb dX11_buyer_14 (by omega) (by omega) (by rw [c5e]; rfl) (by decide) ?_
        have h15 : IV 4 4 p1 := ⟨by omega, by omega⟩
        refine lv_aload_n hx hb dX11_buyer_99 rfl (lv_at hl 0 rfl) ?_
        refine va_get (D := D) (ci := 11) (v := .ref a_told) (C := RX11) (T := TX11) (N := 17) hx hb hT i_X11 hown hK hP 0 rfl rfl 5 (by decide) (hT _ q_4) (fun _ h9 => h9) rfl dX11_buyer_100 ?_
        refine va_get (D := D) (ci := 8) (v := .ref a_told_club) (C := RX8) (T := TX8) (N := 18) hx hb hT i_X8 hown hK hP 1 rfl rfl 15 (by decide) (hT _ q_25) (fun _ h9 => h9) rfl dX11_buyer_103 ?_
        refine lv_iload_n hx hb dX11_buyer_106 rfl (lv_at hl 1 rfl) ?_
        refine va_iald hx hb hK hP 6 0 rfl rfl (iv_v h4 (by decide) (by decide)) dX11_buyer_107 ?_
        refine lv_topi (fun v16 ev16 => ?_)
        refine W.widen (k := 0) (n := 0) (Nat.le_of_ble_eq_true rfl) (Nat.le_of_ble_eq_true rfl) ?_
        exact W.iret (v := v16) hx hb hr (fun t ht hW => ⟨⟨v16, (), rfl, (Or.inr ((⟨h3, h4, (iv_w h15 (by decide) (by decide))⟩))), a_pairs_known_c, by rw [ht]; exact hP.sub [0, 1, 2, 3, 4, 5, 6, 7, 8, 9, 10, 11] rfl, hD.sub [0, 1, 2, 3, 4, 5, 6, 7, 8, 9, 10, 11] (by decide) rfl⟩, hS.F ht⟩) hS.2.2 dX11_buyer_108
      · refine lv_tableIn (off := 95) (tgt := 109) hx hb dX11_buyer_14 (by omega) (by omega) (by rw [c5e]; rfl) (by decide) ?_
        have h17 : IV 5 5 p1 := ⟨by omega, by omega⟩
        refine lv_aload_n hx hb dX11_buyer_109 rfl (lv_at hl 0 rfl) ?_
        refine va_get (D := D) (ci := 11) (v := .ref a_pairs) (C := RX11) (T := TX11) (N := 17) hx hb hT i_X11 hown hK hP 0 rfl rfl 13 (by decide) (hT _ q_10) (fun _ h9 => h9) rfl dX11_buyer_110 ?_
        refine lv_aload_n hx hb dX11_buyer_113 rfl (lv_at hl 0 rfl) ?_
        refine va_get (D := D) (ci := 11) (v := .ref a_scene) (C := RX11) (T := TX11) (N := 17) hx hb hT i_X11 hown hK hP 0 rfl rfl 6 (by decide) (hT _ q_5) (fun _ h9 => h9) rfl dX11_buyer_114 ?_
        refine va_get (D := D) (ci := 6) (v := .ref a_scene_has) (C := RX6) (T := TX6) (N := 6) hx hb hT i_X6 hown hK hP 2 rfl rfl 4 (by decide) (hT _ q_24) (fun _ h9 => h9) rfl dX11_buyer_117 ?_
        refine lv_iload_n hx hb dX11_buyer_120 rfl (lv_at hl 1 rfl) ?_
        refine va_iald hx hb hK hP 5 0 rfl rfl (iv_v h4 (by decide) (by decide)) dX11_buyer_121 ?_
        refine lv_topi (fun v18 ev18 => ?_)
        have hFc := va_free (wc := [(a_pairs, .inr (3, [.ref a_told, .ref a_pairs_known])), (a_pairs_known, .inl (cs 0, 4096, .inl a_pairs_known_c)), (a_told, .inr (8, [.int a_told__stalls, .int a_told__shift, .int a_told__halves, .int a_told__buyers, .int a_told__near, .int a_told__dusk, .int a_told__duskPrice, .int a_told__hear, .int a_told__forged, .ref a_told_stall, .ref a_told_shape, .ref a_told_side, .ref a_told_price, .ref a_told_purse, .ref a_told_spot, .ref a_told_club, .ref a_told_fitting, .ref a_told_nearly])), (a_told_fitting, .inl (cs 0, 12, .inl a_told_fitting_c)), (a_told_nearly, .inl (cs 0, 12, .inl a_told_nearly_c))]) hD hS hA [8,9,1,10,11] rfl
        refine va_calli (va_runV (As := [.int v18]) (rest := []) ⟨hx, hb, hml, hown, hT⟩ (c_X3_mostOf l D cs kK kV a_pairs v18 a_told a_pairs_known a_pairs_known_c a_told__stalls a_told__shift a_told__halves a_told__buyers a_told__near a_told__dusk a_told__duskPrice a_told__hear a_told__forged a_told_stall a_told_shape a_told_side a_told_price a_told_purse a_told_spot a_told_club a_told_fitting a_told_nearly a_told_fitting_c a_told_nearly_c H.size) (cwV 1 hT (hz_gV q_274 q_275 q_276 q_236 q_277) rfl rfl rfl (by decide +kernel) ⟨(Nat.le_of_ble_eq_true rfl), (Nat.le_of_ble_eq_true rfl)⟩) ⟨hz_C.blind, va_recv hK hP (ci := 3) (q0 := 8) rfl rfl, hz_C.mk (hP.sub (ws' := [(a_pairs, .inr (3, [.ref a_told, .ref a_pairs_known])), (a_pairs_known, .inl (cs 0, 4096, .inl a_pairs_known_c)), (a_told, .inr (8, [.int a_told__stalls, .int a_told__shift, .int a_told__halves, .int a_told__buyers, .int a_told__near, .int a_told__dusk, .int a_told__duskPrice, .int a_told__hear, .int a_told__forged, .ref a_told_stall, .ref a_told_shape, .ref a_told_side, .ref a_told_price, .ref a_told_purse, .ref a_told_spot, .ref a_told_club, .ref a_told_fitting, .ref a_told_nearly])), (a_told_fitting, .inl (cs 0, 12, .inl a_told_fitting_c)), (a_told_nearly, .inl (cs 0, 12, .inl a_told_nearly_c))]) [8,9,1,10,11] rfl) (hD.sub (ws' := [(a_pairs, .inr (3, [.ref a_told, .ref a_pairs_known])), (a_pairs_known, .inl (cs 0, 4096, .inl a_pairs_known_c)), (a_told, .inr (8, [.int a_told__stalls, .int a_told__shift, .int a_told__halves, .int a_told__buyers, .int a_told__near, .int a_told__dusk, .int a_told__duskPrice, .int a_told__hear, .int a_told__forged, .ref a_told_stall, .ref a_told_shape, .ref a_told_side, .ref a_told_price, .ref a_told_purse, .ref a_told_spot, .ref a_told_club, .ref a_told_fitting, .ref a_told_nearly])), (a_told_fitting, .inl (cs 0, 12, .inl a_told_fitting_c)), (a_told_nearly, .inl (cs 0, 12, .inl a_told_nearly_c))]) [8,9,1,10,11] (by decide) rfl) hE hS hFc⟩ rfl rfl hl.1 rfl (lv_room (Nat.le_of_ble_eq_true rfl)) dX11_buyer_122 ⟨(Nat.le_of_ble_eq_true rfl), (Nat.le_of_ble_eq_true rfl)⟩) hS (fun q _ h => hFc q h) hFc (fun r19 u t H1 locs ht hvm hw hB hz1 hk1 hS => ?_)
        obtain ⟨o20, hP1, hD1⟩ := hB
        rw [ht] at hP1
        obtain ⟨hP, hD⟩ := va_join (wr := [(a, .inr (11, [.ref a_tape, .ref a_fairReader, .ref a_ruleReader, .ref a_rules, .int a__ruleCount, .ref a_told, .ref a_scene, .ref a_spare, .ref a_past, .int a__pastFirst, .int a__pastCount, .ref a_trials, .ref a_images, .ref a_pairs, .ref a_walker, .ref a_market, .int a__x])), (a_scene, .inr (6, [.int a_scene__hour, .ref a_scene_purse, .ref a_scene_spot, .ref a_scene_seen, .ref a_scene_has, .ref a_scene_at])), (a_scene_purse, .inl (cs 0, 4, .inl a_scene_purse_c)), (a_scene_spot, .inl (cs 0, 4, .inl a_scene_spot_c)), (a_scene_has, .inl (cs 0, 4, .inl a_scene_has_c)), (a_told_club, .inl (cs 0, 4, .inl a_told_club_c)), (a_scene_seen, .inl (cs 0, 4, .inl a_scene_seen_c))]) (w1 := [(a_pairs, .inr (3, [.ref a_told, .ref a_pairs_known])), (a_pairs_known, .inl (cs 0, 4096, .inl o20)), (a_told, .inr (8, [.int a_told__stalls, .int a_told__shift, .int a_told__halves, .int a_told__buyers, .int a_told__near, .int a_told__dusk, .int a_told__duskPrice, .int a_told__hear, .int a_told__forged, .ref a_told_stall, .ref a_told_shape, .ref a_told_side, .ref a_told_price, .ref a_told_purse, .ref a_told_spot, .ref a_told_club, .ref a_told_fitting, .ref a_told_nearly])), (a_told_fitting, .inl (cs 0, 12, .inl a_told_fitting_c)), (a_told_nearly, .inl (cs 0, 12, .inl a_told_nearly_c))]) hP hD [8, 9, 1, 10, 11] [0, 2, 3, 4, 5, 6, 7] rfl rfl (by decide) (by decide) hk1 hFc hP1 hD1
        generalize H1 = H at hP hS ⊢
        have hP : va_P D classes [(a, .inr (11, [.ref a_tape, .ref a_fairReader, .ref a_ruleReader, .ref a_rules, .int a__ruleCount, .ref a_told, .ref a_scene, .ref a_spare, .ref a_past, .int a__pastFirst, .int a__pastCount, .ref a_trials, .ref a_images, .ref a_pairs, .ref a_walker, .ref a_market, .int a__x])), (a_scene, .inr (6, [.int a_scene__hour, .ref a_scene_purse, .ref a_scene_spot, .ref a_scene_seen, .ref a_scene_has, .ref a_scene_at])), (a_scene_purse, .inl (cs 0, 4, .inl a_scene_purse_c)), (a_scene_spot, .inl (cs 0, 4, .inl a_scene_spot_c)), (a_scene_has, .inl (cs 0, 4, .inl a_scene_has_c)), (a_told_club, .inl (cs 0, 4, .inl a_told_club_c)), (a_scene_seen, .inl (cs 0, 4, .inl a_scene_seen_c)), (a_pairs, .inr (3, [.ref a_told, .ref a_pairs_known])), (a_pairs_known, .inl (cs 0, 4096, .inl o20)), (a_told, .inr (8, [.int a_told__stalls, .int a_told__shift, .int a_told__halves, .int a_told__buyers, .int a_told__near, .int a_told__dusk, .int a_told__duskPrice, .int a_told__hear, .int a_told__forged, .ref a_told_stall, .ref a_told_shape, .ref a_told_side, .ref a_told_price, .ref a_told_purse, .ref a_told_spot, .ref a_told_club, .ref a_told_fitting, .ref a_told_nearly])), (a_told_fitting, .inl (cs 0, 12, .inl a_told_fitting_c)), (a_told_nearly, .inl (cs 0, 12, .inl a_told_nearly_c))] H := hP
        have hD : va_D A [(a, .inr (11, [.ref a_tape, .ref a_fairReader, .ref a_ruleReader, .ref a_rules, .int a__ruleCount, .ref a_told, .ref a_scene, .ref a_spare, .ref a_past, .int a__pastFirst, .int a__pastCount, .ref a_trials, .ref a_images, .ref a_pairs, .ref a_walker, .ref a_market, .int a__x])), (a_scene, .inr (6, [.int a_scene__hour, .ref a_scene_purse, .ref a_scene_spot, .ref a_scene_seen, .ref a_scene_has, .ref a_scene_at])), (a_scene_purse, .inl (cs 0, 4, .inl a_scene_purse_c)), (a_scene_spot, .inl (cs 0, 4, .inl a_scene_spot_c)), (a_scene_has, .inl (cs 0, 4, .inl a_scene_has_c)), (a_told_club, .inl (cs 0, 4, .inl a_told_club_c)), (a_scene_seen, .inl (cs 0, 4, .inl a_scene_seen_c)), (a_pairs, .inr (3, [.ref a_told, .ref a_pairs_known])), (a_pairs_known, .inl (cs 0, 4096, .inl o20)), (a_told, .inr (8, [.int a_told__stalls, .int a_told__shift, .int a_told__halves, .int a_told__buyers, .int a_told__near, .int a_told__dusk, .int a_told__duskPrice, .int a_told__hear, .int a_told__forged, .ref a_told_stall, .ref a_told_shape, .ref a_told_side, .ref a_told_price, .ref a_told_purse, .ref a_told_spot, .ref a_told_club, .ref a_told_fitting, .ref a_told_nearly])), (a_told_fitting, .inl (cs 0, 12, .inl a_told_fitting_c)), (a_told_nearly, .inl (cs 0, 12, .inl a_told_nearly_c))] := hD
        clear hk1 hFc hP1 hD1 hz1
        refine W.widen (k := 0) (n := 0) (Nat.le_of_ble_eq_true rfl) (Nat.le_of_ble_eq_true rfl) ?_
        exact W.iret (v := r19) hx hb hr (fun t ht hW => ⟨⟨r19, (), rfl, (Or.inr ((⟨h3, h4, (iv_w h17 (by decide) (by decide))⟩))), o20, by rw [ht]; exact hP.sub [0, 9, 1, 2, 3, 4, 5, 6, 7, 8, 10, 11] rfl, hD.sub [0, 9, 1, 2, 3, 4, 5, 6, 7, 8, 10, 11] (by decide) rfl⟩, hS.F ht⟩) hS.2.2 dX11_buyer_125
theorem dX11_worth_0 : decode cX11_worth 0 = .ok (.aload_n 0, 1) := by decide +kernel
theorem dX11_worth_1 : decode cX11_worth 1 = .ok (.iload_n 1, 1) := by decide +kernel
theorem dX11_worth_2 : decode cX11_worth 2 = .ok (.invokevirtual 246, 3) := by decide +kernel
theorem dX11_worth_5 : decode cX11_worth 5 = .ok (.ifCond .eq 14, 3) := by decide +kernel
theorem dX11_worth_8 : decode cX11_worth 8 = .ok (.aload_n 0, 1) := by decide +kernel
theorem dX11_worth_9 : decode cX11_worth 9 = .ok (.getfield 73, 3) := by decide +kernel
theorem dX11_worth_12 : decode cX11_worth 12 = .ok (.iload_n 1, 1) := by decide +kernel
theorem dX11_worth_13 : decode cX11_worth 13 = .ok (.invokevirtual 175, 3) := by decide +kernel
theorem dX11_worth_16 : decode cX11_worth 16 = .ok (.goto 4, 3) := by decide +kernel
theorem dX11_worth_19 : decode cX11_worth 19 = .ok (.iconst (-1), 1) := by decide +kernel
theorem dX11_worth_20 : decode cX11_worth 20 = .ok (.ireturn, 1) := by decide +kernel
set_option maxHeartbeats 4000000 in
set_option maxRecDepth 100000 in
theorem c_X11_worth (l : Launch) (D : va_G) (cs : Nat → ClassId) (kK kV : Nat → Nat) (a : Nat) (p0 : Int32) (a_tape : Nat) (a_fairReader : Nat) (a_ruleReader : Nat) (a_rules : Nat) (a__ruleCount : Int32) (a_told : Nat) (a_scene : Nat) (a_spare : Nat) (a_past : Nat) (a__pastFirst : Int32) (a__pastCount : Int32) (a_trials : Nat) (a_images : Nat) (a_pairs : Nat) (a_walker : Nat) (a_market : Nat) (a__x : Int32) (a_told__stalls : Int32) (a_told__shift : Int32) (a_told__halves : Int32) (a_told__buyers : Int32) (a_told__near : Int32) (a_told__dusk : Int32) (a_told__duskPrice : Int32) (a_told__hear : Int32) (a_told__forged : Int32) (a_told_stall : Nat) (a_told_shape : Nat) (a_told_side : Nat) (a_told_price : Nat) (a_told_purse : Nat) (a_told_spot : Nat) (a_told_club : Nat) (a_told_fitting : Nat) (a_told_nearly : Nat) (a_pairs_known : Nat) (a_pairs_known_c : Nat → Int32) (a_told_fitting_c : Nat → Int32) (a_told_nearly_c : Nat → Int32) (h_a_told__stalls : IV 0 8 a_told__stalls) (h_a_told__halves : IV 0 12 a_told__halves) (sz : Nat) : Met l yX11_worth (hz_w yX11_worth cX11_worth 2 (some .int)) ({ frames := 15, cells := 0, slots := 0, locals := 399 }) (va_Pc [.ref a, .int p0] (hz_C D cs kK kV sz [(a, .inr (11, [.ref a_tape, .ref a_fairReader, .ref a_ruleReader, .ref a_rules, .int a__ruleCount, .ref a_told, .ref a_scene, .ref a_spare, .ref a_past, .int a__pastFirst, .int a__pastCount, .ref a_trials, .ref a_images, .ref a_pairs, .ref a_walker, .ref a_market, .int a__x])), (a_told, .inr (8, [.int a_told__stalls, .int a_told__shift, .int a_told__halves, .int a_told__buyers, .int a_told__near, .int a_told__dusk, .int a_told__duskPrice, .int a_told__hear, .int a_told__forged, .ref a_told_stall, .ref a_told_shape, .ref a_told_side, .ref a_told_price, .ref a_told_purse, .ref a_told_spot, .ref a_told_club, .ref a_told_fitting, .ref a_told_nearly])), (a_pairs, .inr (3, [.ref a_told, .ref a_pairs_known])), (a_pairs_known, .inl (cs 0, 4096, .inl a_pairs_known_c)), (a_told_fitting, .inl (cs 0, 12, .inl a_told_fitting_c)), (a_told_nearly, .inl (cs 0, 12, .inl a_told_nearly_c))])) (va_Qi (fun (r : Int32) (_ : Unit) => (r = (-1)) ∨ (IV 1 8 a_told__stalls ∧ IV 0 4095 p0)) (fun _ t => ∃ (o_a_pairs_known_c : Nat → Int32), va_P D classes [(a, .inr (11, [.ref a_tape, .ref a_fairReader, .ref a_ruleReader, .ref a_rules, .int a__ruleCount, .ref a_told, .ref a_scene, .ref a_spare, .ref a_past, .int a__pastFirst, .int a__pastCount, .ref a_trials, .ref a_images, .ref a_pairs, .ref a_walker, .ref a_market, .int a__x])), (a_told, .inr (8, [.int a_told__stalls, .int a_told__shift, .int a_told__halves, .int a_told__buyers, .int a_told__near, .int a_told__dusk, .int a_told__duskPrice, .int a_told__hear, .int a_told__forged, .ref a_told_stall, .ref a_told_shape, .ref a_told_side, .ref a_told_price, .ref a_told_purse, .ref a_told_spot, .ref a_told_club, .ref a_told_fitting, .ref a_told_nearly])), (a_pairs, .inr (3, [.ref a_told, .ref a_pairs_known])), (a_pairs_known, .inl (cs 0, 4096, .inl o_a_pairs_known_c)), (a_told_fitting, .inl (cs 0, 12, .inl a_told_fitting_c)), (a_told_nearly, .inl (cs 0, 12, .inl a_told_nearly_c))] t.heap ∧ va_D (va_A [(a, .inr (11, [.ref a_tape, .ref a_fairReader, .ref a_ruleReader, .ref a_rules, .int a__ruleCount, .ref a_told, .ref a_scene, .ref a_spare, .ref a_past, .int a__pastFirst, .int a__pastCount, .ref a_trials, .ref a_images, .ref a_pairs, .ref a_walker, .ref a_market, .int a__x])), (a_told, .inr (8, [.int a_told__stalls, .int a_told__shift, .int a_told__halves, .int a_told__buyers, .int a_told__near, .int a_told__dusk, .int a_told__duskPrice, .int a_told__hear, .int a_told__forged, .ref a_told_stall, .ref a_told_shape, .ref a_told_side, .ref a_told_price, .ref a_told_purse, .ref a_told_spot, .ref a_told_club, .ref a_told_fitting, .ref a_told_nearly])), (a_pairs, .inr (3, [.ref a_told, .ref a_pairs_known])), (a_pairs_known, .inl (cs 0, 4096, .inl a_pairs_known_c)), (a_told_fitting, .inl (cs 0, 12, .inl a_told_fitting_c)), (a_told_nearly, .inl (cs 0, 12, .inl a_told_nearly_c))] sz) [(a, .inr (11, [.ref a_tape, .ref a_fairReader, .ref a_ruleReader, .ref a_rules, .int a__ruleCount, .ref a_told, .ref a_scene, .ref a_spare, .ref a_past, .int a__pastFirst, .int a__pastCount, .ref a_trials, .ref a_images, .ref a_pairs, .ref a_walker, .ref a_market, .int a__x])), (a_told, .inr (8, [.int a_told__stalls, .int a_told__shift, .int a_told__halves, .int a_told__buyers, .int a_told__near, .int a_told__dusk, .int a_told__duskPrice, .int a_told__hear, .int a_told__forged, .ref a_told_stall, .ref a_told_shape, .ref a_told_side, .ref a_told_price, .ref a_told_purse, .ref a_told_spot, .ref a_told_club, .ref a_told_fitting, .ref a_told_nearly])), (a_pairs, .inr (3, [.ref a_told, .ref a_pairs_known])), (a_pairs_known, .inl (cs 0, 4096, .inl o_a_pairs_known_c)), (a_told_fitting, .inl (cs 0, 12, .inl a_told_fitting_c)), (a_told_nearly, .inl (cs 0, 12, .inl a_told_nearly_c))]) (va_A [(a, .inr (11, [.ref a_tape, .ref a_fairReader, .ref a_ruleReader, .ref a_rules, .int a__ruleCount, .ref a_told, .ref a_scene, .ref a_spare, .ref a_past, .int a__pastFirst, .int a__pastCount, .ref a_trials, .ref a_images, .ref a_pairs, .ref a_walker, .ref a_market, .int a__x])), (a_told, .inr (8, [.int a_told__stalls, .int a_told__shift, .int a_told__halves, .int a_told__buyers, .int a_told__near, .int a_told__dusk, .int a_told__duskPrice, .int a_told__hear, .int a_told__forged, .ref a_told_stall, .ref a_told_shape, .ref a_told_side, .ref a_told_price, .ref a_told_purse, .ref a_told_spot, .ref a_told_club, .ref a_told_fitting, .ref a_told_nearly])), (a_pairs, .inr (3, [.ref a_told, .ref a_pairs_known])), (a_pairs_known, .inl (cs 0, 4096, .inl a_pairs_known_c)), (a_told_fitting, .inl (cs 0, 12, .inl a_told_fitting_c)), (a_told_nearly, .inl (cs 0, 12, .inl a_told_nearly_c))] sz)) 0 0 (va_A [(a, .inr (11, [.ref a_tape, .ref a_fairReader, .ref a_ruleReader, .ref a_rules, .int a__ruleCount, .ref a_told, .ref a_scene, .ref a_spare, .ref a_past, .int a__pastFirst, .int a__pastCount, .ref a_trials, .ref a_images, .ref a_pairs, .ref a_walker, .ref a_market, .int a__x])), (a_told, .inr (8, [.int a_told__stalls, .int a_told__shift, .int a_told__halves, .int a_told__buyers, .int a_told__near, .int a_told__dusk, .int a_told__duskPrice, .int a_told__hear, .int a_told__forged, .ref a_told_stall, .ref a_told_shape, .ref a_told_side, .ref a_told_price, .ref a_told_purse, .ref a_told_spot, .ref a_told_club, .ref a_told_fitting, .ref a_told_nearly])), (a_pairs, .inr (3, [.ref a_told, .ref a_pairs_known])), (a_pairs_known, .inl (cs 0, 4096, .inl a_pairs_known_c)), (a_told_fitting, .inl (cs 0, 12, .inl a_told_fitting_c)), (a_told_nearly, .inl (cs 0, 12, .inl a_told_nearly_c))] sz) := by
  refine Met.ofW (cc := cX11_worth) (maxL := 2) (ret := (some .int)) (by decide) rfl ?_
  intro p e s m args below meth c s₁ B hml hv
  obtain ⟨rfl, hsz, hP, hD0, hE⟩ := hv
  have hx := B.exec
  have hb := B.bytes
  have hr := B.returns
  have hT : ∀ w ∈ TB, w.before _ s = true := fun w h => atoms_spec (ws := hz_w yX11_worth cX11_worth 2 (some .int)) B.pre w (List.mem_cons_of_mem _ h)
  have hown : s.vm.findClass RX11 = some m.cls := findClass_of_methodNamed B.named
  have hlocks := B.notSynchronized
  clear B
  subst hsz
  have hD := hD0.self (sz := s.heap.size)
  generalize hAe : va_A [(a, .inr (11, [.ref a_tape, .ref a_fairReader, .ref a_ruleReader, .ref a_rules, .int a__ruleCount, .ref a_told, .ref a_scene, .ref a_spare, .ref a_past, .int a__pastFirst, .int a__pastCount, .ref a_trials, .ref a_images, .ref a_pairs, .ref a_walker, .ref a_market, .int a__x])), (a_told, .inr (8, [.int a_told__stalls, .int a_told__shift, .int a_told__halves, .int a_told__buyers, .int a_told__near, .int a_told__dusk, .int a_told__duskPrice, .int a_told__hear, .int a_told__forged, .ref a_told_stall, .ref a_told_shape, .ref a_told_side, .ref a_told_price, .ref a_told_purse, .ref a_told_spot, .ref a_told_club, .ref a_told_fitting, .ref a_told_nearly])), (a_pairs, .inr (3, [.ref a_told, .ref a_pairs_known])), (a_pairs_known, .inl (cs 0, 4096, .inl a_pairs_known_c)), (a_told_fitting, .inl (cs 0, 12, .inl a_told_fitting_c)), (a_told_nearly, .inl (cs 0, 12, .inl a_told_nearly_c))] s.heap.size = A at hD hE ⊢
  have hA : ∀ q : Nat, s.heap.size ≤ q → A q := fun q h => by rw [← hAe]; exact Or.inr h
  clear hAe hD0
  have hS : va_S A s.heap s.heap [] := va_S.rf
  have hK := hE.1
  have hl := lv_entry ([.ref a, .int p0]) (n := 2) (Nat.le_of_ble_eq_true rfl)
  rw [lg_entry_eq]
  generalize (lg_sl ([.ref a, .int p0]) ++ List.replicate (2 - (lg_sl ([.ref a, .int p0])).length) Slot.unset).toArray = ls at hl ⊢
  have hl : lv_has ls 2 [(0, .ref a), (1, .int p0)] := hl
  obtain ⟨H, eH⟩ : ∃ z, z = s.heap := ⟨_, rfl⟩
  have hP : va_P D classes [(a, .inr (11, [.ref a_tape, .ref a_fairReader, .ref a_ruleReader, .ref a_rules, .int a__ruleCount, .ref a_told, .ref a_scene, .ref a_spare, .ref a_past, .int a__pastFirst, .int a__pastCount, .ref a_trials, .ref a_images, .ref a_pairs, .ref a_walker, .ref a_market, .int a__x])), (a_told, .inr (8, [.int a_told__stalls, .int a_told__shift, .int a_told__halves, .int a_told__buyers, .int a_told__near, .int a_told__dusk, .int a_told__duskPrice, .int a_told__hear, .int a_told__forged, .ref a_told_stall, .ref a_told_shape, .ref a_told_side, .ref a_told_price, .ref a_told_purse, .ref a_told_spot, .ref a_told_club, .ref a_told_fitting, .ref a_told_nearly])), (a_pairs, .inr (3, [.ref a_told, .ref a_pairs_known])), (a_pairs_known, .inl (cs 0, 4096, .inl a_pairs_known_c)), (a_told_fitting, .inl (cs 0, 12, .inl a_told_fitting_c)), (a_told_nearly, .inl (cs 0, 12, .inl a_told_nearly_c))] H := by rw [eH]; exact hP
  have hS : va_S A s.heap H [] := by rw [eH]; exact hS
  rw [← eH]
  clear eH
  obtain ⟨locs, el⟩ : ∃ z : List Loc, z = [] := ⟨_, rfl⟩
  rw [← el] at hS ⊢
  clear el
  refine lv_aload_n hx hb dX11_worth_0 rfl (lv_at hl 0 rfl) ?_
  refine lv_iload_n hx hb dX11_worth_1 rfl (lv_at hl 1 rfl) ?_
  refine va_calli (va_runV (As := [.int p0]) (rest := []) ⟨hx, hb, hml, hown, hT⟩ (c_X11_isSet l D cs kK kV a p0 a_tape a_fairReader a_ruleReader a_rules a__ruleCount a_told a_scene a_spare a_past a__pastFirst a__pastCount a_trials a_images a_pairs a_walker a_market a__x a_told__stalls a_told__shift a_told__halves a_told__buyers a_told__near a_told__dusk a_told__duskPrice a_told__hear a_told__forged a_told_stall a_told_shape a_told_side a_told_price a_told_purse a_told_spot a_told_club a_told_fitting a_told_nearly h_a_told__stalls h_a_told__halves) (cwV 1 hT (hz_gV q_339 q_340 q_341 q_241 q_342) rfl rfl rfl (by decide +kernel) ⟨(Nat.le_of_ble_eq_true rfl), (Nat.le_of_ble_eq_true rfl)⟩) ⟨hz_P.blind, va_recv hK hP (ci := 11) (q0 := 0) rfl rfl, hz_P.mk (hP.sub (ws' := [(a, .inr (11, [.ref a_tape, .ref a_fairReader, .ref a_ruleReader, .ref a_rules, .int a__ruleCount, .ref a_told, .ref a_scene, .ref a_spare, .ref a_past, .int a__pastFirst, .int a__pastCount, .ref a_trials, .ref a_images, .ref a_pairs, .ref a_walker, .ref a_market, .int a__x])), (a_told, .inr (8, [.int a_told__stalls, .int a_told__shift, .int a_told__halves, .int a_told__buyers, .int a_told__near, .int a_told__dusk, .int a_told__duskPrice, .int a_told__hear, .int a_told__forged, .ref a_told_stall, .ref a_told_shape, .ref a_told_side, .ref a_told_price, .ref a_told_purse, .ref a_told_spot, .ref a_told_club, .ref a_told_fitting, .ref a_told_nearly]))]) [0,1] rfl) hE hS⟩ rfl rfl hl.1 rfl (lv_room (Nat.le_of_ble_eq_true rfl)) dX11_worth_2 ⟨(Nat.le_of_ble_eq_true rfl), (Nat.le_of_ble_eq_true rfl)⟩) hS (fun _ _ h => h.elim) (fun _ h => h.elim) (fun r1 u t H1 locs ht hvm hw hB hz1 hk1 hS => ?_)
  have hP := hz_keep hP hk1
  clear hk1 hB hz1
  generalize H1 = H at hP hS ⊢
  rcases hw with rfl | ⟨rfl, h2, h3⟩
  · refine lv_if_eq (tgt := 19) hx hb dX11_worth_5 (by decide) (fun _ => ?_) (fun z => absurd (by decide) z)
    refine lv_iconst (v := (-1)) hx hb dX11_worth_19 (by decide) ?_
    refine W.widen (k := 0) (n := 0) (Nat.le_of_ble_eq_true rfl) (Nat.le_of_ble_eq_true rfl) ?_
    exact W.iret (v := (-1)) hx hb hr (fun t ht hW => ⟨⟨(-1), (), rfl, (Or.inl (rfl)), a_pairs_known_c, by rw [ht]; exact hP.sub [0, 1, 2, 3, 4, 5] rfl, hD.sub [0, 1, 2, 3, 4, 5] (by decide) rfl⟩, hS.F ht⟩) hS.2.2 dX11_worth_20
  · refine lv_if_eq (tgt := 19) hx hb dX11_worth_5 (by decide) (fun z => absurd z (by decide)) (fun _ => ?_)
    refine lv_aload_n hx hb dX11_worth_8 rfl (lv_at hl 0 rfl) ?_
    refine va_get (D := D) (ci := 11) (v := .ref a_pairs) (C := RX11) (T := TX11) (N := 17) hx hb hT i_X11 hown hK hP 0 rfl rfl 13 (by decide) (hT _ q_10) (fun _ h9 => h9) rfl dX11_worth_9 ?_
    refine lv_iload_n hx hb dX11_worth_12 rfl (lv_at hl 1 rfl) ?_
    have hFc := va_free (wc := [(a_pairs, .inr (3, [.ref a_told, .ref a_pairs_known])), (a_pairs_known, .inl (cs 0, 4096, .inl a_pairs_known_c)), (a_told, .inr (8, [.int a_told__stalls, .int a_told__shift, .int a_told__halves, .int a_told__buyers, .int a_told__near, .int a_told__dusk, .int a_told__duskPrice, .int a_told__hear, .int a_told__forged, .ref a_told_stall, .ref a_told_shape, .ref a_told_side, .ref a_told_price, .ref a_told_purse, .ref a_told_spot, .ref a_told_club, .ref a_told_fitting, .ref a_told_nearly])), (a_told_fitting, .inl (cs 0, 12, .inl a_told_fitting_c)), (a_told_nearly, .inl (cs 0, 12, .inl a_told_nearly_c))]) hD hS hA [2,3,1,4,5] rfl
    refine va_calli (va_runV (As := [.int p0]) (rest := []) ⟨hx, hb, hml, hown, hT⟩ (c_X3_mostOf l D cs kK kV a_pairs p0 a_told a_pairs_known a_pairs_known_c a_told__stalls a_told__shift a_told__halves a_told__buyers a_told__near a_told__dusk a_told__duskPrice a_told__hear a_told__forged a_told_stall a_told_shape a_told_side a_told_price a_told_purse a_told_spot a_told_club a_told_fitting a_told_nearly a_told_fitting_c a_told_nearly_c H.size) (cwV 1 hT (hz_gV q_274 q_275 q_276 q_236 q_277) rfl rfl rfl (by decide +kernel) ⟨(Nat.le_of_ble_eq_true rfl), (Nat.le_of_ble_eq_true rfl)⟩) ⟨hz_C.blind, va_recv hK hP (ci := 3) (q0 := 2) rfl rfl, hz_C.mk (hP.sub (ws' := [(a_pairs, .inr (3, [.ref a_told, .ref a_pairs_known])), (a_pairs_known, .inl (cs 0, 4096, .inl a_pairs_known_c)), (a_told, .inr (8, [.int a_told__stalls, .int a_told__shift, .int a_told__halves, .int a_told__buyers, .int a_told__near, .int a_told__dusk, .int a_told__duskPrice, .int a_told__hear, .int a_told__forged, .ref a_told_stall, .ref a_told_shape, .ref a_told_side, .ref a_told_price, .ref a_told_purse, .ref a_told_spot, .ref a_told_club, .ref a_told_fitting, .ref a_told_nearly])), (a_told_fitting, .inl (cs 0, 12, .inl a_told_fitting_c)), (a_told_nearly, .inl (cs 0, 12, .inl a_told_nearly_c))]) [2,3,1,4,5] rfl) (hD.sub (ws' := [(a_pairs, .inr (3, [.ref a_told, .ref a_pairs_known])), (a_pairs_known, .inl (cs 0, 4096, .inl a_pairs_known_c)), (a_told, .inr (8, [.int a_told__stalls, .int a_told__shift, .int a_told__halves, .int a_told__buyers, .int a_told__near, .int a_told__dusk, .int a_told__duskPrice, .int a_told__hear, .int a_told__forged, .ref a_told_stall, .ref a_told_shape, .ref a_told_side, .ref a_told_price, .ref a_told_purse, .ref a_told_spot, .ref a_told_club, .ref a_told_fitting, .ref a_told_nearly])), (a_told_fitting, .inl (cs 0, 12, .inl a_told_fitting_c)), (a_told_nearly, .inl (cs 0, 12, .inl a_told_nearly_c))]) [2,3,1,4,5] (by decide) rfl) hE hS hFc⟩ rfl rfl hl.1 rfl (lv_room (Nat.le_of_ble_eq_true rfl)) dX11_worth_13 ⟨(Nat.le_of_ble_eq_true rfl), (Nat.le_of_ble_eq_true rfl)⟩) hS (fun q _ h => hFc q h) hFc (fun r4 u t H1 locs ht hvm hw hB hz1 hk1 hS => ?_)
    obtain ⟨o5, hP1, hD1⟩ := hB
    rw [ht] at hP1
    obtain ⟨hP, hD⟩ := va_join (wr := [(a, .inr (11, [.ref a_tape, .ref a_fairReader, .ref a_ruleReader, .ref a_rules, .int a__ruleCount, .ref a_told, .ref a_scene, .ref a_spare, .ref a_past, .int a__pastFirst, .int a__pastCount, .ref a_trials, .ref a_images, .ref a_pairs, .ref a_walker, .ref a_market, .int a__x]))]) (w1 := [(a_pairs, .inr (3, [.ref a_told, .ref a_pairs_known])), (a_pairs_known, .inl (cs 0, 4096, .inl o5)), (a_told, .inr (8, [.int a_told__stalls, .int a_told__shift, .int a_told__halves, .int a_told__buyers, .int a_told__near, .int a_told__dusk, .int a_told__duskPrice, .int a_told__hear, .int a_told__forged, .ref a_told_stall, .ref a_told_shape, .ref a_told_side, .ref a_told_price, .ref a_told_purse, .ref a_told_spot, .ref a_told_club, .ref a_told_fitting, .ref a_told_nearly])), (a_told_fitting, .inl (cs 0, 12, .inl a_told_fitting_c)), (a_told_nearly, .inl (cs 0, 12, .inl a_told_nearly_c))]) hP hD [2, 3, 1, 4, 5] [0] rfl rfl (by decide) (by decide) hk1 hFc hP1 hD1
    generalize H1 = H at hP hS ⊢
    have hP : va_P D classes [(a, .inr (11, [.ref a_tape, .ref a_fairReader, .ref a_ruleReader, .ref a_rules, .int a__ruleCount, .ref a_told, .ref a_scene, .ref a_spare, .ref a_past, .int a__pastFirst, .int a__pastCount, .ref a_trials, .ref a_images, .ref a_pairs, .ref a_walker, .ref a_market, .int a__x])), (a_pairs, .inr (3, [.ref a_told, .ref a_pairs_known])), (a_pairs_known, .inl (cs 0, 4096, .inl o5)), (a_told, .inr (8, [.int a_told__stalls, .int a_told__shift, .int a_told__halves, .int a_told__buyers, .int a_told__near, .int a_told__dusk, .int a_told__duskPrice, .int a_told__hear, .int a_told__forged, .ref a_told_stall, .ref a_told_shape, .ref a_told_side, .ref a_told_price, .ref a_told_purse, .ref a_told_spot, .ref a_told_club, .ref a_told_fitting, .ref a_told_nearly])), (a_told_fitting, .inl (cs 0, 12, .inl a_told_fitting_c)), (a_told_nearly, .inl (cs 0, 12, .inl a_told_nearly_c))] H := hP
    have hD : va_D A [(a, .inr (11, [.ref a_tape, .ref a_fairReader, .ref a_ruleReader, .ref a_rules, .int a__ruleCount, .ref a_told, .ref a_scene, .ref a_spare, .ref a_past, .int a__pastFirst, .int a__pastCount, .ref a_trials, .ref a_images, .ref a_pairs, .ref a_walker, .ref a_market, .int a__x])), (a_pairs, .inr (3, [.ref a_told, .ref a_pairs_known])), (a_pairs_known, .inl (cs 0, 4096, .inl o5)), (a_told, .inr (8, [.int a_told__stalls, .int a_told__shift, .int a_told__halves, .int a_told__buyers, .int a_told__near, .int a_told__dusk, .int a_told__duskPrice, .int a_told__hear, .int a_told__forged, .ref a_told_stall, .ref a_told_shape, .ref a_told_side, .ref a_told_price, .ref a_told_purse, .ref a_told_spot, .ref a_told_club, .ref a_told_fitting, .ref a_told_nearly])), (a_told_fitting, .inl (cs 0, 12, .inl a_told_fitting_c)), (a_told_nearly, .inl (cs 0, 12, .inl a_told_nearly_c))] := hD
    clear hk1 hFc hP1 hD1 hz1
    refine lv_goto (tgt := 20) hx hb dX11_worth_16 (by decide) ?_
    refine W.widen (k := 0) (n := 0) (Nat.le_of_ble_eq_true rfl) (Nat.le_of_ble_eq_true rfl) ?_
    exact W.iret (v := r4) hx hb hr (fun t ht hW => ⟨⟨r4, (), rfl, (Or.inr ((⟨h2, h3⟩))), o5, by rw [ht]; exact hP.sub [0, 3, 1, 2, 4, 5] rfl, hD.sub [0, 3, 1, 2, 4, 5] (by decide) rfl⟩, hS.F ht⟩) hS.2.2 dX11_worth_20
theorem dX11_with_0 : decode cX11_with 0 = .ok (.aload_n 0, 1) := by decide +kernel
theorem dX11_with_1 : decode cX11_with 1 = .ok (.iload_n 1, 1) := by decide +kernel
theorem dX11_with_2 : decode cX11_with 2 = .ok (.invokevirtual 246, 3) := by decide +kernel
theorem dX11_with_5 : decode cX11_with 5 = .ok (.ifCond .eq 22, 3) := by decide +kernel
theorem dX11_with_8 : decode cX11_with 8 = .ok (.aload_n 0, 1) := by decide +kernel
theorem dX11_with_9 : decode cX11_with 9 = .ok (.getfield 39, 3) := by decide +kernel
theorem dX11_with_12 : decode cX11_with 12 = .ok (.iload_n 2, 1) := by decide +kernel
theorem dX11_with_13 : decode cX11_with 13 = .ok (.invokevirtual 129, 3) := by decide +kernel
theorem dX11_with_16 : decode cX11_with 16 = .ok (.ifCond .eq 11, 3) := by decide +kernel
theorem dX11_with_19 : decode cX11_with 19 = .ok (.iload_n 1, 1) := by decide +kernel
theorem dX11_with_20 : decode cX11_with 20 = .ok (.iload_n 2, 1) := by decide +kernel
theorem dX11_with_21 : decode cX11_with 21 = .ok (.ishr, 1) := by decide +kernel
theorem dX11_with_22 : decode cX11_with 22 = .ok (.iconst 1, 1) := by decide +kernel
theorem dX11_with_23 : decode cX11_with 23 = .ok (.iand, 1) := by decide +kernel
theorem dX11_with_24 : decode cX11_with 24 = .ok (.ifCond .ne 6, 3) := by decide +kernel
theorem dX11_with_27 : decode cX11_with 27 = .ok (.bipush (-2), 2) := by decide +kernel
theorem dX11_with_29 : decode cX11_with 29 = .ok (.ireturn, 1) := by decide +kernel
theorem dX11_with_30 : decode cX11_with 30 = .ok (.aload_n 0, 1) := by decide +kernel
theorem dX11_with_31 : decode cX11_with 31 = .ok (.getfield 73, 3) := by decide +kernel
theorem dX11_with_34 : decode cX11_with 34 = .ok (.iload_n 2, 1) := by decide +kernel
theorem dX11_with_35 : decode cX11_with 35 = .ok (.iload_n 1, 1) := by decide +kernel
theorem dX11_with_36 : decode cX11_with 36 = .ok (.invokevirtual 249, 3) := by decide +kernel
theorem dX11_with_39 : decode cX11_with 39 = .ok (.ireturn, 1) := by decide +kernel
set_option maxHeartbeats 4000000 in
set_option maxRecDepth 100000 in
theorem c_X11_with (l : Launch) (D : va_G) (cs : Nat → ClassId) (kK kV : Nat → Nat) (a : Nat) (p0 : Int32) (p1 : Int32) (a_tape : Nat) (a_fairReader : Nat) (a_ruleReader : Nat) (a_rules : Nat) (a__ruleCount : Int32) (a_told : Nat) (a_scene : Nat) (a_spare : Nat) (a_past : Nat) (a__pastFirst : Int32) (a__pastCount : Int32) (a_trials : Nat) (a_images : Nat) (a_pairs : Nat) (a_walker : Nat) (a_market : Nat) (a__x : Int32) (a_told__stalls : Int32) (a_told__shift : Int32) (a_told__halves : Int32) (a_told__buyers : Int32) (a_told__near : Int32) (a_told__dusk : Int32) (a_told__duskPrice : Int32) (a_told__hear : Int32) (a_told__forged : Int32) (a_told_stall : Nat) (a_told_shape : Nat) (a_told_side : Nat) (a_told_price : Nat) (a_told_purse : Nat) (a_told_spot : Nat) (a_told_club : Nat) (a_told_fitting : Nat) (a_told_nearly : Nat) (a_pairs_known : Nat) (a_pairs_known_c : Nat → Int32) (a_told_fitting_c : Nat → Int32) (a_told_nearly_c : Nat → Int32) (h_a_told__stalls : IV 0 8 a_told__stalls) (h_a_told__halves : IV 0 12 a_told__halves) (sz : Nat) : Met l yX11_with (hz_w yX11_with cX11_with 3 (some .int)) ({ frames := 17, cells := 0, slots := 0, locals := 450 }) (va_Pc [.ref a, .int p0, .int p1] (hz_C D cs kK kV sz [(a, .inr (11, [.ref a_tape, .ref a_fairReader, .ref a_ruleReader, .ref a_rules, .int a__ruleCount, .ref a_told, .ref a_scene, .ref a_spare, .ref a_past, .int a__pastFirst, .int a__pastCount, .ref a_trials, .ref a_images, .ref a_pairs, .ref a_walker, .ref a_market, .int a__x])), (a_told, .inr (8, [.int a_told__stalls, .int a_told__shift, .int a_told__halves, .int a_told__buyers, .int a_told__near, .int a_told__dusk, .int a_told__duskPrice, .int a_told__hear, .int a_told__forged, .ref a_told_stall, .ref a_told_shape, .ref a_told_side, .ref a_told_price, .ref a_told_purse, .ref a_told_spot, .ref a_told_club, .ref a_told_fitting, .ref a_told_nearly])), (a_pairs, .inr (3, [.ref a_told, .ref a_pairs_known])), (a_pairs_known, .inl (cs 0, 4096, .inl a_pairs_known_c)), (a_told_fitting, .inl (cs 0, 12, .inl a_told_fitting_c)), (a_told_nearly, .inl (cs 0, 12, .inl a_told_nearly_c))])) (va_Qi (fun (r : Int32) (_ : Unit) => (r = (-1) ∧ IV 1 12 a_told__halves ∧ IV 1 8 a_told__stalls ∧ IV 0 4095 p0 ∧ IV 0 11 p1) ∨ (r = (-2)) ∨ (IV (-1) 11 r ∧ IV 1 12 a_told__halves ∧ IV 1 8 a_told__stalls ∧ IV 0 4095 p0 ∧ IV 0 11 p1)) (fun _ t => ∃ (o_a_pairs_known_c : Nat → Int32), va_P D classes [(a, .inr (11, [.ref a_tape, .ref a_fairReader, .ref a_ruleReader, .ref a_rules, .int a__ruleCount, .ref a_told, .ref a_scene, .ref a_spare, .ref a_past, .int a__pastFirst, .int a__pastCount, .ref a_trials, .ref a_images, .ref a_pairs, .ref a_walker, .ref a_market, .int a__x])), (a_told, .inr (8, [.int a_told__stalls, .int a_told__shift, .int a_told__halves, .int a_told__buyers, .int a_told__near, .int a_told__dusk, .int a_told__duskPrice, .int a_told__hear, .int a_told__forged, .ref a_told_stall, .ref a_told_shape, .ref a_told_side, .ref a_told_price, .ref a_told_purse, .ref a_told_spot, .ref a_told_club, .ref a_told_fitting, .ref a_told_nearly])), (a_pairs, .inr (3, [.ref a_told, .ref a_pairs_known])), (a_pairs_known, .inl (cs 0, 4096, .inl o_a_pairs_known_c)), (a_told_fitting, .inl (cs 0, 12, .inl a_told_fitting_c)), (a_told_nearly, .inl (cs 0, 12, .inl a_told_nearly_c))] t.heap ∧ va_D (va_A [(a, .inr (11, [.ref a_tape, .ref a_fairReader, .ref a_ruleReader, .ref a_rules, .int a__ruleCount, .ref a_told, .ref a_scene, .ref a_spare, .ref a_past, .int a__pastFirst, .int a__pastCount, .ref a_trials, .ref a_images, .ref a_pairs, .ref a_walker, .ref a_market, .int a__x])), (a_told, .inr (8, [.int a_told__stalls, .int a_told__shift, .int a_told__halves, .int a_told__buyers, .int a_told__near, .int a_told__dusk, .int a_told__duskPrice, .int a_told__hear, .int a_told__forged, .ref a_told_stall, .ref a_told_shape, .ref a_told_side, .ref a_told_price, .ref a_told_purse, .ref a_told_spot, .ref a_told_club, .ref a_told_fitting, .ref a_told_nearly])), (a_pairs, .inr (3, [.ref a_told, .ref a_pairs_known])), (a_pairs_known, .inl (cs 0, 4096, .inl a_pairs_known_c)), (a_told_fitting, .inl (cs 0, 12, .inl a_told_fitting_c)), (a_told_nearly, .inl (cs 0, 12, .inl a_told_nearly_c))] sz) [(a, .inr (11, [.ref a_tape, .ref a_fairReader, .ref a_ruleReader, .ref a_rules, .int a__ruleCount, .ref a_told, .ref a_scene, .ref a_spare, .ref a_past, .int a__pastFirst, .int a__pastCount, .ref a_trials, .ref a_images, .ref a_pairs, .ref a_walker, .ref a_market, .int a__x])), (a_told, .inr (8, [.int a_told__stalls, .int a_told__shift, .int a_told__halves, .int a_told__buyers, .int a_told__near, .int a_told__dusk, .int a_told__duskPrice, .int a_told__hear, .int a_told__forged, .ref a_told_stall, .ref a_told_shape, .ref a_told_side, .ref a_told_price, .ref a_told_purse, .ref a_told_spot, .ref a_told_club, .ref a_told_fitting, .ref a_told_nearly])), (a_pairs, .inr (3, [.ref a_told, .ref a_pairs_known])), (a_pairs_known, .inl (cs 0, 4096, .inl o_a_pairs_known_c)), (a_told_fitting, .inl (cs 0, 12, .inl a_told_fitting_c)), (a_told_nearly, .inl (cs 0, 12, .inl a_told_nearly_c))]) (va_A [(a, .inr (11, [.ref a_tape, .ref a_fairReader, .ref a_ruleReader, .ref a_rules, .int a__ruleCount, .ref a_told, .ref a_scene, .ref a_spare, .ref a_past, .int a__pastFirst, .int a__pastCount, .ref a_trials, .ref a_images, .ref a_pairs, .ref a_walker, .ref a_market, .int a__x])), (a_told, .inr (8, [.int a_told__stalls, .int a_told__shift, .int a_told__halves, .int a_told__buyers, .int a_told__near, .int a_told__dusk, .int a_told__duskPrice, .int a_told__hear, .int a_told__forged, .ref a_told_stall, .ref a_told_shape, .ref a_told_side, .ref a_told_price, .ref a_told_purse, .ref a_told_spot, .ref a_told_club, .ref a_told_fitting, .ref a_told_nearly])), (a_pairs, .inr (3, [.ref a_told, .ref a_pairs_known])), (a_pairs_known, .inl (cs 0, 4096, .inl a_pairs_known_c)), (a_told_fitting, .inl (cs 0, 12, .inl a_told_fitting_c)), (a_told_nearly, .inl (cs 0, 12, .inl a_told_nearly_c))] sz)) 0 0 (va_A [(a, .inr (11, [.ref a_tape, .ref a_fairReader, .ref a_ruleReader, .ref a_rules, .int a__ruleCount, .ref a_told, .ref a_scene, .ref a_spare, .ref a_past, .int a__pastFirst, .int a__pastCount, .ref a_trials, .ref a_images, .ref a_pairs, .ref a_walker, .ref a_market, .int a__x])), (a_told, .inr (8, [.int a_told__stalls, .int a_told__shift, .int a_told__halves, .int a_told__buyers, .int a_told__near, .int a_told__dusk, .int a_told__duskPrice, .int a_told__hear, .int a_told__forged, .ref a_told_stall, .ref a_told_shape, .ref a_told_side, .ref a_told_price, .ref a_told_purse, .ref a_told_spot, .ref a_told_club, .ref a_told_fitting, .ref a_told_nearly])), (a_pairs, .inr (3, [.ref a_told, .ref a_pairs_known])), (a_pairs_known, .inl (cs 0, 4096, .inl a_pairs_known_c)), (a_told_fitting, .inl (cs 0, 12, .inl a_told_fitting_c)), (a_told_nearly, .inl (cs 0, 12, .inl a_told_nearly_c))] sz) := by
  refine Met.ofW (cc := cX11_with) (maxL := 3) (ret := (some .int)) (by decide) rfl ?_
  intro p e s m args below meth c s₁ B hml hv
  obtain ⟨rfl, hsz, hP, hD0, hE⟩ := hv
  have hx := B.exec
  have hb := B.bytes
  have hr := B.returns
  have hT : ∀ w ∈ TB, w.before _ s = true := fun w h => atoms_spec (ws := hz_w yX11_with cX11_with 3 (some .int)) B.pre w (List.mem_cons_of_mem _ h)
  have hown : s.vm.findClass RX11 = some m.cls := findClass_of_methodNamed B.named
  have hlocks := B.notSynchronized
  clear B
  subst hsz
  have hD := hD0.self (sz := s.heap.size)
  generalize hAe : va_A [(a, .inr (11, [.ref a_tape, .ref a_fairReader, .ref a_ruleReader, .ref a_rules, .int a__ruleCount, .ref a_told, .ref a_scene, .ref a_spare, .ref a_past, .int a__pastFirst, .int a__pastCount, .ref a_trials, .ref a_images, .ref a_pairs, .ref a_walker, .ref a_market, .int a__x])), (a_told, .inr (8, [.int a_told__stalls, .int a_told__shift, .int a_told__halves, .int a_told__buyers, .int a_told__near, .int a_told__dusk, .int a_told__duskPrice, .int a_told__hear, .int a_told__forged, .ref a_told_stall, .ref a_told_shape, .ref a_told_side, .ref a_told_price, .ref a_told_purse, .ref a_told_spot, .ref a_told_club, .ref a_told_fitting, .ref a_told_nearly])), (a_pairs, .inr (3, [.ref a_told, .ref a_pairs_known])), (a_pairs_known, .inl (cs 0, 4096, .inl a_pairs_known_c)), (a_told_fitting, .inl (cs 0, 12, .inl a_told_fitting_c)), (a_told_nearly, .inl (cs 0, 12, .inl a_told_nearly_c))] s.heap.size = A at hD hE ⊢
  have hA : ∀ q : Nat, s.heap.size ≤ q → A q := fun q h => by rw [← hAe]; exact Or.inr h
  clear hAe hD0
  have hS : va_S A s.heap s.heap [] := va_S.rf
  have hK := hE.1
  have hl := lv_entry ([.ref a, .int p0, .int p1]) (n := 3) (Nat.le_of_ble_eq_true rfl)
  rw [lg_entry_eq]
  generalize (lg_sl ([.ref a, .int p0, .int p1]) ++ List.replicate (3 - (lg_sl ([.ref a, .int p0, .int p1])).length) Slot.unset).toArray = ls at hl ⊢
  have hl : lv_has ls 3 [(0, .ref a), (1, .int p0), (2, .int p1)] := hl
  obtain ⟨H, eH⟩ : ∃ z, z = s.heap := ⟨_, rfl⟩
  have hP : va_P D classes [(a, .inr (11, [.ref a_tape, .ref a_fairReader, .ref a_ruleReader, .ref a_rules, .int a__ruleCount, .ref a_told, .ref a_scene, .ref a_spare, .ref a_past, .int a__pastFirst, .int a__pastCount, .ref a_trials, .ref a_images, .ref a_pairs, .ref a_walker, .ref a_market, .int a__x])), (a_told, .inr (8, [.int a_told__stalls, .int a_told__shift, .int a_told__halves, .int a_told__buyers, .int a_told__near, .int a_told__dusk, .int a_told__duskPrice, .int a_told__hear, .int a_told__forged, .ref a_told_stall, .ref a_told_shape, .ref a_told_side, .ref a_told_price, .ref a_told_purse, .ref a_told_spot, .ref a_told_club, .ref a_told_fitting, .ref a_told_nearly])), (a_pairs, .inr (3, [.ref a_told, .ref a_pairs_known])), (a_pairs_known, .inl (cs 0, 4096, .inl a_pairs_known_c)), (a_told_fitting, .inl (cs 0, 12, .inl a_told_fitting_c)), (a_told_nearly, .inl (cs 0, 12, .inl a_told_nearly_c))] H := by rw [eH]; exact hP
  have hS : va_S A s.heap H [] := by rw [eH]; exact hS
  rw [← eH]
  clear eH
  obtain ⟨locs, el⟩ : ∃ z : List Loc, z = [] := ⟨_, rfl⟩
  rw [← el] at hS ⊢
  clear el
  refine lv_aload_n hx hb dX11_with_0 rfl (lv_at hl 0 rfl) ?_
  refine lv_iload_n hx hb dX11_with_1 rfl (lv_at hl 1 rfl) ?_
  refine va_calli (va_runV (As := [.int p0]) (rest := []) ⟨hx, hb, hml, hown, hT⟩ (c_X11_isSet l D cs kK kV a p0 a_tape a_fairReader a_ruleReader a_rules a__ruleCount a_told a_scene a_spare a_past a__pastFirst a__pastCount a_trials a_images a_pairs a_walker a_market a__x a_told__stalls a_told__shift a_told__halves a_told__buyers a_told__near a_told__dusk a_told__duskPrice a_told__hear a_told__forged a_told_stall a_told_shape a_told_side a_told_price a_told_purse a_told_spot a_told_club a_told_fitting a_told_nearly h_a_told__stalls h_a_told__halves) (cwV 1 hT (hz_gV q_339 q_340 q_341 q_241 q_342) rfl rfl rfl (by decide +kernel) ⟨(Nat.le_of_ble_eq_true rfl), (Nat.le_of_ble_eq_true rfl)⟩) ⟨hz_P.blind, va_recv hK hP (ci := 11) (q0 := 0) rfl rfl, hz_P.mk (hP.sub (ws' := [(a, .inr (11, [.ref a_tape, .ref a_fairReader, .ref a_ruleReader, .ref a_rules, .int a__ruleCount, .ref a_told, .ref a_scene, .ref a_spare, .ref a_past, .int a__pastFirst, .int a__pastCount, .ref a_trials, .ref a_images, .ref a_pairs, .ref a_walker, .ref a_market, .int a__x])), (a_told, .inr (8, [.int a_told__stalls, .int a_told__shift, .int a_told__halves, .int a_told__buyers, .int a_told__near, .int a_told__dusk, .int a_told__duskPrice, .int a_told__hear, .int a_told__forged, .ref a_told_stall, .ref a_told_shape, .ref a_told_side, .ref a_told_price, .ref a_told_purse, .ref a_told_spot, .ref a_told_club, .ref a_told_fitting, .ref a_told_nearly]))]) [0,1] rfl) hE hS⟩ rfl rfl hl.1 rfl (lv_room (Nat.le_of_ble_eq_true rfl)) dX11_with_2 ⟨(Nat.le_of_ble_eq_true rfl), (Nat.le_of_ble_eq_true rfl)⟩) hS (fun _ _ h => h.elim) (fun _ h => h.elim) (fun r1 u t H1 locs ht hvm hw hB hz1 hk1 hS => ?_)
  have hP := hz_keep hP hk1
  clear hk1 hB hz1
  generalize H1 = H at hP hS ⊢
  rcases hw with rfl | ⟨rfl, h2, h3⟩
  · refine lv_if_eq (tgt := 27) hx hb dX11_with_5 (by decide) (fun _ => ?_) (fun z => absurd (by decide) z)
    refine lv_bipush (v := (-2)) hx hb dX11_with_27 (by decide) ?_
    refine W.widen (k := 0) (n := 0) (Nat.le_of_ble_eq_true rfl) (Nat.le_of_ble_eq_true rfl) ?_
    exact W.iret (v := (-2)) hx hb hr (fun t ht hW => ⟨⟨(-2), (), rfl, (Or.inr (Or.inl (rfl))), a_pairs_known_c, by rw [ht]; exact hP.sub [0, 1, 2, 3, 4, 5] rfl, hD.sub [0, 1, 2, 3, 4, 5] (by decide) rfl⟩, hS.F ht⟩) hS.2.2 dX11_with_29
  · refine lv_if_eq (tgt := 27) hx hb dX11_with_5 (by decide) (fun z => absurd z (by decide)) (fun _ => ?_)
    refine lv_aload_n hx hb dX11_with_8 rfl (lv_at hl 0 rfl) ?_
    refine va_get (D := D) (ci := 11) (v := .ref a_told) (C := RX11) (T := TX11) (N := 17) hx hb hT i_X11 hown hK hP 0 rfl rfl 5 (by decide) (hT _ q_4) (fun _ h9 => h9) rfl dX11_with_9 ?_
    refine lv_iload_n hx hb dX11_with_12 rfl (lv_at hl 2 rfl) ?_
    refine va_calli (va_runV (As := [.int p1]) (rest := []) ⟨hx, hb, hml, hown, hT⟩ (c_X8_isHalf l D cs kK kV a_told p1 a_told__stalls a_told__shift a_told__halves a_told__buyers a_told__near a_told__dusk a_told__duskPrice a_told__hear a_told__forged a_told_stall a_told_shape a_told_side a_told_price a_told_purse a_told_spot a_told_club a_told_fitting a_told_nearly h_a_told__halves) (cwV 1 hT (hz_gV q_249 q_250 q_252 q_251 q_253) rfl rfl rfl (by decide +kernel) ⟨(Nat.le_of_ble_eq_true rfl), (Nat.le_of_ble_eq_true rfl)⟩) ⟨hz_P.blind, va_recv hK hP (ci := 8) (q0 := 1) rfl rfl, hz_P.mk (hP.sub (ws' := [(a_told, .inr (8, [.int a_told__stalls, .int a_told__shift, .int a_told__halves, .int a_told__buyers, .int a_told__near, .int a_told__dusk, .int a_told__duskPrice, .int a_told__hear, .int a_told__forged, .ref a_told_stall, .ref a_told_shape, .ref a_told_side, .ref a_told_price, .ref a_told_purse, .ref a_told_spot, .ref a_told_club, .ref a_told_fitting, .ref a_told_nearly]))]) [1] rfl) hE hS⟩ rfl rfl hl.1 rfl (lv_room (Nat.le_of_ble_eq_true rfl)) dX11_with_13 ⟨(Nat.le_of_ble_eq_true rfl), (Nat.le_of_ble_eq_true rfl)⟩) hS (fun _ _ h => h.elim) (fun _ h => h.elim) (fun r4 u t H1 locs ht hvm hw hB hz1 hk1 hS => ?_)
    have hP := hz_keep hP hk1
    clear hk1 hB hz1
    generalize H1 = H at hP hS ⊢
    rcases hw with ⟨rfl, h5⟩ | ⟨rfl, h6, h7⟩
    · refine lv_if_eq (tgt := 27) hx hb dX11_with_16 (by decide) (fun _ => ?_) (fun z => absurd (by decide) z)
      refine lv_bipush (v := (-2)) hx hb dX11_with_27 (by decide) ?_
      refine W.widen (k := 0) (n := 0) (Nat.le_of_ble_eq_true rfl) (Nat.le_of_ble_eq_true rfl) ?_
      exact W.iret (v := (-2)) hx hb hr (fun t ht hW => ⟨⟨(-2), (), rfl, (Or.inr (Or.inl (rfl))), a_pairs_known_c, by rw [ht]; exact hP.sub [0, 1, 2, 3, 4, 5] rfl, hD.sub [0, 1, 2, 3, 4, 5] (by decide) rfl⟩, hS.F ht⟩) hS.2.2 dX11_with_29
    · refine lv_if_eq (tgt := 27) hx hb dX11_with_16 (by decide) (fun z => absurd z (by decide)) (fun _ => ?_)
      refine lv_iload_n hx hb dX11_with_19 rfl (lv_at hl 1 rfl) ?_
      refine lv_iload_n hx hb dX11_with_20 rfl (lv_at hl 2 rfl) ?_
      refine lv_ishr hx hb dX11_with_21 ?_
      refine lv_topi (fun v8 ev8 => ?_)
      have hv8 : IV 0 4095 v8 := iv_shr ev8 h3 (by decide)
      refine lv_iconst (v := 1) hx hb dX11_with_22 (by decide) ?_
      refine lv_iand hx hb dX11_with_23 ?_
      refine lv_topi (fun v9 ev9 => ?_)
      have hv9 : IV 0 1 v9 := iv_and2 ev9 (iv_c (a := 1) (b := 1) (by decide))
      refine lv_if_ne (tgt := 30) hx hb dX11_with_24 (by decide) (fun c10 => ?_) (fun c10 => ?_)
      · have h11 : IV 1 1 v9 := iv_neL c10 hv9 (by decide)
        refine lv_aload_n hx hb dX11_with_30 rfl (lv_at hl 0 rfl) ?_
        refine va_get (D := D) (ci := 11) (v := .ref a_pairs) (C := RX11) (T := TX11) (N := 17) hx hb hT i_X11 hown hK hP 0 rfl rfl 13 (by decide) (hT _ q_10) (fun _ h9 => h9) rfl dX11_with_31 ?_
        refine lv_iload_n hx hb dX11_with_34 rfl (lv_at hl 2 rfl) ?_
        refine lv_iload_n hx hb dX11_with_35 rfl (lv_at hl 1 rfl) ?_
        have hFc := va_free (wc := [(a_pairs, .inr (3, [.ref a_told, .ref a_pairs_known])), (a_pairs_known, .inl (cs 0, 4096, .inl a_pairs_known_c)), (a_told, .inr (8, [.int a_told__stalls, .int a_told__shift, .int a_told__halves, .int a_told__buyers, .int a_told__near, .int a_told__dusk, .int a_told__duskPrice, .int a_told__hear, .int a_told__forged, .ref a_told_stall, .ref a_told_shape, .ref a_told_side, .ref a_told_price, .ref a_told_purse, .ref a_told_spot, .ref a_told_club, .ref a_told_fitting, .ref a_told_nearly])), (a_told_fitting, .inl (cs 0, 12, .inl a_told_fitting_c)), (a_told_nearly, .inl (cs 0, 12, .inl a_told_nearly_c))]) hD hS hA [2,3,1,4,5] rfl
        refine va_calli (va_runV (As := [.int p1, .int p0]) (rest := []) ⟨hx, hb, hml, hown, hT⟩ (c_X3_partnerOf l D cs kK kV a_pairs p1 p0 a_told a_pairs_known a_pairs_known_c a_told__stalls a_told__shift a_told__halves a_told__buyers a_told__near a_told__dusk a_told__duskPrice a_told__hear a_told__forged a_told_stall a_told_shape a_told_side a_told_price a_told_purse a_told_spot a_told_club a_told_fitting a_told_nearly a_told_fitting_c a_told_nearly_c H.size) (cwV 2 hT (hz_gV q_343 q_344 q_345 q_236 q_346) rfl rfl rfl (by decide +kernel) ⟨(Nat.le_of_ble_eq_true rfl), (Nat.le_of_ble_eq_true rfl)⟩) ⟨hz_C.blind, va_recv hK hP (ci := 3) (q0 := 2) rfl rfl, hz_C.mk (hP.sub (ws' := [(a_pairs, .inr (3, [.ref a_told, .ref a_pairs_known])), (a_pairs_known, .inl (cs 0, 4096, .inl a_pairs_known_c)), (a_told, .inr (8, [.int a_told__stalls, .int a_told__shift, .int a_told__halves, .int a_told__buyers, .int a_told__near, .int a_told__dusk, .int a_told__duskPrice, .int a_told__hear, .int a_told__forged, .ref a_told_stall, .ref a_told_shape, .ref a_told_side, .ref a_told_price, .ref a_told_purse, .ref a_told_spot, .ref a_told_club, .ref a_told_fitting, .ref a_told_nearly])), (a_told_fitting, .inl (cs 0, 12, .inl a_told_fitting_c)), (a_told_nearly, .inl (cs 0, 12, .inl a_told_nearly_c))]) [2,3,1,4,5] rfl) (hD.sub (ws' := [(a_pairs, .inr (3, [.ref a_told, .ref a_pairs_known])), (a_pairs_known, .inl (cs 0, 4096, .inl a_pairs_known_c)), (a_told, .inr (8, [.int a_told__stalls, .int a_told__shift, .int a_told__halves, .int a_told__buyers, .int a_told__near, .int a_told__dusk, .int a_told__duskPrice, .int a_told__hear, .int a_told__forged, .ref a_told_stall, .ref a_told_shape, .ref a_told_side, .ref a_told_price, .ref a_told_purse, .ref a_told_spot, .ref a_told_club, .ref a_told_fitting, .ref a_told_nearly])), (a_told_fitting, .inl (cs 0, 12, .inl a_told_fitting_c)), (a_told_nearly, .inl (cs 0, 12, .inl a_told_nearly_c))]) [2,3,1,4,5] (by decide) rfl) hE hS hFc⟩ rfl rfl hl.1 rfl (lv_room (Nat.le_of_ble_eq_true rfl)) dX11_with_36 ⟨(Nat.le_of_ble_eq_true rfl), (Nat.le_of_ble_eq_true rfl)⟩) hS (fun q _ h => hFc q h) hFc (fun r12 u t H1 locs ht hvm hw hB hz1 hk1 hS => ?_)
        obtain ⟨o13, hP1, hD1⟩ := hB
        rw [ht] at hP1
        obtain ⟨hP, hD⟩ := va_join (wr := [(a, .inr (11, [.ref a_tape, .ref a_fairReader, .ref a_ruleReader, .ref a_rules, .int a__ruleCount, .ref a_told, .ref a_scene, .ref a_spare, .ref a_past, .int a__pastFirst, .int a__pastCount, .ref a_trials, .ref a_images, .ref a_pairs, .ref a_walker, .ref a_market, .int a__x]))]) (w1 := [(a_pairs, .inr (3, [.ref a_told, .ref a_pairs_known])), (a_pairs_known, .inl (cs 0, 4096, .inl o13)), (a_told, .inr (8, [.int a_told__stalls, .int a_told__shift, .int a_told__halves, .int a_told__buyers, .int a_told__near, .int a_told__dusk, .int a_told__duskPrice, .int a_told__hear, .int a_told__forged, .ref a_told_stall, .ref a_told_shape, .ref a_told_side, .ref a_told_price, .ref a_told_purse, .ref a_told_spot, .ref a_told_club, .ref a_told_fitting, .ref a_told_nearly])), (a_told_fitting, .inl (cs 0, 12, .inl a_told_fitting_c)), (a_told_nearly, .inl (cs 0, 12, .inl a_told_nearly_c))]) hP hD [2, 3, 1, 4, 5] [0] rfl rfl (by decide) (by decide) hk1 hFc hP1 hD1
        generalize H1 = H at hP hS ⊢
        have hP : va_P D classes [(a, .inr (11, [.ref a_tape, .ref a_fairReader, .ref a_ruleReader, .ref a_rules, .int a__ruleCount, .ref a_told, .ref a_scene, .ref a_spare, .ref a_past, .int a__pastFirst, .int a__pastCount, .ref a_trials, .ref a_images, .ref a_pairs, .ref a_walker, .ref a_market, .int a__x])), (a_pairs, .inr (3, [.ref a_told, .ref a_pairs_known])), (a_pairs_known, .inl (cs 0, 4096, .inl o13)), (a_told, .inr (8, [.int a_told__stalls, .int a_told__shift, .int a_told__halves, .int a_told__buyers, .int a_told__near, .int a_told__dusk, .int a_told__duskPrice, .int a_told__hear, .int a_told__forged, .ref a_told_stall, .ref a_told_shape, .ref a_told_side, .ref a_told_price, .ref a_told_purse, .ref a_told_spot, .ref a_told_club, .ref a_told_fitting, .ref a_told_nearly])), (a_told_fitting, .inl (cs 0, 12, .inl a_told_fitting_c)), (a_told_nearly, .inl (cs 0, 12, .inl a_told_nearly_c))] H := hP
        have hD : va_D A [(a, .inr (11, [.ref a_tape, .ref a_fairReader, .ref a_ruleReader, .ref a_rules, .int a__ruleCount, .ref a_told, .ref a_scene, .ref a_spare, .ref a_past, .int a__pastFirst, .int a__pastCount, .ref a_trials, .ref a_images, .ref a_pairs, .ref a_walker, .ref a_market, .int a__x])), (a_pairs, .inr (3, [.ref a_told, .ref a_pairs_known])), (a_pairs_known, .inl (cs 0, 4096, .inl o13)), (a_told, .inr (8, [.int a_told__stalls, .int a_told__shift, .int a_told__halves, .int a_told__buyers, .int a_told__near, .int a_told__dusk, .int a_told__duskPrice, .int a_told__hear, .int a_told__forged, .ref a_told_stall, .ref a_told_shape, .ref a_told_side, .ref a_told_price, .ref a_told_purse, .ref a_told_spot, .ref a_told_club, .ref a_told_fitting, .ref a_told_nearly])), (a_told_fitting, .inl (cs 0, 12, .inl a_told_fitting_c)), (a_told_nearly, .inl (cs 0, 12, .inl a_told_nearly_c))] := hD
        clear hk1 hFc hP1 hD1 hz1
        rcases hw with rfl | ⟨h14, h15⟩
        · refine W.widen (k := 0) (n := 0) (Nat.le_of_ble_eq_true rfl) (Nat.le_of_ble_eq_true rfl) ?_
          exact W.iret (v := (-1)) hx hb hr (fun t ht hW => ⟨⟨(-1), (), rfl, (Or.inl (⟨rfl, h6, h2, h3, h7⟩)), o13, by rw [ht]; exact hP.sub [0, 3, 1, 2, 4, 5] rfl, hD.sub [0, 3, 1, 2, 4, 5] (by decide) rfl⟩, hS.F ht⟩) hS.2.2 dX11_with_39
        · refine W.widen (k := 0) (n := 0) (Nat.le_of_ble_eq_true rfl) (Nat.le_of_ble_eq_true rfl) ?_
          exact W.iret (v := r12) hx hb hr (fun t ht hW => ⟨⟨r12, (), rfl, (Or.inr (Or.inr ((⟨h14, h6, h2, h3, h7⟩)))), o13, by rw [ht]; exact hP.sub [0, 3, 1, 2, 4, 5] rfl, hD.sub [0, 3, 1, 2, 4, 5] (by decide) rfl⟩, hS.F ht⟩) hS.2.2 dX11_with_39
      · have h16 : IV 0 0 v9 := iv_eq1 c10 hv9 (iv_c (a := 0) (b := 0) (by decide)) (by decide) (by decide)
        refine lv_bipush (v := (-2)) hx hb dX11_with_27 (by decide) ?_
        refine W.widen (k := 0) (n := 0) (Nat.le_of_ble_eq_true rfl) (Nat.le_of_ble_eq_true rfl) ?_
        exact W.iret (v := (-2)) hx hb hr (fun t ht hW => ⟨⟨(-2), (), rfl, (Or.inr (Or.inl (rfl))), a_pairs_known_c, by rw [ht]; exact hP.sub [0, 1, 2, 3, 4, 5] rfl, hD.sub [0, 1, 2, 3, 4, 5] (by decide) rfl⟩, hS.F ht⟩) hS.2.2 dX11_with_29
