set_option maxHeartbeats 4000000 in
set_option maxRecDepth 100000 in
theorem c_X9_add_T (l : Launch) (D : va_G) (cs : Nat → ClassId) (kK kV : Nat → Nat) (a : Nat) (p0 : Int32) (p1 : Int32) (p2 : Int32) (a__size : Int32) (a__fewest : Int32) (a__honest : Int32) (a_pair : Nat) (a_one : Nat) (a_other : Nat) (a_fitted : Nat) (a_one_c : Nat → Int32) (a_other_c : Nat → Int32) (a_fitted_c : Nat → Int32) (h_p0 : IV 0 11 p0) (h_p1 : IV 0 11 p1) (h_a__size : IV 0 12 a__size) (h_a_one_c : CI 12 0 11 a_one_c) (h_a_other_c : CI 12 0 11 a_other_c) (sz : Nat) : Met l yX9_add (hz_w yX9_add cX9_add 4 none) ({ frames := 1, cells := 0, slots := 0, locals := 20 }) (va_Pc [.ref a, .int p0, .int p1, .int p2] (hz_C D cs kK kV sz [(a, .inr (9, [.int a__size, .int a__fewest, .int a__honest, .ref a_pair, .ref a_one, .ref a_other, .ref a_fitted])), (a_one, .inl (cs 0, 12, .inl a_one_c)), (a_other, .inl (cs 0, 12, .inl a_other_c)), (a_fitted, .inl (cs 2, 12, .inl a_fitted_c))])) (va_Qv (fun (_ : Unit) => True) (fun _ t => ∃ (o_a_0 : Int32), ∃ (o_a_fitted_c : Nat → Int32), ∃ (o_a_one_c : Nat → Int32), ∃ (o_a_other_c : Nat → Int32), IV 1 12 o_a_0 ∧ CI 12 0 11 o_a_one_c ∧ CI 12 0 11 o_a_other_c ∧ va_P D classes [(a, .inr (9, [.int o_a_0, .int a__fewest, .int a__honest, .ref a_pair, .ref a_one, .ref a_other, .ref a_fitted])), (a_one, .inl (cs 0, 12, .inl o_a_one_c)), (a_other, .inl (cs 0, 12, .inl o_a_other_c)), (a_fitted, .inl (cs 2, 12, .inl o_a_fitted_c))] t.heap ∧ va_D (va_A [(a, .inr (9, [.int a__size, .int a__fewest, .int a__honest, .ref a_pair, .ref a_one, .ref a_other, .ref a_fitted])), (a_one, .inl (cs 0, 12, .inl a_one_c)), (a_other, .inl (cs 0, 12, .inl a_other_c)), (a_fitted, .inl (cs 2, 12, .inl a_fitted_c))] sz) [(a, .inr (9, [.int o_a_0, .int a__fewest, .int a__honest, .ref a_pair, .ref a_one, .ref a_other, .ref a_fitted])), (a_one, .inl (cs 0, 12, .inl o_a_one_c)), (a_other, .inl (cs 0, 12, .inl o_a_other_c)), (a_fitted, .inl (cs 2, 12, .inl o_a_fitted_c))]) (va_A [(a, .inr (9, [.int a__size, .int a__fewest, .int a__honest, .ref a_pair, .ref a_one, .ref a_other, .ref a_fitted])), (a_one, .inl (cs 0, 12, .inl a_one_c)), (a_other, .inl (cs 0, 12, .inl a_other_c)), (a_fitted, .inl (cs 2, 12, .inl a_fitted_c))] sz)) 0 0 (va_A [(a, .inr (9, [.int a__size, .int a__fewest, .int a__honest, .ref a_pair, .ref a_one, .ref a_other, .ref a_fitted])), (a_one, .inl (cs 0, 12, .inl a_one_c)), (a_other, .inl (cs 0, 12, .inl a_other_c)), (a_fitted, .inl (cs 2, 12, .inl a_fitted_c))] sz) := by
  refine Met.ofW (cc := cX9_add) (maxL := 4) (ret := none) (by decide) rfl ?_
  intro p e s m args below meth c s₁ B hml hv
  obtain ⟨rfl, hsz, hP, hD0, hE⟩ := hv
  have hx := B.exec
  have hb := B.bytes
  have hr := B.returns
  have hT : ∀ w ∈ TB, w.before _ s = true := fun w h => atoms_spec (ws := hz_w yX9_add cX9_add 4 none) B.pre w (List.mem_cons_of_mem _ h)
  have hown : s.vm.findClass RX9 = some m.cls := findClass_of_methodNamed B.named
  have hlocks := B.notSynchronized
  clear B
  subst hsz
  have hD := hD0.self (sz := s.heap.size)
  generalize hAe : va_A [(a, .inr (9, [.int a__size, .int a__fewest, .int a__honest, .ref a_pair, .ref a_one, .ref a_other, .ref a_fitted])), (a_one, .inl (cs 0, 12, .inl a_one_c)), (a_other, .inl (cs 0, 12, .inl a_other_c)), (a_fitted, .inl (cs 2, 12, .inl a_fitted_c))] s.heap.size = A at hD hE ⊢
  have hA : ∀ q : Nat, s.heap.size ≤ q → A q := fun q h => by rw [← hAe]; exact Or.inr h
  clear hAe hD0
  have hS : va_S A s.heap s.heap [] := va_S.rf
  have hK := hE.1
  have hl := lv_entry ([.ref a, .int p0, .int p1, .int p2]) (n := 4) (Nat.le_of_ble_eq_true rfl)
  rw [lg_entry_eq]
  generalize (lg_sl ([.ref a, .int p0, .int p1, .int p2]) ++ List.replicate (4 - (lg_sl ([.ref a, .int p0, .int p1, .int p2])).length) Slot.unset).toArray = ls at hl ⊢
  have hl : lv_has ls 4 [(0, .ref a), (1, .int p0), (2, .int p1), (3, .int p2)] := hl
  obtain ⟨H, eH⟩ : ∃ z, z = s.heap := ⟨_, rfl⟩
  have hP : va_P D classes [(a, .inr (9, [.int a__size, .int a__fewest, .int a__honest, .ref a_pair, .ref a_one, .ref a_other, .ref a_fitted])), (a_one, .inl (cs 0, 12, .inl a_one_c)), (a_other, .inl (cs 0, 12, .inl a_other_c)), (a_fitted, .inl (cs 2, 12, .inl a_fitted_c))] H := by rw [eH]; exact hP
  have hS : va_S A s.heap H [] := by rw [eH]; exact hS
  rw [← eH]
  clear eH
  obtain ⟨locs, el⟩ : ∃ z : List Loc, z = [] := ⟨_, rfl⟩
  rw [← el] at hS ⊢
  clear el
  refine lv_aload_n hx hb dX9_add_0 rfl (lv_at hl 0 rfl) ?_
  refine va_calli (va_runV (As := []) (rest := []) ⟨hx, hb, hml, hown, hT⟩ (c_X9_isFull l D cs kK kV a a__size a__fewest a__honest a_pair a_one a_other a_fitted h_a__size) (cwV 0 hT (hz_gV q_657 q_387 q_389 q_388 q_390) rfl rfl rfl (by decide +kernel) ⟨(Nat.le_of_ble_eq_true rfl), (Nat.le_of_ble_eq_true rfl)⟩) ⟨hz_P.blind, va_recv hK hP (ci := 9) (q0 := 0) rfl rfl, hz_P.mk (hP.sub (ws' := [(a, .inr (9, [.int a__size, .int a__fewest, .int a__honest, .ref a_pair, .ref a_one, .ref a_other, .ref a_fitted]))]) [0] rfl) hE hS⟩ rfl rfl hl.1 rfl (lv_room (Nat.le_of_ble_eq_true rfl)) dX9_add_1 ⟨(Nat.le_of_ble_eq_true rfl), (Nat.le_of_ble_eq_true rfl)⟩) hS (fun _ _ h => h.elim) (fun _ h => h.elim) (fun r1 u t H1 locs ht hvm hw hB hz1 hk1 hS => ?_)
  have hP := hz_keep hP hk1
  clear hk1 hB hz1
  generalize H1 = H at hP hS ⊢
  rcases hw with ⟨rfl, h2⟩ | ⟨rfl, h3⟩
  · refine lv_if_eq (tgt := 8) hx hb dX9_add_4 (by decide) (fun _ => ?_) (fun z => absurd (by decide) z)
    refine lv_aload_n hx hb dX9_add_8 rfl (lv_at hl 0 rfl) ?_
    refine va_get (D := D) (ci := 9) (v := .ref a_one) (C := RX9) (T := TX9) (N := 7) hx hb hT i_X9 hown hK hP 0 rfl rfl 4 (by decide) (hT _ q_150) (fun _ h9 => h9) rfl dX9_add_9 ?_
    refine lv_aload_n hx hb dX9_add_12 rfl (lv_at hl 0 rfl) ?_
    refine va_get (D := D) (ci := 9) (v := .int a__size) (C := RX9) (T := TX9) (N := 7) hx hb hT i_X9 hown hK hP 0 rfl rfl 0 (by decide) (hT _ q_153) (fun _ h9 => h9) rfl dX9_add_13 ?_
    refine lv_iload_n hx hb dX9_add_16 rfl (lv_at hl 1 rfl) ?_
    refine va_iast hx hb hK hP hD hS 1 0 rfl rfl (iv_v h2 (by decide) (by decide)) dX9_add_17 (fun H locs hP hD hS => ?_)
    have hf4 := ci_upd (i := a__size) h_a_one_c h_p0
    have hP : va_P D classes [(a, .inr (9, [.int a__size, .int a__fewest, .int a__honest, .ref a_pair, .ref a_one, .ref a_other, .ref a_fitted])), (a_one, .inl (cs 0, 12, .inl (upd a_one_c (Int32.toNatClampNeg a__size) p0))), (a_other, .inl (cs 0, 12, .inl a_other_c)), (a_fitted, .inl (cs 2, 12, .inl a_fitted_c))] H := hP
    have hD : va_D A [(a, .inr (9, [.int a__size, .int a__fewest, .int a__honest, .ref a_pair, .ref a_one, .ref a_other, .ref a_fitted])), (a_one, .inl (cs 0, 12, .inl (upd a_one_c (Int32.toNatClampNeg a__size) p0))), (a_other, .inl (cs 0, 12, .inl a_other_c)), (a_fitted, .inl (cs 2, 12, .inl a_fitted_c))] := hD
    generalize upd a_one_c (Int32.toNatClampNeg a__size) p0 = f4 at hP hD hf4
    refine lv_aload_n hx hb dX9_add_18 rfl (lv_at hl 0 rfl) ?_
    refine va_get (D := D) (ci := 9) (v := .ref a_other) (C := RX9) (T := TX9) (N := 7) hx hb hT i_X9 hown hK hP 0 rfl rfl 5 (by decide) (hT _ q_151) (fun _ h9 => h9) rfl dX9_add_19 ?_
    refine lv_aload_n hx hb dX9_add_22 rfl (lv_at hl 0 rfl) ?_
    refine va_get (D := D) (ci := 9) (v := .int a__size) (C := RX9) (T := TX9) (N := 7) hx hb hT i_X9 hown hK hP 0 rfl rfl 0 (by decide) (hT _ q_153) (fun _ h9 => h9) rfl dX9_add_23 ?_
    refine lv_iload_n hx hb dX9_add_26 rfl (lv_at hl 2 rfl) ?_
    refine va_iast hx hb hK hP hD hS 2 0 rfl rfl (iv_v h2 (by decide) (by decide)) dX9_add_27 (fun H locs hP hD hS => ?_)
    have hf5 := ci_upd (i := a__size) h_a_other_c h_p1
    have hP : va_P D classes [(a, .inr (9, [.int a__size, .int a__fewest, .int a__honest, .ref a_pair, .ref a_one, .ref a_other, .ref a_fitted])), (a_one, .inl (cs 0, 12, .inl f4)), (a_other, .inl (cs 0, 12, .inl (upd a_other_c (Int32.toNatClampNeg a__size) p1))), (a_fitted, .inl (cs 2, 12, .inl a_fitted_c))] H := hP
    have hD : va_D A [(a, .inr (9, [.int a__size, .int a__fewest, .int a__honest, .ref a_pair, .ref a_one, .ref a_other, .ref a_fitted])), (a_one, .inl (cs 0, 12, .inl f4)), (a_other, .inl (cs 0, 12, .inl (upd a_other_c (Int32.toNatClampNeg a__size) p1))), (a_fitted, .inl (cs 2, 12, .inl a_fitted_c))] := hD
    generalize upd a_other_c (Int32.toNatClampNeg a__size) p1 = f5 at hP hD hf5
    refine lv_aload_n hx hb dX9_add_28 rfl (lv_at hl 0 rfl) ?_
    refine va_get (D := D) (ci := 9) (v := .ref a_fitted) (C := RX9) (T := TX9) (N := 7) hx hb hT i_X9 hown hK hP 0 rfl rfl 6 (by decide) (hT _ q_152) (fun _ h9 => h9) rfl dX9_add_29 ?_
    refine lv_aload_n hx hb dX9_add_32 rfl (lv_at hl 0 rfl) ?_
    refine va_get (D := D) (ci := 9) (v := .int a__size) (C := RX9) (T := TX9) (N := 7) hx hb hT i_X9 hown hK hP 0 rfl rfl 0 (by decide) (hT _ q_153) (fun _ h9 => h9) rfl dX9_add_33 ?_
    refine lv_iload_n hx hb dX9_add_36 rfl (lv_at hl 3 rfl) ?_
    refine va_zast hx hb hK hP hD hS 3 2 rfl rfl (iv_v h2 (by decide) (by decide)) dX9_add_37 (fun H locs hP hD hS => ?_)
    have hP : va_P D classes [(a, .inr (9, [.int a__size, .int a__fewest, .int a__honest, .ref a_pair, .ref a_one, .ref a_other, .ref a_fitted])), (a_one, .inl (cs 0, 12, .inl f4)), (a_other, .inl (cs 0, 12, .inl f5)), (a_fitted, .inl (cs 2, 12, .inl (upd a_fitted_c (Int32.toNatClampNeg a__size) (vp_nar .boolean p2))))] H := hP
    have hD : va_D A [(a, .inr (9, [.int a__size, .int a__fewest, .int a__honest, .ref a_pair, .ref a_one, .ref a_other, .ref a_fitted])), (a_one, .inl (cs 0, 12, .inl f4)), (a_other, .inl (cs 0, 12, .inl f5)), (a_fitted, .inl (cs 2, 12, .inl (upd a_fitted_c (Int32.toNatClampNeg a__size) (vp_nar .boolean p2))))] := hD
    generalize upd a_fitted_c (Int32.toNatClampNeg a__size) (vp_nar .boolean p2) = f6 at hP hD
    refine lv_aload_n hx hb dX9_add_38 rfl (lv_at hl 0 rfl) ?_
    refine lv_dup hx hb dX9_add_39 rfl ?_
    refine va_get (D := D) (ci := 9) (v := .int a__size) (C := RX9) (T := TX9) (N := 7) hx hb hT i_X9 hown hK hP 0 rfl rfl 0 (by decide) (hT _ q_153) (fun _ h9 => h9) rfl dX9_add_40 ?_
    refine lv_iconst (v := 1) hx hb dX9_add_43 (by decide) ?_
    refine lv_iadd hx hb dX9_add_44 ?_
    refine lv_topi (fun v7 ev7 => ?_)
    have hv7 : IV 1 12 v7 := iv_add ev7 h2 (iv_c (a := 1) (b := 1) (by decide)) (by decide) (by decide)
    have dv7 : v7.toInt = a__size.toInt + 1 := iv_addE ev7 h2 (iv_c (a := 1) (b := 1) (by decide)) (by decide) (by decide) (by decide)
    refine va_put (D := D) (ci := 9) (v := .int v7) (ty := .int) (C := RX9) (T := TX9) (N := 7) hx hb hT i_X9 tyX9 tyX9_ok nmX9 hown hK hP hD hS 0 rfl rfl 0 (by decide) (hT _ q_153) (fun _ h9 => h9) rfl (by decide +kernel) rfl rfl (Nat.le_of_ble_eq_true rfl) dX9_add_45 (fun H locs hP hD hS => ?_)
    have hP : va_P D classes [(a, .inr (9, [.int v7, .int a__fewest, .int a__honest, .ref a_pair, .ref a_one, .ref a_other, .ref a_fitted])), (a_one, .inl (cs 0, 12, .inl f4)), (a_other, .inl (cs 0, 12, .inl f5)), (a_fitted, .inl (cs 2, 12, .inl f6))] H := hP
    have hD : va_D A [(a, .inr (9, [.int v7, .int a__fewest, .int a__honest, .ref a_pair, .ref a_one, .ref a_other, .ref a_fitted])), (a_one, .inl (cs 0, 12, .inl f4)), (a_other, .inl (cs 0, 12, .inl f5)), (a_fitted, .inl (cs 2, 12, .inl f6))] := hD
    refine W.widen (k := 0) (n := 0) (Nat.le_of_ble_eq_true rfl) (Nat.le_of_ble_eq_true rfl) ?_
    exact W.vret hx hb hr (fun t ht hW => ⟨⟨(), rfl, trivial, v7, f6, f4, f5, hv7, hf4, hf5, by rw [ht]; exact hP.sub [0, 1, 2, 3] rfl, hD.sub [0, 1, 2, 3] (by decide) rfl⟩, hS.F ht⟩) hS.2.2 dX9_add_48
  · refine lv_if_eq (tgt := 8) hx hb dX9_add_4 (by decide) (fun z => absurd z (by decide)) (fun _ => ?_)
    refine W.widen (k := 0) (n := 0) (Nat.le_of_ble_eq_true rfl) (Nat.le_of_ble_eq_true rfl) ?_
    exact W.vret hx hb hr (fun t ht hW => ⟨⟨(), rfl, trivial, a__size, a_fitted_c, a_one_c, a_other_c, (iv_w h3 (by decide) (by decide)), h_a_one_c, h_a_other_c, by rw [ht]; exact hP.sub [0, 1, 2, 3] rfl, hD.sub [0, 1, 2, 3] (by decide) rfl⟩, hS.F ht⟩) hS.2.2 dX9_add_7
set_option maxHeartbeats 4000000 in
set_option maxRecDepth 100000 in
theorem c_X11_trial_T (l : Launch) (D : va_G) (cs : Nat → ClassId) (kK kV : Nat → Nat) (a : Nat) (p0 : Int32) (p1 : Int32) (p2 : Int32) (a_tape : Nat) (a_fairReader : Nat) (a_ruleReader : Nat) (a_rules : Nat) (a__ruleCount : Int32) (a_told : Nat) (a_scene : Nat) (a_spare : Nat) (a_past : Nat) (a__pastFirst : Int32) (a__pastCount : Int32) (a_trials : Nat) (a_images : Nat) (a_pairs : Nat) (a_walker : Nat) (a_market : Nat) (a__x : Int32) (a_told__stalls : Int32) (a_told__shift : Int32) (a_told__halves : Int32) (a_told__buyers : Int32) (a_told__near : Int32) (a_told__dusk : Int32) (a_told__duskPrice : Int32) (a_told__hear : Int32) (a_told__forged : Int32) (a_told_stall : Nat) (a_told_shape : Nat) (a_told_side : Nat) (a_told_price : Nat) (a_told_purse : Nat) (a_told_spot : Nat) (a_told_club : Nat) (a_told_fitting : Nat) (a_told_nearly : Nat) (a_trials__size : Int32) (a_trials__fewest : Int32) (a_trials__honest : Int32) (a_trials_pair : Nat) (a_trials_one : Nat) (a_trials_other : Nat) (a_trials_fitted : Nat) (a_trials_one_c : Nat → Int32) (a_trials_other_c : Nat → Int32) (a_trials_fitted_c : Nat → Int32) (h_a_told__halves : IV 0 12 a_told__halves) (h_a_trials__size : IV 0 12 a_trials__size) (h_a_trials_one_c : CI 12 0 11 a_trials_one_c) (h_a_trials_other_c : CI 12 0 11 a_trials_other_c) (sz : Nat) : Met l yX11_trial (hz_w yX11_trial cX11_trial 4 (some .int)) ({ frames := 2, cells := 0, slots := 0, locals := 43 }) (va_Pc [.ref a, .int p0, .int p1, .int p2] (hz_C D cs kK kV sz [(a, .inr (11, [.ref a_tape, .ref a_fairReader, .ref a_ruleReader, .ref a_rules, .int a__ruleCount, .ref a_told, .ref a_scene, .ref a_spare, .ref a_past, .int a__pastFirst, .int a__pastCount, .ref a_trials, .ref a_images, .ref a_pairs, .ref a_walker, .ref a_market, .int a__x])), (a_told, .inr (8, [.int a_told__stalls, .int a_told__shift, .int a_told__halves, .int a_told__buyers, .int a_told__near, .int a_told__dusk, .int a_told__duskPrice, .int a_told__hear, .int a_told__forged, .ref a_told_stall, .ref a_told_shape, .ref a_told_side, .ref a_told_price, .ref a_told_purse, .ref a_told_spot, .ref a_told_club, .ref a_told_fitting, .ref a_told_nearly])), (a_trials, .inr (9, [.int a_trials__size, .int a_trials__fewest, .int a_trials__honest, .ref a_trials_pair, .ref a_trials_one, .ref a_trials_other, .ref a_trials_fitted])), (a_trials_one, .inl (cs 0, 12, .inl a_trials_one_c)), (a_trials_other, .inl (cs 0, 12, .inl a_trials_other_c)), (a_trials_fitted, .inl (cs 2, 12, .inl a_trials_fitted_c))])) (va_Qi (fun (r : Int32) (_ : Unit) => (r = (-2) ∧ IV (-2147483648) 2147483647 p0) ∨ (r = 0 ∧ IV (-1) (-1) p0) ∨ (IV 1 12 r ∧ IV 1 12 a_told__halves ∧ IV 0 11 a_trials__size ∧ IV 0 11 p0 ∧ IV 0 11 p1)) (fun _ t => ∃ (o_a_trials_0 : Int32), ∃ (o_a_trials_fitted_c : Nat → Int32), ∃ (o_a_trials_one_c : Nat → Int32), ∃ (o_a_trials_other_c : Nat → Int32), IV 0 12 o_a_trials_0 ∧ CI 12 0 11 o_a_trials_one_c ∧ CI 12 0 11 o_a_trials_other_c ∧ va_P D classes [(a, .inr (11, [.ref a_tape, .ref a_fairReader, .ref a_ruleReader, .ref a_rules, .int a__ruleCount, .ref a_told, .ref a_scene, .ref a_spare, .ref a_past, .int a__pastFirst, .int a__pastCount, .ref a_trials, .ref a_images, .ref a_pairs, .ref a_walker, .ref a_market, .int a__x])), (a_told, .inr (8, [.int a_told__stalls, .int a_told__shift, .int a_told__halves, .int a_told__buyers, .int a_told__near, .int a_told__dusk, .int a_told__duskPrice, .int a_told__hear, .int a_told__forged, .ref a_told_stall, .ref a_told_shape, .ref a_told_side, .ref a_told_price, .ref a_told_purse, .ref a_told_spot, .ref a_told_club, .ref a_told_fitting, .ref a_told_nearly])), (a_trials, .inr (9, [.int o_a_trials_0, .int a_trials__fewest, .int a_trials__honest, .ref a_trials_pair, .ref a_trials_one, .ref a_trials_other, .ref a_trials_fitted])), (a_trials_one, .inl (cs 0, 12, .inl o_a_trials_one_c)), (a_trials_other, .inl (cs 0, 12, .inl o_a_trials_other_c)), (a_trials_fitted, .inl (cs 2, 12, .inl o_a_trials_fitted_c))] t.heap ∧ va_D (va_A [(a, .inr (11, [.ref a_tape, .ref a_fairReader, .ref a_ruleReader, .ref a_rules, .int a__ruleCount, .ref a_told, .ref a_scene, .ref a_spare, .ref a_past, .int a__pastFirst, .int a__pastCount, .ref a_trials, .ref a_images, .ref a_pairs, .ref a_walker, .ref a_market, .int a__x])), (a_told, .inr (8, [.int a_told__stalls, .int a_told__shift, .int a_told__halves, .int a_told__buyers, .int a_told__near, .int a_told__dusk, .int a_told__duskPrice, .int a_told__hear, .int a_told__forged, .ref a_told_stall, .ref a_told_shape, .ref a_told_side, .ref a_told_price, .ref a_told_purse, .ref a_told_spot, .ref a_told_club, .ref a_told_fitting, .ref a_told_nearly])), (a_trials, .inr (9, [.int a_trials__size, .int a_trials__fewest, .int a_trials__honest, .ref a_trials_pair, .ref a_trials_one, .ref a_trials_other, .ref a_trials_fitted])), (a_trials_one, .inl (cs 0, 12, .inl a_trials_one_c)), (a_trials_other, .inl (cs 0, 12, .inl a_trials_other_c)), (a_trials_fitted, .inl (cs 2, 12, .inl a_trials_fitted_c))] sz) [(a, .inr (11, [.ref a_tape, .ref a_fairReader, .ref a_ruleReader, .ref a_rules, .int a__ruleCount, .ref a_told, .ref a_scene, .ref a_spare, .ref a_past, .int a__pastFirst, .int a__pastCount, .ref a_trials, .ref a_images, .ref a_pairs, .ref a_walker, .ref a_market, .int a__x])), (a_told, .inr (8, [.int a_told__stalls, .int a_told__shift, .int a_told__halves, .int a_told__buyers, .int a_told__near, .int a_told__dusk, .int a_told__duskPrice, .int a_told__hear, .int a_told__forged, .ref a_told_stall, .ref a_told_shape, .ref a_told_side, .ref a_told_price, .ref a_told_purse, .ref a_told_spot, .ref a_told_club, .ref a_told_fitting, .ref a_told_nearly])), (a_trials, .inr (9, [.int o_a_trials_0, .int a_trials__fewest, .int a_trials__honest, .ref a_trials_pair, .ref a_trials_one, .ref a_trials_other, .ref a_trials_fitted])), (a_trials_one, .inl (cs 0, 12, .inl o_a_trials_one_c)), (a_trials_other, .inl (cs 0, 12, .inl o_a_trials_other_c)), (a_trials_fitted, .inl (cs 2, 12, .inl o_a_trials_fitted_c))]) (va_A [(a, .inr (11, [.ref a_tape, .ref a_fairReader, .ref a_ruleReader, .ref a_rules, .int a__ruleCount, .ref a_told, .ref a_scene, .ref a_spare, .ref a_past, .int a__pastFirst, .int a__pastCount, .ref a_trials, .ref a_images, .ref a_pairs, .ref a_walker, .ref a_market, .int a__x])), (a_told, .inr (8, [.int a_told__stalls, .int a_told__shift, .int a_told__halves, .int a_told__buyers, .int a_told__near, .int a_told__dusk, .int a_told__duskPrice, .int a_told__hear, .int a_told__forged, .ref a_told_stall, .ref a_told_shape, .ref a_told_side, .ref a_told_price, .ref a_told_purse, .ref a_told_spot, .ref a_told_club, .ref a_told_fitting, .ref a_told_nearly])), (a_trials, .inr (9, [.int a_trials__size, .int a_trials__fewest, .int a_trials__honest, .ref a_trials_pair, .ref a_trials_one, .ref a_trials_other, .ref a_trials_fitted])), (a_trials_one, .inl (cs 0, 12, .inl a_trials_one_c)), (a_trials_other, .inl (cs 0, 12, .inl a_trials_other_c)), (a_trials_fitted, .inl (cs 2, 12, .inl a_trials_fitted_c))] sz)) 0 0 (va_A [(a, .inr (11, [.ref a_tape, .ref a_fairReader, .ref a_ruleReader, .ref a_rules, .int a__ruleCount, .ref a_told, .ref a_scene, .ref a_spare, .ref a_past, .int a__pastFirst, .int a__pastCount, .ref a_trials, .ref a_images, .ref a_pairs, .ref a_walker, .ref a_market, .int a__x])), (a_told, .inr (8, [.int a_told__stalls, .int a_told__shift, .int a_told__halves, .int a_told__buyers, .int a_told__near, .int a_told__dusk, .int a_told__duskPrice, .int a_told__hear, .int a_told__forged, .ref a_told_stall, .ref a_told_shape, .ref a_told_side, .ref a_told_price, .ref a_told_purse, .ref a_told_spot, .ref a_told_club, .ref a_told_fitting, .ref a_told_nearly])), (a_trials, .inr (9, [.int a_trials__size, .int a_trials__fewest, .int a_trials__honest, .ref a_trials_pair, .ref a_trials_one, .ref a_trials_other, .ref a_trials_fitted])), (a_trials_one, .inl (cs 0, 12, .inl a_trials_one_c)), (a_trials_other, .inl (cs 0, 12, .inl a_trials_other_c)), (a_trials_fitted, .inl (cs 2, 12, .inl a_trials_fitted_c))] sz) := by
  refine Met.ofW (cc := cX11_trial) (maxL := 4) (ret := (some .int)) (by decide) rfl ?_
  intro p e s m args below meth c s₁ B hml hv
  obtain ⟨rfl, hsz, hP, hD0, hE⟩ := hv
  have hx := B.exec
  have hb := B.bytes
  have hr := B.returns
  have hT : ∀ w ∈ TB, w.before _ s = true := fun w h => atoms_spec (ws := hz_w yX11_trial cX11_trial 4 (some .int)) B.pre w (List.mem_cons_of_mem _ h)
  have hown : s.vm.findClass RX11 = some m.cls := findClass_of_methodNamed B.named
  have hlocks := B.notSynchronized
  clear B
  subst hsz
  have hD := hD0.self (sz := s.heap.size)
  generalize hAe : va_A [(a, .inr (11, [.ref a_tape, .ref a_fairReader, .ref a_ruleReader, .ref a_rules, .int a__ruleCount, .ref a_told, .ref a_scene, .ref a_spare, .ref a_past, .int a__pastFirst, .int a__pastCount, .ref a_trials, .ref a_images, .ref a_pairs, .ref a_walker, .ref a_market, .int a__x])), (a_told, .inr (8, [.int a_told__stalls, .int a_told__shift, .int a_told__halves, .int a_told__buyers, .int a_told__near, .int a_told__dusk, .int a_told__duskPrice, .int a_told__hear, .int a_told__forged, .ref a_told_stall, .ref a_told_shape, .ref a_told_side, .ref a_told_price, .ref a_told_purse, .ref a_told_spot, .ref a_told_club, .ref a_told_fitting, .ref a_told_nearly])), (a_trials, .inr (9, [.int a_trials__size, .int a_trials__fewest, .int a_trials__honest, .ref a_trials_pair, .ref a_trials_one, .ref a_trials_other, .ref a_trials_fitted])), (a_trials_one, .inl (cs 0, 12, .inl a_trials_one_c)), (a_trials_other, .inl (cs 0, 12, .inl a_trials_other_c)), (a_trials_fitted, .inl (cs 2, 12, .inl a_trials_fitted_c))] s.heap.size = A at hD hE ⊢
  have hA : ∀ q : Nat, s.heap.size ≤ q → A q := fun q h => by rw [← hAe]; exact Or.inr h
  clear hAe hD0
  have hS : va_S A s.heap s.heap [] := va_S.rf
  have hK := hE.1
  have hl := lv_entry ([.ref a, .int p0, .int p1, .int p2]) (n := 4) (Nat.le_of_ble_eq_true rfl)
  rw [lg_entry_eq]
  generalize (lg_sl ([.ref a, .int p0, .int p1, .int p2]) ++ List.replicate (4 - (lg_sl ([.ref a, .int p0, .int p1, .int p2])).length) Slot.unset).toArray = ls at hl ⊢
  have hl : lv_has ls 4 [(0, .ref a), (1, .int p0), (2, .int p1), (3, .int p2)] := hl
  obtain ⟨H, eH⟩ : ∃ z, z = s.heap := ⟨_, rfl⟩
  have hP : va_P D classes [(a, .inr (11, [.ref a_tape, .ref a_fairReader, .ref a_ruleReader, .ref a_rules, .int a__ruleCount, .ref a_told, .ref a_scene, .ref a_spare, .ref a_past, .int a__pastFirst, .int a__pastCount, .ref a_trials, .ref a_images, .ref a_pairs, .ref a_walker, .ref a_market, .int a__x])), (a_told, .inr (8, [.int a_told__stalls, .int a_told__shift, .int a_told__halves, .int a_told__buyers, .int a_told__near, .int a_told__dusk, .int a_told__duskPrice, .int a_told__hear, .int a_told__forged, .ref a_told_stall, .ref a_told_shape, .ref a_told_side, .ref a_told_price, .ref a_told_purse, .ref a_told_spot, .ref a_told_club, .ref a_told_fitting, .ref a_told_nearly])), (a_trials, .inr (9, [.int a_trials__size, .int a_trials__fewest, .int a_trials__honest, .ref a_trials_pair, .ref a_trials_one, .ref a_trials_other, .ref a_trials_fitted])), (a_trials_one, .inl (cs 0, 12, .inl a_trials_one_c)), (a_trials_other, .inl (cs 0, 12, .inl a_trials_other_c)), (a_trials_fitted, .inl (cs 2, 12, .inl a_trials_fitted_c))] H := by rw [eH]; exact hP
  have hS : va_S A s.heap H [] := by rw [eH]; exact hS
  rw [← eH]
  clear eH
  obtain ⟨locs, el⟩ : ∃ z : List Loc, z = [] := ⟨_, rfl⟩
  rw [← el] at hS ⊢
  clear el
  refine lv_iload_n hx hb dX11_trial_0 rfl (lv_at hl 1 rfl) ?_
  refine lv_iconst (v := (-1)) hx hb dX11_trial_1 (by decide) ?_
  refine lv_icmp_ne (tgt := 15) hx hb dX11_trial_2 (by decide) (fun c1 => ?_) (fun c1 => ?_)
  · refine lv_aload_n hx hb dX11_trial_15 rfl (lv_at hl 0 rfl) ?_
    refine va_get (D := D) (ci := 11) (v := .ref a_told) (C := RX11) (T := TX11) (N := 17) hx hb hT i_X11 hown hK hP 0 rfl rfl 5 (by decide) (hT _ q_4) (fun _ h9 => h9) rfl dX11_trial_16 ?_
    refine lv_iload_n hx hb dX11_trial_19 rfl (lv_at hl 1 rfl) ?_
    refine va_calli (va_runV (As := [.int p0]) (rest := []) ⟨hx, hb, hml, hown, hT⟩ (c_X8_isHalf l D cs kK kV a_told p0 a_told__stalls a_told__shift a_told__halves a_told__buyers a_told__near a_told__dusk a_told__duskPrice a_told__hear a_told__forged a_told_stall a_told_shape a_told_side a_told_price a_told_purse a_told_spot a_told_club a_told_fitting a_told_nearly h_a_told__halves) (cwV 1 hT (hz_gV q_249 q_250 q_252 q_251 q_253) rfl rfl rfl (by decide +kernel) ⟨(Nat.le_of_ble_eq_true rfl), (Nat.le_of_ble_eq_true rfl)⟩) ⟨hz_P.blind, va_recv hK hP (ci := 8) (q0 := 1) rfl rfl, hz_P.mk (hP.sub (ws' := [(a_told, .inr (8, [.int a_told__stalls, .int a_told__shift, .int a_told__halves, .int a_told__buyers, .int a_told__near, .int a_told__dusk, .int a_told__duskPrice, .int a_told__hear, .int a_told__forged, .ref a_told_stall, .ref a_told_shape, .ref a_told_side, .ref a_told_price, .ref a_told_purse, .ref a_told_spot, .ref a_told_club, .ref a_told_fitting, .ref a_told_nearly]))]) [1] rfl) hE hS⟩ rfl rfl hl.1 rfl (lv_room (Nat.le_of_ble_eq_true rfl)) dX11_trial_20 ⟨(Nat.le_of_ble_eq_true rfl), (Nat.le_of_ble_eq_true rfl)⟩) hS (fun _ _ h => h.elim) (fun _ h => h.elim) (fun r2 u t H1 locs ht hvm hw hB hz1 hk1 hS => ?_)
    have hP := hz_keep hP hk1
    clear hk1 hB hz1
    generalize H1 = H at hP hS ⊢
    rcases hw with ⟨rfl, h3⟩ | ⟨rfl, h4, h5⟩
    · refine lv_if_eq (tgt := 52) hx hb dX11_trial_23 (by decide) (fun _ => ?_) (fun z => absurd (by decide) z)
      refine lv_bipush (v := (-2)) hx hb dX11_trial_52 (by decide) ?_
      refine W.widen (k := 0) (n := 0) (Nat.le_of_ble_eq_true rfl) (Nat.le_of_ble_eq_true rfl) ?_
      exact W.iret (v := (-2)) hx hb hr (fun t ht hW => ⟨⟨(-2), (), rfl, (Or.inl (⟨rfl, h3⟩)), a_trials__size, a_trials_fitted_c, a_trials_one_c, a_trials_other_c, h_a_trials__size, h_a_trials_one_c, h_a_trials_other_c, by rw [ht]; exact hP.sub [0, 1, 2, 3, 4, 5] rfl, hD.sub [0, 1, 2, 3, 4, 5] (by decide) rfl⟩, hS.F ht⟩) hS.2.2 dX11_trial_54
    · refine lv_if_eq (tgt := 52) hx hb dX11_trial_23 (by decide) (fun z => absurd z (by decide)) (fun _ => ?_)
      refine lv_aload_n hx hb dX11_trial_26 rfl (lv_at hl 0 rfl) ?_
      refine va_get (D := D) (ci := 11) (v := .ref a_told) (C := RX11) (T := TX11) (N := 17) hx hb hT i_X11 hown hK hP 0 rfl rfl 5 (by decide) (hT _ q_4) (fun _ h9 => h9) rfl dX11_trial_27 ?_
      refine lv_iload_n hx hb dX11_trial_30 rfl (lv_at hl 2 rfl) ?_
      refine va_calli (va_runV (As := [.int p1]) (rest := []) ⟨hx, hb, hml, hown, hT⟩ (c_X8_isHalf l D cs kK kV a_told p1 a_told__stalls a_told__shift a_told__halves a_told__buyers a_told__near a_told__dusk a_told__duskPrice a_told__hear a_told__forged a_told_stall a_told_shape a_told_side a_told_price a_told_purse a_told_spot a_told_club a_told_fitting a_told_nearly ((iv_w h4 (by decide) (by decide)))) (cwV 1 hT (hz_gV q_249 q_250 q_252 q_251 q_253) rfl rfl rfl (by decide +kernel) ⟨(Nat.le_of_ble_eq_true rfl), (Nat.le_of_ble_eq_true rfl)⟩) ⟨hz_P.blind, va_recv hK hP (ci := 8) (q0 := 1) rfl rfl, hz_P.mk (hP.sub (ws' := [(a_told, .inr (8, [.int a_told__stalls, .int a_told__shift, .int a_told__halves, .int a_told__buyers, .int a_told__near, .int a_told__dusk, .int a_told__duskPrice, .int a_told__hear, .int a_told__forged, .ref a_told_stall, .ref a_told_shape, .ref a_told_side, .ref a_told_price, .ref a_told_purse, .ref a_told_spot, .ref a_told_club, .ref a_told_fitting, .ref a_told_nearly]))]) [1] rfl) hE hS⟩ rfl rfl hl.1 rfl (lv_room (Nat.le_of_ble_eq_true rfl)) dX11_trial_31 ⟨(Nat.le_of_ble_eq_true rfl), (Nat.le_of_ble_eq_true rfl)⟩) hS (fun _ _ h => h.elim) (fun _ h => h.elim) (fun r6 u t H1 locs ht hvm hw hB hz1 hk1 hS => ?_)
      have hP := hz_keep hP hk1
      clear hk1 hB hz1
      generalize H1 = H at hP hS ⊢
      rcases hw with ⟨rfl, h7⟩ | ⟨rfl, h8, h9⟩
      · refine lv_if_eq (tgt := 52) hx hb dX11_trial_34 (by decide) (fun _ => ?_) (fun z => absurd (by decide) z)
        refine lv_bipush (v := (-2)) hx hb dX11_trial_52 (by decide) ?_
        refine W.widen (k := 0) (n := 0) (Nat.le_of_ble_eq_true rfl) (Nat.le_of_ble_eq_true rfl) ?_
        exact W.iret (v := (-2)) hx hb hr (fun t ht hW => ⟨⟨(-2), (), rfl, (Or.inl (⟨rfl, (iv_w h5 (by decide) (by decide))⟩)), a_trials__size, a_trials_fitted_c, a_trials_one_c, a_trials_other_c, h_a_trials__size, h_a_trials_one_c, h_a_trials_other_c, by rw [ht]; exact hP.sub [0, 1, 2, 3, 4, 5] rfl, hD.sub [0, 1, 2, 3, 4, 5] (by decide) rfl⟩, hS.F ht⟩) hS.2.2 dX11_trial_54
      · refine lv_if_eq (tgt := 52) hx hb dX11_trial_34 (by decide) (fun z => absurd z (by decide)) (fun _ => ?_)
        refine lv_iload_n hx hb dX11_trial_37 rfl (lv_at hl 1 rfl) ?_
        refine lv_iload_n hx hb dX11_trial_38 rfl (lv_at hl 2 rfl) ?_
        refine lv_icmp_eq (tgt := 52) hx hb dX11_trial_39 (by decide) (fun c10 => ?_) (fun c10 => ?_)
        · refine lv_bipush (v := (-2)) hx hb dX11_trial_52 (by decide) ?_
          refine W.widen (k := 0) (n := 0) (Nat.le_of_ble_eq_true rfl) (Nat.le_of_ble_eq_true rfl) ?_
          exact W.iret (v := (-2)) hx hb hr (fun t ht hW => ⟨⟨(-2), (), rfl, (Or.inl (⟨rfl, (iv_w h5 (by decide) (by decide))⟩)), a_trials__size, a_trials_fitted_c, a_trials_one_c, a_trials_other_c, h_a_trials__size, h_a_trials_one_c, h_a_trials_other_c, by rw [ht]; exact hP.sub [0, 1, 2, 3, 4, 5] rfl, hD.sub [0, 1, 2, 3, 4, 5] (by decide) rfl⟩, hS.F ht⟩) hS.2.2 dX11_trial_54
        · refine lv_aload_n hx hb dX11_trial_42 rfl (lv_at hl 0 rfl) ?_
          refine va_get (D := D) (ci := 11) (v := .ref a_trials) (C := RX11) (T := TX11) (N := 17) hx hb hT i_X11 hown hK hP 0 rfl rfl 11 (by decide) (hT _ q_8) (fun _ h9 => h9) rfl dX11_trial_43 ?_
          refine va_calli (va_runV (As := []) (rest := []) ⟨hx, hb, hml, hown, hT⟩ (c_X9_isFull l D cs kK kV a_trials a_trials__size a_trials__fewest a_trials__honest a_trials_pair a_trials_one a_trials_other a_trials_fitted h_a_trials__size) (cwV 0 hT (hz_gV q_386 q_387 q_389 q_388 q_390) rfl rfl rfl (by decide +kernel) ⟨(Nat.le_of_ble_eq_true rfl), (Nat.le_of_ble_eq_true rfl)⟩) ⟨hz_P.blind, va_recv hK hP (ci := 9) (q0 := 2) rfl rfl, hz_P.mk (hP.sub (ws' := [(a_trials, .inr (9, [.int a_trials__size, .int a_trials__fewest, .int a_trials__honest, .ref a_trials_pair, .ref a_trials_one, .ref a_trials_other, .ref a_trials_fitted]))]) [2] rfl) hE hS⟩ rfl rfl hl.1 rfl (lv_room (Nat.le_of_ble_eq_true rfl)) dX11_trial_46 ⟨(Nat.le_of_ble_eq_true rfl), (Nat.le_of_ble_eq_true rfl)⟩) hS (fun _ _ h => h.elim) (fun _ h => h.elim) (fun r11 u t H1 locs ht hvm hw hB hz1 hk1 hS => ?_)
          have hP := hz_keep hP hk1
          clear hk1 hB hz1
          generalize H1 = H at hP hS ⊢
          rcases hw with ⟨rfl, h12⟩ | ⟨rfl, h13⟩
          · refine lv_if_eq (tgt := 55) hx hb dX11_trial_49 (by decide) (fun _ => ?_) (fun z => absurd (by decide) z)
            refine lv_aload_n hx hb dX11_trial_55 rfl (lv_at hl 0 rfl) ?_
            refine va_get (D := D) (ci := 11) (v := .ref a_trials) (C := RX11) (T := TX11) (N := 17) hx hb hT i_X11 hown hK hP 0 rfl rfl 11 (by decide) (hT _ q_8) (fun _ h9 => h9) rfl dX11_trial_56 ?_
            refine lv_iload_n hx hb dX11_trial_59 rfl (lv_at hl 1 rfl) ?_
            refine lv_iload_n hx hb dX11_trial_60 rfl (lv_at hl 2 rfl) ?_
            refine lv_iload_n hx hb dX11_trial_61 rfl (lv_at hl 3 rfl) ?_
            have hFc := va_free (wc := [(a_trials, .inr (9, [.int a_trials__size, .int a_trials__fewest, .int a_trials__honest, .ref a_trials_pair, .ref a_trials_one, .ref a_trials_other, .ref a_trials_fitted])), (a_trials_one, .inl (cs 0, 12, .inl a_trials_one_c)), (a_trials_other, .inl (cs 0, 12, .inl a_trials_other_c)), (a_trials_fitted, .inl (cs 2, 12, .inl a_trials_fitted_c))]) hD hS hA [2,3,4,5] rfl
            refine va_callv (va_runV (As := [.int p0, .int p1, .int p2]) (rest := []) ⟨hx, hb, hml, hown, hT⟩ (c_X9_add_T l D cs kK kV a_trials p0 p1 p2 a_trials__size a_trials__fewest a_trials__honest a_trials_pair a_trials_one a_trials_other a_trials_fitted a_trials_one_c a_trials_other_c a_trials_fitted_c h5 h9 ((iv_w h12 (by decide) (by decide))) h_a_trials_one_c h_a_trials_other_c H.size) (cwV 3 hT (hz_gV q_391 q_392 q_393 q_388 q_394) rfl rfl rfl (by decide +kernel) ⟨(Nat.le_of_ble_eq_true rfl), (Nat.le_of_ble_eq_true rfl)⟩) ⟨hz_C.blind, va_recv hK hP (ci := 9) (q0 := 2) rfl rfl, hz_C.mk (hP.sub (ws' := [(a_trials, .inr (9, [.int a_trials__size, .int a_trials__fewest, .int a_trials__honest, .ref a_trials_pair, .ref a_trials_one, .ref a_trials_other, .ref a_trials_fitted])), (a_trials_one, .inl (cs 0, 12, .inl a_trials_one_c)), (a_trials_other, .inl (cs 0, 12, .inl a_trials_other_c)), (a_trials_fitted, .inl (cs 2, 12, .inl a_trials_fitted_c))]) [2,3,4,5] rfl) (hD.sub (ws' := [(a_trials, .inr (9, [.int a_trials__size, .int a_trials__fewest, .int a_trials__honest, .ref a_trials_pair, .ref a_trials_one, .ref a_trials_other, .ref a_trials_fitted])), (a_trials_one, .inl (cs 0, 12, .inl a_trials_one_c)), (a_trials_other, .inl (cs 0, 12, .inl a_trials_other_c)), (a_trials_fitted, .inl (cs 2, 12, .inl a_trials_fitted_c))]) [2,3,4,5] (by decide) rfl) hE hS hFc⟩ rfl rfl hl.1 rfl (lv_room (Nat.le_of_ble_eq_true rfl)) dX11_trial_62 ⟨(Nat.le_of_ble_eq_true rfl), (Nat.le_of_ble_eq_true rfl)⟩) hS (fun q _ h => hFc q h) hFc (fun u t H1 locs ht hvm hw hB hz1 hk1 hS => ?_)
            obtain ⟨o15, o16, o17, o18, h19, h20, h21, hP1, hD1⟩ := hB
            rw [ht] at hP1
            obtain ⟨hP, hD⟩ := va_join (wr := [(a, .inr (11, [.ref a_tape, .ref a_fairReader, .ref a_ruleReader, .ref a_rules, .int a__ruleCount, .ref a_told, .ref a_scene, .ref a_spare, .ref a_past, .int a__pastFirst, .int a__pastCount, .ref a_trials, .ref a_images, .ref a_pairs, .ref a_walker, .ref a_market, .int a__x])), (a_told, .inr (8, [.int a_told__stalls, .int a_told__shift, .int a_told__halves, .int a_told__buyers, .int a_told__near, .int a_told__dusk, .int a_told__duskPrice, .int a_told__hear, .int a_told__forged, .ref a_told_stall, .ref a_told_shape, .ref a_told_side, .ref a_told_price, .ref a_told_purse, .ref a_told_spot, .ref a_told_club, .ref a_told_fitting, .ref a_told_nearly]))]) (w1 := [(a_trials, .inr (9, [.int o15, .int a_trials__fewest, .int a_trials__honest, .ref a_trials_pair, .ref a_trials_one, .ref a_trials_other, .ref a_trials_fitted])), (a_trials_one, .inl (cs 0, 12, .inl o17)), (a_trials_other, .inl (cs 0, 12, .inl o18)), (a_trials_fitted, .inl (cs 2, 12, .inl o16))]) hP hD [2, 3, 4, 5] [0, 1] rfl rfl (by decide) (by decide) hk1 hFc hP1 hD1
            generalize H1 = H at hP hS ⊢
            have hP : va_P D classes [(a, .inr (11, [.ref a_tape, .ref a_fairReader, .ref a_ruleReader, .ref a_rules, .int a__ruleCount, .ref a_told, .ref a_scene, .ref a_spare, .ref a_past, .int a__pastFirst, .int a__pastCount, .ref a_trials, .ref a_images, .ref a_pairs, .ref a_walker, .ref a_market, .int a__x])), (a_told, .inr (8, [.int a_told__stalls, .int a_told__shift, .int a_told__halves, .int a_told__buyers, .int a_told__near, .int a_told__dusk, .int a_told__duskPrice, .int a_told__hear, .int a_told__forged, .ref a_told_stall, .ref a_told_shape, .ref a_told_side, .ref a_told_price, .ref a_told_purse, .ref a_told_spot, .ref a_told_club, .ref a_told_fitting, .ref a_told_nearly])), (a_trials, .inr (9, [.int o15, .int a_trials__fewest, .int a_trials__honest, .ref a_trials_pair, .ref a_trials_one, .ref a_trials_other, .ref a_trials_fitted])), (a_trials_one, .inl (cs 0, 12, .inl o17)), (a_trials_other, .inl (cs 0, 12, .inl o18)), (a_trials_fitted, .inl (cs 2, 12, .inl o16))] H := hP
            have hD : va_D A [(a, .inr (11, [.ref a_tape, .ref a_fairReader, .ref a_ruleReader, .ref a_rules, .int a__ruleCount, .ref a_told, .ref a_scene, .ref a_spare, .ref a_past, .int a__pastFirst, .int a__pastCount, .ref a_trials, .ref a_images, .ref a_pairs, .ref a_walker, .ref a_market, .int a__x])), (a_told, .inr (8, [.int a_told__stalls, .int a_told__shift, .int a_told__halves, .int a_told__buyers, .int a_told__near, .int a_told__dusk, .int a_told__duskPrice, .int a_told__hear, .int a_told__forged, .ref a_told_stall, .ref a_told_shape, .ref a_told_side, .ref a_told_price, .ref a_told_purse, .ref a_told_spot, .ref a_told_club, .ref a_told_fitting, .ref a_told_nearly])), (a_trials, .inr (9, [.int o15, .int a_trials__fewest, .int a_trials__honest, .ref a_trials_pair, .ref a_trials_one, .ref a_trials_other, .ref a_trials_fitted])), (a_trials_one, .inl (cs 0, 12, .inl o17)), (a_trials_other, .inl (cs 0, 12, .inl o18)), (a_trials_fitted, .inl (cs 2, 12, .inl o16))] := hD
            clear hk1 hFc hP1 hD1 hz1
            refine lv_aload_n hx hb dX11_trial_65 rfl (lv_at hl 0 rfl) ?_
            refine va_get (D := D) (ci := 11) (v := .ref a_trials) (C := RX11) (T := TX11) (N := 17) hx hb hT i_X11 hown hK hP 0 rfl rfl 11 (by decide) (hT _ q_8) (fun _ h9 => h9) rfl dX11_trial_66 ?_
            refine va_get (D := D) (ci := 9) (v := .int o15) (C := RX9) (T := TX9) (N := 7) hx hb hT i_X9 hown hK hP 2 rfl rfl 0 (by decide) (hT _ q_15) (fun _ h9 => h9) rfl dX11_trial_69 ?_
            refine W.widen (k := 0) (n := 0) (Nat.le_of_ble_eq_true rfl) (Nat.le_of_ble_eq_true rfl) ?_
            exact W.iret (v := o15) hx hb hr (fun t ht hW => ⟨⟨o15, (), rfl, (Or.inr (Or.inr ((⟨h19, h8, h12, h5, h9⟩)))), o15, o16, o17, o18, (iv_w h19 (by decide) (by decide)), h20, h21, by rw [ht]; exact hP.sub [0, 1, 2, 3, 4, 5] rfl, hD.sub [0, 1, 2, 3, 4, 5] (by decide) rfl⟩, hS.F ht⟩) hS.2.2 dX11_trial_72
          · refine lv_if_eq (tgt := 55) hx hb dX11_trial_49 (by decide) (fun z => absurd z (by decide)) (fun _ => ?_)
            refine lv_bipush (v := (-2)) hx hb dX11_trial_52 (by decide) ?_
            refine W.widen (k := 0) (n := 0) (Nat.le_of_ble_eq_true rfl) (Nat.le_of_ble_eq_true rfl) ?_
            exact W.iret (v := (-2)) hx hb hr (fun t ht hW => ⟨⟨(-2), (), rfl, (Or.inl (⟨rfl, (iv_w h5 (by decide) (by decide))⟩)), a_trials__size, a_trials_fitted_c, a_trials_one_c, a_trials_other_c, (iv_w h13 (by decide) (by decide)), h_a_trials_one_c, h_a_trials_other_c, by rw [ht]; exact hP.sub [0, 1, 2, 3, 4, 5] rfl, hD.sub [0, 1, 2, 3, 4, 5] (by decide) rfl⟩, hS.F ht⟩) hS.2.2 dX11_trial_54
  · have h22 : IV (-1) (-1) p0 := iv_eq1 c1 iv_top (iv_c (a := (-1)) (b := (-1)) (by decide)) (by decide) (by decide)
    refine lv_aload_n hx hb dX11_trial_5 rfl (lv_at hl 0 rfl) ?_
    refine va_get (D := D) (ci := 11) (v := .ref a_trials) (C := RX11) (T := TX11) (N := 17) hx hb hT i_X11 hown hK hP 0 rfl rfl 11 (by decide) (hT _ q_8) (fun _ h9 => h9) rfl dX11_trial_6 ?_
    refine lv_iconst (v := 0) hx hb dX11_trial_9 (by decide) ?_
    refine va_put (D := D) (ci := 9) (v := .int 0) (ty := .int) (C := RX9) (T := TX9) (N := 7) hx hb hT i_X9 tyX9 tyX9_ok nmX9 hown hK hP hD hS 2 rfl rfl 0 (by decide) (hT _ q_15) (fun _ h9 => h9) rfl (by decide +kernel) rfl rfl (Nat.le_of_ble_eq_true rfl) dX11_trial_10 (fun H locs hP hD hS => ?_)
    have hP : va_P D classes [(a, .inr (11, [.ref a_tape, .ref a_fairReader, .ref a_ruleReader, .ref a_rules, .int a__ruleCount, .ref a_told, .ref a_scene, .ref a_spare, .ref a_past, .int a__pastFirst, .int a__pastCount, .ref a_trials, .ref a_images, .ref a_pairs, .ref a_walker, .ref a_market, .int a__x])), (a_told, .inr (8, [.int a_told__stalls, .int a_told__shift, .int a_told__halves, .int a_told__buyers, .int a_told__near, .int a_told__dusk, .int a_told__duskPrice, .int a_told__hear, .int a_told__forged, .ref a_told_stall, .ref a_told_shape, .ref a_told_side, .ref a_told_price, .ref a_told_purse, .ref a_told_spot, .ref a_told_club, .ref a_told_fitting, .ref a_told_nearly])), (a_trials, .inr (9, [.int 0, .int a_trials__fewest, .int a_trials__honest, .ref a_trials_pair, .ref a_trials_one, .ref a_trials_other, .ref a_trials_fitted])), (a_trials_one, .inl (cs 0, 12, .inl a_trials_one_c)), (a_trials_other, .inl (cs 0, 12, .inl a_trials_other_c)), (a_trials_fitted, .inl (cs 2, 12, .inl a_trials_fitted_c))] H := hP
    have hD : va_D A [(a, .inr (11, [.ref a_tape, .ref a_fairReader, .ref a_ruleReader, .ref a_rules, .int a__ruleCount, .ref a_told, .ref a_scene, .ref a_spare, .ref a_past, .int a__pastFirst, .int a__pastCount, .ref a_trials, .ref a_images, .ref a_pairs, .ref a_walker, .ref a_market, .int a__x])), (a_told, .inr (8, [.int a_told__stalls, .int a_told__shift, .int a_told__halves, .int a_told__buyers, .int a_told__near, .int a_told__dusk, .int a_told__duskPrice, .int a_told__hear, .int a_told__forged, .ref a_told_stall, .ref a_told_shape, .ref a_told_side, .ref a_told_price, .ref a_told_purse, .ref a_told_spot, .ref a_told_club, .ref a_told_fitting, .ref a_told_nearly])), (a_trials, .inr (9, [.int 0, .int a_trials__fewest, .int a_trials__honest, .ref a_trials_pair, .ref a_trials_one, .ref a_trials_other, .ref a_trials_fitted])), (a_trials_one, .inl (cs 0, 12, .inl a_trials_one_c)), (a_trials_other, .inl (cs 0, 12, .inl a_trials_other_c)), (a_trials_fitted, .inl (cs 2, 12, .inl a_trials_fitted_c))] := hD
    refine lv_iconst (v := 0) hx hb dX11_trial_13 (by decide) ?_
    refine W.widen (k := 0) (n := 0) (Nat.le_of_ble_eq_true rfl) (Nat.le_of_ble_eq_true rfl) ?_
    exact W.iret (v := 0) hx hb hr (fun t ht hW => ⟨⟨0, (), rfl, (Or.inr (Or.inl (⟨rfl, h22⟩))), 0, a_trials_fitted_c, a_trials_one_c, a_trials_other_c, iv_c (by decide), h_a_trials_one_c, h_a_trials_other_c, by rw [ht]; exact hP.sub [0, 1, 2, 3, 4, 5] rfl, hD.sub [0, 1, 2, 3, 4, 5] (by decide) rfl⟩, hS.F ht⟩) hS.2.2 dX11_trial_14
set_option maxHeartbeats 4000000 in
set_option maxRecDepth 100000 in
theorem c_X11_seed_L (l : Launch) (D : va_G) (cs : Nat → ClassId) (kK kV : Nat → Nat) (a : Nat) (p0 : Int32) (h_p0 : IV (-2147483648) (-1) p0) : Met l yX11_seed (hz_w yX11_seed cX11_seed 3 (some .int)) ({ frames := 0, cells := 0, slots := 0, locals := 0 }) (va_Pc [.ref a, .int p0] (hz_P D cs kK kV [])) (va_Qi (fun (r : Int32) (_ : Unit) => (r = (-1))) (fun _ t => True) (fun _ => False)) 0 0 (fun _ => False) := by
  refine Met.ofW (cc := cX11_seed) (maxL := 3) (ret := (some .int)) (by decide) rfl ?_
  intro p e s m args below meth c s₁ B hml hv
  obtain ⟨rfl, hP, hE⟩ := hv
  have hx := B.exec
  have hb := B.bytes
  have hr := B.returns
  have hT : ∀ w ∈ TB, w.before _ s = true := fun w h => atoms_spec (ws := hz_w yX11_seed cX11_seed 3 (some .int)) B.pre w (List.mem_cons_of_mem _ h)
  have hown : s.vm.findClass RX11 = some m.cls := findClass_of_methodNamed B.named
  have hlocks := B.notSynchronized
  clear B
  have hS : va_S (fun _ => False) s.heap s.heap [] := va_S.rf
  have hK := hE.1
  have hl := lv_entry ([.ref a, .int p0]) (n := 3) (Nat.le_of_ble_eq_true rfl)
  rw [lg_entry_eq]
  generalize (lg_sl ([.ref a, .int p0]) ++ List.replicate (3 - (lg_sl ([.ref a, .int p0])).length) Slot.unset).toArray = ls at hl ⊢
  have hl : lv_has ls 3 [(0, .ref a), (1, .int p0)] := hl
  obtain ⟨H, eH⟩ : ∃ z, z = s.heap := ⟨_, rfl⟩
  have hP : va_P D classes [] H := by rw [eH]; exact hP
  have hS : va_S (fun _ => False) s.heap H [] := by rw [eH]; exact hS
  rw [← eH]
  clear eH
  obtain ⟨locs, el⟩ : ∃ z : List Loc, z = [] := ⟨_, rfl⟩
  rw [← el] at hS ⊢
  clear el
  refine lv_iload_n hx hb dX11_seed_0 rfl (lv_at hl 1 rfl) ?_
  refine lv_if_ge (tgt := 6) hx hb dX11_seed_1 (by decide) (fun z => absurd z (iv_leF (iv_c (a := 0) (b := 0) (by decide)) h_p0 (by decide))) (fun _ => ?_)
  refine lv_iconst (v := (-1)) hx hb dX11_seed_4 (by decide) ?_
  exact W.iret (v := (-1)) hx hb hr (fun t ht hW => ⟨⟨(-1), (), rfl, (rfl), trivial⟩, hS.F ht⟩) hS.2.2 dX11_seed_5
set_option maxHeartbeats 4000000 in
set_option maxRecDepth 100000 in
theorem c_X11_seed_H (l : Launch) (D : va_G) (cs : Nat → ClassId) (kK kV : Nat → Nat) (a : Nat) (p0 : Int32) (a_tape : Nat) (a_fairReader : Nat) (a_ruleReader : Nat) (a_rules : Nat) (a__ruleCount : Int32) (a_told : Nat) (a_scene : Nat) (a_spare : Nat) (a_past : Nat) (a__pastFirst : Int32) (a__pastCount : Int32) (a_trials : Nat) (a_images : Nat) (a_pairs : Nat) (a_walker : Nat) (a_market : Nat) (a__x : Int32) (h_p0 : IV 0 2147483647 p0) (sz : Nat) : Met l yX11_seed (hz_w yX11_seed cX11_seed 3 (some .int)) ({ frames := 0, cells := 0, slots := 0, locals := 0 }) (va_Pc [.ref a, .int p0] (hz_C D cs kK kV sz [(a, .inr (11, [.ref a_tape, .ref a_fairReader, .ref a_ruleReader, .ref a_rules, .int a__ruleCount, .ref a_told, .ref a_scene, .ref a_spare, .ref a_past, .int a__pastFirst, .int a__pastCount, .ref a_trials, .ref a_images, .ref a_pairs, .ref a_walker, .ref a_market, .int a__x]))])) (va_Qi (fun (r : Int32) (u : Int32) => r = u) (fun u t => (u = a__x ∧ va_P D classes [(a, .inr (11, [.ref a_tape, .ref a_fairReader, .ref a_ruleReader, .ref a_rules, .int a__ruleCount, .ref a_told, .ref a_scene, .ref a_spare, .ref a_past, .int a__pastFirst, .int a__pastCount, .ref a_trials, .ref a_images, .ref a_pairs, .ref a_walker, .ref a_market, .int p0]))] t.heap ∧ va_D (va_A [(a, .inr (11, [.ref a_tape, .ref a_fairReader, .ref a_ruleReader, .ref a_rules, .int a__ruleCount, .ref a_told, .ref a_scene, .ref a_spare, .ref a_past, .int a__pastFirst, .int a__pastCount, .ref a_trials, .ref a_images, .ref a_pairs, .ref a_walker, .ref a_market, .int a__x]))] sz) [(a, .inr (11, [.ref a_tape, .ref a_fairReader, .ref a_ruleReader, .ref a_rules, .int a__ruleCount, .ref a_told, .ref a_scene, .ref a_spare, .ref a_past, .int a__pastFirst, .int a__pastCount, .ref a_trials, .ref a_images, .ref a_pairs, .ref a_walker, .ref a_market, .int p0]))])) (va_A [(a, .inr (11, [.ref a_tape, .ref a_fairReader, .ref a_ruleReader, .ref a_rules, .int a__ruleCount, .ref a_told, .ref a_scene, .ref a_spare, .ref a_past, .int a__pastFirst, .int a__pastCount, .ref a_trials, .ref a_images, .ref a_pairs, .ref a_walker, .ref a_market, .int a__x]))] sz)) 0 0 (va_A [(a, .inr (11, [.ref a_tape, .ref a_fairReader, .ref a_ruleReader, .ref a_rules, .int a__ruleCount, .ref a_told, .ref a_scene, .ref a_spare, .ref a_past, .int a__pastFirst, .int a__pastCount, .ref a_trials, .ref a_images, .ref a_pairs, .ref a_walker, .ref a_market, .int a__x]))] sz) := by
  refine Met.ofW (cc := cX11_seed) (maxL := 3) (ret := (some .int)) (by decide) rfl ?_
  intro p e s m args below meth c s₁ B hml hv
  obtain ⟨rfl, hsz, hP, hD0, hE⟩ := hv
  have hx := B.exec
  have hb := B.bytes
  have hr := B.returns
  have hT : ∀ w ∈ TB, w.before _ s = true := fun w h => atoms_spec (ws := hz_w yX11_seed cX11_seed 3 (some .int)) B.pre w (List.mem_cons_of_mem _ h)
  have hown : s.vm.findClass RX11 = some m.cls := findClass_of_methodNamed B.named
  have hlocks := B.notSynchronized
  clear B
  subst hsz
  have hD := hD0.self (sz := s.heap.size)
  generalize hAe : va_A [(a, .inr (11, [.ref a_tape, .ref a_fairReader, .ref a_ruleReader, .ref a_rules, .int a__ruleCount, .ref a_told, .ref a_scene, .ref a_spare, .ref a_past, .int a__pastFirst, .int a__pastCount, .ref a_trials, .ref a_images, .ref a_pairs, .ref a_walker, .ref a_market, .int a__x]))] s.heap.size = A at hD hE ⊢
  have hA : ∀ q : Nat, s.heap.size ≤ q → A q := fun q h => by rw [← hAe]; exact Or.inr h
  clear hAe hD0
  have hS : va_S A s.heap s.heap [] := va_S.rf
  have hK := hE.1
  have hl := lv_entry ([.ref a, .int p0]) (n := 3) (Nat.le_of_ble_eq_true rfl)
  rw [lg_entry_eq]
  generalize (lg_sl ([.ref a, .int p0]) ++ List.replicate (3 - (lg_sl ([.ref a, .int p0])).length) Slot.unset).toArray = ls at hl ⊢
  have hl : lv_has ls 3 [(0, .ref a), (1, .int p0)] := hl
  obtain ⟨H, eH⟩ : ∃ z, z = s.heap := ⟨_, rfl⟩
  have hP : va_P D classes [(a, .inr (11, [.ref a_tape, .ref a_fairReader, .ref a_ruleReader, .ref a_rules, .int a__ruleCount, .ref a_told, .ref a_scene, .ref a_spare, .ref a_past, .int a__pastFirst, .int a__pastCount, .ref a_trials, .ref a_images, .ref a_pairs, .ref a_walker, .ref a_market, .int a__x]))] H := by rw [eH]; exact hP
  have hS : va_S A s.heap H [] := by rw [eH]; exact hS
  rw [← eH]
  clear eH
  obtain ⟨locs, el⟩ : ∃ z : List Loc, z = [] := ⟨_, rfl⟩
  rw [← el] at hS ⊢
  clear el
  refine lv_iload_n hx hb dX11_seed_0 rfl (lv_at hl 1 rfl) ?_
  refine lv_if_ge (tgt := 6) hx hb dX11_seed_1 (by decide) (fun _ => ?_) (fun z => absurd (iv_leT (iv_c (a := 0) (b := 0) (by decide)) h_p0 (by decide)) z)
  refine lv_aload_n hx hb dX11_seed_6 rfl (lv_at hl 0 rfl) ?_
  refine va_get (D := D) (ci := 11) (v := .int a__x) (C := RX11) (T := TX11) (N := 17) hx hb hT i_X11 hown hK hP 0 rfl rfl 16 (by decide) (hT _ q_36) (fun _ h9 => h9) rfl dX11_seed_7 ?_
  refine lv_istore_n (lv' := [(2, .int a__x), (0, .ref a), (1, .int p0)]) hx hb dX11_seed_10 rfl hl (by decide) rfl (fun ls hl => ?_)
  refine lv_aload_n hx hb dX11_seed_11 rfl (lv_at hl 1 rfl) ?_
  refine lv_iload_n hx hb dX11_seed_12 rfl (lv_at hl 2 rfl) ?_
  refine va_put (D := D) (ci := 11) (v := .int p0) (ty := .int) (C := RX11) (T := TX11) (N := 17) hx hb hT i_X11 tyX11 tyX11_ok nmX11 hown hK hP hD hS 0 rfl rfl 16 (by decide) (hT _ q_36) (fun _ h9 => h9) rfl (by decide +kernel) rfl rfl (Nat.le_of_ble_eq_true rfl) dX11_seed_13 (fun H locs hP hD hS => ?_)
  have hP : va_P D classes [(a, .inr (11, [.ref a_tape, .ref a_fairReader, .ref a_ruleReader, .ref a_rules, .int a__ruleCount, .ref a_told, .ref a_scene, .ref a_spare, .ref a_past, .int a__pastFirst, .int a__pastCount, .ref a_trials, .ref a_images, .ref a_pairs, .ref a_walker, .ref a_market, .int p0]))] H := hP
  have hD : va_D A [(a, .inr (11, [.ref a_tape, .ref a_fairReader, .ref a_ruleReader, .ref a_rules, .int a__ruleCount, .ref a_told, .ref a_scene, .ref a_spare, .ref a_past, .int a__pastFirst, .int a__pastCount, .ref a_trials, .ref a_images, .ref a_pairs, .ref a_walker, .ref a_market, .int p0]))] := hD
  refine lv_iload_n hx hb dX11_seed_16 rfl (lv_at hl 0 rfl) ?_
  refine W.widen (k := 0) (n := 0) (Nat.le_of_ble_eq_true rfl) (Nat.le_of_ble_eq_true rfl) ?_
  exact W.iret (v := a__x) hx hb hr (fun t ht hW => ⟨⟨a__x, a__x, rfl, rfl, ⟨rfl, by rw [ht]; exact hP.sub [0] rfl, hD.sub [0] (by decide) rfl⟩⟩, hS.F ht⟩) hS.2.2 dX11_seed_17
