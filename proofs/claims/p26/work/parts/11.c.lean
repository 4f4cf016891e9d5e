theorem dX8_joinClubs_0 : decode cX8_joinClubs 0 = .ok (.aload_n 0, 1) := by decide +kernel
theorem dX8_joinClubs_1 : decode cX8_joinClubs 1 = .ok (.getfield 40, 3) := by decide +kernel
theorem dX8_joinClubs_4 : decode cX8_joinClubs 4 = .ok (.iload_n 1, 1) := by decide +kernel
theorem dX8_joinClubs_5 : decode cX8_joinClubs 5 = .ok (.iaload, 1) := by decide +kernel
theorem dX8_joinClubs_6 : decode cX8_joinClubs 6 = .ok (.aload_n 0, 1) := by decide +kernel
theorem dX8_joinClubs_7 : decode cX8_joinClubs 7 = .ok (.getfield 40, 3) := by decide +kernel
theorem dX8_joinClubs_10 : decode cX8_joinClubs 10 = .ok (.iload_n 2, 1) := by decide +kernel
theorem dX8_joinClubs_11 : decode cX8_joinClubs 11 = .ok (.iaload, 1) := by decide +kernel
theorem dX8_joinClubs_12 : decode cX8_joinClubs 12 = .ok (.ior, 1) := by decide +kernel
theorem dX8_joinClubs_13 : decode cX8_joinClubs 13 = .ok (.istore_n 3, 1) := by decide +kernel
theorem dX8_joinClubs_14 : decode cX8_joinClubs 14 = .ok (.iconst 0, 1) := by decide +kernel
theorem dX8_joinClubs_15 : decode cX8_joinClubs 15 = .ok (.istore 4, 2) := by decide +kernel
theorem dX8_joinClubs_17 : decode cX8_joinClubs 17 = .ok (.iload 4, 2) := by decide +kernel
theorem dX8_joinClubs_19 : decode cX8_joinClubs 19 = .ok (.aload_n 0, 1) := by decide +kernel
theorem dX8_joinClubs_20 : decode cX8_joinClubs 20 = .ok (.getfield 52, 3) := by decide +kernel
theorem dX8_joinClubs_23 : decode cX8_joinClubs 23 = .ok (.if_icmp .ge 27, 3) := by decide +kernel
theorem dX8_joinClubs_26 : decode cX8_joinClubs 26 = .ok (.iload_n 3, 1) := by decide +kernel
theorem dX8_joinClubs_27 : decode cX8_joinClubs 27 = .ok (.iload 4, 2) := by decide +kernel
theorem dX8_joinClubs_29 : decode cX8_joinClubs 29 = .ok (.ishr, 1) := by decide +kernel
theorem dX8_joinClubs_30 : decode cX8_joinClubs 30 = .ok (.iconst 1, 1) := by decide +kernel
theorem dX8_joinClubs_31 : decode cX8_joinClubs 31 = .ok (.iand, 1) := by decide +kernel
theorem dX8_joinClubs_32 : decode cX8_joinClubs 32 = .ok (.iconst 1, 1) := by decide +kernel
theorem dX8_joinClubs_33 : decode cX8_joinClubs 33 = .ok (.if_icmp .ne 11, 3) := by decide +kernel
theorem dX8_joinClubs_36 : decode cX8_joinClubs 36 = .ok (.aload_n 0, 1) := by decide +kernel
theorem dX8_joinClubs_37 : decode cX8_joinClubs 37 = .ok (.getfield 40, 3) := by decide +kernel
theorem dX8_joinClubs_40 : decode cX8_joinClubs 40 = .ok (.iload 4, 2) := by decide +kernel
theorem dX8_joinClubs_42 : decode cX8_joinClubs 42 = .ok (.iload_n 3, 1) := by decide +kernel
theorem dX8_joinClubs_43 : decode cX8_joinClubs 43 = .ok (.iastore, 1) := by decide +kernel
theorem dX8_joinClubs_44 : decode cX8_joinClubs 44 = .ok (.iinc 4 1, 3) := by decide +kernel
theorem dX8_joinClubs_47 : decode cX8_joinClubs 47 = .ok (.goto (-30), 3) := by decide +kernel
theorem dX8_joinClubs_50 : decode cX8_joinClubs 50 = .ok (.return_, 1) := by decide +kernel
set_option maxHeartbeats 4000000 in
set_option maxRecDepth 100000 in
theorem c_X8_joinClubs (l : Launch) (D : va_G) (cs : Nat → ClassId) (kK kV : Nat → Nat) (a : Nat) (p0 : Int32) (p1 : Int32) (a__stalls : Int32) (a__shift : Int32) (a__halves : Int32) (a__buyers : Int32) (a__near : Int32) (a__dusk : Int32) (a__duskPrice : Int32) (a__hear : Int32) (a__forged : Int32) (a_stall : Nat) (a_shape : Nat) (a_side : Nat) (a_price : Nat) (a_purse : Nat) (a_spot : Nat) (a_club : Nat) (a_fitting : Nat) (a_nearly : Nat) (a_club_c : Nat → Int32) (h_p0 : IV 0 3 p0) (h_p1 : IV 0 3 p1) (h_a__buyers : IV 0 4 a__buyers) (sz : Nat) : Met l yX8_joinClubs (hz_w yX8_joinClubs cX8_joinClubs 5 none) ({ frames := 0, cells := 0, slots := 0, locals := 0 }) (va_Pc [.ref a, .int p0, .int p1] (hz_C D cs kK kV sz [(a, .inr (8, [.int a__stalls, .int a__shift, .int a__halves, .int a__buyers, .int a__near, .int a__dusk, .int a__duskPrice, .int a__hear, .int a__forged, .ref a_stall, .ref a_shape, .ref a_side, .ref a_price, .ref a_purse, .ref a_spot, .ref a_club, .ref a_fitting, .ref a_nearly])), (a_club, .inl (cs 0, 4, .inl a_club_c))])) (va_Qv (fun (_ : Unit) => True) (fun _ t => ∃ (o_a_club_c : Nat → Int32), va_P D classes [(a, .inr (8, [.int a__stalls, .int a__shift, .int a__halves, .int a__buyers, .int a__near, .int a__dusk, .int a__duskPrice, .int a__hear, .int a__forged, .ref a_stall, .ref a_shape, .ref a_side, .ref a_price, .ref a_purse, .ref a_spot, .ref a_club, .ref a_fitting, .ref a_nearly])), (a_club, .inl (cs 0, 4, .inl o_a_club_c))] t.heap ∧ va_D (va_A [(a, .inr (8, [.int a__stalls, .int a__shift, .int a__halves, .int a__buyers, .int a__near, .int a__dusk, .int a__duskPrice, .int a__hear, .int a__forged, .ref a_stall, .ref a_shape, .ref a_side, .ref a_price, .ref a_purse, .ref a_spot, .ref a_club, .ref a_fitting, .ref a_nearly])), (a_club, .inl (cs 0, 4, .inl a_club_c))] sz) [(a, .inr (8, [.int a__stalls, .int a__shift, .int a__halves, .int a__buyers, .int a__near, .int a__dusk, .int a__duskPrice, .int a__hear, .int a__forged, .ref a_stall, .ref a_shape, .ref a_side, .ref a_price, .ref a_purse, .ref a_spot, .ref a_club, .ref a_fitting, .ref a_nearly])), (a_club, .inl (cs 0, 4, .inl o_a_club_c))]) (va_A [(a, .inr (8, [.int a__stalls, .int a__shift, .int a__halves, .int a__buyers, .int a__near, .int a__dusk, .int a__duskPrice, .int a__hear, .int a__forged, .ref a_stall, .ref a_shape, .ref a_side, .ref a_price, .ref a_purse, .ref a_spot, .ref a_club, .ref a_fitting, .ref a_nearly])), (a_club, .inl (cs 0, 4, .inl a_club_c))] sz)) 0 0 (va_A [(a, .inr (8, [.int a__stalls, .int a__shift, .int a__halves, .int a__buyers, .int a__near, .int a__dusk, .int a__duskPrice, .int a__hear, .int a__forged, .ref a_stall, .ref a_shape, .ref a_side, .ref a_price, .ref a_purse, .ref a_spot, .ref a_club, .ref a_fitting, .ref a_nearly])), (a_club, .inl (cs 0, 4, .inl a_club_c))] sz) := by
  refine Met.ofW (cc := cX8_joinClubs) (maxL := 5) (ret := none) (by decide) rfl ?_
  intro p e s m args below meth c s₁ B hml hv
  obtain ⟨rfl, hsz, hP, hD0, hE⟩ := hv
  have hx := B.exec
  have hb := B.bytes
  have hr := B.returns
  have hT : ∀ w ∈ TB, w.before _ s = true := fun w h => atoms_spec (ws := hz_w yX8_joinClubs cX8_joinClubs 5 none) B.pre w (List.mem_cons_of_mem _ h)
  have hown : s.vm.findClass RX8 = some m.cls := findClass_of_methodNamed B.named
  have hlocks := B.notSynchronized
  clear B
  subst hsz
  have hD := hD0.self (sz := s.heap.size)
  generalize hAe : va_A [(a, .inr (8, [.int a__stalls, .int a__shift, .int a__halves, .int a__buyers, .int a__near, .int a__dusk, .int a__duskPrice, .int a__hear, .int a__forged, .ref a_stall, .ref a_shape, .ref a_side, .ref a_price, .ref a_purse, .ref a_spot, .ref a_club, .ref a_fitting, .ref a_nearly])), (a_club, .inl (cs 0, 4, .inl a_club_c))] s.heap.size = A at hD hE ⊢
  have hA : ∀ q : Nat, s.heap.size ≤ q → A q := fun q h => by rw [← hAe]; exact Or.inr h
  clear hAe hD0
  have hS : va_S A s.heap s.heap [] := va_S.rf
  have hK := hE.1
  have hl := lv_entry ([.ref a, .int p0, .int p1]) (n := 5) (Nat.le_of_ble_eq_true rfl)
  rw [lg_entry_eq]
  generalize (lg_sl ([.ref a, .int p0, .int p1]) ++ List.replicate (5 - (lg_sl ([.ref a, .int p0, .int p1])).length) Slot.unset).toArray = ls at hl ⊢
  have hl : lv_has ls 5 [(0, .ref a), (1, .int p0), (2, .int p1)] := hl
  obtain ⟨H, eH⟩ : ∃ z, z = s.heap := ⟨_, rfl⟩
  have hP : va_P D classes [(a, .inr (8, [.int a__stalls, .int a__shift, .int a__halves, .int a__buyers, .int a__near, .int a__dusk, .int a__duskPrice, .int a__hear, .int a__forged, .ref a_stall, .ref a_shape, .ref a_side, .ref a_price, .ref a_purse, .ref a_spot, .ref a_club, .ref a_fitting, .ref a_nearly])), (a_club, .inl (cs 0, 4, .inl a_club_c))] H := by rw [eH]; exact hP
  have hS : va_S A s.heap H [] := by rw [eH]; exact hS
  rw [← eH]
  clear eH
  obtain ⟨locs, el⟩ : ∃ z : List Loc, z = [] := ⟨_, rfl⟩
  rw [← el] at hS ⊢
  clear el
  have K17 : ∀ (n : Nat) (k17_L_4 : Int32) (k17_L_3 : Int32) (k17_C_a_club : Nat → Int32), (4 - k17_L_4.toInt + 1).toNat ≤ n → IV 0 4 k17_L_4 → ∀ (H : Heap) (locs : List Loc), va_P D classes [(a, .inr (8, [.int a__stalls, .int a__shift, .int a__halves, .int a__buyers, .int a__near, .int a__dusk, .int a__duskPrice, .int a__hear, .int a__forged, .ref a_stall, .ref a_shape, .ref a_side, .ref a_price, .ref a_purse, .ref a_spot, .ref a_club, .ref a_fitting, .ref a_nearly])), (a_club, .inl (cs 0, 4, .inl k17_C_a_club))] H → va_D A [(a, .inr (8, [.int a__stalls, .int a__shift, .int a__halves, .int a__buyers, .int a__near, .int a__dusk, .int a__duskPrice, .int a__hear, .int a__forged, .ref a_stall, .ref a_shape, .ref a_side, .ref a_price, .ref a_purse, .ref a_spot, .ref a_club, .ref a_fitting, .ref a_nearly])), (a_club, .inl (cs 0, 4, .inl k17_C_a_club))] → va_S A s.heap H locs → ∀ ls : Array Slot, lv_has ls 5 [(4, .int k17_L_4), (3, .int k17_L_3), (0, .ref a), (1, .int p0), (2, .int p1)] → W p l e (headSpec (hz_w yX8_joinClubs cX8_joinClubs 5 none) ({ frames := 0, cells := 0, slots := 0, locals := 0 })).room s m [.ref a, .int p0, .int p1].toArray below meth c H locs 0 0 (MQ below (va_Qv (fun (_ : Unit) => True) (fun _ t => ∃ (o_a_club_c : Nat → Int32), va_P D classes [(a, .inr (8, [.int a__stalls, .int a__shift, .int a__halves, .int a__buyers, .int a__near, .int a__dusk, .int a__duskPrice, .int a__hear, .int a__forged, .ref a_stall, .ref a_shape, .ref a_side, .ref a_price, .ref a_purse, .ref a_spot, .ref a_club, .ref a_fitting, .ref a_nearly])), (a_club, .inl (cs 0, 4, .inl o_a_club_c))] t.heap ∧ va_D A [(a, .inr (8, [.int a__stalls, .int a__shift, .int a__halves, .int a__buyers, .int a__near, .int a__dusk, .int a__duskPrice, .int a__hear, .int a__forged, .ref a_stall, .ref a_shape, .ref a_side, .ref a_price, .ref a_purse, .ref a_spot, .ref a_club, .ref a_fitting, .ref a_nearly])), (a_club, .inl (cs 0, 4, .inl o_a_club_c))]) A) [.ref a, .int p0, .int p1].toArray s 0 0 A) (F0 m 17 ls []) := by
    intro n
    induction n with
    | zero =>
      intro k17_L_4 k17_L_3 k17_C_a_club hn q17_3 H locs hP hD hS ls hl
      exact absurd hn (by unfold IV at q17_3; omega)
    | succ n ih17 =>
      intro k17_L_4 k17_L_3 k17_C_a_club hn q17_3 H locs hP hD hS ls hl
      have K44 : ∀ (k44_C_a_club : Nat → Int32), IV 1 4 a__buyers → IV 0 3 k17_L_4 → ∀ (H : Heap) (locs : List Loc), va_P D classes [(a, .inr (8, [.int a__stalls, .int a__shift, .int a__halves, .int a__buyers, .int a__near, .int a__dusk, .int a__duskPrice, .int a__hear, .int a__forged, .ref a_stall, .ref a_shape, .ref a_side, .ref a_price, .ref a_purse, .ref a_spot, .ref a_club, .ref a_fitting, .ref a_nearly])), (a_club, .inl (cs 0, 4, .inl k44_C_a_club))] H → va_D A [(a, .inr (8, [.int a__stalls, .int a__shift, .int a__halves, .int a__buyers, .int a__near, .int a__dusk, .int a__duskPrice, .int a__hear, .int a__forged, .ref a_stall, .ref a_shape, .ref a_side, .ref a_price, .ref a_purse, .ref a_spot, .ref a_club, .ref a_fitting, .ref a_nearly])), (a_club, .inl (cs 0, 4, .inl k44_C_a_club))] → va_S A s.heap H locs → ∀ ls : Array Slot, lv_has ls 5 [(4, .int k17_L_4), (3, .int k17_L_3), (0, .ref a), (1, .int p0), (2, .int p1)] → W p l e (headSpec (hz_w yX8_joinClubs cX8_joinClubs 5 none) ({ frames := 0, cells := 0, slots := 0, locals := 0 })).room s m [.ref a, .int p0, .int p1].toArray below meth c H locs 0 0 (MQ below (va_Qv (fun (_ : Unit) => True) (fun _ t => ∃ (o_a_club_c : Nat → Int32), va_P D classes [(a, .inr (8, [.int a__stalls, .int a__shift, .int a__halves, .int a__buyers, .int a__near, .int a__dusk, .int a__duskPrice, .int a__hear, .int a__forged, .ref a_stall, .ref a_shape, .ref a_side, .ref a_price, .ref a_purse, .ref a_spot, .ref a_club, .ref a_fitting, .ref a_nearly])), (a_club, .inl (cs 0, 4, .inl o_a_club_c))] t.heap ∧ va_D A [(a, .inr (8, [.int a__stalls, .int a__shift, .int a__halves, .int a__buyers, .int a__near, .int a__dusk, .int a__duskPrice, .int a__hear, .int a__forged, .ref a_stall, .ref a_shape, .ref a_side, .ref a_price, .ref a_purse, .ref a_spot, .ref a_club, .ref a_fitting, .ref a_nearly])), (a_club, .inl (cs 0, 4, .inl o_a_club_c))]) A) [.ref a, .int p0, .int p1].toArray s 0 0 A) (F0 m 44 ls []) := by
        intro k44_C_a_club q44_0 q44_3 H locs hP hD hS ls hl
        obtain ⟨v1, ev1⟩ : ∃ z : Int32, z = k17_L_4 + 1 := ⟨_, rfl⟩
        have hv1 : IV 1 4 v1 := iv_add ev1 q44_3 (iv_c (a := 1) (b := 1) (by decide)) (by decide) (by decide)
        have dv1 : v1.toInt = k17_L_4.toInt + 1 := iv_addE ev1 q44_3 (iv_c (a := 1) (b := 1) (by decide)) (by decide) (by decide) (by decide)
        refine lv_iinc (v := v1) (lv' := [(4, .int v1), (3, .int k17_L_3), (0, .ref a), (1, .int p0), (2, .int p1)]) hx hb dX8_joinClubs_44 hl (k := 0) rfl (by rw [ev1]; rfl) (by decide) rfl (fun ls hl => ?_)
        refine lv_goto (tgt := 17) hx hb dX8_joinClubs_47 (by decide) ?_
        exact ih17 v1 k17_L_3 k44_C_a_club (by have h9 := q44_3; unfold IV at h9; have := dv1; omega) (iv_w hv1 (by decide) (by decide)) H locs (hP.sub (ws' := [(a, .inr (8, [.int a__stalls, .int a__shift, .int a__halves, .int a__buyers, .int a__near, .int a__dusk, .int a__duskPrice, .int a__hear, .int a__forged, .ref a_stall, .ref a_shape, .ref a_side, .ref a_price, .ref a_purse, .ref a_spot, .ref a_club, .ref a_fitting, .ref a_nearly])), (a_club, .inl (cs 0, 4, .inl k44_C_a_club))]) [0, 1] rfl) (hD.sub (ws' := [(a, .inr (8, [.int a__stalls, .int a__shift, .int a__halves, .int a__buyers, .int a__near, .int a__dusk, .int a__duskPrice, .int a__hear, .int a__forged, .ref a_stall, .ref a_shape, .ref a_side, .ref a_price, .ref a_purse, .ref a_spot, .ref a_club, .ref a_fitting, .ref a_nearly])), (a_club, .inl (cs 0, 4, .inl k44_C_a_club))]) [0, 1] (by decide) rfl) hS ls (lv_sub hl [0, 1, 2, 3, 4] rfl)
      refine lv_iload hx hb dX8_joinClubs_17 (lv_at hl 0 rfl) ?_
      refine lv_aload_n hx hb dX8_joinClubs_19 rfl (lv_at hl 2 rfl) ?_
      refine va_get (D := D) (ci := 8) (v := .int a__buyers) (C := RX8) (T := TX8) (N := 18) hx hb hT i_X8 hown hK hP 0 rfl rfl 3 (by decide) (hT _ q_144) (fun _ h9 => h9) rfl dX8_joinClubs_20 ?_
      refine lv_icmp_ge (tgt := 50) hx hb dX8_joinClubs_23 (by decide) (fun c2 => ?_) (fun c2 => ?_)
      · refine W.widen (k := 0) (n := 0) (Nat.le_of_ble_eq_true rfl) (Nat.le_of_ble_eq_true rfl) ?_
        exact W.vret hx hb hr (fun t ht hW => ⟨⟨(), rfl, trivial, k17_C_a_club, by rw [ht]; exact hP.sub [0, 1] rfl, hD.sub [0, 1] (by decide) rfl⟩, hS.F ht⟩) hS.2.2 dX8_joinClubs_50
      · have h3 : IV 0 3 k17_L_4 := iv_lt1 (Int32.not_le.mp c2) q17_3 h_a__buyers (by decide)
        have h4 : IV 1 4 a__buyers := iv_lt2 (Int32.not_le.mp c2) q17_3 h_a__buyers (by decide)
        refine lv_iload_n hx hb dX8_joinClubs_26 rfl (lv_at hl 1 rfl) ?_
        refine lv_iload hx hb dX8_joinClubs_27 (lv_at hl 0 rfl) ?_
        refine lv_ishr hx hb dX8_joinClubs_29 ?_
        refine lv_topi (fun v5 ev5 => ?_)
        refine lv_iconst (v := 1) hx hb dX8_joinClubs_30 (by decide) ?_
        refine lv_iand hx hb dX8_joinClubs_31 ?_
        refine lv_topi (fun v6 ev6 => ?_)
        have hv6 : IV 0 1 v6 := iv_and2 ev6 (iv_c (a := 1) (b := 1) (by decide))
        refine lv_iconst (v := 1) hx hb dX8_joinClubs_32 (by decide) ?_
        refine lv_icmp_ne (tgt := 44) hx hb dX8_joinClubs_33 (by decide) (fun c7 => ?_) (fun c7 => ?_)
        · have h8 : IV 0 0 v6 := iv_neR c7 hv6 (by decide)
          exact K44 k17_C_a_club h4 h3 H locs (hP.sub (ws' := [(a, .inr (8, [.int a__stalls, .int a__shift, .int a__halves, .int a__buyers, .int a__near, .int a__dusk, .int a__duskPrice, .int a__hear, .int a__forged, .ref a_stall, .ref a_shape, .ref a_side, .ref a_price, .ref a_purse, .ref a_spot, .ref a_club, .ref a_fitting, .ref a_nearly])), (a_club, .inl (cs 0, 4, .inl k17_C_a_club))]) [0, 1] rfl) (hD.sub (ws' := [(a, .inr (8, [.int a__stalls, .int a__shift, .int a__halves, .int a__buyers, .int a__near, .int a__dusk, .int a__duskPrice, .int a__hear, .int a__forged, .ref a_stall, .ref a_shape, .ref a_side, .ref a_price, .ref a_purse, .ref a_spot, .ref a_club, .ref a_fitting, .ref a_nearly])), (a_club, .inl (cs 0, 4, .inl k17_C_a_club))]) [0, 1] (by decide) rfl) hS ls (lv_sub hl [0, 1, 2, 3, 4] rfl)
        · have h9 : IV 1 1 v6 := iv_eq1 c7 hv6 (iv_c (a := 1) (b := 1) (by decide)) (by decide) (by decide)
          refine lv_aload_n hx hb dX8_joinClubs_36 rfl (lv_at hl 2 rfl) ?_
          refine va_get (D := D) (ci := 8) (v := .ref a_club) (C := RX8) (T := TX8) (N := 18) hx hb hT i_X8 hown hK hP 0 rfl rfl 15 (by decide) (hT _ q_140) (fun _ h9 => h9) rfl dX8_joinClubs_37 ?_
          refine lv_iload hx hb dX8_joinClubs_40 (lv_at hl 0 rfl) ?_
          refine lv_iload_n hx hb dX8_joinClubs_42 rfl (lv_at hl 1 rfl) ?_
          refine va_iast hx hb hK hP hD hS 1 0 rfl rfl (iv_v h3 (by decide) (by decide)) dX8_joinClubs_43 (fun H locs hP hD hS => ?_)
          have hP : va_P D classes [(a, .inr (8, [.int a__stalls, .int a__shift, .int a__halves, .int a__buyers, .int a__near, .int a__dusk, .int a__duskPrice, .int a__hear, .int a__forged, .ref a_stall, .ref a_shape, .ref a_side, .ref a_price, .ref a_purse, .ref a_spot, .ref a_club, .ref a_fitting, .ref a_nearly])), (a_club, .inl (cs 0, 4, .inl (upd k17_C_a_club (Int32.toNatClampNeg k17_L_4) k17_L_3)))] H := hP
          have hD : va_D A [(a, .inr (8, [.int a__stalls, .int a__shift, .int a__halves, .int a__buyers, .int a__near, .int a__dusk, .int a__duskPrice, .int a__hear, .int a__forged, .ref a_stall, .ref a_shape, .ref a_side, .ref a_price, .ref a_purse, .ref a_spot, .ref a_club, .ref a_fitting, .ref a_nearly])), (a_club, .inl (cs 0, 4, .inl (upd k17_C_a_club (Int32.toNatClampNeg k17_L_4) k17_L_3)))] := hD
          generalize upd k17_C_a_club (Int32.toNatClampNeg k17_L_4) k17_L_3 = f10 at hP hD
          exact K44 f10 h4 h3 H locs (hP.sub (ws' := [(a, .inr (8, [.int a__stalls, .int a__shift, .int a__halves, .int a__buyers, .int a__near, .int a__dusk, .int a__duskPrice, .int a__hear, .int a__forged, .ref a_stall, .ref a_shape, .ref a_side, .ref a_price, .ref a_purse, .ref a_spot, .ref a_club, .ref a_fitting, .ref a_nearly])), (a_club, .inl (cs 0, 4, .inl f10))]) [0, 1] rfl) (hD.sub (ws' := [(a, .inr (8, [.int a__stalls, .int a__shift, .int a__halves, .int a__buyers, .int a__near, .int a__dusk, .int a__duskPrice, .int a__hear, .int a__forged, .ref a_stall, .ref a_shape, .ref a_side, .ref a_price, .ref a_purse, .ref a_spot, .ref a_club, .ref a_fitting, .ref a_nearly])), (a_club, .inl (cs 0, 4, .inl f10))]) [0, 1] (by decide) rfl) hS ls (lv_sub hl [0, 1, 2, 3, 4] rfl)
  refine lv_aload_n hx hb dX8_joinClubs_0 rfl (lv_at hl 0 rfl) ?_
  refine va_get (D := D) (ci := 8) (v := .ref a_club) (C := RX8) (T := TX8) (N := 18) hx hb hT i_X8 hown hK hP 0 rfl rfl 15 (by decide) (hT _ q_140) (fun _ h9 => h9) rfl dX8_joinClubs_1 ?_
  refine lv_iload_n hx hb dX8_joinClubs_4 rfl (lv_at hl 1 rfl) ?_
  refine va_iald hx hb hK hP 1 0 rfl rfl (iv_v h_p0 (by decide) (by decide)) dX8_joinClubs_5 ?_
  refine lv_topi (fun v11 ev11 => ?_)
  refine lv_aload_n hx hb dX8_joinClubs_6 rfl (lv_at hl 0 rfl) ?_
  refine va_get (D := D) (ci := 8) (v := .ref a_club) (C := RX8) (T := TX8) (N := 18) hx hb hT i_X8 hown hK hP 0 rfl rfl 15 (by decide) (hT _ q_140) (fun _ h9 => h9) rfl dX8_joinClubs_7 ?_
  refine lv_iload_n hx hb dX8_joinClubs_10 rfl (lv_at hl 2 rfl) ?_
  refine va_iald hx hb hK hP 1 0 rfl rfl (iv_v h_p1 (by decide) (by decide)) dX8_joinClubs_11 ?_
  refine lv_topi (fun v12 ev12 => ?_)
  refine lv_ior hx hb dX8_joinClubs_12 ?_
  refine lv_topi (fun v13 ev13 => ?_)
  refine lv_istore_n (lv' := [(3, .int v13), (0, .ref a), (1, .int p0), (2, .int p1)]) hx hb dX8_joinClubs_13 rfl hl (by decide) rfl (fun ls hl => ?_)
  refine lv_iconst (v := 0) hx hb dX8_joinClubs_14 (by decide) ?_
  refine lv_istore (lv' := [(4, .int 0), (3, .int v13), (0, .ref a), (1, .int p0), (2, .int p1)]) hx hb dX8_joinClubs_15 hl (by decide) rfl (fun ls hl => ?_)
  exact K17 _ 0 v13 a_club_c (Nat.le_refl _) (iv_c (by decide)) H locs (hP.sub (ws' := [(a, .inr (8, [.int a__stalls, .int a__shift, .int a__halves, .int a__buyers, .int a__near, .int a__dusk, .int a__duskPrice, .int a__hear, .int a__forged, .ref a_stall, .ref a_shape, .ref a_side, .ref a_price, .ref a_purse, .ref a_spot, .ref a_club, .ref a_fitting, .ref a_nearly])), (a_club, .inl (cs 0, 4, .inl a_club_c))]) [0, 1] rfl) (hD.sub (ws' := [(a, .inr (8, [.int a__stalls, .int a__shift, .int a__halves, .int a__buyers, .int a__near, .int a__dusk, .int a__duskPrice, .int a__hear, .int a__forged, .ref a_stall, .ref a_shape, .ref a_side, .ref a_price, .ref a_purse, .ref a_spot, .ref a_club, .ref a_fitting, .ref a_nearly])), (a_club, .inl (cs 0, 4, .inl a_club_c))]) [0, 1] (by decide) rfl) hS ls (lv_sub hl [0, 1, 2, 3, 4] rfl)
theorem dX8_matchHalves_0 : decode cX8_matchHalves 0 = .ok (.iconst 0, 1) := by decide +kernel
theorem dX8_matchHalves_1 : decode cX8_matchHalves 1 = .ok (.istore_n 1, 1) := by decide +kernel
theorem dX8_matchHalves_2 : decode cX8_matchHalves 2 = .ok (.iload_n 1, 1) := by decide +kernel
theorem dX8_matchHalves_3 : decode cX8_matchHalves 3 = .ok (.aload_n 0, 1) := by decide +kernel
theorem dX8_matchHalves_4 : decode cX8_matchHalves 4 = .ok (.getfield 49, 3) := by decide +kernel
theorem dX8_matchHalves_7 : decode cX8_matchHalves 7 = .ok (.if_icmp .ge 132, 3) := by decide +kernel
theorem dX8_matchHalves_10 : decode cX8_matchHalves 10 = .ok (.iconst 0, 1) := by decide +kernel
theorem dX8_matchHalves_11 : decode cX8_matchHalves 11 = .ok (.istore_n 2, 1) := by decide +kernel
theorem dX8_matchHalves_12 : decode cX8_matchHalves 12 = .ok (.iload_n 2, 1) := by decide +kernel
theorem dX8_matchHalves_13 : decode cX8_matchHalves 13 = .ok (.aload_n 0, 1) := by decide +kernel
theorem dX8_matchHalves_14 : decode cX8_matchHalves 14 = .ok (.getfield 49, 3) := by decide +kernel
theorem dX8_matchHalves_17 : decode cX8_matchHalves 17 = .ok (.if_icmp .ge 116, 3) := by decide +kernel
theorem dX8_matchHalves_20 : decode cX8_matchHalves 20 = .ok (.iload_n 1, 1) := by decide +kernel
theorem dX8_matchHalves_21 : decode cX8_matchHalves 21 = .ok (.iload_n 2, 1) := by decide +kernel
theorem dX8_matchHalves_22 : decode cX8_matchHalves 22 = .ok (.if_icmp .ne 6, 3) := by decide +kernel
theorem dX8_matchHalves_25 : decode cX8_matchHalves 25 = .ok (.goto 102, 3) := by decide +kernel
theorem dX8_matchHalves_28 : decode cX8_matchHalves 28 = .ok (.aload_n 0, 1) := by decide +kernel
theorem dX8_matchHalves_29 : decode cX8_matchHalves 29 = .ok (.getfield 80, 3) := by decide +kernel
theorem dX8_matchHalves_32 : decode cX8_matchHalves 32 = .ok (.iconst 1, 1) := by decide +kernel
theorem dX8_matchHalves_33 : decode cX8_matchHalves 33 = .ok (.iload_n 1, 1) := by decide +kernel
theorem dX8_matchHalves_34 : decode cX8_matchHalves 34 = .ok (.ishl, 1) := by decide +kernel
theorem dX8_matchHalves_35 : decode cX8_matchHalves 35 = .ok (.iconst 1, 1) := by decide +kernel
theorem dX8_matchHalves_36 : decode cX8_matchHalves 36 = .ok (.iload_n 2, 1) := by decide +kernel
theorem dX8_matchHalves_37 : decode cX8_matchHalves 37 = .ok (.ishl, 1) := by decide +kernel
theorem dX8_matchHalves_38 : decode cX8_matchHalves 38 = .ok (.ior, 1) := by decide +kernel
theorem dX8_matchHalves_39 : decode cX8_matchHalves 39 = .ok (.iand, 1) := by decide +kernel
theorem dX8_matchHalves_40 : decode cX8_matchHalves 40 = .ok (.ifCond .eq 7, 3) := by decide +kernel
theorem dX8_matchHalves_43 : decode cX8_matchHalves 43 = .ok (.iconst 1, 1) := by decide +kernel
theorem dX8_matchHalves_44 : decode cX8_matchHalves 44 = .ok (.goto 4, 3) := by decide +kernel
theorem dX8_matchHalves_47 : decode cX8_matchHalves 47 = .ok (.iconst 0, 1) := by decide +kernel
theorem dX8_matchHalves_48 : decode cX8_matchHalves 48 = .ok (.istore_n 3, 1) := by decide +kernel
theorem dX8_matchHalves_49 : decode cX8_matchHalves 49 = .ok (.iload_n 3, 1) := by decide +kernel
theorem dX8_matchHalves_50 : decode cX8_matchHalves 50 = .ok (.ifCond .ne 12, 3) := by decide +kernel
theorem dX8_matchHalves_53 : decode cX8_matchHalves 53 = .ok (.aload_n 0, 1) := by decide +kernel
theorem dX8_matchHalves_54 : decode cX8_matchHalves 54 = .ok (.iload_n 1, 1) := by decide +kernel
theorem dX8_matchHalves_55 : decode cX8_matchHalves 55 = .ok (.iload_n 2, 1) := by decide +kernel
theorem dX8_matchHalves_56 : decode cX8_matchHalves 56 = .ok (.invokevirtual 83, 3) := by decide +kernel
theorem dX8_matchHalves_59 : decode cX8_matchHalves 59 = .ok (.ifCond .eq 18, 3) := by decide +kernel
theorem dX8_matchHalves_62 : decode cX8_matchHalves 62 = .ok (.aload_n 0, 1) := by decide +kernel
theorem dX8_matchHalves_63 : decode cX8_matchHalves 63 = .ok (.getfield 43, 3) := by decide +kernel
theorem dX8_matchHalves_66 : decode cX8_matchHalves 66 = .ok (.iload_n 1, 1) := by decide +kernel
theorem dX8_matchHalves_67 : decode cX8_matchHalves 67 = .ok (.dup2, 1) := by decide +kernel
theorem dX8_matchHalves_68 : decode cX8_matchHalves 68 = .ok (.iaload, 1) := by decide +kernel
theorem dX8_matchHalves_69 : decode cX8_matchHalves 69 = .ok (.iconst 1, 1) := by decide +kernel
theorem dX8_matchHalves_70 : decode cX8_matchHalves 70 = .ok (.iload_n 2, 1) := by decide +kernel
theorem dX8_matchHalves_71 : decode cX8_matchHalves 71 = .ok (.ishl, 1) := by decide +kernel
theorem dX8_matchHalves_72 : decode cX8_matchHalves 72 = .ok (.ior, 1) := by decide +kernel
theorem dX8_matchHalves_73 : decode cX8_matchHalves 73 = .ok (.iastore, 1) := by decide +kernel
theorem dX8_matchHalves_74 : decode cX8_matchHalves 74 = .ok (.goto 53, 3) := by decide +kernel
theorem dX8_matchHalves_77 : decode cX8_matchHalves 77 = .ok (.aload_n 0, 1) := by decide +kernel
theorem dX8_matchHalves_78 : decode cX8_matchHalves 78 = .ok (.getfield 28, 3) := by decide +kernel
theorem dX8_matchHalves_81 : decode cX8_matchHalves 81 = .ok (.iload_n 1, 1) := by decide +kernel
theorem dX8_matchHalves_82 : decode cX8_matchHalves 82 = .ok (.iaload, 1) := by decide +kernel
theorem dX8_matchHalves_83 : decode cX8_matchHalves 83 = .ok (.aload_n 0, 1) := by decide +kernel
theorem dX8_matchHalves_84 : decode cX8_matchHalves 84 = .ok (.getfield 28, 3) := by decide +kernel
theorem dX8_matchHalves_87 : decode cX8_matchHalves 87 = .ok (.iload_n 2, 1) := by decide +kernel
theorem dX8_matchHalves_88 : decode cX8_matchHalves 88 = .ok (.iaload, 1) := by decide +kernel
theorem dX8_matchHalves_89 : decode cX8_matchHalves 89 = .ok (.if_icmp .eq 38, 3) := by decide +kernel
theorem dX8_matchHalves_92 : decode cX8_matchHalves 92 = .ok (.aload_n 0, 1) := by decide +kernel
theorem dX8_matchHalves_93 : decode cX8_matchHalves 93 = .ok (.getfield 25, 3) := by decide +kernel
theorem dX8_matchHalves_96 : decode cX8_matchHalves 96 = .ok (.iload_n 1, 1) := by decide +kernel
theorem dX8_matchHalves_97 : decode cX8_matchHalves 97 = .ok (.iaload, 1) := by decide +kernel
theorem dX8_matchHalves_98 : decode cX8_matchHalves 98 = .ok (.aload_n 0, 1) := by decide +kernel
theorem dX8_matchHalves_99 : decode cX8_matchHalves 99 = .ok (.getfield 25, 3) := by decide +kernel
theorem dX8_matchHalves_102 : decode cX8_matchHalves 102 = .ok (.iload_n 2, 1) := by decide +kernel
theorem dX8_matchHalves_103 : decode cX8_matchHalves 103 = .ok (.iaload, 1) := by decide +kernel
theorem dX8_matchHalves_104 : decode cX8_matchHalves 104 = .ok (.isub, 1) := by decide +kernel
theorem dX8_matchHalves_105 : decode cX8_matchHalves 105 = .ok (.invokestatic 67, 3) := by decide +kernel
theorem dX8_matchHalves_108 : decode cX8_matchHalves 108 = .ok (.aload_n 0, 1) := by decide +kernel
theorem dX8_matchHalves_109 : decode cX8_matchHalves 109 = .ok (.getfield 77, 3) := by decide +kernel
theorem dX8_matchHalves_112 : decode cX8_matchHalves 112 = .ok (.if_icmp .gt 15, 3) := by decide +kernel
theorem dX8_matchHalves_115 : decode cX8_matchHalves 115 = .ok (.aload_n 0, 1) := by decide +kernel
theorem dX8_matchHalves_116 : decode cX8_matchHalves 116 = .ok (.getfield 46, 3) := by decide +kernel
theorem dX8_matchHalves_119 : decode cX8_matchHalves 119 = .ok (.iload_n 1, 1) := by decide +kernel
theorem dX8_matchHalves_120 : decode cX8_matchHalves 120 = .ok (.dup2, 1) := by decide +kernel
theorem dX8_matchHalves_121 : decode cX8_matchHalves 121 = .ok (.iaload, 1) := by decide +kernel
theorem dX8_matchHalves_122 : decode cX8_matchHalves 122 = .ok (.iconst 1, 1) := by decide +kernel
theorem dX8_matchHalves_123 : decode cX8_matchHalves 123 = .ok (.iload_n 2, 1) := by decide +kernel
theorem dX8_matchHalves_124 : decode cX8_matchHalves 124 = .ok (.ishl, 1) := by decide +kernel
theorem dX8_matchHalves_125 : decode cX8_matchHalves 125 = .ok (.ior, 1) := by decide +kernel
theorem dX8_matchHalves_126 : decode cX8_matchHalves 126 = .ok (.iastore, 1) := by decide +kernel
theorem dX8_matchHalves_127 : decode cX8_matchHalves 127 = .ok (.iinc 2 1, 3) := by decide +kernel
theorem dX8_matchHalves_130 : decode cX8_matchHalves 130 = .ok (.goto (-118), 3) := by decide +kernel
theorem dX8_matchHalves_133 : decode cX8_matchHalves 133 = .ok (.iinc 1 1, 3) := by decide +kernel
theorem dX8_matchHalves_136 : decode cX8_matchHalves 136 = .ok (.goto (-134), 3) := by decide +kernel
theorem dX8_matchHalves_139 : decode cX8_matchHalves 139 = .ok (.return_, 1) := by decide +kernel
set_option maxHeartbeats 4000000 in
set_option maxRecDepth 100000 in
theorem c_X8_matchHalves (l : Launch) (D : va_G) (cs : Nat → ClassId) (kK kV : Nat → Nat) (a : Nat) (a__stalls : Int32) (a__shift : Int32) (a__halves : Int32) (a__buyers : Int32) (a__near : Int32) (a__dusk : Int32) (a__duskPrice : Int32) (a__hear : Int32) (a__forged : Int32) (a_stall : Nat) (a_shape : Nat) (a_side : Nat) (a_price : Nat) (a_purse : Nat) (a_spot : Nat) (a_club : Nat) (a_fitting : Nat) (a_nearly : Nat) (a_side_c : Nat → Int32) (a_shape_c : Nat → Int32) (a_nearly_c : Nat → Int32) (a_fitting_c : Nat → Int32) (h_a__halves : IV 0 12 a__halves) (sz : Nat) : Met l yX8_matchHalves (hz_w yX8_matchHalves cX8_matchHalves 4 none) ({ frames := 1, cells := 0, slots := 0, locals := 22 }) (va_Pc [.ref a] (hz_C D cs kK kV sz [(a, .inr (8, [.int a__stalls, .int a__shift, .int a__halves, .int a__buyers, .int a__near, .int a__dusk, .int a__duskPrice, .int a__hear, .int a__forged, .ref a_stall, .ref a_shape, .ref a_side, .ref a_price, .ref a_purse, .ref a_spot, .ref a_club, .ref a_fitting, .ref a_nearly])), (a_side, .inl (cs 0, 12, .inl a_side_c)), (a_shape, .inl (cs 0, 12, .inl a_shape_c)), (a_nearly, .inl (cs 0, 12, .inl a_nearly_c)), (a_fitting, .inl (cs 0, 12, .inl a_fitting_c))])) (va_Qv (fun (_ : Unit) => True) (fun _ t => ∃ (o_a_fitting_c : Nat → Int32), ∃ (o_a_nearly_c : Nat → Int32), va_P D classes [(a, .inr (8, [.int a__stalls, .int a__shift, .int a__halves, .int a__buyers, .int a__near, .int a__dusk, .int a__duskPrice, .int a__hear, .int a__forged, .ref a_stall, .ref a_shape, .ref a_side, .ref a_price, .ref a_purse, .ref a_spot, .ref a_club, .ref a_fitting, .ref a_nearly])), (a_side, .inl (cs 0, 12, .inl a_side_c)), (a_shape, .inl (cs 0, 12, .inl a_shape_c)), (a_nearly, .inl (cs 0, 12, .inl o_a_nearly_c)), (a_fitting, .inl (cs 0, 12, .inl o_a_fitting_c))] t.heap ∧ va_D (va_A [(a, .inr (8, [.int a__stalls, .int a__shift, .int a__halves, .int a__buyers, .int a__near, .int a__dusk, .int a__duskPrice, .int a__hear, .int a__forged, .ref a_stall, .ref a_shape, .ref a_side, .ref a_price, .ref a_purse, .ref a_spot, .ref a_club, .ref a_fitting, .ref a_nearly])), (a_side, .inl (cs 0, 12, .inl a_side_c)), (a_shape, .inl (cs 0, 12, .inl a_shape_c)), (a_nearly, .inl (cs 0, 12, .inl a_nearly_c)), (a_fitting, .inl (cs 0, 12, .inl a_fitting_c))] sz) [(a, .inr (8, [.int a__stalls, .int a__shift, .int a__halves, .int a__buyers, .int a__near, .int a__dusk, .int a__duskPrice, .int a__hear, .int a__forged, .ref a_stall, .ref a_shape, .ref a_side, .ref a_price, .ref a_purse, .ref a_spot, .ref a_club, .ref a_fitting, .ref a_nearly])), (a_side, .inl (cs 0, 12, .inl a_side_c)), (a_shape, .inl (cs 0, 12, .inl a_shape_c)), (a_nearly, .inl (cs 0, 12, .inl o_a_nearly_c)), (a_fitting, .inl (cs 0, 12, .inl o_a_fitting_c))]) (va_A [(a, .inr (8, [.int a__stalls, .int a__shift, .int a__halves, .int a__buyers, .int a__near, .int a__dusk, .int a__duskPrice, .int a__hear, .int a__forged, .ref a_stall, .ref a_shape, .ref a_side, .ref a_price, .ref a_purse, .ref a_spot, .ref a_club, .ref a_fitting, .ref a_nearly])), (a_side, .inl (cs 0, 12, .inl a_side_c)), (a_shape, .inl (cs 0, 12, .inl a_shape_c)), (a_nearly, .inl (cs 0, 12, .inl a_nearly_c)), (a_fitting, .inl (cs 0, 12, .inl a_fitting_c))] sz)) 0 0 (va_A [(a, .inr (8, [.int a__stalls, .int a__shift, .int a__halves, .int a__buyers, .int a__near, .int a__dusk, .int a__duskPrice, .int a__hear, .int a__forged, .ref a_stall, .ref a_shape, .ref a_side, .ref a_price, .ref a_purse, .ref a_spot, .ref a_club, .ref a_fitting, .ref a_nearly])), (a_side, .inl (cs 0, 12, .inl a_side_c)), (a_shape, .inl (cs 0, 12, .inl a_shape_c)), (a_nearly, .inl (cs 0, 12, .inl a_nearly_c)), (a_fitting, .inl (cs 0, 12, .inl a_fitting_c))] sz) := by
  refine Met.ofW (cc := cX8_matchHalves) (maxL := 4) (ret := none) (by decide) rfl ?_
  intro p e s m args below meth c s₁ B hml hv
  obtain ⟨rfl, hsz, hP, hD0, hE⟩ := hv
  have hx := B.exec
  have hb := B.bytes
  have hr := B.returns
  have hT : ∀ w ∈ TB, w.before _ s = true := fun w h => atoms_spec (ws := hz_w yX8_matchHalves cX8_matchHalves 4 none) B.pre w (List.mem_cons_of_mem _ h)
  have hown : s.vm.findClass RX8 = some m.cls := findClass_of_methodNamed B.named
  have hlocks := B.notSynchronized
  clear B
  subst hsz
  have hD := hD0.self (sz := s.heap.size)
  generalize hAe : va_A [(a, .inr (8, [.int a__stalls, .int a__shift, .int a__halves, .int a__buyers, .int a__near, .int a__dusk, .int a__duskPrice, .int a__hear, .int a__forged, .ref a_stall, .ref a_shape, .ref a_side, .ref a_price, .ref a_purse, .ref a_spot, .ref a_club, .ref a_fitting, .ref a_nearly])), (a_side, .inl (cs 0, 12, .inl a_side_c)), (a_shape, .inl (cs 0, 12, .inl a_shape_c)), (a_nearly, .inl (cs 0, 12, .inl a_nearly_c)), (a_fitting, .inl (cs 0, 12, .inl a_fitting_c))] s.heap.size = A at hD hE ⊢
  have hA : ∀ q : Nat, s.heap.size ≤ q → A q := fun q h => by rw [← hAe]; exact Or.inr h
  clear hAe hD0
  have hS : va_S A s.heap s.heap [] := va_S.rf
  have hK := hE.1
  have hl := lv_entry ([.ref a]) (n := 4) (Nat.le_of_ble_eq_true rfl)
  rw [lg_entry_eq]
  generalize (lg_sl ([.ref a]) ++ List.replicate (4 - (lg_sl ([.ref a])).length) Slot.unset).toArray = ls at hl ⊢
  have hl : lv_has ls 4 [(0, .ref a)] := hl
  obtain ⟨H, eH⟩ : ∃ z, z = s.heap := ⟨_, rfl⟩
  have hP : va_P D classes [(a, .inr (8, [.int a__stalls, .int a__shift, .int a__halves, .int a__buyers, .int a__near, .int a__dusk, .int a__duskPrice, .int a__hear, .int a__forged, .ref a_stall, .ref a_shape, .ref a_side, .ref a_price, .ref a_purse, .ref a_spot, .ref a_club, .ref a_fitting, .ref a_nearly])), (a_side, .inl (cs 0, 12, .inl a_side_c)), (a_shape, .inl (cs 0, 12, .inl a_shape_c)), (a_nearly, .inl (cs 0, 12, .inl a_nearly_c)), (a_fitting, .inl (cs 0, 12, .inl a_fitting_c))] H := by rw [eH]; exact hP
  have hS : va_S A s.heap H [] := by rw [eH]; exact hS
  rw [← eH]
  clear eH
  obtain ⟨locs, el⟩ : ∃ z : List Loc, z = [] := ⟨_, rfl⟩
  rw [← el] at hS ⊢
  clear el
  have K2 : ∀ (n : Nat) (k2_L_1 : Int32) (k2_C_a_nearly : Nat → Int32) (k2_C_a_fitting : Nat → Int32), (12 - k2_L_1.toInt + 1).toNat ≤ n → IV 0 12 k2_L_1 → ∀ (H : Heap) (locs : List Loc), va_P D classes [(a, .inr (8, [.int a__stalls, .int a__shift, .int a__halves, .int a__buyers, .int a__near, .int a__dusk, .int a__duskPrice, .int a__hear, .int a__forged, .ref a_stall, .ref a_shape, .ref a_side, .ref a_price, .ref a_purse, .ref a_spot, .ref a_club, .ref a_fitting, .ref a_nearly])), (a_side, .inl (cs 0, 12, .inl a_side_c)), (a_shape, .inl (cs 0, 12, .inl a_shape_c)), (a_nearly, .inl (cs 0, 12, .inl k2_C_a_nearly)), (a_fitting, .inl (cs 0, 12, .inl k2_C_a_fitting))] H → va_D A [(a, .inr (8, [.int a__stalls, .int a__shift, .int a__halves, .int a__buyers, .int a__near, .int a__dusk, .int a__duskPrice, .int a__hear, .int a__forged, .ref a_stall, .ref a_shape, .ref a_side, .ref a_price, .ref a_purse, .ref a_spot, .ref a_club, .ref a_fitting, .ref a_nearly])), (a_side, .inl (cs 0, 12, .inl a_side_c)), (a_shape, .inl (cs 0, 12, .inl a_shape_c)), (a_nearly, .inl (cs 0, 12, .inl k2_C_a_nearly)), (a_fitting, .inl (cs 0, 12, .inl k2_C_a_fitting))] → va_S A s.heap H locs → ∀ ls : Array Slot, lv_has ls 4 [(1, .int k2_L_1), (0, .ref a)] → W p l e (headSpec (hz_w yX8_matchHalves cX8_matchHalves 4 none) ({ frames := 1, cells := 0, slots := 0, locals := 22 })).room s m [.ref a].toArray below meth c H locs 0 0 (MQ below (va_Qv (fun (_ : Unit) => True) (fun _ t => ∃ (o_a_fitting_c : Nat → Int32), ∃ (o_a_nearly_c : Nat → Int32), va_P D classes [(a, .inr (8, [.int a__stalls, .int a__shift, .int a__halves, .int a__buyers, .int a__near, .int a__dusk, .int a__duskPrice, .int a__hear, .int a__forged, .ref a_stall, .ref a_shape, .ref a_side, .ref a_price, .ref a_purse, .ref a_spot, .ref a_club, .ref a_fitting, .ref a_nearly])), (a_side, .inl (cs 0, 12, .inl a_side_c)), (a_shape, .inl (cs 0, 12, .inl a_shape_c)), (a_nearly, .inl (cs 0, 12, .inl o_a_nearly_c)), (a_fitting, .inl (cs 0, 12, .inl o_a_fitting_c))] t.heap ∧ va_D A [(a, .inr (8, [.int a__stalls, .int a__shift, .int a__halves, .int a__buyers, .int a__near, .int a__dusk, .int a__duskPrice, .int a__hear, .int a__forged, .ref a_stall, .ref a_shape, .ref a_side, .ref a_price, .ref a_purse, .ref a_spot, .ref a_club, .ref a_fitting, .ref a_nearly])), (a_side, .inl (cs 0, 12, .inl a_side_c)), (a_shape, .inl (cs 0, 12, .inl a_shape_c)), (a_nearly, .inl (cs 0, 12, .inl o_a_nearly_c)), (a_fitting, .inl (cs 0, 12, .inl o_a_fitting_c))]) A) [.ref a].toArray s 0 0 A) (F0 m 2 ls []) := by
    intro n
    induction n with
    | zero =>
      intro k2_L_1 k2_C_a_nearly k2_C_a_fitting hn q2_3 H locs hP hD hS ls hl
      exact absurd hn (by unfold IV at q2_3; omega)
    | succ n ih2 =>
      intro k2_L_1 k2_C_a_nearly k2_C_a_fitting hn q2_3 H locs hP hD hS ls hl
      have K12 : ∀ (n : Nat) (k12_L_2 : Int32) (k12_C_a_nearly : Nat → Int32) (k12_C_a_fitting : Nat → Int32), (12 - k12_L_2.toInt + 1).toNat ≤ n → IV 1 12 a__halves → IV 0 12 k12_L_2 → IV 0 11 k2_L_1 → ∀ (H : Heap) (locs : List Loc), va_P D classes [(a, .inr (8, [.int a__stalls, .int a__shift, .int a__halves, .int a__buyers, .int a__near, .int a__dusk, .int a__duskPrice, .int a__hear, .int a__forged, .ref a_stall, .ref a_shape, .ref a_side, .ref a_price, .ref a_purse, .ref a_spot, .ref a_club, .ref a_fitting, .ref a_nearly])), (a_side, .inl (cs 0, 12, .inl a_side_c)), (a_shape, .inl (cs 0, 12, .inl a_shape_c)), (a_nearly, .inl (cs 0, 12, .inl k12_C_a_nearly)), (a_fitting, .inl (cs 0, 12, .inl k12_C_a_fitting))] H → va_D A [(a, .inr (8, [.int a__stalls, .int a__shift, .int a__halves, .int a__buyers, .int a__near, .int a__dusk, .int a__duskPrice, .int a__hear, .int a__forged, .ref a_stall, .ref a_shape, .ref a_side, .ref a_price, .ref a_purse, .ref a_spot, .ref a_club, .ref a_fitting, .ref a_nearly])), (a_side, .inl (cs 0, 12, .inl a_side_c)), (a_shape, .inl (cs 0, 12, .inl a_shape_c)), (a_nearly, .inl (cs 0, 12, .inl k12_C_a_nearly)), (a_fitting, .inl (cs 0, 12, .inl k12_C_a_fitting))] → va_S A s.heap H locs → ∀ ls : Array Slot, lv_has ls 4 [(2, .int k12_L_2), (1, .int k2_L_1), (0, .ref a)] → W p l e (headSpec (hz_w yX8_matchHalves cX8_matchHalves 4 none) ({ frames := 1, cells := 0, slots := 0, locals := 22 })).room s m [.ref a].toArray below meth c H locs 0 0 (MQ below (va_Qv (fun (_ : Unit) => True) (fun _ t => ∃ (o_a_fitting_c : Nat → Int32), ∃ (o_a_nearly_c : Nat → Int32), va_P D classes [(a, .inr (8, [.int a__stalls, .int a__shift, .int a__halves, .int a__buyers, .int a__near, .int a__dusk, .int a__duskPrice, .int a__hear, .int a__forged, .ref a_stall, .ref a_shape, .ref a_side, .ref a_price, .ref a_purse, .ref a_spot, .ref a_club, .ref a_fitting, .ref a_nearly])), (a_side, .inl (cs 0, 12, .inl a_side_c)), (a_shape, .inl (cs 0, 12, .inl a_shape_c)), (a_nearly, .inl (cs 0, 12, .inl o_a_nearly_c)), (a_fitting, .inl (cs 0, 12, .inl o_a_fitting_c))] t.heap ∧ va_D A [(a, .inr (8, [.int a__stalls, .int a__shift, .int a__halves, .int a__buyers, .int a__near, .int a__dusk, .int a__duskPrice, .int a__hear, .int a__forged, .ref a_stall, .ref a_shape, .ref a_side, .ref a_price, .ref a_purse, .ref a_spot, .ref a_club, .ref a_fitting, .ref a_nearly])), (a_side, .inl (cs 0, 12, .inl a_side_c)), (a_shape, .inl (cs 0, 12, .inl a_shape_c)), (a_nearly, .inl (cs 0, 12, .inl o_a_nearly_c)), (a_fitting, .inl (cs 0, 12, .inl o_a_fitting_c))]) A) [.ref a].toArray s 0 0 A) (F0 m 12 ls []) := by
        intro n
        induction n with
        | zero =>
          intro k12_L_2 k12_C_a_nearly k12_C_a_fitting hn q12_1 q12_3 q12_4 H locs hP hD hS ls hl
          exact absurd hn (by unfold IV at q12_3; omega)
        | succ n ih12 =>
          intro k12_L_2 k12_C_a_nearly k12_C_a_fitting hn q12_1 q12_3 q12_4 H locs hP hD hS ls hl
          have K127 : ∀ (k127_C_a_nearly : Nat → Int32) (k127_C_a_fitting : Nat → Int32), IV 1 12 a__halves → IV 0 11 k12_L_2 → IV 0 11 k2_L_1 → ∀ (H : Heap) (locs : List Loc), va_P D classes [(a, .inr (8, [.int a__stalls, .int a__shift, .int a__halves, .int a__buyers, .int a__near, .int a__dusk, .int a__duskPrice, .int a__hear, .int a__forged, .ref a_stall, .ref a_shape, .ref a_side, .ref a_price, .ref a_purse, .ref a_spot, .ref a_club, .ref a_fitting, .ref a_nearly])), (a_side, .inl (cs 0, 12, .inl a_side_c)), (a_shape, .inl (cs 0, 12, .inl a_shape_c)), (a_nearly, .inl (cs 0, 12, .inl k127_C_a_nearly)), (a_fitting, .inl (cs 0, 12, .inl k127_C_a_fitting))] H → va_D A [(a, .inr (8, [.int a__stalls, .int a__shift, .int a__halves, .int a__buyers, .int a__near, .int a__dusk, .int a__duskPrice, .int a__hear, .int a__forged, .ref a_stall, .ref a_shape, .ref a_side, .ref a_price, .ref a_purse, .ref a_spot, .ref a_club, .ref a_fitting, .ref a_nearly])), (a_side, .inl (cs 0, 12, .inl a_side_c)), (a_shape, .inl (cs 0, 12, .inl a_shape_c)), (a_nearly, .inl (cs 0, 12, .inl k127_C_a_nearly)), (a_fitting, .inl (cs 0, 12, .inl k127_C_a_fitting))] → va_S A s.heap H locs → ∀ ls : Array Slot, lv_has ls 4 [(2, .int k12_L_2), (1, .int k2_L_1), (0, .ref a)] → W p l e (headSpec (hz_w yX8_matchHalves cX8_matchHalves 4 none) ({ frames := 1, cells := 0, slots := 0, locals := 22 })).room s m [.ref a].toArray below meth c H locs 0 0 (MQ below (va_Qv (fun (_ : Unit) => True) (fun _ t => ∃ (o_a_fitting_c : Nat → Int32), ∃ (o_a_nearly_c : Nat → Int32), va_P D classes [(a, .inr (8, [.int a__stalls, .int a__shift, .int a__halves, .int a__buyers, .int a__near, .int a__dusk, .int a__duskPrice, .int a__hear, .int a__forged, .ref a_stall, .ref a_shape, .ref a_side, .ref a_price, .ref a_purse, .ref a_spot, .ref a_club, .ref a_fitting, .ref a_nearly])), (a_side, .inl (cs 0, 12, .inl a_side_c)), (a_shape, .inl (cs 0, 12, .inl a_shape_c)), (a_nearly, .inl (cs 0, 12, .inl o_a_nearly_c)), (a_fitting, .inl (cs 0, 12, .inl o_a_fitting_c))] t.heap ∧ va_D A [(a, .inr (8, [.int a__stalls, .int a__shift, .int a__halves, .int a__buyers, .int a__near, .int a__dusk, .int a__duskPrice, .int a__hear, .int a__forged, .ref a_stall, .ref a_shape, .ref a_side, .ref a_price, .ref a_purse, .ref a_spot, .ref a_club, .ref a_fitting, .ref a_nearly])), (a_side, .inl (cs 0, 12, .inl a_side_c)), (a_shape, .inl (cs 0, 12, .inl a_shape_c)), (a_nearly, .inl (cs 0, 12, .inl o_a_nearly_c)), (a_fitting, .inl (cs 0, 12, .inl o_a_fitting_c))]) A) [.ref a].toArray s 0 0 A) (F0 m 127 ls []) := by
            intro k127_C_a_nearly k127_C_a_fitting q127_1 q127_3 q127_4 H locs hP hD hS ls hl
            obtain ⟨v1, ev1⟩ : ∃ z : Int32, z = k12_L_2 + 1 := ⟨_, rfl⟩
            have hv1 : IV 1 12 v1 := iv_add ev1 q127_3 (iv_c (a := 1) (b := 1) (by decide)) (by decide) (by decide)
            have dv1 : v1.toInt = k12_L_2.toInt + 1 := iv_addE ev1 q127_3 (iv_c (a := 1) (b := 1) (by decide)) (by decide) (by decide) (by decide)
            refine lv_iinc (v := v1) (lv' := [(2, .int v1), (1, .int k2_L_1), (0, .ref a)]) hx hb dX8_matchHalves_127 hl (k := 0) rfl (by rw [ev1]; rfl) (by decide) rfl (fun ls hl => ?_)
            refine lv_goto (tgt := 12) hx hb dX8_matchHalves_130 (by decide) ?_
            exact ih12 v1 k127_C_a_nearly k127_C_a_fitting (by have h9 := q127_3; unfold IV at h9; have := dv1; omega) q127_1 (iv_w hv1 (by decide) (by decide)) q127_4 H locs (hP.sub (ws' := [(a, .inr (8, [.int a__stalls, .int a__shift, .int a__halves, .int a__buyers, .int a__near, .int a__dusk, .int a__duskPrice, .int a__hear, .int a__forged, .ref a_stall, .ref a_shape, .ref a_side, .ref a_price, .ref a_purse, .ref a_spot, .ref a_club, .ref a_fitting, .ref a_nearly])), (a_side, .inl (cs 0, 12, .inl a_side_c)), (a_shape, .inl (cs 0, 12, .inl a_shape_c)), (a_nearly, .inl (cs 0, 12, .inl k127_C_a_nearly)), (a_fitting, .inl (cs 0, 12, .inl k127_C_a_fitting))]) [0, 1, 2, 3, 4] rfl) (hD.sub (ws' := [(a, .inr (8, [.int a__stalls, .int a__shift, .int a__halves, .int a__buyers, .int a__near, .int a__dusk, .int a__duskPrice, .int a__hear, .int a__forged, .ref a_stall, .ref a_shape, .ref a_side, .ref a_price, .ref a_purse, .ref a_spot, .ref a_club, .ref a_fitting, .ref a_nearly])), (a_side, .inl (cs 0, 12, .inl a_side_c)), (a_shape, .inl (cs 0, 12, .inl a_shape_c)), (a_nearly, .inl (cs 0, 12, .inl k127_C_a_nearly)), (a_fitting, .inl (cs 0, 12, .inl k127_C_a_fitting))]) [0, 1, 2, 3, 4] (by decide) rfl) hS ls (lv_sub hl [0, 1, 2] rfl)
          have K62 : ∀ (k62_L_3 : Int32), IV 1 12 a__halves → IV 0 11 k12_L_2 → IV 0 11 k2_L_1 → IV 0 1 k62_L_3 → ∀ (H : Heap) (locs : List Loc), va_P D classes [(a, .inr (8, [.int a__stalls, .int a__shift, .int a__halves, .int a__buyers, .int a__near, .int a__dusk, .int a__duskPrice, .int a__hear, .int a__forged, .ref a_stall, .ref a_shape, .ref a_side, .ref a_price, .ref a_purse, .ref a_spot, .ref a_club, .ref a_fitting, .ref a_nearly])), (a_side, .inl (cs 0, 12, .inl a_side_c)), (a_shape, .inl (cs 0, 12, .inl a_shape_c)), (a_nearly, .inl (cs 0, 12, .inl k12_C_a_nearly)), (a_fitting, .inl (cs 0, 12, .inl k12_C_a_fitting))] H → va_D A [(a, .inr (8, [.int a__stalls, .int a__shift, .int a__halves, .int a__buyers, .int a__near, .int a__dusk, .int a__duskPrice, .int a__hear, .int a__forged, .ref a_stall, .ref a_shape, .ref a_side, .ref a_price, .ref a_purse, .ref a_spot, .ref a_club, .ref a_fitting, .ref a_nearly])), (a_side, .inl (cs 0, 12, .inl a_side_c)), (a_shape, .inl (cs 0, 12, .inl a_shape_c)), (a_nearly, .inl (cs 0, 12, .inl k12_C_a_nearly)), (a_fitting, .inl (cs 0, 12, .inl k12_C_a_fitting))] → va_S A s.heap H locs → ∀ ls : Array Slot, lv_has ls 4 [(3, .int k62_L_3), (2, .int k12_L_2), (1, .int k2_L_1), (0, .ref a)] → W p l e (headSpec (hz_w yX8_matchHalves cX8_matchHalves 4 none) ({ frames := 1, cells := 0, slots := 0, locals := 22 })).room s m [.ref a].toArray below meth c H locs 0 0 (MQ below (va_Qv (fun (_ : Unit) => True) (fun _ t => ∃ (o_a_fitting_c : Nat → Int32), ∃ (o_a_nearly_c : Nat → Int32), va_P D classes [(a, .inr (8, [.int a__stalls, .int a__shift, .int a__halves, .int a__buyers, .int a__near, .int a__dusk, .int a__duskPrice, .int a__hear, .int a__forged, .ref a_stall, .ref a_shape, .ref a_side, .ref a_price, .ref a_purse, .ref a_spot, .ref a_club, .ref a_fitting, .ref a_nearly])), (a_side, .inl (cs 0, 12, .inl a_side_c)), (a_shape, .inl (cs 0, 12, .inl a_shape_c)), (a_nearly, .inl (cs 0, 12, .inl o_a_nearly_c)), (a_fitting, .inl (cs 0, 12, .inl o_a_fitting_c))] t.heap ∧ va_D A [(a, .inr (8, [.int a__stalls, .int a__shift, .int a__halves, .int a__buyers, .int a__near, .int a__dusk, .int a__duskPrice, .int a__hear, .int a__forged, .ref a_stall, .ref a_shape, .ref a_side, .ref a_price, .ref a_purse, .ref a_spot, .ref a_club, .ref a_fitting, .ref a_nearly])), (a_side, .inl (cs 0, 12, .inl a_side_c)), (a_shape, .inl (cs 0, 12, .inl a_shape_c)), (a_nearly, .inl (cs 0, 12, .inl o_a_nearly_c)), (a_fitting, .inl (cs 0, 12, .inl o_a_fitting_c))]) A) [.ref a].toArray s 0 0 A) (F0 m 62 ls []) := by
            intro k62_L_3 q62_1 q62_3 q62_4 q62_5 H locs hP hD hS ls hl
            refine lv_aload_n hx hb dX8_matchHalves_62 rfl (lv_at hl 3 rfl) ?_
            refine va_get (D := D) (ci := 8) (v := .ref a_fitting) (C := RX8) (T := TX8) (N := 18) hx hb hT i_X8 hown hK hP 0 rfl rfl 16 (by decide) (hT _ q_141) (fun _ h9 => h9) rfl dX8_matchHalves_63 ?_
            refine lv_iload_n hx hb dX8_matchHalves_66 rfl (lv_at hl 2 rfl) ?_
            refine lv_dup2_11 hx hb dX8_matchHalves_67 rfl rfl ?_
            refine va_iald hx hb hK hP 4 0 rfl rfl (iv_v q62_4 (by decide) (by decide)) dX8_matchHalves_68 ?_
            refine lv_topi (fun v2 ev2 => ?_)
            refine lv_iconst (v := 1) hx hb dX8_matchHalves_69 (by decide) ?_
            refine lv_iload_n hx hb dX8_matchHalves_70 rfl (lv_at hl 1 rfl) ?_
            refine lv_ishl hx hb dX8_matchHalves_71 ?_
            refine lv_topi (fun v3 ev3 => ?_)
            have hv3 : IV 1 2048 v3 := iv_shl1 ev3 q62_3 (by decide) (by decide) (by decide)
            refine lv_ior hx hb dX8_matchHalves_72 ?_
            refine lv_topi (fun v4 ev4 => ?_)
            refine va_iast hx hb hK hP hD hS 4 0 rfl rfl (iv_v q62_4 (by decide) (by decide)) dX8_matchHalves_73 (fun H locs hP hD hS => ?_)
            have hP : va_P D classes [(a, .inr (8, [.int a__stalls, .int a__shift, .int a__halves, .int a__buyers, .int a__near, .int a__dusk, .int a__duskPrice, .int a__hear, .int a__forged, .ref a_stall, .ref a_shape, .ref a_side, .ref a_price, .ref a_purse, .ref a_spot, .ref a_club, .ref a_fitting, .ref a_nearly])), (a_side, .inl (cs 0, 12, .inl a_side_c)), (a_shape, .inl (cs 0, 12, .inl a_shape_c)), (a_nearly, .inl (cs 0, 12, .inl k12_C_a_nearly)), (a_fitting, .inl (cs 0, 12, .inl (upd k12_C_a_fitting (Int32.toNatClampNeg k2_L_1) v4)))] H := hP
            have hD : va_D A [(a, .inr (8, [.int a__stalls, .int a__shift, .int a__halves, .int a__buyers, .int a__near, .int a__dusk, .int a__duskPrice, .int a__hear, .int a__forged, .ref a_stall, .ref a_shape, .ref a_side, .ref a_price, .ref a_purse, .ref a_spot, .ref a_club, .ref a_fitting, .ref a_nearly])), (a_side, .inl (cs 0, 12, .inl a_side_c)), (a_shape, .inl (cs 0, 12, .inl a_shape_c)), (a_nearly, .inl (cs 0, 12, .inl k12_C_a_nearly)), (a_fitting, .inl (cs 0, 12, .inl (upd k12_C_a_fitting (Int32.toNatClampNeg k2_L_1) v4)))] := hD
            generalize upd k12_C_a_fitting (Int32.toNatClampNeg k2_L_1) v4 = f5 at hP hD
            refine lv_goto (tgt := 127) hx hb dX8_matchHalves_74 (by decide) ?_
            exact K127 k12_C_a_nearly f5 q62_1 q62_3 q62_4 H locs (hP.sub (ws' := [(a, .inr (8, [.int a__stalls, .int a__shift, .int a__halves, .int a__buyers, .int a__near, .int a__dusk, .int a__duskPrice, .int a__hear, .int a__forged, .ref a_stall, .ref a_shape, .ref a_side, .ref a_price, .ref a_purse, .ref a_spot, .ref a_club, .ref a_fitting, .ref a_nearly])), (a_side, .inl (cs 0, 12, .inl a_side_c)), (a_shape, .inl (cs 0, 12, .inl a_shape_c)), (a_nearly, .inl (cs 0, 12, .inl k12_C_a_nearly)), (a_fitting, .inl (cs 0, 12, .inl f5))]) [0, 1, 2, 3, 4] rfl) (hD.sub (ws' := [(a, .inr (8, [.int a__stalls, .int a__shift, .int a__halves, .int a__buyers, .int a__near, .int a__dusk, .int a__duskPrice, .int a__hear, .int a__forged, .ref a_stall, .ref a_shape, .ref a_side, .ref a_price, .ref a_purse, .ref a_spot, .ref a_club, .ref a_fitting, .ref a_nearly])), (a_side, .inl (cs 0, 12, .inl a_side_c)), (a_shape, .inl (cs 0, 12, .inl a_shape_c)), (a_nearly, .inl (cs 0, 12, .inl k12_C_a_nearly)), (a_fitting, .inl (cs 0, 12, .inl f5))]) [0, 1, 2, 3, 4] (by decide) rfl) hS ls (lv_sub hl [1, 2, 3] rfl)
          have K48 : ∀ (k48_S_0 : Int32), IV 1 12 a__halves → IV 0 11 k12_L_2 → IV 0 11 k2_L_1 → IV 0 1 k48_S_0 → ∀ (H : Heap) (locs : List Loc), va_P D classes [(a, .inr (8, [.int a__stalls, .int a__shift, .int a__halves, .int a__buyers, .int a__near, .int a__dusk, .int a__duskPrice, .int a__hear, .int a__forged, .ref a_stall, .ref a_shape, .ref a_side, .ref a_price, .ref a_purse, .ref a_spot, .ref a_club, .ref a_fitting, .ref a_nearly])), (a_side, .inl (cs 0, 12, .inl a_side_c)), (a_shape, .inl (cs 0, 12, .inl a_shape_c)), (a_nearly, .inl (cs 0, 12, .inl k12_C_a_nearly)), (a_fitting, .inl (cs 0, 12, .inl k12_C_a_fitting))] H → va_D A [(a, .inr (8, [.int a__stalls, .int a__shift, .int a__halves, .int a__buyers, .int a__near, .int a__dusk, .int a__duskPrice, .int a__hear, .int a__forged, .ref a_stall, .ref a_shape, .ref a_side, .ref a_price, .ref a_purse, .ref a_spot, .ref a_club, .ref a_fitting, .ref a_nearly])), (a_side, .inl (cs 0, 12, .inl a_side_c)), (a_shape, .inl (cs 0, 12, .inl a_shape_c)), (a_nearly, .inl (cs 0, 12, .inl k12_C_a_nearly)), (a_fitting, .inl (cs 0, 12, .inl k12_C_a_fitting))] → va_S A s.heap H locs → ∀ ls : Array Slot, lv_has ls 4 [(2, .int k12_L_2), (1, .int k2_L_1), (0, .ref a)] → W p l e (headSpec (hz_w yX8_matchHalves cX8_matchHalves 4 none) ({ frames := 1, cells := 0, slots := 0, locals := 22 })).room s m [.ref a].toArray below meth c H locs 0 0 (MQ below (va_Qv (fun (_ : Unit) => True) (fun _ t => ∃ (o_a_fitting_c : Nat → Int32), ∃ (o_a_nearly_c : Nat → Int32), va_P D classes [(a, .inr (8, [.int a__stalls, .int a__shift, .int a__halves, .int a__buyers, .int a__near, .int a__dusk, .int a__duskPrice, .int a__hear, .int a__forged, .ref a_stall, .ref a_shape, .ref a_side, .ref a_price, .ref a_purse, .ref a_spot, .ref a_club, .ref a_fitting, .ref a_nearly])), (a_side, .inl (cs 0, 12, .inl a_side_c)), (a_shape, .inl (cs 0, 12, .inl a_shape_c)), (a_nearly, .inl (cs 0, 12, .inl o_a_nearly_c)), (a_fitting, .inl (cs 0, 12, .inl o_a_fitting_c))] t.heap ∧ va_D A [(a, .inr (8, [.int a__stalls, .int a__shift, .int a__halves, .int a__buyers, .int a__near, .int a__dusk, .int a__duskPrice, .int a__hear, .int a__forged, .ref a_stall, .ref a_shape, .ref a_side, .ref a_price, .ref a_purse, .ref a_spot, .ref a_club, .ref a_fitting, .ref a_nearly])), (a_side, .inl (cs 0, 12, .inl a_side_c)), (a_shape, .inl (cs 0, 12, .inl a_shape_c)), (a_nearly, .inl (cs 0, 12, .inl o_a_nearly_c)), (a_fitting, .inl (cs 0, 12, .inl o_a_fitting_c))]) A) [.ref a].toArray s 0 0 A) (F0 m 48 ls [.int k48_S_0]) := by
            intro k48_S_0 q48_1 q48_3 q48_4 q48_5 H locs hP hD hS ls hl
            refine lv_istore_n (lv' := [(3, .int k48_S_0), (2, .int k12_L_2), (1, .int k2_L_1), (0, .ref a)]) hx hb dX8_matchHalves_48 rfl hl (by decide) rfl (fun ls hl => ?_)
            refine lv_iload_n hx hb dX8_matchHalves_49 rfl (lv_at hl 0 rfl) ?_
            refine lv_if_ne (tgt := 62) hx hb dX8_matchHalves_50 (by decide) (fun c6 => ?_) (fun c6 => ?_)
            · have h7 : IV 1 1 k48_S_0 := iv_neL c6 q48_5 (by decide)
              exact K62 k48_S_0 q48_1 q48_3 q48_4 (iv_w h7 (by decide) (by decide)) H locs (hP.sub (ws' := [(a, .inr (8, [.int a__stalls, .int a__shift, .int a__halves, .int a__buyers, .int a__near, .int a__dusk, .int a__duskPrice, .int a__hear, .int a__forged, .ref a_stall, .ref a_shape, .ref a_side, .ref a_price, .ref a_purse, .ref a_spot, .ref a_club, .ref a_fitting, .ref a_nearly])), (a_side, .inl (cs 0, 12, .inl a_side_c)), (a_shape, .inl (cs 0, 12, .inl a_shape_c)), (a_nearly, .inl (cs 0, 12, .inl k12_C_a_nearly)), (a_fitting, .inl (cs 0, 12, .inl k12_C_a_fitting))]) [0, 1, 2, 3, 4] rfl) (hD.sub (ws' := [(a, .inr (8, [.int a__stalls, .int a__shift, .int a__halves, .int a__buyers, .int a__near, .int a__dusk, .int a__duskPrice, .int a__hear, .int a__forged, .ref a_stall, .ref a_shape, .ref a_side, .ref a_price, .ref a_purse, .ref a_spot, .ref a_club, .ref a_fitting, .ref a_nearly])), (a_side, .inl (cs 0, 12, .inl a_side_c)), (a_shape, .inl (cs 0, 12, .inl a_shape_c)), (a_nearly, .inl (cs 0, 12, .inl k12_C_a_nearly)), (a_fitting, .inl (cs 0, 12, .inl k12_C_a_fitting))]) [0, 1, 2, 3, 4] (by decide) rfl) hS ls (lv_sub hl [0, 1, 2, 3] rfl)
            · have h8 : IV 0 0 k48_S_0 := iv_eq1 c6 q48_5 (iv_c (a := 0) (b := 0) (by decide)) (by decide) (by decide)
              refine lv_aload_n hx hb dX8_matchHalves_53 rfl (lv_at hl 3 rfl) ?_
              refine lv_iload_n hx hb dX8_matchHalves_54 rfl (lv_at hl 2 rfl) ?_
              refine lv_iload_n hx hb dX8_matchHalves_55 rfl (lv_at hl 1 rfl) ?_
              refine va_calli (va_runV (As := [.int k2_L_1, .int k12_L_2]) (rest := []) ⟨hx, hb, hml, hown, hT⟩ (c_X8_fitsByShape l D cs kK kV a k2_L_1 k12_L_2 a__stalls a__shift a__halves a__buyers a__near a__dusk a__duskPrice a__hear a__forged a_stall a_shape a_side a_price a_purse a_spot a_club a_fitting a_nearly a_side_c a_shape_c q48_4 q48_3) (cwV 2 hT (hz_gV q_652 q_653 q_654 q_251 q_655) rfl rfl rfl (by decide +kernel) ⟨(Nat.le_of_ble_eq_true rfl), (Nat.le_of_ble_eq_true rfl)⟩) ⟨hz_P.blind, va_recv hK hP (ci := 8) (q0 := 0) rfl rfl, hz_P.mk (hP.sub (ws' := [(a, .inr (8, [.int a__stalls, .int a__shift, .int a__halves, .int a__buyers, .int a__near, .int a__dusk, .int a__duskPrice, .int a__hear, .int a__forged, .ref a_stall, .ref a_shape, .ref a_side, .ref a_price, .ref a_purse, .ref a_spot, .ref a_club, .ref a_fitting, .ref a_nearly])), (a_side, .inl (cs 0, 12, .inl a_side_c)), (a_shape, .inl (cs 0, 12, .inl a_shape_c))]) [0,1,2] rfl) hE hS⟩ rfl rfl hl.1 rfl (lv_room (Nat.le_of_ble_eq_true rfl)) dX8_matchHalves_56 ⟨(Nat.le_of_ble_eq_true rfl), (Nat.le_of_ble_eq_true rfl)⟩) hS (fun _ _ h => h.elim) (fun _ h => h.elim) (fun r9 u t H1 locs ht hvm hw hB hz1 hk1 hS => ?_)
              have hP := hz_keep hP hk1
              clear hk1 hB hz1
              generalize H1 = H at hP hS ⊢
              rcases hw with rfl | rfl
              · refine lv_if_eq (tgt := 77) hx hb dX8_matchHalves_59 (by decide) (fun _ => ?_) (fun z => absurd (by decide) z)
                refine lv_aload_n hx hb dX8_matchHalves_77 rfl (lv_at hl 3 rfl) ?_
                refine va_get (D := D) (ci := 8) (v := .ref a_side) (C := RX8) (T := TX8) (N := 18) hx hb hT i_X8 hown hK hP 0 rfl rfl 11 (by decide) (hT _ q_136) (fun _ h9 => h9) rfl dX8_matchHalves_78 ?_
                refine lv_iload_n hx hb dX8_matchHalves_81 rfl (lv_at hl 2 rfl) ?_
                refine va_iald hx hb hK hP 1 0 rfl rfl (iv_v q48_4 (by decide) (by decide)) dX8_matchHalves_82 ?_
                refine lv_topi (fun v10 ev10 => ?_)
                refine lv_aload_n hx hb dX8_matchHalves_83 rfl (lv_at hl 3 rfl) ?_
                refine va_get (D := D) (ci := 8) (v := .ref a_side) (C := RX8) (T := TX8) (N := 18) hx hb hT i_X8 hown hK hP 0 rfl rfl 11 (by decide) (hT _ q_136) (fun _ h9 => h9) rfl dX8_matchHalves_84 ?_
                refine lv_iload_n hx hb dX8_matchHalves_87 rfl (lv_at hl 1 rfl) ?_
                refine va_iald hx hb hK hP 1 0 rfl rfl (iv_v q48_3 (by decide) (by decide)) dX8_matchHalves_88 ?_
                refine lv_topi (fun v11 ev11 => ?_)
                refine lv_icmp_eq (tgt := 127) hx hb dX8_matchHalves_89 (by decide) (fun c12 => ?_) (fun c12 => ?_)
                · exact K127 k12_C_a_nearly k12_C_a_fitting q48_1 q48_3 q48_4 H locs (hP.sub (ws' := [(a, .inr (8, [.int a__stalls, .int a__shift, .int a__halves, .int a__buyers, .int a__near, .int a__dusk, .int a__duskPrice, .int a__hear, .int a__forged, .ref a_stall, .ref a_shape, .ref a_side, .ref a_price, .ref a_purse, .ref a_spot, .ref a_club, .ref a_fitting, .ref a_nearly])), (a_side, .inl (cs 0, 12, .inl a_side_c)), (a_shape, .inl (cs 0, 12, .inl a_shape_c)), (a_nearly, .inl (cs 0, 12, .inl k12_C_a_nearly)), (a_fitting, .inl (cs 0, 12, .inl k12_C_a_fitting))]) [0, 1, 2, 3, 4] rfl) (hD.sub (ws' := [(a, .inr (8, [.int a__stalls, .int a__shift, .int a__halves, .int a__buyers, .int a__near, .int a__dusk, .int a__duskPrice, .int a__hear, .int a__forged, .ref a_stall, .ref a_shape, .ref a_side, .ref a_price, .ref a_purse, .ref a_spot, .ref a_club, .ref a_fitting, .ref a_nearly])), (a_side, .inl (cs 0, 12, .inl a_side_c)), (a_shape, .inl (cs 0, 12, .inl a_shape_c)), (a_nearly, .inl (cs 0, 12, .inl k12_C_a_nearly)), (a_fitting, .inl (cs 0, 12, .inl k12_C_a_fitting))]) [0, 1, 2, 3, 4] (by decide) rfl) hS ls (lv_sub hl [1, 2, 3] rfl)
                · refine lv_aload_n hx hb dX8_matchHalves_92 rfl (lv_at hl 3 rfl) ?_
                  refine va_get (D := D) (ci := 8) (v := .ref a_shape) (C := RX8) (T := TX8) (N := 18) hx hb hT i_X8 hown hK hP 0 rfl rfl 10 (by decide) (hT _ q_135) (fun _ h9 => h9) rfl dX8_matchHalves_93 ?_
                  refine lv_iload_n hx hb dX8_matchHalves_96 rfl (lv_at hl 2 rfl) ?_
                  refine va_iald hx hb hK hP 2 0 rfl rfl (iv_v q48_4 (by decide) (by decide)) dX8_matchHalves_97 ?_
                  refine lv_topi (fun v13 ev13 => ?_)
                  refine lv_aload_n hx hb dX8_matchHalves_98 rfl (lv_at hl 3 rfl) ?_
                  refine va_get (D := D) (ci := 8) (v := .ref a_shape) (C := RX8) (T := TX8) (N := 18) hx hb hT i_X8 hown hK hP 0 rfl rfl 10 (by decide) (hT _ q_135) (fun _ h9 => h9) rfl dX8_matchHalves_99 ?_
                  refine lv_iload_n hx hb dX8_matchHalves_102 rfl (lv_at hl 1 rfl) ?_
                  refine va_iald hx hb hK hP 2 0 rfl rfl (iv_v q48_3 (by decide) (by decide)) dX8_matchHalves_103 ?_
                  refine lv_topi (fun v14 ev14 => ?_)
                  refine lv_isub hx hb dX8_matchHalves_104 ?_
                  refine lv_topi (fun v15 ev15 => ?_)
                  refine va_calli (va_runS (As := [.int v15]) (rest := []) ⟨hx, hb, hml, hown, hT⟩ (c_J9_abs_0f7a4_2 l D cs kK kV v15) (va_cwS 1 hT (hz_gS q_647 q_648 q_369 q_649) rfl rfl rfl (by decide +kernel) ⟨(Nat.le_of_ble_eq_true rfl), (Nat.le_of_ble_eq_true rfl)⟩) ⟨hz_P.blind, hz_P.mk (hP.sub (ws' := []) [] rfl) hE hS⟩ rfl rfl hl.1 rfl (lv_room (Nat.le_of_ble_eq_true rfl)) dX8_matchHalves_105 ⟨(Nat.le_of_ble_eq_true rfl), (Nat.le_of_ble_eq_true rfl)⟩) hS (fun _ _ h => h.elim) (fun _ h => h.elim) (fun r16 u t H1 locs ht hvm hw hB hz1 hk1 hS => ?_)
                  have hP := hz_keep hP hk1
                  clear hk1 hB hz1
                  generalize H1 = H at hP hS ⊢
                  refine lv_aload_n hx hb dX8_matchHalves_108 rfl (lv_at hl 3 rfl) ?_
                  refine va_get (D := D) (ci := 8) (v := .int a__near) (C := RX8) (T := TX8) (N := 18) hx hb hT i_X8 hown hK hP 0 rfl rfl 4 (by decide) (hT _ q_147) (fun _ h9 => h9) rfl dX8_matchHalves_109 ?_
                  refine lv_icmp_gt (tgt := 127) hx hb dX8_matchHalves_112 (by decide) (fun c17 => ?_) (fun c17 => ?_)
                  · have h18 : IV (-2147483648) 2147483646 a__near := iv_lt1 c17 iv_top iv_top (by decide)
                    have h19 : IV (-2147483647) 2147483647 r16 := iv_lt2 c17 iv_top iv_top (by decide)
                    exact K127 k12_C_a_nearly k12_C_a_fitting q48_1 q48_3 q48_4 H locs (hP.sub (ws' := [(a, .inr (8, [.int a__stalls, .int a__shift, .int a__halves, .int a__buyers, .int a__near, .int a__dusk, .int a__duskPrice, .int a__hear, .int a__forged, .ref a_stall, .ref a_shape, .ref a_side, .ref a_price, .ref a_purse, .ref a_spot, .ref a_club, .ref a_fitting, .ref a_nearly])), (a_side, .inl (cs 0, 12, .inl a_side_c)), (a_shape, .inl (cs 0, 12, .inl a_shape_c)), (a_nearly, .inl (cs 0, 12, .inl k12_C_a_nearly)), (a_fitting, .inl (cs 0, 12, .inl k12_C_a_fitting))]) [0, 1, 2, 3, 4] rfl) (hD.sub (ws' := [(a, .inr (8, [.int a__stalls, .int a__shift, .int a__halves, .int a__buyers, .int a__near, .int a__dusk, .int a__duskPrice, .int a__hear, .int a__forged, .ref a_stall, .ref a_shape, .ref a_side, .ref a_price, .ref a_purse, .ref a_spot, .ref a_club, .ref a_fitting, .ref a_nearly])), (a_side, .inl (cs 0, 12, .inl a_side_c)), (a_shape, .inl (cs 0, 12, .inl a_shape_c)), (a_nearly, .inl (cs 0, 12, .inl k12_C_a_nearly)), (a_fitting, .inl (cs 0, 12, .inl k12_C_a_fitting))]) [0, 1, 2, 3, 4] (by decide) rfl) hS ls (lv_sub hl [1, 2, 3] rfl)
                  · refine lv_aload_n hx hb dX8_matchHalves_115 rfl (lv_at hl 3 rfl) ?_
                    refine va_get (D := D) (ci := 8) (v := .ref a_nearly) (C := RX8) (T := TX8) (N := 18) hx hb hT i_X8 hown hK hP 0 rfl rfl 17 (by decide) (hT _ q_142) (fun _ h9 => h9) rfl dX8_matchHalves_116 ?_
                    refine lv_iload_n hx hb dX8_matchHalves_119 rfl (lv_at hl 2 rfl) ?_
                    refine lv_dup2_11 hx hb dX8_matchHalves_120 rfl rfl ?_
                    refine va_iald hx hb hK hP 3 0 rfl rfl (iv_v q48_4 (by decide) (by decide)) dX8_matchHalves_121 ?_
                    refine lv_topi (fun v20 ev20 => ?_)
                    refine lv_iconst (v := 1) hx hb dX8_matchHalves_122 (by decide) ?_
                    refine lv_iload_n hx hb dX8_matchHalves_123 rfl (lv_at hl 1 rfl) ?_
                    refine lv_ishl hx hb dX8_matchHalves_124 ?_
                    refine lv_topi (fun v21 ev21 => ?_)
                    have hv21 : IV 1 2048 v21 := iv_shl1 ev21 q48_3 (by decide) (by decide) (by decide)
                    refine lv_ior hx hb dX8_matchHalves_125 ?_
                    refine lv_topi (fun v22 ev22 => ?_)
                    refine va_iast hx hb hK hP hD hS 3 0 rfl rfl (iv_v q48_4 (by decide) (by decide)) dX8_matchHalves_126 (fun H locs hP hD hS => ?_)
                    have hP : va_P D classes [(a, .inr (8, [.int a__stalls, .int a__shift, .int a__halves, .int a__buyers, .int a__near, .int a__dusk, .int a__duskPrice, .int a__hear, .int a__forged, .ref a_stall, .ref a_shape, .ref a_side, .ref a_price, .ref a_purse, .ref a_spot, .ref a_club, .ref a_fitting, .ref a_nearly])), (a_side, .inl (cs 0, 12, .inl a_side_c)), (a_shape, .inl (cs 0, 12, .inl a_shape_c)), (a_nearly, .inl (cs 0, 12, .inl (upd k12_C_a_nearly (Int32.toNatClampNeg k2_L_1) v22))), (a_fitting, .inl (cs 0, 12, .inl k12_C_a_fitting))] H := hP
                    have hD : va_D A [(a, .inr (8, [.int a__stalls, .int a__shift, .int a__halves, .int a__buyers, .int a__near, .int a__dusk, .int a__duskPrice, .int a__hear, .int a__forged, .ref a_stall, .ref a_shape, .ref a_side, .ref a_price, .ref a_purse, .ref a_spot, .ref a_club, .ref a_fitting, .ref a_nearly])), (a_side, .inl (cs 0, 12, .inl a_side_c)), (a_shape, .inl (cs 0, 12, .inl a_shape_c)), (a_nearly, .inl (cs 0, 12, .inl (upd k12_C_a_nearly (Int32.toNatClampNeg k2_L_1) v22))), (a_fitting, .inl (cs 0, 12, .inl k12_C_a_fitting))] := hD
                    generalize upd k12_C_a_nearly (Int32.toNatClampNeg k2_L_1) v22 = f23 at hP hD
                    exact K127 f23 k12_C_a_fitting q48_1 q48_3 q48_4 H locs (hP.sub (ws' := [(a, .inr (8, [.int a__stalls, .int a__shift, .int a__halves, .int a__buyers, .int a__near, .int a__dusk, .int a__duskPrice, .int a__hear, .int a__forged, .ref a_stall, .ref a_shape, .ref a_side, .ref a_price, .ref a_purse, .ref a_spot, .ref a_club, .ref a_fitting, .ref a_nearly])), (a_side, .inl (cs 0, 12, .inl a_side_c)), (a_shape, .inl (cs 0, 12, .inl a_shape_c)), (a_nearly, .inl (cs 0, 12, .inl f23)), (a_fitting, .inl (cs 0, 12, .inl k12_C_a_fitting))]) [0, 1, 2, 3, 4] rfl) (hD.sub (ws' := [(a, .inr (8, [.int a__stalls, .int a__shift, .int a__halves, .int a__buyers, .int a__near, .int a__dusk, .int a__duskPrice, .int a__hear, .int a__forged, .ref a_stall, .ref a_shape, .ref a_side, .ref a_price, .ref a_purse, .ref a_spot, .ref a_club, .ref a_fitting, .ref a_nearly])), (a_side, .inl (cs 0, 12, .inl a_side_c)), (a_shape, .inl (cs 0, 12, .inl a_shape_c)), (a_nearly, .inl (cs 0, 12, .inl f23)), (a_fitting, .inl (cs 0, 12, .inl k12_C_a_fitting))]) [0, 1, 2, 3, 4] (by decide) rfl) hS ls (lv_sub hl [1, 2, 3] rfl)
              · refine lv_if_eq (tgt := 77) hx hb dX8_matchHalves_59 (by decide) (fun z => absurd z (by decide)) (fun _ => ?_)
                exact K62 k48_S_0 q48_1 q48_3 q48_4 (iv_w h8 (by decide) (by decide)) H locs (hP.sub (ws' := [(a, .inr (8, [.int a__stalls, .int a__shift, .int a__halves, .int a__buyers, .int a__near, .int a__dusk, .int a__duskPrice, .int a__hear, .int a__forged, .ref a_stall, .ref a_shape, .ref a_side, .ref a_price, .ref a_purse, .ref a_spot, .ref a_club, .ref a_fitting, .ref a_nearly])), (a_side, .inl (cs 0, 12, .inl a_side_c)), (a_shape, .inl (cs 0, 12, .inl a_shape_c)), (a_nearly, .inl (cs 0, 12, .inl k12_C_a_nearly)), (a_fitting, .inl (cs 0, 12, .inl k12_C_a_fitting))]) [0, 1, 2, 3, 4] rfl) (hD.sub (ws' := [(a, .inr (8, [.int a__stalls, .int a__shift, .int a__halves, .int a__buyers, .int a__near, .int a__dusk, .int a__duskPrice, .int a__hear, .int a__forged, .ref a_stall, .ref a_shape, .ref a_side, .ref a_price, .ref a_purse, .ref a_spot, .ref a_club, .ref a_fitting, .ref a_nearly])), (a_side, .inl (cs 0, 12, .inl a_side_c)), (a_shape, .inl (cs 0, 12, .inl a_shape_c)), (a_nearly, .inl (cs 0, 12, .inl k12_C_a_nearly)), (a_fitting, .inl (cs 0, 12, .inl k12_C_a_fitting))]) [0, 1, 2, 3, 4] (by decide) rfl) hS ls (lv_sub hl [0, 1, 2, 3] rfl)
          refine lv_iload_n hx hb dX8_matchHalves_12 rfl (lv_at hl 0 rfl) ?_
          refine lv_aload_n hx hb dX8_matchHalves_13 rfl (lv_at hl 2 rfl) ?_
          refine va_get (D := D) (ci := 8) (v := .int a__halves) (C := RX8) (T := TX8) (N := 18) hx hb hT i_X8 hown hK hP 0 rfl rfl 2 (by decide) (hT _ q_143) (fun _ h9 => h9) rfl dX8_matchHalves_14 ?_
          refine lv_icmp_ge (tgt := 133) hx hb dX8_matchHalves_17 (by decide) (fun c24 => ?_) (fun c24 => ?_)
          · have h25 : IV 1 12 k12_L_2 := iv_le2 c24 q12_1 q12_3 (by decide)
            obtain ⟨v26, ev26⟩ : ∃ z : Int32, z = k2_L_1 + 1 := ⟨_, rfl⟩
            have hv26 : IV 1 12 v26 := iv_add ev26 q12_4 (iv_c (a := 1) (b := 1) (by decide)) (by decide) (by decide)
            have dv26 : v26.toInt = k2_L_1.toInt + 1 := iv_addE ev26 q12_4 (iv_c (a := 1) (b := 1) (by decide)) (by decide) (by decide) (by decide)
            refine lv_iinc (v := v26) (lv' := [(1, .int v26), (2, .int k12_L_2), (0, .ref a)]) hx hb dX8_matchHalves_133 hl (k := 1) rfl (by rw [ev26]; rfl) (by decide) rfl (fun ls hl => ?_)
            refine lv_goto (tgt := 2) hx hb dX8_matchHalves_136 (by decide) ?_
            exact ih2 v26 k12_C_a_nearly k12_C_a_fitting (by have h9 := q12_4; unfold IV at h9; have := dv26; omega) (iv_w hv26 (by decide) (by decide)) H locs (hP.sub (ws' := [(a, .inr (8, [.int a__stalls, .int a__shift, .int a__halves, .int a__buyers, .int a__near, .int a__dusk, .int a__duskPrice, .int a__hear, .int a__forged, .ref a_stall, .ref a_shape, .ref a_side, .ref a_price, .ref a_purse, .ref a_spot, .ref a_club, .ref a_fitting, .ref a_nearly])), (a_side, .inl (cs 0, 12, .inl a_side_c)), (a_shape, .inl (cs 0, 12, .inl a_shape_c)), (a_nearly, .inl (cs 0, 12, .inl k12_C_a_nearly)), (a_fitting, .inl (cs 0, 12, .inl k12_C_a_fitting))]) [0, 1, 2, 3, 4] rfl) (hD.sub (ws' := [(a, .inr (8, [.int a__stalls, .int a__shift, .int a__halves, .int a__buyers, .int a__near, .int a__dusk, .int a__duskPrice, .int a__hear, .int a__forged, .ref a_stall, .ref a_shape, .ref a_side, .ref a_price, .ref a_purse, .ref a_spot, .ref a_club, .ref a_fitting, .ref a_nearly])), (a_side, .inl (cs 0, 12, .inl a_side_c)), (a_shape, .inl (cs 0, 12, .inl a_shape_c)), (a_nearly, .inl (cs 0, 12, .inl k12_C_a_nearly)), (a_fitting, .inl (cs 0, 12, .inl k12_C_a_fitting))]) [0, 1, 2, 3, 4] (by decide) rfl) hS ls (lv_sub hl [0, 2] rfl)
          · have h27 : IV 0 11 k12_L_2 := iv_lt1 (Int32.not_le.mp c24) q12_3 q12_1 (by decide)
            refine lv_iload_n hx hb dX8_matchHalves_20 rfl (lv_at hl 1 rfl) ?_
            refine lv_iload_n hx hb dX8_matchHalves_21 rfl (lv_at hl 0 rfl) ?_
            refine lv_icmp_ne (tgt := 28) hx hb dX8_matchHalves_22 (by decide) (fun c28 => ?_) (fun c28 => ?_)
            · refine lv_aload_n hx hb dX8_matchHalves_28 rfl (lv_at hl 2 rfl) ?_
              refine va_get (D := D) (ci := 8) (v := .int a__forged) (C := RX8) (T := TX8) (N := 18) hx hb hT i_X8 hown hK hP 0 rfl rfl 8 (by decide) (hT _ q_148) (fun _ h9 => h9) rfl dX8_matchHalves_29 ?_
              refine lv_iconst (v := 1) hx hb dX8_matchHalves_32 (by decide) ?_
              refine lv_iload_n hx hb dX8_matchHalves_33 rfl (lv_at hl 1 rfl) ?_
              refine lv_ishl hx hb dX8_matchHalves_34 ?_
              refine lv_topi (fun v29 ev29 => ?_)
              have hv29 : IV 1 2048 v29 := iv_shl1 ev29 q12_4 (by decide) (by decide) (by decide)
              refine lv_iconst (v := 1) hx hb dX8_matchHalves_35 (by decide) ?_
              refine lv_iload_n hx hb dX8_matchHalves_36 rfl (lv_at hl 0 rfl) ?_
              refine lv_ishl hx hb dX8_matchHalves_37 ?_
              refine lv_topi (fun v30 ev30 => ?_)
              have hv30 : IV 1 2048 v30 := iv_shl1 ev30 h27 (by decide) (by decide) (by decide)
              refine lv_ior hx hb dX8_matchHalves_38 ?_
              refine lv_topi (fun v31 ev31 => ?_)
              have hv31 : IV 0 4095 v31 := iv_or (k := 12) ev31 hv29 hv30 (by decide) (by decide) (by decide) (by decide) (by decide) (by decide)
              refine lv_iand hx hb dX8_matchHalves_39 ?_
              refine lv_topi (fun v32 ev32 => ?_)
              have hv32 : IV 0 4095 v32 := iv_and2 ev32 hv31
              refine lv_if_eq (tgt := 47) hx hb dX8_matchHalves_40 (by decide) (fun c33 => ?_) (fun c33 => ?_)
              · have h34 : IV 0 0 v32 := iv_eq1 c33 hv32 (iv_c (a := 0) (b := 0) (by decide)) (by decide) (by decide)
                refine lv_iconst (v := 0) hx hb dX8_matchHalves_47 (by decide) ?_
                exact K48 0 q12_1 h27 q12_4 (iv_c (by decide)) H locs (hP.sub (ws' := [(a, .inr (8, [.int a__stalls, .int a__shift, .int a__halves, .int a__buyers, .int a__near, .int a__dusk, .int a__duskPrice, .int a__hear, .int a__forged, .ref a_stall, .ref a_shape, .ref a_side, .ref a_price, .ref a_purse, .ref a_spot, .ref a_club, .ref a_fitting, .ref a_nearly])), (a_side, .inl (cs 0, 12, .inl a_side_c)), (a_shape, .inl (cs 0, 12, .inl a_shape_c)), (a_nearly, .inl (cs 0, 12, .inl k12_C_a_nearly)), (a_fitting, .inl (cs 0, 12, .inl k12_C_a_fitting))]) [0, 1, 2, 3, 4] rfl) (hD.sub (ws' := [(a, .inr (8, [.int a__stalls, .int a__shift, .int a__halves, .int a__buyers, .int a__near, .int a__dusk, .int a__duskPrice, .int a__hear, .int a__forged, .ref a_stall, .ref a_shape, .ref a_side, .ref a_price, .ref a_purse, .ref a_spot, .ref a_club, .ref a_fitting, .ref a_nearly])), (a_side, .inl (cs 0, 12, .inl a_side_c)), (a_shape, .inl (cs 0, 12, .inl a_shape_c)), (a_nearly, .inl (cs 0, 12, .inl k12_C_a_nearly)), (a_fitting, .inl (cs 0, 12, .inl k12_C_a_fitting))]) [0, 1, 2, 3, 4] (by decide) rfl) hS ls (lv_sub hl [0, 1, 2] rfl)
              · have h35 : IV 1 4095 v32 := iv_neL c33 hv32 (by decide)
                refine lv_iconst (v := 1) hx hb dX8_matchHalves_43 (by decide) ?_
                refine lv_goto (tgt := 48) hx hb dX8_matchHalves_44 (by decide) ?_
                exact K48 1 q12_1 h27 q12_4 (iv_c (by decide)) H locs (hP.sub (ws' := [(a, .inr (8, [.int a__stalls, .int a__shift, .int a__halves, .int a__buyers, .int a__near, .int a__dusk, .int a__duskPrice, .int a__hear, .int a__forged, .ref a_stall, .ref a_shape, .ref a_side, .ref a_price, .ref a_purse, .ref a_spot, .ref a_club, .ref a_fitting, .ref a_nearly])), (a_side, .inl (cs 0, 12, .inl a_side_c)), (a_shape, .inl (cs 0, 12, .inl a_shape_c)), (a_nearly, .inl (cs 0, 12, .inl k12_C_a_nearly)), (a_fitting, .inl (cs 0, 12, .inl k12_C_a_fitting))]) [0, 1, 2, 3, 4] rfl) (hD.sub (ws' := [(a, .inr (8, [.int a__stalls, .int a__shift, .int a__halves, .int a__buyers, .int a__near, .int a__dusk, .int a__duskPrice, .int a__hear, .int a__forged, .ref a_stall, .ref a_shape, .ref a_side, .ref a_price, .ref a_purse, .ref a_spot, .ref a_club, .ref a_fitting, .ref a_nearly])), (a_side, .inl (cs 0, 12, .inl a_side_c)), (a_shape, .inl (cs 0, 12, .inl a_shape_c)), (a_nearly, .inl (cs 0, 12, .inl k12_C_a_nearly)), (a_fitting, .inl (cs 0, 12, .inl k12_C_a_fitting))]) [0, 1, 2, 3, 4] (by decide) rfl) hS ls (lv_sub hl [0, 1, 2] rfl)
            · refine lv_goto (tgt := 127) hx hb dX8_matchHalves_25 (by decide) ?_
              exact K127 k12_C_a_nearly k12_C_a_fitting q12_1 h27 q12_4 H locs (hP.sub (ws' := [(a, .inr (8, [.int a__stalls, .int a__shift, .int a__halves, .int a__buyers, .int a__near, .int a__dusk, .int a__duskPrice, .int a__hear, .int a__forged, .ref a_stall, .ref a_shape, .ref a_side, .ref a_price, .ref a_purse, .ref a_spot, .ref a_club, .ref a_fitting, .ref a_nearly])), (a_side, .inl (cs 0, 12, .inl a_side_c)), (a_shape, .inl (cs 0, 12, .inl a_shape_c)), (a_nearly, .inl (cs 0, 12, .inl k12_C_a_nearly)), (a_fitting, .inl (cs 0, 12, .inl k12_C_a_fitting))]) [0, 1, 2, 3, 4] rfl) (hD.sub (ws' := [(a, .inr (8, [.int a__stalls, .int a__shift, .int a__halves, .int a__buyers, .int a__near, .int a__dusk, .int a__duskPrice, .int a__hear, .int a__forged, .ref a_stall, .ref a_shape, .ref a_side, .ref a_price, .ref a_purse, .ref a_spot, .ref a_club, .ref a_fitting, .ref a_nearly])), (a_side, .inl (cs 0, 12, .inl a_side_c)), (a_shape, .inl (cs 0, 12, .inl a_shape_c)), (a_nearly, .inl (cs 0, 12, .inl k12_C_a_nearly)), (a_fitting, .inl (cs 0, 12, .inl k12_C_a_fitting))]) [0, 1, 2, 3, 4] (by decide) rfl) hS ls (lv_sub hl [0, 1, 2] rfl)
      refine lv_iload_n hx hb dX8_matchHalves_2 rfl (lv_at hl 0 rfl) ?_
      refine lv_aload_n hx hb dX8_matchHalves_3 rfl (lv_at hl 1 rfl) ?_
      refine va_get (D := D) (ci := 8) (v := .int a__halves) (C := RX8) (T := TX8) (N := 18) hx hb hT i_X8 hown hK hP 0 rfl rfl 2 (by decide) (hT _ q_143) (fun _ h9 => h9) rfl dX8_matchHalves_4 ?_
      refine lv_icmp_ge (tgt := 139) hx hb dX8_matchHalves_7 (by decide) (fun c36 => ?_) (fun c36 => ?_)
      · refine W.widen (k := 0) (n := 0) (Nat.le_of_ble_eq_true rfl) (Nat.le_of_ble_eq_true rfl) ?_
        exact W.vret hx hb hr (fun t ht hW => ⟨⟨(), rfl, trivial, k2_C_a_fitting, k2_C_a_nearly, by rw [ht]; exact hP.sub [0, 1, 2, 3, 4] rfl, hD.sub [0, 1, 2, 3, 4] (by decide) rfl⟩, hS.F ht⟩) hS.2.2 dX8_matchHalves_139
      · have h37 : IV 0 11 k2_L_1 := iv_lt1 (Int32.not_le.mp c36) q2_3 h_a__halves (by decide)
        have h38 : IV 1 12 a__halves := iv_lt2 (Int32.not_le.mp c36) q2_3 h_a__halves (by decide)
        refine lv_iconst (v := 0) hx hb dX8_matchHalves_10 (by decide) ?_
        refine lv_istore_n (lv' := [(2, .int 0), (1, .int k2_L_1), (0, .ref a)]) hx hb dX8_matchHalves_11 rfl hl (by decide) rfl (fun ls hl => ?_)
        exact K12 _ 0 k2_C_a_nearly k2_C_a_fitting (Nat.le_refl _) h38 (iv_c (by decide)) h37 H locs (hP.sub (ws' := [(a, .inr (8, [.int a__stalls, .int a__shift, .int a__halves, .int a__buyers, .int a__near, .int a__dusk, .int a__duskPrice, .int a__hear, .int a__forged, .ref a_stall, .ref a_shape, .ref a_side, .ref a_price, .ref a_purse, .ref a_spot, .ref a_club, .ref a_fitting, .ref a_nearly])), (a_side, .inl (cs 0, 12, .inl a_side_c)), (a_shape, .inl (cs 0, 12, .inl a_shape_c)), (a_nearly, .inl (cs 0, 12, .inl k2_C_a_nearly)), (a_fitting, .inl (cs 0, 12, .inl k2_C_a_fitting))]) [0, 1, 2, 3, 4] rfl) (hD.sub (ws' := [(a, .inr (8, [.int a__stalls, .int a__shift, .int a__halves, .int a__buyers, .int a__near, .int a__dusk, .int a__duskPrice, .int a__hear, .int a__forged, .ref a_stall, .ref a_shape, .ref a_side, .ref a_price, .ref a_purse, .ref a_spot, .ref a_club, .ref a_fitting, .ref a_nearly])), (a_side, .inl (cs 0, 12, .inl a_side_c)), (a_shape, .inl (cs 0, 12, .inl a_shape_c)), (a_nearly, .inl (cs 0, 12, .inl k2_C_a_nearly)), (a_fitting, .inl (cs 0, 12, .inl k2_C_a_fitting))]) [0, 1, 2, 3, 4] (by decide) rfl) hS ls (lv_sub hl [0, 1, 2] rfl)
  refine lv_iconst (v := 0) hx hb dX8_matchHalves_0 (by decide) ?_
  refine lv_istore_n (lv' := [(1, .int 0), (0, .ref a)]) hx hb dX8_matchHalves_1 rfl hl (by decide) rfl (fun ls hl => ?_)
  exact K2 _ 0 a_nearly_c a_fitting_c (Nat.le_refl _) (iv_c (by decide)) H locs (hP.sub (ws' := [(a, .inr (8, [.int a__stalls, .int a__shift, .int a__halves, .int a__buyers, .int a__near, .int a__dusk, .int a__duskPrice, .int a__hear, .int a__forged, .ref a_stall, .ref a_shape, .ref a_side, .ref a_price, .ref a_purse, .ref a_spot, .ref a_club, .ref a_fitting, .ref a_nearly])), (a_side, .inl (cs 0, 12, .inl a_side_c)), (a_shape, .inl (cs 0, 12, .inl a_shape_c)), (a_nearly, .inl (cs 0, 12, .inl a_nearly_c)), (a_fitting, .inl (cs 0, 12, .inl a_fitting_c))]) [0, 1, 2, 3, 4] rfl) (hD.sub (ws' := [(a, .inr (8, [.int a__stalls, .int a__shift, .int a__halves, .int a__buyers, .int a__near, .int a__dusk, .int a__duskPrice, .int a__hear, .int a__forged, .ref a_stall, .ref a_shape, .ref a_side, .ref a_price, .ref a_purse, .ref a_spot, .ref a_club, .ref a_fitting, .ref a_nearly])), (a_side, .inl (cs 0, 12, .inl a_side_c)), (a_shape, .inl (cs 0, 12, .inl a_shape_c)), (a_nearly, .inl (cs 0, 12, .inl a_nearly_c)), (a_fitting, .inl (cs 0, 12, .inl a_fitting_c))]) [0, 1, 2, 3, 4] (by decide) rfl) hS ls (lv_sub hl [0, 1] rfl)
theorem dX6_atStalls_0 : decode cX6_atStalls 0 = .ok (.iconst 0, 1) := by decide +kernel
theorem dX6_atStalls_1 : decode cX6_atStalls 1 = .ok (.istore_n 1, 1) := by decide +kernel
theorem dX6_atStalls_2 : decode cX6_atStalls 2 = .ok (.iconst 0, 1) := by decide +kernel
theorem dX6_atStalls_3 : decode cX6_atStalls 3 = .ok (.istore_n 2, 1) := by decide +kernel
theorem dX6_atStalls_4 : decode cX6_atStalls 4 = .ok (.iload_n 2, 1) := by decide +kernel
theorem dX6_atStalls_5 : decode cX6_atStalls 5 = .ok (.bipush 8, 2) := by decide +kernel
theorem dX6_atStalls_7 : decode cX6_atStalls 7 = .ok (.if_icmp .ge 18, 3) := by decide +kernel
theorem dX6_atStalls_10 : decode cX6_atStalls 10 = .ok (.iload_n 1, 1) := by decide +kernel
theorem dX6_atStalls_11 : decode cX6_atStalls 11 = .ok (.aload_n 0, 1) := by decide +kernel
theorem dX6_atStalls_12 : decode cX6_atStalls 12 = .ok (.getfield 24, 3) := by decide +kernel
theorem dX6_atStalls_15 : decode cX6_atStalls 15 = .ok (.iload_n 2, 1) := by decide +kernel
theorem dX6_atStalls_16 : decode cX6_atStalls 16 = .ok (.iaload, 1) := by decide +kernel
theorem dX6_atStalls_17 : decode cX6_atStalls 17 = .ok (.ior, 1) := by decide +kernel
theorem dX6_atStalls_18 : decode cX6_atStalls 18 = .ok (.istore_n 1, 1) := by decide +kernel
theorem dX6_atStalls_19 : decode cX6_atStalls 19 = .ok (.iinc 2 1, 3) := by decide +kernel
theorem dX6_atStalls_22 : decode cX6_atStalls 22 = .ok (.goto (-18), 3) := by decide +kernel
theorem dX6_atStalls_25 : decode cX6_atStalls 25 = .ok (.iload_n 1, 1) := by decide +kernel
theorem dX6_atStalls_26 : decode cX6_atStalls 26 = .ok (.ireturn, 1) := by decide +kernel
set_option maxHeartbeats 4000000 in
set_option maxRecDepth 100000 in
theorem c_X6_atStalls (l : Launch) (D : va_G) (cs : Nat → ClassId) (kK kV : Nat → Nat) (a : Nat) (a__hour : Int32) (a_purse : Nat) (a_spot : Nat) (a_seen : Nat) (a_has : Nat) (a_at : Nat) (a_at_c : Nat → Int32)  : Met l yX6_atStalls (hz_w yX6_atStalls cX6_atStalls 3 (some .int)) ({ frames := 0, cells := 0, slots := 0, locals := 0 }) (va_Pc [.ref a] (hz_P D cs kK kV [(a, .inr (6, [.int a__hour, .ref a_purse, .ref a_spot, .ref a_seen, .ref a_has, .ref a_at])), (a_at, .inl (cs 0, 8, .inl a_at_c))])) (va_Qi (fun (r : Int32) (_ : Unit) => True) (fun _ t => True) (fun _ => False)) 0 0 (fun _ => False) := by
  refine Met.ofW (cc := cX6_atStalls) (maxL := 3) (ret := (some .int)) (by decide) rfl ?_
  intro p e s m args below meth c s₁ B hml hv
  obtain ⟨rfl, hP, hE⟩ := hv
  have hx := B.exec
  have hb := B.bytes
  have hr := B.returns
  have hT : ∀ w ∈ TB, w.before _ s = true := fun w h => atoms_spec (ws := hz_w yX6_atStalls cX6_atStalls 3 (some .int)) B.pre w (List.mem_cons_of_mem _ h)
  have hown : s.vm.findClass RX6 = some m.cls := findClass_of_methodNamed B.named
  have hlocks := B.notSynchronized
  clear B
  have hS : va_S (fun _ => False) s.heap s.heap [] := va_S.rf
  have hK := hE.1
  have hl := lv_entry ([.ref a]) (n := 3) (Nat.le_of_ble_eq_true rfl)
  rw [lg_entry_eq]
  generalize (lg_sl ([.ref a]) ++ List.replicate (3 - (lg_sl ([.ref a])).length) Slot.unset).toArray = ls at hl ⊢
  have hl : lv_has ls 3 [(0, .ref a)] := hl
  obtain ⟨H, eH⟩ : ∃ z, z = s.heap := ⟨_, rfl⟩
  have hP : va_P D classes [(a, .inr (6, [.int a__hour, .ref a_purse, .ref a_spot, .ref a_seen, .ref a_has, .ref a_at])), (a_at, .inl (cs 0, 8, .inl a_at_c))] H := by rw [eH]; exact hP
  have hS : va_S (fun _ => False) s.heap H [] := by rw [eH]; exact hS
  rw [← eH]
  clear eH
  obtain ⟨locs, el⟩ : ∃ z : List Loc, z = [] := ⟨_, rfl⟩
  rw [← el] at hS ⊢
  clear el
  have K4 : ∀ (n : Nat) (k4_L_2 : Int32) (k4_L_1 : Int32), (8 - k4_L_2.toInt + 1).toNat ≤ n → IV 0 8 k4_L_2 → ∀ (H : Heap) (locs : List Loc), va_P D classes [(a, .inr (6, [.int a__hour, .ref a_purse, .ref a_spot, .ref a_seen, .ref a_has, .ref a_at])), (a_at, .inl (cs 0, 8, .inl a_at_c))] H → va_S (fun _ => False) s.heap H locs → ∀ ls : Array Slot, lv_has ls 3 [(2, .int k4_L_2), (1, .int k4_L_1), (0, .ref a)] → W p l e (headSpec (hz_w yX6_atStalls cX6_atStalls 3 (some .int)) ({ frames := 0, cells := 0, slots := 0, locals := 0 })).room s m [.ref a].toArray below meth c H locs 0 0 (MQ below (va_Qi (fun (r : Int32) (_ : Unit) => True) (fun _ t => True) (fun _ => False)) [.ref a].toArray s 0 0 (fun _ => False)) (F0 m 4 ls []) := by
    intro n
    induction n with
    | zero =>
      intro k4_L_2 k4_L_1 hn q4_0 H locs hP hS ls hl
      exact absurd hn (by unfold IV at q4_0; omega)
    | succ n ih4 =>
      intro k4_L_2 k4_L_1 hn q4_0 H locs hP hS ls hl
      refine lv_iload_n hx hb dX6_atStalls_4 rfl (lv_at hl 0 rfl) ?_
      refine lv_bipush (v := 8) hx hb dX6_atStalls_5 (by decide) ?_
      refine lv_icmp_ge (tgt := 25) hx hb dX6_atStalls_7 (by decide) (fun c1 => ?_) (fun c1 => ?_)
      · have h2 : IV 8 8 k4_L_2 := iv_le2 c1 (iv_c (a := 8) (b := 8) (by decide)) q4_0 (by decide)
        refine lv_iload_n hx hb dX6_atStalls_25 rfl (lv_at hl 1 rfl) ?_
        exact W.iret (v := k4_L_1) hx hb hr (fun t ht hW => ⟨⟨k4_L_1, (), rfl, trivial, trivial⟩, hS.F ht⟩) hS.2.2 dX6_atStalls_26
      · have h3 : IV 0 7 k4_L_2 := iv_lt1 (Int32.not_le.mp c1) q4_0 (iv_c (a := 8) (b := 8) (by decide)) (by decide)
        refine lv_iload_n hx hb dX6_atStalls_10 rfl (lv_at hl 1 rfl) ?_
        refine lv_aload_n hx hb dX6_atStalls_11 rfl (lv_at hl 2 rfl) ?_
        refine va_get (D := D) (ci := 6) (v := .ref a_at) (C := RX6) (T := TX6) (N := 6) hx hb hT i_X6 hown hK hP 0 rfl rfl 5 (by decide) (hT _ q_118) (fun _ h9 => h9) rfl dX6_atStalls_12 ?_
        refine lv_iload_n hx hb dX6_atStalls_15 rfl (lv_at hl 0 rfl) ?_
        refine va_iald hx hb hK hP 1 0 rfl rfl (iv_v h3 (by decide) (by decide)) dX6_atStalls_16 ?_
        refine lv_topi (fun v4 ev4 => ?_)
        refine lv_ior hx hb dX6_atStalls_17 ?_
        refine lv_topi (fun v5 ev5 => ?_)
        refine lv_istore_n (lv' := [(1, .int v5), (2, .int k4_L_2), (0, .ref a)]) hx hb dX6_atStalls_18 rfl hl (by decide) rfl (fun ls hl => ?_)
        obtain ⟨v6, ev6⟩ : ∃ z : Int32, z = k4_L_2 + 1 := ⟨_, rfl⟩
        have hv6 : IV 1 8 v6 := iv_add ev6 h3 (iv_c (a := 1) (b := 1) (by decide)) (by decide) (by decide)
        have dv6 : v6.toInt = k4_L_2.toInt + 1 := iv_addE ev6 h3 (iv_c (a := 1) (b := 1) (by decide)) (by decide) (by decide) (by decide)
        refine lv_iinc (v := v6) (lv' := [(2, .int v6), (1, .int v5), (0, .ref a)]) hx hb dX6_atStalls_19 hl (k := 1) rfl (by rw [ev6]; rfl) (by decide) rfl (fun ls hl => ?_)
        refine lv_goto (tgt := 4) hx hb dX6_atStalls_22 (by decide) ?_
        exact ih4 v6 v5 (by have h9 := h3; unfold IV at h9; have := dv6; omega) (iv_w hv6 (by decide) (by decide)) H locs (hP.sub (ws' := [(a, .inr (6, [.int a__hour, .ref a_purse, .ref a_spot, .ref a_seen, .ref a_has, .ref a_at])), (a_at, .inl (cs 0, 8, .inl a_at_c))]) [0, 1] rfl) hS ls (lv_sub hl [0, 1, 2] rfl)
  refine lv_iconst (v := 0) hx hb dX6_atStalls_0 (by decide) ?_
  refine lv_istore_n (lv' := [(1, .int 0), (0, .ref a)]) hx hb dX6_atStalls_1 rfl hl (by decide) rfl (fun ls hl => ?_)
  refine lv_iconst (v := 0) hx hb dX6_atStalls_2 (by decide) ?_
  refine lv_istore_n (lv' := [(2, .int 0), (1, .int 0), (0, .ref a)]) hx hb dX6_atStalls_3 rfl hl (by decide) rfl (fun ls hl => ?_)
  exact K4 _ 0 0 (Nat.le_refl _) (iv_c (by decide)) H locs (hP.sub (ws' := [(a, .inr (6, [.int a__hour, .ref a_purse, .ref a_spot, .ref a_seen, .ref a_has, .ref a_at])), (a_at, .inl (cs 0, 8, .inl a_at_c))]) [0, 1] rfl) hS ls (lv_sub hl [0, 1, 2] rfl)
theorem dX6_whereIs_0 : decode cX6_whereIs 0 = .ok (.iconst 0, 1) := by decide +kernel
theorem dX6_whereIs_1 : decode cX6_whereIs 1 = .ok (.istore_n 2, 1) := by decide +kernel
theorem dX6_whereIs_2 : decode cX6_whereIs 2 = .ok (.iload_n 2, 1) := by decide +kernel
theorem dX6_whereIs_3 : decode cX6_whereIs 3 = .ok (.bipush 8, 2) := by decide +kernel
theorem dX6_whereIs_5 : decode cX6_whereIs 5 = .ok (.if_icmp .ge 25, 3) := by decide +kernel
theorem dX6_whereIs_8 : decode cX6_whereIs 8 = .ok (.aload_n 0, 1) := by decide +kernel
theorem dX6_whereIs_9 : decode cX6_whereIs 9 = .ok (.getfield 24, 3) := by decide +kernel
theorem dX6_whereIs_12 : decode cX6_whereIs 12 = .ok (.iload_n 2, 1) := by decide +kernel
theorem dX6_whereIs_13 : decode cX6_whereIs 13 = .ok (.iaload, 1) := by decide +kernel
theorem dX6_whereIs_14 : decode cX6_whereIs 14 = .ok (.iload_n 1, 1) := by decide +kernel
theorem dX6_whereIs_15 : decode cX6_whereIs 15 = .ok (.ishr, 1) := by decide +kernel
theorem dX6_whereIs_16 : decode cX6_whereIs 16 = .ok (.iconst 1, 1) := by decide +kernel
theorem dX6_whereIs_17 : decode cX6_whereIs 17 = .ok (.iand, 1) := by decide +kernel
theorem dX6_whereIs_18 : decode cX6_whereIs 18 = .ok (.iconst 1, 1) := by decide +kernel
theorem dX6_whereIs_19 : decode cX6_whereIs 19 = .ok (.if_icmp .ne 5, 3) := by decide +kernel
theorem dX6_whereIs_22 : decode cX6_whereIs 22 = .ok (.iload_n 2, 1) := by decide +kernel
theorem dX6_whereIs_23 : decode cX6_whereIs 23 = .ok (.ireturn, 1) := by decide +kernel
theorem dX6_whereIs_24 : decode cX6_whereIs 24 = .ok (.iinc 2 1, 3) := by decide +kernel
theorem dX6_whereIs_27 : decode cX6_whereIs 27 = .ok (.goto (-25), 3) := by decide +kernel
theorem dX6_whereIs_30 : decode cX6_whereIs 30 = .ok (.iconst 0, 1) := by decide +kernel
theorem dX6_whereIs_31 : decode cX6_whereIs 31 = .ok (.istore_n 2, 1) := by decide +kernel
theorem dX6_whereIs_32 : decode cX6_whereIs 32 = .ok (.iload_n 2, 1) := by decide +kernel
theorem dX6_whereIs_33 : decode cX6_whereIs 33 = .ok (.iconst 4, 1) := by decide +kernel
theorem dX6_whereIs_34 : decode cX6_whereIs 34 = .ok (.if_icmp .ge 28, 3) := by decide +kernel
theorem dX6_whereIs_37 : decode cX6_whereIs 37 = .ok (.aload_n 0, 1) := by decide +kernel
theorem dX6_whereIs_38 : decode cX6_whereIs 38 = .ok (.getfield 21, 3) := by decide +kernel
theorem dX6_whereIs_41 : decode cX6_whereIs 41 = .ok (.iload_n 2, 1) := by decide +kernel
theorem dX6_whereIs_42 : decode cX6_whereIs 42 = .ok (.iaload, 1) := by decide +kernel
theorem dX6_whereIs_43 : decode cX6_whereIs 43 = .ok (.iload_n 1, 1) := by decide +kernel
theorem dX6_whereIs_44 : decode cX6_whereIs 44 = .ok (.ishr, 1) := by decide +kernel
theorem dX6_whereIs_45 : decode cX6_whereIs 45 = .ok (.iconst 1, 1) := by decide +kernel
theorem dX6_whereIs_46 : decode cX6_whereIs 46 = .ok (.iand, 1) := by decide +kernel
theorem dX6_whereIs_47 : decode cX6_whereIs 47 = .ok (.iconst 1, 1) := by decide +kernel
theorem dX6_whereIs_48 : decode cX6_whereIs 48 = .ok (.if_icmp .ne 8, 3) := by decide +kernel
theorem dX6_whereIs_51 : decode cX6_whereIs 51 = .ok (.bipush 100, 2) := by decide +kernel
theorem dX6_whereIs_53 : decode cX6_whereIs 53 = .ok (.iload_n 2, 1) := by decide +kernel
theorem dX6_whereIs_54 : decode cX6_whereIs 54 = .ok (.iadd, 1) := by decide +kernel
theorem dX6_whereIs_55 : decode cX6_whereIs 55 = .ok (.ireturn, 1) := by decide +kernel
theorem dX6_whereIs_56 : decode cX6_whereIs 56 = .ok (.iinc 2 1, 3) := by decide +kernel
theorem dX6_whereIs_59 : decode cX6_whereIs 59 = .ok (.goto (-27), 3) := by decide +kernel
theorem dX6_whereIs_62 : decode cX6_whereIs 62 = .ok (.iconst (-1), 1) := by decide +kernel
theorem dX6_whereIs_63 : decode cX6_whereIs 63 = .ok (.ireturn, 1) := by decide +kernel
set_option maxHeartbeats 4000000 in
set_option maxRecDepth 100000 in
theorem c_X6_whereIs (l : Launch) (D : va_G) (cs : Nat → ClassId) (kK kV : Nat → Nat) (a : Nat) (p0 : Int32) (a__hour : Int32) (a_purse : Nat) (a_spot : Nat) (a_seen : Nat) (a_has : Nat) (a_at : Nat) (a_at_c : Nat → Int32) (a_has_c : Nat → Int32)  : Met l yX6_whereIs (hz_w yX6_whereIs cX6_whereIs 3 (some .int)) ({ frames := 0, cells := 0, slots := 0, locals := 0 }) (va_Pc [.ref a, .int p0] (hz_P D cs kK kV [(a, .inr (6, [.int a__hour, .ref a_purse, .ref a_spot, .ref a_seen, .ref a_has, .ref a_at])), (a_at, .inl (cs 0, 8, .inl a_at_c)), (a_has, .inl (cs 0, 4, .inl a_has_c))])) (va_Qi (fun (r : Int32) (_ : Unit) => IV (-1) 103 r) (fun _ t => True) (fun _ => False)) 0 0 (fun _ => False) := by
  refine Met.ofW (cc := cX6_whereIs) (maxL := 3) (ret := (some .int)) (by decide) rfl ?_
  intro p e s m args below meth c s₁ B hml hv
  obtain ⟨rfl, hP, hE⟩ := hv
  have hx := B.exec
  have hb := B.bytes
  have hr := B.returns
  have hT : ∀ w ∈ TB, w.before _ s = true := fun w h => atoms_spec (ws := hz_w yX6_whereIs cX6_whereIs 3 (some .int)) B.pre w (List.mem_cons_of_mem _ h)
  have hown : s.vm.findClass RX6 = some m.cls := findClass_of_methodNamed B.named
  have hlocks := B.notSynchronized
  clear B
  have hS : va_S (fun _ => False) s.heap s.heap [] := va_S.rf
  have hK := hE.1
  have hl := lv_entry ([.ref a, .int p0]) (n := 3) (Nat.le_of_ble_eq_true rfl)
  rw [lg_entry_eq]
  generalize (lg_sl ([.ref a, .int p0]) ++ List.replicate (3 - (lg_sl ([.ref a, .int p0])).length) Slot.unset).toArray = ls at hl ⊢
  have hl : lv_has ls 3 [(0, .ref a), (1, .int p0)] := hl
  obtain ⟨H, eH⟩ : ∃ z, z = s.heap := ⟨_, rfl⟩
  have hP : va_P D classes [(a, .inr (6, [.int a__hour, .ref a_purse, .ref a_spot, .ref a_seen, .ref a_has, .ref a_at])), (a_at, .inl (cs 0, 8, .inl a_at_c)), (a_has, .inl (cs 0, 4, .inl a_has_c))] H := by rw [eH]; exact hP
  have hS : va_S (fun _ => False) s.heap H [] := by rw [eH]; exact hS
  rw [← eH]
  clear eH
  obtain ⟨locs, el⟩ : ∃ z : List Loc, z = [] := ⟨_, rfl⟩
  rw [← el] at hS ⊢
  clear el
  have K32 : ∀ (n : Nat) (k32_L_2 : Int32), (4 - k32_L_2.toInt + 1).toNat ≤ n → IV 0 4 k32_L_2 → ∀ (H : Heap) (locs : List Loc), va_P D classes [(a, .inr (6, [.int a__hour, .ref a_purse, .ref a_spot, .ref a_seen, .ref a_has, .ref a_at])), (a_at, .inl (cs 0, 8, .inl a_at_c)), (a_has, .inl (cs 0, 4, .inl a_has_c))] H → va_S (fun _ => False) s.heap H locs → ∀ ls : Array Slot, lv_has ls 3 [(2, .int k32_L_2), (0, .ref a), (1, .int p0)] → W p l e (headSpec (hz_w yX6_whereIs cX6_whereIs 3 (some .int)) ({ frames := 0, cells := 0, slots := 0, locals := 0 })).room s m [.ref a, .int p0].toArray below meth c H locs 0 0 (MQ below (va_Qi (fun (r : Int32) (_ : Unit) => IV (-1) 103 r) (fun _ t => True) (fun _ => False)) [.ref a, .int p0].toArray s 0 0 (fun _ => False)) (F0 m 32 ls []) := by
    intro n
    induction n with
    | zero =>
      intro k32_L_2 hn q32_0 H locs hP hS ls hl
      exact absurd hn (by unfold IV at q32_0; omega)
    | succ n ih32 =>
      intro k32_L_2 hn q32_0 H locs hP hS ls hl
      refine lv_iload_n hx hb dX6_whereIs_32 rfl (lv_at hl 0 rfl) ?_
      refine lv_iconst (v := 4) hx hb dX6_whereIs_33 (by decide) ?_
      refine lv_icmp_ge (tgt := 62) hx hb dX6_whereIs_34 (by decide) (fun c1 => ?_) (fun c1 => ?_)
      · have h2 : IV 4 4 k32_L_2 := iv_le2 c1 (iv_c (a := 4) (b := 4) (by decide)) q32_0 (by decide)
        refine lv_iconst (v := (-1)) hx hb dX6_whereIs_62 (by decide) ?_
        exact W.iret (v := (-1)) hx hb hr (fun t ht hW => ⟨⟨(-1), (), rfl, (iv_c (by decide)), trivial⟩, hS.F ht⟩) hS.2.2 dX6_whereIs_63
      · have h3 : IV 0 3 k32_L_2 := iv_lt1 (Int32.not_le.mp c1) q32_0 (iv_c (a := 4) (b := 4) (by decide)) (by decide)
        refine lv_aload_n hx hb dX6_whereIs_37 rfl (lv_at hl 1 rfl) ?_
        refine va_get (D := D) (ci := 6) (v := .ref a_has) (C := RX6) (T := TX6) (N := 6) hx hb hT i_X6 hown hK hP 0 rfl rfl 4 (by decide) (hT _ q_117) (fun _ h9 => h9) rfl dX6_whereIs_38 ?_
        refine lv_iload_n hx hb dX6_whereIs_41 rfl (lv_at hl 0 rfl) ?_
        refine va_iald hx hb hK hP 2 0 rfl rfl (iv_v h3 (by decide) (by decide)) dX6_whereIs_42 ?_
        refine lv_topi (fun v4 ev4 => ?_)
        refine lv_iload_n hx hb dX6_whereIs_43 rfl (lv_at hl 2 rfl) ?_
        refine lv_ishr hx hb dX6_whereIs_44 ?_
        refine lv_topi (fun v5 ev5 => ?_)
        refine lv_iconst (v := 1) hx hb dX6_whereIs_45 (by decide) ?_
        refine lv_iand hx hb dX6_whereIs_46 ?_
        refine lv_topi (fun v6 ev6 => ?_)
        have hv6 : IV 0 1 v6 := iv_and2 ev6 (iv_c (a := 1) (b := 1) (by decide))
        refine lv_iconst (v := 1) hx hb dX6_whereIs_47 (by decide) ?_
        refine lv_icmp_ne (tgt := 56) hx hb dX6_whereIs_48 (by decide) (fun c7 => ?_) (fun c7 => ?_)
        · have h8 : IV 0 0 v6 := iv_neR c7 hv6 (by decide)
          obtain ⟨v9, ev9⟩ : ∃ z : Int32, z = k32_L_2 + 1 := ⟨_, rfl⟩
          have hv9 : IV 1 4 v9 := iv_add ev9 h3 (iv_c (a := 1) (b := 1) (by decide)) (by decide) (by decide)
          have dv9 : v9.toInt = k32_L_2.toInt + 1 := iv_addE ev9 h3 (iv_c (a := 1) (b := 1) (by decide)) (by decide) (by decide) (by decide)
          refine lv_iinc (v := v9) (lv' := [(2, .int v9), (0, .ref a), (1, .int p0)]) hx hb dX6_whereIs_56 hl (k := 0) rfl (by rw [ev9]; rfl) (by decide) rfl (fun ls hl => ?_)
          refine lv_goto (tgt := 32) hx hb dX6_whereIs_59 (by decide) ?_
          exact ih32 v9 (by have h9 := h3; unfold IV at h9; have := dv9; omega) (iv_w hv9 (by decide) (by decide)) H locs (hP.sub (ws' := [(a, .inr (6, [.int a__hour, .ref a_purse, .ref a_spot, .ref a_seen, .ref a_has, .ref a_at])), (a_at, .inl (cs 0, 8, .inl a_at_c)), (a_has, .inl (cs 0, 4, .inl a_has_c))]) [0, 1, 2] rfl) hS ls (lv_sub hl [0, 1, 2] rfl)
        · have h10 : IV 1 1 v6 := iv_eq1 c7 hv6 (iv_c (a := 1) (b := 1) (by decide)) (by decide) (by decide)
          refine lv_bipush (v := 100) hx hb dX6_whereIs_51 (by decide) ?_
          refine lv_iload_n hx hb dX6_whereIs_53 rfl (lv_at hl 0 rfl) ?_
          refine lv_iadd hx hb dX6_whereIs_54 ?_
          refine lv_topi (fun v11 ev11 => ?_)
          have hv11 : IV 100 103 v11 := iv_add ev11 (iv_c (a := 100) (b := 100) (by decide)) h3 (by decide) (by decide)
          exact W.iret (v := v11) hx hb hr (fun t ht hW => ⟨⟨v11, (), rfl, (iv_w hv11 (by decide) (by decide)), trivial⟩, hS.F ht⟩) hS.2.2 dX6_whereIs_55
  have K2 : ∀ (n : Nat) (k2_L_2 : Int32), (8 - k2_L_2.toInt + 1).toNat ≤ n → IV 0 8 k2_L_2 → ∀ (H : Heap) (locs : List Loc), va_P D classes [(a, .inr (6, [.int a__hour, .ref a_purse, .ref a_spot, .ref a_seen, .ref a_has, .ref a_at])), (a_at, .inl (cs 0, 8, .inl a_at_c)), (a_has, .inl (cs 0, 4, .inl a_has_c))] H → va_S (fun _ => False) s.heap H locs → ∀ ls : Array Slot, lv_has ls 3 [(2, .int k2_L_2), (0, .ref a), (1, .int p0)] → W p l e (headSpec (hz_w yX6_whereIs cX6_whereIs 3 (some .int)) ({ frames := 0, cells := 0, slots := 0, locals := 0 })).room s m [.ref a, .int p0].toArray below meth c H locs 0 0 (MQ below (va_Qi (fun (r : Int32) (_ : Unit) => IV (-1) 103 r) (fun _ t => True) (fun _ => False)) [.ref a, .int p0].toArray s 0 0 (fun _ => False)) (F0 m 2 ls []) := by
    intro n
    induction n with
    | zero =>
      intro k2_L_2 hn q2_0 H locs hP hS ls hl
      exact absurd hn (by unfold IV at q2_0; omega)
    | succ n ih2 =>
      intro k2_L_2 hn q2_0 H locs hP hS ls hl
      refine lv_iload_n hx hb dX6_whereIs_2 rfl (lv_at hl 0 rfl) ?_
      refine lv_bipush (v := 8) hx hb dX6_whereIs_3 (by decide) ?_
      refine lv_icmp_ge (tgt := 30) hx hb dX6_whereIs_5 (by decide) (fun c12 => ?_) (fun c12 => ?_)
      · have h13 : IV 8 8 k2_L_2 := iv_le2 c12 (iv_c (a := 8) (b := 8) (by decide)) q2_0 (by decide)
        refine lv_iconst (v := 0) hx hb dX6_whereIs_30 (by decide) ?_
        refine lv_istore_n (lv' := [(2, .int 0), (0, .ref a), (1, .int p0)]) hx hb dX6_whereIs_31 rfl hl (by decide) rfl (fun ls hl => ?_)
        exact K32 _ 0 (Nat.le_refl _) (iv_c (by decide)) H locs (hP.sub (ws' := [(a, .inr (6, [.int a__hour, .ref a_purse, .ref a_spot, .ref a_seen, .ref a_has, .ref a_at])), (a_at, .inl (cs 0, 8, .inl a_at_c)), (a_has, .inl (cs 0, 4, .inl a_has_c))]) [0, 1, 2] rfl) hS ls (lv_sub hl [0, 1, 2] rfl)
      · have h14 : IV 0 7 k2_L_2 := iv_lt1 (Int32.not_le.mp c12) q2_0 (iv_c (a := 8) (b := 8) (by decide)) (by decide)
        refine lv_aload_n hx hb dX6_whereIs_8 rfl (lv_at hl 1 rfl) ?_
        refine va_get (D := D) (ci := 6) (v := .ref a_at) (C := RX6) (T := TX6) (N := 6) hx hb hT i_X6 hown hK hP 0 rfl rfl 5 (by decide) (hT _ q_118) (fun _ h9 => h9) rfl dX6_whereIs_9 ?_
        refine lv_iload_n hx hb dX6_whereIs_12 rfl (lv_at hl 0 rfl) ?_
        refine va_iald hx hb hK hP 1 0 rfl rfl (iv_v h14 (by decide) (by decide)) dX6_whereIs_13 ?_
        refine lv_topi (fun v15 ev15 => ?_)
        refine lv_iload_n hx hb dX6_whereIs_14 rfl (lv_at hl 2 rfl) ?_
        refine lv_ishr hx hb dX6_whereIs_15 ?_
        refine lv_topi (fun v16 ev16 => ?_)
        refine lv_iconst (v := 1) hx hb dX6_whereIs_16 (by decide) ?_
        refine lv_iand hx hb dX6_whereIs_17 ?_
        refine lv_topi (fun v17 ev17 => ?_)
        have hv17 : IV 0 1 v17 := iv_and2 ev17 (iv_c (a := 1) (b := 1) (by decide))
        refine lv_iconst (v := 1) hx hb dX6_whereIs_18 (by decide) ?_
        refine lv_icmp_ne (tgt := 24) hx hb dX6_whereIs_19 (by decide) (fun c18 => ?_) (fun c18 => ?_)
        · have h19 : IV 0 0 v17 := iv_neR c18 hv17 (by decide)
          obtain ⟨v20, ev20⟩ : ∃ z : Int32, z = k2_L_2 + 1 := ⟨_, rfl⟩
          have hv20 : IV 1 8 v20 := iv_add ev20 h14 (iv_c (a := 1) (b := 1) (by decide)) (by decide) (by decide)
          have dv20 : v20.toInt = k2_L_2.toInt + 1 := iv_addE ev20 h14 (iv_c (a := 1) (b := 1) (by decide)) (by decide) (by decide) (by decide)
          refine lv_iinc (v := v20) (lv' := [(2, .int v20), (0, .ref a), (1, .int p0)]) hx hb dX6_whereIs_24 hl (k := 0) rfl (by rw [ev20]; rfl) (by decide) rfl (fun ls hl => ?_)
          refine lv_goto (tgt := 2) hx hb dX6_whereIs_27 (by decide) ?_
          exact ih2 v20 (by have h9 := h14; unfold IV at h9; have := dv20; omega) (iv_w hv20 (by decide) (by decide)) H locs (hP.sub (ws' := [(a, .inr (6, [.int a__hour, .ref a_purse, .ref a_spot, .ref a_seen, .ref a_has, .ref a_at])), (a_at, .inl (cs 0, 8, .inl a_at_c)), (a_has, .inl (cs 0, 4, .inl a_has_c))]) [0, 1, 2] rfl) hS ls (lv_sub hl [0, 1, 2] rfl)
        · have h21 : IV 1 1 v17 := iv_eq1 c18 hv17 (iv_c (a := 1) (b := 1) (by decide)) (by decide) (by decide)
          refine lv_iload_n hx hb dX6_whereIs_22 rfl (lv_at hl 0 rfl) ?_
          exact W.iret (v := k2_L_2) hx hb hr (fun t ht hW => ⟨⟨k2_L_2, (), rfl, (iv_w h14 (by decide) (by decide)), trivial⟩, hS.F ht⟩) hS.2.2 dX6_whereIs_23
  refine lv_iconst (v := 0) hx hb dX6_whereIs_0 (by decide) ?_
  refine lv_istore_n (lv' := [(2, .int 0), (0, .ref a), (1, .int p0)]) hx hb dX6_whereIs_1 rfl hl (by decide) rfl (fun ls hl => ?_)
  exact K2 _ 0 (Nat.le_refl _) (iv_c (by decide)) H locs (hP.sub (ws' := [(a, .inr (6, [.int a__hour, .ref a_purse, .ref a_spot, .ref a_seen, .ref a_has, .ref a_at])), (a_at, .inl (cs 0, 8, .inl a_at_c)), (a_has, .inl (cs 0, 4, .inl a_has_c))]) [0, 1, 2] rfl) hS ls (lv_sub hl [0, 1, 2] rfl)
theorem dX6_sawBy_0 : decode cX6_sawBy 0 = .ok (.iconst 0, 1) := by decide +kernel
theorem dX6_sawBy_1 : decode cX6_sawBy 1 = .ok (.istore_n 2, 1) := by decide +kernel
theorem dX6_sawBy_2 : decode cX6_sawBy 2 = .ok (.iconst 0, 1) := by decide +kernel
theorem dX6_sawBy_3 : decode cX6_sawBy 3 = .ok (.istore_n 3, 1) := by decide +kernel
theorem dX6_sawBy_4 : decode cX6_sawBy 4 = .ok (.iload_n 3, 1) := by decide +kernel
theorem dX6_sawBy_5 : decode cX6_sawBy 5 = .ok (.iconst 4, 1) := by decide +kernel
theorem dX6_sawBy_6 : decode cX6_sawBy 6 = .ok (.if_icmp .ge 27, 3) := by decide +kernel
theorem dX6_sawBy_9 : decode cX6_sawBy 9 = .ok (.iload_n 1, 1) := by decide +kernel
theorem dX6_sawBy_10 : decode cX6_sawBy 10 = .ok (.iload_n 3, 1) := by decide +kernel
theorem dX6_sawBy_11 : decode cX6_sawBy 11 = .ok (.ishr, 1) := by decide +kernel
theorem dX6_sawBy_12 : decode cX6_sawBy 12 = .ok (.iconst 1, 1) := by decide +kernel
theorem dX6_sawBy_13 : decode cX6_sawBy 13 = .ok (.iand, 1) := by decide +kernel
theorem dX6_sawBy_14 : decode cX6_sawBy 14 = .ok (.iconst 1, 1) := by decide +kernel
theorem dX6_sawBy_15 : decode cX6_sawBy 15 = .ok (.if_icmp .ne 12, 3) := by decide +kernel
theorem dX6_sawBy_18 : decode cX6_sawBy 18 = .ok (.iload_n 2, 1) := by decide +kernel
theorem dX6_sawBy_19 : decode cX6_sawBy 19 = .ok (.aload_n 0, 1) := by decide +kernel
theorem dX6_sawBy_20 : decode cX6_sawBy 20 = .ok (.getfield 18, 3) := by decide +kernel
theorem dX6_sawBy_23 : decode cX6_sawBy 23 = .ok (.iload_n 3, 1) := by decide +kernel
theorem dX6_sawBy_24 : decode cX6_sawBy 24 = .ok (.iaload, 1) := by decide +kernel
theorem dX6_sawBy_25 : decode cX6_sawBy 25 = .ok (.ior, 1) := by decide +kernel
theorem dX6_sawBy_26 : decode cX6_sawBy 26 = .ok (.istore_n 2, 1) := by decide +kernel
theorem dX6_sawBy_27 : decode cX6_sawBy 27 = .ok (.iinc 3 1, 3) := by decide +kernel
theorem dX6_sawBy_30 : decode cX6_sawBy 30 = .ok (.goto (-26), 3) := by decide +kernel
theorem dX6_sawBy_33 : decode cX6_sawBy 33 = .ok (.iload_n 2, 1) := by decide +kernel
theorem dX6_sawBy_34 : decode cX6_sawBy 34 = .ok (.ireturn, 1) := by decide +kernel
set_option maxHeartbeats 4000000 in
set_option maxRecDepth 100000 in
theorem c_X6_sawBy (l : Launch) (D : va_G) (cs : Nat → ClassId) (kK kV : Nat → Nat) (a : Nat) (p0 : Int32) (a__hour : Int32) (a_purse : Nat) (a_spot : Nat) (a_seen : Nat) (a_has : Nat) (a_at : Nat) (a_seen_c : Nat → Int32)  : Met l yX6_sawBy (hz_w yX6_sawBy cX6_sawBy 4 (some .int)) ({ frames := 0, cells := 0, slots := 0, locals := 0 }) (va_Pc [.ref a, .int p0] (hz_P D cs kK kV [(a, .inr (6, [.int a__hour, .ref a_purse, .ref a_spot, .ref a_seen, .ref a_has, .ref a_at])), (a_seen, .inl (cs 0, 4, .inl a_seen_c))])) (va_Qi (fun (r : Int32) (_ : Unit) => True) (fun _ t => True) (fun _ => False)) 0 0 (fun _ => False) := by
  refine Met.ofW (cc := cX6_sawBy) (maxL := 4) (ret := (some .int)) (by decide) rfl ?_
  intro p e s m args below meth c s₁ B hml hv
  obtain ⟨rfl, hP, hE⟩ := hv
  have hx := B.exec
  have hb := B.bytes
  have hr := B.returns
  have hT : ∀ w ∈ TB, w.before _ s = true := fun w h => atoms_spec (ws := hz_w yX6_sawBy cX6_sawBy 4 (some .int)) B.pre w (List.mem_cons_of_mem _ h)
  have hown : s.vm.findClass RX6 = some m.cls := findClass_of_methodNamed B.named
  have hlocks := B.notSynchronized
  clear B
  have hS : va_S (fun _ => False) s.heap s.heap [] := va_S.rf
  have hK := hE.1
  have hl := lv_entry ([.ref a, .int p0]) (n := 4) (Nat.le_of_ble_eq_true rfl)
  rw [lg_entry_eq]
  generalize (lg_sl ([.ref a, .int p0]) ++ List.replicate (4 - (lg_sl ([.ref a, .int p0])).length) Slot.unset).toArray = ls at hl ⊢
  have hl : lv_has ls 4 [(0, .ref a), (1, .int p0)] := hl
  obtain ⟨H, eH⟩ : ∃ z, z = s.heap := ⟨_, rfl⟩
  have hP : va_P D classes [(a, .inr (6, [.int a__hour, .ref a_purse, .ref a_spot, .ref a_seen, .ref a_has, .ref a_at])), (a_seen, .inl (cs 0, 4, .inl a_seen_c))] H := by rw [eH]; exact hP
  have hS : va_S (fun _ => False) s.heap H [] := by rw [eH]; exact hS
  rw [← eH]
  clear eH
  obtain ⟨locs, el⟩ : ∃ z : List Loc, z = [] := ⟨_, rfl⟩
  rw [← el] at hS ⊢
  clear el
  have K4 : ∀ (n : Nat) (k4_L_3 : Int32) (k4_L_2 : Int32), (4 - k4_L_3.toInt + 1).toNat ≤ n → IV 0 4 k4_L_3 → ∀ (H : Heap) (locs : List Loc), va_P D classes [(a, .inr (6, [.int a__hour, .ref a_purse, .ref a_spot, .ref a_seen, .ref a_has, .ref a_at])), (a_seen, .inl (cs 0, 4, .inl a_seen_c))] H → va_S (fun _ => False) s.heap H locs → ∀ ls : Array Slot, lv_has ls 4 [(3, .int k4_L_3), (2, .int k4_L_2), (0, .ref a), (1, .int p0)] → W p l e (headSpec (hz_w yX6_sawBy cX6_sawBy 4 (some .int)) ({ frames := 0, cells := 0, slots := 0, locals := 0 })).room s m [.ref a, .int p0].toArray below meth c H locs 0 0 (MQ below (va_Qi (fun (r : Int32) (_ : Unit) => True) (fun _ t => True) (fun _ => False)) [.ref a, .int p0].toArray s 0 0 (fun _ => False)) (F0 m 4 ls []) := by
    intro n
    induction n with
    | zero =>
      intro k4_L_3 k4_L_2 hn q4_0 H locs hP hS ls hl
      exact absurd hn (by unfold IV at q4_0; omega)
    | succ n ih4 =>
      intro k4_L_3 k4_L_2 hn q4_0 H locs hP hS ls hl
      have K27 : ∀ (k27_L_2 : Int32), IV 0 3 k4_L_3 → ∀ (H : Heap) (locs : List Loc), va_P D classes [(a, .inr (6, [.int a__hour, .ref a_purse, .ref a_spot, .ref a_seen, .ref a_has, .ref a_at])), (a_seen, .inl (cs 0, 4, .inl a_seen_c))] H → va_S (fun _ => False) s.heap H locs → ∀ ls : Array Slot, lv_has ls 4 [(3, .int k4_L_3), (2, .int k27_L_2), (0, .ref a), (1, .int p0)] → W p l e (headSpec (hz_w yX6_sawBy cX6_sawBy 4 (some .int)) ({ frames := 0, cells := 0, slots := 0, locals := 0 })).room s m [.ref a, .int p0].toArray below meth c H locs 0 0 (MQ below (va_Qi (fun (r : Int32) (_ : Unit) => True) (fun _ t => True) (fun _ => False)) [.ref a, .int p0].toArray s 0 0 (fun _ => False)) (F0 m 27 ls []) := by
        intro k27_L_2 q27_0 H locs hP hS ls hl
        obtain ⟨v1, ev1⟩ : ∃ z : Int32, z = k4_L_3 + 1 := ⟨_, rfl⟩
        have hv1 : IV 1 4 v1 := iv_add ev1 q27_0 (iv_c (a := 1) (b := 1) (by decide)) (by decide) (by decide)
        have dv1 : v1.toInt = k4_L_3.toInt + 1 := iv_addE ev1 q27_0 (iv_c (a := 1) (b := 1) (by decide)) (by decide) (by decide) (by decide)
        refine lv_iinc (v := v1) (lv' := [(3, .int v1), (2, .int k27_L_2), (0, .ref a), (1, .int p0)]) hx hb dX6_sawBy_27 hl (k := 0) rfl (by rw [ev1]; rfl) (by decide) rfl (fun ls hl => ?_)
        refine lv_goto (tgt := 4) hx hb dX6_sawBy_30 (by decide) ?_
        exact ih4 v1 k27_L_2 (by have h9 := q27_0; unfold IV at h9; have := dv1; omega) (iv_w hv1 (by decide) (by decide)) H locs (hP.sub (ws' := [(a, .inr (6, [.int a__hour, .ref a_purse, .ref a_spot, .ref a_seen, .ref a_has, .ref a_at])), (a_seen, .inl (cs 0, 4, .inl a_seen_c))]) [0, 1] rfl) hS ls (lv_sub hl [0, 1, 2, 3] rfl)
      refine lv_iload_n hx hb dX6_sawBy_4 rfl (lv_at hl 0 rfl) ?_
      refine lv_iconst (v := 4) hx hb dX6_sawBy_5 (by decide) ?_
      refine lv_icmp_ge (tgt := 33) hx hb dX6_sawBy_6 (by decide) (fun c2 => ?_) (fun c2 => ?_)
      · have h3 : IV 4 4 k4_L_3 := iv_le2 c2 (iv_c (a := 4) (b := 4) (by decide)) q4_0 (by decide)
        refine lv_iload_n hx hb dX6_sawBy_33 rfl (lv_at hl 1 rfl) ?_
        exact W.iret (v := k4_L_2) hx hb hr (fun t ht hW => ⟨⟨k4_L_2, (), rfl, trivial, trivial⟩, hS.F ht⟩) hS.2.2 dX6_sawBy_34
      · have h4 : IV 0 3 k4_L_3 := iv_lt1 (Int32.not_le.mp c2) q4_0 (iv_c (a := 4) (b := 4) (by decide)) (by decide)
        refine lv_iload_n hx hb dX6_sawBy_9 rfl (lv_at hl 3 rfl) ?_
        refine lv_iload_n hx hb dX6_sawBy_10 rfl (lv_at hl 0 rfl) ?_
        refine lv_ishr hx hb dX6_sawBy_11 ?_
        refine lv_topi (fun v5 ev5 => ?_)
        refine lv_iconst (v := 1) hx hb dX6_sawBy_12 (by decide) ?_
        refine lv_iand hx hb dX6_sawBy_13 ?_
        refine lv_topi (fun v6 ev6 => ?_)
        have hv6 : IV 0 1 v6 := iv_and2 ev6 (iv_c (a := 1) (b := 1) (by decide))
        refine lv_iconst (v := 1) hx hb dX6_sawBy_14 (by decide) ?_
        refine lv_icmp_ne (tgt := 27) hx hb dX6_sawBy_15 (by decide) (fun c7 => ?_) (fun c7 => ?_)
        · have h8 : IV 0 0 v6 := iv_neR c7 hv6 (by decide)
          exact K27 k4_L_2 h4 H locs (hP.sub (ws' := [(a, .inr (6, [.int a__hour, .ref a_purse, .ref a_spot, .ref a_seen, .ref a_has, .ref a_at])), (a_seen, .inl (cs 0, 4, .inl a_seen_c))]) [0, 1] rfl) hS ls (lv_sub hl [0, 1, 2, 3] rfl)
        · have h9 : IV 1 1 v6 := iv_eq1 c7 hv6 (iv_c (a := 1) (b := 1) (by decide)) (by decide) (by decide)
          refine lv_iload_n hx hb dX6_sawBy_18 rfl (lv_at hl 1 rfl) ?_
          refine lv_aload_n hx hb dX6_sawBy_19 rfl (lv_at hl 2 rfl) ?_
          refine va_get (D := D) (ci := 6) (v := .ref a_seen) (C := RX6) (T := TX6) (N := 6) hx hb hT i_X6 hown hK hP 0 rfl rfl 3 (by decide) (hT _ q_116) (fun _ h9 => h9) rfl dX6_sawBy_20 ?_
          refine lv_iload_n hx hb dX6_sawBy_23 rfl (lv_at hl 0 rfl) ?_
          refine va_iald hx hb hK hP 1 0 rfl rfl (iv_v h4 (by decide) (by decide)) dX6_sawBy_24 ?_
          refine lv_topi (fun v10 ev10 => ?_)
          refine lv_ior hx hb dX6_sawBy_25 ?_
          refine lv_topi (fun v11 ev11 => ?_)
          refine lv_istore_n (lv' := [(2, .int v11), (3, .int k4_L_3), (0, .ref a), (1, .int p0)]) hx hb dX6_sawBy_26 rfl hl (by decide) rfl (fun ls hl => ?_)
          exact K27 v11 h4 H locs (hP.sub (ws' := [(a, .inr (6, [.int a__hour, .ref a_purse, .ref a_spot, .ref a_seen, .ref a_has, .ref a_at])), (a_seen, .inl (cs 0, 4, .inl a_seen_c))]) [0, 1] rfl) hS ls (lv_sub hl [1, 0, 2, 3] rfl)
  refine lv_iconst (v := 0) hx hb dX6_sawBy_0 (by decide) ?_
  refine lv_istore_n (lv' := [(2, .int 0), (0, .ref a), (1, .int p0)]) hx hb dX6_sawBy_1 rfl hl (by decide) rfl (fun ls hl => ?_)
  refine lv_iconst (v := 0) hx hb dX6_sawBy_2 (by decide) ?_
  refine lv_istore_n (lv' := [(3, .int 0), (2, .int 0), (0, .ref a), (1, .int p0)]) hx hb dX6_sawBy_3 rfl hl (by decide) rfl (fun ls hl => ?_)
  exact K4 _ 0 0 (Nat.le_refl _) (iv_c (by decide)) H locs (hP.sub (ws' := [(a, .inr (6, [.int a__hour, .ref a_purse, .ref a_spot, .ref a_seen, .ref a_has, .ref a_at])), (a_seen, .inl (cs 0, 4, .inl a_seen_c))]) [0, 1] rfl) hS ls (lv_sub hl [0, 1, 2, 3] rfl)
theorem dX6_withinHearing_0 : decode cX6_withinHearing 0 = .ok (.iconst 0, 1) := by decide +kernel
theorem dX6_withinHearing_1 : decode cX6_withinHearing 1 = .ok (.istore_n 3, 1) := by decide +kernel
theorem dX6_withinHearing_2 : decode cX6_withinHearing 2 = .ok (.iconst 0, 1) := by decide +kernel
theorem dX6_withinHearing_3 : decode cX6_withinHearing 3 = .ok (.istore 4, 2) := by decide +kernel
theorem dX6_withinHearing_5 : decode cX6_withinHearing 5 = .ok (.iload 4, 2) := by decide +kernel
theorem dX6_withinHearing_7 : decode cX6_withinHearing 7 = .ok (.aload_n 1, 1) := by decide +kernel
theorem dX6_withinHearing_8 : decode cX6_withinHearing 8 = .ok (.getfield 64, 3) := by decide +kernel
theorem dX6_withinHearing_11 : decode cX6_withinHearing 11 = .ok (.if_icmp .ge 46, 3) := by decide +kernel
theorem dX6_withinHearing_14 : decode cX6_withinHearing 14 = .ok (.aload_n 1, 1) := by decide +kernel
theorem dX6_withinHearing_15 : decode cX6_withinHearing 15 = .ok (.aload_n 1, 1) := by decide +kernel
theorem dX6_withinHearing_16 : decode cX6_withinHearing 16 = .ok (.iload 4, 2) := by decide +kernel
theorem dX6_withinHearing_18 : decode cX6_withinHearing 18 = .ok (.aload_n 0, 1) := by decide +kernel
theorem dX6_withinHearing_19 : decode cX6_withinHearing 19 = .ok (.getfield 27, 3) := by decide +kernel
theorem dX6_withinHearing_22 : decode cX6_withinHearing 22 = .ok (.invokevirtual 67, 3) := by decide +kernel
theorem dX6_withinHearing_25 : decode cX6_withinHearing 25 = .ok (.aload_n 0, 1) := by decide +kernel
theorem dX6_withinHearing_26 : decode cX6_withinHearing 26 = .ok (.getfield 15, 3) := by decide +kernel
theorem dX6_withinHearing_29 : decode cX6_withinHearing 29 = .ok (.iload_n 2, 1) := by decide +kernel
theorem dX6_withinHearing_30 : decode cX6_withinHearing 30 = .ok (.iaload, 1) := by decide +kernel
theorem dX6_withinHearing_31 : decode cX6_withinHearing 31 = .ok (.invokevirtual 70, 3) := by decide +kernel
theorem dX6_withinHearing_34 : decode cX6_withinHearing 34 = .ok (.aload_n 1, 1) := by decide +kernel
theorem dX6_withinHearing_35 : decode cX6_withinHearing 35 = .ok (.getfield 73, 3) := by decide +kernel
theorem dX6_withinHearing_38 : decode cX6_withinHearing 38 = .ok (.if_icmp .gt 13, 3) := by decide +kernel
theorem dX6_withinHearing_41 : decode cX6_withinHearing 41 = .ok (.iload_n 3, 1) := by decide +kernel
theorem dX6_withinHearing_42 : decode cX6_withinHearing 42 = .ok (.aload_n 0, 1) := by decide +kernel
theorem dX6_withinHearing_43 : decode cX6_withinHearing 43 = .ok (.getfield 24, 3) := by decide +kernel
theorem dX6_withinHearing_46 : decode cX6_withinHearing 46 = .ok (.iload 4, 2) := by decide +kernel
theorem dX6_withinHearing_48 : decode cX6_withinHearing 48 = .ok (.iaload, 1) := by decide +kernel
theorem dX6_withinHearing_49 : decode cX6_withinHearing 49 = .ok (.ior, 1) := by decide +kernel
theorem dX6_withinHearing_50 : decode cX6_withinHearing 50 = .ok (.istore_n 3, 1) := by decide +kernel
theorem dX6_withinHearing_51 : decode cX6_withinHearing 51 = .ok (.iinc 4 1, 3) := by decide +kernel
theorem dX6_withinHearing_54 : decode cX6_withinHearing 54 = .ok (.goto (-49), 3) := by decide +kernel
theorem dX6_withinHearing_57 : decode cX6_withinHearing 57 = .ok (.iload_n 3, 1) := by decide +kernel
theorem dX6_withinHearing_58 : decode cX6_withinHearing 58 = .ok (.ireturn, 1) := by decide +kernel
set_option maxHeartbeats 4000000 in
set_option maxRecDepth 100000 in
theorem c_X6_withinHearing (l : Launch) (D : va_G) (cs : Nat → ClassId) (kK kV : Nat → Nat) (a : Nat) (b0 : Nat) (p1 : Int32) (b0__stalls : Int32) (b0__shift : Int32) (b0__halves : Int32) (b0__buyers : Int32) (b0__near : Int32) (b0__dusk : Int32) (b0__duskPrice : Int32) (b0__hear : Int32) (b0__forged : Int32) (b0_stall : Nat) (b0_shape : Nat) (b0_side : Nat) (b0_price : Nat) (b0_purse : Nat) (b0_spot : Nat) (b0_club : Nat) (b0_fitting : Nat) (b0_nearly : Nat) (a__hour : Int32) (a_purse : Nat) (a_spot : Nat) (a_seen : Nat) (a_has : Nat) (a_at : Nat) (a_spot_c : Nat → Int32) (a_at_c : Nat → Int32) (h_p1 : IV 0 3 p1) (h_b0__stalls : IV 0 8 b0__stalls) : Met l yX6_withinHearing (hz_w yX6_withinHearing cX6_withinHearing 5 (some .int)) ({ frames := 2, cells := 0, slots := 0, locals := 44 }) (va_Pc [.ref a, .ref b0, .int p1] (hz_P D cs kK kV [(b0, .inr (8, [.int b0__stalls, .int b0__shift, .int b0__halves, .int b0__buyers, .int b0__near, .int b0__dusk, .int b0__duskPrice, .int b0__hear, .int b0__forged, .ref b0_stall, .ref b0_shape, .ref b0_side, .ref b0_price, .ref b0_purse, .ref b0_spot, .ref b0_club, .ref b0_fitting, .ref b0_nearly])), (a, .inr (6, [.int a__hour, .ref a_purse, .ref a_spot, .ref a_seen, .ref a_has, .ref a_at])), (a_spot, .inl (cs 0, 4, .inl a_spot_c)), (a_at, .inl (cs 0, 8, .inl a_at_c))])) (va_Qi (fun (r : Int32) (_ : Unit) => True) (fun _ t => True) (fun _ => False)) 0 0 (fun _ => False) := by
  refine Met.ofW (cc := cX6_withinHearing) (maxL := 5) (ret := (some .int)) (by decide) rfl ?_
  intro p e s m args below meth c s₁ B hml hv
  obtain ⟨rfl, hP, hE⟩ := hv
  have hx := B.exec
  have hb := B.bytes
  have hr := B.returns
  have hT : ∀ w ∈ TB, w.before _ s = true := fun w h => atoms_spec (ws := hz_w yX6_withinHearing cX6_withinHearing 5 (some .int)) B.pre w (List.mem_cons_of_mem _ h)
  have hown : s.vm.findClass RX6 = some m.cls := findClass_of_methodNamed B.named
  have hlocks := B.notSynchronized
  clear B
  have hS : va_S (fun _ => False) s.heap s.heap [] := va_S.rf
  have hK := hE.1
  have hl := lv_entry ([.ref a, .ref b0, .int p1]) (n := 5) (Nat.le_of_ble_eq_true rfl)
  rw [lg_entry_eq]
  generalize (lg_sl ([.ref a, .ref b0, .int p1]) ++ List.replicate (5 - (lg_sl ([.ref a, .ref b0, .int p1])).length) Slot.unset).toArray = ls at hl ⊢
  have hl : lv_has ls 5 [(0, .ref a), (1, .ref b0), (2, .int p1)] := hl
  obtain ⟨H, eH⟩ : ∃ z, z = s.heap := ⟨_, rfl⟩
  have hP : va_P D classes [(b0, .inr (8, [.int b0__stalls, .int b0__shift, .int b0__halves, .int b0__buyers, .int b0__near, .int b0__dusk, .int b0__duskPrice, .int b0__hear, .int b0__forged, .ref b0_stall, .ref b0_shape, .ref b0_side, .ref b0_price, .ref b0_purse, .ref b0_spot, .ref b0_club, .ref b0_fitting, .ref b0_nearly])), (a, .inr (6, [.int a__hour, .ref a_purse, .ref a_spot, .ref a_seen, .ref a_has, .ref a_at])), (a_spot, .inl (cs 0, 4, .inl a_spot_c)), (a_at, .inl (cs 0, 8, .inl a_at_c))] H := by rw [eH]; exact hP
  have hS : va_S (fun _ => False) s.heap H [] := by rw [eH]; exact hS
  rw [← eH]
  clear eH
  obtain ⟨locs, el⟩ : ∃ z : List Loc, z = [] := ⟨_, rfl⟩
  rw [← el] at hS ⊢
  clear el
  have K5 : ∀ (n : Nat) (k5_L_4 : Int32) (k5_L_3 : Int32), (8 - k5_L_4.toInt + 1).toNat ≤ n → IV 0 8 k5_L_4 → ∀ (H : Heap) (locs : List Loc), va_P D classes [(b0, .inr (8, [.int b0__stalls, .int b0__shift, .int b0__halves, .int b0__buyers, .int b0__near, .int b0__dusk, .int b0__duskPrice, .int b0__hear, .int b0__forged, .ref b0_stall, .ref b0_shape, .ref b0_side, .ref b0_price, .ref b0_purse, .ref b0_spot, .ref b0_club, .ref b0_fitting, .ref b0_nearly])), (a, .inr (6, [.int a__hour, .ref a_purse, .ref a_spot, .ref a_seen, .ref a_has, .ref a_at])), (a_spot, .inl (cs 0, 4, .inl a_spot_c)), (a_at, .inl (cs 0, 8, .inl a_at_c))] H → va_S (fun _ => False) s.heap H locs → ∀ ls : Array Slot, lv_has ls 5 [(4, .int k5_L_4), (3, .int k5_L_3), (0, .ref a), (1, .ref b0), (2, .int p1)] → W p l e (headSpec (hz_w yX6_withinHearing cX6_withinHearing 5 (some .int)) ({ frames := 2, cells := 0, slots := 0, locals := 44 })).room s m [.ref a, .ref b0, .int p1].toArray below meth c H locs 0 0 (MQ below (va_Qi (fun (r : Int32) (_ : Unit) => True) (fun _ t => True) (fun _ => False)) [.ref a, .ref b0, .int p1].toArray s 0 0 (fun _ => False)) (F0 m 5 ls []) := by
    intro n
    induction n with
    | zero =>
      intro k5_L_4 k5_L_3 hn q5_3 H locs hP hS ls hl
      exact absurd hn (by unfold IV at q5_3; omega)
    | succ n ih5 =>
      intro k5_L_4 k5_L_3 hn q5_3 H locs hP hS ls hl
      have K51 : ∀ (k51_L_3 : Int32), IV 1 8 b0__stalls → IV 0 7 k5_L_4 → ∀ (H : Heap) (locs : List Loc), va_P D classes [(b0, .inr (8, [.int b0__stalls, .int b0__shift, .int b0__halves, .int b0__buyers, .int b0__near, .int b0__dusk, .int b0__duskPrice, .int b0__hear, .int b0__forged, .ref b0_stall, .ref b0_shape, .ref b0_side, .ref b0_price, .ref b0_purse, .ref b0_spot, .ref b0_club, .ref b0_fitting, .ref b0_nearly])), (a, .inr (6, [.int a__hour, .ref a_purse, .ref a_spot, .ref a_seen, .ref a_has, .ref a_at])), (a_spot, .inl (cs 0, 4, .inl a_spot_c)), (a_at, .inl (cs 0, 8, .inl a_at_c))] H → va_S (fun _ => False) s.heap H locs → ∀ ls : Array Slot, lv_has ls 5 [(4, .int k5_L_4), (3, .int k51_L_3), (0, .ref a), (1, .ref b0), (2, .int p1)] → W p l e (headSpec (hz_w yX6_withinHearing cX6_withinHearing 5 (some .int)) ({ frames := 2, cells := 0, slots := 0, locals := 44 })).room s m [.ref a, .ref b0, .int p1].toArray below meth c H locs 0 0 (MQ below (va_Qi (fun (r : Int32) (_ : Unit) => True) (fun _ t => True) (fun _ => False)) [.ref a, .ref b0, .int p1].toArray s 0 0 (fun _ => False)) (F0 m 51 ls []) := by
        intro k51_L_3 q51_2 q51_3 H locs hP hS ls hl
        obtain ⟨v1, ev1⟩ : ∃ z : Int32, z = k5_L_4 + 1 := ⟨_, rfl⟩
        have hv1 : IV 1 8 v1 := iv_add ev1 q51_3 (iv_c (a := 1) (b := 1) (by decide)) (by decide) (by decide)
        have dv1 : v1.toInt = k5_L_4.toInt + 1 := iv_addE ev1 q51_3 (iv_c (a := 1) (b := 1) (by decide)) (by decide) (by decide) (by decide)
        refine lv_iinc (v := v1) (lv' := [(4, .int v1), (3, .int k51_L_3), (0, .ref a), (1, .ref b0), (2, .int p1)]) hx hb dX6_withinHearing_51 hl (k := 0) rfl (by rw [ev1]; rfl) (by decide) rfl (fun ls hl => ?_)
        refine lv_goto (tgt := 5) hx hb dX6_withinHearing_54 (by decide) ?_
        exact ih5 v1 k51_L_3 (by have h9 := q51_3; unfold IV at h9; have := dv1; omega) (iv_w hv1 (by decide) (by decide)) H locs (hP.sub (ws' := [(b0, .inr (8, [.int b0__stalls, .int b0__shift, .int b0__halves, .int b0__buyers, .int b0__near, .int b0__dusk, .int b0__duskPrice, .int b0__hear, .int b0__forged, .ref b0_stall, .ref b0_shape, .ref b0_side, .ref b0_price, .ref b0_purse, .ref b0_spot, .ref b0_club, .ref b0_fitting, .ref b0_nearly])), (a, .inr (6, [.int a__hour, .ref a_purse, .ref a_spot, .ref a_seen, .ref a_has, .ref a_at])), (a_spot, .inl (cs 0, 4, .inl a_spot_c)), (a_at, .inl (cs 0, 8, .inl a_at_c))]) [0, 1, 2, 3] rfl) hS ls (lv_sub hl [0, 1, 2, 3, 4] rfl)
      refine lv_iload hx hb dX6_withinHearing_5 (lv_at hl 0 rfl) ?_
      refine lv_aload_n hx hb dX6_withinHearing_7 rfl (lv_at hl 3 rfl) ?_
      refine va_get (D := D) (ci := 8) (v := .int b0__stalls) (C := RX8) (T := TX8) (N := 18) hx hb hT i_X8 hown hK hP 0 rfl rfl 0 (by decide) (hT _ q_125) (fun _ h9 => h9) rfl dX6_withinHearing_8 ?_
      refine lv_icmp_ge (tgt := 57) hx hb dX6_withinHearing_11 (by decide) (fun c2 => ?_) (fun c2 => ?_)
      · refine lv_iload_n hx hb dX6_withinHearing_57 rfl (lv_at hl 1 rfl) ?_
        exact W.iret (v := k5_L_3) hx hb hr (fun t ht hW => ⟨⟨k5_L_3, (), rfl, trivial, trivial⟩, hS.F ht⟩) hS.2.2 dX6_withinHearing_58
      · have h3 : IV 0 7 k5_L_4 := iv_lt1 (Int32.not_le.mp c2) q5_3 h_b0__stalls (by decide)
        have h4 : IV 1 8 b0__stalls := iv_lt2 (Int32.not_le.mp c2) q5_3 h_b0__stalls (by decide)
        refine lv_aload_n hx hb dX6_withinHearing_14 rfl (lv_at hl 3 rfl) ?_
        refine lv_aload_n hx hb dX6_withinHearing_15 rfl (lv_at hl 3 rfl) ?_
        refine lv_iload hx hb dX6_withinHearing_16 (lv_at hl 0 rfl) ?_
        refine lv_aload_n hx hb dX6_withinHearing_18 rfl (lv_at hl 2 rfl) ?_
        refine va_get (D := D) (ci := 6) (v := .int a__hour) (C := RX6) (T := TX6) (N := 6) hx hb hT i_X6 hown hK hP 1 rfl rfl 0 (by decide) (hT _ q_119) (fun _ h9 => h9) rfl dX6_withinHearing_19 ?_
        refine va_calli (va_runV (As := [.int k5_L_4, .int a__hour]) (rest := [.ref b0]) ⟨hx, hb, hml, hown, hT⟩ (c_X8_spotOf l D cs kK kV b0 k5_L_4 a__hour b0__stalls b0__shift b0__halves b0__buyers b0__near b0__dusk b0__duskPrice b0__hear b0__forged b0_stall b0_shape b0_side b0_price b0_purse b0_spot b0_club b0_fitting b0_nearly ((iv_w h4 (by decide) (by decide)))) (cwV 2 hT (hz_gV q_621 q_279 q_280 q_251 q_281) rfl rfl rfl (by decide +kernel) ⟨(Nat.le_of_ble_eq_true rfl), (Nat.le_of_ble_eq_true rfl)⟩) ⟨hz_P.blind, va_recv hK hP (ci := 8) (q0 := 0) rfl rfl, hz_P.mk (hP.sub (ws' := [(b0, .inr (8, [.int b0__stalls, .int b0__shift, .int b0__halves, .int b0__buyers, .int b0__near, .int b0__dusk, .int b0__duskPrice, .int b0__hear, .int b0__forged, .ref b0_stall, .ref b0_shape, .ref b0_side, .ref b0_price, .ref b0_purse, .ref b0_spot, .ref b0_club, .ref b0_fitting, .ref b0_nearly]))]) [0] rfl) hE hS⟩ rfl rfl hl.1 rfl (lv_room (Nat.le_of_ble_eq_true rfl)) dX6_withinHearing_22 ⟨(Nat.le_of_ble_eq_true rfl), (Nat.le_of_ble_eq_true rfl)⟩) hS (fun _ _ h => h.elim) (fun _ h => h.elim) (fun r5 u t H1 locs ht hvm hw hB hz1 hk1 hS => ?_)
        have hP := hz_keep hP hk1
        clear hk1 hB hz1
        generalize H1 = H at hP hS ⊢
        rcases hw with ⟨rfl, h6⟩ | ⟨h7, h8⟩
        · exact (iv_no h6 h4 (by decide)).elim
        · refine lv_aload_n hx hb dX6_withinHearing_25 rfl (lv_at hl 2 rfl) ?_
          refine va_get (D := D) (ci := 6) (v := .ref a_spot) (C := RX6) (T := TX6) (N := 6) hx hb hT i_X6 hown hK hP 1 rfl rfl 2 (by decide) (hT _ q_115) (fun _ h9 => h9) rfl dX6_withinHearing_26 ?_
          refine lv_iload_n hx hb dX6_withinHearing_29 rfl (lv_at hl 4 rfl) ?_
          refine va_iald hx hb hK hP 2 0 rfl rfl (iv_v h_p1 (by decide) (by decide)) dX6_withinHearing_30 ?_
          refine lv_topi (fun v9 ev9 => ?_)
          refine va_calli (va_runV (As := [.int r5, .int v9]) (rest := []) ⟨hx, hb, hml, hown, hT⟩ (c_X8_far l D cs kK kV b0 r5 v9 b0__stalls b0__shift b0__halves b0__buyers b0__near b0__dusk b0__duskPrice b0__hear b0__forged b0_stall b0_shape b0_side b0_price b0_purse b0_spot b0_club b0_fitting b0_nearly) (cwV 2 hT (hz_gV q_622 q_623 q_624 q_251 q_625) rfl rfl rfl (by decide +kernel) ⟨(Nat.le_of_ble_eq_true rfl), (Nat.le_of_ble_eq_true rfl)⟩) ⟨hz_P.blind, va_recv hK hP (ci := 8) (q0 := 0) rfl rfl, hz_P.mk (hP.sub (ws' := [(b0, .inr (8, [.int b0__stalls, .int b0__shift, .int b0__halves, .int b0__buyers, .int b0__near, .int b0__dusk, .int b0__duskPrice, .int b0__hear, .int b0__forged, .ref b0_stall, .ref b0_shape, .ref b0_side, .ref b0_price, .ref b0_purse, .ref b0_spot, .ref b0_club, .ref b0_fitting, .ref b0_nearly]))]) [0] rfl) hE hS⟩ rfl rfl hl.1 rfl (lv_room (Nat.le_of_ble_eq_true rfl)) dX6_withinHearing_31 ⟨(Nat.le_of_ble_eq_true rfl), (Nat.le_of_ble_eq_true rfl)⟩) hS (fun _ _ h => h.elim) (fun _ h => h.elim) (fun r10 u t H1 locs ht hvm hw hB hz1 hk1 hS => ?_)
          have hP := hz_keep hP hk1
          clear hk1 hB hz1
          generalize H1 = H at hP hS ⊢
          refine lv_aload_n hx hb dX6_withinHearing_34 rfl (lv_at hl 3 rfl) ?_
          refine va_get (D := D) (ci := 8) (v := .int b0__hear) (C := RX8) (T := TX8) (N := 18) hx hb hT i_X8 hown hK hP 0 rfl rfl 7 (by decide) (hT _ q_126) (fun _ h9 => h9) rfl dX6_withinHearing_35 ?_
          refine lv_icmp_gt (tgt := 51) hx hb dX6_withinHearing_38 (by decide) (fun c11 => ?_) (fun c11 => ?_)
          · have h12 : IV (-2147483648) 2147483646 b0__hear := iv_lt1 c11 iv_top iv_top (by decide)
            have h13 : IV (-2147483647) 2147483647 r10 := iv_lt2 c11 iv_top iv_top (by decide)
            exact K51 k5_L_3 h8 h3 H locs (hP.sub (ws' := [(b0, .inr (8, [.int b0__stalls, .int b0__shift, .int b0__halves, .int b0__buyers, .int b0__near, .int b0__dusk, .int b0__duskPrice, .int b0__hear, .int b0__forged, .ref b0_stall, .ref b0_shape, .ref b0_side, .ref b0_price, .ref b0_purse, .ref b0_spot, .ref b0_club, .ref b0_fitting, .ref b0_nearly])), (a, .inr (6, [.int a__hour, .ref a_purse, .ref a_spot, .ref a_seen, .ref a_has, .ref a_at])), (a_spot, .inl (cs 0, 4, .inl a_spot_c)), (a_at, .inl (cs 0, 8, .inl a_at_c))]) [0, 1, 2, 3] rfl) hS ls (lv_sub hl [0, 1, 2, 3, 4] rfl)
          · refine lv_iload_n hx hb dX6_withinHearing_41 rfl (lv_at hl 1 rfl) ?_
            refine lv_aload_n hx hb dX6_withinHearing_42 rfl (lv_at hl 2 rfl) ?_
            refine va_get (D := D) (ci := 6) (v := .ref a_at) (C := RX6) (T := TX6) (N := 6) hx hb hT i_X6 hown hK hP 1 rfl rfl 5 (by decide) (hT _ q_118) (fun _ h9 => h9) rfl dX6_withinHearing_43 ?_
            refine lv_iload hx hb dX6_withinHearing_46 (lv_at hl 0 rfl) ?_
            refine va_iald hx hb hK hP 3 0 rfl rfl (iv_v h3 (by decide) (by decide)) dX6_withinHearing_48 ?_
            refine lv_topi (fun v14 ev14 => ?_)
            refine lv_ior hx hb dX6_withinHearing_49 ?_
            refine lv_topi (fun v15 ev15 => ?_)
            refine lv_istore_n (lv' := [(3, .int v15), (4, .int k5_L_4), (0, .ref a), (1, .ref b0), (2, .int p1)]) hx hb dX6_withinHearing_50 rfl hl (by decide) rfl (fun ls hl => ?_)
            exact K51 v15 h8 h3 H locs (hP.sub (ws' := [(b0, .inr (8, [.int b0__stalls, .int b0__shift, .int b0__halves, .int b0__buyers, .int b0__near, .int b0__dusk, .int b0__duskPrice, .int b0__hear, .int b0__forged, .ref b0_stall, .ref b0_shape, .ref b0_side, .ref b0_price, .ref b0_purse, .ref b0_spot, .ref b0_club, .ref b0_fitting, .ref b0_nearly])), (a, .inr (6, [.int a__hour, .ref a_purse, .ref a_spot, .ref a_seen, .ref a_has, .ref a_at])), (a_spot, .inl (cs 0, 4, .inl a_spot_c)), (a_at, .inl (cs 0, 8, .inl a_at_c))]) [0, 1, 2, 3] rfl) hS ls (lv_sub hl [1, 0, 2, 3, 4] rfl)
  refine lv_iconst (v := 0) hx hb dX6_withinHearing_0 (by decide) ?_
  refine lv_istore_n (lv' := [(3, .int 0), (0, .ref a), (1, .ref b0), (2, .int p1)]) hx hb dX6_withinHearing_1 rfl hl (by decide) rfl (fun ls hl => ?_)
  refine lv_iconst (v := 0) hx hb dX6_withinHearing_2 (by decide) ?_
  refine lv_istore (lv' := [(4, .int 0), (3, .int 0), (0, .ref a), (1, .ref b0), (2, .int p1)]) hx hb dX6_withinHearing_3 hl (by decide) rfl (fun ls hl => ?_)
  exact K5 _ 0 0 (Nat.le_refl _) (iv_c (by decide)) H locs (hP.sub (ws' := [(b0, .inr (8, [.int b0__stalls, .int b0__shift, .int b0__halves, .int b0__buyers, .int b0__near, .int b0__dusk, .int b0__duskPrice, .int b0__hear, .int b0__forged, .ref b0_stall, .ref b0_shape, .ref b0_side, .ref b0_price, .ref b0_purse, .ref b0_spot, .ref b0_club, .ref b0_fitting, .ref b0_nearly])), (a, .inr (6, [.int a__hour, .ref a_purse, .ref a_spot, .ref a_seen, .ref a_has, .ref a_at])), (a_spot, .inl (cs 0, 4, .inl a_spot_c)), (a_at, .inl (cs 0, 8, .inl a_at_c))]) [0, 1, 2, 3] rfl) hS ls (lv_sub hl [0, 1, 2, 3, 4] rfl)
theorem dX6_sell_0 : decode cX6_sell 0 = .ok (.aload_n 0, 1) := by decide +kernel
theorem dX6_sell_1 : decode cX6_sell 1 = .ok (.getfield 24, 3) := by decide +kernel
theorem dX6_sell_4 : decode cX6_sell 4 = .ok (.iload_n 2, 1) := by decide +kernel
theorem dX6_sell_5 : decode cX6_sell 5 = .ok (.dup2, 1) := by decide +kernel
theorem dX6_sell_6 : decode cX6_sell 6 = .ok (.iaload, 1) := by decide +kernel
theorem dX6_sell_7 : decode cX6_sell 7 = .ok (.iconst 1, 1) := by decide +kernel
theorem dX6_sell_8 : decode cX6_sell 8 = .ok (.iload_n 1, 1) := by decide +kernel
theorem dX6_sell_9 : decode cX6_sell 9 = .ok (.ishl, 1) := by decide +kernel
theorem dX6_sell_10 : decode cX6_sell 10 = .ok (.iconst (-1), 1) := by decide +kernel
theorem dX6_sell_11 : decode cX6_sell 11 = .ok (.ixor, 1) := by decide +kernel
theorem dX6_sell_12 : decode cX6_sell 12 = .ok (.iand, 1) := by decide +kernel
theorem dX6_sell_13 : decode cX6_sell 13 = .ok (.iastore, 1) := by decide +kernel
theorem dX6_sell_14 : decode cX6_sell 14 = .ok (.aload_n 0, 1) := by decide +kernel
theorem dX6_sell_15 : decode cX6_sell 15 = .ok (.getfield 21, 3) := by decide +kernel
theorem dX6_sell_18 : decode cX6_sell 18 = .ok (.iload_n 3, 1) := by decide +kernel
theorem dX6_sell_19 : decode cX6_sell 19 = .ok (.dup2, 1) := by decide +kernel
theorem dX6_sell_20 : decode cX6_sell 20 = .ok (.iaload, 1) := by decide +kernel
theorem dX6_sell_21 : decode cX6_sell 21 = .ok (.iconst 1, 1) := by decide +kernel
theorem dX6_sell_22 : decode cX6_sell 22 = .ok (.iload_n 1, 1) := by decide +kernel
theorem dX6_sell_23 : decode cX6_sell 23 = .ok (.ishl, 1) := by decide +kernel
theorem dX6_sell_24 : decode cX6_sell 24 = .ok (.ior, 1) := by decide +kernel
theorem dX6_sell_25 : decode cX6_sell 25 = .ok (.iastore, 1) := by decide +kernel
theorem dX6_sell_26 : decode cX6_sell 26 = .ok (.aload_n 0, 1) := by decide +kernel
theorem dX6_sell_27 : decode cX6_sell 27 = .ok (.getfield 9, 3) := by decide +kernel
theorem dX6_sell_30 : decode cX6_sell 30 = .ok (.iload_n 3, 1) := by decide +kernel
theorem dX6_sell_31 : decode cX6_sell 31 = .ok (.dup2, 1) := by decide +kernel
theorem dX6_sell_32 : decode cX6_sell 32 = .ok (.iaload, 1) := by decide +kernel
theorem dX6_sell_33 : decode cX6_sell 33 = .ok (.iload 4, 2) := by decide +kernel
theorem dX6_sell_35 : decode cX6_sell 35 = .ok (.isub, 1) := by decide +kernel
theorem dX6_sell_36 : decode cX6_sell 36 = .ok (.iastore, 1) := by decide +kernel
theorem dX6_sell_37 : decode cX6_sell 37 = .ok (.return_, 1) := by decide +kernel
set_option maxHeartbeats 4000000 in
set_option maxRecDepth 100000 in
theorem c_X6_sell (l : Launch) (D : va_G) (cs : Nat → ClassId) (kK kV : Nat → Nat) (a : Nat) (p0 : Int32) (p1 : Int32) (p2 : Int32) (p3 : Int32) (a__hour : Int32) (a_purse : Nat) (a_spot : Nat) (a_seen : Nat) (a_has : Nat) (a_at : Nat) (a_at_c : Nat → Int32) (a_has_c : Nat → Int32) (a_purse_c : Nat → Int32) (h_p1 : IV 0 7 p1) (h_p2 : IV 0 3 p2) (sz : Nat) : Met l yX6_sell (hz_w yX6_sell cX6_sell 5 none) ({ frames := 0, cells := 0, slots := 0, locals := 0 }) (va_Pc [.ref a, .int p0, .int p1, .int p2, .int p3] (hz_C D cs kK kV sz [(a, .inr (6, [.int a__hour, .ref a_purse, .ref a_spot, .ref a_seen, .ref a_has, .ref a_at])), (a_at, .inl (cs 0, 8, .inl a_at_c)), (a_has, .inl (cs 0, 4, .inl a_has_c)), (a_purse, .inl (cs 0, 4, .inl a_purse_c))])) (va_Qv (fun (_ : Unit) => True) (fun _ t => ∃ (o_a_at_c : Nat → Int32), ∃ (o_a_has_c : Nat → Int32), ∃ (o_a_purse_c : Nat → Int32), va_P D classes [(a, .inr (6, [.int a__hour, .ref a_purse, .ref a_spot, .ref a_seen, .ref a_has, .ref a_at])), (a_at, .inl (cs 0, 8, .inl o_a_at_c)), (a_has, .inl (cs 0, 4, .inl o_a_has_c)), (a_purse, .inl (cs 0, 4, .inl o_a_purse_c))] t.heap ∧ va_D (va_A [(a, .inr (6, [.int a__hour, .ref a_purse, .ref a_spot, .ref a_seen, .ref a_has, .ref a_at])), (a_at, .inl (cs 0, 8, .inl a_at_c)), (a_has, .inl (cs 0, 4, .inl a_has_c)), (a_purse, .inl (cs 0, 4, .inl a_purse_c))] sz) [(a, .inr (6, [.int a__hour, .ref a_purse, .ref a_spot, .ref a_seen, .ref a_has, .ref a_at])), (a_at, .inl (cs 0, 8, .inl o_a_at_c)), (a_has, .inl (cs 0, 4, .inl o_a_has_c)), (a_purse, .inl (cs 0, 4, .inl o_a_purse_c))]) (va_A [(a, .inr (6, [.int a__hour, .ref a_purse, .ref a_spot, .ref a_seen, .ref a_has, .ref a_at])), (a_at, .inl (cs 0, 8, .inl a_at_c)), (a_has, .inl (cs 0, 4, .inl a_has_c)), (a_purse, .inl (cs 0, 4, .inl a_purse_c))] sz)) 0 0 (va_A [(a, .inr (6, [.int a__hour, .ref a_purse, .ref a_spot, .ref a_seen, .ref a_has, .ref a_at])), (a_at, .inl (cs 0, 8, .inl a_at_c)), (a_has, .inl (cs 0, 4, .inl a_has_c)), (a_purse, .inl (cs 0, 4, .inl a_purse_c))] sz) := by
  refine Met.ofW (cc := cX6_sell) (maxL := 5) (ret := none) (by decide) rfl ?_
  intro p e s m args below meth c s₁ B hml hv
  obtain ⟨rfl, hsz, hP, hD0, hE⟩ := hv
  have hx := B.exec
  have hb := B.bytes
  have hr := B.returns
  have hT : ∀ w ∈ TB, w.before _ s = true := fun w h => atoms_spec (ws := hz_w yX6_sell cX6_sell 5 none) B.pre w (List.mem_cons_of_mem _ h)
  have hown : s.vm.findClass RX6 = some m.cls := findClass_of_methodNamed B.named
  have hlocks := B.notSynchronized
  clear B
  subst hsz
  have hD := hD0.self (sz := s.heap.size)
  generalize hAe : va_A [(a, .inr (6, [.int a__hour, .ref a_purse, .ref a_spot, .ref a_seen, .ref a_has, .ref a_at])), (a_at, .inl (cs 0, 8, .inl a_at_c)), (a_has, .inl (cs 0, 4, .inl a_has_c)), (a_purse, .inl (cs 0, 4, .inl a_purse_c))] s.heap.size = A at hD hE ⊢
  have hA : ∀ q : Nat, s.heap.size ≤ q → A q := fun q h => by rw [← hAe]; exact Or.inr h
  clear hAe hD0
  have hS : va_S A s.heap s.heap [] := va_S.rf
  have hK := hE.1
  have hl := lv_entry ([.ref a, .int p0, .int p1, .int p2, .int p3]) (n := 5) (Nat.le_of_ble_eq_true rfl)
  rw [lg_entry_eq]
  generalize (lg_sl ([.ref a, .int p0, .int p1, .int p2, .int p3]) ++ List.replicate (5 - (lg_sl ([.ref a, .int p0, .int p1, .int p2, .int p3])).length) Slot.unset).toArray = ls at hl ⊢
  have hl : lv_has ls 5 [(0, .ref a), (1, .int p0), (2, .int p1), (3, .int p2), (4, .int p3)] := hl
  obtain ⟨H, eH⟩ : ∃ z, z = s.heap := ⟨_, rfl⟩
  have hP : va_P D classes [(a, .inr (6, [.int a__hour, .ref a_purse, .ref a_spot, .ref a_seen, .ref a_has, .ref a_at])), (a_at, .inl (cs 0, 8, .inl a_at_c)), (a_has, .inl (cs 0, 4, .inl a_has_c)), (a_purse, .inl (cs 0, 4, .inl a_purse_c))] H := by rw [eH]; exact hP
  have hS : va_S A s.heap H [] := by rw [eH]; exact hS
  rw [← eH]
  clear eH
  obtain ⟨locs, el⟩ : ∃ z : List Loc, z = [] := ⟨_, rfl⟩
  rw [← el] at hS ⊢
  clear el
  refine lv_aload_n hx hb dX6_sell_0 rfl (lv_at hl 0 rfl) ?_
  refine va_get (D := D) (ci := 6) (v := .ref a_at) (C := RX6) (T := TX6) (N := 6) hx hb hT i_X6 hown hK hP 0 rfl rfl 5 (by decide) (hT _ q_118) (fun _ h9 => h9) rfl dX6_sell_1 ?_
  refine lv_iload_n hx hb dX6_sell_4 rfl (lv_at hl 2 rfl) ?_
  refine lv_dup2_11 hx hb dX6_sell_5 rfl rfl ?_
  refine va_iald hx hb hK hP 1 0 rfl rfl (iv_v h_p1 (by decide) (by decide)) dX6_sell_6 ?_
  refine lv_topi (fun v1 ev1 => ?_)
  refine lv_iconst (v := 1) hx hb dX6_sell_7 (by decide) ?_
  refine lv_iload_n hx hb dX6_sell_8 rfl (lv_at hl 1 rfl) ?_
  refine lv_ishl hx hb dX6_sell_9 ?_
  refine lv_topi (fun v2 ev2 => ?_)
  refine lv_iconst (v := (-1)) hx hb dX6_sell_10 (by decide) ?_
  refine lv_ixor hx hb dX6_sell_11 ?_
  refine lv_topi (fun v3 ev3 => ?_)
  refine lv_iand hx hb dX6_sell_12 ?_
  refine lv_topi (fun v4 ev4 => ?_)
  refine va_iast hx hb hK hP hD hS 1 0 rfl rfl (iv_v h_p1 (by decide) (by decide)) dX6_sell_13 (fun H locs hP hD hS => ?_)
  have hP : va_P D classes [(a, .inr (6, [.int a__hour, .ref a_purse, .ref a_spot, .ref a_seen, .ref a_has, .ref a_at])), (a_at, .inl (cs 0, 8, .inl (upd a_at_c (Int32.toNatClampNeg p1) v4))), (a_has, .inl (cs 0, 4, .inl a_has_c)), (a_purse, .inl (cs 0, 4, .inl a_purse_c))] H := hP
  have hD : va_D A [(a, .inr (6, [.int a__hour, .ref a_purse, .ref a_spot, .ref a_seen, .ref a_has, .ref a_at])), (a_at, .inl (cs 0, 8, .inl (upd a_at_c (Int32.toNatClampNeg p1) v4))), (a_has, .inl (cs 0, 4, .inl a_has_c)), (a_purse, .inl (cs 0, 4, .inl a_purse_c))] := hD
  generalize upd a_at_c (Int32.toNatClampNeg p1) v4 = f5 at hP hD
  refine lv_aload_n hx hb dX6_sell_14 rfl (lv_at hl 0 rfl) ?_
  refine va_get (D := D) (ci := 6) (v := .ref a_has) (C := RX6) (T := TX6) (N := 6) hx hb hT i_X6 hown hK hP 0 rfl rfl 4 (by decide) (hT _ q_117) (fun _ h9 => h9) rfl dX6_sell_15 ?_
  refine lv_iload_n hx hb dX6_sell_18 rfl (lv_at hl 3 rfl) ?_
  refine lv_dup2_11 hx hb dX6_sell_19 rfl rfl ?_
  refine va_iald hx hb hK hP 2 0 rfl rfl (iv_v h_p2 (by decide) (by decide)) dX6_sell_20 ?_
  refine lv_topi (fun v6 ev6 => ?_)
  refine lv_iconst (v := 1) hx hb dX6_sell_21 (by decide) ?_
  refine lv_iload_n hx hb dX6_sell_22 rfl (lv_at hl 1 rfl) ?_
  refine lv_ishl hx hb dX6_sell_23 ?_
  refine lv_topi (fun v7 ev7 => ?_)
  refine lv_ior hx hb dX6_sell_24 ?_
  refine lv_topi (fun v8 ev8 => ?_)
  refine va_iast hx hb hK hP hD hS 2 0 rfl rfl (iv_v h_p2 (by decide) (by decide)) dX6_sell_25 (fun H locs hP hD hS => ?_)
  have hP : va_P D classes [(a, .inr (6, [.int a__hour, .ref a_purse, .ref a_spot, .ref a_seen, .ref a_has, .ref a_at])), (a_at, .inl (cs 0, 8, .inl f5)), (a_has, .inl (cs 0, 4, .inl (upd a_has_c (Int32.toNatClampNeg p2) v8))), (a_purse, .inl (cs 0, 4, .inl a_purse_c))] H := hP
  have hD : va_D A [(a, .inr (6, [.int a__hour, .ref a_purse, .ref a_spot, .ref a_seen, .ref a_has, .ref a_at])), (a_at, .inl (cs 0, 8, .inl f5)), (a_has, .inl (cs 0, 4, .inl (upd a_has_c (Int32.toNatClampNeg p2) v8))), (a_purse, .inl (cs 0, 4, .inl a_purse_c))] := hD
  generalize upd a_has_c (Int32.toNatClampNeg p2) v8 = f9 at hP hD
  refine lv_aload_n hx hb dX6_sell_26 rfl (lv_at hl 0 rfl) ?_
  refine va_get (D := D) (ci := 6) (v := .ref a_purse) (C := RX6) (T := TX6) (N := 6) hx hb hT i_X6 hown hK hP 0 rfl rfl 1 (by decide) (hT _ q_114) (fun _ h9 => h9) rfl dX6_sell_27 ?_
  refine lv_iload_n hx hb dX6_sell_30 rfl (lv_at hl 3 rfl) ?_
  refine lv_dup2_11 hx hb dX6_sell_31 rfl rfl ?_
  refine va_iald hx hb hK hP 3 0 rfl rfl (iv_v h_p2 (by decide) (by decide)) dX6_sell_32 ?_
  refine lv_topi (fun v10 ev10 => ?_)
  refine lv_iload hx hb dX6_sell_33 (lv_at hl 4 rfl) ?_
  refine lv_isub hx hb dX6_sell_35 ?_
  refine lv_topi (fun v11 ev11 => ?_)
  refine va_iast hx hb hK hP hD hS 3 0 rfl rfl (iv_v h_p2 (by decide) (by decide)) dX6_sell_36 (fun H locs hP hD hS => ?_)
  have hP : va_P D classes [(a, .inr (6, [.int a__hour, .ref a_purse, .ref a_spot, .ref a_seen, .ref a_has, .ref a_at])), (a_at, .inl (cs 0, 8, .inl f5)), (a_has, .inl (cs 0, 4, .inl f9)), (a_purse, .inl (cs 0, 4, .inl (upd a_purse_c (Int32.toNatClampNeg p2) v11)))] H := hP
  have hD : va_D A [(a, .inr (6, [.int a__hour, .ref a_purse, .ref a_spot, .ref a_seen, .ref a_has, .ref a_at])), (a_at, .inl (cs 0, 8, .inl f5)), (a_has, .inl (cs 0, 4, .inl f9)), (a_purse, .inl (cs 0, 4, .inl (upd a_purse_c (Int32.toNatClampNeg p2) v11)))] := hD
  generalize upd a_purse_c (Int32.toNatClampNeg p2) v11 = f12 at hP hD
  refine W.widen (k := 0) (n := 0) (Nat.le_of_ble_eq_true rfl) (Nat.le_of_ble_eq_true rfl) ?_
  exact W.vret hx hb hr (fun t ht hW => ⟨⟨(), rfl, trivial, f5, f9, f12, by rw [ht]; exact hP.sub [0, 1, 2, 3] rfl, hD.sub [0, 1, 2, 3] (by decide) rfl⟩, hS.F ht⟩) hS.2.2 dX6_sell_37
theorem dX6_moveTo_0 : decode cX6_moveTo 0 = .ok (.iconst 0, 1) := by decide +kernel
theorem dX6_moveTo_1 : decode cX6_moveTo 1 = .ok (.istore_n 3, 1) := by decide +kernel
theorem dX6_moveTo_2 : decode cX6_moveTo 2 = .ok (.iload_n 3, 1) := by decide +kernel
theorem dX6_moveTo_3 : decode cX6_moveTo 3 = .ok (.bipush 8, 2) := by decide +kernel
theorem dX6_moveTo_5 : decode cX6_moveTo 5 = .ok (.if_icmp .ge 23, 3) := by decide +kernel
theorem dX6_moveTo_8 : decode cX6_moveTo 8 = .ok (.aload_n 0, 1) := by decide +kernel
theorem dX6_moveTo_9 : decode cX6_moveTo 9 = .ok (.getfield 24, 3) := by decide +kernel
theorem dX6_moveTo_12 : decode cX6_moveTo 12 = .ok (.iload_n 3, 1) := by decide +kernel
theorem dX6_moveTo_13 : decode cX6_moveTo 13 = .ok (.dup2, 1) := by decide +kernel
theorem dX6_moveTo_14 : decode cX6_moveTo 14 = .ok (.iaload, 1) := by decide +kernel
theorem dX6_moveTo_15 : decode cX6_moveTo 15 = .ok (.iconst 1, 1) := by decide +kernel
theorem dX6_moveTo_16 : decode cX6_moveTo 16 = .ok (.iload_n 1, 1) := by decide +kernel
theorem dX6_moveTo_17 : decode cX6_moveTo 17 = .ok (.ishl, 1) := by decide +kernel
theorem dX6_moveTo_18 : decode cX6_moveTo 18 = .ok (.iconst (-1), 1) := by decide +kernel
theorem dX6_moveTo_19 : decode cX6_moveTo 19 = .ok (.ixor, 1) := by decide +kernel
theorem dX6_moveTo_20 : decode cX6_moveTo 20 = .ok (.iand, 1) := by decide +kernel
theorem dX6_moveTo_21 : decode cX6_moveTo 21 = .ok (.iastore, 1) := by decide +kernel
theorem dX6_moveTo_22 : decode cX6_moveTo 22 = .ok (.iinc 3 1, 3) := by decide +kernel
theorem dX6_moveTo_25 : decode cX6_moveTo 25 = .ok (.goto (-23), 3) := by decide +kernel
theorem dX6_moveTo_28 : decode cX6_moveTo 28 = .ok (.iconst 0, 1) := by decide +kernel
theorem dX6_moveTo_29 : decode cX6_moveTo 29 = .ok (.istore_n 3, 1) := by decide +kernel
theorem dX6_moveTo_30 : decode cX6_moveTo 30 = .ok (.iload_n 3, 1) := by decide +kernel
theorem dX6_moveTo_31 : decode cX6_moveTo 31 = .ok (.iconst 4, 1) := by decide +kernel
theorem dX6_moveTo_32 : decode cX6_moveTo 32 = .ok (.if_icmp .ge 23, 3) := by decide +kernel
theorem dX6_moveTo_35 : decode cX6_moveTo 35 = .ok (.aload_n 0, 1) := by decide +kernel
theorem dX6_moveTo_36 : decode cX6_moveTo 36 = .ok (.getfield 21, 3) := by decide +kernel
theorem dX6_moveTo_39 : decode cX6_moveTo 39 = .ok (.iload_n 3, 1) := by decide +kernel
theorem dX6_moveTo_40 : decode cX6_moveTo 40 = .ok (.dup2, 1) := by decide +kernel
theorem dX6_moveTo_41 : decode cX6_moveTo 41 = .ok (.iaload, 1) := by decide +kernel
theorem dX6_moveTo_42 : decode cX6_moveTo 42 = .ok (.iconst 1, 1) := by decide +kernel
theorem dX6_moveTo_43 : decode cX6_moveTo 43 = .ok (.iload_n 1, 1) := by decide +kernel
theorem dX6_moveTo_44 : decode cX6_moveTo 44 = .ok (.ishl, 1) := by decide +kernel
theorem dX6_moveTo_45 : decode cX6_moveTo 45 = .ok (.iconst (-1), 1) := by decide +kernel
theorem dX6_moveTo_46 : decode cX6_moveTo 46 = .ok (.ixor, 1) := by decide +kernel
theorem dX6_moveTo_47 : decode cX6_moveTo 47 = .ok (.iand, 1) := by decide +kernel
theorem dX6_moveTo_48 : decode cX6_moveTo 48 = .ok (.iastore, 1) := by decide +kernel
theorem dX6_moveTo_49 : decode cX6_moveTo 49 = .ok (.iinc 3 1, 3) := by decide +kernel
theorem dX6_moveTo_52 : decode cX6_moveTo 52 = .ok (.goto (-22), 3) := by decide +kernel
theorem dX6_moveTo_55 : decode cX6_moveTo 55 = .ok (.aload_n 0, 1) := by decide +kernel
theorem dX6_moveTo_56 : decode cX6_moveTo 56 = .ok (.getfield 24, 3) := by decide +kernel
theorem dX6_moveTo_59 : decode cX6_moveTo 59 = .ok (.iload_n 2, 1) := by decide +kernel
theorem dX6_moveTo_60 : decode cX6_moveTo 60 = .ok (.dup2, 1) := by decide +kernel
theorem dX6_moveTo_61 : decode cX6_moveTo 61 = .ok (.iaload, 1) := by decide +kernel
theorem dX6_moveTo_62 : decode cX6_moveTo 62 = .ok (.iconst 1, 1) := by decide +kernel
theorem dX6_moveTo_63 : decode cX6_moveTo 63 = .ok (.iload_n 1, 1) := by decide +kernel
theorem dX6_moveTo_64 : decode cX6_moveTo 64 = .ok (.ishl, 1) := by decide +kernel
theorem dX6_moveTo_65 : decode cX6_moveTo 65 = .ok (.ior, 1) := by decide +kernel
theorem dX6_moveTo_66 : decode cX6_moveTo 66 = .ok (.iastore, 1) := by decide +kernel
theorem dX6_moveTo_67 : decode cX6_moveTo 67 = .ok (.return_, 1) := by decide +kernel
set_option maxHeartbeats 4000000 in
set_option maxRecDepth 100000 in
theorem c_X6_moveTo (l : Launch) (D : va_G) (cs : Nat → ClassId) (kK kV : Nat → Nat) (a : Nat) (p0 : Int32) (p1 : Int32) (a__hour : Int32) (a_purse : Nat) (a_spot : Nat) (a_seen : Nat) (a_has : Nat) (a_at : Nat) (a_at_c : Nat → Int32) (a_has_c : Nat → Int32) (h_p1 : IV 0 7 p1) (sz : Nat) : Met l yX6_moveTo (hz_w yX6_moveTo cX6_moveTo 4 none) ({ frames := 0, cells := 0, slots := 0, locals := 0 }) (va_Pc [.ref a, .int p0, .int p1] (hz_C D cs kK kV sz [(a, .inr (6, [.int a__hour, .ref a_purse, .ref a_spot, .ref a_seen, .ref a_has, .ref a_at])), (a_at, .inl (cs 0, 8, .inl a_at_c)), (a_has, .inl (cs 0, 4, .inl a_has_c))])) (va_Qv (fun (_ : Unit) => True) (fun _ t => ∃ (o_a_at_c : Nat → Int32), ∃ (o_a_has_c : Nat → Int32), va_P D classes [(a, .inr (6, [.int a__hour, .ref a_purse, .ref a_spot, .ref a_seen, .ref a_has, .ref a_at])), (a_at, .inl (cs 0, 8, .inl o_a_at_c)), (a_has, .inl (cs 0, 4, .inl o_a_has_c))] t.heap ∧ va_D (va_A [(a, .inr (6, [.int a__hour, .ref a_purse, .ref a_spot, .ref a_seen, .ref a_has, .ref a_at])), (a_at, .inl (cs 0, 8, .inl a_at_c)), (a_has, .inl (cs 0, 4, .inl a_has_c))] sz) [(a, .inr (6, [.int a__hour, .ref a_purse, .ref a_spot, .ref a_seen, .ref a_has, .ref a_at])), (a_at, .inl (cs 0, 8, .inl o_a_at_c)), (a_has, .inl (cs 0, 4, .inl o_a_has_c))]) (va_A [(a, .inr (6, [.int a__hour, .ref a_purse, .ref a_spot, .ref a_seen, .ref a_has, .ref a_at])), (a_at, .inl (cs 0, 8, .inl a_at_c)), (a_has, .inl (cs 0, 4, .inl a_has_c))] sz)) 0 0 (va_A [(a, .inr (6, [.int a__hour, .ref a_purse, .ref a_spot, .ref a_seen, .ref a_has, .ref a_at])), (a_at, .inl (cs 0, 8, .inl a_at_c)), (a_has, .inl (cs 0, 4, .inl a_has_c))] sz) := by
  refine Met.ofW (cc := cX6_moveTo) (maxL := 4) (ret := none) (by decide) rfl ?_
  intro p e s m args below meth c s₁ B hml hv
  obtain ⟨rfl, hsz, hP, hD0, hE⟩ := hv
  have hx := B.exec
  have hb := B.bytes
  have hr := B.returns
  have hT : ∀ w ∈ TB, w.before _ s = true := fun w h => atoms_spec (ws := hz_w yX6_moveTo cX6_moveTo 4 none) B.pre w (List.mem_cons_of_mem _ h)
  have hown : s.vm.findClass RX6 = some m.cls := findClass_of_methodNamed B.named
  have hlocks := B.notSynchronized
  clear B
  subst hsz
  have hD := hD0.self (sz := s.heap.size)
  generalize hAe : va_A [(a, .inr (6, [.int a__hour, .ref a_purse, .ref a_spot, .ref a_seen, .ref a_has, .ref a_at])), (a_at, .inl (cs 0, 8, .inl a_at_c)), (a_has, .inl (cs 0, 4, .inl a_has_c))] s.heap.size = A at hD hE ⊢
  have hA : ∀ q : Nat, s.heap.size ≤ q → A q := fun q h => by rw [← hAe]; exact Or.inr h
  clear hAe hD0
  have hS : va_S A s.heap s.heap [] := va_S.rf
  have hK := hE.1
  have hl := lv_entry ([.ref a, .int p0, .int p1]) (n := 4) (Nat.le_of_ble_eq_true rfl)
  rw [lg_entry_eq]
  generalize (lg_sl ([.ref a, .int p0, .int p1]) ++ List.replicate (4 - (lg_sl ([.ref a, .int p0, .int p1])).length) Slot.unset).toArray = ls at hl ⊢
  have hl : lv_has ls 4 [(0, .ref a), (1, .int p0), (2, .int p1)] := hl
  obtain ⟨H, eH⟩ : ∃ z, z = s.heap := ⟨_, rfl⟩
  have hP : va_P D classes [(a, .inr (6, [.int a__hour, .ref a_purse, .ref a_spot, .ref a_seen, .ref a_has, .ref a_at])), (a_at, .inl (cs 0, 8, .inl a_at_c)), (a_has, .inl (cs 0, 4, .inl a_has_c))] H := by rw [eH]; exact hP
  have hS : va_S A s.heap H [] := by rw [eH]; exact hS
  rw [← eH]
  clear eH
  obtain ⟨locs, el⟩ : ∃ z : List Loc, z = [] := ⟨_, rfl⟩
  rw [← el] at hS ⊢
  clear el
  have K30 : ∀ (n : Nat) (k30_L_3 : Int32) (k30_C_a_at : Nat → Int32) (k30_C_a_has : Nat → Int32), (4 - k30_L_3.toInt + 1).toNat ≤ n → IV 0 4 k30_L_3 → ∀ (H : Heap) (locs : List Loc), va_P D classes [(a, .inr (6, [.int a__hour, .ref a_purse, .ref a_spot, .ref a_seen, .ref a_has, .ref a_at])), (a_at, .inl (cs 0, 8, .inl k30_C_a_at)), (a_has, .inl (cs 0, 4, .inl k30_C_a_has))] H → va_D A [(a, .inr (6, [.int a__hour, .ref a_purse, .ref a_spot, .ref a_seen, .ref a_has, .ref a_at])), (a_at, .inl (cs 0, 8, .inl k30_C_a_at)), (a_has, .inl (cs 0, 4, .inl k30_C_a_has))] → va_S A s.heap H locs → ∀ ls : Array Slot, lv_has ls 4 [(3, .int k30_L_3), (0, .ref a), (1, .int p0), (2, .int p1)] → W p l e (headSpec (hz_w yX6_moveTo cX6_moveTo 4 none) ({ frames := 0, cells := 0, slots := 0, locals := 0 })).room s m [.ref a, .int p0, .int p1].toArray below meth c H locs 0 0 (MQ below (va_Qv (fun (_ : Unit) => True) (fun _ t => ∃ (o_a_at_c : Nat → Int32), ∃ (o_a_has_c : Nat → Int32), va_P D classes [(a, .inr (6, [.int a__hour, .ref a_purse, .ref a_spot, .ref a_seen, .ref a_has, .ref a_at])), (a_at, .inl (cs 0, 8, .inl o_a_at_c)), (a_has, .inl (cs 0, 4, .inl o_a_has_c))] t.heap ∧ va_D A [(a, .inr (6, [.int a__hour, .ref a_purse, .ref a_spot, .ref a_seen, .ref a_has, .ref a_at])), (a_at, .inl (cs 0, 8, .inl o_a_at_c)), (a_has, .inl (cs 0, 4, .inl o_a_has_c))]) A) [.ref a, .int p0, .int p1].toArray s 0 0 A) (F0 m 30 ls []) := by
    intro n
    induction n with
    | zero =>
      intro k30_L_3 k30_C_a_at k30_C_a_has hn q30_0 H locs hP hD hS ls hl
      exact absurd hn (by unfold IV at q30_0; omega)
    | succ n ih30 =>
      intro k30_L_3 k30_C_a_at k30_C_a_has hn q30_0 H locs hP hD hS ls hl
      refine lv_iload_n hx hb dX6_moveTo_30 rfl (lv_at hl 0 rfl) ?_
      refine lv_iconst (v := 4) hx hb dX6_moveTo_31 (by decide) ?_
      refine lv_icmp_ge (tgt := 55) hx hb dX6_moveTo_32 (by decide) (fun c1 => ?_) (fun c1 => ?_)
      · have h2 : IV 4 4 k30_L_3 := iv_le2 c1 (iv_c (a := 4) (b := 4) (by decide)) q30_0 (by decide)
        refine lv_aload_n hx hb dX6_moveTo_55 rfl (lv_at hl 1 rfl) ?_
        refine va_get (D := D) (ci := 6) (v := .ref a_at) (C := RX6) (T := TX6) (N := 6) hx hb hT i_X6 hown hK hP 0 rfl rfl 5 (by decide) (hT _ q_118) (fun _ h9 => h9) rfl dX6_moveTo_56 ?_
        refine lv_iload_n hx hb dX6_moveTo_59 rfl (lv_at hl 3 rfl) ?_
        refine lv_dup2_11 hx hb dX6_moveTo_60 rfl rfl ?_
        refine va_iald hx hb hK hP 1 0 rfl rfl (iv_v h_p1 (by decide) (by decide)) dX6_moveTo_61 ?_
        refine lv_topi (fun v3 ev3 => ?_)
        refine lv_iconst (v := 1) hx hb dX6_moveTo_62 (by decide) ?_
        refine lv_iload_n hx hb dX6_moveTo_63 rfl (lv_at hl 2 rfl) ?_
        refine lv_ishl hx hb dX6_moveTo_64 ?_
        refine lv_topi (fun v4 ev4 => ?_)
        refine lv_ior hx hb dX6_moveTo_65 ?_
        refine lv_topi (fun v5 ev5 => ?_)
        refine va_iast hx hb hK hP hD hS 1 0 rfl rfl (iv_v h_p1 (by decide) (by decide)) dX6_moveTo_66 (fun H locs hP hD hS => ?_)
        have hP : va_P D classes [(a, .inr (6, [.int a__hour, .ref a_purse, .ref a_spot, .ref a_seen, .ref a_has, .ref a_at])), (a_at, .inl (cs 0, 8, .inl (upd k30_C_a_at (Int32.toNatClampNeg p1) v5))), (a_has, .inl (cs 0, 4, .inl k30_C_a_has))] H := hP
        have hD : va_D A [(a, .inr (6, [.int a__hour, .ref a_purse, .ref a_spot, .ref a_seen, .ref a_has, .ref a_at])), (a_at, .inl (cs 0, 8, .inl (upd k30_C_a_at (Int32.toNatClampNeg p1) v5))), (a_has, .inl (cs 0, 4, .inl k30_C_a_has))] := hD
        generalize upd k30_C_a_at (Int32.toNatClampNeg p1) v5 = f6 at hP hD
        refine W.widen (k := 0) (n := 0) (Nat.le_of_ble_eq_true rfl) (Nat.le_of_ble_eq_true rfl) ?_
        exact W.vret hx hb hr (fun t ht hW => ⟨⟨(), rfl, trivial, f6, k30_C_a_has, by rw [ht]; exact hP.sub [0, 1, 2] rfl, hD.sub [0, 1, 2] (by decide) rfl⟩, hS.F ht⟩) hS.2.2 dX6_moveTo_67
      · have h7 : IV 0 3 k30_L_3 := iv_lt1 (Int32.not_le.mp c1) q30_0 (iv_c (a := 4) (b := 4) (by decide)) (by decide)
        refine lv_aload_n hx hb dX6_moveTo_35 rfl (lv_at hl 1 rfl) ?_
        refine va_get (D := D) (ci := 6) (v := .ref a_has) (C := RX6) (T := TX6) (N := 6) hx hb hT i_X6 hown hK hP 0 rfl rfl 4 (by decide) (hT _ q_117) (fun _ h9 => h9) rfl dX6_moveTo_36 ?_
        refine lv_iload_n hx hb dX6_moveTo_39 rfl (lv_at hl 0 rfl) ?_
        refine lv_dup2_11 hx hb dX6_moveTo_40 rfl rfl ?_
        refine va_iald hx hb hK hP 2 0 rfl rfl (iv_v h7 (by decide) (by decide)) dX6_moveTo_41 ?_
        refine lv_topi (fun v8 ev8 => ?_)
        refine lv_iconst (v := 1) hx hb dX6_moveTo_42 (by decide) ?_
        refine lv_iload_n hx hb dX6_moveTo_43 rfl (lv_at hl 2 rfl) ?_
        refine lv_ishl hx hb dX6_moveTo_44 ?_
        refine lv_topi (fun v9 ev9 => ?_)
        refine lv_iconst (v := (-1)) hx hb dX6_moveTo_45 (by decide) ?_
        refine lv_ixor hx hb dX6_moveTo_46 ?_
        refine lv_topi (fun v10 ev10 => ?_)
        refine lv_iand hx hb dX6_moveTo_47 ?_
        refine lv_topi (fun v11 ev11 => ?_)
        refine va_iast hx hb hK hP hD hS 2 0 rfl rfl (iv_v h7 (by decide) (by decide)) dX6_moveTo_48 (fun H locs hP hD hS => ?_)
        have hP : va_P D classes [(a, .inr (6, [.int a__hour, .ref a_purse, .ref a_spot, .ref a_seen, .ref a_has, .ref a_at])), (a_at, .inl (cs 0, 8, .inl k30_C_a_at)), (a_has, .inl (cs 0, 4, .inl (upd k30_C_a_has (Int32.toNatClampNeg k30_L_3) v11)))] H := hP
        have hD : va_D A [(a, .inr (6, [.int a__hour, .ref a_purse, .ref a_spot, .ref a_seen, .ref a_has, .ref a_at])), (a_at, .inl (cs 0, 8, .inl k30_C_a_at)), (a_has, .inl (cs 0, 4, .inl (upd k30_C_a_has (Int32.toNatClampNeg k30_L_3) v11)))] := hD
        generalize upd k30_C_a_has (Int32.toNatClampNeg k30_L_3) v11 = f12 at hP hD
        obtain ⟨v13, ev13⟩ : ∃ z : Int32, z = k30_L_3 + 1 := ⟨_, rfl⟩
        have hv13 : IV 1 4 v13 := iv_add ev13 h7 (iv_c (a := 1) (b := 1) (by decide)) (by decide) (by decide)
        have dv13 : v13.toInt = k30_L_3.toInt + 1 := iv_addE ev13 h7 (iv_c (a := 1) (b := 1) (by decide)) (by decide) (by decide) (by decide)
        refine lv_iinc (v := v13) (lv' := [(3, .int v13), (0, .ref a), (1, .int p0), (2, .int p1)]) hx hb dX6_moveTo_49 hl (k := 0) rfl (by rw [ev13]; rfl) (by decide) rfl (fun ls hl => ?_)
        refine lv_goto (tgt := 30) hx hb dX6_moveTo_52 (by decide) ?_
        exact ih30 v13 k30_C_a_at f12 (by have h9 := h7; unfold IV at h9; have := dv13; omega) (iv_w hv13 (by decide) (by decide)) H locs (hP.sub (ws' := [(a, .inr (6, [.int a__hour, .ref a_purse, .ref a_spot, .ref a_seen, .ref a_has, .ref a_at])), (a_at, .inl (cs 0, 8, .inl k30_C_a_at)), (a_has, .inl (cs 0, 4, .inl f12))]) [0, 1, 2] rfl) (hD.sub (ws' := [(a, .inr (6, [.int a__hour, .ref a_purse, .ref a_spot, .ref a_seen, .ref a_has, .ref a_at])), (a_at, .inl (cs 0, 8, .inl k30_C_a_at)), (a_has, .inl (cs 0, 4, .inl f12))]) [0, 1, 2] (by decide) rfl) hS ls (lv_sub hl [0, 1, 2, 3] rfl)
  have K2 : ∀ (n : Nat) (k2_L_3 : Int32) (k2_C_a_at : Nat → Int32), (8 - k2_L_3.toInt + 1).toNat ≤ n → IV 0 8 k2_L_3 → ∀ (H : Heap) (locs : List Loc), va_P D classes [(a, .inr (6, [.int a__hour, .ref a_purse, .ref a_spot, .ref a_seen, .ref a_has, .ref a_at])), (a_at, .inl (cs 0, 8, .inl k2_C_a_at)), (a_has, .inl (cs 0, 4, .inl a_has_c))] H → va_D A [(a, .inr (6, [.int a__hour, .ref a_purse, .ref a_spot, .ref a_seen, .ref a_has, .ref a_at])), (a_at, .inl (cs 0, 8, .inl k2_C_a_at)), (a_has, .inl (cs 0, 4, .inl a_has_c))] → va_S A s.heap H locs → ∀ ls : Array Slot, lv_has ls 4 [(3, .int k2_L_3), (0, .ref a), (1, .int p0), (2, .int p1)] → W p l e (headSpec (hz_w yX6_moveTo cX6_moveTo 4 none) ({ frames := 0, cells := 0, slots := 0, locals := 0 })).room s m [.ref a, .int p0, .int p1].toArray below meth c H locs 0 0 (MQ below (va_Qv (fun (_ : Unit) => True) (fun _ t => ∃ (o_a_at_c : Nat → Int32), ∃ (o_a_has_c : Nat → Int32), va_P D classes [(a, .inr (6, [.int a__hour, .ref a_purse, .ref a_spot, .ref a_seen, .ref a_has, .ref a_at])), (a_at, .inl (cs 0, 8, .inl o_a_at_c)), (a_has, .inl (cs 0, 4, .inl o_a_has_c))] t.heap ∧ va_D A [(a, .inr (6, [.int a__hour, .ref a_purse, .ref a_spot, .ref a_seen, .ref a_has, .ref a_at])), (a_at, .inl (cs 0, 8, .inl o_a_at_c)), (a_has, .inl (cs 0, 4, .inl o_a_has_c))]) A) [.ref a, .int p0, .int p1].toArray s 0 0 A) (F0 m 2 ls []) := by
    intro n
    induction n with
    | zero =>
      intro k2_L_3 k2_C_a_at hn q2_0 H locs hP hD hS ls hl
      exact absurd hn (by unfold IV at q2_0; omega)
    | succ n ih2 =>
      intro k2_L_3 k2_C_a_at hn q2_0 H locs hP hD hS ls hl
      refine lv_iload_n hx hb dX6_moveTo_2 rfl (lv_at hl 0 rfl) ?_
      refine lv_bipush (v := 8) hx hb dX6_moveTo_3 (by decide) ?_
      refine lv_icmp_ge (tgt := 28) hx hb dX6_moveTo_5 (by decide) (fun c14 => ?_) (fun c14 => ?_)
      · have h15 : IV 8 8 k2_L_3 := iv_le2 c14 (iv_c (a := 8) (b := 8) (by decide)) q2_0 (by decide)
        refine lv_iconst (v := 0) hx hb dX6_moveTo_28 (by decide) ?_
        refine lv_istore_n (lv' := [(3, .int 0), (0, .ref a), (1, .int p0), (2, .int p1)]) hx hb dX6_moveTo_29 rfl hl (by decide) rfl (fun ls hl => ?_)
        exact K30 _ 0 k2_C_a_at a_has_c (Nat.le_refl _) (iv_c (by decide)) H locs (hP.sub (ws' := [(a, .inr (6, [.int a__hour, .ref a_purse, .ref a_spot, .ref a_seen, .ref a_has, .ref a_at])), (a_at, .inl (cs 0, 8, .inl k2_C_a_at)), (a_has, .inl (cs 0, 4, .inl a_has_c))]) [0, 1, 2] rfl) (hD.sub (ws' := [(a, .inr (6, [.int a__hour, .ref a_purse, .ref a_spot, .ref a_seen, .ref a_has, .ref a_at])), (a_at, .inl (cs 0, 8, .inl k2_C_a_at)), (a_has, .inl (cs 0, 4, .inl a_has_c))]) [0, 1, 2] (by decide) rfl) hS ls (lv_sub hl [0, 1, 2, 3] rfl)
      · have h16 : IV 0 7 k2_L_3 := iv_lt1 (Int32.not_le.mp c14) q2_0 (iv_c (a := 8) (b := 8) (by decide)) (by decide)
        refine lv_aload_n hx hb dX6_moveTo_8 rfl (lv_at hl 1 rfl) ?_
        refine va_get (D := D) (ci := 6) (v := .ref a_at) (C := RX6) (T := TX6) (N := 6) hx hb hT i_X6 hown hK hP 0 rfl rfl 5 (by decide) (hT _ q_118) (fun _ h9 => h9) rfl dX6_moveTo_9 ?_
        refine lv_iload_n hx hb dX6_moveTo_12 rfl (lv_at hl 0 rfl) ?_
        refine lv_dup2_11 hx hb dX6_moveTo_13 rfl rfl ?_
        refine va_iald hx hb hK hP 1 0 rfl rfl (iv_v h16 (by decide) (by decide)) dX6_moveTo_14 ?_
        refine lv_topi (fun v17 ev17 => ?_)
        refine lv_iconst (v := 1) hx hb dX6_moveTo_15 (by decide) ?_
        refine lv_iload_n hx hb dX6_moveTo_16 rfl (lv_at hl 2 rfl) ?_
        refine lv_ishl hx hb dX6_moveTo_17 ?_
        refine lv_topi (fun v18 ev18 => ?_)
        refine lv_iconst (v := (-1)) hx hb dX6_moveTo_18 (by decide) ?_
        refine lv_ixor hx hb dX6_moveTo_19 ?_
        refine lv_topi (fun v19 ev19 => ?_)
        refine lv_iand hx hb dX6_moveTo_20 ?_
        refine lv_topi (fun v20 ev20 => ?_)
        refine va_iast hx hb hK hP hD hS 1 0 rfl rfl (iv_v h16 (by decide) (by decide)) dX6_moveTo_21 (fun H locs hP hD hS => ?_)
        have hP : va_P D classes [(a, .inr (6, [.int a__hour, .ref a_purse, .ref a_spot, .ref a_seen, .ref a_has, .ref a_at])), (a_at, .inl (cs 0, 8, .inl (upd k2_C_a_at (Int32.toNatClampNeg k2_L_3) v20))), (a_has, .inl (cs 0, 4, .inl a_has_c))] H := hP
        have hD : va_D A [(a, .inr (6, [.int a__hour, .ref a_purse, .ref a_spot, .ref a_seen, .ref a_has, .ref a_at])), (a_at, .inl (cs 0, 8, .inl (upd k2_C_a_at (Int32.toNatClampNeg k2_L_3) v20))), (a_has, .inl (cs 0, 4, .inl a_has_c))] := hD
        generalize upd k2_C_a_at (Int32.toNatClampNeg k2_L_3) v20 = f21 at hP hD
        obtain ⟨v22, ev22⟩ : ∃ z : Int32, z = k2_L_3 + 1 := ⟨_, rfl⟩
        have hv22 : IV 1 8 v22 := iv_add ev22 h16 (iv_c (a := 1) (b := 1) (by decide)) (by decide) (by decide)
        have dv22 : v22.toInt = k2_L_3.toInt + 1 := iv_addE ev22 h16 (iv_c (a := 1) (b := 1) (by decide)) (by decide) (by decide) (by decide)
        refine lv_iinc (v := v22) (lv' := [(3, .int v22), (0, .ref a), (1, .int p0), (2, .int p1)]) hx hb dX6_moveTo_22 hl (k := 0) rfl (by rw [ev22]; rfl) (by decide) rfl (fun ls hl => ?_)
        refine lv_goto (tgt := 2) hx hb dX6_moveTo_25 (by decide) ?_
        exact ih2 v22 f21 (by have h9 := h16; unfold IV at h9; have := dv22; omega) (iv_w hv22 (by decide) (by decide)) H locs (hP.sub (ws' := [(a, .inr (6, [.int a__hour, .ref a_purse, .ref a_spot, .ref a_seen, .ref a_has, .ref a_at])), (a_at, .inl (cs 0, 8, .inl f21)), (a_has, .inl (cs 0, 4, .inl a_has_c))]) [0, 1, 2] rfl) (hD.sub (ws' := [(a, .inr (6, [.int a__hour, .ref a_purse, .ref a_spot, .ref a_seen, .ref a_has, .ref a_at])), (a_at, .inl (cs 0, 8, .inl f21)), (a_has, .inl (cs 0, 4, .inl a_has_c))]) [0, 1, 2] (by decide) rfl) hS ls (lv_sub hl [0, 1, 2, 3] rfl)
  refine lv_iconst (v := 0) hx hb dX6_moveTo_0 (by decide) ?_
  refine lv_istore_n (lv' := [(3, .int 0), (0, .ref a), (1, .int p0), (2, .int p1)]) hx hb dX6_moveTo_1 rfl hl (by decide) rfl (fun ls hl => ?_)
  exact K2 _ 0 a_at_c (Nat.le_refl _) (iv_c (by decide)) H locs (hP.sub (ws' := [(a, .inr (6, [.int a__hour, .ref a_purse, .ref a_spot, .ref a_seen, .ref a_has, .ref a_at])), (a_at, .inl (cs 0, 8, .inl a_at_c)), (a_has, .inl (cs 0, 4, .inl a_has_c))]) [0, 1, 2] rfl) (hD.sub (ws' := [(a, .inr (6, [.int a__hour, .ref a_purse, .ref a_spot, .ref a_seen, .ref a_has, .ref a_at])), (a_at, .inl (cs 0, 8, .inl a_at_c)), (a_has, .inl (cs 0, 4, .inl a_has_c))]) [0, 1, 2] (by decide) rfl) hS ls (lv_sub hl [0, 1, 2, 3] rfl)
theorem dX6_copyFrom_0 : decode cX6_copyFrom 0 = .ok (.aload_n 0, 1) := by decide +kernel
theorem dX6_copyFrom_1 : decode cX6_copyFrom 1 = .ok (.aload_n 1, 1) := by decide +kernel
theorem dX6_copyFrom_2 : decode cX6_copyFrom 2 = .ok (.getfield 27, 3) := by decide +kernel
theorem dX6_copyFrom_5 : decode cX6_copyFrom 5 = .ok (.putfield 27, 3) := by decide +kernel
theorem dX6_copyFrom_8 : decode cX6_copyFrom 8 = .ok (.aload_n 1, 1) := by decide +kernel
theorem dX6_copyFrom_9 : decode cX6_copyFrom 9 = .ok (.getfield 9, 3) := by decide +kernel
theorem dX6_copyFrom_12 : decode cX6_copyFrom 12 = .ok (.iconst 0, 1) := by decide +kernel
theorem dX6_copyFrom_13 : decode cX6_copyFrom 13 = .ok (.aload_n 0, 1) := by decide +kernel
theorem dX6_copyFrom_14 : decode cX6_copyFrom 14 = .ok (.getfield 9, 3) := by decide +kernel
theorem dX6_copyFrom_17 : decode cX6_copyFrom 17 = .ok (.iconst 0, 1) := by decide +kernel
theorem dX6_copyFrom_18 : decode cX6_copyFrom 18 = .ok (.iconst 4, 1) := by decide +kernel
theorem dX6_copyFrom_19 : decode cX6_copyFrom 19 = .ok (.invokestatic 31, 3) := by decide +kernel
theorem dX6_copyFrom_22 : decode cX6_copyFrom 22 = .ok (.aload_n 1, 1) := by decide +kernel
theorem dX6_copyFrom_23 : decode cX6_copyFrom 23 = .ok (.getfield 15, 3) := by decide +kernel
theorem dX6_copyFrom_26 : decode cX6_copyFrom 26 = .ok (.iconst 0, 1) := by decide +kernel
theorem dX6_copyFrom_27 : decode cX6_copyFrom 27 = .ok (.aload_n 0, 1) := by decide +kernel
theorem dX6_copyFrom_28 : decode cX6_copyFrom 28 = .ok (.getfield 15, 3) := by decide +kernel
theorem dX6_copyFrom_31 : decode cX6_copyFrom 31 = .ok (.iconst 0, 1) := by decide +kernel
theorem dX6_copyFrom_32 : decode cX6_copyFrom 32 = .ok (.iconst 4, 1) := by decide +kernel
theorem dX6_copyFrom_33 : decode cX6_copyFrom 33 = .ok (.invokestatic 31, 3) := by decide +kernel
theorem dX6_copyFrom_36 : decode cX6_copyFrom 36 = .ok (.aload_n 1, 1) := by decide +kernel
theorem dX6_copyFrom_37 : decode cX6_copyFrom 37 = .ok (.getfield 18, 3) := by decide +kernel
theorem dX6_copyFrom_40 : decode cX6_copyFrom 40 = .ok (.iconst 0, 1) := by decide +kernel
theorem dX6_copyFrom_41 : decode cX6_copyFrom 41 = .ok (.aload_n 0, 1) := by decide +kernel
theorem dX6_copyFrom_42 : decode cX6_copyFrom 42 = .ok (.getfield 18, 3) := by decide +kernel
theorem dX6_copyFrom_45 : decode cX6_copyFrom 45 = .ok (.iconst 0, 1) := by decide +kernel
theorem dX6_copyFrom_46 : decode cX6_copyFrom 46 = .ok (.iconst 4, 1) := by decide +kernel
theorem dX6_copyFrom_47 : decode cX6_copyFrom 47 = .ok (.invokestatic 31, 3) := by decide +kernel
theorem dX6_copyFrom_50 : decode cX6_copyFrom 50 = .ok (.aload_n 1, 1) := by decide +kernel
theorem dX6_copyFrom_51 : decode cX6_copyFrom 51 = .ok (.getfield 21, 3) := by decide +kernel
theorem dX6_copyFrom_54 : decode cX6_copyFrom 54 = .ok (.iconst 0, 1) := by decide +kernel
theorem dX6_copyFrom_55 : decode cX6_copyFrom 55 = .ok (.aload_n 0, 1) := by decide +kernel
theorem dX6_copyFrom_56 : decode cX6_copyFrom 56 = .ok (.getfield 21, 3) := by decide +kernel
theorem dX6_copyFrom_59 : decode cX6_copyFrom 59 = .ok (.iconst 0, 1) := by decide +kernel
theorem dX6_copyFrom_60 : decode cX6_copyFrom 60 = .ok (.iconst 4, 1) := by decide +kernel
theorem dX6_copyFrom_61 : decode cX6_copyFrom 61 = .ok (.invokestatic 31, 3) := by decide +kernel
theorem dX6_copyFrom_64 : decode cX6_copyFrom 64 = .ok (.aload_n 1, 1) := by decide +kernel
theorem dX6_copyFrom_65 : decode cX6_copyFrom 65 = .ok (.getfield 24, 3) := by decide +kernel
theorem dX6_copyFrom_68 : decode cX6_copyFrom 68 = .ok (.iconst 0, 1) := by decide +kernel
theorem dX6_copyFrom_69 : decode cX6_copyFrom 69 = .ok (.aload_n 0, 1) := by decide +kernel
theorem dX6_copyFrom_70 : decode cX6_copyFrom 70 = .ok (.getfield 24, 3) := by decide +kernel
theorem dX6_copyFrom_73 : decode cX6_copyFrom 73 = .ok (.iconst 0, 1) := by decide +kernel
theorem dX6_copyFrom_74 : decode cX6_copyFrom 74 = .ok (.bipush 8, 2) := by decide +kernel
theorem dX6_copyFrom_76 : decode cX6_copyFrom 76 = .ok (.invokestatic 31, 3) := by decide +kernel
theorem dX6_copyFrom_79 : decode cX6_copyFrom 79 = .ok (.return_, 1) := by decide +kernel
set_option maxHeartbeats 4000000 in
set_option maxRecDepth 100000 in
theorem c_X6_copyFrom (l : Launch) (D : va_G) (cs : Nat → ClassId) (kK kV : Nat → Nat) (a : Nat) (b0 : Nat) (b0__hour : Int32) (b0_purse : Nat) (b0_spot : Nat) (b0_seen : Nat) (b0_has : Nat) (b0_at : Nat) (a__hour : Int32) (a_purse : Nat) (a_spot : Nat) (a_seen : Nat) (a_has : Nat) (a_at : Nat) (b0_purse_c : Nat → Int32) (a_purse_c : Nat → Int32) (b0_spot_c : Nat → Int32) (a_spot_c : Nat → Int32) (b0_seen_c : Nat → Int32) (a_seen_c : Nat → Int32) (b0_has_c : Nat → Int32) (a_has_c : Nat → Int32) (b0_at_c : Nat → Int32) (a_at_c : Nat → Int32)  (sz : Nat) : Met l yX6_copyFrom (hz_w yX6_copyFrom cX6_copyFrom 2 none) ({ frames := 1, cells := 0, slots := 0, locals := 200 }) (va_Pc [.ref a, .ref b0] (hz_C D cs kK kV sz [(b0, .inr (6, [.int b0__hour, .ref b0_purse, .ref b0_spot, .ref b0_seen, .ref b0_has, .ref b0_at])), (a, .inr (6, [.int a__hour, .ref a_purse, .ref a_spot, .ref a_seen, .ref a_has, .ref a_at])), (b0_purse, .inl (cs 0, 4, .inl b0_purse_c)), (a_purse, .inl (cs 0, 4, .inl a_purse_c)), (b0_spot, .inl (cs 0, 4, .inl b0_spot_c)), (a_spot, .inl (cs 0, 4, .inl a_spot_c)), (b0_seen, .inl (cs 0, 4, .inl b0_seen_c)), (a_seen, .inl (cs 0, 4, .inl a_seen_c)), (b0_has, .inl (cs 0, 4, .inl b0_has_c)), (a_has, .inl (cs 0, 4, .inl a_has_c)), (b0_at, .inl (cs 0, 8, .inl b0_at_c)), (a_at, .inl (cs 0, 8, .inl a_at_c))])) (va_Qv (fun (_ : Unit) => True) (fun _ t => ∃ (o_a_0 : Int32), ∃ (o_a_at_c : Nat → Int32), ∃ (o_a_has_c : Nat → Int32), ∃ (o_a_purse_c : Nat → Int32), ∃ (o_a_seen_c : Nat → Int32), ∃ (o_a_spot_c : Nat → Int32), va_P D classes [(b0, .inr (6, [.int b0__hour, .ref b0_purse, .ref b0_spot, .ref b0_seen, .ref b0_has, .ref b0_at])), (a, .inr (6, [.int o_a_0, .ref a_purse, .ref a_spot, .ref a_seen, .ref a_has, .ref a_at])), (b0_purse, .inl (cs 0, 4, .inl b0_purse_c)), (a_purse, .inl (cs 0, 4, .inl o_a_purse_c)), (b0_spot, .inl (cs 0, 4, .inl b0_spot_c)), (a_spot, .inl (cs 0, 4, .inl o_a_spot_c)), (b0_seen, .inl (cs 0, 4, .inl b0_seen_c)), (a_seen, .inl (cs 0, 4, .inl o_a_seen_c)), (b0_has, .inl (cs 0, 4, .inl b0_has_c)), (a_has, .inl (cs 0, 4, .inl o_a_has_c)), (b0_at, .inl (cs 0, 8, .inl b0_at_c)), (a_at, .inl (cs 0, 8, .inl o_a_at_c))] t.heap ∧ va_D (va_A [(b0, .inr (6, [.int b0__hour, .ref b0_purse, .ref b0_spot, .ref b0_seen, .ref b0_has, .ref b0_at])), (a, .inr (6, [.int a__hour, .ref a_purse, .ref a_spot, .ref a_seen, .ref a_has, .ref a_at])), (b0_purse, .inl (cs 0, 4, .inl b0_purse_c)), (a_purse, .inl (cs 0, 4, .inl a_purse_c)), (b0_spot, .inl (cs 0, 4, .inl b0_spot_c)), (a_spot, .inl (cs 0, 4, .inl a_spot_c)), (b0_seen, .inl (cs 0, 4, .inl b0_seen_c)), (a_seen, .inl (cs 0, 4, .inl a_seen_c)), (b0_has, .inl (cs 0, 4, .inl b0_has_c)), (a_has, .inl (cs 0, 4, .inl a_has_c)), (b0_at, .inl (cs 0, 8, .inl b0_at_c)), (a_at, .inl (cs 0, 8, .inl a_at_c))] sz) [(b0, .inr (6, [.int b0__hour, .ref b0_purse, .ref b0_spot, .ref b0_seen, .ref b0_has, .ref b0_at])), (a, .inr (6, [.int o_a_0, .ref a_purse, .ref a_spot, .ref a_seen, .ref a_has, .ref a_at])), (b0_purse, .inl (cs 0, 4, .inl b0_purse_c)), (a_purse, .inl (cs 0, 4, .inl o_a_purse_c)), (b0_spot, .inl (cs 0, 4, .inl b0_spot_c)), (a_spot, .inl (cs 0, 4, .inl o_a_spot_c)), (b0_seen, .inl (cs 0, 4, .inl b0_seen_c)), (a_seen, .inl (cs 0, 4, .inl o_a_seen_c)), (b0_has, .inl (cs 0, 4, .inl b0_has_c)), (a_has, .inl (cs 0, 4, .inl o_a_has_c)), (b0_at, .inl (cs 0, 8, .inl b0_at_c)), (a_at, .inl (cs 0, 8, .inl o_a_at_c))]) (va_A [(b0, .inr (6, [.int b0__hour, .ref b0_purse, .ref b0_spot, .ref b0_seen, .ref b0_has, .ref b0_at])), (a, .inr (6, [.int a__hour, .ref a_purse, .ref a_spot, .ref a_seen, .ref a_has, .ref a_at])), (b0_purse, .inl (cs 0, 4, .inl b0_purse_c)), (a_purse, .inl (cs 0, 4, .inl a_purse_c)), (b0_spot, .inl (cs 0, 4, .inl b0_spot_c)), (a_spot, .inl (cs 0, 4, .inl a_spot_c)), (b0_seen, .inl (cs 0, 4, .inl b0_seen_c)), (a_seen, .inl (cs 0, 4, .inl a_seen_c)), (b0_has, .inl (cs 0, 4, .inl b0_has_c)), (a_has, .inl (cs 0, 4, .inl a_has_c)), (b0_at, .inl (cs 0, 8, .inl b0_at_c)), (a_at, .inl (cs 0, 8, .inl a_at_c))] sz)) 0 0 (va_A [(b0, .inr (6, [.int b0__hour, .ref b0_purse, .ref b0_spot, .ref b0_seen, .ref b0_has, .ref b0_at])), (a, .inr (6, [.int a__hour, .ref a_purse, .ref a_spot, .ref a_seen, .ref a_has, .ref a_at])), (b0_purse, .inl (cs 0, 4, .inl b0_purse_c)), (a_purse, .inl (cs 0, 4, .inl a_purse_c)), (b0_spot, .inl (cs 0, 4, .inl b0_spot_c)), (a_spot, .inl (cs 0, 4, .inl a_spot_c)), (b0_seen, .inl (cs 0, 4, .inl b0_seen_c)), (a_seen, .inl (cs 0, 4, .inl a_seen_c)), (b0_has, .inl (cs 0, 4, .inl b0_has_c)), (a_has, .inl (cs 0, 4, .inl a_has_c)), (b0_at, .inl (cs 0, 8, .inl b0_at_c)), (a_at, .inl (cs 0, 8, .inl a_at_c))] sz) := by
  refine Met.ofW (cc := cX6_copyFrom) (maxL := 2) (ret := none) (by decide) rfl ?_
  intro p e s m args below meth c s₁ B hml hv
  obtain ⟨rfl, hsz, hP, hD0, hE⟩ := hv
  have hx := B.exec
  have hb := B.bytes
  have hr := B.returns
  have hT : ∀ w ∈ TB, w.before _ s = true := fun w h => atoms_spec (ws := hz_w yX6_copyFrom cX6_copyFrom 2 none) B.pre w (List.mem_cons_of_mem _ h)
  have hown : s.vm.findClass RX6 = some m.cls := findClass_of_methodNamed B.named
  have hlocks := B.notSynchronized
  clear B
  subst hsz
  have hD := hD0.self (sz := s.heap.size)
  generalize hAe : va_A [(b0, .inr (6, [.int b0__hour, .ref b0_purse, .ref b0_spot, .ref b0_seen, .ref b0_has, .ref b0_at])), (a, .inr (6, [.int a__hour, .ref a_purse, .ref a_spot, .ref a_seen, .ref a_has, .ref a_at])), (b0_purse, .inl (cs 0, 4, .inl b0_purse_c)), (a_purse, .inl (cs 0, 4, .inl a_purse_c)), (b0_spot, .inl (cs 0, 4, .inl b0_spot_c)), (a_spot, .inl (cs 0, 4, .inl a_spot_c)), (b0_seen, .inl (cs 0, 4, .inl b0_seen_c)), (a_seen, .inl (cs 0, 4, .inl a_seen_c)), (b0_has, .inl (cs 0, 4, .inl b0_has_c)), (a_has, .inl (cs 0, 4, .inl a_has_c)), (b0_at, .inl (cs 0, 8, .inl b0_at_c)), (a_at, .inl (cs 0, 8, .inl a_at_c))] s.heap.size = A at hD hE ⊢
  have hA : ∀ q : Nat, s.heap.size ≤ q → A q := fun q h => by rw [← hAe]; exact Or.inr h
  clear hAe hD0
  have hS : va_S A s.heap s.heap [] := va_S.rf
  have hK := hE.1
  have hl := lv_entry ([.ref a, .ref b0]) (n := 2) (Nat.le_of_ble_eq_true rfl)
  rw [lg_entry_eq]
  generalize (lg_sl ([.ref a, .ref b0]) ++ List.replicate (2 - (lg_sl ([.ref a, .ref b0])).length) Slot.unset).toArray = ls at hl ⊢
  have hl : lv_has ls 2 [(0, .ref a), (1, .ref b0)] := hl
  obtain ⟨H, eH⟩ : ∃ z, z = s.heap := ⟨_, rfl⟩
  have hP : va_P D classes [(b0, .inr (6, [.int b0__hour, .ref b0_purse, .ref b0_spot, .ref b0_seen, .ref b0_has, .ref b0_at])), (a, .inr (6, [.int a__hour, .ref a_purse, .ref a_spot, .ref a_seen, .ref a_has, .ref a_at])), (b0_purse, .inl (cs 0, 4, .inl b0_purse_c)), (a_purse, .inl (cs 0, 4, .inl a_purse_c)), (b0_spot, .inl (cs 0, 4, .inl b0_spot_c)), (a_spot, .inl (cs 0, 4, .inl a_spot_c)), (b0_seen, .inl (cs 0, 4, .inl b0_seen_c)), (a_seen, .inl (cs 0, 4, .inl a_seen_c)), (b0_has, .inl (cs 0, 4, .inl b0_has_c)), (a_has, .inl (cs 0, 4, .inl a_has_c)), (b0_at, .inl (cs 0, 8, .inl b0_at_c)), (a_at, .inl (cs 0, 8, .inl a_at_c))] H := by rw [eH]; exact hP
  have hS : va_S A s.heap H [] := by rw [eH]; exact hS
  rw [← eH]
  clear eH
  obtain ⟨locs, el⟩ : ∃ z : List Loc, z = [] := ⟨_, rfl⟩
  rw [← el] at hS ⊢
  clear el
  refine lv_aload_n hx hb dX6_copyFrom_0 rfl (lv_at hl 0 rfl) ?_
  refine lv_aload_n hx hb dX6_copyFrom_1 rfl (lv_at hl 1 rfl) ?_
  refine va_get (D := D) (ci := 6) (v := .int b0__hour) (C := RX6) (T := TX6) (N := 6) hx hb hT i_X6 hown hK hP 0 rfl rfl 0 (by decide) (hT _ q_119) (fun _ h9 => h9) rfl dX6_copyFrom_2 ?_
  refine va_put (D := D) (ci := 6) (v := .int b0__hour) (ty := .int) (C := RX6) (T := TX6) (N := 6) hx hb hT i_X6 tyX6 tyX6_ok nmX6 hown hK hP hD hS 1 rfl rfl 0 (by decide) (hT _ q_119) (fun _ h9 => h9) rfl (by decide +kernel) rfl rfl (Nat.le_of_ble_eq_true rfl) dX6_copyFrom_5 (fun H locs hP hD hS => ?_)
  have hP : va_P D classes [(b0, .inr (6, [.int b0__hour, .ref b0_purse, .ref b0_spot, .ref b0_seen, .ref b0_has, .ref b0_at])), (a, .inr (6, [.int b0__hour, .ref a_purse, .ref a_spot, .ref a_seen, .ref a_has, .ref a_at])), (b0_purse, .inl (cs 0, 4, .inl b0_purse_c)), (a_purse, .inl (cs 0, 4, .inl a_purse_c)), (b0_spot, .inl (cs 0, 4, .inl b0_spot_c)), (a_spot, .inl (cs 0, 4, .inl a_spot_c)), (b0_seen, .inl (cs 0, 4, .inl b0_seen_c)), (a_seen, .inl (cs 0, 4, .inl a_seen_c)), (b0_has, .inl (cs 0, 4, .inl b0_has_c)), (a_has, .inl (cs 0, 4, .inl a_has_c)), (b0_at, .inl (cs 0, 8, .inl b0_at_c)), (a_at, .inl (cs 0, 8, .inl a_at_c))] H := hP
  have hD : va_D A [(b0, .inr (6, [.int b0__hour, .ref b0_purse, .ref b0_spot, .ref b0_seen, .ref b0_has, .ref b0_at])), (a, .inr (6, [.int b0__hour, .ref a_purse, .ref a_spot, .ref a_seen, .ref a_has, .ref a_at])), (b0_purse, .inl (cs 0, 4, .inl b0_purse_c)), (a_purse, .inl (cs 0, 4, .inl a_purse_c)), (b0_spot, .inl (cs 0, 4, .inl b0_spot_c)), (a_spot, .inl (cs 0, 4, .inl a_spot_c)), (b0_seen, .inl (cs 0, 4, .inl b0_seen_c)), (a_seen, .inl (cs 0, 4, .inl a_seen_c)), (b0_has, .inl (cs 0, 4, .inl b0_has_c)), (a_has, .inl (cs 0, 4, .inl a_has_c)), (b0_at, .inl (cs 0, 8, .inl b0_at_c)), (a_at, .inl (cs 0, 8, .inl a_at_c))] := hD
  refine lv_aload_n hx hb dX6_copyFrom_8 rfl (lv_at hl 1 rfl) ?_
  refine va_get (D := D) (ci := 6) (v := .ref b0_purse) (C := RX6) (T := TX6) (N := 6) hx hb hT i_X6 hown hK hP 0 rfl rfl 1 (by decide) (hT _ q_114) (fun _ h9 => h9) rfl dX6_copyFrom_9 ?_
  refine lv_iconst (v := 0) hx hb dX6_copyFrom_12 (by decide) ?_
  refine lv_aload_n hx hb dX6_copyFrom_13 rfl (lv_at hl 0 rfl) ?_
  refine va_get (D := D) (ci := 6) (v := .ref a_purse) (C := RX6) (T := TX6) (N := 6) hx hb hT i_X6 hown hK hP 1 rfl rfl 1 (by decide) (hT _ q_114) (fun _ h9 => h9) rfl dX6_copyFrom_14 ?_
  refine lv_iconst (v := 0) hx hb dX6_copyFrom_17 (by decide) ?_
  refine lv_iconst (v := 4) hx hb dX6_copyFrom_18 (by decide) ?_
  refine va_copyi (ty := .int) hx hb (hml.trans hl.1.symm) hown (hT _ q_1435) (hT _ q_1437) (hT _ q_1438) (hT _ q_1439) hK hP hD hS 2 3 0 0 rfl rfl rfl rfl rfl (by decide) (by decide) (by decide) (by decide) (by decide) (fun _ _ => rfl) (Nat.le_of_ble_eq_true rfl) (Nat.le_of_ble_eq_true rfl) dX6_copyFrom_19 (fun H locs hP hD hS => ?_)
  have hP : va_P D classes [(b0, .inr (6, [.int b0__hour, .ref b0_purse, .ref b0_spot, .ref b0_seen, .ref b0_has, .ref b0_at])), (a, .inr (6, [.int b0__hour, .ref a_purse, .ref a_spot, .ref a_seen, .ref a_has, .ref a_at])), (b0_purse, .inl (cs 0, 4, .inl b0_purse_c)), (a_purse, .inl (cs 0, 4, .inl (va_cpy (α := Int32) b0_purse_c a_purse_c (Int32.toNatClampNeg 0) (Int32.toNatClampNeg 0) (Int32.toNatClampNeg 4)))), (b0_spot, .inl (cs 0, 4, .inl b0_spot_c)), (a_spot, .inl (cs 0, 4, .inl a_spot_c)), (b0_seen, .inl (cs 0, 4, .inl b0_seen_c)), (a_seen, .inl (cs 0, 4, .inl a_seen_c)), (b0_has, .inl (cs 0, 4, .inl b0_has_c)), (a_has, .inl (cs 0, 4, .inl a_has_c)), (b0_at, .inl (cs 0, 8, .inl b0_at_c)), (a_at, .inl (cs 0, 8, .inl a_at_c))] H := hP
  have hD : va_D A [(b0, .inr (6, [.int b0__hour, .ref b0_purse, .ref b0_spot, .ref b0_seen, .ref b0_has, .ref b0_at])), (a, .inr (6, [.int b0__hour, .ref a_purse, .ref a_spot, .ref a_seen, .ref a_has, .ref a_at])), (b0_purse, .inl (cs 0, 4, .inl b0_purse_c)), (a_purse, .inl (cs 0, 4, .inl (va_cpy (α := Int32) b0_purse_c a_purse_c (Int32.toNatClampNeg 0) (Int32.toNatClampNeg 0) (Int32.toNatClampNeg 4)))), (b0_spot, .inl (cs 0, 4, .inl b0_spot_c)), (a_spot, .inl (cs 0, 4, .inl a_spot_c)), (b0_seen, .inl (cs 0, 4, .inl b0_seen_c)), (a_seen, .inl (cs 0, 4, .inl a_seen_c)), (b0_has, .inl (cs 0, 4, .inl b0_has_c)), (a_has, .inl (cs 0, 4, .inl a_has_c)), (b0_at, .inl (cs 0, 8, .inl b0_at_c)), (a_at, .inl (cs 0, 8, .inl a_at_c))] := hD
  generalize va_cpy (α := Int32) b0_purse_c a_purse_c (Int32.toNatClampNeg 0) (Int32.toNatClampNeg 0) (Int32.toNatClampNeg 4) = f1 at hP hD
  refine lv_aload_n hx hb dX6_copyFrom_22 rfl (lv_at hl 1 rfl) ?_
  refine va_get (D := D) (ci := 6) (v := .ref b0_spot) (C := RX6) (T := TX6) (N := 6) hx hb hT i_X6 hown hK hP 0 rfl rfl 2 (by decide) (hT _ q_115) (fun _ h9 => h9) rfl dX6_copyFrom_23 ?_
  refine lv_iconst (v := 0) hx hb dX6_copyFrom_26 (by decide) ?_
  refine lv_aload_n hx hb dX6_copyFrom_27 rfl (lv_at hl 0 rfl) ?_
  refine va_get (D := D) (ci := 6) (v := .ref a_spot) (C := RX6) (T := TX6) (N := 6) hx hb hT i_X6 hown hK hP 1 rfl rfl 2 (by decide) (hT _ q_115) (fun _ h9 => h9) rfl dX6_copyFrom_28 ?_
  refine lv_iconst (v := 0) hx hb dX6_copyFrom_31 (by decide) ?_
  refine lv_iconst (v := 4) hx hb dX6_copyFrom_32 (by decide) ?_
  refine va_copyi (ty := .int) hx hb (hml.trans hl.1.symm) hown (hT _ q_1435) (hT _ q_1437) (hT _ q_1438) (hT _ q_1439) hK hP hD hS 4 5 0 0 rfl rfl rfl rfl rfl (by decide) (by decide) (by decide) (by decide) (by decide) (fun _ _ => rfl) (Nat.le_of_ble_eq_true rfl) (Nat.le_of_ble_eq_true rfl) dX6_copyFrom_33 (fun H locs hP hD hS => ?_)
  have hP : va_P D classes [(b0, .inr (6, [.int b0__hour, .ref b0_purse, .ref b0_spot, .ref b0_seen, .ref b0_has, .ref b0_at])), (a, .inr (6, [.int b0__hour, .ref a_purse, .ref a_spot, .ref a_seen, .ref a_has, .ref a_at])), (b0_purse, .inl (cs 0, 4, .inl b0_purse_c)), (a_purse, .inl (cs 0, 4, .inl f1)), (b0_spot, .inl (cs 0, 4, .inl b0_spot_c)), (a_spot, .inl (cs 0, 4, .inl (va_cpy (α := Int32) b0_spot_c a_spot_c (Int32.toNatClampNeg 0) (Int32.toNatClampNeg 0) (Int32.toNatClampNeg 4)))), (b0_seen, .inl (cs 0, 4, .inl b0_seen_c)), (a_seen, .inl (cs 0, 4, .inl a_seen_c)), (b0_has, .inl (cs 0, 4, .inl b0_has_c)), (a_has, .inl (cs 0, 4, .inl a_has_c)), (b0_at, .inl (cs 0, 8, .inl b0_at_c)), (a_at, .inl (cs 0, 8, .inl a_at_c))] H := hP
  have hD : va_D A [(b0, .inr (6, [.int b0__hour, .ref b0_purse, .ref b0_spot, .ref b0_seen, .ref b0_has, .ref b0_at])), (a, .inr (6, [.int b0__hour, .ref a_purse, .ref a_spot, .ref a_seen, .ref a_has, .ref a_at])), (b0_purse, .inl (cs 0, 4, .inl b0_purse_c)), (a_purse, .inl (cs 0, 4, .inl f1)), (b0_spot, .inl (cs 0, 4, .inl b0_spot_c)), (a_spot, .inl (cs 0, 4, .inl (va_cpy (α := Int32) b0_spot_c a_spot_c (Int32.toNatClampNeg 0) (Int32.toNatClampNeg 0) (Int32.toNatClampNeg 4)))), (b0_seen, .inl (cs 0, 4, .inl b0_seen_c)), (a_seen, .inl (cs 0, 4, .inl a_seen_c)), (b0_has, .inl (cs 0, 4, .inl b0_has_c)), (a_has, .inl (cs 0, 4, .inl a_has_c)), (b0_at, .inl (cs 0, 8, .inl b0_at_c)), (a_at, .inl (cs 0, 8, .inl a_at_c))] := hD
  generalize va_cpy (α := Int32) b0_spot_c a_spot_c (Int32.toNatClampNeg 0) (Int32.toNatClampNeg 0) (Int32.toNatClampNeg 4) = f2 at hP hD
  refine lv_aload_n hx hb dX6_copyFrom_36 rfl (lv_at hl 1 rfl) ?_
  refine va_get (D := D) (ci := 6) (v := .ref b0_seen) (C := RX6) (T := TX6) (N := 6) hx hb hT i_X6 hown hK hP 0 rfl rfl 3 (by decide) (hT _ q_116) (fun _ h9 => h9) rfl dX6_copyFrom_37 ?_
  refine lv_iconst (v := 0) hx hb dX6_copyFrom_40 (by decide) ?_
  refine lv_aload_n hx hb dX6_copyFrom_41 rfl (lv_at hl 0 rfl) ?_
  refine va_get (D := D) (ci := 6) (v := .ref a_seen) (C := RX6) (T := TX6) (N := 6) hx hb hT i_X6 hown hK hP 1 rfl rfl 3 (by decide) (hT _ q_116) (fun _ h9 => h9) rfl dX6_copyFrom_42 ?_
  refine lv_iconst (v := 0) hx hb dX6_copyFrom_45 (by decide) ?_
  refine lv_iconst (v := 4) hx hb dX6_copyFrom_46 (by decide) ?_
  refine va_copyi (ty := .int) hx hb (hml.trans hl.1.symm) hown (hT _ q_1435) (hT _ q_1437) (hT _ q_1438) (hT _ q_1439) hK hP hD hS 6 7 0 0 rfl rfl rfl rfl rfl (by decide) (by decide) (by decide) (by decide) (by decide) (fun _ _ => rfl) (Nat.le_of_ble_eq_true rfl) (Nat.le_of_ble_eq_true rfl) dX6_copyFrom_47 (fun H locs hP hD hS => ?_)
  have hP : va_P D classes [(b0, .inr (6, [.int b0__hour, .ref b0_purse, .ref b0_spot, .ref b0_seen, .ref b0_has, .ref b0_at])), (a, .inr (6, [.int b0__hour, .ref a_purse, .ref a_spot, .ref a_seen, .ref a_has, .ref a_at])), (b0_purse, .inl (cs 0, 4, .inl b0_purse_c)), (a_purse, .inl (cs 0, 4, .inl f1)), (b0_spot, .inl (cs 0, 4, .inl b0_spot_c)), (a_spot, .inl (cs 0, 4, .inl f2)), (b0_seen, .inl (cs 0, 4, .inl b0_seen_c)), (a_seen, .inl (cs 0, 4, .inl (va_cpy (α := Int32) b0_seen_c a_seen_c (Int32.toNatClampNeg 0) (Int32.toNatClampNeg 0) (Int32.toNatClampNeg 4)))), (b0_has, .inl (cs 0, 4, .inl b0_has_c)), (a_has, .inl (cs 0, 4, .inl a_has_c)), (b0_at, .inl (cs 0, 8, .inl b0_at_c)), (a_at, .inl (cs 0, 8, .inl a_at_c))] H := hP
  have hD : va_D A [(b0, .inr (6, [.int b0__hour, .ref b0_purse, .ref b0_spot, .ref b0_seen, .ref b0_has, .ref b0_at])), (a, .inr (6, [.int b0__hour, .ref a_purse, .ref a_spot, .ref a_seen, .ref a_has, .ref a_at])), (b0_purse, .inl (cs 0, 4, .inl b0_purse_c)), (a_purse, .inl (cs 0, 4, .inl f1)), (b0_spot, .inl (cs 0, 4, .inl b0_spot_c)), (a_spot, .inl (cs 0, 4, .inl f2)), (b0_seen, .inl (cs 0, 4, .inl b0_seen_c)), (a_seen, .inl (cs 0, 4, .inl (va_cpy (α := Int32) b0_seen_c a_seen_c (Int32.toNatClampNeg 0) (Int32.toNatClampNeg 0) (Int32.toNatClampNeg 4)))), (b0_has, .inl (cs 0, 4, .inl b0_has_c)), (a_has, .inl (cs 0, 4, .inl a_has_c)), (b0_at, .inl (cs 0, 8, .inl b0_at_c)), (a_at, .inl (cs 0, 8, .inl a_at_c))] := hD
  generalize va_cpy (α := Int32) b0_seen_c a_seen_c (Int32.toNatClampNeg 0) (Int32.toNatClampNeg 0) (Int32.toNatClampNeg 4) = f3 at hP hD
  refine lv_aload_n hx hb dX6_copyFrom_50 rfl (lv_at hl 1 rfl) ?_
  refine va_get (D := D) (ci := 6) (v := .ref b0_has) (C := RX6) (T := TX6) (N := 6) hx hb hT i_X6 hown hK hP 0 rfl rfl 4 (by decide) (hT _ q_117) (fun _ h9 => h9) rfl dX6_copyFrom_51 ?_
  refine lv_iconst (v := 0) hx hb dX6_copyFrom_54 (by decide) ?_
  refine lv_aload_n hx hb dX6_copyFrom_55 rfl (lv_at hl 0 rfl) ?_
  refine va_get (D := D) (ci := 6) (v := .ref a_has) (C := RX6) (T := TX6) (N := 6) hx hb hT i_X6 hown hK hP 1 rfl rfl 4 (by decide) (hT _ q_117) (fun _ h9 => h9) rfl dX6_copyFrom_56 ?_
  refine lv_iconst (v := 0) hx hb dX6_copyFrom_59 (by decide) ?_
  refine lv_iconst (v := 4) hx hb dX6_copyFrom_60 (by decide) ?_
  refine va_copyi (ty := .int) hx hb (hml.trans hl.1.symm) hown (hT _ q_1435) (hT _ q_1437) (hT _ q_1438) (hT _ q_1439) hK hP hD hS 8 9 0 0 rfl rfl rfl rfl rfl (by decide) (by decide) (by decide) (by decide) (by decide) (fun _ _ => rfl) (Nat.le_of_ble_eq_true rfl) (Nat.le_of_ble_eq_true rfl) dX6_copyFrom_61 (fun H locs hP hD hS => ?_)
  have hP : va_P D classes [(b0, .inr (6, [.int b0__hour, .ref b0_purse, .ref b0_spot, .ref b0_seen, .ref b0_has, .ref b0_at])), (a, .inr (6, [.int b0__hour, .ref a_purse, .ref a_spot, .ref a_seen, .ref a_has, .ref a_at])), (b0_purse, .inl (cs 0, 4, .inl b0_purse_c)), (a_purse, .inl (cs 0, 4, .inl f1)), (b0_spot, .inl (cs 0, 4, .inl b0_spot_c)), (a_spot, .inl (cs 0, 4, .inl f2)), (b0_seen, .inl (cs 0, 4, .inl b0_seen_c)), (a_seen, .inl (cs 0, 4, .inl f3)), (b0_has, .inl (cs 0, 4, .inl b0_has_c)), (a_has, .inl (cs 0, 4, .inl (va_cpy (α := Int32) b0_has_c a_has_c (Int32.toNatClampNeg 0) (Int32.toNatClampNeg 0) (Int32.toNatClampNeg 4)))), (b0_at, .inl (cs 0, 8, .inl b0_at_c)), (a_at, .inl (cs 0, 8, .inl a_at_c))] H := hP
  have hD : va_D A [(b0, .inr (6, [.int b0__hour, .ref b0_purse, .ref b0_spot, .ref b0_seen, .ref b0_has, .ref b0_at])), (a, .inr (6, [.int b0__hour, .ref a_purse, .ref a_spot, .ref a_seen, .ref a_has, .ref a_at])), (b0_purse, .inl (cs 0, 4, .inl b0_purse_c)), (a_purse, .inl (cs 0, 4, .inl f1)), (b0_spot, .inl (cs 0, 4, .inl b0_spot_c)), (a_spot, .inl (cs 0, 4, .inl f2)), (b0_seen, .inl (cs 0, 4, .inl b0_seen_c)), (a_seen, .inl (cs 0, 4, .inl f3)), (b0_has, .inl (cs 0, 4, .inl b0_has_c)), (a_has, .inl (cs 0, 4, .inl (va_cpy (α := Int32) b0_has_c a_has_c (Int32.toNatClampNeg 0) (Int32.toNatClampNeg 0) (Int32.toNatClampNeg 4)))), (b0_at, .inl (cs 0, 8, .inl b0_at_c)), (a_at, .inl (cs 0, 8, .inl a_at_c))] := hD
  generalize va_cpy (α := Int32) b0_has_c a_has_c (Int32.toNatClampNeg 0) (Int32.toNatClampNeg 0) (Int32.toNatClampNeg 4) = f4 at hP hD
  refine lv_aload_n hx hb dX6_copyFrom_64 rfl (lv_at hl 1 rfl) ?_
  refine va_get (D := D) (ci := 6) (v := .ref b0_at) (C := RX6) (T := TX6) (N := 6) hx hb hT i_X6 hown hK hP 0 rfl rfl 5 (by decide) (hT _ q_118) (fun _ h9 => h9) rfl dX6_copyFrom_65 ?_
  refine lv_iconst (v := 0) hx hb dX6_copyFrom_68 (by decide) ?_
  refine lv_aload_n hx hb dX6_copyFrom_69 rfl (lv_at hl 0 rfl) ?_
  refine va_get (D := D) (ci := 6) (v := .ref a_at) (C := RX6) (T := TX6) (N := 6) hx hb hT i_X6 hown hK hP 1 rfl rfl 5 (by decide) (hT _ q_118) (fun _ h9 => h9) rfl dX6_copyFrom_70 ?_
  refine lv_iconst (v := 0) hx hb dX6_copyFrom_73 (by decide) ?_
  refine lv_bipush (v := 8) hx hb dX6_copyFrom_74 (by decide) ?_
  refine va_copyi (ty := .int) hx hb (hml.trans hl.1.symm) hown (hT _ q_1435) (hT _ q_1437) (hT _ q_1438) (hT _ q_1439) hK hP hD hS 10 11 0 0 rfl rfl rfl rfl rfl (by decide) (by decide) (by decide) (by decide) (by decide) (fun _ _ => rfl) (Nat.le_of_ble_eq_true rfl) (Nat.le_of_ble_eq_true rfl) dX6_copyFrom_76 (fun H locs hP hD hS => ?_)
  have hP : va_P D classes [(b0, .inr (6, [.int b0__hour, .ref b0_purse, .ref b0_spot, .ref b0_seen, .ref b0_has, .ref b0_at])), (a, .inr (6, [.int b0__hour, .ref a_purse, .ref a_spot, .ref a_seen, .ref a_has, .ref a_at])), (b0_purse, .inl (cs 0, 4, .inl b0_purse_c)), (a_purse, .inl (cs 0, 4, .inl f1)), (b0_spot, .inl (cs 0, 4, .inl b0_spot_c)), (a_spot, .inl (cs 0, 4, .inl f2)), (b0_seen, .inl (cs 0, 4, .inl b0_seen_c)), (a_seen, .inl (cs 0, 4, .inl f3)), (b0_has, .inl (cs 0, 4, .inl b0_has_c)), (a_has, .inl (cs 0, 4, .inl f4)), (b0_at, .inl (cs 0, 8, .inl b0_at_c)), (a_at, .inl (cs 0, 8, .inl (va_cpy (α := Int32) b0_at_c a_at_c (Int32.toNatClampNeg 0) (Int32.toNatClampNeg 0) (Int32.toNatClampNeg 8))))] H := hP
  have hD : va_D A [(b0, .inr (6, [.int b0__hour, .ref b0_purse, .ref b0_spot, .ref b0_seen, .ref b0_has, .ref b0_at])), (a, .inr (6, [.int b0__hour, .ref a_purse, .ref a_spot, .ref a_seen, .ref a_has, .ref a_at])), (b0_purse, .inl (cs 0, 4, .inl b0_purse_c)), (a_purse, .inl (cs 0, 4, .inl f1)), (b0_spot, .inl (cs 0, 4, .inl b0_spot_c)), (a_spot, .inl (cs 0, 4, .inl f2)), (b0_seen, .inl (cs 0, 4, .inl b0_seen_c)), (a_seen, .inl (cs 0, 4, .inl f3)), (b0_has, .inl (cs 0, 4, .inl b0_has_c)), (a_has, .inl (cs 0, 4, .inl f4)), (b0_at, .inl (cs 0, 8, .inl b0_at_c)), (a_at, .inl (cs 0, 8, .inl (va_cpy (α := Int32) b0_at_c a_at_c (Int32.toNatClampNeg 0) (Int32.toNatClampNeg 0) (Int32.toNatClampNeg 8))))] := hD
  generalize va_cpy (α := Int32) b0_at_c a_at_c (Int32.toNatClampNeg 0) (Int32.toNatClampNeg 0) (Int32.toNatClampNeg 8) = f5 at hP hD
  refine W.widen (k := 0) (n := 0) (Nat.le_of_ble_eq_true rfl) (Nat.le_of_ble_eq_true rfl) ?_
  exact W.vret hx hb hr (fun t ht hW => ⟨⟨(), rfl, trivial, b0__hour, f5, f4, f1, f3, f2, by rw [ht]; exact hP.sub [0, 1, 2, 3, 4, 5, 6, 7, 8, 9, 10, 11] rfl, hD.sub [0, 1, 2, 3, 4, 5, 6, 7, 8, 9, 10, 11] (by decide) rfl⟩, hS.F ht⟩) hS.2.2 dX6_copyFrom_79
theorem dX6_look_0 : decode cX6_look 0 = .ok (.iconst 0, 1) := by decide +kernel
theorem dX6_look_1 : decode cX6_look 1 = .ok (.istore_n 2, 1) := by decide +kernel
theorem dX6_look_2 : decode cX6_look 2 = .ok (.iload_n 2, 1) := by decide +kernel
theorem dX6_look_3 : decode cX6_look 3 = .ok (.aload_n 1, 1) := by decide +kernel
theorem dX6_look_4 : decode cX6_look 4 = .ok (.getfield 57, 3) := by decide +kernel
theorem dX6_look_7 : decode cX6_look 7 = .ok (.if_icmp .ge 37, 3) := by decide +kernel
theorem dX6_look_10 : decode cX6_look 10 = .ok (.aload_n 0, 1) := by decide +kernel
theorem dX6_look_11 : decode cX6_look 11 = .ok (.getfield 18, 3) := by decide +kernel
theorem dX6_look_14 : decode cX6_look 14 = .ok (.iload_n 2, 1) := by decide +kernel
theorem dX6_look_15 : decode cX6_look 15 = .ok (.dup2, 1) := by decide +kernel
theorem dX6_look_16 : decode cX6_look 16 = .ok (.iaload, 1) := by decide +kernel
theorem dX6_look_17 : decode cX6_look 17 = .ok (.aload_n 0, 1) := by decide +kernel
theorem dX6_look_18 : decode cX6_look 18 = .ok (.getfield 24, 3) := by decide +kernel
theorem dX6_look_21 : decode cX6_look 21 = .ok (.aload_n 1, 1) := by decide +kernel
theorem dX6_look_22 : decode cX6_look 22 = .ok (.aload_n 0, 1) := by decide +kernel
theorem dX6_look_23 : decode cX6_look 23 = .ok (.getfield 15, 3) := by decide +kernel
theorem dX6_look_26 : decode cX6_look 26 = .ok (.iload_n 2, 1) := by decide +kernel
theorem dX6_look_27 : decode cX6_look 27 = .ok (.iaload, 1) := by decide +kernel
theorem dX6_look_28 : decode cX6_look 28 = .ok (.aload_n 0, 1) := by decide +kernel
theorem dX6_look_29 : decode cX6_look 29 = .ok (.getfield 27, 3) := by decide +kernel
theorem dX6_look_32 : decode cX6_look 32 = .ok (.invokevirtual 60, 3) := by decide +kernel
theorem dX6_look_35 : decode cX6_look 35 = .ok (.iaload, 1) := by decide +kernel
theorem dX6_look_36 : decode cX6_look 36 = .ok (.ior, 1) := by decide +kernel
theorem dX6_look_37 : decode cX6_look 37 = .ok (.iastore, 1) := by decide +kernel
theorem dX6_look_38 : decode cX6_look 38 = .ok (.iinc 2 1, 3) := by decide +kernel
theorem dX6_look_41 : decode cX6_look 41 = .ok (.goto (-39), 3) := by decide +kernel
theorem dX6_look_44 : decode cX6_look 44 = .ok (.return_, 1) := by decide +kernel
set_option maxHeartbeats 4000000 in
set_option maxRecDepth 100000 in
theorem c_X6_look (l : Launch) (D : va_G) (cs : Nat → ClassId) (kK kV : Nat → Nat) (a : Nat) (b0 : Nat) (b0__stalls : Int32) (b0__shift : Int32) (b0__halves : Int32) (b0__buyers : Int32) (b0__near : Int32) (b0__dusk : Int32) (b0__duskPrice : Int32) (b0__hear : Int32) (b0__forged : Int32) (b0_stall : Nat) (b0_shape : Nat) (b0_side : Nat) (b0_price : Nat) (b0_purse : Nat) (b0_spot : Nat) (b0_club : Nat) (b0_fitting : Nat) (b0_nearly : Nat) (a__hour : Int32) (a_purse : Nat) (a_spot : Nat) (a_seen : Nat) (a_has : Nat) (a_at : Nat) (a_seen_c : Nat → Int32) (a_spot_c : Nat → Int32) (a_at_c : Nat → Int32) (h_b0__stalls : IV 0 8 b0__stalls) (h_b0__buyers : IV 0 4 b0__buyers) (sz : Nat) : Met l yX6_look (hz_w yX6_look cX6_look 3 none) ({ frames := 2, cells := 0, slots := 0, locals := 44 }) (va_Pc [.ref a, .ref b0] (hz_C D cs kK kV sz [(b0, .inr (8, [.int b0__stalls, .int b0__shift, .int b0__halves, .int b0__buyers, .int b0__near, .int b0__dusk, .int b0__duskPrice, .int b0__hear, .int b0__forged, .ref b0_stall, .ref b0_shape, .ref b0_side, .ref b0_price, .ref b0_purse, .ref b0_spot, .ref b0_club, .ref b0_fitting, .ref b0_nearly])), (a, .inr (6, [.int a__hour, .ref a_purse, .ref a_spot, .ref a_seen, .ref a_has, .ref a_at])), (a_seen, .inl (cs 0, 4, .inl a_seen_c)), (a_spot, .inl (cs 0, 4, .inl a_spot_c)), (a_at, .inl (cs 0, 8, .inl a_at_c))])) (va_Qv (fun (_ : Unit) => True) (fun _ t => ∃ (o_a_seen_c : Nat → Int32), va_P D classes [(b0, .inr (8, [.int b0__stalls, .int b0__shift, .int b0__halves, .int b0__buyers, .int b0__near, .int b0__dusk, .int b0__duskPrice, .int b0__hear, .int b0__forged, .ref b0_stall, .ref b0_shape, .ref b0_side, .ref b0_price, .ref b0_purse, .ref b0_spot, .ref b0_club, .ref b0_fitting, .ref b0_nearly])), (a, .inr (6, [.int a__hour, .ref a_purse, .ref a_spot, .ref a_seen, .ref a_has, .ref a_at])), (a_seen, .inl (cs 0, 4, .inl o_a_seen_c)), (a_spot, .inl (cs 0, 4, .inl a_spot_c)), (a_at, .inl (cs 0, 8, .inl a_at_c))] t.heap ∧ va_D (va_A [(b0, .inr (8, [.int b0__stalls, .int b0__shift, .int b0__halves, .int b0__buyers, .int b0__near, .int b0__dusk, .int b0__duskPrice, .int b0__hear, .int b0__forged, .ref b0_stall, .ref b0_shape, .ref b0_side, .ref b0_price, .ref b0_purse, .ref b0_spot, .ref b0_club, .ref b0_fitting, .ref b0_nearly])), (a, .inr (6, [.int a__hour, .ref a_purse, .ref a_spot, .ref a_seen, .ref a_has, .ref a_at])), (a_seen, .inl (cs 0, 4, .inl a_seen_c)), (a_spot, .inl (cs 0, 4, .inl a_spot_c)), (a_at, .inl (cs 0, 8, .inl a_at_c))] sz) [(b0, .inr (8, [.int b0__stalls, .int b0__shift, .int b0__halves, .int b0__buyers, .int b0__near, .int b0__dusk, .int b0__duskPrice, .int b0__hear, .int b0__forged, .ref b0_stall, .ref b0_shape, .ref b0_side, .ref b0_price, .ref b0_purse, .ref b0_spot, .ref b0_club, .ref b0_fitting, .ref b0_nearly])), (a, .inr (6, [.int a__hour, .ref a_purse, .ref a_spot, .ref a_seen, .ref a_has, .ref a_at])), (a_seen, .inl (cs 0, 4, .inl o_a_seen_c)), (a_spot, .inl (cs 0, 4, .inl a_spot_c)), (a_at, .inl (cs 0, 8, .inl a_at_c))]) (va_A [(b0, .inr (8, [.int b0__stalls, .int b0__shift, .int b0__halves, .int b0__buyers, .int b0__near, .int b0__dusk, .int b0__duskPrice, .int b0__hear, .int b0__forged, .ref b0_stall, .ref b0_shape, .ref b0_side, .ref b0_price, .ref b0_purse, .ref b0_spot, .ref b0_club, .ref b0_fitting, .ref b0_nearly])), (a, .inr (6, [.int a__hour, .ref a_purse, .ref a_spot, .ref a_seen, .ref a_has, .ref a_at])), (a_seen, .inl (cs 0, 4, .inl a_seen_c)), (a_spot, .inl (cs 0, 4, .inl a_spot_c)), (a_at, .inl (cs 0, 8, .inl a_at_c))] sz)) 0 0 (va_A [(b0, .inr (8, [.int b0__stalls, .int b0__shift, .int b0__halves, .int b0__buyers, .int b0__near, .int b0__dusk, .int b0__duskPrice, .int b0__hear, .int b0__forged, .ref b0_stall, .ref b0_shape, .ref b0_side, .ref b0_price, .ref b0_purse, .ref b0_spot, .ref b0_club, .ref b0_fitting, .ref b0_nearly])), (a, .inr (6, [.int a__hour, .ref a_purse, .ref a_spot, .ref a_seen, .ref a_has, .ref a_at])), (a_seen, .inl (cs 0, 4, .inl a_seen_c)), (a_spot, .inl (cs 0, 4, .inl a_spot_c)), (a_at, .inl (cs 0, 8, .inl a_at_c))] sz) := by
  refine Met.ofW (cc := cX6_look) (maxL := 3) (ret := none) (by decide) rfl ?_
  intro p e s m args below meth c s₁ B hml hv
  obtain ⟨rfl, hsz, hP, hD0, hE⟩ := hv
  have hx := B.exec
  have hb := B.bytes
  have hr := B.returns
  have hT : ∀ w ∈ TB, w.before _ s = true := fun w h => atoms_spec (ws := hz_w yX6_look cX6_look 3 none) B.pre w (List.mem_cons_of_mem _ h)
  have hown : s.vm.findClass RX6 = some m.cls := findClass_of_methodNamed B.named
  have hlocks := B.notSynchronized
  clear B
  subst hsz
  have hD := hD0.self (sz := s.heap.size)
  generalize hAe : va_A [(b0, .inr (8, [.int b0__stalls, .int b0__shift, .int b0__halves, .int b0__buyers, .int b0__near, .int b0__dusk, .int b0__duskPrice, .int b0__hear, .int b0__forged, .ref b0_stall, .ref b0_shape, .ref b0_side, .ref b0_price, .ref b0_purse, .ref b0_spot, .ref b0_club, .ref b0_fitting, .ref b0_nearly])), (a, .inr (6, [.int a__hour, .ref a_purse, .ref a_spot, .ref a_seen, .ref a_has, .ref a_at])), (a_seen, .inl (cs 0, 4, .inl a_seen_c)), (a_spot, .inl (cs 0, 4, .inl a_spot_c)), (a_at, .inl (cs 0, 8, .inl a_at_c))] s.heap.size = A at hD hE ⊢
  have hA : ∀ q : Nat, s.heap.size ≤ q → A q := fun q h => by rw [← hAe]; exact Or.inr h
  clear hAe hD0
  have hS : va_S A s.heap s.heap [] := va_S.rf
  have hK := hE.1
  have hl := lv_entry ([.ref a, .ref b0]) (n := 3) (Nat.le_of_ble_eq_true rfl)
  rw [lg_entry_eq]
  generalize (lg_sl ([.ref a, .ref b0]) ++ List.replicate (3 - (lg_sl ([.ref a, .ref b0])).length) Slot.unset).toArray = ls at hl ⊢
  have hl : lv_has ls 3 [(0, .ref a), (1, .ref b0)] := hl
  obtain ⟨H, eH⟩ : ∃ z, z = s.heap := ⟨_, rfl⟩
  have hP : va_P D classes [(b0, .inr (8, [.int b0__stalls, .int b0__shift, .int b0__halves, .int b0__buyers, .int b0__near, .int b0__dusk, .int b0__duskPrice, .int b0__hear, .int b0__forged, .ref b0_stall, .ref b0_shape, .ref b0_side, .ref b0_price, .ref b0_purse, .ref b0_spot, .ref b0_club, .ref b0_fitting, .ref b0_nearly])), (a, .inr (6, [.int a__hour, .ref a_purse, .ref a_spot, .ref a_seen, .ref a_has, .ref a_at])), (a_seen, .inl (cs 0, 4, .inl a_seen_c)), (a_spot, .inl (cs 0, 4, .inl a_spot_c)), (a_at, .inl (cs 0, 8, .inl a_at_c))] H := by rw [eH]; exact hP
  have hS : va_S A s.heap H [] := by rw [eH]; exact hS
  rw [← eH]
  clear eH
  obtain ⟨locs, el⟩ : ∃ z : List Loc, z = [] := ⟨_, rfl⟩
  rw [← el] at hS ⊢
  clear el
  have K2 : ∀ (n : Nat) (k2_L_2 : Int32) (k2_C_a_seen : Nat → Int32), (4 - k2_L_2.toInt + 1).toNat ≤ n → IV 0 4 k2_L_2 → ∀ (H : Heap) (locs : List Loc), va_P D classes [(b0, .inr (8, [.int b0__stalls, .int b0__shift, .int b0__halves, .int b0__buyers, .int b0__near, .int b0__dusk, .int b0__duskPrice, .int b0__hear, .int b0__forged, .ref b0_stall, .ref b0_shape, .ref b0_side, .ref b0_price, .ref b0_purse, .ref b0_spot, .ref b0_club, .ref b0_fitting, .ref b0_nearly])), (a, .inr (6, [.int a__hour, .ref a_purse, .ref a_spot, .ref a_seen, .ref a_has, .ref a_at])), (a_seen, .inl (cs 0, 4, .inl k2_C_a_seen)), (a_spot, .inl (cs 0, 4, .inl a_spot_c)), (a_at, .inl (cs 0, 8, .inl a_at_c))] H → va_D A [(b0, .inr (8, [.int b0__stalls, .int b0__shift, .int b0__halves, .int b0__buyers, .int b0__near, .int b0__dusk, .int b0__duskPrice, .int b0__hear, .int b0__forged, .ref b0_stall, .ref b0_shape, .ref b0_side, .ref b0_price, .ref b0_purse, .ref b0_spot, .ref b0_club, .ref b0_fitting, .ref b0_nearly])), (a, .inr (6, [.int a__hour, .ref a_purse, .ref a_spot, .ref a_seen, .ref a_has, .ref a_at])), (a_seen, .inl (cs 0, 4, .inl k2_C_a_seen)), (a_spot, .inl (cs 0, 4, .inl a_spot_c)), (a_at, .inl (cs 0, 8, .inl a_at_c))] → va_S A s.heap H locs → ∀ ls : Array Slot, lv_has ls 3 [(2, .int k2_L_2), (0, .ref a), (1, .ref b0)] → W p l e (headSpec (hz_w yX6_look cX6_look 3 none) ({ frames := 2, cells := 0, slots := 0, locals := 44 })).room s m [.ref a, .ref b0].toArray below meth c H locs 0 0 (MQ below (va_Qv (fun (_ : Unit) => True) (fun _ t => ∃ (o_a_seen_c : Nat → Int32), va_P D classes [(b0, .inr (8, [.int b0__stalls, .int b0__shift, .int b0__halves, .int b0__buyers, .int b0__near, .int b0__dusk, .int b0__duskPrice, .int b0__hear, .int b0__forged, .ref b0_stall, .ref b0_shape, .ref b0_side, .ref b0_price, .ref b0_purse, .ref b0_spot, .ref b0_club, .ref b0_fitting, .ref b0_nearly])), (a, .inr (6, [.int a__hour, .ref a_purse, .ref a_spot, .ref a_seen, .ref a_has, .ref a_at])), (a_seen, .inl (cs 0, 4, .inl o_a_seen_c)), (a_spot, .inl (cs 0, 4, .inl a_spot_c)), (a_at, .inl (cs 0, 8, .inl a_at_c))] t.heap ∧ va_D A [(b0, .inr (8, [.int b0__stalls, .int b0__shift, .int b0__halves, .int b0__buyers, .int b0__near, .int b0__dusk, .int b0__duskPrice, .int b0__hear, .int b0__forged, .ref b0_stall, .ref b0_shape, .ref b0_side, .ref b0_price, .ref b0_purse, .ref b0_spot, .ref b0_club, .ref b0_fitting, .ref b0_nearly])), (a, .inr (6, [.int a__hour, .ref a_purse, .ref a_spot, .ref a_seen, .ref a_has, .ref a_at])), (a_seen, .inl (cs 0, 4, .inl o_a_seen_c)), (a_spot, .inl (cs 0, 4, .inl a_spot_c)), (a_at, .inl (cs 0, 8, .inl a_at_c))]) A) [.ref a, .ref b0].toArray s 0 0 A) (F0 m 2 ls []) := by
    intro n
    induction n with
    | zero =>
      intro k2_L_2 k2_C_a_seen hn q2_3 H locs hP hD hS ls hl
      exact absurd hn (by unfold IV at q2_3; omega)
    | succ n ih2 =>
      intro k2_L_2 k2_C_a_seen hn q2_3 H locs hP hD hS ls hl
      refine lv_iload_n hx hb dX6_look_2 rfl (lv_at hl 0 rfl) ?_
      refine lv_aload_n hx hb dX6_look_3 rfl (lv_at hl 2 rfl) ?_
      refine va_get (D := D) (ci := 8) (v := .int b0__buyers) (C := RX8) (T := TX8) (N := 18) hx hb hT i_X8 hown hK hP 0 rfl rfl 3 (by decide) (hT _ q_124) (fun _ h9 => h9) rfl dX6_look_4 ?_
      refine lv_icmp_ge (tgt := 44) hx hb dX6_look_7 (by decide) (fun c1 => ?_) (fun c1 => ?_)
      · refine W.widen (k := 0) (n := 0) (Nat.le_of_ble_eq_true rfl) (Nat.le_of_ble_eq_true rfl) ?_
        exact W.vret hx hb hr (fun t ht hW => ⟨⟨(), rfl, trivial, k2_C_a_seen, by rw [ht]; exact hP.sub [0, 1, 2, 3, 4] rfl, hD.sub [0, 1, 2, 3, 4] (by decide) rfl⟩, hS.F ht⟩) hS.2.2 dX6_look_44
      · have h2 : IV 0 3 k2_L_2 := iv_lt1 (Int32.not_le.mp c1) q2_3 h_b0__buyers (by decide)
        have h3 : IV 1 4 b0__buyers := iv_lt2 (Int32.not_le.mp c1) q2_3 h_b0__buyers (by decide)
        refine lv_aload_n hx hb dX6_look_10 rfl (lv_at hl 1 rfl) ?_
        refine va_get (D := D) (ci := 6) (v := .ref a_seen) (C := RX6) (T := TX6) (N := 6) hx hb hT i_X6 hown hK hP 1 rfl rfl 3 (by decide) (hT _ q_116) (fun _ h9 => h9) rfl dX6_look_11 ?_
        refine lv_iload_n hx hb dX6_look_14 rfl (lv_at hl 0 rfl) ?_
        refine lv_dup2_11 hx hb dX6_look_15 rfl rfl ?_
        refine va_iald hx hb hK hP 2 0 rfl rfl (iv_v h2 (by decide) (by decide)) dX6_look_16 ?_
        refine lv_topi (fun v4 ev4 => ?_)
        refine lv_aload_n hx hb dX6_look_17 rfl (lv_at hl 1 rfl) ?_
        refine va_get (D := D) (ci := 6) (v := .ref a_at) (C := RX6) (T := TX6) (N := 6) hx hb hT i_X6 hown hK hP 1 rfl rfl 5 (by decide) (hT _ q_118) (fun _ h9 => h9) rfl dX6_look_18 ?_
        refine lv_aload_n hx hb dX6_look_21 rfl (lv_at hl 2 rfl) ?_
        refine lv_aload_n hx hb dX6_look_22 rfl (lv_at hl 1 rfl) ?_
        refine va_get (D := D) (ci := 6) (v := .ref a_spot) (C := RX6) (T := TX6) (N := 6) hx hb hT i_X6 hown hK hP 1 rfl rfl 2 (by decide) (hT _ q_115) (fun _ h9 => h9) rfl dX6_look_23 ?_
        refine lv_iload_n hx hb dX6_look_26 rfl (lv_at hl 0 rfl) ?_
        refine va_iald hx hb hK hP 3 0 rfl rfl (iv_v h2 (by decide) (by decide)) dX6_look_27 ?_
        refine lv_topi (fun v5 ev5 => ?_)
        refine lv_aload_n hx hb dX6_look_28 rfl (lv_at hl 1 rfl) ?_
        refine va_get (D := D) (ci := 6) (v := .int a__hour) (C := RX6) (T := TX6) (N := 6) hx hb hT i_X6 hown hK hP 1 rfl rfl 0 (by decide) (hT _ q_119) (fun _ h9 => h9) rfl dX6_look_29 ?_
        refine va_calli (va_runV (As := [.int v5, .int a__hour]) (rest := [.ref a_at, .int v4, .int k2_L_2, .ref a_seen]) ⟨hx, hb, hml, hown, hT⟩ (c_X8_stallAt l D cs kK kV b0 v5 a__hour b0__stalls b0__shift b0__halves b0__buyers b0__near b0__dusk b0__duskPrice b0__hear b0__forged b0_stall b0_shape b0_side b0_price b0_purse b0_spot b0_club b0_fitting b0_nearly h_b0__stalls) (cwV 2 hT (hz_gV q_620 q_295 q_296 q_251 q_297) rfl rfl rfl (by decide +kernel) ⟨(Nat.le_of_ble_eq_true rfl), (Nat.le_of_ble_eq_true rfl)⟩) ⟨hz_P.blind, va_recv hK hP (ci := 8) (q0 := 0) rfl rfl, hz_P.mk (hP.sub (ws' := [(b0, .inr (8, [.int b0__stalls, .int b0__shift, .int b0__halves, .int b0__buyers, .int b0__near, .int b0__dusk, .int b0__duskPrice, .int b0__hear, .int b0__forged, .ref b0_stall, .ref b0_shape, .ref b0_side, .ref b0_price, .ref b0_purse, .ref b0_spot, .ref b0_club, .ref b0_fitting, .ref b0_nearly]))]) [0] rfl) hE hS⟩ rfl rfl hl.1 rfl (lv_room (Nat.le_of_ble_eq_true rfl)) dX6_look_32 ⟨(Nat.le_of_ble_eq_true rfl), (Nat.le_of_ble_eq_true rfl)⟩) hS (fun _ _ h => h.elim) (fun _ h => h.elim) (fun r6 u t H1 locs ht hvm hw hB hz1 hk1 hS => ?_)
        have hP := hz_keep hP hk1
        clear hk1 hB hz1
        generalize H1 = H at hP hS ⊢
        rcases hw with ⟨rfl, h7⟩ | ⟨h8, h9⟩
        · refine va_iald hx hb hK hP 4 0 rfl rfl (iv_vc (by decide)) dX6_look_35 ?_
          refine lv_topi (fun v10 ev10 => ?_)
          refine lv_ior hx hb dX6_look_36 ?_
          refine lv_topi (fun v11 ev11 => ?_)
          refine va_iast hx hb hK hP hD hS 2 0 rfl rfl (iv_v h2 (by decide) (by decide)) dX6_look_37 (fun H locs hP hD hS => ?_)
          have hP : va_P D classes [(b0, .inr (8, [.int b0__stalls, .int b0__shift, .int b0__halves, .int b0__buyers, .int b0__near, .int b0__dusk, .int b0__duskPrice, .int b0__hear, .int b0__forged, .ref b0_stall, .ref b0_shape, .ref b0_side, .ref b0_price, .ref b0_purse, .ref b0_spot, .ref b0_club, .ref b0_fitting, .ref b0_nearly])), (a, .inr (6, [.int a__hour, .ref a_purse, .ref a_spot, .ref a_seen, .ref a_has, .ref a_at])), (a_seen, .inl (cs 0, 4, .inl (upd k2_C_a_seen (Int32.toNatClampNeg k2_L_2) v11))), (a_spot, .inl (cs 0, 4, .inl a_spot_c)), (a_at, .inl (cs 0, 8, .inl a_at_c))] H := hP
          have hD : va_D A [(b0, .inr (8, [.int b0__stalls, .int b0__shift, .int b0__halves, .int b0__buyers, .int b0__near, .int b0__dusk, .int b0__duskPrice, .int b0__hear, .int b0__forged, .ref b0_stall, .ref b0_shape, .ref b0_side, .ref b0_price, .ref b0_purse, .ref b0_spot, .ref b0_club, .ref b0_fitting, .ref b0_nearly])), (a, .inr (6, [.int a__hour, .ref a_purse, .ref a_spot, .ref a_seen, .ref a_has, .ref a_at])), (a_seen, .inl (cs 0, 4, .inl (upd k2_C_a_seen (Int32.toNatClampNeg k2_L_2) v11))), (a_spot, .inl (cs 0, 4, .inl a_spot_c)), (a_at, .inl (cs 0, 8, .inl a_at_c))] := hD
          generalize upd k2_C_a_seen (Int32.toNatClampNeg k2_L_2) v11 = f12 at hP hD
          obtain ⟨v13, ev13⟩ : ∃ z : Int32, z = k2_L_2 + 1 := ⟨_, rfl⟩
          have hv13 : IV 1 4 v13 := iv_add ev13 h2 (iv_c (a := 1) (b := 1) (by decide)) (by decide) (by decide)
          have dv13 : v13.toInt = k2_L_2.toInt + 1 := iv_addE ev13 h2 (iv_c (a := 1) (b := 1) (by decide)) (by decide) (by decide) (by decide)
          refine lv_iinc (v := v13) (lv' := [(2, .int v13), (0, .ref a), (1, .ref b0)]) hx hb dX6_look_38 hl (k := 0) rfl (by rw [ev13]; rfl) (by decide) rfl (fun ls hl => ?_)
          refine lv_goto (tgt := 2) hx hb dX6_look_41 (by decide) ?_
          exact ih2 v13 f12 (by have h9 := h2; unfold IV at h9; have := dv13; omega) (iv_w hv13 (by decide) (by decide)) H locs (hP.sub (ws' := [(b0, .inr (8, [.int b0__stalls, .int b0__shift, .int b0__halves, .int b0__buyers, .int b0__near, .int b0__dusk, .int b0__duskPrice, .int b0__hear, .int b0__forged, .ref b0_stall, .ref b0_shape, .ref b0_side, .ref b0_price, .ref b0_purse, .ref b0_spot, .ref b0_club, .ref b0_fitting, .ref b0_nearly])), (a, .inr (6, [.int a__hour, .ref a_purse, .ref a_spot, .ref a_seen, .ref a_has, .ref a_at])), (a_seen, .inl (cs 0, 4, .inl f12)), (a_spot, .inl (cs 0, 4, .inl a_spot_c)), (a_at, .inl (cs 0, 8, .inl a_at_c))]) [0, 1, 2, 3, 4] rfl) (hD.sub (ws' := [(b0, .inr (8, [.int b0__stalls, .int b0__shift, .int b0__halves, .int b0__buyers, .int b0__near, .int b0__dusk, .int b0__duskPrice, .int b0__hear, .int b0__forged, .ref b0_stall, .ref b0_shape, .ref b0_side, .ref b0_price, .ref b0_purse, .ref b0_spot, .ref b0_club, .ref b0_fitting, .ref b0_nearly])), (a, .inr (6, [.int a__hour, .ref a_purse, .ref a_spot, .ref a_seen, .ref a_has, .ref a_at])), (a_seen, .inl (cs 0, 4, .inl f12)), (a_spot, .inl (cs 0, 4, .inl a_spot_c)), (a_at, .inl (cs 0, 8, .inl a_at_c))]) [0, 1, 2, 3, 4] (by decide) rfl) hS ls (lv_sub hl [0, 1, 2] rfl)
        · refine va_iald hx hb hK hP 4 0 rfl rfl (iv_v h8 (by decide) (by decide)) dX6_look_35 ?_
          refine lv_topi (fun v14 ev14 => ?_)
          refine lv_ior hx hb dX6_look_36 ?_
          refine lv_topi (fun v15 ev15 => ?_)
          refine va_iast hx hb hK hP hD hS 2 0 rfl rfl (iv_v h2 (by decide) (by decide)) dX6_look_37 (fun H locs hP hD hS => ?_)
          have hP : va_P D classes [(b0, .inr (8, [.int b0__stalls, .int b0__shift, .int b0__halves, .int b0__buyers, .int b0__near, .int b0__dusk, .int b0__duskPrice, .int b0__hear, .int b0__forged, .ref b0_stall, .ref b0_shape, .ref b0_side, .ref b0_price, .ref b0_purse, .ref b0_spot, .ref b0_club, .ref b0_fitting, .ref b0_nearly])), (a, .inr (6, [.int a__hour, .ref a_purse, .ref a_spot, .ref a_seen, .ref a_has, .ref a_at])), (a_seen, .inl (cs 0, 4, .inl (upd k2_C_a_seen (Int32.toNatClampNeg k2_L_2) v15))), (a_spot, .inl (cs 0, 4, .inl a_spot_c)), (a_at, .inl (cs 0, 8, .inl a_at_c))] H := hP
          have hD : va_D A [(b0, .inr (8, [.int b0__stalls, .int b0__shift, .int b0__halves, .int b0__buyers, .int b0__near, .int b0__dusk, .int b0__duskPrice, .int b0__hear, .int b0__forged, .ref b0_stall, .ref b0_shape, .ref b0_side, .ref b0_price, .ref b0_purse, .ref b0_spot, .ref b0_club, .ref b0_fitting, .ref b0_nearly])), (a, .inr (6, [.int a__hour, .ref a_purse, .ref a_spot, .ref a_seen, .ref a_has, .ref a_at])), (a_seen, .inl (cs 0, 4, .inl (upd k2_C_a_seen (Int32.toNatClampNeg k2_L_2) v15))), (a_spot, .inl (cs 0, 4, .inl a_spot_c)), (a_at, .inl (cs 0, 8, .inl a_at_c))] := hD
          generalize upd k2_C_a_seen (Int32.toNatClampNeg k2_L_2) v15 = f16 at hP hD
          obtain ⟨v17, ev17⟩ : ∃ z : Int32, z = k2_L_2 + 1 := ⟨_, rfl⟩
          have hv17 : IV 1 4 v17 := iv_add ev17 h2 (iv_c (a := 1) (b := 1) (by decide)) (by decide) (by decide)
          have dv17 : v17.toInt = k2_L_2.toInt + 1 := iv_addE ev17 h2 (iv_c (a := 1) (b := 1) (by decide)) (by decide) (by decide) (by decide)
          refine lv_iinc (v := v17) (lv' := [(2, .int v17), (0, .ref a), (1, .ref b0)]) hx hb dX6_look_38 hl (k := 0) rfl (by rw [ev17]; rfl) (by decide) rfl (fun ls hl => ?_)
          refine lv_goto (tgt := 2) hx hb dX6_look_41 (by decide) ?_
          exact ih2 v17 f16 (by have h9 := h2; unfold IV at h9; have := dv17; omega) (iv_w hv17 (by decide) (by decide)) H locs (hP.sub (ws' := [(b0, .inr (8, [.int b0__stalls, .int b0__shift, .int b0__halves, .int b0__buyers, .int b0__near, .int b0__dusk, .int b0__duskPrice, .int b0__hear, .int b0__forged, .ref b0_stall, .ref b0_shape, .ref b0_side, .ref b0_price, .ref b0_purse, .ref b0_spot, .ref b0_club, .ref b0_fitting, .ref b0_nearly])), (a, .inr (6, [.int a__hour, .ref a_purse, .ref a_spot, .ref a_seen, .ref a_has, .ref a_at])), (a_seen, .inl (cs 0, 4, .inl f16)), (a_spot, .inl (cs 0, 4, .inl a_spot_c)), (a_at, .inl (cs 0, 8, .inl a_at_c))]) [0, 1, 2, 3, 4] rfl) (hD.sub (ws' := [(b0, .inr (8, [.int b0__stalls, .int b0__shift, .int b0__halves, .int b0__buyers, .int b0__near, .int b0__dusk, .int b0__duskPrice, .int b0__hear, .int b0__forged, .ref b0_stall, .ref b0_shape, .ref b0_side, .ref b0_price, .ref b0_purse, .ref b0_spot, .ref b0_club, .ref b0_fitting, .ref b0_nearly])), (a, .inr (6, [.int a__hour, .ref a_purse, .ref a_spot, .ref a_seen, .ref a_has, .ref a_at])), (a_seen, .inl (cs 0, 4, .inl f16)), (a_spot, .inl (cs 0, 4, .inl a_spot_c)), (a_at, .inl (cs 0, 8, .inl a_at_c))]) [0, 1, 2, 3, 4] (by decide) rfl) hS ls (lv_sub hl [0, 1, 2] rfl)
  refine lv_iconst (v := 0) hx hb dX6_look_0 (by decide) ?_
  refine lv_istore_n (lv' := [(2, .int 0), (0, .ref a), (1, .ref b0)]) hx hb dX6_look_1 rfl hl (by decide) rfl (fun ls hl => ?_)
  exact K2 _ 0 a_seen_c (Nat.le_refl _) (iv_c (by decide)) H locs (hP.sub (ws' := [(b0, .inr (8, [.int b0__stalls, .int b0__shift, .int b0__halves, .int b0__buyers, .int b0__near, .int b0__dusk, .int b0__duskPrice, .int b0__hear, .int b0__forged, .ref b0_stall, .ref b0_shape, .ref b0_side, .ref b0_price, .ref b0_purse, .ref b0_spot, .ref b0_club, .ref b0_fitting, .ref b0_nearly])), (a, .inr (6, [.int a__hour, .ref a_purse, .ref a_spot, .ref a_seen, .ref a_has, .ref a_at])), (a_seen, .inl (cs 0, 4, .inl a_seen_c)), (a_spot, .inl (cs 0, 4, .inl a_spot_c)), (a_at, .inl (cs 0, 8, .inl a_at_c))]) [0, 1, 2, 3, 4] rfl) (hD.sub (ws' := [(b0, .inr (8, [.int b0__stalls, .int b0__shift, .int b0__halves, .int b0__buyers, .int b0__near, .int b0__dusk, .int b0__duskPrice, .int b0__hear, .int b0__forged, .ref b0_stall, .ref b0_shape, .ref b0_side, .ref b0_price, .ref b0_purse, .ref b0_spot, .ref b0_club, .ref b0_fitting, .ref b0_nearly])), (a, .inr (6, [.int a__hour, .ref a_purse, .ref a_spot, .ref a_seen, .ref a_has, .ref a_at])), (a_seen, .inl (cs 0, 4, .inl a_seen_c)), (a_spot, .inl (cs 0, 4, .inl a_spot_c)), (a_at, .inl (cs 0, 8, .inl a_at_c))]) [0, 1, 2, 3, 4] (by decide) rfl) hS ls (lv_sub hl [0, 1, 2] rfl)
theorem dX6_passHour_0 : decode cX6_passHour 0 = .ok (.aload_n 0, 1) := by decide +kernel
theorem dX6_passHour_1 : decode cX6_passHour 1 = .ok (.dup, 1) := by decide +kernel
theorem dX6_passHour_2 : decode cX6_passHour 2 = .ok (.getfield 27, 3) := by decide +kernel
theorem dX6_passHour_5 : decode cX6_passHour 5 = .ok (.iconst 1, 1) := by decide +kernel
theorem dX6_passHour_6 : decode cX6_passHour 6 = .ok (.iadd, 1) := by decide +kernel
theorem dX6_passHour_7 : decode cX6_passHour 7 = .ok (.putfield 27, 3) := by decide +kernel
theorem dX6_passHour_10 : decode cX6_passHour 10 = .ok (.aload_n 0, 1) := by decide +kernel
theorem dX6_passHour_11 : decode cX6_passHour 11 = .ok (.aload_n 1, 1) := by decide +kernel
theorem dX6_passHour_12 : decode cX6_passHour 12 = .ok (.invokevirtual 53, 3) := by decide +kernel
theorem dX6_passHour_15 : decode cX6_passHour 15 = .ok (.return_, 1) := by decide +kernel
set_option maxHeartbeats 4000000 in
set_option maxRecDepth 100000 in
theorem c_X6_passHour (l : Launch) (D : va_G) (cs : Nat → ClassId) (kK kV : Nat → Nat) (a : Nat) (b0 : Nat) (a__hour : Int32) (a_purse : Nat) (a_spot : Nat) (a_seen : Nat) (a_has : Nat) (a_at : Nat) (b0__stalls : Int32) (b0__shift : Int32) (b0__halves : Int32) (b0__buyers : Int32) (b0__near : Int32) (b0__dusk : Int32) (b0__duskPrice : Int32) (b0__hear : Int32) (b0__forged : Int32) (b0_stall : Nat) (b0_shape : Nat) (b0_side : Nat) (b0_price : Nat) (b0_purse : Nat) (b0_spot : Nat) (b0_club : Nat) (b0_fitting : Nat) (b0_nearly : Nat) (a_seen_c : Nat → Int32) (a_spot_c : Nat → Int32) (a_at_c : Nat → Int32) (h_b0__stalls : IV 0 8 b0__stalls) (h_b0__buyers : IV 0 4 b0__buyers) (sz : Nat) : Met l yX6_passHour (hz_w yX6_passHour cX6_passHour 2 none) ({ frames := 3, cells := 0, slots := 0, locals := 66 }) (va_Pc [.ref a, .ref b0] (hz_C D cs kK kV sz [(a, .inr (6, [.int a__hour, .ref a_purse, .ref a_spot, .ref a_seen, .ref a_has, .ref a_at])), (b0, .inr (8, [.int b0__stalls, .int b0__shift, .int b0__halves, .int b0__buyers, .int b0__near, .int b0__dusk, .int b0__duskPrice, .int b0__hear, .int b0__forged, .ref b0_stall, .ref b0_shape, .ref b0_side, .ref b0_price, .ref b0_purse, .ref b0_spot, .ref b0_club, .ref b0_fitting, .ref b0_nearly])), (a_seen, .inl (cs 0, 4, .inl a_seen_c)), (a_spot, .inl (cs 0, 4, .inl a_spot_c)), (a_at, .inl (cs 0, 8, .inl a_at_c))])) (va_Qv (fun (_ : Unit) => True) (fun _ t => ∃ (o_a_0 : Int32), ∃ (o_a_seen_c : Nat → Int32), va_P D classes [(a, .inr (6, [.int o_a_0, .ref a_purse, .ref a_spot, .ref a_seen, .ref a_has, .ref a_at])), (b0, .inr (8, [.int b0__stalls, .int b0__shift, .int b0__halves, .int b0__buyers, .int b0__near, .int b0__dusk, .int b0__duskPrice, .int b0__hear, .int b0__forged, .ref b0_stall, .ref b0_shape, .ref b0_side, .ref b0_price, .ref b0_purse, .ref b0_spot, .ref b0_club, .ref b0_fitting, .ref b0_nearly])), (a_seen, .inl (cs 0, 4, .inl o_a_seen_c)), (a_spot, .inl (cs 0, 4, .inl a_spot_c)), (a_at, .inl (cs 0, 8, .inl a_at_c))] t.heap ∧ va_D (va_A [(a, .inr (6, [.int a__hour, .ref a_purse, .ref a_spot, .ref a_seen, .ref a_has, .ref a_at])), (b0, .inr (8, [.int b0__stalls, .int b0__shift, .int b0__halves, .int b0__buyers, .int b0__near, .int b0__dusk, .int b0__duskPrice, .int b0__hear, .int b0__forged, .ref b0_stall, .ref b0_shape, .ref b0_side, .ref b0_price, .ref b0_purse, .ref b0_spot, .ref b0_club, .ref b0_fitting, .ref b0_nearly])), (a_seen, .inl (cs 0, 4, .inl a_seen_c)), (a_spot, .inl (cs 0, 4, .inl a_spot_c)), (a_at, .inl (cs 0, 8, .inl a_at_c))] sz) [(a, .inr (6, [.int o_a_0, .ref a_purse, .ref a_spot, .ref a_seen, .ref a_has, .ref a_at])), (b0, .inr (8, [.int b0__stalls, .int b0__shift, .int b0__halves, .int b0__buyers, .int b0__near, .int b0__dusk, .int b0__duskPrice, .int b0__hear, .int b0__forged, .ref b0_stall, .ref b0_shape, .ref b0_side, .ref b0_price, .ref b0_purse, .ref b0_spot, .ref b0_club, .ref b0_fitting, .ref b0_nearly])), (a_seen, .inl (cs 0, 4, .inl o_a_seen_c)), (a_spot, .inl (cs 0, 4, .inl a_spot_c)), (a_at, .inl (cs 0, 8, .inl a_at_c))]) (va_A [(a, .inr (6, [.int a__hour, .ref a_purse, .ref a_spot, .ref a_seen, .ref a_has, .ref a_at])), (b0, .inr (8, [.int b0__stalls, .int b0__shift, .int b0__halves, .int b0__buyers, .int b0__near, .int b0__dusk, .int b0__duskPrice, .int b0__hear, .int b0__forged, .ref b0_stall, .ref b0_shape, .ref b0_side, .ref b0_price, .ref b0_purse, .ref b0_spot, .ref b0_club, .ref b0_fitting, .ref b0_nearly])), (a_seen, .inl (cs 0, 4, .inl a_seen_c)), (a_spot, .inl (cs 0, 4, .inl a_spot_c)), (a_at, .inl (cs 0, 8, .inl a_at_c))] sz)) 0 0 (va_A [(a, .inr (6, [.int a__hour, .ref a_purse, .ref a_spot, .ref a_seen, .ref a_has, .ref a_at])), (b0, .inr (8, [.int b0__stalls, .int b0__shift, .int b0__halves, .int b0__buyers, .int b0__near, .int b0__dusk, .int b0__duskPrice, .int b0__hear, .int b0__forged, .ref b0_stall, .ref b0_shape, .ref b0_side, .ref b0_price, .ref b0_purse, .ref b0_spot, .ref b0_club, .ref b0_fitting, .ref b0_nearly])), (a_seen, .inl (cs 0, 4, .inl a_seen_c)), (a_spot, .inl (cs 0, 4, .inl a_spot_c)), (a_at, .inl (cs 0, 8, .inl a_at_c))] sz) := by
  refine Met.ofW (cc := cX6_passHour) (maxL := 2) (ret := none) (by decide) rfl ?_
  intro p e s m args below meth c s₁ B hml hv
  obtain ⟨rfl, hsz, hP, hD0, hE⟩ := hv
  have hx := B.exec
  have hb := B.bytes
  have hr := B.returns
  have hT : ∀ w ∈ TB, w.before _ s = true := fun w h => atoms_spec (ws := hz_w yX6_passHour cX6_passHour 2 none) B.pre w (List.mem_cons_of_mem _ h)
  have hown : s.vm.findClass RX6 = some m.cls := findClass_of_methodNamed B.named
  have hlocks := B.notSynchronized
  clear B
  subst hsz
  have hD := hD0.self (sz := s.heap.size)
  generalize hAe : va_A [(a, .inr (6, [.int a__hour, .ref a_purse, .ref a_spot, .ref a_seen, .ref a_has, .ref a_at])), (b0, .inr (8, [.int b0__stalls, .int b0__shift, .int b0__halves, .int b0__buyers, .int b0__near, .int b0__dusk, .int b0__duskPrice, .int b0__hear, .int b0__forged, .ref b0_stall, .ref b0_shape, .ref b0_side, .ref b0_price, .ref b0_purse, .ref b0_spot, .ref b0_club, .ref b0_fitting, .ref b0_nearly])), (a_seen, .inl (cs 0, 4, .inl a_seen_c)), (a_spot, .inl (cs 0, 4, .inl a_spot_c)), (a_at, .inl (cs 0, 8, .inl a_at_c))] s.heap.size = A at hD hE ⊢
  have hA : ∀ q : Nat, s.heap.size ≤ q → A q := fun q h => by rw [← hAe]; exact Or.inr h
  clear hAe hD0
  have hS : va_S A s.heap s.heap [] := va_S.rf
  have hK := hE.1
  have hl := lv_entry ([.ref a, .ref b0]) (n := 2) (Nat.le_of_ble_eq_true rfl)
  rw [lg_entry_eq]
  generalize (lg_sl ([.ref a, .ref b0]) ++ List.replicate (2 - (lg_sl ([.ref a, .ref b0])).length) Slot.unset).toArray = ls at hl ⊢
  have hl : lv_has ls 2 [(0, .ref a), (1, .ref b0)] := hl
  obtain ⟨H, eH⟩ : ∃ z, z = s.heap := ⟨_, rfl⟩
  have hP : va_P D classes [(a, .inr (6, [.int a__hour, .ref a_purse, .ref a_spot, .ref a_seen, .ref a_has, .ref a_at])), (b0, .inr (8, [.int b0__stalls, .int b0__shift, .int b0__halves, .int b0__buyers, .int b0__near, .int b0__dusk, .int b0__duskPrice, .int b0__hear, .int b0__forged, .ref b0_stall, .ref b0_shape, .ref b0_side, .ref b0_price, .ref b0_purse, .ref b0_spot, .ref b0_club, .ref b0_fitting, .ref b0_nearly])), (a_seen, .inl (cs 0, 4, .inl a_seen_c)), (a_spot, .inl (cs 0, 4, .inl a_spot_c)), (a_at, .inl (cs 0, 8, .inl a_at_c))] H := by rw [eH]; exact hP
  have hS : va_S A s.heap H [] := by rw [eH]; exact hS
  rw [← eH]
  clear eH
  obtain ⟨locs, el⟩ : ∃ z : List Loc, z = [] := ⟨_, rfl⟩
  rw [← el] at hS ⊢
  clear el
  refine lv_aload_n hx hb dX6_passHour_0 rfl (lv_at hl 0 rfl) ?_
  refine lv_dup hx hb dX6_passHour_1 rfl ?_
  refine va_get (D := D) (ci := 6) (v := .int a__hour) (C := RX6) (T := TX6) (N := 6) hx hb hT i_X6 hown hK hP 0 rfl rfl 0 (by decide) (hT _ q_119) (fun _ h9 => h9) rfl dX6_passHour_2 ?_
  refine lv_iconst (v := 1) hx hb dX6_passHour_5 (by decide) ?_
  refine lv_iadd hx hb dX6_passHour_6 ?_
  refine lv_topi (fun v1 ev1 => ?_)
  refine va_put (D := D) (ci := 6) (v := .int v1) (ty := .int) (C := RX6) (T := TX6) (N := 6) hx hb hT i_X6 tyX6 tyX6_ok nmX6 hown hK hP hD hS 0 rfl rfl 0 (by decide) (hT _ q_119) (fun _ h9 => h9) rfl (by decide +kernel) rfl rfl (Nat.le_of_ble_eq_true rfl) dX6_passHour_7 (fun H locs hP hD hS => ?_)
  have hP : va_P D classes [(a, .inr (6, [.int v1, .ref a_purse, .ref a_spot, .ref a_seen, .ref a_has, .ref a_at])), (b0, .inr (8, [.int b0__stalls, .int b0__shift, .int b0__halves, .int b0__buyers, .int b0__near, .int b0__dusk, .int b0__duskPrice, .int b0__hear, .int b0__forged, .ref b0_stall, .ref b0_shape, .ref b0_side, .ref b0_price, .ref b0_purse, .ref b0_spot, .ref b0_club, .ref b0_fitting, .ref b0_nearly])), (a_seen, .inl (cs 0, 4, .inl a_seen_c)), (a_spot, .inl (cs 0, 4, .inl a_spot_c)), (a_at, .inl (cs 0, 8, .inl a_at_c))] H := hP
  have hD : va_D A [(a, .inr (6, [.int v1, .ref a_purse, .ref a_spot, .ref a_seen, .ref a_has, .ref a_at])), (b0, .inr (8, [.int b0__stalls, .int b0__shift, .int b0__halves, .int b0__buyers, .int b0__near, .int b0__dusk, .int b0__duskPrice, .int b0__hear, .int b0__forged, .ref b0_stall, .ref b0_shape, .ref b0_side, .ref b0_price, .ref b0_purse, .ref b0_spot, .ref b0_club, .ref b0_fitting, .ref b0_nearly])), (a_seen, .inl (cs 0, 4, .inl a_seen_c)), (a_spot, .inl (cs 0, 4, .inl a_spot_c)), (a_at, .inl (cs 0, 8, .inl a_at_c))] := hD
  refine lv_aload_n hx hb dX6_passHour_10 rfl (lv_at hl 0 rfl) ?_
  refine lv_aload_n hx hb dX6_passHour_11 rfl (lv_at hl 1 rfl) ?_
  have hFc := va_free (wc := [(b0, .inr (8, [.int b0__stalls, .int b0__shift, .int b0__halves, .int b0__buyers, .int b0__near, .int b0__dusk, .int b0__duskPrice, .int b0__hear, .int b0__forged, .ref b0_stall, .ref b0_shape, .ref b0_side, .ref b0_price, .ref b0_purse, .ref b0_spot, .ref b0_club, .ref b0_fitting, .ref b0_nearly])), (a, .inr (6, [.int v1, .ref a_purse, .ref a_spot, .ref a_seen, .ref a_has, .ref a_at])), (a_seen, .inl (cs 0, 4, .inl a_seen_c)), (a_spot, .inl (cs 0, 4, .inl a_spot_c)), (a_at, .inl (cs 0, 8, .inl a_at_c))]) hD hS hA [1,0,2,3,4] rfl
  refine va_callv (va_runV (As := [.ref b0]) (rest := []) ⟨hx, hb, hml, hown, hT⟩ (c_X6_look l D cs kK kV a b0 b0__stalls b0__shift b0__halves b0__buyers b0__near b0__dusk b0__duskPrice b0__hear b0__forged b0_stall b0_shape b0_side b0_price b0_purse b0_spot b0_club b0_fitting b0_nearly v1 a_purse a_spot a_seen a_has a_at a_seen_c a_spot_c a_at_c h_b0__stalls h_b0__buyers H.size) (cwV 1 hT (hz_gV q_616 q_617 q_618 q_231 q_619) rfl rfl rfl (by decide +kernel) ⟨(Nat.le_of_ble_eq_true rfl), (Nat.le_of_ble_eq_true rfl)⟩) ⟨hz_C.blind, va_recv hK hP (ci := 6) (q0 := 0) rfl rfl, hz_C.mk (hP.sub (ws' := [(b0, .inr (8, [.int b0__stalls, .int b0__shift, .int b0__halves, .int b0__buyers, .int b0__near, .int b0__dusk, .int b0__duskPrice, .int b0__hear, .int b0__forged, .ref b0_stall, .ref b0_shape, .ref b0_side, .ref b0_price, .ref b0_purse, .ref b0_spot, .ref b0_club, .ref b0_fitting, .ref b0_nearly])), (a, .inr (6, [.int v1, .ref a_purse, .ref a_spot, .ref a_seen, .ref a_has, .ref a_at])), (a_seen, .inl (cs 0, 4, .inl a_seen_c)), (a_spot, .inl (cs 0, 4, .inl a_spot_c)), (a_at, .inl (cs 0, 8, .inl a_at_c))]) [1,0,2,3,4] rfl) (hD.sub (ws' := [(b0, .inr (8, [.int b0__stalls, .int b0__shift, .int b0__halves, .int b0__buyers, .int b0__near, .int b0__dusk, .int b0__duskPrice, .int b0__hear, .int b0__forged, .ref b0_stall, .ref b0_shape, .ref b0_side, .ref b0_price, .ref b0_purse, .ref b0_spot, .ref b0_club, .ref b0_fitting, .ref b0_nearly])), (a, .inr (6, [.int v1, .ref a_purse, .ref a_spot, .ref a_seen, .ref a_has, .ref a_at])), (a_seen, .inl (cs 0, 4, .inl a_seen_c)), (a_spot, .inl (cs 0, 4, .inl a_spot_c)), (a_at, .inl (cs 0, 8, .inl a_at_c))]) [1,0,2,3,4] (by decide) rfl) hE hS hFc⟩ rfl rfl hl.1 rfl (lv_room (Nat.le_of_ble_eq_true rfl)) dX6_passHour_12 ⟨(Nat.le_of_ble_eq_true rfl), (Nat.le_of_ble_eq_true rfl)⟩) hS (fun q _ h => hFc q h) hFc (fun u t H1 locs ht hvm hw hB hz1 hk1 hS => ?_)
  obtain ⟨o3, hP1, hD1⟩ := hB
  rw [ht] at hP1
  obtain ⟨hP, hD⟩ := va_join (wr := []) (w1 := [(b0, .inr (8, [.int b0__stalls, .int b0__shift, .int b0__halves, .int b0__buyers, .int b0__near, .int b0__dusk, .int b0__duskPrice, .int b0__hear, .int b0__forged, .ref b0_stall, .ref b0_shape, .ref b0_side, .ref b0_price, .ref b0_purse, .ref b0_spot, .ref b0_club, .ref b0_fitting, .ref b0_nearly])), (a, .inr (6, [.int v1, .ref a_purse, .ref a_spot, .ref a_seen, .ref a_has, .ref a_at])), (a_seen, .inl (cs 0, 4, .inl o3)), (a_spot, .inl (cs 0, 4, .inl a_spot_c)), (a_at, .inl (cs 0, 8, .inl a_at_c))]) hP hD [1, 0, 2, 3, 4] [] rfl rfl (by decide) (by decide) hk1 hFc hP1 hD1
  generalize H1 = H at hP hS ⊢
  have hP : va_P D classes [(b0, .inr (8, [.int b0__stalls, .int b0__shift, .int b0__halves, .int b0__buyers, .int b0__near, .int b0__dusk, .int b0__duskPrice, .int b0__hear, .int b0__forged, .ref b0_stall, .ref b0_shape, .ref b0_side, .ref b0_price, .ref b0_purse, .ref b0_spot, .ref b0_club, .ref b0_fitting, .ref b0_nearly])), (a, .inr (6, [.int v1, .ref a_purse, .ref a_spot, .ref a_seen, .ref a_has, .ref a_at])), (a_seen, .inl (cs 0, 4, .inl o3)), (a_spot, .inl (cs 0, 4, .inl a_spot_c)), (a_at, .inl (cs 0, 8, .inl a_at_c))] H := hP
  have hD : va_D A [(b0, .inr (8, [.int b0__stalls, .int b0__shift, .int b0__halves, .int b0__buyers, .int b0__near, .int b0__dusk, .int b0__duskPrice, .int b0__hear, .int b0__forged, .ref b0_stall, .ref b0_shape, .ref b0_side, .ref b0_price, .ref b0_purse, .ref b0_spot, .ref b0_club, .ref b0_fitting, .ref b0_nearly])), (a, .inr (6, [.int v1, .ref a_purse, .ref a_spot, .ref a_seen, .ref a_has, .ref a_at])), (a_seen, .inl (cs 0, 4, .inl o3)), (a_spot, .inl (cs 0, 4, .inl a_spot_c)), (a_at, .inl (cs 0, 8, .inl a_at_c))] := hD
  clear hk1 hFc hP1 hD1 hz1
  refine W.widen (k := 0) (n := 0) (Nat.le_of_ble_eq_true rfl) (Nat.le_of_ble_eq_true rfl) ?_
  exact W.vret hx hb hr (fun t ht hW => ⟨⟨(), rfl, trivial, v1, o3, by rw [ht]; exact hP.sub [1, 0, 2, 3, 4] rfl, hD.sub [1, 0, 2, 3, 4] (by decide) rfl⟩, hS.F ht⟩) hS.2.2 dX6_passHour_15
