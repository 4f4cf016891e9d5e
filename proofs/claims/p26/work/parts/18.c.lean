set_option maxHeartbeats 4000000 in
set_option maxRecDepth 100000 in
theorem c_X7_takeNumber_74 (l : Launch) (D : va_G) (cs : Nat → ClassId) (kK kV : Nat → Nat) (a : Nat) (a_bytes : Nat) (a__length : Int32) (a__place : Int32) (a__fault : Int32) (a_bytes_c : Nat → Int32) (h_a__length : IV 0 400 a__length) (h_a__place : IV 0 400 a__place) (h_a__fault : IV 0 3205 a__fault) (h_a_bytes_c : CI 400 0 255 a_bytes_c) (sz : Nat) : Met l yX7_takeNumber (hz_w yX7_takeNumber cX7_takeNumber 5 (some .int)) ({ frames := 1, cells := 0, slots := 0, locals := 22 }) (va_Pc [.ref a, .int 0, .int 7] (hz_C D cs kK kV sz [(a, .inr (7, [.ref a_bytes, .int a__length, .int a__place, .int a__fault])), (a_bytes, .inl (cs 0, 400, .inl a_bytes_c))])) (va_Qi (fun (r : Int32) (u : (Nat → Int32) × (Nat → Nat → Int32)) => (IV 0 7 r ∧ IV 0 3205 (u.1 0) ∧ IV 0 400 (u.1 1)) ∨ (IV 1 3205 (u.1 0) ∧ IV 0 400 (u.1 1))) (fun u t => va_P D classes [(a, .inr (7, [.ref a_bytes, .int a__length, .int (u.1 1), .int (u.1 0)])), (a_bytes, .inl (cs 0, 400, .inl a_bytes_c))] t.heap ∧ va_D (va_A [(a, .inr (7, [.ref a_bytes, .int a__length, .int a__place, .int a__fault])), (a_bytes, .inl (cs 0, 400, .inl a_bytes_c))] sz) [(a, .inr (7, [.ref a_bytes, .int a__length, .int (u.1 1), .int (u.1 0)])), (a_bytes, .inl (cs 0, 400, .inl a_bytes_c))]) (va_A [(a, .inr (7, [.ref a_bytes, .int a__length, .int a__place, .int a__fault])), (a_bytes, .inl (cs 0, 400, .inl a_bytes_c))] sz)) 0 0 (va_A [(a, .inr (7, [.ref a_bytes, .int a__length, .int a__place, .int a__fault])), (a_bytes, .inl (cs 0, 400, .inl a_bytes_c))] sz) := by
  refine Met.ofW (cc := cX7_takeNumber) (maxL := 5) (ret := (some .int)) (by decide) rfl ?_
  intro p e s m args below meth c s₁ B hml hv
  obtain ⟨rfl, hsz, hP, hD0, hE⟩ := hv
  have hx := B.exec
  have hb := B.bytes
  have hr := B.returns
  have hT : ∀ w ∈ TB, w.before _ s = true := fun w h => atoms_spec (ws := hz_w yX7_takeNumber cX7_takeNumber 5 (some .int)) B.pre w (List.mem_cons_of_mem _ h)
  have hown : s.vm.findClass RX7 = some m.cls := findClass_of_methodNamed B.named
  have hlocks := B.notSynchronized
  clear B
  subst hsz
  have hD := hD0.self (sz := s.heap.size)
  generalize hAe : va_A [(a, .inr (7, [.ref a_bytes, .int a__length, .int a__place, .int a__fault])), (a_bytes, .inl (cs 0, 400, .inl a_bytes_c))] s.heap.size = A at hD hE ⊢
  have hA : ∀ q : Nat, s.heap.size ≤ q → A q := fun q h => by rw [← hAe]; exact Or.inr h
  clear hAe hD0
  have hS : va_S A s.heap s.heap [] := va_S.rf
  have hK := hE.1
  have hl := lv_entry ([.ref a, .int 0, .int 7]) (n := 5) (Nat.le_of_ble_eq_true rfl)
  rw [lg_entry_eq]
  generalize (lg_sl ([.ref a, .int 0, .int 7]) ++ List.replicate (5 - (lg_sl ([.ref a, .int 0, .int 7])).length) Slot.unset).toArray = ls at hl ⊢
  have hl : lv_has ls 5 [(0, .ref a), (1, .int 0), (2, .int 7)] := hl
  obtain ⟨H, eH⟩ : ∃ z, z = s.heap := ⟨_, rfl⟩
  have hP : va_P D classes [(a, .inr (7, [.ref a_bytes, .int a__length, .int a__place, .int a__fault])), (a_bytes, .inl (cs 0, 400, .inl a_bytes_c))] H := by rw [eH]; exact hP
  have hS : va_S A s.heap H [] := by rw [eH]; exact hS
  rw [← eH]
  clear eH
  obtain ⟨locs, el⟩ : ∃ z : List Loc, z = [] := ⟨_, rfl⟩
  rw [← el] at hS ⊢
  clear el
  have K133 : ∀ (k133_L_4 : Int32) (k133_L_3 : Int32) (k133_F_a_2 : Int32), IV 0 400 k133_F_a_2 → IV 0 400 k133_L_3 → ∀ (H : Heap) (locs : List Loc), va_P D classes [(a, .inr (7, [.ref a_bytes, .int a__length, .int k133_F_a_2, .int a__fault])), (a_bytes, .inl (cs 0, 400, .inl a_bytes_c))] H → va_D A [(a, .inr (7, [.ref a_bytes, .int a__length, .int k133_F_a_2, .int a__fault])), (a_bytes, .inl (cs 0, 400, .inl a_bytes_c))] → va_S A s.heap H locs → ∀ ls : Array Slot, lv_has ls 5 [(4, .int k133_L_4), (3, .int k133_L_3), (0, .ref a), (1, .int 0), (2, .int 7)] → W p l e (headSpec (hz_w yX7_takeNumber cX7_takeNumber 5 (some .int)) ({ frames := 1, cells := 0, slots := 0, locals := 22 })).room s m [.ref a, .int 0, .int 7].toArray below meth c H locs 0 0 (MQ below (va_Qi (fun (r : Int32) (u : (Nat → Int32) × (Nat → Nat → Int32)) => (IV 0 7 r ∧ IV 0 3205 (u.1 0) ∧ IV 0 400 (u.1 1)) ∨ (IV 1 3205 (u.1 0) ∧ IV 0 400 (u.1 1))) (fun u t => va_P D classes [(a, .inr (7, [.ref a_bytes, .int a__length, .int (u.1 1), .int (u.1 0)])), (a_bytes, .inl (cs 0, 400, .inl a_bytes_c))] t.heap ∧ va_D A [(a, .inr (7, [.ref a_bytes, .int a__length, .int (u.1 1), .int (u.1 0)])), (a_bytes, .inl (cs 0, 400, .inl a_bytes_c))]) A) [.ref a, .int 0, .int 7].toArray s 0 0 A) (F0 m 133 ls []) := by
    intro k133_L_4 k133_L_3 k133_F_a_2 q133_2 q133_3 H locs hP hD hS ls hl
    refine lv_aload_n hx hb dX7_takeNumber_133 rfl (lv_at hl 2 rfl) ?_
    refine lv_iload_n hx hb dX7_takeNumber_134 rfl (lv_at hl 1 rfl) ?_
    refine lv_iconst (v := 1) hx hb dX7_takeNumber_135 (by decide) ?_
    have hFc := va_free (wc := [(a, .inr (7, [.ref a_bytes, .int a__length, .int k133_F_a_2, .int a__fault]))]) hD hS hA [0] rfl
    refine va_callv (va_runV (As := [.int k133_L_3, .int 1]) (rest := []) ⟨hx, hb, hml, hown, hT⟩ (c_X7_fail l D cs kK kV a k133_L_3 1 a_bytes a__length k133_F_a_2 a__fault q133_3 ((iv_c (by decide))) h_a__fault H.size) (cwV 2 hT (hz_gV q_633 q_445 q_446 q_221 q_447) rfl rfl rfl (by decide +kernel) ⟨(Nat.le_of_ble_eq_true rfl), (Nat.le_of_ble_eq_true rfl)⟩) ⟨hz_C.blind, va_recv hK hP (ci := 7) (q0 := 0) rfl rfl, hz_C.mk (hP.sub (ws' := [(a, .inr (7, [.ref a_bytes, .int a__length, .int k133_F_a_2, .int a__fault]))]) [0] rfl) (hD.sub (ws' := [(a, .inr (7, [.ref a_bytes, .int a__length, .int k133_F_a_2, .int a__fault]))]) [0] (by decide) rfl) hE hS hFc⟩ rfl rfl hl.1 rfl (lv_room (Nat.le_of_ble_eq_true rfl)) dX7_takeNumber_136 ⟨(Nat.le_of_ble_eq_true rfl), (Nat.le_of_ble_eq_true rfl)⟩) hS (fun q _ h => hFc q h) hFc (fun o2 t H1 locs ht hvm hw hB hz1 hk1 hS => ?_)
    obtain ⟨hP1, hD1⟩ := hB
    rw [ht] at hP1
    obtain ⟨hP, hD⟩ := va_join (wr := [(a_bytes, .inl (cs 0, 400, .inl a_bytes_c))]) (w1 := [(a, .inr (7, [.ref a_bytes, .int a__length, .int k133_F_a_2, .int (o2.1 0)]))]) hP hD [0] [1] rfl rfl (by decide) (by decide) hk1 hFc hP1 hD1
    generalize H1 = H at hP hS ⊢
    have hP : va_P D classes [(a_bytes, .inl (cs 0, 400, .inl a_bytes_c)), (a, .inr (7, [.ref a_bytes, .int a__length, .int k133_F_a_2, .int (o2.1 0)]))] H := hP
    have hD : va_D A [(a_bytes, .inl (cs 0, 400, .inl a_bytes_c)), (a, .inr (7, [.ref a_bytes, .int a__length, .int k133_F_a_2, .int (o2.1 0)]))] := hD
    clear hk1 hFc hP1 hD1 hz1
    have h3 := hw
    refine lv_iload hx hb dX7_takeNumber_139 (lv_at hl 0 rfl) ?_
    refine W.widen (k := 0) (n := 0) (Nat.le_of_ble_eq_true rfl) (Nat.le_of_ble_eq_true rfl) ?_
    exact W.iret (v := k133_L_4) hx hb hr (fun t ht hW => ⟨⟨k133_L_4, (fun k => match k with | 0 => o2.1 0 | 1 => k133_F_a_2 | _ => 0, fun _ _ => 0), rfl, (Or.inr ((⟨h3, q133_2⟩))), by rw [ht]; exact hP.sub [1, 0] rfl, hD.sub [1, 0] (by decide) rfl⟩, hS.F ht⟩) hS.2.2 dX7_takeNumber_141
  have K94 : ∀ (k94_L_4 : Int32) (k94_L_3 : Int32) (k94_F_a_2 : Int32), IV 0 400 k94_F_a_2 → IV 0 400 k94_L_3 → ∀ (H : Heap) (locs : List Loc), va_P D classes [(a, .inr (7, [.ref a_bytes, .int a__length, .int k94_F_a_2, .int a__fault])), (a_bytes, .inl (cs 0, 400, .inl a_bytes_c))] H → va_D A [(a, .inr (7, [.ref a_bytes, .int a__length, .int k94_F_a_2, .int a__fault])), (a_bytes, .inl (cs 0, 400, .inl a_bytes_c))] → va_S A s.heap H locs → ∀ ls : Array Slot, lv_has ls 5 [(4, .int k94_L_4), (3, .int k94_L_3), (0, .ref a), (1, .int 0), (2, .int 7)] → W p l e (headSpec (hz_w yX7_takeNumber cX7_takeNumber 5 (some .int)) ({ frames := 1, cells := 0, slots := 0, locals := 22 })).room s m [.ref a, .int 0, .int 7].toArray below meth c H locs 0 0 (MQ below (va_Qi (fun (r : Int32) (u : (Nat → Int32) × (Nat → Nat → Int32)) => (IV 0 7 r ∧ IV 0 3205 (u.1 0) ∧ IV 0 400 (u.1 1)) ∨ (IV 1 3205 (u.1 0) ∧ IV 0 400 (u.1 1))) (fun u t => va_P D classes [(a, .inr (7, [.ref a_bytes, .int a__length, .int (u.1 1), .int (u.1 0)])), (a_bytes, .inl (cs 0, 400, .inl a_bytes_c))] t.heap ∧ va_D A [(a, .inr (7, [.ref a_bytes, .int a__length, .int (u.1 1), .int (u.1 0)])), (a_bytes, .inl (cs 0, 400, .inl a_bytes_c))]) A) [.ref a, .int 0, .int 7].toArray s 0 0 A) (F0 m 94 ls []) := by
    intro k94_L_4 k94_L_3 k94_F_a_2 q94_2 q94_3 H locs hP hD hS ls hl
    refine lv_aload_n hx hb dX7_takeNumber_94 rfl (lv_at hl 2 rfl) ?_
    refine va_get (D := D) (ci := 7) (v := .int k94_F_a_2) (C := RX7) (T := TX7) (N := 4) hx hb hT i_X7 hown hK hP 0 rfl rfl 2 (by decide) (hT _ q_129) (fun _ h9 => h9) rfl dX7_takeNumber_95 ?_
    refine lv_iload_n hx hb dX7_takeNumber_98 rfl (lv_at hl 1 rfl) ?_
    refine lv_icmp_ne (tgt := 111) hx hb dX7_takeNumber_99 (by decide) (fun c4 => ?_) (fun c4 => ?_)
    · refine lv_aload_n hx hb dX7_takeNumber_111 rfl (lv_at hl 2 rfl) ?_
      refine va_get (D := D) (ci := 7) (v := .int k94_F_a_2) (C := RX7) (T := TX7) (N := 4) hx hb hT i_X7 hown hK hP 0 rfl rfl 2 (by decide) (hT _ q_129) (fun _ h9 => h9) rfl dX7_takeNumber_112 ?_
      refine lv_iload_n hx hb dX7_takeNumber_115 rfl (lv_at hl 1 rfl) ?_
      refine lv_isub hx hb dX7_takeNumber_116 ?_
      refine lv_topi (fun v5 ev5 => ?_)
      have hv5 : IV (-400) 400 v5 := iv_sub ev5 q94_2 q94_3 (by decide) (by decide)
      refine lv_iconst (v := 5) hx hb dX7_takeNumber_117 (by decide) ?_
      refine lv_icmp_gt (tgt := 133) hx hb dX7_takeNumber_118 (by decide) (fun c6 => ?_) (fun c6 => ?_)
      · have h7 : IV 6 400 v5 := iv_lt2 c6 (iv_c (a := 5) (b := 5) (by decide)) hv5 (by decide)
        exact K133 k94_L_4 k94_L_3 k94_F_a_2 q94_2 q94_3 H locs (hP.sub (ws' := [(a, .inr (7, [.ref a_bytes, .int a__length, .int k94_F_a_2, .int a__fault])), (a_bytes, .inl (cs 0, 400, .inl a_bytes_c))]) [0, 1] rfl) (hD.sub (ws' := [(a, .inr (7, [.ref a_bytes, .int a__length, .int k94_F_a_2, .int a__fault])), (a_bytes, .inl (cs 0, 400, .inl a_bytes_c))]) [0, 1] (by decide) rfl) hS ls (lv_sub hl [0, 1, 2, 3, 4] rfl)
      · have h8 : IV (-400) 5 v5 := iv_le1 (Int32.not_lt.mp c6) hv5 (iv_c (a := 5) (b := 5) (by decide)) (by decide)
        refine lv_iload hx hb dX7_takeNumber_121 (lv_at hl 0 rfl) ?_
        refine lv_iload_n hx hb dX7_takeNumber_123 rfl (lv_at hl 3 rfl) ?_
        refine lv_icmp_lt (tgt := 133) hx hb dX7_takeNumber_124 (by decide) (fun c9 => ?_) (fun c9 => ?_)
        · have h10 : IV (-2147483648) (-1) k94_L_4 := iv_lt1 c9 iv_top (iv_c (a := 0) (b := 0) (by decide)) (by decide)
          exact K133 k94_L_4 k94_L_3 k94_F_a_2 q94_2 q94_3 H locs (hP.sub (ws' := [(a, .inr (7, [.ref a_bytes, .int a__length, .int k94_F_a_2, .int a__fault])), (a_bytes, .inl (cs 0, 400, .inl a_bytes_c))]) [0, 1] rfl) (hD.sub (ws' := [(a, .inr (7, [.ref a_bytes, .int a__length, .int k94_F_a_2, .int a__fault])), (a_bytes, .inl (cs 0, 400, .inl a_bytes_c))]) [0, 1] (by decide) rfl) hS ls (lv_sub hl [0, 1, 2, 3, 4] rfl)
        · have h11 : IV 0 2147483647 k94_L_4 := iv_le2 (Int32.not_lt.mp c9) (iv_c (a := 0) (b := 0) (by decide)) iv_top (by decide)
          refine lv_iload hx hb dX7_takeNumber_127 (lv_at hl 0 rfl) ?_
          refine lv_iload_n hx hb dX7_takeNumber_129 rfl (lv_at hl 4 rfl) ?_
          refine lv_icmp_le (tgt := 139) hx hb dX7_takeNumber_130 (by decide) (fun c12 => ?_) (fun c12 => ?_)
          · have h13 : IV 0 7 k94_L_4 := iv_le1 c12 h11 (iv_c (a := 7) (b := 7) (by decide)) (by decide)
            refine lv_iload hx hb dX7_takeNumber_139 (lv_at hl 0 rfl) ?_
            refine W.widen (k := 0) (n := 0) (Nat.le_of_ble_eq_true rfl) (Nat.le_of_ble_eq_true rfl) ?_
            exact W.iret (v := k94_L_4) hx hb hr (fun t ht hW => ⟨⟨k94_L_4, (fun k => match k with | 0 => a__fault | 1 => k94_F_a_2 | _ => 0, fun _ _ => 0), rfl, (Or.inl (⟨h13, h_a__fault, q94_2⟩)), by rw [ht]; exact hP.sub [0, 1] rfl, hD.sub [0, 1] (by decide) rfl⟩, hS.F ht⟩) hS.2.2 dX7_takeNumber_141
          · have h14 : IV 8 2147483647 k94_L_4 := iv_lt2 (Int32.not_le.mp c12) (iv_c (a := 7) (b := 7) (by decide)) h11 (by decide)
            exact K133 k94_L_4 k94_L_3 k94_F_a_2 q94_2 q94_3 H locs (hP.sub (ws' := [(a, .inr (7, [.ref a_bytes, .int a__length, .int k94_F_a_2, .int a__fault])), (a_bytes, .inl (cs 0, 400, .inl a_bytes_c))]) [0, 1] rfl) (hD.sub (ws' := [(a, .inr (7, [.ref a_bytes, .int a__length, .int k94_F_a_2, .int a__fault])), (a_bytes, .inl (cs 0, 400, .inl a_bytes_c))]) [0, 1] (by decide) rfl) hS ls (lv_sub hl [0, 1, 2, 3, 4] rfl)
    · refine lv_aload_n hx hb dX7_takeNumber_102 rfl (lv_at hl 2 rfl) ?_
      refine lv_iload_n hx hb dX7_takeNumber_103 rfl (lv_at hl 1 rfl) ?_
      refine lv_iconst (v := 0) hx hb dX7_takeNumber_104 (by decide) ?_
      have hFc := va_free (wc := [(a, .inr (7, [.ref a_bytes, .int a__length, .int k94_F_a_2, .int a__fault]))]) hD hS hA [0] rfl
      refine va_callv (va_runV (As := [.int k94_L_3, .int 0]) (rest := []) ⟨hx, hb, hml, hown, hT⟩ (c_X7_fail l D cs kK kV a k94_L_3 0 a_bytes a__length k94_F_a_2 a__fault q94_3 ((iv_c (by decide))) h_a__fault H.size) (cwV 2 hT (hz_gV q_633 q_445 q_446 q_221 q_447) rfl rfl rfl (by decide +kernel) ⟨(Nat.le_of_ble_eq_true rfl), (Nat.le_of_ble_eq_true rfl)⟩) ⟨hz_C.blind, va_recv hK hP (ci := 7) (q0 := 0) rfl rfl, hz_C.mk (hP.sub (ws' := [(a, .inr (7, [.ref a_bytes, .int a__length, .int k94_F_a_2, .int a__fault]))]) [0] rfl) (hD.sub (ws' := [(a, .inr (7, [.ref a_bytes, .int a__length, .int k94_F_a_2, .int a__fault]))]) [0] (by decide) rfl) hE hS hFc⟩ rfl rfl hl.1 rfl (lv_room (Nat.le_of_ble_eq_true rfl)) dX7_takeNumber_105 ⟨(Nat.le_of_ble_eq_true rfl), (Nat.le_of_ble_eq_true rfl)⟩) hS (fun q _ h => hFc q h) hFc (fun o16 t H1 locs ht hvm hw hB hz1 hk1 hS => ?_)
      obtain ⟨hP1, hD1⟩ := hB
      rw [ht] at hP1
      obtain ⟨hP, hD⟩ := va_join (wr := [(a_bytes, .inl (cs 0, 400, .inl a_bytes_c))]) (w1 := [(a, .inr (7, [.ref a_bytes, .int a__length, .int k94_F_a_2, .int (o16.1 0)]))]) hP hD [0] [1] rfl rfl (by decide) (by decide) hk1 hFc hP1 hD1
      generalize H1 = H at hP hS ⊢
      have hP : va_P D classes [(a_bytes, .inl (cs 0, 400, .inl a_bytes_c)), (a, .inr (7, [.ref a_bytes, .int a__length, .int k94_F_a_2, .int (o16.1 0)]))] H := hP
      have hD : va_D A [(a_bytes, .inl (cs 0, 400, .inl a_bytes_c)), (a, .inr (7, [.ref a_bytes, .int a__length, .int k94_F_a_2, .int (o16.1 0)]))] := hD
      clear hk1 hFc hP1 hD1 hz1
      have h17 := hw
      refine lv_goto (tgt := 139) hx hb dX7_takeNumber_108 (by decide) ?_
      refine lv_iload hx hb dX7_takeNumber_139 (lv_at hl 0 rfl) ?_
      refine W.widen (k := 0) (n := 0) (Nat.le_of_ble_eq_true rfl) (Nat.le_of_ble_eq_true rfl) ?_
      exact W.iret (v := k94_L_4) hx hb hr (fun t ht hW => ⟨⟨k94_L_4, (fun k => match k with | 0 => o16.1 0 | 1 => k94_F_a_2 | _ => 0, fun _ _ => 0), rfl, (Or.inr ((⟨h17, q94_2⟩))), by rw [ht]; exact hP.sub [1, 0] rfl, hD.sub [1, 0] (by decide) rfl⟩, hS.F ht⟩) hS.2.2 dX7_takeNumber_141
  have K12 : ∀ (n : Nat) (k12_L_4 : Int32) (k12_L_3 : Int32) (k12_F_a_2 : Int32), (400 - k12_F_a_2.toInt + 1).toNat ≤ n → IV 0 400 k12_F_a_2 → IV 0 400 k12_L_3 → ∀ (H : Heap) (locs : List Loc), va_P D classes [(a, .inr (7, [.ref a_bytes, .int a__length, .int k12_F_a_2, .int a__fault])), (a_bytes, .inl (cs 0, 400, .inl a_bytes_c))] H → va_D A [(a, .inr (7, [.ref a_bytes, .int a__length, .int k12_F_a_2, .int a__fault])), (a_bytes, .inl (cs 0, 400, .inl a_bytes_c))] → va_S A s.heap H locs → ∀ ls : Array Slot, lv_has ls 5 [(4, .int k12_L_4), (3, .int k12_L_3), (0, .ref a), (1, .int 0), (2, .int 7)] → W p l e (headSpec (hz_w yX7_takeNumber cX7_takeNumber 5 (some .int)) ({ frames := 1, cells := 0, slots := 0, locals := 22 })).room s m [.ref a, .int 0, .int 7].toArray below meth c H locs 0 0 (MQ below (va_Qi (fun (r : Int32) (u : (Nat → Int32) × (Nat → Nat → Int32)) => (IV 0 7 r ∧ IV 0 3205 (u.1 0) ∧ IV 0 400 (u.1 1)) ∨ (IV 1 3205 (u.1 0) ∧ IV 0 400 (u.1 1))) (fun u t => va_P D classes [(a, .inr (7, [.ref a_bytes, .int a__length, .int (u.1 1), .int (u.1 0)])), (a_bytes, .inl (cs 0, 400, .inl a_bytes_c))] t.heap ∧ va_D A [(a, .inr (7, [.ref a_bytes, .int a__length, .int (u.1 1), .int (u.1 0)])), (a_bytes, .inl (cs 0, 400, .inl a_bytes_c))]) A) [.ref a, .int 0, .int 7].toArray s 0 0 A) (F0 m 12 ls []) := by
    intro n
    induction n with
    | zero =>
      intro k12_L_4 k12_L_3 k12_F_a_2 hn q12_2 q12_3 H locs hP hD hS ls hl
      exact absurd hn (by unfold IV at q12_2; omega)
    | succ n ih12 =>
      intro k12_L_4 k12_L_3 k12_F_a_2 hn q12_2 q12_3 H locs hP hD hS ls hl
      have K81 : ∀ (k81_L_4 : Int32), IV 1 400 a__length → IV 0 399 k12_F_a_2 → IV 0 400 k12_L_3 → ∀ (H : Heap) (locs : List Loc), va_P D classes [(a, .inr (7, [.ref a_bytes, .int a__length, .int k12_F_a_2, .int a__fault])), (a_bytes, .inl (cs 0, 400, .inl a_bytes_c))] H → va_D A [(a, .inr (7, [.ref a_bytes, .int a__length, .int k12_F_a_2, .int a__fault])), (a_bytes, .inl (cs 0, 400, .inl a_bytes_c))] → va_S A s.heap H locs → ∀ ls : Array Slot, lv_has ls 5 [(4, .int k81_L_4), (3, .int k12_L_3), (0, .ref a), (1, .int 0), (2, .int 7)] → W p l e (headSpec (hz_w yX7_takeNumber cX7_takeNumber 5 (some .int)) ({ frames := 1, cells := 0, slots := 0, locals := 22 })).room s m [.ref a, .int 0, .int 7].toArray below meth c H locs 0 0 (MQ below (va_Qi (fun (r : Int32) (u : (Nat → Int32) × (Nat → Nat → Int32)) => (IV 0 7 r ∧ IV 0 3205 (u.1 0) ∧ IV 0 400 (u.1 1)) ∨ (IV 1 3205 (u.1 0) ∧ IV 0 400 (u.1 1))) (fun u t => va_P D classes [(a, .inr (7, [.ref a_bytes, .int a__length, .int (u.1 1), .int (u.1 0)])), (a_bytes, .inl (cs 0, 400, .inl a_bytes_c))] t.heap ∧ va_D A [(a, .inr (7, [.ref a_bytes, .int a__length, .int (u.1 1), .int (u.1 0)])), (a_bytes, .inl (cs 0, 400, .inl a_bytes_c))]) A) [.ref a, .int 0, .int 7].toArray s 0 0 A) (F0 m 81 ls []) := by
        intro k81_L_4 q81_1 q81_2 q81_3 H locs hP hD hS ls hl
        refine lv_aload_n hx hb dX7_takeNumber_81 rfl (lv_at hl 2 rfl) ?_
        refine lv_dup hx hb dX7_takeNumber_82 rfl ?_
        refine va_get (D := D) (ci := 7) (v := .int k12_F_a_2) (C := RX7) (T := TX7) (N := 4) hx hb hT i_X7 hown hK hP 0 rfl rfl 2 (by decide) (hT _ q_129) (fun _ h9 => h9) rfl dX7_takeNumber_83 ?_
        refine lv_iconst (v := 1) hx hb dX7_takeNumber_86 (by decide) ?_
        refine lv_iadd hx hb dX7_takeNumber_87 ?_
        refine lv_topi (fun v18 ev18 => ?_)
        have hv18 : IV 1 400 v18 := iv_add ev18 q81_2 (iv_c (a := 1) (b := 1) (by decide)) (by decide) (by decide)
        have dv18 : v18.toInt = k12_F_a_2.toInt + 1 := iv_addE ev18 q81_2 (iv_c (a := 1) (b := 1) (by decide)) (by decide) (by decide) (by decide)
        refine va_put (D := D) (ci := 7) (v := .int v18) (ty := .int) (C := RX7) (T := TX7) (N := 4) hx hb hT i_X7 tyX7 tyX7_ok nmX7 hown hK hP hD hS 0 rfl rfl 2 (by decide) (hT _ q_129) (fun _ h9 => h9) rfl (by decide +kernel) rfl rfl (Nat.le_of_ble_eq_true rfl) dX7_takeNumber_88 (fun H locs hP hD hS => ?_)
        have hP : va_P D classes [(a, .inr (7, [.ref a_bytes, .int a__length, .int v18, .int a__fault])), (a_bytes, .inl (cs 0, 400, .inl a_bytes_c))] H := hP
        have hD : va_D A [(a, .inr (7, [.ref a_bytes, .int a__length, .int v18, .int a__fault])), (a_bytes, .inl (cs 0, 400, .inl a_bytes_c))] := hD
        refine lv_goto (tgt := 12) hx hb dX7_takeNumber_91 (by decide) ?_
        exact ih12 k81_L_4 k12_L_3 v18 (by have h9 := q81_2; unfold IV at h9; have := dv18; omega) (iv_w hv18 (by decide) (by decide)) q81_3 H locs (hP.sub (ws' := [(a, .inr (7, [.ref a_bytes, .int a__length, .int v18, .int a__fault])), (a_bytes, .inl (cs 0, 400, .inl a_bytes_c))]) [0, 1] rfl) (hD.sub (ws' := [(a, .inr (7, [.ref a_bytes, .int a__length, .int v18, .int a__fault])), (a_bytes, .inl (cs 0, 400, .inl a_bytes_c))]) [0, 1] (by decide) rfl) hS ls (lv_sub hl [0, 1, 2, 3, 4] rfl)
      refine lv_aload_n hx hb dX7_takeNumber_12 rfl (lv_at hl 2 rfl) ?_
      refine va_get (D := D) (ci := 7) (v := .int k12_F_a_2) (C := RX7) (T := TX7) (N := 4) hx hb hT i_X7 hown hK hP 0 rfl rfl 2 (by decide) (hT _ q_129) (fun _ h9 => h9) rfl dX7_takeNumber_13 ?_
      refine lv_aload_n hx hb dX7_takeNumber_16 rfl (lv_at hl 2 rfl) ?_
      refine va_get (D := D) (ci := 7) (v := .int a__length) (C := RX7) (T := TX7) (N := 4) hx hb hT i_X7 hown hK hP 0 rfl rfl 1 (by decide) (hT _ q_128) (fun _ h9 => h9) rfl dX7_takeNumber_17 ?_
      refine lv_icmp_ge (tgt := 94) hx hb dX7_takeNumber_20 (by decide) (fun c19 => ?_) (fun c19 => ?_)
      · exact K94 k12_L_4 k12_L_3 k12_F_a_2 q12_2 q12_3 H locs (hP.sub (ws' := [(a, .inr (7, [.ref a_bytes, .int a__length, .int k12_F_a_2, .int a__fault])), (a_bytes, .inl (cs 0, 400, .inl a_bytes_c))]) [0, 1] rfl) (hD.sub (ws' := [(a, .inr (7, [.ref a_bytes, .int a__length, .int k12_F_a_2, .int a__fault])), (a_bytes, .inl (cs 0, 400, .inl a_bytes_c))]) [0, 1] (by decide) rfl) hS ls (lv_sub hl [0, 1, 2, 3, 4] rfl)
      · have h20 : IV 0 399 k12_F_a_2 := iv_lt1 (Int32.not_le.mp c19) q12_2 h_a__length (by decide)
        have h21 : IV 1 400 a__length := iv_lt2 (Int32.not_le.mp c19) q12_2 h_a__length (by decide)
        refine lv_aload_n hx hb dX7_takeNumber_23 rfl (lv_at hl 2 rfl) ?_
        refine va_get (D := D) (ci := 7) (v := .ref a_bytes) (C := RX7) (T := TX7) (N := 4) hx hb hT i_X7 hown hK hP 0 rfl rfl 0 (by decide) (hT _ q_127) (fun _ h9 => h9) rfl dX7_takeNumber_24 ?_
        refine lv_aload_n hx hb dX7_takeNumber_27 rfl (lv_at hl 2 rfl) ?_
        refine va_get (D := D) (ci := 7) (v := .int k12_F_a_2) (C := RX7) (T := TX7) (N := 4) hx hb hT i_X7 hown hK hP 0 rfl rfl 2 (by decide) (hT _ q_129) (fun _ h9 => h9) rfl dX7_takeNumber_28 ?_
        refine va_iald hx hb hK hP 1 0 rfl rfl (iv_v h20 (by decide) (by decide)) dX7_takeNumber_31 ?_
        refine lv_topi (fun v22 ev22 => ?_)
        have hv22 : IV 0 255 v22 := iv_ci ev22 h_a_bytes_c (iv_v h20 (by decide) (by decide))
        refine lv_bipush (v := 48) hx hb dX7_takeNumber_32 (by decide) ?_
        refine lv_icmp_lt (tgt := 94) hx hb dX7_takeNumber_34 (by decide) (fun c23 => ?_) (fun c23 => ?_)
        · have h24 : IV 0 47 v22 := iv_lt1 c23 hv22 (iv_c (a := 48) (b := 48) (by decide)) (by decide)
          exact K94 k12_L_4 k12_L_3 k12_F_a_2 (iv_w h20 (by decide) (by decide)) q12_3 H locs (hP.sub (ws' := [(a, .inr (7, [.ref a_bytes, .int a__length, .int k12_F_a_2, .int a__fault])), (a_bytes, .inl (cs 0, 400, .inl a_bytes_c))]) [0, 1] rfl) (hD.sub (ws' := [(a, .inr (7, [.ref a_bytes, .int a__length, .int k12_F_a_2, .int a__fault])), (a_bytes, .inl (cs 0, 400, .inl a_bytes_c))]) [0, 1] (by decide) rfl) hS ls (lv_sub hl [0, 1, 2, 3, 4] rfl)
        · have h25 : IV 48 255 v22 := iv_le2 (Int32.not_lt.mp c23) (iv_c (a := 48) (b := 48) (by decide)) hv22 (by decide)
          refine lv_aload_n hx hb dX7_takeNumber_37 rfl (lv_at hl 2 rfl) ?_
          refine va_get (D := D) (ci := 7) (v := .ref a_bytes) (C := RX7) (T := TX7) (N := 4) hx hb hT i_X7 hown hK hP 0 rfl rfl 0 (by decide) (hT _ q_127) (fun _ h9 => h9) rfl dX7_takeNumber_38 ?_
          refine lv_aload_n hx hb dX7_takeNumber_41 rfl (lv_at hl 2 rfl) ?_
          refine va_get (D := D) (ci := 7) (v := .int k12_F_a_2) (C := RX7) (T := TX7) (N := 4) hx hb hT i_X7 hown hK hP 0 rfl rfl 2 (by decide) (hT _ q_129) (fun _ h9 => h9) rfl dX7_takeNumber_42 ?_
          refine va_iald hx hb hK hP 1 0 rfl rfl (iv_v h20 (by decide) (by decide)) dX7_takeNumber_45 ?_
          refine hz_ev v22 ev22.symm ?_
          refine lv_bipush (v := 57) hx hb dX7_takeNumber_46 (by decide) ?_
          refine lv_icmp_gt (tgt := 94) hx hb dX7_takeNumber_48 (by decide) (fun c26 => ?_) (fun c26 => ?_)
          · have h27 : IV 58 255 v22 := iv_lt2 c26 (iv_c (a := 57) (b := 57) (by decide)) h25 (by decide)
            exact K94 k12_L_4 k12_L_3 k12_F_a_2 (iv_w h20 (by decide) (by decide)) q12_3 H locs (hP.sub (ws' := [(a, .inr (7, [.ref a_bytes, .int a__length, .int k12_F_a_2, .int a__fault])), (a_bytes, .inl (cs 0, 400, .inl a_bytes_c))]) [0, 1] rfl) (hD.sub (ws' := [(a, .inr (7, [.ref a_bytes, .int a__length, .int k12_F_a_2, .int a__fault])), (a_bytes, .inl (cs 0, 400, .inl a_bytes_c))]) [0, 1] (by decide) rfl) hS ls (lv_sub hl [0, 1, 2, 3, 4] rfl)
          · have h28 : IV 48 57 v22 := iv_le1 (Int32.not_lt.mp c26) h25 (iv_c (a := 57) (b := 57) (by decide)) (by decide)
            refine lv_aload_n hx hb dX7_takeNumber_51 rfl (lv_at hl 2 rfl) ?_
            refine va_get (D := D) (ci := 7) (v := .int k12_F_a_2) (C := RX7) (T := TX7) (N := 4) hx hb hT i_X7 hown hK hP 0 rfl rfl 2 (by decide) (hT _ q_129) (fun _ h9 => h9) rfl dX7_takeNumber_52 ?_
            refine lv_iload_n hx hb dX7_takeNumber_55 rfl (lv_at hl 1 rfl) ?_
            refine lv_isub hx hb dX7_takeNumber_56 ?_
            refine lv_topi (fun v29 ev29 => ?_)
            have hv29 : IV (-400) 399 v29 := iv_sub ev29 h20 q12_3 (by decide) (by decide)
            refine lv_iconst (v := 5) hx hb dX7_takeNumber_57 (by decide) ?_
            refine lv_icmp_ge (tgt := 81) hx hb dX7_takeNumber_58 (by decide) (fun c30 => ?_) (fun c30 => ?_)
            · have h31 : IV 5 399 v29 := iv_le2 c30 (iv_c (a := 5) (b := 5) (by decide)) hv29 (by decide)
              exact K81 k12_L_4 h21 h20 q12_3 H locs (hP.sub (ws' := [(a, .inr (7, [.ref a_bytes, .int a__length, .int k12_F_a_2, .int a__fault])), (a_bytes, .inl (cs 0, 400, .inl a_bytes_c))]) [0, 1] rfl) (hD.sub (ws' := [(a, .inr (7, [.ref a_bytes, .int a__length, .int k12_F_a_2, .int a__fault])), (a_bytes, .inl (cs 0, 400, .inl a_bytes_c))]) [0, 1] (by decide) rfl) hS ls (lv_sub hl [0, 1, 2, 3, 4] rfl)
            · have h32 : IV (-400) 4 v29 := iv_lt1 (Int32.not_le.mp c30) hv29 (iv_c (a := 5) (b := 5) (by decide)) (by decide)
              refine lv_iload hx hb dX7_takeNumber_61 (lv_at hl 0 rfl) ?_
              refine lv_bipush (v := 10) hx hb dX7_takeNumber_63 (by decide) ?_
              refine lv_imul hx hb dX7_takeNumber_65 ?_
              refine lv_topi (fun v33 ev33 => ?_)
              refine lv_aload_n hx hb dX7_takeNumber_66 rfl (lv_at hl 2 rfl) ?_
              refine va_get (D := D) (ci := 7) (v := .ref a_bytes) (C := RX7) (T := TX7) (N := 4) hx hb hT i_X7 hown hK hP 0 rfl rfl 0 (by decide) (hT _ q_127) (fun _ h9 => h9) rfl dX7_takeNumber_67 ?_
              refine lv_aload_n hx hb dX7_takeNumber_70 rfl (lv_at hl 2 rfl) ?_
              refine va_get (D := D) (ci := 7) (v := .int k12_F_a_2) (C := RX7) (T := TX7) (N := 4) hx hb hT i_X7 hown hK hP 0 rfl rfl 2 (by decide) (hT _ q_129) (fun _ h9 => h9) rfl dX7_takeNumber_71 ?_
              refine va_iald hx hb hK hP 1 0 rfl rfl (iv_v h20 (by decide) (by decide)) dX7_takeNumber_74 ?_
              refine hz_ev v22 ev22.symm ?_
              refine lv_iadd hx hb dX7_takeNumber_75 ?_
              refine lv_topi (fun v34 ev34 => ?_)
              refine lv_bipush (v := 48) hx hb dX7_takeNumber_76 (by decide) ?_
              refine lv_isub hx hb dX7_takeNumber_78 ?_
              refine lv_topi (fun v35 ev35 => ?_)
              refine lv_istore (lv' := [(4, .int v35), (3, .int k12_L_3), (0, .ref a), (1, .int 0), (2, .int 7)]) hx hb dX7_takeNumber_79 hl (by decide) rfl (fun ls hl => ?_)
              exact K81 v35 h21 h20 q12_3 H locs (hP.sub (ws' := [(a, .inr (7, [.ref a_bytes, .int a__length, .int k12_F_a_2, .int a__fault])), (a_bytes, .inl (cs 0, 400, .inl a_bytes_c))]) [0, 1] rfl) (hD.sub (ws' := [(a, .inr (7, [.ref a_bytes, .int a__length, .int k12_F_a_2, .int a__fault])), (a_bytes, .inl (cs 0, 400, .inl a_bytes_c))]) [0, 1] (by decide) rfl) hS ls (lv_sub hl [0, 1, 2, 3, 4] rfl)
  refine lv_aload_n hx hb dX7_takeNumber_0 rfl (lv_at hl 0 rfl) ?_
  have hFc := va_free (wc := [(a, .inr (7, [.ref a_bytes, .int a__length, .int a__place, .int a__fault])), (a_bytes, .inl (cs 0, 400, .inl a_bytes_c))]) hD hS hA [0,1] rfl
  refine va_callv (va_runV (As := []) (rest := []) ⟨hx, hb, hml, hown, hT⟩ (c_X7_skipBlanks l D cs kK kV a a_bytes a__length a__place a__fault a_bytes_c h_a__length h_a__place h_a_bytes_c H.size) (cwV 0 hT (hz_gV q_631 q_437 q_438 q_221 q_439) rfl rfl rfl (by decide +kernel) ⟨(Nat.le_of_ble_eq_true rfl), (Nat.le_of_ble_eq_true rfl)⟩) ⟨hz_C.blind, va_recv hK hP (ci := 7) (q0 := 0) rfl rfl, hz_C.mk (hP.sub (ws' := [(a, .inr (7, [.ref a_bytes, .int a__length, .int a__place, .int a__fault])), (a_bytes, .inl (cs 0, 400, .inl a_bytes_c))]) [0,1] rfl) (hD.sub (ws' := [(a, .inr (7, [.ref a_bytes, .int a__length, .int a__place, .int a__fault])), (a_bytes, .inl (cs 0, 400, .inl a_bytes_c))]) [0,1] (by decide) rfl) hE hS hFc⟩ rfl rfl hl.1 rfl (lv_room (Nat.le_of_ble_eq_true rfl)) dX7_takeNumber_1 ⟨(Nat.le_of_ble_eq_true rfl), (Nat.le_of_ble_eq_true rfl)⟩) hS (fun q _ h => hFc q h) hFc (fun u t H1 locs ht hvm hw hB hz1 hk1 hS => ?_)
  obtain ⟨o37, h38, hP1, hD1⟩ := hB
  rw [ht] at hP1
  obtain ⟨hP, hD⟩ := va_join (wr := []) (w1 := [(a, .inr (7, [.ref a_bytes, .int a__length, .int o37, .int a__fault])), (a_bytes, .inl (cs 0, 400, .inl a_bytes_c))]) hP hD [0, 1] [] rfl rfl (by decide) (by decide) hk1 hFc hP1 hD1
  generalize H1 = H at hP hS ⊢
  have hP : va_P D classes [(a, .inr (7, [.ref a_bytes, .int a__length, .int o37, .int a__fault])), (a_bytes, .inl (cs 0, 400, .inl a_bytes_c))] H := hP
  have hD : va_D A [(a, .inr (7, [.ref a_bytes, .int a__length, .int o37, .int a__fault])), (a_bytes, .inl (cs 0, 400, .inl a_bytes_c))] := hD
  clear hk1 hFc hP1 hD1 hz1
  refine lv_aload_n hx hb dX7_takeNumber_4 rfl (lv_at hl 0 rfl) ?_
  refine va_get (D := D) (ci := 7) (v := .int o37) (C := RX7) (T := TX7) (N := 4) hx hb hT i_X7 hown hK hP 0 rfl rfl 2 (by decide) (hT _ q_129) (fun _ h9 => h9) rfl dX7_takeNumber_5 ?_
  refine lv_istore_n (lv' := [(3, .int o37), (0, .ref a), (1, .int 0), (2, .int 7)]) hx hb dX7_takeNumber_8 rfl hl (by decide) rfl (fun ls hl => ?_)
  refine lv_iconst (v := 0) hx hb dX7_takeNumber_9 (by decide) ?_
  refine lv_istore (lv' := [(4, .int 0), (3, .int o37), (0, .ref a), (1, .int 0), (2, .int 7)]) hx hb dX7_takeNumber_10 hl (by decide) rfl (fun ls hl => ?_)
  exact K12 _ 0 o37 o37 (Nat.le_refl _) h38 h38 H locs (hP.sub (ws' := [(a, .inr (7, [.ref a_bytes, .int a__length, .int o37, .int a__fault])), (a_bytes, .inl (cs 0, 400, .inl a_bytes_c))]) [0, 1] rfl) (hD.sub (ws' := [(a, .inr (7, [.ref a_bytes, .int a__length, .int o37, .int a__fault])), (a_bytes, .inl (cs 0, 400, .inl a_bytes_c))]) [0, 1] (by decide) rfl) hS ls (lv_sub hl [0, 1, 2, 3, 4] rfl)
set_option maxHeartbeats 4000000 in
set_option maxRecDepth 100000 in
theorem c_X0_numberTold_73 (l : Launch) (D : va_G) (cs : Nat → ClassId) (kK kV : Nat → Nat) (a : Nat) (a_tape : Nat) (a_told : Nat) (a__kindsTold : Int32) (a_tape_bytes : Nat) (a_tape__length : Int32) (a_tape__place : Int32) (a_tape__fault : Int32) (a_tape_bytes_c : Nat → Int32) (h_a_tape__length : IV 0 400 a_tape__length) (h_a_tape__place : IV 0 400 a_tape__place) (h_a_tape__fault : IV 0 3205 a_tape__fault) (h_a_tape_bytes_c : CI 400 0 255 a_tape_bytes_c) (sz : Nat) : Met l yX0_numberTold (hz_w yX0_numberTold cX0_numberTold 3 (some .int)) ({ frames := 2, cells := 0, slots := 0, locals := 46 }) (va_Pc [.ref a, .int 0, .int 7] (hz_C D cs kK kV sz [(a, .inr (0, [.ref a_tape, .ref a_told, .int a__kindsTold])), (a_tape, .inr (7, [.ref a_tape_bytes, .int a_tape__length, .int a_tape__place, .int a_tape__fault])), (a_tape_bytes, .inl (cs 0, 400, .inl a_tape_bytes_c))])) (va_Qi (fun (r : Int32) (u : (Nat → Int32) × (Nat → Nat → Int32)) => (r = 0 ∧ IV 1 3205 (u.1 0) ∧ IV 1 3205 a_tape__fault ∧ IV 0 400 (u.1 1)) ∨ (IV 0 7 r ∧ IV 0 3205 (u.1 0) ∧ IV 0 0 a_tape__fault ∧ IV 0 400 (u.1 1)) ∨ (IV 1 3205 (u.1 0) ∧ IV 0 0 a_tape__fault ∧ IV 0 400 (u.1 1))) (fun u t => va_P D classes [(a, .inr (0, [.ref a_tape, .ref a_told, .int a__kindsTold])), (a_tape, .inr (7, [.ref a_tape_bytes, .int a_tape__length, .int (u.1 1), .int (u.1 0)])), (a_tape_bytes, .inl (cs 0, 400, .inl a_tape_bytes_c))] t.heap ∧ va_D (va_A [(a, .inr (0, [.ref a_tape, .ref a_told, .int a__kindsTold])), (a_tape, .inr (7, [.ref a_tape_bytes, .int a_tape__length, .int a_tape__place, .int a_tape__fault])), (a_tape_bytes, .inl (cs 0, 400, .inl a_tape_bytes_c))] sz) [(a, .inr (0, [.ref a_tape, .ref a_told, .int a__kindsTold])), (a_tape, .inr (7, [.ref a_tape_bytes, .int a_tape__length, .int (u.1 1), .int (u.1 0)])), (a_tape_bytes, .inl (cs 0, 400, .inl a_tape_bytes_c))]) (va_A [(a, .inr (0, [.ref a_tape, .ref a_told, .int a__kindsTold])), (a_tape, .inr (7, [.ref a_tape_bytes, .int a_tape__length, .int a_tape__place, .int a_tape__fault])), (a_tape_bytes, .inl (cs 0, 400, .inl a_tape_bytes_c))] sz)) 0 0 (va_A [(a, .inr (0, [.ref a_tape, .ref a_told, .int a__kindsTold])), (a_tape, .inr (7, [.ref a_tape_bytes, .int a_tape__length, .int a_tape__place, .int a_tape__fault])), (a_tape_bytes, .inl (cs 0, 400, .inl a_tape_bytes_c))] sz) := by
  refine Met.ofW (cc := cX0_numberTold) (maxL := 3) (ret := (some .int)) (by decide) rfl ?_
  intro p e s m args below meth c s₁ B hml hv
  obtain ⟨rfl, hsz, hP, hD0, hE⟩ := hv
  have hx := B.exec
  have hb := B.bytes
  have hr := B.returns
  have hT : ∀ w ∈ TB, w.before _ s = true := fun w h => atoms_spec (ws := hz_w yX0_numberTold cX0_numberTold 3 (some .int)) B.pre w (List.mem_cons_of_mem _ h)
  have hown : s.vm.findClass RX0 = some m.cls := findClass_of_methodNamed B.named
  have hlocks := B.notSynchronized
  clear B
  subst hsz
  have hD := hD0.self (sz := s.heap.size)
  generalize hAe : va_A [(a, .inr (0, [.ref a_tape, .ref a_told, .int a__kindsTold])), (a_tape, .inr (7, [.ref a_tape_bytes, .int a_tape__length, .int a_tape__place, .int a_tape__fault])), (a_tape_bytes, .inl (cs 0, 400, .inl a_tape_bytes_c))] s.heap.size = A at hD hE ⊢
  have hA : ∀ q : Nat, s.heap.size ≤ q → A q := fun q h => by rw [← hAe]; exact Or.inr h
  clear hAe hD0
  have hS : va_S A s.heap s.heap [] := va_S.rf
  have hK := hE.1
  have hl := lv_entry ([.ref a, .int 0, .int 7]) (n := 3) (Nat.le_of_ble_eq_true rfl)
  rw [lg_entry_eq]
  generalize (lg_sl ([.ref a, .int 0, .int 7]) ++ List.replicate (3 - (lg_sl ([.ref a, .int 0, .int 7])).length) Slot.unset).toArray = ls at hl ⊢
  have hl : lv_has ls 3 [(0, .ref a), (1, .int 0), (2, .int 7)] := hl
  obtain ⟨H, eH⟩ : ∃ z, z = s.heap := ⟨_, rfl⟩
  have hP : va_P D classes [(a, .inr (0, [.ref a_tape, .ref a_told, .int a__kindsTold])), (a_tape, .inr (7, [.ref a_tape_bytes, .int a_tape__length, .int a_tape__place, .int a_tape__fault])), (a_tape_bytes, .inl (cs 0, 400, .inl a_tape_bytes_c))] H := by rw [eH]; exact hP
  have hS : va_S A s.heap H [] := by rw [eH]; exact hS
  rw [← eH]
  clear eH
  obtain ⟨locs, el⟩ : ∃ z : List Loc, z = [] := ⟨_, rfl⟩
  rw [← el] at hS ⊢
  clear el
  refine lv_aload_n hx hb dX0_numberTold_0 rfl (lv_at hl 0 rfl) ?_
  refine va_get (D := D) (ci := 0) (v := .ref a_tape) (C := RX0) (T := TX0) (N := 3) hx hb hT i_X0 hown hK hP 0 rfl rfl 0 (by decide) (hT _ q_44) (fun _ h9 => h9) rfl dX0_numberTold_1 ?_
  refine va_calli (va_runV (As := []) (rest := []) ⟨hx, hb, hml, hown, hT⟩ (c_X7_isSound l D cs kK kV a_tape a_tape_bytes a_tape__length a_tape__place a_tape__fault h_a_tape__fault) (cwV 0 hT (hz_gV q_420 q_421 q_422 q_221 q_423) rfl rfl rfl (by decide +kernel) ⟨(Nat.le_of_ble_eq_true rfl), (Nat.le_of_ble_eq_true rfl)⟩) ⟨hz_P.blind, va_recv hK hP (ci := 7) (q0 := 1) rfl rfl, hz_P.mk (hP.sub (ws' := [(a_tape, .inr (7, [.ref a_tape_bytes, .int a_tape__length, .int a_tape__place, .int a_tape__fault]))]) [1] rfl) hE hS⟩ rfl rfl hl.1 rfl (lv_room (Nat.le_of_ble_eq_true rfl)) dX0_numberTold_4 ⟨(Nat.le_of_ble_eq_true rfl), (Nat.le_of_ble_eq_true rfl)⟩) hS (fun _ _ h => h.elim) (fun _ h => h.elim) (fun r1 u t H1 locs ht hvm hw hB hz1 hk1 hS => ?_)
  have hP := hz_keep hP hk1
  clear hk1 hB hz1
  generalize H1 = H at hP hS ⊢
  rcases hw with ⟨rfl, h2⟩ | ⟨rfl, h3⟩
  · refine lv_if_eq (tgt := 22) hx hb dX0_numberTold_7 (by decide) (fun _ => ?_) (fun z => absurd (by decide) z)
    refine lv_iload_n hx hb dX0_numberTold_22 rfl (lv_at hl 1 rfl) ?_
    refine W.widen (k := 0) (n := 0) (Nat.le_of_ble_eq_true rfl) (Nat.le_of_ble_eq_true rfl) ?_
    exact W.iret (v := 0) hx hb hr (fun t ht hW => ⟨⟨0, (fun k => match k with | 0 => a_tape__fault | 1 => a_tape__place | _ => 0, fun _ _ => 0), rfl, (Or.inl (⟨rfl, h2, h2, h_a_tape__place⟩)), by rw [ht]; exact hP.sub [0, 1, 2] rfl, hD.sub [0, 1, 2] (by decide) rfl⟩, hS.F ht⟩) hS.2.2 dX0_numberTold_23
  · refine lv_if_eq (tgt := 22) hx hb dX0_numberTold_7 (by decide) (fun z => absurd z (by decide)) (fun _ => ?_)
    refine lv_aload_n hx hb dX0_numberTold_10 rfl (lv_at hl 0 rfl) ?_
    refine va_get (D := D) (ci := 0) (v := .ref a_tape) (C := RX0) (T := TX0) (N := 3) hx hb hT i_X0 hown hK hP 0 rfl rfl 0 (by decide) (hT _ q_44) (fun _ h9 => h9) rfl dX0_numberTold_11 ?_
    refine lv_iload_n hx hb dX0_numberTold_14 rfl (lv_at hl 1 rfl) ?_
    refine lv_iload_n hx hb dX0_numberTold_15 rfl (lv_at hl 2 rfl) ?_
    have hFc := va_free (wc := [(a_tape, .inr (7, [.ref a_tape_bytes, .int a_tape__length, .int a_tape__place, .int a_tape__fault])), (a_tape_bytes, .inl (cs 0, 400, .inl a_tape_bytes_c))]) hD hS hA [1,2] rfl
    refine va_calli (va_runV (As := [.int 0, .int 7]) (rest := []) ⟨hx, hb, hml, hown, hT⟩ (c_X7_takeNumber_74 l D cs kK kV a_tape a_tape_bytes a_tape__length a_tape__place a_tape__fault a_tape_bytes_c h_a_tape__length h_a_tape__place ((iv_w h3 (by decide) (by decide))) h_a_tape_bytes_c H.size) (cwV 2 hT (hz_gV q_472 q_473 q_474 q_221 q_475) rfl rfl rfl (by decide +kernel) ⟨(Nat.le_of_ble_eq_true rfl), (Nat.le_of_ble_eq_true rfl)⟩) ⟨hz_C.blind, va_recv hK hP (ci := 7) (q0 := 1) rfl rfl, hz_C.mk (hP.sub (ws' := [(a_tape, .inr (7, [.ref a_tape_bytes, .int a_tape__length, .int a_tape__place, .int a_tape__fault])), (a_tape_bytes, .inl (cs 0, 400, .inl a_tape_bytes_c))]) [1,2] rfl) (hD.sub (ws' := [(a_tape, .inr (7, [.ref a_tape_bytes, .int a_tape__length, .int a_tape__place, .int a_tape__fault])), (a_tape_bytes, .inl (cs 0, 400, .inl a_tape_bytes_c))]) [1,2] (by decide) rfl) hE hS hFc⟩ rfl rfl hl.1 rfl (lv_room (Nat.le_of_ble_eq_true rfl)) dX0_numberTold_16 ⟨(Nat.le_of_ble_eq_true rfl), (Nat.le_of_ble_eq_true rfl)⟩) hS (fun q _ h => hFc q h) hFc (fun r4 o5 t H1 locs ht hvm hw hB hz1 hk1 hS => ?_)
    obtain ⟨hP1, hD1⟩ := hB
    rw [ht] at hP1
    obtain ⟨hP, hD⟩ := va_join (wr := [(a, .inr (0, [.ref a_tape, .ref a_told, .int a__kindsTold]))]) (w1 := [(a_tape, .inr (7, [.ref a_tape_bytes, .int a_tape__length, .int (o5.1 1), .int (o5.1 0)])), (a_tape_bytes, .inl (cs 0, 400, .inl a_tape_bytes_c))]) hP hD [1, 2] [0] rfl rfl (by decide) (by decide) hk1 hFc hP1 hD1
    generalize H1 = H at hP hS ⊢
    have hP : va_P D classes [(a, .inr (0, [.ref a_tape, .ref a_told, .int a__kindsTold])), (a_tape, .inr (7, [.ref a_tape_bytes, .int a_tape__length, .int (o5.1 1), .int (o5.1 0)])), (a_tape_bytes, .inl (cs 0, 400, .inl a_tape_bytes_c))] H := hP
    have hD : va_D A [(a, .inr (0, [.ref a_tape, .ref a_told, .int a__kindsTold])), (a_tape, .inr (7, [.ref a_tape_bytes, .int a_tape__length, .int (o5.1 1), .int (o5.1 0)])), (a_tape_bytes, .inl (cs 0, 400, .inl a_tape_bytes_c))] := hD
    clear hk1 hFc hP1 hD1 hz1
    rcases hw with ⟨h6, h7, h8⟩ | ⟨h9, h10⟩
    · refine lv_goto (tgt := 23) hx hb dX0_numberTold_19 (by decide) ?_
      refine W.widen (k := 0) (n := 0) (Nat.le_of_ble_eq_true rfl) (Nat.le_of_ble_eq_true rfl) ?_
      exact W.iret (v := r4) hx hb hr (fun t ht hW => ⟨⟨r4, (fun k => match k with | 0 => o5.1 0 | 1 => o5.1 1 | _ => 0, fun _ _ => 0), rfl, (Or.inr (Or.inl (⟨h6, h7, h3, h8⟩))), by rw [ht]; exact hP.sub [0, 1, 2] rfl, hD.sub [0, 1, 2] (by decide) rfl⟩, hS.F ht⟩) hS.2.2 dX0_numberTold_23
    · refine lv_goto (tgt := 23) hx hb dX0_numberTold_19 (by decide) ?_
      refine W.widen (k := 0) (n := 0) (Nat.le_of_ble_eq_true rfl) (Nat.le_of_ble_eq_true rfl) ?_
      exact W.iret (v := r4) hx hb hr (fun t ht hW => ⟨⟨r4, (fun k => match k with | 0 => o5.1 0 | 1 => o5.1 1 | _ => 0, fun _ _ => 0), rfl, (Or.inr (Or.inr ((⟨h9, h3, h10⟩)))), by rw [ht]; exact hP.sub [0, 1, 2] rfl, hD.sub [0, 1, 2] (by decide) rfl⟩, hS.F ht⟩) hS.2.2 dX0_numberTold_23
set_option maxHeartbeats 4000000 in
set_option maxRecDepth 100000 in
theorem c_X0_isTooMany_75 (l : Launch) (D : va_G) (cs : Nat → ClassId) (kK kV : Nat → Nat) (a : Nat) (a_tape : Nat) (a_told : Nat) (a__kindsTold : Int32) (a_told__stalls : Int32) (a_told__shift : Int32) (a_told__halves : Int32) (a_told__buyers : Int32) (a_told__near : Int32) (a_told__dusk : Int32) (a_told__duskPrice : Int32) (a_told__hear : Int32) (a_told__forged : Int32) (a_told_stall : Nat) (a_told_shape : Nat) (a_told_side : Nat) (a_told_price : Nat) (a_told_purse : Nat) (a_told_spot : Nat) (a_told_club : Nat) (a_told_fitting : Nat) (a_told_nearly : Nat) (h_a_told__halves : IV 0 12 a_told__halves) : Met l yX0_isTooMany (hz_w yX0_isTooMany cX0_isTooMany 2 (some .boolean)) ({ frames := 0, cells := 0, slots := 0, locals := 0 }) (va_Pc [.ref a, .int 1] (hz_P D cs kK kV [(a, .inr (0, [.ref a_tape, .ref a_told, .int a__kindsTold])), (a_told, .inr (8, [.int a_told__stalls, .int a_told__shift, .int a_told__halves, .int a_told__buyers, .int a_told__near, .int a_told__dusk, .int a_told__duskPrice, .int a_told__hear, .int a_told__forged, .ref a_told_stall, .ref a_told_shape, .ref a_told_side, .ref a_told_price, .ref a_told_purse, .ref a_told_spot, .ref a_told_club, .ref a_told_fitting, .ref a_told_nearly]))])) (va_Qi (fun (r : Int32) (_ : Unit) => (r = 0 ∧ IV 0 11 a_told__halves) ∨ (r = 1)) (fun _ t => True) (fun _ => False)) 0 0 (fun _ => False) := by
  refine Met.ofW (cc := cX0_isTooMany) (maxL := 2) (ret := (some .boolean)) (by decide) rfl ?_
  intro p e s m args below meth c s₁ B hml hv
  obtain ⟨rfl, hP, hE⟩ := hv
  have hx := B.exec
  have hb := B.bytes
  have hr := B.returns
  have hT : ∀ w ∈ TB, w.before _ s = true := fun w h => atoms_spec (ws := hz_w yX0_isTooMany cX0_isTooMany 2 (some .boolean)) B.pre w (List.mem_cons_of_mem _ h)
  have hown : s.vm.findClass RX0 = some m.cls := findClass_of_methodNamed B.named
  have hlocks := B.notSynchronized
  clear B
  have hS : va_S (fun _ => False) s.heap s.heap [] := va_S.rf
  have hK := hE.1
  have hl := lv_entry ([.ref a, .int 1]) (n := 2) (Nat.le_of_ble_eq_true rfl)
  rw [lg_entry_eq]
  generalize (lg_sl ([.ref a, .int 1]) ++ List.replicate (2 - (lg_sl ([.ref a, .int 1])).length) Slot.unset).toArray = ls at hl ⊢
  have hl : lv_has ls 2 [(0, .ref a), (1, .int 1)] := hl
  obtain ⟨H, eH⟩ : ∃ z, z = s.heap := ⟨_, rfl⟩
  have hP : va_P D classes [(a, .inr (0, [.ref a_tape, .ref a_told, .int a__kindsTold])), (a_told, .inr (8, [.int a_told__stalls, .int a_told__shift, .int a_told__halves, .int a_told__buyers, .int a_told__near, .int a_told__dusk, .int a_told__duskPrice, .int a_told__hear, .int a_told__forged, .ref a_told_stall, .ref a_told_shape, .ref a_told_side, .ref a_told_price, .ref a_told_purse, .ref a_told_spot, .ref a_told_club, .ref a_told_fitting, .ref a_told_nearly]))] H := by rw [eH]; exact hP
  have hS : va_S (fun _ => False) s.heap H [] := by rw [eH]; exact hS
  rw [← eH]
  clear eH
  obtain ⟨locs, el⟩ : ∃ z : List Loc, z = [] := ⟨_, rfl⟩
  rw [← el] at hS ⊢
  clear el
  have K15 : ∀ (H : Heap) (locs : List Loc), va_P D classes [(a, .inr (0, [.ref a_tape, .ref a_told, .int a__kindsTold])), (a_told, .inr (8, [.int a_told__stalls, .int a_told__shift, .int a_told__halves, .int a_told__buyers, .int a_told__near, .int a_told__dusk, .int a_told__duskPrice, .int a_told__hear, .int a_told__forged, .ref a_told_stall, .ref a_told_shape, .ref a_told_side, .ref a_told_price, .ref a_told_purse, .ref a_told_spot, .ref a_told_club, .ref a_told_fitting, .ref a_told_nearly]))] H → va_S (fun _ => False) s.heap H locs → ∀ ls : Array Slot, lv_has ls 2 [(0, .ref a), (1, .int 1)] → W p l e (headSpec (hz_w yX0_isTooMany cX0_isTooMany 2 (some .boolean)) ({ frames := 0, cells := 0, slots := 0, locals := 0 })).room s m [.ref a, .int 1].toArray below meth c H locs 0 0 (MQ below (va_Qi (fun (r : Int32) (_ : Unit) => (r = 0 ∧ IV 0 11 a_told__halves) ∨ (r = 1)) (fun _ t => True) (fun _ => False)) [.ref a, .int 1].toArray s 0 0 (fun _ => False)) (F0 m 15 ls []) := by
    intro   H locs hP hS ls hl
    refine lv_iload_n hx hb dX0_isTooMany_15 rfl (lv_at hl 1 rfl) ?_
    refine lv_tableIn (off := 66) (tgt := 82) hx hb dX0_isTooMany_16 (by decide) (by decide) (by decide) (by decide) ?_
    refine lv_aload_n hx hb dX0_isTooMany_82 rfl (lv_at hl 0 rfl) ?_
    refine va_get (D := D) (ci := 0) (v := .ref a_told) (C := RX0) (T := TX0) (N := 3) hx hb hT i_X0 hown hK hP 0 rfl rfl 1 (by decide) (hT _ q_45) (fun _ h9 => h9) rfl dX0_isTooMany_83 ?_
    refine va_get (D := D) (ci := 8) (v := .int a_told__halves) (C := RX8) (T := TX8) (N := 18) hx hb hT i_X8 hown hK hP 1 rfl rfl 2 (by decide) (hT _ q_54) (fun _ h9 => h9) rfl dX0_isTooMany_86 ?_
    refine lv_bipush (v := 12) hx hb dX0_isTooMany_89 (by decide) ?_
    refine lv_icmp_lt (tgt := 98) hx hb dX0_isTooMany_91 (by decide) (fun c1 => ?_) (fun c1 => ?_)
    · have h2 : IV 0 11 a_told__halves := iv_lt1 c1 h_a_told__halves (iv_c (a := 12) (b := 12) (by decide)) (by decide)
      refine lv_iconst (v := 0) hx hb dX0_isTooMany_98 (by decide) ?_
      exact W.zret (v := 0) hx hb hr rfl (fun t ht hW => ⟨⟨0, (), rfl, (Or.inl (⟨rfl, h2⟩)), trivial⟩, hS.F ht⟩) hS.2.2 dX0_isTooMany_99
    · have h3 : IV 12 12 a_told__halves := iv_le2 (Int32.not_lt.mp c1) (iv_c (a := 12) (b := 12) (by decide)) h_a_told__halves (by decide)
      refine lv_iconst (v := 1) hx hb dX0_isTooMany_94 (by decide) ?_
      refine lv_goto (tgt := 99) hx hb dX0_isTooMany_95 (by decide) ?_
      exact W.zret (v := 1) hx hb hr rfl (fun t ht hW => ⟨⟨1, (), rfl, (Or.inr ((rfl))), trivial⟩, hS.F ht⟩) hS.2.2 dX0_isTooMany_99
  refine lv_iload_n hx hb dX0_isTooMany_0 rfl (lv_at hl 1 rfl) ?_
  refine lv_if_eq (tgt := 15) hx hb dX0_isTooMany_1 (by decide) (fun z => absurd z (by decide)) (fun _ => ?_)
  refine lv_aload_n hx hb dX0_isTooMany_4 rfl (lv_at hl 0 rfl) ?_
  refine va_get (D := D) (ci := 0) (v := .int a__kindsTold) (C := RX0) (T := TX0) (N := 3) hx hb hT i_X0 hown hK hP 0 rfl rfl 2 (by decide) (hT _ q_46) (fun _ h9 => h9) rfl dX0_isTooMany_5 ?_
  refine lv_iconst (v := 1) hx hb dX0_isTooMany_8 (by decide) ?_
  refine lv_iand hx hb dX0_isTooMany_9 ?_
  refine lv_topi (fun v4 ev4 => ?_)
  have hv4 : IV 0 1 v4 := iv_and2 ev4 (iv_c (a := 1) (b := 1) (by decide))
  refine lv_if_ne (tgt := 15) hx hb dX0_isTooMany_10 (by decide) (fun c5 => ?_) (fun c5 => ?_)
  · have h6 : IV 1 1 v4 := iv_neL c5 hv4 (by decide)
    exact K15  H locs (hP.sub (ws' := [(a, .inr (0, [.ref a_tape, .ref a_told, .int a__kindsTold])), (a_told, .inr (8, [.int a_told__stalls, .int a_told__shift, .int a_told__halves, .int a_told__buyers, .int a_told__near, .int a_told__dusk, .int a_told__duskPrice, .int a_told__hear, .int a_told__forged, .ref a_told_stall, .ref a_told_shape, .ref a_told_side, .ref a_told_price, .ref a_told_purse, .ref a_told_spot, .ref a_told_club, .ref a_told_fitting, .ref a_told_nearly]))]) [0, 1] rfl) hS ls (lv_sub hl [0, 1] rfl)
  · have h7 : IV 0 0 v4 := iv_eq1 c5 hv4 (iv_c (a := 0) (b := 0) (by decide)) (by decide) (by decide)
    refine lv_iconst (v := 1) hx hb dX0_isTooMany_13 (by decide) ?_
    exact W.zret (v := 1) hx hb hr rfl (fun t ht hW => ⟨⟨1, (), rfl, (Or.inr ((rfl))), trivial⟩, hS.F ht⟩) hS.2.2 dX0_isTooMany_14
set_option maxHeartbeats 4000000 in
set_option maxRecDepth 100000 in
theorem c_X0_isTooMany_76 (l : Launch) (D : va_G) (cs : Nat → ClassId) (kK kV : Nat → Nat) (a : Nat) (a_tape : Nat) (a_told : Nat) (a__kindsTold : Int32)  : Met l yX0_isTooMany (hz_w yX0_isTooMany cX0_isTooMany 2 (some .boolean)) ({ frames := 0, cells := 0, slots := 0, locals := 0 }) (va_Pc [.ref a, .int 2] (hz_P D cs kK kV [(a, .inr (0, [.ref a_tape, .ref a_told, .int a__kindsTold]))])) (va_Qi (fun (r : Int32) (_ : Unit) => (r = 0) ∨ (r = 1)) (fun _ t => True) (fun _ => False)) 0 0 (fun _ => False) := by
  refine Met.ofW (cc := cX0_isTooMany) (maxL := 2) (ret := (some .boolean)) (by decide) rfl ?_
  intro p e s m args below meth c s₁ B hml hv
  obtain ⟨rfl, hP, hE⟩ := hv
  have hx := B.exec
  have hb := B.bytes
  have hr := B.returns
  have hT : ∀ w ∈ TB, w.before _ s = true := fun w h => atoms_spec (ws := hz_w yX0_isTooMany cX0_isTooMany 2 (some .boolean)) B.pre w (List.mem_cons_of_mem _ h)
  have hown : s.vm.findClass RX0 = some m.cls := findClass_of_methodNamed B.named
  have hlocks := B.notSynchronized
  clear B
  have hS : va_S (fun _ => False) s.heap s.heap [] := va_S.rf
  have hK := hE.1
  have hl := lv_entry ([.ref a, .int 2]) (n := 2) (Nat.le_of_ble_eq_true rfl)
  rw [lg_entry_eq]
  generalize (lg_sl ([.ref a, .int 2]) ++ List.replicate (2 - (lg_sl ([.ref a, .int 2])).length) Slot.unset).toArray = ls at hl ⊢
  have hl : lv_has ls 2 [(0, .ref a), (1, .int 2)] := hl
  obtain ⟨H, eH⟩ : ∃ z, z = s.heap := ⟨_, rfl⟩
  have hP : va_P D classes [(a, .inr (0, [.ref a_tape, .ref a_told, .int a__kindsTold]))] H := by rw [eH]; exact hP
  have hS : va_S (fun _ => False) s.heap H [] := by rw [eH]; exact hS
  rw [← eH]
  clear eH
  obtain ⟨locs, el⟩ : ∃ z : List Loc, z = [] := ⟨_, rfl⟩
  rw [← el] at hS ⊢
  clear el
  have K15 : ∀ (H : Heap) (locs : List Loc), va_P D classes [(a, .inr (0, [.ref a_tape, .ref a_told, .int a__kindsTold]))] H → va_S (fun _ => False) s.heap H locs → ∀ ls : Array Slot, lv_has ls 2 [(0, .ref a), (1, .int 2)] → W p l e (headSpec (hz_w yX0_isTooMany cX0_isTooMany 2 (some .boolean)) ({ frames := 0, cells := 0, slots := 0, locals := 0 })).room s m [.ref a, .int 2].toArray below meth c H locs 0 0 (MQ below (va_Qi (fun (r : Int32) (_ : Unit) => (r = 0) ∨ (r = 1)) (fun _ t => True) (fun _ => False)) [.ref a, .int 2].toArray s 0 0 (fun _ => False)) (F0 m 15 ls []) := by
    intro   H locs hP hS ls hl
    refine lv_iload_n hx hb dX0_isTooMany_15 rfl (lv_at hl 1 rfl) ?_
    refine lv_tableIn (off := 101) (tgt := 117) hx hb dX0_isTooMany_16 (by decide) (by decide) (by decide) (by decide) ?_
    refine lv_iconst (v := 0) hx hb dX0_isTooMany_117 (by decide) ?_
    exact W.zret (v := 0) hx hb hr rfl (fun t ht hW => ⟨⟨0, (), rfl, (Or.inl (rfl)), trivial⟩, hS.F ht⟩) hS.2.2 dX0_isTooMany_118
  refine lv_iload_n hx hb dX0_isTooMany_0 rfl (lv_at hl 1 rfl) ?_
  refine lv_if_eq (tgt := 15) hx hb dX0_isTooMany_1 (by decide) (fun z => absurd z (by decide)) (fun _ => ?_)
  refine lv_aload_n hx hb dX0_isTooMany_4 rfl (lv_at hl 0 rfl) ?_
  refine va_get (D := D) (ci := 0) (v := .int a__kindsTold) (C := RX0) (T := TX0) (N := 3) hx hb hT i_X0 hown hK hP 0 rfl rfl 2 (by decide) (hT _ q_46) (fun _ h9 => h9) rfl dX0_isTooMany_5 ?_
  refine lv_iconst (v := 1) hx hb dX0_isTooMany_8 (by decide) ?_
  refine lv_iand hx hb dX0_isTooMany_9 ?_
  refine lv_topi (fun v1 ev1 => ?_)
  have hv1 : IV 0 1 v1 := iv_and2 ev1 (iv_c (a := 1) (b := 1) (by decide))
  refine lv_if_ne (tgt := 15) hx hb dX0_isTooMany_10 (by decide) (fun c2 => ?_) (fun c2 => ?_)
  · have h3 : IV 1 1 v1 := iv_neL c2 hv1 (by decide)
    exact K15  H locs (hP.sub (ws' := [(a, .inr (0, [.ref a_tape, .ref a_told, .int a__kindsTold]))]) [0] rfl) hS ls (lv_sub hl [0, 1] rfl)
  · have h4 : IV 0 0 v1 := iv_eq1 c2 hv1 (iv_c (a := 0) (b := 0) (by decide)) (by decide) (by decide)
    refine lv_iconst (v := 1) hx hb dX0_isTooMany_13 (by decide) ?_
    exact W.zret (v := 1) hx hb hr rfl (fun t ht hW => ⟨⟨1, (), rfl, (Or.inr ((rfl))), trivial⟩, hS.F ht⟩) hS.2.2 dX0_isTooMany_14
set_option maxHeartbeats 4000000 in
set_option maxRecDepth 100000 in
theorem c_X0_isTooMany_77 (l : Launch) (D : va_G) (cs : Nat → ClassId) (kK kV : Nat → Nat) (a : Nat) (a_tape : Nat) (a_told : Nat) (a__kindsTold : Int32) (a_told__stalls : Int32) (a_told__shift : Int32) (a_told__halves : Int32) (a_told__buyers : Int32) (a_told__near : Int32) (a_told__dusk : Int32) (a_told__duskPrice : Int32) (a_told__hear : Int32) (a_told__forged : Int32) (a_told_stall : Nat) (a_told_shape : Nat) (a_told_side : Nat) (a_told_price : Nat) (a_told_purse : Nat) (a_told_spot : Nat) (a_told_club : Nat) (a_told_fitting : Nat) (a_told_nearly : Nat) (h_a_told__buyers : IV 0 4 a_told__buyers) : Met l yX0_isTooMany (hz_w yX0_isTooMany cX0_isTooMany 2 (some .boolean)) ({ frames := 0, cells := 0, slots := 0, locals := 0 }) (va_Pc [.ref a, .int 3] (hz_P D cs kK kV [(a, .inr (0, [.ref a_tape, .ref a_told, .int a__kindsTold])), (a_told, .inr (8, [.int a_told__stalls, .int a_told__shift, .int a_told__halves, .int a_told__buyers, .int a_told__near, .int a_told__dusk, .int a_told__duskPrice, .int a_told__hear, .int a_told__forged, .ref a_told_stall, .ref a_told_shape, .ref a_told_side, .ref a_told_price, .ref a_told_purse, .ref a_told_spot, .ref a_told_club, .ref a_told_fitting, .ref a_told_nearly]))])) (va_Qi (fun (r : Int32) (_ : Unit) => (r = 0 ∧ IV 0 3 a_told__buyers) ∨ (r = 1)) (fun _ t => True) (fun _ => False)) 0 0 (fun _ => False) := by
  refine Met.ofW (cc := cX0_isTooMany) (maxL := 2) (ret := (some .boolean)) (by decide) rfl ?_
  intro p e s m args below meth c s₁ B hml hv
  obtain ⟨rfl, hP, hE⟩ := hv
  have hx := B.exec
  have hb := B.bytes
  have hr := B.returns
  have hT : ∀ w ∈ TB, w.before _ s = true := fun w h => atoms_spec (ws := hz_w yX0_isTooMany cX0_isTooMany 2 (some .boolean)) B.pre w (List.mem_cons_of_mem _ h)
  have hown : s.vm.findClass RX0 = some m.cls := findClass_of_methodNamed B.named
  have hlocks := B.notSynchronized
  clear B
  have hS : va_S (fun _ => False) s.heap s.heap [] := va_S.rf
  have hK := hE.1
  have hl := lv_entry ([.ref a, .int 3]) (n := 2) (Nat.le_of_ble_eq_true rfl)
  rw [lg_entry_eq]
  generalize (lg_sl ([.ref a, .int 3]) ++ List.replicate (2 - (lg_sl ([.ref a, .int 3])).length) Slot.unset).toArray = ls at hl ⊢
  have hl : lv_has ls 2 [(0, .ref a), (1, .int 3)] := hl
  obtain ⟨H, eH⟩ : ∃ z, z = s.heap := ⟨_, rfl⟩
  have hP : va_P D classes [(a, .inr (0, [.ref a_tape, .ref a_told, .int a__kindsTold])), (a_told, .inr (8, [.int a_told__stalls, .int a_told__shift, .int a_told__halves, .int a_told__buyers, .int a_told__near, .int a_told__dusk, .int a_told__duskPrice, .int a_told__hear, .int a_told__forged, .ref a_told_stall, .ref a_told_shape, .ref a_told_side, .ref a_told_price, .ref a_told_purse, .ref a_told_spot, .ref a_told_club, .ref a_told_fitting, .ref a_told_nearly]))] H := by rw [eH]; exact hP
  have hS : va_S (fun _ => False) s.heap H [] := by rw [eH]; exact hS
  rw [← eH]
  clear eH
  obtain ⟨locs, el⟩ : ∃ z : List Loc, z = [] := ⟨_, rfl⟩
  rw [← el] at hS ⊢
  clear el
  have K15 : ∀ (H : Heap) (locs : List Loc), va_P D classes [(a, .inr (0, [.ref a_tape, .ref a_told, .int a__kindsTold])), (a_told, .inr (8, [.int a_told__stalls, .int a_told__shift, .int a_told__halves, .int a_told__buyers, .int a_told__near, .int a_told__dusk, .int a_told__duskPrice, .int a_told__hear, .int a_told__forged, .ref a_told_stall, .ref a_told_shape, .ref a_told_side, .ref a_told_price, .ref a_told_purse, .ref a_told_spot, .ref a_told_club, .ref a_told_fitting, .ref a_told_nearly]))] H → va_S (fun _ => False) s.heap H locs → ∀ ls : Array Slot, lv_has ls 2 [(0, .ref a), (1, .int 3)] → W p l e (headSpec (hz_w yX0_isTooMany cX0_isTooMany 2 (some .boolean)) ({ frames := 0, cells := 0, slots := 0, locals := 0 })).room s m [.ref a, .int 3].toArray below meth c H locs 0 0 (MQ below (va_Qi (fun (r : Int32) (_ : Unit) => (r = 0 ∧ IV 0 3 a_told__buyers) ∨ (r = 1)) (fun _ t => True) (fun _ => False)) [.ref a, .int 3].toArray s 0 0 (fun _ => False)) (F0 m 15 ls []) := by
    intro   H locs hP hS ls hl
    refine lv_iload_n hx hb dX0_isTooMany_15 rfl (lv_at hl 1 rfl) ?_
    refine lv_tableIn (off := 84) (tgt := 100) hx hb dX0_isTooMany_16 (by decide) (by decide) (by decide) (by decide) ?_
    refine lv_aload_n hx hb dX0_isTooMany_100 rfl (lv_at hl 0 rfl) ?_
    refine va_get (D := D) (ci := 0) (v := .ref a_told) (C := RX0) (T := TX0) (N := 3) hx hb hT i_X0 hown hK hP 0 rfl rfl 1 (by decide) (hT _ q_45) (fun _ h9 => h9) rfl dX0_isTooMany_101 ?_
    refine va_get (D := D) (ci := 8) (v := .int a_told__buyers) (C := RX8) (T := TX8) (N := 18) hx hb hT i_X8 hown hK hP 1 rfl rfl 3 (by decide) (hT _ q_55) (fun _ h9 => h9) rfl dX0_isTooMany_104 ?_
    refine lv_iconst (v := 4) hx hb dX0_isTooMany_107 (by decide) ?_
    refine lv_icmp_lt (tgt := 115) hx hb dX0_isTooMany_108 (by decide) (fun c1 => ?_) (fun c1 => ?_)
    · have h2 : IV 0 3 a_told__buyers := iv_lt1 c1 h_a_told__buyers (iv_c (a := 4) (b := 4) (by decide)) (by decide)
      refine lv_iconst (v := 0) hx hb dX0_isTooMany_115 (by decide) ?_
      exact W.zret (v := 0) hx hb hr rfl (fun t ht hW => ⟨⟨0, (), rfl, (Or.inl (⟨rfl, h2⟩)), trivial⟩, hS.F ht⟩) hS.2.2 dX0_isTooMany_116
    · have h3 : IV 4 4 a_told__buyers := iv_le2 (Int32.not_lt.mp c1) (iv_c (a := 4) (b := 4) (by decide)) h_a_told__buyers (by decide)
      refine lv_iconst (v := 1) hx hb dX0_isTooMany_111 (by decide) ?_
      refine lv_goto (tgt := 116) hx hb dX0_isTooMany_112 (by decide) ?_
      exact W.zret (v := 1) hx hb hr rfl (fun t ht hW => ⟨⟨1, (), rfl, (Or.inr ((rfl))), trivial⟩, hS.F ht⟩) hS.2.2 dX0_isTooMany_116
  refine lv_iload_n hx hb dX0_isTooMany_0 rfl (lv_at hl 1 rfl) ?_
  refine lv_if_eq (tgt := 15) hx hb dX0_isTooMany_1 (by decide) (fun z => absurd z (by decide)) (fun _ => ?_)
  refine lv_aload_n hx hb dX0_isTooMany_4 rfl (lv_at hl 0 rfl) ?_
  refine va_get (D := D) (ci := 0) (v := .int a__kindsTold) (C := RX0) (T := TX0) (N := 3) hx hb hT i_X0 hown hK hP 0 rfl rfl 2 (by decide) (hT _ q_46) (fun _ h9 => h9) rfl dX0_isTooMany_5 ?_
  refine lv_iconst (v := 1) hx hb dX0_isTooMany_8 (by decide) ?_
  refine lv_iand hx hb dX0_isTooMany_9 ?_
  refine lv_topi (fun v4 ev4 => ?_)
  have hv4 : IV 0 1 v4 := iv_and2 ev4 (iv_c (a := 1) (b := 1) (by decide))
  refine lv_if_ne (tgt := 15) hx hb dX0_isTooMany_10 (by decide) (fun c5 => ?_) (fun c5 => ?_)
  · have h6 : IV 1 1 v4 := iv_neL c5 hv4 (by decide)
    exact K15  H locs (hP.sub (ws' := [(a, .inr (0, [.ref a_tape, .ref a_told, .int a__kindsTold])), (a_told, .inr (8, [.int a_told__stalls, .int a_told__shift, .int a_told__halves, .int a_told__buyers, .int a_told__near, .int a_told__dusk, .int a_told__duskPrice, .int a_told__hear, .int a_told__forged, .ref a_told_stall, .ref a_told_shape, .ref a_told_side, .ref a_told_price, .ref a_told_purse, .ref a_told_spot, .ref a_told_club, .ref a_told_fitting, .ref a_told_nearly]))]) [0, 1] rfl) hS ls (lv_sub hl [0, 1] rfl)
  · have h7 : IV 0 0 v4 := iv_eq1 c5 hv4 (iv_c (a := 0) (b := 0) (by decide)) (by decide) (by decide)
    refine lv_iconst (v := 1) hx hb dX0_isTooMany_13 (by decide) ?_
    exact W.zret (v := 1) hx hb hr rfl (fun t ht hW => ⟨⟨1, (), rfl, (Or.inr ((rfl))), trivial⟩, hS.F ht⟩) hS.2.2 dX0_isTooMany_14
set_option maxHeartbeats 4000000 in
set_option maxRecDepth 100000 in
theorem c_X0_isTooMany_78 (l : Launch) (D : va_G) (cs : Nat → ClassId) (kK kV : Nat → Nat) (a : Nat) (a_tape : Nat) (a_told : Nat) (a__kindsTold : Int32)  : Met l yX0_isTooMany (hz_w yX0_isTooMany cX0_isTooMany 2 (some .boolean)) ({ frames := 0, cells := 0, slots := 0, locals := 0 }) (va_Pc [.ref a, .int 4] (hz_P D cs kK kV [(a, .inr (0, [.ref a_tape, .ref a_told, .int a__kindsTold]))])) (va_Qi (fun (r : Int32) (_ : Unit) => (r = 0) ∨ (r = 1)) (fun _ t => True) (fun _ => False)) 0 0 (fun _ => False) := by
  refine Met.ofW (cc := cX0_isTooMany) (maxL := 2) (ret := (some .boolean)) (by decide) rfl ?_
  intro p e s m args below meth c s₁ B hml hv
  obtain ⟨rfl, hP, hE⟩ := hv
  have hx := B.exec
  have hb := B.bytes
  have hr := B.returns
  have hT : ∀ w ∈ TB, w.before _ s = true := fun w h => atoms_spec (ws := hz_w yX0_isTooMany cX0_isTooMany 2 (some .boolean)) B.pre w (List.mem_cons_of_mem _ h)
  have hown : s.vm.findClass RX0 = some m.cls := findClass_of_methodNamed B.named
  have hlocks := B.notSynchronized
  clear B
  have hS : va_S (fun _ => False) s.heap s.heap [] := va_S.rf
  have hK := hE.1
  have hl := lv_entry ([.ref a, .int 4]) (n := 2) (Nat.le_of_ble_eq_true rfl)
  rw [lg_entry_eq]
  generalize (lg_sl ([.ref a, .int 4]) ++ List.replicate (2 - (lg_sl ([.ref a, .int 4])).length) Slot.unset).toArray = ls at hl ⊢
  have hl : lv_has ls 2 [(0, .ref a), (1, .int 4)] := hl
  obtain ⟨H, eH⟩ : ∃ z, z = s.heap := ⟨_, rfl⟩
  have hP : va_P D classes [(a, .inr (0, [.ref a_tape, .ref a_told, .int a__kindsTold]))] H := by rw [eH]; exact hP
  have hS : va_S (fun _ => False) s.heap H [] := by rw [eH]; exact hS
  rw [← eH]
  clear eH
  obtain ⟨locs, el⟩ : ∃ z : List Loc, z = [] := ⟨_, rfl⟩
  rw [← el] at hS ⊢
  clear el
  have K15 : ∀ (H : Heap) (locs : List Loc), va_P D classes [(a, .inr (0, [.ref a_tape, .ref a_told, .int a__kindsTold]))] H → va_S (fun _ => False) s.heap H locs → ∀ ls : Array Slot, lv_has ls 2 [(0, .ref a), (1, .int 4)] → W p l e (headSpec (hz_w yX0_isTooMany cX0_isTooMany 2 (some .boolean)) ({ frames := 0, cells := 0, slots := 0, locals := 0 })).room s m [.ref a, .int 4].toArray below meth c H locs 0 0 (MQ below (va_Qi (fun (r : Int32) (_ : Unit) => (r = 0) ∨ (r = 1)) (fun _ t => True) (fun _ => False)) [.ref a, .int 4].toArray s 0 0 (fun _ => False)) (F0 m 15 ls []) := by
    intro   H locs hP hS ls hl
    refine lv_iload_n hx hb dX0_isTooMany_15 rfl (lv_at hl 1 rfl) ?_
    refine lv_tableIn (off := 101) (tgt := 117) hx hb dX0_isTooMany_16 (by decide) (by decide) (by decide) (by decide) ?_
    refine lv_iconst (v := 0) hx hb dX0_isTooMany_117 (by decide) ?_
    exact W.zret (v := 0) hx hb hr rfl (fun t ht hW => ⟨⟨0, (), rfl, (Or.inl (rfl)), trivial⟩, hS.F ht⟩) hS.2.2 dX0_isTooMany_118
  refine lv_iload_n hx hb dX0_isTooMany_0 rfl (lv_at hl 1 rfl) ?_
  refine lv_if_eq (tgt := 15) hx hb dX0_isTooMany_1 (by decide) (fun z => absurd z (by decide)) (fun _ => ?_)
  refine lv_aload_n hx hb dX0_isTooMany_4 rfl (lv_at hl 0 rfl) ?_
  refine va_get (D := D) (ci := 0) (v := .int a__kindsTold) (C := RX0) (T := TX0) (N := 3) hx hb hT i_X0 hown hK hP 0 rfl rfl 2 (by decide) (hT _ q_46) (fun _ h9 => h9) rfl dX0_isTooMany_5 ?_
  refine lv_iconst (v := 1) hx hb dX0_isTooMany_8 (by decide) ?_
  refine lv_iand hx hb dX0_isTooMany_9 ?_
  refine lv_topi (fun v1 ev1 => ?_)
  have hv1 : IV 0 1 v1 := iv_and2 ev1 (iv_c (a := 1) (b := 1) (by decide))
  refine lv_if_ne (tgt := 15) hx hb dX0_isTooMany_10 (by decide) (fun c2 => ?_) (fun c2 => ?_)
  · have h3 : IV 1 1 v1 := iv_neL c2 hv1 (by decide)
    exact K15  H locs (hP.sub (ws' := [(a, .inr (0, [.ref a_tape, .ref a_told, .int a__kindsTold]))]) [0] rfl) hS ls (lv_sub hl [0, 1] rfl)
  · have h4 : IV 0 0 v1 := iv_eq1 c2 hv1 (iv_c (a := 0) (b := 0) (by decide)) (by decide) (by decide)
    refine lv_iconst (v := 1) hx hb dX0_isTooMany_13 (by decide) ?_
    exact W.zret (v := 1) hx hb hr rfl (fun t ht hW => ⟨⟨1, (), rfl, (Or.inr ((rfl))), trivial⟩, hS.F ht⟩) hS.2.2 dX0_isTooMany_14
set_option maxHeartbeats 4000000 in
set_option maxRecDepth 100000 in
theorem c_X0_isTooMany_79 (l : Launch) (D : va_G) (cs : Nat → ClassId) (kK kV : Nat → Nat) (a : Nat) (a_tape : Nat) (a_told : Nat) (a__kindsTold : Int32)  : Met l yX0_isTooMany (hz_w yX0_isTooMany cX0_isTooMany 2 (some .boolean)) ({ frames := 0, cells := 0, slots := 0, locals := 0 }) (va_Pc [.ref a, .int 5] (hz_P D cs kK kV [(a, .inr (0, [.ref a_tape, .ref a_told, .int a__kindsTold]))])) (va_Qi (fun (r : Int32) (_ : Unit) => (r = 0) ∨ (r = 1)) (fun _ t => True) (fun _ => False)) 0 0 (fun _ => False) := by
  refine Met.ofW (cc := cX0_isTooMany) (maxL := 2) (ret := (some .boolean)) (by decide) rfl ?_
  intro p e s m args below meth c s₁ B hml hv
  obtain ⟨rfl, hP, hE⟩ := hv
  have hx := B.exec
  have hb := B.bytes
  have hr := B.returns
  have hT : ∀ w ∈ TB, w.before _ s = true := fun w h => atoms_spec (ws := hz_w yX0_isTooMany cX0_isTooMany 2 (some .boolean)) B.pre w (List.mem_cons_of_mem _ h)
  have hown : s.vm.findClass RX0 = some m.cls := findClass_of_methodNamed B.named
  have hlocks := B.notSynchronized
  clear B
  have hS : va_S (fun _ => False) s.heap s.heap [] := va_S.rf
  have hK := hE.1
  have hl := lv_entry ([.ref a, .int 5]) (n := 2) (Nat.le_of_ble_eq_true rfl)
  rw [lg_entry_eq]
  generalize (lg_sl ([.ref a, .int 5]) ++ List.replicate (2 - (lg_sl ([.ref a, .int 5])).length) Slot.unset).toArray = ls at hl ⊢
  have hl : lv_has ls 2 [(0, .ref a), (1, .int 5)] := hl
  obtain ⟨H, eH⟩ : ∃ z, z = s.heap := ⟨_, rfl⟩
  have hP : va_P D classes [(a, .inr (0, [.ref a_tape, .ref a_told, .int a__kindsTold]))] H := by rw [eH]; exact hP
  have hS : va_S (fun _ => False) s.heap H [] := by rw [eH]; exact hS
  rw [← eH]
  clear eH
  obtain ⟨locs, el⟩ : ∃ z : List Loc, z = [] := ⟨_, rfl⟩
  rw [← el] at hS ⊢
  clear el
  have K15 : ∀ (H : Heap) (locs : List Loc), va_P D classes [(a, .inr (0, [.ref a_tape, .ref a_told, .int a__kindsTold]))] H → va_S (fun _ => False) s.heap H locs → ∀ ls : Array Slot, lv_has ls 2 [(0, .ref a), (1, .int 5)] → W p l e (headSpec (hz_w yX0_isTooMany cX0_isTooMany 2 (some .boolean)) ({ frames := 0, cells := 0, slots := 0, locals := 0 })).room s m [.ref a, .int 5].toArray below meth c H locs 0 0 (MQ below (va_Qi (fun (r : Int32) (_ : Unit) => (r = 0) ∨ (r = 1)) (fun _ t => True) (fun _ => False)) [.ref a, .int 5].toArray s 0 0 (fun _ => False)) (F0 m 15 ls []) := by
    intro   H locs hP hS ls hl
    refine lv_iload_n hx hb dX0_isTooMany_15 rfl (lv_at hl 1 rfl) ?_
    refine lv_tableIn (off := 48) (tgt := 64) hx hb dX0_isTooMany_16 (by decide) (by decide) (by decide) (by decide) ?_
    refine lv_aload_n hx hb dX0_isTooMany_64 rfl (lv_at hl 0 rfl) ?_
    refine va_get (D := D) (ci := 0) (v := .int a__kindsTold) (C := RX0) (T := TX0) (N := 3) hx hb hT i_X0 hown hK hP 0 rfl rfl 2 (by decide) (hT _ q_46) (fun _ h9 => h9) rfl dX0_isTooMany_65 ?_
    refine lv_iload_n hx hb dX0_isTooMany_68 rfl (lv_at hl 1 rfl) ?_
    refine lv_ishr hx hb dX0_isTooMany_69 ?_
    refine lv_topi (fun v1 ev1 => ?_)
    refine lv_iconst (v := 1) hx hb dX0_isTooMany_70 (by decide) ?_
    refine lv_iand hx hb dX0_isTooMany_71 ?_
    refine lv_topi (fun v2 ev2 => ?_)
    have hv2 : IV 0 1 v2 := iv_and2 ev2 (iv_c (a := 1) (b := 1) (by decide))
    refine lv_iconst (v := 1) hx hb dX0_isTooMany_72 (by decide) ?_
    refine lv_icmp_ne (tgt := 80) hx hb dX0_isTooMany_73 (by decide) (fun c3 => ?_) (fun c3 => ?_)
    · have h4 : IV 0 0 v2 := iv_neR c3 hv2 (by decide)
      refine lv_iconst (v := 0) hx hb dX0_isTooMany_80 (by decide) ?_
      exact W.zret (v := 0) hx hb hr rfl (fun t ht hW => ⟨⟨0, (), rfl, (Or.inl (rfl)), trivial⟩, hS.F ht⟩) hS.2.2 dX0_isTooMany_81
    · have h5 : IV 1 1 v2 := iv_eq1 c3 hv2 (iv_c (a := 1) (b := 1) (by decide)) (by decide) (by decide)
      refine lv_iconst (v := 1) hx hb dX0_isTooMany_76 (by decide) ?_
      refine lv_goto (tgt := 81) hx hb dX0_isTooMany_77 (by decide) ?_
      exact W.zret (v := 1) hx hb hr rfl (fun t ht hW => ⟨⟨1, (), rfl, (Or.inr ((rfl))), trivial⟩, hS.F ht⟩) hS.2.2 dX0_isTooMany_81
  refine lv_iload_n hx hb dX0_isTooMany_0 rfl (lv_at hl 1 rfl) ?_
  refine lv_if_eq (tgt := 15) hx hb dX0_isTooMany_1 (by decide) (fun z => absurd z (by decide)) (fun _ => ?_)
  refine lv_aload_n hx hb dX0_isTooMany_4 rfl (lv_at hl 0 rfl) ?_
  refine va_get (D := D) (ci := 0) (v := .int a__kindsTold) (C := RX0) (T := TX0) (N := 3) hx hb hT i_X0 hown hK hP 0 rfl rfl 2 (by decide) (hT _ q_46) (fun _ h9 => h9) rfl dX0_isTooMany_5 ?_
  refine lv_iconst (v := 1) hx hb dX0_isTooMany_8 (by decide) ?_
  refine lv_iand hx hb dX0_isTooMany_9 ?_
  refine lv_topi (fun v6 ev6 => ?_)
  have hv6 : IV 0 1 v6 := iv_and2 ev6 (iv_c (a := 1) (b := 1) (by decide))
  refine lv_if_ne (tgt := 15) hx hb dX0_isTooMany_10 (by decide) (fun c7 => ?_) (fun c7 => ?_)
  · have h8 : IV 1 1 v6 := iv_neL c7 hv6 (by decide)
    exact K15  H locs (hP.sub (ws' := [(a, .inr (0, [.ref a_tape, .ref a_told, .int a__kindsTold]))]) [0] rfl) hS ls (lv_sub hl [0, 1] rfl)
  · have h9 : IV 0 0 v6 := iv_eq1 c7 hv6 (iv_c (a := 0) (b := 0) (by decide)) (by decide) (by decide)
    refine lv_iconst (v := 1) hx hb dX0_isTooMany_13 (by decide) ?_
    exact W.zret (v := 1) hx hb hr rfl (fun t ht hW => ⟨⟨1, (), rfl, (Or.inr ((rfl))), trivial⟩, hS.F ht⟩) hS.2.2 dX0_isTooMany_14
set_option maxHeartbeats 4000000 in
set_option maxRecDepth 100000 in
theorem c_X7_takeNumber_81 (l : Launch) (D : va_G) (cs : Nat → ClassId) (kK kV : Nat → Nat) (a : Nat) (a_bytes : Nat) (a__length : Int32) (a__place : Int32) (a__fault : Int32) (a_bytes_c : Nat → Int32) (h_a__length : IV 0 400 a__length) (h_a__place : IV 0 400 a__place) (h_a__fault : IV 0 3205 a__fault) (h_a_bytes_c : CI 400 0 255 a_bytes_c) (sz : Nat) : Met l yX7_takeNumber (hz_w yX7_takeNumber cX7_takeNumber 5 (some .int)) ({ frames := 1, cells := 0, slots := 0, locals := 22 }) (va_Pc [.ref a, .int 0, .int 9] (hz_C D cs kK kV sz [(a, .inr (7, [.ref a_bytes, .int a__length, .int a__place, .int a__fault])), (a_bytes, .inl (cs 0, 400, .inl a_bytes_c))])) (va_Qi (fun (r : Int32) (u : (Nat → Int32) × (Nat → Nat → Int32)) => (IV 0 9 r ∧ IV 0 3205 (u.1 0) ∧ IV 0 400 (u.1 1)) ∨ (IV 1 3205 (u.1 0) ∧ IV 0 400 (u.1 1))) (fun u t => va_P D classes [(a, .inr (7, [.ref a_bytes, .int a__length, .int (u.1 1), .int (u.1 0)])), (a_bytes, .inl (cs 0, 400, .inl a_bytes_c))] t.heap ∧ va_D (va_A [(a, .inr (7, [.ref a_bytes, .int a__length, .int a__place, .int a__fault])), (a_bytes, .inl (cs 0, 400, .inl a_bytes_c))] sz) [(a, .inr (7, [.ref a_bytes, .int a__length, .int (u.1 1), .int (u.1 0)])), (a_bytes, .inl (cs 0, 400, .inl a_bytes_c))]) (va_A [(a, .inr (7, [.ref a_bytes, .int a__length, .int a__place, .int a__fault])), (a_bytes, .inl (cs 0, 400, .inl a_bytes_c))] sz)) 0 0 (va_A [(a, .inr (7, [.ref a_bytes, .int a__length, .int a__place, .int a__fault])), (a_bytes, .inl (cs 0, 400, .inl a_bytes_c))] sz) := by
  refine Met.ofW (cc := cX7_takeNumber) (maxL := 5) (ret := (some .int)) (by decide) rfl ?_
  intro p e s m args below meth c s₁ B hml hv
  obtain ⟨rfl, hsz, hP, hD0, hE⟩ := hv
  have hx := B.exec
  have hb := B.bytes
  have hr := B.returns
  have hT : ∀ w ∈ TB, w.before _ s = true := fun w h => atoms_spec (ws := hz_w yX7_takeNumber cX7_takeNumber 5 (some .int)) B.pre w (List.mem_cons_of_mem _ h)
  have hown : s.vm.findClass RX7 = some m.cls := findClass_of_methodNamed B.named
  have hlocks := B.notSynchronized
  clear B
  subst hsz
  have hD := hD0.self (sz := s.heap.size)
  generalize hAe : va_A [(a, .inr (7, [.ref a_bytes, .int a__length, .int a__place, .int a__fault])), (a_bytes, .inl (cs 0, 400, .inl a_bytes_c))] s.heap.size = A at hD hE ⊢
  have hA : ∀ q : Nat, s.heap.size ≤ q → A q := fun q h => by rw [← hAe]; exact Or.inr h
  clear hAe hD0
  have hS : va_S A s.heap s.heap [] := va_S.rf
  have hK := hE.1
  have hl := lv_entry ([.ref a, .int 0, .int 9]) (n := 5) (Nat.le_of_ble_eq_true rfl)
  rw [lg_entry_eq]
  generalize (lg_sl ([.ref a, .int 0, .int 9]) ++ List.replicate (5 - (lg_sl ([.ref a, .int 0, .int 9])).length) Slot.unset).toArray = ls at hl ⊢
  have hl : lv_has ls 5 [(0, .ref a), (1, .int 0), (2, .int 9)] := hl
  obtain ⟨H, eH⟩ : ∃ z, z = s.heap := ⟨_, rfl⟩
  have hP : va_P D classes [(a, .inr (7, [.ref a_bytes, .int a__length, .int a__place, .int a__fault])), (a_bytes, .inl (cs 0, 400, .inl a_bytes_c))] H := by rw [eH]; exact hP
  have hS : va_S A s.heap H [] := by rw [eH]; exact hS
  rw [← eH]
  clear eH
  obtain ⟨locs, el⟩ : ∃ z : List Loc, z = [] := ⟨_, rfl⟩
  rw [← el] at hS ⊢
  clear el
  have K133 : ∀ (k133_L_4 : Int32) (k133_L_3 : Int32) (k133_F_a_2 : Int32), IV 0 400 k133_F_a_2 → IV 0 400 k133_L_3 → ∀ (H : Heap) (locs : List Loc), va_P D classes [(a, .inr (7, [.ref a_bytes, .int a__length, .int k133_F_a_2, .int a__fault])), (a_bytes, .inl (cs 0, 400, .inl a_bytes_c))] H → va_D A [(a, .inr (7, [.ref a_bytes, .int a__length, .int k133_F_a_2, .int a__fault])), (a_bytes, .inl (cs 0, 400, .inl a_bytes_c))] → va_S A s.heap H locs → ∀ ls : Array Slot, lv_has ls 5 [(4, .int k133_L_4), (3, .int k133_L_3), (0, .ref a), (1, .int 0), (2, .int 9)] → W p l e (headSpec (hz_w yX7_takeNumber cX7_takeNumber 5 (some .int)) ({ frames := 1, cells := 0, slots := 0, locals := 22 })).room s m [.ref a, .int 0, .int 9].toArray below meth c H locs 0 0 (MQ below (va_Qi (fun (r : Int32) (u : (Nat → Int32) × (Nat → Nat → Int32)) => (IV 0 9 r ∧ IV 0 3205 (u.1 0) ∧ IV 0 400 (u.1 1)) ∨ (IV 1 3205 (u.1 0) ∧ IV 0 400 (u.1 1))) (fun u t => va_P D classes [(a, .inr (7, [.ref a_bytes, .int a__length, .int (u.1 1), .int (u.1 0)])), (a_bytes, .inl (cs 0, 400, .inl a_bytes_c))] t.heap ∧ va_D A [(a, .inr (7, [.ref a_bytes, .int a__length, .int (u.1 1), .int (u.1 0)])), (a_bytes, .inl (cs 0, 400, .inl a_bytes_c))]) A) [.ref a, .int 0, .int 9].toArray s 0 0 A) (F0 m 133 ls []) := by
    intro k133_L_4 k133_L_3 k133_F_a_2 q133_2 q133_3 H locs hP hD hS ls hl
    refine lv_aload_n hx hb dX7_takeNumber_133 rfl (lv_at hl 2 rfl) ?_
    refine lv_iload_n hx hb dX7_takeNumber_134 rfl (lv_at hl 1 rfl) ?_
    refine lv_iconst (v := 1) hx hb dX7_takeNumber_135 (by decide) ?_
    have hFc := va_free (wc := [(a, .inr (7, [.ref a_bytes, .int a__length, .int k133_F_a_2, .int a__fault]))]) hD hS hA [0] rfl
    refine va_callv (va_runV (As := [.int k133_L_3, .int 1]) (rest := []) ⟨hx, hb, hml, hown, hT⟩ (c_X7_fail l D cs kK kV a k133_L_3 1 a_bytes a__length k133_F_a_2 a__fault q133_3 ((iv_c (by decide))) h_a__fault H.size) (cwV 2 hT (hz_gV q_633 q_445 q_446 q_221 q_447) rfl rfl rfl (by decide +kernel) ⟨(Nat.le_of_ble_eq_true rfl), (Nat.le_of_ble_eq_true rfl)⟩) ⟨hz_C.blind, va_recv hK hP (ci := 7) (q0 := 0) rfl rfl, hz_C.mk (hP.sub (ws' := [(a, .inr (7, [.ref a_bytes, .int a__length, .int k133_F_a_2, .int a__fault]))]) [0] rfl) (hD.sub (ws' := [(a, .inr (7, [.ref a_bytes, .int a__length, .int k133_F_a_2, .int a__fault]))]) [0] (by decide) rfl) hE hS hFc⟩ rfl rfl hl.1 rfl (lv_room (Nat.le_of_ble_eq_true rfl)) dX7_takeNumber_136 ⟨(Nat.le_of_ble_eq_true rfl), (Nat.le_of_ble_eq_true rfl)⟩) hS (fun q _ h => hFc q h) hFc (fun o2 t H1 locs ht hvm hw hB hz1 hk1 hS => ?_)
    obtain ⟨hP1, hD1⟩ := hB
    rw [ht] at hP1
    obtain ⟨hP, hD⟩ := va_join (wr := [(a_bytes, .inl (cs 0, 400, .inl a_bytes_c))]) (w1 := [(a, .inr (7, [.ref a_bytes, .int a__length, .int k133_F_a_2, .int (o2.1 0)]))]) hP hD [0] [1] rfl rfl (by decide) (by decide) hk1 hFc hP1 hD1
    generalize H1 = H at hP hS ⊢
    have hP : va_P D classes [(a_bytes, .inl (cs 0, 400, .inl a_bytes_c)), (a, .inr (7, [.ref a_bytes, .int a__length, .int k133_F_a_2, .int (o2.1 0)]))] H := hP
    have hD : va_D A [(a_bytes, .inl (cs 0, 400, .inl a_bytes_c)), (a, .inr (7, [.ref a_bytes, .int a__length, .int k133_F_a_2, .int (o2.1 0)]))] := hD
    clear hk1 hFc hP1 hD1 hz1
    have h3 := hw
    refine lv_iload hx hb dX7_takeNumber_139 (lv_at hl 0 rfl) ?_
    refine W.widen (k := 0) (n := 0) (Nat.le_of_ble_eq_true rfl) (Nat.le_of_ble_eq_true rfl) ?_
    exact W.iret (v := k133_L_4) hx hb hr (fun t ht hW => ⟨⟨k133_L_4, (fun k => match k with | 0 => o2.1 0 | 1 => k133_F_a_2 | _ => 0, fun _ _ => 0), rfl, (Or.inr ((⟨h3, q133_2⟩))), by rw [ht]; exact hP.sub [1, 0] rfl, hD.sub [1, 0] (by decide) rfl⟩, hS.F ht⟩) hS.2.2 dX7_takeNumber_141
  have K94 : ∀ (k94_L_4 : Int32) (k94_L_3 : Int32) (k94_F_a_2 : Int32), IV 0 400 k94_F_a_2 → IV 0 400 k94_L_3 → ∀ (H : Heap) (locs : List Loc), va_P D classes [(a, .inr (7, [.ref a_bytes, .int a__length, .int k94_F_a_2, .int a__fault])), (a_bytes, .inl (cs 0, 400, .inl a_bytes_c))] H → va_D A [(a, .inr (7, [.ref a_bytes, .int a__length, .int k94_F_a_2, .int a__fault])), (a_bytes, .inl (cs 0, 400, .inl a_bytes_c))] → va_S A s.heap H locs → ∀ ls : Array Slot, lv_has ls 5 [(4, .int k94_L_4), (3, .int k94_L_3), (0, .ref a), (1, .int 0), (2, .int 9)] → W p l e (headSpec (hz_w yX7_takeNumber cX7_takeNumber 5 (some .int)) ({ frames := 1, cells := 0, slots := 0, locals := 22 })).room s m [.ref a, .int 0, .int 9].toArray below meth c H locs 0 0 (MQ below (va_Qi (fun (r : Int32) (u : (Nat → Int32) × (Nat → Nat → Int32)) => (IV 0 9 r ∧ IV 0 3205 (u.1 0) ∧ IV 0 400 (u.1 1)) ∨ (IV 1 3205 (u.1 0) ∧ IV 0 400 (u.1 1))) (fun u t => va_P D classes [(a, .inr (7, [.ref a_bytes, .int a__length, .int (u.1 1), .int (u.1 0)])), (a_bytes, .inl (cs 0, 400, .inl a_bytes_c))] t.heap ∧ va_D A [(a, .inr (7, [.ref a_bytes, .int a__length, .int (u.1 1), .int (u.1 0)])), (a_bytes, .inl (cs 0, 400, .inl a_bytes_c))]) A) [.ref a, .int 0, .int 9].toArray s 0 0 A) (F0 m 94 ls []) := by
    intro k94_L_4 k94_L_3 k94_F_a_2 q94_2 q94_3 H locs hP hD hS ls hl
    refine lv_aload_n hx hb dX7_takeNumber_94 rfl (lv_at hl 2 rfl) ?_
    refine va_get (D := D) (ci := 7) (v := .int k94_F_a_2) (C := RX7) (T := TX7) (N := 4) hx hb hT i_X7 hown hK hP 0 rfl rfl 2 (by decide) (hT _ q_129) (fun _ h9 => h9) rfl dX7_takeNumber_95 ?_
    refine lv_iload_n hx hb dX7_takeNumber_98 rfl (lv_at hl 1 rfl) ?_
    refine lv_icmp_ne (tgt := 111) hx hb dX7_takeNumber_99 (by decide) (fun c4 => ?_) (fun c4 => ?_)
    · refine lv_aload_n hx hb dX7_takeNumber_111 rfl (lv_at hl 2 rfl) ?_
      refine va_get (D := D) (ci := 7) (v := .int k94_F_a_2) (C := RX7) (T := TX7) (N := 4) hx hb hT i_X7 hown hK hP 0 rfl rfl 2 (by decide) (hT _ q_129) (fun _ h9 => h9) rfl dX7_takeNumber_112 ?_
      refine lv_iload_n hx hb dX7_takeNumber_115 rfl (lv_at hl 1 rfl) ?_
      refine lv_isub hx hb dX7_takeNumber_116 ?_
      refine lv_topi (fun v5 ev5 => ?_)
      have hv5 : IV (-400) 400 v5 := iv_sub ev5 q94_2 q94_3 (by decide) (by decide)
      refine lv_iconst (v := 5) hx hb dX7_takeNumber_117 (by decide) ?_
      refine lv_icmp_gt (tgt := 133) hx hb dX7_takeNumber_118 (by decide) (fun c6 => ?_) (fun c6 => ?_)
      · have h7 : IV 6 400 v5 := iv_lt2 c6 (iv_c (a := 5) (b := 5) (by decide)) hv5 (by decide)
        exact K133 k94_L_4 k94_L_3 k94_F_a_2 q94_2 q94_3 H locs (hP.sub (ws' := [(a, .inr (7, [.ref a_bytes, .int a__length, .int k94_F_a_2, .int a__fault])), (a_bytes, .inl (cs 0, 400, .inl a_bytes_c))]) [0, 1] rfl) (hD.sub (ws' := [(a, .inr (7, [.ref a_bytes, .int a__length, .int k94_F_a_2, .int a__fault])), (a_bytes, .inl (cs 0, 400, .inl a_bytes_c))]) [0, 1] (by decide) rfl) hS ls (lv_sub hl [0, 1, 2, 3, 4] rfl)
      · have h8 : IV (-400) 5 v5 := iv_le1 (Int32.not_lt.mp c6) hv5 (iv_c (a := 5) (b := 5) (by decide)) (by decide)
        refine lv_iload hx hb dX7_takeNumber_121 (lv_at hl 0 rfl) ?_
        refine lv_iload_n hx hb dX7_takeNumber_123 rfl (lv_at hl 3 rfl) ?_
        refine lv_icmp_lt (tgt := 133) hx hb dX7_takeNumber_124 (by decide) (fun c9 => ?_) (fun c9 => ?_)
        · have h10 : IV (-2147483648) (-1) k94_L_4 := iv_lt1 c9 iv_top (iv_c (a := 0) (b := 0) (by decide)) (by decide)
          exact K133 k94_L_4 k94_L_3 k94_F_a_2 q94_2 q94_3 H locs (hP.sub (ws' := [(a, .inr (7, [.ref a_bytes, .int a__length, .int k94_F_a_2, .int a__fault])), (a_bytes, .inl (cs 0, 400, .inl a_bytes_c))]) [0, 1] rfl) (hD.sub (ws' := [(a, .inr (7, [.ref a_bytes, .int a__length, .int k94_F_a_2, .int a__fault])), (a_bytes, .inl (cs 0, 400, .inl a_bytes_c))]) [0, 1] (by decide) rfl) hS ls (lv_sub hl [0, 1, 2, 3, 4] rfl)
        · have h11 : IV 0 2147483647 k94_L_4 := iv_le2 (Int32.not_lt.mp c9) (iv_c (a := 0) (b := 0) (by decide)) iv_top (by decide)
          refine lv_iload hx hb dX7_takeNumber_127 (lv_at hl 0 rfl) ?_
          refine lv_iload_n hx hb dX7_takeNumber_129 rfl (lv_at hl 4 rfl) ?_
          refine lv_icmp_le (tgt := 139) hx hb dX7_takeNumber_130 (by decide) (fun c12 => ?_) (fun c12 => ?_)
          · have h13 : IV 0 9 k94_L_4 := iv_le1 c12 h11 (iv_c (a := 9) (b := 9) (by decide)) (by decide)
            refine lv_iload hx hb dX7_takeNumber_139 (lv_at hl 0 rfl) ?_
            refine W.widen (k := 0) (n := 0) (Nat.le_of_ble_eq_true rfl) (Nat.le_of_ble_eq_true rfl) ?_
            exact W.iret (v := k94_L_4) hx hb hr (fun t ht hW => ⟨⟨k94_L_4, (fun k => match k with | 0 => a__fault | 1 => k94_F_a_2 | _ => 0, fun _ _ => 0), rfl, (Or.inl (⟨h13, h_a__fault, q94_2⟩)), by rw [ht]; exact hP.sub [0, 1] rfl, hD.sub [0, 1] (by decide) rfl⟩, hS.F ht⟩) hS.2.2 dX7_takeNumber_141
          · have h14 : IV 10 2147483647 k94_L_4 := iv_lt2 (Int32.not_le.mp c12) (iv_c (a := 9) (b := 9) (by decide)) h11 (by decide)
            exact K133 k94_L_4 k94_L_3 k94_F_a_2 q94_2 q94_3 H locs (hP.sub (ws' := [(a, .inr (7, [.ref a_bytes, .int a__length, .int k94_F_a_2, .int a__fault])), (a_bytes, .inl (cs 0, 400, .inl a_bytes_c))]) [0, 1] rfl) (hD.sub (ws' := [(a, .inr (7, [.ref a_bytes, .int a__length, .int k94_F_a_2, .int a__fault])), (a_bytes, .inl (cs 0, 400, .inl a_bytes_c))]) [0, 1] (by decide) rfl) hS ls (lv_sub hl [0, 1, 2, 3, 4] rfl)
    · refine lv_aload_n hx hb dX7_takeNumber_102 rfl (lv_at hl 2 rfl) ?_
      refine lv_iload_n hx hb dX7_takeNumber_103 rfl (lv_at hl 1 rfl) ?_
      refine lv_iconst (v := 0) hx hb dX7_takeNumber_104 (by decide) ?_
      have hFc := va_free (wc := [(a, .inr (7, [.ref a_bytes, .int a__length, .int k94_F_a_2, .int a__fault]))]) hD hS hA [0] rfl
      refine va_callv (va_runV (As := [.int k94_L_3, .int 0]) (rest := []) ⟨hx, hb, hml, hown, hT⟩ (c_X7_fail l D cs kK kV a k94_L_3 0 a_bytes a__length k94_F_a_2 a__fault q94_3 ((iv_c (by decide))) h_a__fault H.size) (cwV 2 hT (hz_gV q_633 q_445 q_446 q_221 q_447) rfl rfl rfl (by decide +kernel) ⟨(Nat.le_of_ble_eq_true rfl), (Nat.le_of_ble_eq_true rfl)⟩) ⟨hz_C.blind, va_recv hK hP (ci := 7) (q0 := 0) rfl rfl, hz_C.mk (hP.sub (ws' := [(a, .inr (7, [.ref a_bytes, .int a__length, .int k94_F_a_2, .int a__fault]))]) [0] rfl) (hD.sub (ws' := [(a, .inr (7, [.ref a_bytes, .int a__length, .int k94_F_a_2, .int a__fault]))]) [0] (by decide) rfl) hE hS hFc⟩ rfl rfl hl.1 rfl (lv_room (Nat.le_of_ble_eq_true rfl)) dX7_takeNumber_105 ⟨(Nat.le_of_ble_eq_true rfl), (Nat.le_of_ble_eq_true rfl)⟩) hS (fun q _ h => hFc q h) hFc (fun o16 t H1 locs ht hvm hw hB hz1 hk1 hS => ?_)
      obtain ⟨hP1, hD1⟩ := hB
      rw [ht] at hP1
      obtain ⟨hP, hD⟩ := va_join (wr := [(a_bytes, .inl (cs 0, 400, .inl a_bytes_c))]) (w1 := [(a, .inr (7, [.ref a_bytes, .int a__length, .int k94_F_a_2, .int (o16.1 0)]))]) hP hD [0] [1] rfl rfl (by decide) (by decide) hk1 hFc hP1 hD1
      generalize H1 = H at hP hS ⊢
      have hP : va_P D classes [(a_bytes, .inl (cs 0, 400, .inl a_bytes_c)), (a, .inr (7, [.ref a_bytes, .int a__length, .int k94_F_a_2, .int (o16.1 0)]))] H := hP
      have hD : va_D A [(a_bytes, .inl (cs 0, 400, .inl a_bytes_c)), (a, .inr (7, [.ref a_bytes, .int a__length, .int k94_F_a_2, .int (o16.1 0)]))] := hD
      clear hk1 hFc hP1 hD1 hz1
      have h17 := hw
      refine lv_goto (tgt := 139) hx hb dX7_takeNumber_108 (by decide) ?_
      refine lv_iload hx hb dX7_takeNumber_139 (lv_at hl 0 rfl) ?_
      refine W.widen (k := 0) (n := 0) (Nat.le_of_ble_eq_true rfl) (Nat.le_of_ble_eq_true rfl) ?_
      exact W.iret (v := k94_L_4) hx hb hr (fun t ht hW => ⟨⟨k94_L_4, (fun k => match k with | 0 => o16.1 0 | 1 => k94_F_a_2 | _ => 0, fun _ _ => 0), rfl, (Or.inr ((⟨h17, q94_2⟩))), by rw [ht]; exact hP.sub [1, 0] rfl, hD.sub [1, 0] (by decide) rfl⟩, hS.F ht⟩) hS.2.2 dX7_takeNumber_141
  have K12 : ∀ (n : Nat) (k12_L_4 : Int32) (k12_L_3 : Int32) (k12_F_a_2 : Int32), (400 - k12_F_a_2.toInt + 1).toNat ≤ n → IV 0 400 k12_F_a_2 → IV 0 400 k12_L_3 → ∀ (H : Heap) (locs : List Loc), va_P D classes [(a, .inr (7, [.ref a_bytes, .int a__length, .int k12_F_a_2, .int a__fault])), (a_bytes, .inl (cs 0, 400, .inl a_bytes_c))] H → va_D A [(a, .inr (7, [.ref a_bytes, .int a__length, .int k12_F_a_2, .int a__fault])), (a_bytes, .inl (cs 0, 400, .inl a_bytes_c))] → va_S A s.heap H locs → ∀ ls : Array Slot, lv_has ls 5 [(4, .int k12_L_4), (3, .int k12_L_3), (0, .ref a), (1, .int 0), (2, .int 9)] → W p l e (headSpec (hz_w yX7_takeNumber cX7_takeNumber 5 (some .int)) ({ frames := 1, cells := 0, slots := 0, locals := 22 })).room s m [.ref a, .int 0, .int 9].toArray below meth c H locs 0 0 (MQ below (va_Qi (fun (r : Int32) (u : (Nat → Int32) × (Nat → Nat → Int32)) => (IV 0 9 r ∧ IV 0 3205 (u.1 0) ∧ IV 0 400 (u.1 1)) ∨ (IV 1 3205 (u.1 0) ∧ IV 0 400 (u.1 1))) (fun u t => va_P D classes [(a, .inr (7, [.ref a_bytes, .int a__length, .int (u.1 1), .int (u.1 0)])), (a_bytes, .inl (cs 0, 400, .inl a_bytes_c))] t.heap ∧ va_D A [(a, .inr (7, [.ref a_bytes, .int a__length, .int (u.1 1), .int (u.1 0)])), (a_bytes, .inl (cs 0, 400, .inl a_bytes_c))]) A) [.ref a, .int 0, .int 9].toArray s 0 0 A) (F0 m 12 ls []) := by
    intro n
    induction n with
    | zero =>
      intro k12_L_4 k12_L_3 k12_F_a_2 hn q12_2 q12_3 H locs hP hD hS ls hl
      exact absurd hn (by unfold IV at q12_2; omega)
    | succ n ih12 =>
      intro k12_L_4 k12_L_3 k12_F_a_2 hn q12_2 q12_3 H locs hP hD hS ls hl
      have K81 : ∀ (k81_L_4 : Int32), IV 1 400 a__length → IV 0 399 k12_F_a_2 → IV 0 400 k12_L_3 → ∀ (H : Heap) (locs : List Loc), va_P D classes [(a, .inr (7, [.ref a_bytes, .int a__length, .int k12_F_a_2, .int a__fault])), (a_bytes, .inl (cs 0, 400, .inl a_bytes_c))] H → va_D A [(a, .inr (7, [.ref a_bytes, .int a__length, .int k12_F_a_2, .int a__fault])), (a_bytes, .inl (cs 0, 400, .inl a_bytes_c))] → va_S A s.heap H locs → ∀ ls : Array Slot, lv_has ls 5 [(4, .int k81_L_4), (3, .int k12_L_3), (0, .ref a), (1, .int 0), (2, .int 9)] → W p l e (headSpec (hz_w yX7_takeNumber cX7_takeNumber 5 (some .int)) ({ frames := 1, cells := 0, slots := 0, locals := 22 })).room s m [.ref a, .int 0, .int 9].toArray below meth c H locs 0 0 (MQ below (va_Qi (fun (r : Int32) (u : (Nat → Int32) × (Nat → Nat → Int32)) => (IV 0 9 r ∧ IV 0 3205 (u.1 0) ∧ IV 0 400 (u.1 1)) ∨ (IV 1 3205 (u.1 0) ∧ IV 0 400 (u.1 1))) (fun u t => va_P D classes [(a, .inr (7, [.ref a_bytes, .int a__length, .int (u.1 1), .int (u.1 0)])), (a_bytes, .inl (cs 0, 400, .inl a_bytes_c))] t.heap ∧ va_D A [(a, .inr (7, [.ref a_bytes, .int a__length, .int (u.1 1), .int (u.1 0)])), (a_bytes, .inl (cs 0, 400, .inl a_bytes_c))]) A) [.ref a, .int 0, .int 9].toArray s 0 0 A) (F0 m 81 ls []) := by
        intro k81_L_4 q81_1 q81_2 q81_3 H locs hP hD hS ls hl
        refine lv_aload_n hx hb dX7_takeNumber_81 rfl (lv_at hl 2 rfl) ?_
        refine lv_dup hx hb dX7_takeNumber_82 rfl ?_
        refine va_get (D := D) (ci := 7) (v := .int k12_F_a_2) (C := RX7) (T := TX7) (N := 4) hx hb hT i_X7 hown hK hP 0 rfl rfl 2 (by decide) (hT _ q_129) (fun _ h9 => h9) rfl dX7_takeNumber_83 ?_
        refine lv_iconst (v := 1) hx hb dX7_takeNumber_86 (by decide) ?_
        refine lv_iadd hx hb dX7_takeNumber_87 ?_
        refine lv_topi (fun v18 ev18 => ?_)
        have hv18 : IV 1 400 v18 := iv_add ev18 q81_2 (iv_c (a := 1) (b := 1) (by decide)) (by decide) (by decide)
        have dv18 : v18.toInt = k12_F_a_2.toInt + 1 := iv_addE ev18 q81_2 (iv_c (a := 1) (b := 1) (by decide)) (by decide) (by decide) (by decide)
        refine va_put (D := D) (ci := 7) (v := .int v18) (ty := .int) (C := RX7) (T := TX7) (N := 4) hx hb hT i_X7 tyX7 tyX7_ok nmX7 hown hK hP hD hS 0 rfl rfl 2 (by decide) (hT _ q_129) (fun _ h9 => h9) rfl (by decide +kernel) rfl rfl (Nat.le_of_ble_eq_true rfl) dX7_takeNumber_88 (fun H locs hP hD hS => ?_)
        have hP : va_P D classes [(a, .inr (7, [.ref a_bytes, .int a__length, .int v18, .int a__fault])), (a_bytes, .inl (cs 0, 400, .inl a_bytes_c))] H := hP
        have hD : va_D A [(a, .inr (7, [.ref a_bytes, .int a__length, .int v18, .int a__fault])), (a_bytes, .inl (cs 0, 400, .inl a_bytes_c))] := hD
        refine lv_goto (tgt := 12) hx hb dX7_takeNumber_91 (by decide) ?_
        exact ih12 k81_L_4 k12_L_3 v18 (by have h9 := q81_2; unfold IV at h9; have := dv18; omega) (iv_w hv18 (by decide) (by decide)) q81_3 H locs (hP.sub (ws' := [(a, .inr (7, [.ref a_bytes, .int a__length, .int v18, .int a__fault])), (a_bytes, .inl (cs 0, 400, .inl a_bytes_c))]) [0, 1] rfl) (hD.sub (ws' := [(a, .inr (7, [.ref a_bytes, .int a__length, .int v18, .int a__fault])), (a_bytes, .inl (cs 0, 400, .inl a_bytes_c))]) [0, 1] (by decide) rfl) hS ls (lv_sub hl [0, 1, 2, 3, 4] rfl)
      refine lv_aload_n hx hb dX7_takeNumber_12 rfl (lv_at hl 2 rfl) ?_
      refine va_get (D := D) (ci := 7) (v := .int k12_F_a_2) (C := RX7) (T := TX7) (N := 4) hx hb hT i_X7 hown hK hP 0 rfl rfl 2 (by decide) (hT _ q_129) (fun _ h9 => h9) rfl dX7_takeNumber_13 ?_
      refine lv_aload_n hx hb dX7_takeNumber_16 rfl (lv_at hl 2 rfl) ?_
      refine va_get (D := D) (ci := 7) (v := .int a__length) (C := RX7) (T := TX7) (N := 4) hx hb hT i_X7 hown hK hP 0 rfl rfl 1 (by decide) (hT _ q_128) (fun _ h9 => h9) rfl dX7_takeNumber_17 ?_
      refine lv_icmp_ge (tgt := 94) hx hb dX7_takeNumber_20 (by decide) (fun c19 => ?_) (fun c19 => ?_)
      · exact K94 k12_L_4 k12_L_3 k12_F_a_2 q12_2 q12_3 H locs (hP.sub (ws' := [(a, .inr (7, [.ref a_bytes, .int a__length, .int k12_F_a_2, .int a__fault])), (a_bytes, .inl (cs 0, 400, .inl a_bytes_c))]) [0, 1] rfl) (hD.sub (ws' := [(a, .inr (7, [.ref a_bytes, .int a__length, .int k12_F_a_2, .int a__fault])), (a_bytes, .inl (cs 0, 400, .inl a_bytes_c))]) [0, 1] (by decide) rfl) hS ls (lv_sub hl [0, 1, 2, 3, 4] rfl)
      · have h20 : IV 0 399 k12_F_a_2 := iv_lt1 (Int32.not_le.mp c19) q12_2 h_a__length (by decide)
        have h21 : IV 1 400 a__length := iv_lt2 (Int32.not_le.mp c19) q12_2 h_a__length (by decide)
        refine lv_aload_n hx hb dX7_takeNumber_23 rfl (lv_at hl 2 rfl) ?_
        refine va_get (D := D) (ci := 7) (v := .ref a_bytes) (C := RX7) (T := TX7) (N := 4) hx hb hT i_X7 hown hK hP 0 rfl rfl 0 (by decide) (hT _ q_127) (fun _ h9 => h9) rfl dX7_takeNumber_24 ?_
        refine lv_aload_n hx hb dX7_takeNumber_27 rfl (lv_at hl 2 rfl) ?_
        refine va_get (D := D) (ci := 7) (v := .int k12_F_a_2) (C := RX7) (T := TX7) (N := 4) hx hb hT i_X7 hown hK hP 0 rfl rfl 2 (by decide) (hT _ q_129) (fun _ h9 => h9) rfl dX7_takeNumber_28 ?_
        refine va_iald hx hb hK hP 1 0 rfl rfl (iv_v h20 (by decide) (by decide)) dX7_takeNumber_31 ?_
        refine lv_topi (fun v22 ev22 => ?_)
        have hv22 : IV 0 255 v22 := iv_ci ev22 h_a_bytes_c (iv_v h20 (by decide) (by decide))
        refine lv_bipush (v := 48) hx hb dX7_takeNumber_32 (by decide) ?_
        refine lv_icmp_lt (tgt := 94) hx hb dX7_takeNumber_34 (by decide) (fun c23 => ?_) (fun c23 => ?_)
        · have h24 : IV 0 47 v22 := iv_lt1 c23 hv22 (iv_c (a := 48) (b := 48) (by decide)) (by decide)
          exact K94 k12_L_4 k12_L_3 k12_F_a_2 (iv_w h20 (by decide) (by decide)) q12_3 H locs (hP.sub (ws' := [(a, .inr (7, [.ref a_bytes, .int a__length, .int k12_F_a_2, .int a__fault])), (a_bytes, .inl (cs 0, 400, .inl a_bytes_c))]) [0, 1] rfl) (hD.sub (ws' := [(a, .inr (7, [.ref a_bytes, .int a__length, .int k12_F_a_2, .int a__fault])), (a_bytes, .inl (cs 0, 400, .inl a_bytes_c))]) [0, 1] (by decide) rfl) hS ls (lv_sub hl [0, 1, 2, 3, 4] rfl)
        · have h25 : IV 48 255 v22 := iv_le2 (Int32.not_lt.mp c23) (iv_c (a := 48) (b := 48) (by decide)) hv22 (by decide)
          refine lv_aload_n hx hb dX7_takeNumber_37 rfl (lv_at hl 2 rfl) ?_
          refine va_get (D := D) (ci := 7) (v := .ref a_bytes) (C := RX7) (T := TX7) (N := 4) hx hb hT i_X7 hown hK hP 0 rfl rfl 0 (by decide) (hT _ q_127) (fun _ h9 => h9) rfl dX7_takeNumber_38 ?_
          refine lv_aload_n hx hb dX7_takeNumber_41 rfl (lv_at hl 2 rfl) ?_
          refine va_get (D := D) (ci := 7) (v := .int k12_F_a_2) (C := RX7) (T := TX7) (N := 4) hx hb hT i_X7 hown hK hP 0 rfl rfl 2 (by decide) (hT _ q_129) (fun _ h9 => h9) rfl dX7_takeNumber_42 ?_
          refine va_iald hx hb hK hP 1 0 rfl rfl (iv_v h20 (by decide) (by decide)) dX7_takeNumber_45 ?_
          refine hz_ev v22 ev22.symm ?_
          refine lv_bipush (v := 57) hx hb dX7_takeNumber_46 (by decide) ?_
          refine lv_icmp_gt (tgt := 94) hx hb dX7_takeNumber_48 (by decide) (fun c26 => ?_) (fun c26 => ?_)
          · have h27 : IV 58 255 v22 := iv_lt2 c26 (iv_c (a := 57) (b := 57) (by decide)) h25 (by decide)
            exact K94 k12_L_4 k12_L_3 k12_F_a_2 (iv_w h20 (by decide) (by decide)) q12_3 H locs (hP.sub (ws' := [(a, .inr (7, [.ref a_bytes, .int a__length, .int k12_F_a_2, .int a__fault])), (a_bytes, .inl (cs 0, 400, .inl a_bytes_c))]) [0, 1] rfl) (hD.sub (ws' := [(a, .inr (7, [.ref a_bytes, .int a__length, .int k12_F_a_2, .int a__fault])), (a_bytes, .inl (cs 0, 400, .inl a_bytes_c))]) [0, 1] (by decide) rfl) hS ls (lv_sub hl [0, 1, 2, 3, 4] rfl)
          · have h28 : IV 48 57 v22 := iv_le1 (Int32.not_lt.mp c26) h25 (iv_c (a := 57) (b := 57) (by decide)) (by decide)
            refine lv_aload_n hx hb dX7_takeNumber_51 rfl (lv_at hl 2 rfl) ?_
            refine va_get (D := D) (ci := 7) (v := .int k12_F_a_2) (C := RX7) (T := TX7) (N := 4) hx hb hT i_X7 hown hK hP 0 rfl rfl 2 (by decide) (hT _ q_129) (fun _ h9 => h9) rfl dX7_takeNumber_52 ?_
            refine lv_iload_n hx hb dX7_takeNumber_55 rfl (lv_at hl 1 rfl) ?_
            refine lv_isub hx hb dX7_takeNumber_56 ?_
            refine lv_topi (fun v29 ev29 => ?_)
            have hv29 : IV (-400) 399 v29 := iv_sub ev29 h20 q12_3 (by decide) (by decide)
            refine lv_iconst (v := 5) hx hb dX7_takeNumber_57 (by decide) ?_
            refine lv_icmp_ge (tgt := 81) hx hb dX7_takeNumber_58 (by decide) (fun c30 => ?_) (fun c30 => ?_)
            · have h31 : IV 5 399 v29 := iv_le2 c30 (iv_c (a := 5) (b := 5) (by decide)) hv29 (by decide)
              exact K81 k12_L_4 h21 h20 q12_3 H locs (hP.sub (ws' := [(a, .inr (7, [.ref a_bytes, .int a__length, .int k12_F_a_2, .int a__fault])), (a_bytes, .inl (cs 0, 400, .inl a_bytes_c))]) [0, 1] rfl) (hD.sub (ws' := [(a, .inr (7, [.ref a_bytes, .int a__length, .int k12_F_a_2, .int a__fault])), (a_bytes, .inl (cs 0, 400, .inl a_bytes_c))]) [0, 1] (by decide) rfl) hS ls (lv_sub hl [0, 1, 2, 3, 4] rfl)
            · have h32 : IV (-400) 4 v29 := iv_lt1 (Int32.not_le.mp c30) hv29 (iv_c (a := 5) (b := 5) (by decide)) (by decide)
              refine lv_iload hx hb dX7_takeNumber_61 (lv_at hl 0 rfl) ?_
              refine lv_bipush (v := 10) hx hb dX7_takeNumber_63 (by decide) ?_
              refine lv_imul hx hb dX7_takeNumber_65 ?_
              refine lv_topi (fun v33 ev33 => ?_)
              refine lv_aload_n hx hb dX7_takeNumber_66 rfl (lv_at hl 2 rfl) ?_
              refine va_get (D := D) (ci := 7) (v := .ref a_bytes) (C := RX7) (T := TX7) (N := 4) hx hb hT i_X7 hown hK hP 0 rfl rfl 0 (by decide) (hT _ q_127) (fun _ h9 => h9) rfl dX7_takeNumber_67 ?_
              refine lv_aload_n hx hb dX7_takeNumber_70 rfl (lv_at hl 2 rfl) ?_
              refine va_get (D := D) (ci := 7) (v := .int k12_F_a_2) (C := RX7) (T := TX7) (N := 4) hx hb hT i_X7 hown hK hP 0 rfl rfl 2 (by decide) (hT _ q_129) (fun _ h9 => h9) rfl dX7_takeNumber_71 ?_
              refine va_iald hx hb hK hP 1 0 rfl rfl (iv_v h20 (by decide) (by decide)) dX7_takeNumber_74 ?_
              refine hz_ev v22 ev22.symm ?_
              refine lv_iadd hx hb dX7_takeNumber_75 ?_
              refine lv_topi (fun v34 ev34 => ?_)
              refine lv_bipush (v := 48) hx hb dX7_takeNumber_76 (by decide) ?_
              refine lv_isub hx hb dX7_takeNumber_78 ?_
              refine lv_topi (fun v35 ev35 => ?_)
              refine lv_istore (lv' := [(4, .int v35), (3, .int k12_L_3), (0, .ref a), (1, .int 0), (2, .int 9)]) hx hb dX7_takeNumber_79 hl (by decide) rfl (fun ls hl => ?_)
              exact K81 v35 h21 h20 q12_3 H locs (hP.sub (ws' := [(a, .inr (7, [.ref a_bytes, .int a__length, .int k12_F_a_2, .int a__fault])), (a_bytes, .inl (cs 0, 400, .inl a_bytes_c))]) [0, 1] rfl) (hD.sub (ws' := [(a, .inr (7, [.ref a_bytes, .int a__length, .int k12_F_a_2, .int a__fault])), (a_bytes, .inl (cs 0, 400, .inl a_bytes_c))]) [0, 1] (by decide) rfl) hS ls (lv_sub hl [0, 1, 2, 3, 4] rfl)
  refine lv_aload_n hx hb dX7_takeNumber_0 rfl (lv_at hl 0 rfl) ?_
  have hFc := va_free (wc := [(a, .inr (7, [.ref a_bytes, .int a__length, .int a__place, .int a__fault])), (a_bytes, .inl (cs 0, 400, .inl a_bytes_c))]) hD hS hA [0,1] rfl
  refine va_callv (va_runV (As := []) (rest := []) ⟨hx, hb, hml, hown, hT⟩ (c_X7_skipBlanks l D cs kK kV a a_bytes a__length a__place a__fault a_bytes_c h_a__length h_a__place h_a_bytes_c H.size) (cwV 0 hT (hz_gV q_631 q_437 q_438 q_221 q_439) rfl rfl rfl (by decide +kernel) ⟨(Nat.le_of_ble_eq_true rfl), (Nat.le_of_ble_eq_true rfl)⟩) ⟨hz_C.blind, va_recv hK hP (ci := 7) (q0 := 0) rfl rfl, hz_C.mk (hP.sub (ws' := [(a, .inr (7, [.ref a_bytes, .int a__length, .int a__place, .int a__fault])), (a_bytes, .inl (cs 0, 400, .inl a_bytes_c))]) [0,1] rfl) (hD.sub (ws' := [(a, .inr (7, [.ref a_bytes, .int a__length, .int a__place, .int a__fault])), (a_bytes, .inl (cs 0, 400, .inl a_bytes_c))]) [0,1] (by decide) rfl) hE hS hFc⟩ rfl rfl hl.1 rfl (lv_room (Nat.le_of_ble_eq_true rfl)) dX7_takeNumber_1 ⟨(Nat.le_of_ble_eq_true rfl), (Nat.le_of_ble_eq_true rfl)⟩) hS (fun q _ h => hFc q h) hFc (fun u t H1 locs ht hvm hw hB hz1 hk1 hS => ?_)
  obtain ⟨o37, h38, hP1, hD1⟩ := hB
  rw [ht] at hP1
  obtain ⟨hP, hD⟩ := va_join (wr := []) (w1 := [(a, .inr (7, [.ref a_bytes, .int a__length, .int o37, .int a__fault])), (a_bytes, .inl (cs 0, 400, .inl a_bytes_c))]) hP hD [0, 1] [] rfl rfl (by decide) (by decide) hk1 hFc hP1 hD1
  generalize H1 = H at hP hS ⊢
  have hP : va_P D classes [(a, .inr (7, [.ref a_bytes, .int a__length, .int o37, .int a__fault])), (a_bytes, .inl (cs 0, 400, .inl a_bytes_c))] H := hP
  have hD : va_D A [(a, .inr (7, [.ref a_bytes, .int a__length, .int o37, .int a__fault])), (a_bytes, .inl (cs 0, 400, .inl a_bytes_c))] := hD
  clear hk1 hFc hP1 hD1 hz1
  refine lv_aload_n hx hb dX7_takeNumber_4 rfl (lv_at hl 0 rfl) ?_
  refine va_get (D := D) (ci := 7) (v := .int o37) (C := RX7) (T := TX7) (N := 4) hx hb hT i_X7 hown hK hP 0 rfl rfl 2 (by decide) (hT _ q_129) (fun _ h9 => h9) rfl dX7_takeNumber_5 ?_
  refine lv_istore_n (lv' := [(3, .int o37), (0, .ref a), (1, .int 0), (2, .int 9)]) hx hb dX7_takeNumber_8 rfl hl (by decide) rfl (fun ls hl => ?_)
  refine lv_iconst (v := 0) hx hb dX7_takeNumber_9 (by decide) ?_
  refine lv_istore (lv' := [(4, .int 0), (3, .int o37), (0, .ref a), (1, .int 0), (2, .int 9)]) hx hb dX7_takeNumber_10 hl (by decide) rfl (fun ls hl => ?_)
  exact K12 _ 0 o37 o37 (Nat.le_refl _) h38 h38 H locs (hP.sub (ws' := [(a, .inr (7, [.ref a_bytes, .int a__length, .int o37, .int a__fault])), (a_bytes, .inl (cs 0, 400, .inl a_bytes_c))]) [0, 1] rfl) (hD.sub (ws' := [(a, .inr (7, [.ref a_bytes, .int a__length, .int o37, .int a__fault])), (a_bytes, .inl (cs 0, 400, .inl a_bytes_c))]) [0, 1] (by decide) rfl) hS ls (lv_sub hl [0, 1, 2, 3, 4] rfl)
set_option maxHeartbeats 4000000 in
set_option maxRecDepth 100000 in
theorem c_X0_numberTold_80 (l : Launch) (D : va_G) (cs : Nat → ClassId) (kK kV : Nat → Nat) (a : Nat) (a_tape : Nat) (a_told : Nat) (a__kindsTold : Int32) (a_tape_bytes : Nat) (a_tape__length : Int32) (a_tape__place : Int32) (a_tape__fault : Int32) (a_tape_bytes_c : Nat → Int32) (h_a_tape__length : IV 0 400 a_tape__length) (h_a_tape__place : IV 0 400 a_tape__place) (h_a_tape__fault : IV 0 3205 a_tape__fault) (h_a_tape_bytes_c : CI 400 0 255 a_tape_bytes_c) (sz : Nat) : Met l yX0_numberTold (hz_w yX0_numberTold cX0_numberTold 3 (some .int)) ({ frames := 2, cells := 0, slots := 0, locals := 46 }) (va_Pc [.ref a, .int 0, .int 9] (hz_C D cs kK kV sz [(a, .inr (0, [.ref a_tape, .ref a_told, .int a__kindsTold])), (a_tape, .inr (7, [.ref a_tape_bytes, .int a_tape__length, .int a_tape__place, .int a_tape__fault])), (a_tape_bytes, .inl (cs 0, 400, .inl a_tape_bytes_c))])) (va_Qi (fun (r : Int32) (u : (Nat → Int32) × (Nat → Nat → Int32)) => (r = 0 ∧ IV 1 3205 (u.1 0) ∧ IV 1 3205 a_tape__fault ∧ IV 0 400 (u.1 1)) ∨ (IV 0 9 r ∧ IV 0 3205 (u.1 0) ∧ IV 0 0 a_tape__fault ∧ IV 0 400 (u.1 1)) ∨ (IV 1 3205 (u.1 0) ∧ IV 0 0 a_tape__fault ∧ IV 0 400 (u.1 1))) (fun u t => va_P D classes [(a, .inr (0, [.ref a_tape, .ref a_told, .int a__kindsTold])), (a_tape, .inr (7, [.ref a_tape_bytes, .int a_tape__length, .int (u.1 1), .int (u.1 0)])), (a_tape_bytes, .inl (cs 0, 400, .inl a_tape_bytes_c))] t.heap ∧ va_D (va_A [(a, .inr (0, [.ref a_tape, .ref a_told, .int a__kindsTold])), (a_tape, .inr (7, [.ref a_tape_bytes, .int a_tape__length, .int a_tape__place, .int a_tape__fault])), (a_tape_bytes, .inl (cs 0, 400, .inl a_tape_bytes_c))] sz) [(a, .inr (0, [.ref a_tape, .ref a_told, .int a__kindsTold])), (a_tape, .inr (7, [.ref a_tape_bytes, .int a_tape__length, .int (u.1 1), .int (u.1 0)])), (a_tape_bytes, .inl (cs 0, 400, .inl a_tape_bytes_c))]) (va_A [(a, .inr (0, [.ref a_tape, .ref a_told, .int a__kindsTold])), (a_tape, .inr (7, [.ref a_tape_bytes, .int a_tape__length, .int a_tape__place, .int a_tape__fault])), (a_tape_bytes, .inl (cs 0, 400, .inl a_tape_bytes_c))] sz)) 0 0 (va_A [(a, .inr (0, [.ref a_tape, .ref a_told, .int a__kindsTold])), (a_tape, .inr (7, [.ref a_tape_bytes, .int a_tape__length, .int a_tape__place, .int a_tape__fault])), (a_tape_bytes, .inl (cs 0, 400, .inl a_tape_bytes_c))] sz) := by
  refine Met.ofW (cc := cX0_numberTold) (maxL := 3) (ret := (some .int)) (by decide) rfl ?_
  intro p e s m args below meth c s₁ B hml hv
  obtain ⟨rfl, hsz, hP, hD0, hE⟩ := hv
  have hx := B.exec
  have hb := B.bytes
  have hr := B.returns
  have hT : ∀ w ∈ TB, w.before _ s = true := fun w h => atoms_spec (ws := hz_w yX0_numberTold cX0_numberTold 3 (some .int)) B.pre w (List.mem_cons_of_mem _ h)
  have hown : s.vm.findClass RX0 = some m.cls := findClass_of_methodNamed B.named
  have hlocks := B.notSynchronized
  clear B
  subst hsz
  have hD := hD0.self (sz := s.heap.size)
  generalize hAe : va_A [(a, .inr (0, [.ref a_tape, .ref a_told, .int a__kindsTold])), (a_tape, .inr (7, [.ref a_tape_bytes, .int a_tape__length, .int a_tape__place, .int a_tape__fault])), (a_tape_bytes, .inl (cs 0, 400, .inl a_tape_bytes_c))] s.heap.size = A at hD hE ⊢
  have hA : ∀ q : Nat, s.heap.size ≤ q → A q := fun q h => by rw [← hAe]; exact Or.inr h
  clear hAe hD0
  have hS : va_S A s.heap s.heap [] := va_S.rf
  have hK := hE.1
  have hl := lv_entry ([.ref a, .int 0, .int 9]) (n := 3) (Nat.le_of_ble_eq_true rfl)
  rw [lg_entry_eq]
  generalize (lg_sl ([.ref a, .int 0, .int 9]) ++ List.replicate (3 - (lg_sl ([.ref a, .int 0, .int 9])).length) Slot.unset).toArray = ls at hl ⊢
  have hl : lv_has ls 3 [(0, .ref a), (1, .int 0), (2, .int 9)] := hl
  obtain ⟨H, eH⟩ : ∃ z, z = s.heap := ⟨_, rfl⟩
  have hP : va_P D classes [(a, .inr (0, [.ref a_tape, .ref a_told, .int a__kindsTold])), (a_tape, .inr (7, [.ref a_tape_bytes, .int a_tape__length, .int a_tape__place, .int a_tape__fault])), (a_tape_bytes, .inl (cs 0, 400, .inl a_tape_bytes_c))] H := by rw [eH]; exact hP
  have hS : va_S A s.heap H [] := by rw [eH]; exact hS
  rw [← eH]
  clear eH
  obtain ⟨locs, el⟩ : ∃ z : List Loc, z = [] := ⟨_, rfl⟩
  rw [← el] at hS ⊢
  clear el
  refine lv_aload_n hx hb dX0_numberTold_0 rfl (lv_at hl 0 rfl) ?_
  refine va_get (D := D) (ci := 0) (v := .ref a_tape) (C := RX0) (T := TX0) (N := 3) hx hb hT i_X0 hown hK hP 0 rfl rfl 0 (by decide) (hT _ q_44) (fun _ h9 => h9) rfl dX0_numberTold_1 ?_
  refine va_calli (va_runV (As := []) (rest := []) ⟨hx, hb, hml, hown, hT⟩ (c_X7_isSound l D cs kK kV a_tape a_tape_bytes a_tape__length a_tape__place a_tape__fault h_a_tape__fault) (cwV 0 hT (hz_gV q_420 q_421 q_422 q_221 q_423) rfl rfl rfl (by decide +kernel) ⟨(Nat.le_of_ble_eq_true rfl), (Nat.le_of_ble_eq_true rfl)⟩) ⟨hz_P.blind, va_recv hK hP (ci := 7) (q0 := 1) rfl rfl, hz_P.mk (hP.sub (ws' := [(a_tape, .inr (7, [.ref a_tape_bytes, .int a_tape__length, .int a_tape__place, .int a_tape__fault]))]) [1] rfl) hE hS⟩ rfl rfl hl.1 rfl (lv_room (Nat.le_of_ble_eq_true rfl)) dX0_numberTold_4 ⟨(Nat.le_of_ble_eq_true rfl), (Nat.le_of_ble_eq_true rfl)⟩) hS (fun _ _ h => h.elim) (fun _ h => h.elim) (fun r1 u t H1 locs ht hvm hw hB hz1 hk1 hS => ?_)
  have hP := hz_keep hP hk1
  clear hk1 hB hz1
  generalize H1 = H at hP hS ⊢
  rcases hw with ⟨rfl, h2⟩ | ⟨rfl, h3⟩
  · refine lv_if_eq (tgt := 22) hx hb dX0_numberTold_7 (by decide) (fun _ => ?_) (fun z => absurd (by decide) z)
    refine lv_iload_n hx hb dX0_numberTold_22 rfl (lv_at hl 1 rfl) ?_
    refine W.widen (k := 0) (n := 0) (Nat.le_of_ble_eq_true rfl) (Nat.le_of_ble_eq_true rfl) ?_
    exact W.iret (v := 0) hx hb hr (fun t ht hW => ⟨⟨0, (fun k => match k with | 0 => a_tape__fault | 1 => a_tape__place | _ => 0, fun _ _ => 0), rfl, (Or.inl (⟨rfl, h2, h2, h_a_tape__place⟩)), by rw [ht]; exact hP.sub [0, 1, 2] rfl, hD.sub [0, 1, 2] (by decide) rfl⟩, hS.F ht⟩) hS.2.2 dX0_numberTold_23
  · refine lv_if_eq (tgt := 22) hx hb dX0_numberTold_7 (by decide) (fun z => absurd z (by decide)) (fun _ => ?_)
    refine lv_aload_n hx hb dX0_numberTold_10 rfl (lv_at hl 0 rfl) ?_
    refine va_get (D := D) (ci := 0) (v := .ref a_tape) (C := RX0) (T := TX0) (N := 3) hx hb hT i_X0 hown hK hP 0 rfl rfl 0 (by decide) (hT _ q_44) (fun _ h9 => h9) rfl dX0_numberTold_11 ?_
    refine lv_iload_n hx hb dX0_numberTold_14 rfl (lv_at hl 1 rfl) ?_
    refine lv_iload_n hx hb dX0_numberTold_15 rfl (lv_at hl 2 rfl) ?_
    have hFc := va_free (wc := [(a_tape, .inr (7, [.ref a_tape_bytes, .int a_tape__length, .int a_tape__place, .int a_tape__fault])), (a_tape_bytes, .inl (cs 0, 400, .inl a_tape_bytes_c))]) hD hS hA [1,2] rfl
    refine va_calli (va_runV (As := [.int 0, .int 9]) (rest := []) ⟨hx, hb, hml, hown, hT⟩ (c_X7_takeNumber_81 l D cs kK kV a_tape a_tape_bytes a_tape__length a_tape__place a_tape__fault a_tape_bytes_c h_a_tape__length h_a_tape__place ((iv_w h3 (by decide) (by decide))) h_a_tape_bytes_c H.size) (cwV 2 hT (hz_gV q_472 q_473 q_474 q_221 q_475) rfl rfl rfl (by decide +kernel) ⟨(Nat.le_of_ble_eq_true rfl), (Nat.le_of_ble_eq_true rfl)⟩) ⟨hz_C.blind, va_recv hK hP (ci := 7) (q0 := 1) rfl rfl, hz_C.mk (hP.sub (ws' := [(a_tape, .inr (7, [.ref a_tape_bytes, .int a_tape__length, .int a_tape__place, .int a_tape__fault])), (a_tape_bytes, .inl (cs 0, 400, .inl a_tape_bytes_c))]) [1,2] rfl) (hD.sub (ws' := [(a_tape, .inr (7, [.ref a_tape_bytes, .int a_tape__length, .int a_tape__place, .int a_tape__fault])), (a_tape_bytes, .inl (cs 0, 400, .inl a_tape_bytes_c))]) [1,2] (by decide) rfl) hE hS hFc⟩ rfl rfl hl.1 rfl (lv_room (Nat.le_of_ble_eq_true rfl)) dX0_numberTold_16 ⟨(Nat.le_of_ble_eq_true rfl), (Nat.le_of_ble_eq_true rfl)⟩) hS (fun q _ h => hFc q h) hFc (fun r4 o5 t H1 locs ht hvm hw hB hz1 hk1 hS => ?_)
    obtain ⟨hP1, hD1⟩ := hB
    rw [ht] at hP1
    obtain ⟨hP, hD⟩ := va_join (wr := [(a, .inr (0, [.ref a_tape, .ref a_told, .int a__kindsTold]))]) (w1 := [(a_tape, .inr (7, [.ref a_tape_bytes, .int a_tape__length, .int (o5.1 1), .int (o5.1 0)])), (a_tape_bytes, .inl (cs 0, 400, .inl a_tape_bytes_c))]) hP hD [1, 2] [0] rfl rfl (by decide) (by decide) hk1 hFc hP1 hD1
    generalize H1 = H at hP hS ⊢
    have hP : va_P D classes [(a, .inr (0, [.ref a_tape, .ref a_told, .int a__kindsTold])), (a_tape, .inr (7, [.ref a_tape_bytes, .int a_tape__length, .int (o5.1 1), .int (o5.1 0)])), (a_tape_bytes, .inl (cs 0, 400, .inl a_tape_bytes_c))] H := hP
    have hD : va_D A [(a, .inr (0, [.ref a_tape, .ref a_told, .int a__kindsTold])), (a_tape, .inr (7, [.ref a_tape_bytes, .int a_tape__length, .int (o5.1 1), .int (o5.1 0)])), (a_tape_bytes, .inl (cs 0, 400, .inl a_tape_bytes_c))] := hD
    clear hk1 hFc hP1 hD1 hz1
    rcases hw with ⟨h6, h7, h8⟩ | ⟨h9, h10⟩
    · refine lv_goto (tgt := 23) hx hb dX0_numberTold_19 (by decide) ?_
      refine W.widen (k := 0) (n := 0) (Nat.le_of_ble_eq_true rfl) (Nat.le_of_ble_eq_true rfl) ?_
      exact W.iret (v := r4) hx hb hr (fun t ht hW => ⟨⟨r4, (fun k => match k with | 0 => o5.1 0 | 1 => o5.1 1 | _ => 0, fun _ _ => 0), rfl, (Or.inr (Or.inl (⟨h6, h7, h3, h8⟩))), by rw [ht]; exact hP.sub [0, 1, 2] rfl, hD.sub [0, 1, 2] (by decide) rfl⟩, hS.F ht⟩) hS.2.2 dX0_numberTold_23
    · refine lv_goto (tgt := 23) hx hb dX0_numberTold_19 (by decide) ?_
      refine W.widen (k := 0) (n := 0) (Nat.le_of_ble_eq_true rfl) (Nat.le_of_ble_eq_true rfl) ?_
      exact W.iret (v := r4) hx hb hr (fun t ht hW => ⟨⟨r4, (fun k => match k with | 0 => o5.1 0 | 1 => o5.1 1 | _ => 0, fun _ _ => 0), rfl, (Or.inr (Or.inr ((⟨h9, h3, h10⟩)))), by rw [ht]; exact hP.sub [0, 1, 2] rfl, hD.sub [0, 1, 2] (by decide) rfl⟩, hS.F ht⟩) hS.2.2 dX0_numberTold_23
set_option maxHeartbeats 4000000 in
set_option maxRecDepth 100000 in
theorem c_X0_isTooMany_82 (l : Launch) (D : va_G) (cs : Nat → ClassId) (kK kV : Nat → Nat) (a : Nat) (a_tape : Nat) (a_told : Nat) (a__kindsTold : Int32)  : Met l yX0_isTooMany (hz_w yX0_isTooMany cX0_isTooMany 2 (some .boolean)) ({ frames := 0, cells := 0, slots := 0, locals := 0 }) (va_Pc [.ref a, .int 6] (hz_P D cs kK kV [(a, .inr (0, [.ref a_tape, .ref a_told, .int a__kindsTold]))])) (va_Qi (fun (r : Int32) (_ : Unit) => (r = 0) ∨ (r = 1)) (fun _ t => True) (fun _ => False)) 0 0 (fun _ => False) := by
  refine Met.ofW (cc := cX0_isTooMany) (maxL := 2) (ret := (some .boolean)) (by decide) rfl ?_
  intro p e s m args below meth c s₁ B hml hv
  obtain ⟨rfl, hP, hE⟩ := hv
  have hx := B.exec
  have hb := B.bytes
  have hr := B.returns
  have hT : ∀ w ∈ TB, w.before _ s = true := fun w h => atoms_spec (ws := hz_w yX0_isTooMany cX0_isTooMany 2 (some .boolean)) B.pre w (List.mem_cons_of_mem _ h)
  have hown : s.vm.findClass RX0 = some m.cls := findClass_of_methodNamed B.named
  have hlocks := B.notSynchronized
  clear B
  have hS : va_S (fun _ => False) s.heap s.heap [] := va_S.rf
  have hK := hE.1
  have hl := lv_entry ([.ref a, .int 6]) (n := 2) (Nat.le_of_ble_eq_true rfl)
  rw [lg_entry_eq]
  generalize (lg_sl ([.ref a, .int 6]) ++ List.replicate (2 - (lg_sl ([.ref a, .int 6])).length) Slot.unset).toArray = ls at hl ⊢
  have hl : lv_has ls 2 [(0, .ref a), (1, .int 6)] := hl
  obtain ⟨H, eH⟩ : ∃ z, z = s.heap := ⟨_, rfl⟩
  have hP : va_P D classes [(a, .inr (0, [.ref a_tape, .ref a_told, .int a__kindsTold]))] H := by rw [eH]; exact hP
  have hS : va_S (fun _ => False) s.heap H [] := by rw [eH]; exact hS
  rw [← eH]
  clear eH
  obtain ⟨locs, el⟩ : ∃ z : List Loc, z = [] := ⟨_, rfl⟩
  rw [← el] at hS ⊢
  clear el
  have K15 : ∀ (H : Heap) (locs : List Loc), va_P D classes [(a, .inr (0, [.ref a_tape, .ref a_told, .int a__kindsTold]))] H → va_S (fun _ => False) s.heap H locs → ∀ ls : Array Slot, lv_has ls 2 [(0, .ref a), (1, .int 6)] → W p l e (headSpec (hz_w yX0_isTooMany cX0_isTooMany 2 (some .boolean)) ({ frames := 0, cells := 0, slots := 0, locals := 0 })).room s m [.ref a, .int 6].toArray below meth c H locs 0 0 (MQ below (va_Qi (fun (r : Int32) (_ : Unit) => (r = 0) ∨ (r = 1)) (fun _ t => True) (fun _ => False)) [.ref a, .int 6].toArray s 0 0 (fun _ => False)) (F0 m 15 ls []) := by
    intro   H locs hP hS ls hl
    refine lv_iload_n hx hb dX0_isTooMany_15 rfl (lv_at hl 1 rfl) ?_
    refine lv_tableIn (off := 48) (tgt := 64) hx hb dX0_isTooMany_16 (by decide) (by decide) (by decide) (by decide) ?_
    refine lv_aload_n hx hb dX0_isTooMany_64 rfl (lv_at hl 0 rfl) ?_
    refine va_get (D := D) (ci := 0) (v := .int a__kindsTold) (C := RX0) (T := TX0) (N := 3) hx hb hT i_X0 hown hK hP 0 rfl rfl 2 (by decide) (hT _ q_46) (fun _ h9 => h9) rfl dX0_isTooMany_65 ?_
    refine lv_iload_n hx hb dX0_isTooMany_68 rfl (lv_at hl 1 rfl) ?_
    refine lv_ishr hx hb dX0_isTooMany_69 ?_
    refine lv_topi (fun v1 ev1 => ?_)
    refine lv_iconst (v := 1) hx hb dX0_isTooMany_70 (by decide) ?_
    refine lv_iand hx hb dX0_isTooMany_71 ?_
    refine lv_topi (fun v2 ev2 => ?_)
    have hv2 : IV 0 1 v2 := iv_and2 ev2 (iv_c (a := 1) (b := 1) (by decide))
    refine lv_iconst (v := 1) hx hb dX0_isTooMany_72 (by decide) ?_
    refine lv_icmp_ne (tgt := 80) hx hb dX0_isTooMany_73 (by decide) (fun c3 => ?_) (fun c3 => ?_)
    · have h4 : IV 0 0 v2 := iv_neR c3 hv2 (by decide)
      refine lv_iconst (v := 0) hx hb dX0_isTooMany_80 (by decide) ?_
      exact W.zret (v := 0) hx hb hr rfl (fun t ht hW => ⟨⟨0, (), rfl, (Or.inl (rfl)), trivial⟩, hS.F ht⟩) hS.2.2 dX0_isTooMany_81
    · have h5 : IV 1 1 v2 := iv_eq1 c3 hv2 (iv_c (a := 1) (b := 1) (by decide)) (by decide) (by decide)
      refine lv_iconst (v := 1) hx hb dX0_isTooMany_76 (by decide) ?_
      refine lv_goto (tgt := 81) hx hb dX0_isTooMany_77 (by decide) ?_
      exact W.zret (v := 1) hx hb hr rfl (fun t ht hW => ⟨⟨1, (), rfl, (Or.inr ((rfl))), trivial⟩, hS.F ht⟩) hS.2.2 dX0_isTooMany_81
  refine lv_iload_n hx hb dX0_isTooMany_0 rfl (lv_at hl 1 rfl) ?_
  refine lv_if_eq (tgt := 15) hx hb dX0_isTooMany_1 (by decide) (fun z => absurd z (by decide)) (fun _ => ?_)
  refine lv_aload_n hx hb dX0_isTooMany_4 rfl (lv_at hl 0 rfl) ?_
  refine va_get (D := D) (ci := 0) (v := .int a__kindsTold) (C := RX0) (T := TX0) (N := 3) hx hb hT i_X0 hown hK hP 0 rfl rfl 2 (by decide) (hT _ q_46) (fun _ h9 => h9) rfl dX0_isTooMany_5 ?_
  refine lv_iconst (v := 1) hx hb dX0_isTooMany_8 (by decide) ?_
  refine lv_iand hx hb dX0_isTooMany_9 ?_
  refine lv_topi (fun v6 ev6 => ?_)
  have hv6 : IV 0 1 v6 := iv_and2 ev6 (iv_c (a := 1) (b := 1) (by decide))
  refine lv_if_ne (tgt := 15) hx hb dX0_isTooMany_10 (by decide) (fun c7 => ?_) (fun c7 => ?_)
  · have h8 : IV 1 1 v6 := iv_neL c7 hv6 (by decide)
    exact K15  H locs (hP.sub (ws' := [(a, .inr (0, [.ref a_tape, .ref a_told, .int a__kindsTold]))]) [0] rfl) hS ls (lv_sub hl [0, 1] rfl)
  · have h9 : IV 0 0 v6 := iv_eq1 c7 hv6 (iv_c (a := 0) (b := 0) (by decide)) (by decide) (by decide)
    refine lv_iconst (v := 1) hx hb dX0_isTooMany_13 (by decide) ?_
    exact W.zret (v := 1) hx hb hr rfl (fun t ht hW => ⟨⟨1, (), rfl, (Or.inr ((rfl))), trivial⟩, hS.F ht⟩) hS.2.2 dX0_isTooMany_14
set_option maxHeartbeats 4000000 in
set_option maxRecDepth 100000 in
theorem c_X7_takeNumber_84 (l : Launch) (D : va_G) (cs : Nat → ClassId) (kK kV : Nat → Nat) (a : Nat) (a_bytes : Nat) (a__length : Int32) (a__place : Int32) (a__fault : Int32) (a_bytes_c : Nat → Int32) (h_a__length : IV 0 400 a__length) (h_a__place : IV 0 400 a__place) (h_a__fault : IV 0 3205 a__fault) (h_a_bytes_c : CI 400 0 255 a_bytes_c) (sz : Nat) : Met l yX7_takeNumber (hz_w yX7_takeNumber cX7_takeNumber 5 (some .int)) ({ frames := 1, cells := 0, slots := 0, locals := 22 }) (va_Pc [.ref a, .int 1, .int 24] (hz_C D cs kK kV sz [(a, .inr (7, [.ref a_bytes, .int a__length, .int a__place, .int a__fault])), (a_bytes, .inl (cs 0, 400, .inl a_bytes_c))])) (va_Qi (fun (r : Int32) (u : (Nat → Int32) × (Nat → Nat → Int32)) => (IV 1 24 r ∧ IV 0 3205 (u.1 0) ∧ IV 0 400 (u.1 1)) ∨ (IV 1 3205 (u.1 0) ∧ IV 0 400 (u.1 1))) (fun u t => va_P D classes [(a, .inr (7, [.ref a_bytes, .int a__length, .int (u.1 1), .int (u.1 0)])), (a_bytes, .inl (cs 0, 400, .inl a_bytes_c))] t.heap ∧ va_D (va_A [(a, .inr (7, [.ref a_bytes, .int a__length, .int a__place, .int a__fault])), (a_bytes, .inl (cs 0, 400, .inl a_bytes_c))] sz) [(a, .inr (7, [.ref a_bytes, .int a__length, .int (u.1 1), .int (u.1 0)])), (a_bytes, .inl (cs 0, 400, .inl a_bytes_c))]) (va_A [(a, .inr (7, [.ref a_bytes, .int a__length, .int a__place, .int a__fault])), (a_bytes, .inl (cs 0, 400, .inl a_bytes_c))] sz)) 0 0 (va_A [(a, .inr (7, [.ref a_bytes, .int a__length, .int a__place, .int a__fault])), (a_bytes, .inl (cs 0, 400, .inl a_bytes_c))] sz) := by
  refine Met.ofW (cc := cX7_takeNumber) (maxL := 5) (ret := (some .int)) (by decide) rfl ?_
  intro p e s m args below meth c s₁ B hml hv
  obtain ⟨rfl, hsz, hP, hD0, hE⟩ := hv
  have hx := B.exec
  have hb := B.bytes
  have hr := B.returns
  have hT : ∀ w ∈ TB, w.before _ s = true := fun w h => atoms_spec (ws := hz_w yX7_takeNumber cX7_takeNumber 5 (some .int)) B.pre w (List.mem_cons_of_mem _ h)
  have hown : s.vm.findClass RX7 = some m.cls := findClass_of_methodNamed B.named
  have hlocks := B.notSynchronized
  clear B
  subst hsz
  have hD := hD0.self (sz := s.heap.size)
  generalize hAe : va_A [(a, .inr (7, [.ref a_bytes, .int a__length, .int a__place, .int a__fault])), (a_bytes, .inl (cs 0, 400, .inl a_bytes_c))] s.heap.size = A at hD hE ⊢
  have hA : ∀ q : Nat, s.heap.size ≤ q → A q := fun q h => by rw [← hAe]; exact Or.inr h
  clear hAe hD0
  have hS : va_S A s.heap s.heap [] := va_S.rf
  have hK := hE.1
  have hl := lv_entry ([.ref a, .int 1, .int 24]) (n := 5) (Nat.le_of_ble_eq_true rfl)
  rw [lg_entry_eq]
  generalize (lg_sl ([.ref a, .int 1, .int 24]) ++ List.replicate (5 - (lg_sl ([.ref a, .int 1, .int 24])).length) Slot.unset).toArray = ls at hl ⊢
  have hl : lv_has ls 5 [(0, .ref a), (1, .int 1), (2, .int 24)] := hl
  obtain ⟨H, eH⟩ : ∃ z, z = s.heap := ⟨_, rfl⟩
  have hP : va_P D classes [(a, .inr (7, [.ref a_bytes, .int a__length, .int a__place, .int a__fault])), (a_bytes, .inl (cs 0, 400, .inl a_bytes_c))] H := by rw [eH]; exact hP
  have hS : va_S A s.heap H [] := by rw [eH]; exact hS
  rw [← eH]
  clear eH
  obtain ⟨locs, el⟩ : ∃ z : List Loc, z = [] := ⟨_, rfl⟩
  rw [← el] at hS ⊢
  clear el
  have K133 : ∀ (k133_L_4 : Int32) (k133_L_3 : Int32) (k133_F_a_2 : Int32), IV 0 400 k133_F_a_2 → IV 0 400 k133_L_3 → ∀ (H : Heap) (locs : List Loc), va_P D classes [(a, .inr (7, [.ref a_bytes, .int a__length, .int k133_F_a_2, .int a__fault])), (a_bytes, .inl (cs 0, 400, .inl a_bytes_c))] H → va_D A [(a, .inr (7, [.ref a_bytes, .int a__length, .int k133_F_a_2, .int a__fault])), (a_bytes, .inl (cs 0, 400, .inl a_bytes_c))] → va_S A s.heap H locs → ∀ ls : Array Slot, lv_has ls 5 [(4, .int k133_L_4), (3, .int k133_L_3), (0, .ref a), (1, .int 1), (2, .int 24)] → W p l e (headSpec (hz_w yX7_takeNumber cX7_takeNumber 5 (some .int)) ({ frames := 1, cells := 0, slots := 0, locals := 22 })).room s m [.ref a, .int 1, .int 24].toArray below meth c H locs 0 0 (MQ below (va_Qi (fun (r : Int32) (u : (Nat → Int32) × (Nat → Nat → Int32)) => (IV 1 24 r ∧ IV 0 3205 (u.1 0) ∧ IV 0 400 (u.1 1)) ∨ (IV 1 3205 (u.1 0) ∧ IV 0 400 (u.1 1))) (fun u t => va_P D classes [(a, .inr (7, [.ref a_bytes, .int a__length, .int (u.1 1), .int (u.1 0)])), (a_bytes, .inl (cs 0, 400, .inl a_bytes_c))] t.heap ∧ va_D A [(a, .inr (7, [.ref a_bytes, .int a__length, .int (u.1 1), .int (u.1 0)])), (a_bytes, .inl (cs 0, 400, .inl a_bytes_c))]) A) [.ref a, .int 1, .int 24].toArray s 0 0 A) (F0 m 133 ls []) := by
    intro k133_L_4 k133_L_3 k133_F_a_2 q133_2 q133_3 H locs hP hD hS ls hl
    refine lv_aload_n hx hb dX7_takeNumber_133 rfl (lv_at hl 2 rfl) ?_
    refine lv_iload_n hx hb dX7_takeNumber_134 rfl (lv_at hl 1 rfl) ?_
    refine lv_iconst (v := 1) hx hb dX7_takeNumber_135 (by decide) ?_
    have hFc := va_free (wc := [(a, .inr (7, [.ref a_bytes, .int a__length, .int k133_F_a_2, .int a__fault]))]) hD hS hA [0] rfl
    refine va_callv (va_runV (As := [.int k133_L_3, .int 1]) (rest := []) ⟨hx, hb, hml, hown, hT⟩ (c_X7_fail l D cs kK kV a k133_L_3 1 a_bytes a__length k133_F_a_2 a__fault q133_3 ((iv_c (by decide))) h_a__fault H.size) (cwV 2 hT (hz_gV q_633 q_445 q_446 q_221 q_447) rfl rfl rfl (by decide +kernel) ⟨(Nat.le_of_ble_eq_true rfl), (Nat.le_of_ble_eq_true rfl)⟩) ⟨hz_C.blind, va_recv hK hP (ci := 7) (q0 := 0) rfl rfl, hz_C.mk (hP.sub (ws' := [(a, .inr (7, [.ref a_bytes, .int a__length, .int k133_F_a_2, .int a__fault]))]) [0] rfl) (hD.sub (ws' := [(a, .inr (7, [.ref a_bytes, .int a__length, .int k133_F_a_2, .int a__fault]))]) [0] (by decide) rfl) hE hS hFc⟩ rfl rfl hl.1 rfl (lv_room (Nat.le_of_ble_eq_true rfl)) dX7_takeNumber_136 ⟨(Nat.le_of_ble_eq_true rfl), (Nat.le_of_ble_eq_true rfl)⟩) hS (fun q _ h => hFc q h) hFc (fun o2 t H1 locs ht hvm hw hB hz1 hk1 hS => ?_)
    obtain ⟨hP1, hD1⟩ := hB
    rw [ht] at hP1
    obtain ⟨hP, hD⟩ := va_join (wr := [(a_bytes, .inl (cs 0, 400, .inl a_bytes_c))]) (w1 := [(a, .inr (7, [.ref a_bytes, .int a__length, .int k133_F_a_2, .int (o2.1 0)]))]) hP hD [0] [1] rfl rfl (by decide) (by decide) hk1 hFc hP1 hD1
    generalize H1 = H at hP hS ⊢
    have hP : va_P D classes [(a_bytes, .inl (cs 0, 400, .inl a_bytes_c)), (a, .inr (7, [.ref a_bytes, .int a__length, .int k133_F_a_2, .int (o2.1 0)]))] H := hP
    have hD : va_D A [(a_bytes, .inl (cs 0, 400, .inl a_bytes_c)), (a, .inr (7, [.ref a_bytes, .int a__length, .int k133_F_a_2, .int (o2.1 0)]))] := hD
    clear hk1 hFc hP1 hD1 hz1
    have h3 := hw
    refine lv_iload hx hb dX7_takeNumber_139 (lv_at hl 0 rfl) ?_
    refine W.widen (k := 0) (n := 0) (Nat.le_of_ble_eq_true rfl) (Nat.le_of_ble_eq_true rfl) ?_
    exact W.iret (v := k133_L_4) hx hb hr (fun t ht hW => ⟨⟨k133_L_4, (fun k => match k with | 0 => o2.1 0 | 1 => k133_F_a_2 | _ => 0, fun _ _ => 0), rfl, (Or.inr ((⟨h3, q133_2⟩))), by rw [ht]; exact hP.sub [1, 0] rfl, hD.sub [1, 0] (by decide) rfl⟩, hS.F ht⟩) hS.2.2 dX7_takeNumber_141
  have K94 : ∀ (k94_L_4 : Int32) (k94_L_3 : Int32) (k94_F_a_2 : Int32), IV 0 400 k94_F_a_2 → IV 0 400 k94_L_3 → ∀ (H : Heap) (locs : List Loc), va_P D classes [(a, .inr (7, [.ref a_bytes, .int a__length, .int k94_F_a_2, .int a__fault])), (a_bytes, .inl (cs 0, 400, .inl a_bytes_c))] H → va_D A [(a, .inr (7, [.ref a_bytes, .int a__length, .int k94_F_a_2, .int a__fault])), (a_bytes, .inl (cs 0, 400, .inl a_bytes_c))] → va_S A s.heap H locs → ∀ ls : Array Slot, lv_has ls 5 [(4, .int k94_L_4), (3, .int k94_L_3), (0, .ref a), (1, .int 1), (2, .int 24)] → W p l e (headSpec (hz_w yX7_takeNumber cX7_takeNumber 5 (some .int)) ({ frames := 1, cells := 0, slots := 0, locals := 22 })).room s m [.ref a, .int 1, .int 24].toArray below meth c H locs 0 0 (MQ below (va_Qi (fun (r : Int32) (u : (Nat → Int32) × (Nat → Nat → Int32)) => (IV 1 24 r ∧ IV 0 3205 (u.1 0) ∧ IV 0 400 (u.1 1)) ∨ (IV 1 3205 (u.1 0) ∧ IV 0 400 (u.1 1))) (fun u t => va_P D classes [(a, .inr (7, [.ref a_bytes, .int a__length, .int (u.1 1), .int (u.1 0)])), (a_bytes, .inl (cs 0, 400, .inl a_bytes_c))] t.heap ∧ va_D A [(a, .inr (7, [.ref a_bytes, .int a__length, .int (u.1 1), .int (u.1 0)])), (a_bytes, .inl (cs 0, 400, .inl a_bytes_c))]) A) [.ref a, .int 1, .int 24].toArray s 0 0 A) (F0 m 94 ls []) := by
    intro k94_L_4 k94_L_3 k94_F_a_2 q94_2 q94_3 H locs hP hD hS ls hl
    refine lv_aload_n hx hb dX7_takeNumber_94 rfl (lv_at hl 2 rfl) ?_
    refine va_get (D := D) (ci := 7) (v := .int k94_F_a_2) (C := RX7) (T := TX7) (N := 4) hx hb hT i_X7 hown hK hP 0 rfl rfl 2 (by decide) (hT _ q_129) (fun _ h9 => h9) rfl dX7_takeNumber_95 ?_
    refine lv_iload_n hx hb dX7_takeNumber_98 rfl (lv_at hl 1 rfl) ?_
    refine lv_icmp_ne (tgt := 111) hx hb dX7_takeNumber_99 (by decide) (fun c4 => ?_) (fun c4 => ?_)
    · refine lv_aload_n hx hb dX7_takeNumber_111 rfl (lv_at hl 2 rfl) ?_
      refine va_get (D := D) (ci := 7) (v := .int k94_F_a_2) (C := RX7) (T := TX7) (N := 4) hx hb hT i_X7 hown hK hP 0 rfl rfl 2 (by decide) (hT _ q_129) (fun _ h9 => h9) rfl dX7_takeNumber_112 ?_
      refine lv_iload_n hx hb dX7_takeNumber_115 rfl (lv_at hl 1 rfl) ?_
      refine lv_isub hx hb dX7_takeNumber_116 ?_
      refine lv_topi (fun v5 ev5 => ?_)
      have hv5 : IV (-400) 400 v5 := iv_sub ev5 q94_2 q94_3 (by decide) (by decide)
      refine lv_iconst (v := 5) hx hb dX7_takeNumber_117 (by decide) ?_
      refine lv_icmp_gt (tgt := 133) hx hb dX7_takeNumber_118 (by decide) (fun c6 => ?_) (fun c6 => ?_)
      · have h7 : IV 6 400 v5 := iv_lt2 c6 (iv_c (a := 5) (b := 5) (by decide)) hv5 (by decide)
        exact K133 k94_L_4 k94_L_3 k94_F_a_2 q94_2 q94_3 H locs (hP.sub (ws' := [(a, .inr (7, [.ref a_bytes, .int a__length, .int k94_F_a_2, .int a__fault])), (a_bytes, .inl (cs 0, 400, .inl a_bytes_c))]) [0, 1] rfl) (hD.sub (ws' := [(a, .inr (7, [.ref a_bytes, .int a__length, .int k94_F_a_2, .int a__fault])), (a_bytes, .inl (cs 0, 400, .inl a_bytes_c))]) [0, 1] (by decide) rfl) hS ls (lv_sub hl [0, 1, 2, 3, 4] rfl)
      · have h8 : IV (-400) 5 v5 := iv_le1 (Int32.not_lt.mp c6) hv5 (iv_c (a := 5) (b := 5) (by decide)) (by decide)
        refine lv_iload hx hb dX7_takeNumber_121 (lv_at hl 0 rfl) ?_
        refine lv_iload_n hx hb dX7_takeNumber_123 rfl (lv_at hl 3 rfl) ?_
        refine lv_icmp_lt (tgt := 133) hx hb dX7_takeNumber_124 (by decide) (fun c9 => ?_) (fun c9 => ?_)
        · have h10 : IV (-2147483648) 0 k94_L_4 := iv_lt1 c9 iv_top (iv_c (a := 1) (b := 1) (by decide)) (by decide)
          exact K133 k94_L_4 k94_L_3 k94_F_a_2 q94_2 q94_3 H locs (hP.sub (ws' := [(a, .inr (7, [.ref a_bytes, .int a__length, .int k94_F_a_2, .int a__fault])), (a_bytes, .inl (cs 0, 400, .inl a_bytes_c))]) [0, 1] rfl) (hD.sub (ws' := [(a, .inr (7, [.ref a_bytes, .int a__length, .int k94_F_a_2, .int a__fault])), (a_bytes, .inl (cs 0, 400, .inl a_bytes_c))]) [0, 1] (by decide) rfl) hS ls (lv_sub hl [0, 1, 2, 3, 4] rfl)
        · have h11 : IV 1 2147483647 k94_L_4 := iv_le2 (Int32.not_lt.mp c9) (iv_c (a := 1) (b := 1) (by decide)) iv_top (by decide)
          refine lv_iload hx hb dX7_takeNumber_127 (lv_at hl 0 rfl) ?_
          refine lv_iload_n hx hb dX7_takeNumber_129 rfl (lv_at hl 4 rfl) ?_
          refine lv_icmp_le (tgt := 139) hx hb dX7_takeNumber_130 (by decide) (fun c12 => ?_) (fun c12 => ?_)
          · have h13 : IV 1 24 k94_L_4 := iv_le1 c12 h11 (iv_c (a := 24) (b := 24) (by decide)) (by decide)
            refine lv_iload hx hb dX7_takeNumber_139 (lv_at hl 0 rfl) ?_
            refine W.widen (k := 0) (n := 0) (Nat.le_of_ble_eq_true rfl) (Nat.le_of_ble_eq_true rfl) ?_
            exact W.iret (v := k94_L_4) hx hb hr (fun t ht hW => ⟨⟨k94_L_4, (fun k => match k with | 0 => a__fault | 1 => k94_F_a_2 | _ => 0, fun _ _ => 0), rfl, (Or.inl (⟨h13, h_a__fault, q94_2⟩)), by rw [ht]; exact hP.sub [0, 1] rfl, hD.sub [0, 1] (by decide) rfl⟩, hS.F ht⟩) hS.2.2 dX7_takeNumber_141
          · have h14 : IV 25 2147483647 k94_L_4 := iv_lt2 (Int32.not_le.mp c12) (iv_c (a := 24) (b := 24) (by decide)) h11 (by decide)
            exact K133 k94_L_4 k94_L_3 k94_F_a_2 q94_2 q94_3 H locs (hP.sub (ws' := [(a, .inr (7, [.ref a_bytes, .int a__length, .int k94_F_a_2, .int a__fault])), (a_bytes, .inl (cs 0, 400, .inl a_bytes_c))]) [0, 1] rfl) (hD.sub (ws' := [(a, .inr (7, [.ref a_bytes, .int a__length, .int k94_F_a_2, .int a__fault])), (a_bytes, .inl (cs 0, 400, .inl a_bytes_c))]) [0, 1] (by decide) rfl) hS ls (lv_sub hl [0, 1, 2, 3, 4] rfl)
    · refine lv_aload_n hx hb dX7_takeNumber_102 rfl (lv_at hl 2 rfl) ?_
      refine lv_iload_n hx hb dX7_takeNumber_103 rfl (lv_at hl 1 rfl) ?_
      refine lv_iconst (v := 0) hx hb dX7_takeNumber_104 (by decide) ?_
      have hFc := va_free (wc := [(a, .inr (7, [.ref a_bytes, .int a__length, .int k94_F_a_2, .int a__fault]))]) hD hS hA [0] rfl
      refine va_callv (va_runV (As := [.int k94_L_3, .int 0]) (rest := []) ⟨hx, hb, hml, hown, hT⟩ (c_X7_fail l D cs kK kV a k94_L_3 0 a_bytes a__length k94_F_a_2 a__fault q94_3 ((iv_c (by decide))) h_a__fault H.size) (cwV 2 hT (hz_gV q_633 q_445 q_446 q_221 q_447) rfl rfl rfl (by decide +kernel) ⟨(Nat.le_of_ble_eq_true rfl), (Nat.le_of_ble_eq_true rfl)⟩) ⟨hz_C.blind, va_recv hK hP (ci := 7) (q0 := 0) rfl rfl, hz_C.mk (hP.sub (ws' := [(a, .inr (7, [.ref a_bytes, .int a__length, .int k94_F_a_2, .int a__fault]))]) [0] rfl) (hD.sub (ws' := [(a, .inr (7, [.ref a_bytes, .int a__length, .int k94_F_a_2, .int a__fault]))]) [0] (by decide) rfl) hE hS hFc⟩ rfl rfl hl.1 rfl (lv_room (Nat.le_of_ble_eq_true rfl)) dX7_takeNumber_105 ⟨(Nat.le_of_ble_eq_true rfl), (Nat.le_of_ble_eq_true rfl)⟩) hS (fun q _ h => hFc q h) hFc (fun o16 t H1 locs ht hvm hw hB hz1 hk1 hS => ?_)
      obtain ⟨hP1, hD1⟩ := hB
      rw [ht] at hP1
      obtain ⟨hP, hD⟩ := va_join (wr := [(a_bytes, .inl (cs 0, 400, .inl a_bytes_c))]) (w1 := [(a, .inr (7, [.ref a_bytes, .int a__length, .int k94_F_a_2, .int (o16.1 0)]))]) hP hD [0] [1] rfl rfl (by decide) (by decide) hk1 hFc hP1 hD1
      generalize H1 = H at hP hS ⊢
      have hP : va_P D classes [(a_bytes, .inl (cs 0, 400, .inl a_bytes_c)), (a, .inr (7, [.ref a_bytes, .int a__length, .int k94_F_a_2, .int (o16.1 0)]))] H := hP
      have hD : va_D A [(a_bytes, .inl (cs 0, 400, .inl a_bytes_c)), (a, .inr (7, [.ref a_bytes, .int a__length, .int k94_F_a_2, .int (o16.1 0)]))] := hD
      clear hk1 hFc hP1 hD1 hz1
      have h17 := hw
      refine lv_goto (tgt := 139) hx hb dX7_takeNumber_108 (by decide) ?_
      refine lv_iload hx hb dX7_takeNumber_139 (lv_at hl 0 rfl) ?_
      refine W.widen (k := 0) (n := 0) (Nat.le_of_ble_eq_true rfl) (Nat.le_of_ble_eq_true rfl) ?_
      exact W.iret (v := k94_L_4) hx hb hr (fun t ht hW => ⟨⟨k94_L_4, (fun k => match k with | 0 => o16.1 0 | 1 => k94_F_a_2 | _ => 0, fun _ _ => 0), rfl, (Or.inr ((⟨h17, q94_2⟩))), by rw [ht]; exact hP.sub [1, 0] rfl, hD.sub [1, 0] (by decide) rfl⟩, hS.F ht⟩) hS.2.2 dX7_takeNumber_141
  have K12 : ∀ (n : Nat) (k12_L_4 : Int32) (k12_L_3 : Int32) (k12_F_a_2 : Int32), (400 - k12_F_a_2.toInt + 1).toNat ≤ n → IV 0 400 k12_F_a_2 → IV 0 400 k12_L_3 → ∀ (H : Heap) (locs : List Loc), va_P D classes [(a, .inr (7, [.ref a_bytes, .int a__length, .int k12_F_a_2, .int a__fault])), (a_bytes, .inl (cs 0, 400, .inl a_bytes_c))] H → va_D A [(a, .inr (7, [.ref a_bytes, .int a__length, .int k12_F_a_2, .int a__fault])), (a_bytes, .inl (cs 0, 400, .inl a_bytes_c))] → va_S A s.heap H locs → ∀ ls : Array Slot, lv_has ls 5 [(4, .int k12_L_4), (3, .int k12_L_3), (0, .ref a), (1, .int 1), (2, .int 24)] → W p l e (headSpec (hz_w yX7_takeNumber cX7_takeNumber 5 (some .int)) ({ frames := 1, cells := 0, slots := 0, locals := 22 })).room s m [.ref a, .int 1, .int 24].toArray below meth c H locs 0 0 (MQ below (va_Qi (fun (r : Int32) (u : (Nat → Int32) × (Nat → Nat → Int32)) => (IV 1 24 r ∧ IV 0 3205 (u.1 0) ∧ IV 0 400 (u.1 1)) ∨ (IV 1 3205 (u.1 0) ∧ IV 0 400 (u.1 1))) (fun u t => va_P D classes [(a, .inr (7, [.ref a_bytes, .int a__length, .int (u.1 1), .int (u.1 0)])), (a_bytes, .inl (cs 0, 400, .inl a_bytes_c))] t.heap ∧ va_D A [(a, .inr (7, [.ref a_bytes, .int a__length, .int (u.1 1), .int (u.1 0)])), (a_bytes, .inl (cs 0, 400, .inl a_bytes_c))]) A) [.ref a, .int 1, .int 24].toArray s 0 0 A) (F0 m 12 ls []) := by
    intro n
    induction n with
    | zero =>
      intro k12_L_4 k12_L_3 k12_F_a_2 hn q12_2 q12_3 H locs hP hD hS ls hl
      exact absurd hn (by unfold IV at q12_2; omega)
    | succ n ih12 =>
      intro k12_L_4 k12_L_3 k12_F_a_2 hn q12_2 q12_3 H locs hP hD hS ls hl
      have K81 : ∀ (k81_L_4 : Int32), IV 1 400 a__length → IV 0 399 k12_F_a_2 → IV 0 400 k12_L_3 → ∀ (H : Heap) (locs : List Loc), va_P D classes [(a, .inr (7, [.ref a_bytes, .int a__length, .int k12_F_a_2, .int a__fault])), (a_bytes, .inl (cs 0, 400, .inl a_bytes_c))] H → va_D A [(a, .inr (7, [.ref a_bytes, .int a__length, .int k12_F_a_2, .int a__fault])), (a_bytes, .inl (cs 0, 400, .inl a_bytes_c))] → va_S A s.heap H locs → ∀ ls : Array Slot, lv_has ls 5 [(4, .int k81_L_4), (3, .int k12_L_3), (0, .ref a), (1, .int 1), (2, .int 24)] → W p l e (headSpec (hz_w yX7_takeNumber cX7_takeNumber 5 (some .int)) ({ frames := 1, cells := 0, slots := 0, locals := 22 })).room s m [.ref a, .int 1, .int 24].toArray below meth c H locs 0 0 (MQ below (va_Qi (fun (r : Int32) (u : (Nat → Int32) × (Nat → Nat → Int32)) => (IV 1 24 r ∧ IV 0 3205 (u.1 0) ∧ IV 0 400 (u.1 1)) ∨ (IV 1 3205 (u.1 0) ∧ IV 0 400 (u.1 1))) (fun u t => va_P D classes [(a, .inr (7, [.ref a_bytes, .int a__length, .int (u.1 1), .int (u.1 0)])), (a_bytes, .inl (cs 0, 400, .inl a_bytes_c))] t.heap ∧ va_D A [(a, .inr (7, [.ref a_bytes, .int a__length, .int (u.1 1), .int (u.1 0)])), (a_bytes, .inl (cs 0, 400, .inl a_bytes_c))]) A) [.ref a, .int 1, .int 24].toArray s 0 0 A) (F0 m 81 ls []) := by
        intro k81_L_4 q81_1 q81_2 q81_3 H locs hP hD hS ls hl
        refine lv_aload_n hx hb dX7_takeNumber_81 rfl (lv_at hl 2 rfl) ?_
        refine lv_dup hx hb dX7_takeNumber_82 rfl ?_
        refine va_get (D := D) (ci := 7) (v := .int k12_F_a_2) (C := RX7) (T := TX7) (N := 4) hx hb hT i_X7 hown hK hP 0 rfl rfl 2 (by decide) (hT _ q_129) (fun _ h9 => h9) rfl dX7_takeNumber_83 ?_
        refine lv_iconst (v := 1) hx hb dX7_takeNumber_86 (by decide) ?_
        refine lv_iadd hx hb dX7_takeNumber_87 ?_
        refine lv_topi (fun v18 ev18 => ?_)
        have hv18 : IV 1 400 v18 := iv_add ev18 q81_2 (iv_c (a := 1) (b := 1) (by decide)) (by decide) (by decide)
        have dv18 : v18.toInt = k12_F_a_2.toInt + 1 := iv_addE ev18 q81_2 (iv_c (a := 1) (b := 1) (by decide)) (by decide) (by decide) (by decide)
        refine va_put (D := D) (ci := 7) (v := .int v18) (ty := .int) (C := RX7) (T := TX7) (N := 4) hx hb hT i_X7 tyX7 tyX7_ok nmX7 hown hK hP hD hS 0 rfl rfl 2 (by decide) (hT _ q_129) (fun _ h9 => h9) rfl (by decide +kernel) rfl rfl (Nat.le_of_ble_eq_true rfl) dX7_takeNumber_88 (fun H locs hP hD hS => ?_)
        have hP : va_P D classes [(a, .inr (7, [.ref a_bytes, .int a__length, .int v18, .int a__fault])), (a_bytes, .inl (cs 0, 400, .inl a_bytes_c))] H := hP
        have hD : va_D A [(a, .inr (7, [.ref a_bytes, .int a__length, .int v18, .int a__fault])), (a_bytes, .inl (cs 0, 400, .inl a_bytes_c))] := hD
        refine lv_goto (tgt := 12) hx hb dX7_takeNumber_91 (by decide) ?_
        exact ih12 k81_L_4 k12_L_3 v18 (by have h9 := q81_2; unfold IV at h9; have := dv18; omega) (iv_w hv18 (by decide) (by decide)) q81_3 H locs (hP.sub (ws' := [(a, .inr (7, [.ref a_bytes, .int a__length, .int v18, .int a__fault])), (a_bytes, .inl (cs 0, 400, .inl a_bytes_c))]) [0, 1] rfl) (hD.sub (ws' := [(a, .inr (7, [.ref a_bytes, .int a__length, .int v18, .int a__fault])), (a_bytes, .inl (cs 0, 400, .inl a_bytes_c))]) [0, 1] (by decide) rfl) hS ls (lv_sub hl [0, 1, 2, 3, 4] rfl)
      refine lv_aload_n hx hb dX7_takeNumber_12 rfl (lv_at hl 2 rfl) ?_
      refine va_get (D := D) (ci := 7) (v := .int k12_F_a_2) (C := RX7) (T := TX7) (N := 4) hx hb hT i_X7 hown hK hP 0 rfl rfl 2 (by decide) (hT _ q_129) (fun _ h9 => h9) rfl dX7_takeNumber_13 ?_
      refine lv_aload_n hx hb dX7_takeNumber_16 rfl (lv_at hl 2 rfl) ?_
      refine va_get (D := D) (ci := 7) (v := .int a__length) (C := RX7) (T := TX7) (N := 4) hx hb hT i_X7 hown hK hP 0 rfl rfl 1 (by decide) (hT _ q_128) (fun _ h9 => h9) rfl dX7_takeNumber_17 ?_
      refine lv_icmp_ge (tgt := 94) hx hb dX7_takeNumber_20 (by decide) (fun c19 => ?_) (fun c19 => ?_)
      · exact K94 k12_L_4 k12_L_3 k12_F_a_2 q12_2 q12_3 H locs (hP.sub (ws' := [(a, .inr (7, [.ref a_bytes, .int a__length, .int k12_F_a_2, .int a__fault])), (a_bytes, .inl (cs 0, 400, .inl a_bytes_c))]) [0, 1] rfl) (hD.sub (ws' := [(a, .inr (7, [.ref a_bytes, .int a__length, .int k12_F_a_2, .int a__fault])), (a_bytes, .inl (cs 0, 400, .inl a_bytes_c))]) [0, 1] (by decide) rfl) hS ls (lv_sub hl [0, 1, 2, 3, 4] rfl)
      · have h20 : IV 0 399 k12_F_a_2 := iv_lt1 (Int32.not_le.mp c19) q12_2 h_a__length (by decide)
        have h21 : IV 1 400 a__length := iv_lt2 (Int32.not_le.mp c19) q12_2 h_a__length (by decide)
        refine lv_aload_n hx hb dX7_takeNumber_23 rfl (lv_at hl 2 rfl) ?_
        refine va_get (D := D) (ci := 7) (v := .ref a_bytes) (C := RX7) (T := TX7) (N := 4) hx hb hT i_X7 hown hK hP 0 rfl rfl 0 (by decide) (hT _ q_127) (fun _ h9 => h9) rfl dX7_takeNumber_24 ?_
        refine lv_aload_n hx hb dX7_takeNumber_27 rfl (lv_at hl 2 rfl) ?_
        refine va_get (D := D) (ci := 7) (v := .int k12_F_a_2) (C := RX7) (T := TX7) (N := 4) hx hb hT i_X7 hown hK hP 0 rfl rfl 2 (by decide) (hT _ q_129) (fun _ h9 => h9) rfl dX7_takeNumber_28 ?_
        refine va_iald hx hb hK hP 1 0 rfl rfl (iv_v h20 (by decide) (by decide)) dX7_takeNumber_31 ?_
        refine lv_topi (fun v22 ev22 => ?_)
        have hv22 : IV 0 255 v22 := iv_ci ev22 h_a_bytes_c (iv_v h20 (by decide) (by decide))
        refine lv_bipush (v := 48) hx hb dX7_takeNumber_32 (by decide) ?_
        refine lv_icmp_lt (tgt := 94) hx hb dX7_takeNumber_34 (by decide) (fun c23 => ?_) (fun c23 => ?_)
        · have h24 : IV 0 47 v22 := iv_lt1 c23 hv22 (iv_c (a := 48) (b := 48) (by decide)) (by decide)
          exact K94 k12_L_4 k12_L_3 k12_F_a_2 (iv_w h20 (by decide) (by decide)) q12_3 H locs (hP.sub (ws' := [(a, .inr (7, [.ref a_bytes, .int a__length, .int k12_F_a_2, .int a__fault])), (a_bytes, .inl (cs 0, 400, .inl a_bytes_c))]) [0, 1] rfl) (hD.sub (ws' := [(a, .inr (7, [.ref a_bytes, .int a__length, .int k12_F_a_2, .int a__fault])), (a_bytes, .inl (cs 0, 400, .inl a_bytes_c))]) [0, 1] (by decide) rfl) hS ls (lv_sub hl [0, 1, 2, 3, 4] rfl)
        · have h25 : IV 48 255 v22 := iv_le2 (Int32.not_lt.mp c23) (iv_c (a := 48) (b := 48) (by decide)) hv22 (by decide)
          refine lv_aload_n hx hb dX7_takeNumber_37 rfl (lv_at hl 2 rfl) ?_
          refine va_get (D := D) (ci := 7) (v := .ref a_bytes) (C := RX7) (T := TX7) (N := 4) hx hb hT i_X7 hown hK hP 0 rfl rfl 0 (by decide) (hT _ q_127) (fun _ h9 => h9) rfl dX7_takeNumber_38 ?_
          refine lv_aload_n hx hb dX7_takeNumber_41 rfl (lv_at hl 2 rfl) ?_
          refine va_get (D := D) (ci := 7) (v := .int k12_F_a_2) (C := RX7) (T := TX7) (N := 4) hx hb hT i_X7 hown hK hP 0 rfl rfl 2 (by decide) (hT _ q_129) (fun _ h9 => h9) rfl dX7_takeNumber_42 ?_
          refine va_iald hx hb hK hP 1 0 rfl rfl (iv_v h20 (by decide) (by decide)) dX7_takeNumber_45 ?_
          refine hz_ev v22 ev22.symm ?_
          refine lv_bipush (v := 57) hx hb dX7_takeNumber_46 (by decide) ?_
          refine lv_icmp_gt (tgt := 94) hx hb dX7_takeNumber_48 (by decide) (fun c26 => ?_) (fun c26 => ?_)
          · have h27 : IV 58 255 v22 := iv_lt2 c26 (iv_c (a := 57) (b := 57) (by decide)) h25 (by decide)
            exact K94 k12_L_4 k12_L_3 k12_F_a_2 (iv_w h20 (by decide) (by decide)) q12_3 H locs (hP.sub (ws' := [(a, .inr (7, [.ref a_bytes, .int a__length, .int k12_F_a_2, .int a__fault])), (a_bytes, .inl (cs 0, 400, .inl a_bytes_c))]) [0, 1] rfl) (hD.sub (ws' := [(a, .inr (7, [.ref a_bytes, .int a__length, .int k12_F_a_2, .int a__fault])), (a_bytes, .inl (cs 0, 400, .inl a_bytes_c))]) [0, 1] (by decide) rfl) hS ls (lv_sub hl [0, 1, 2, 3, 4] rfl)
          · have h28 : IV 48 57 v22 := iv_le1 (Int32.not_lt.mp c26) h25 (iv_c (a := 57) (b := 57) (by decide)) (by decide)
            refine lv_aload_n hx hb dX7_takeNumber_51 rfl (lv_at hl 2 rfl) ?_
            refine va_get (D := D) (ci := 7) (v := .int k12_F_a_2) (C := RX7) (T := TX7) (N := 4) hx hb hT i_X7 hown hK hP 0 rfl rfl 2 (by decide) (hT _ q_129) (fun _ h9 => h9) rfl dX7_takeNumber_52 ?_
            refine lv_iload_n hx hb dX7_takeNumber_55 rfl (lv_at hl 1 rfl) ?_
            refine lv_isub hx hb dX7_takeNumber_56 ?_
            refine lv_topi (fun v29 ev29 => ?_)
            have hv29 : IV (-400) 399 v29 := iv_sub ev29 h20 q12_3 (by decide) (by decide)
            refine lv_iconst (v := 5) hx hb dX7_takeNumber_57 (by decide) ?_
            refine lv_icmp_ge (tgt := 81) hx hb dX7_takeNumber_58 (by decide) (fun c30 => ?_) (fun c30 => ?_)
            · have h31 : IV 5 399 v29 := iv_le2 c30 (iv_c (a := 5) (b := 5) (by decide)) hv29 (by decide)
              exact K81 k12_L_4 h21 h20 q12_3 H locs (hP.sub (ws' := [(a, .inr (7, [.ref a_bytes, .int a__length, .int k12_F_a_2, .int a__fault])), (a_bytes, .inl (cs 0, 400, .inl a_bytes_c))]) [0, 1] rfl) (hD.sub (ws' := [(a, .inr (7, [.ref a_bytes, .int a__length, .int k12_F_a_2, .int a__fault])), (a_bytes, .inl (cs 0, 400, .inl a_bytes_c))]) [0, 1] (by decide) rfl) hS ls (lv_sub hl [0, 1, 2, 3, 4] rfl)
            · have h32 : IV (-400) 4 v29 := iv_lt1 (Int32.not_le.mp c30) hv29 (iv_c (a := 5) (b := 5) (by decide)) (by decide)
              refine lv_iload hx hb dX7_takeNumber_61 (lv_at hl 0 rfl) ?_
              refine lv_bipush (v := 10) hx hb dX7_takeNumber_63 (by decide) ?_
              refine lv_imul hx hb dX7_takeNumber_65 ?_
              refine lv_topi (fun v33 ev33 => ?_)
              refine lv_aload_n hx hb dX7_takeNumber_66 rfl (lv_at hl 2 rfl) ?_
              refine va_get (D := D) (ci := 7) (v := .ref a_bytes) (C := RX7) (T := TX7) (N := 4) hx hb hT i_X7 hown hK hP 0 rfl rfl 0 (by decide) (hT _ q_127) (fun _ h9 => h9) rfl dX7_takeNumber_67 ?_
              refine lv_aload_n hx hb dX7_takeNumber_70 rfl (lv_at hl 2 rfl) ?_
              refine va_get (D := D) (ci := 7) (v := .int k12_F_a_2) (C := RX7) (T := TX7) (N := 4) hx hb hT i_X7 hown hK hP 0 rfl rfl 2 (by decide) (hT _ q_129) (fun _ h9 => h9) rfl dX7_takeNumber_71 ?_
              refine va_iald hx hb hK hP 1 0 rfl rfl (iv_v h20 (by decide) (by decide)) dX7_takeNumber_74 ?_
              refine hz_ev v22 ev22.symm ?_
              refine lv_iadd hx hb dX7_takeNumber_75 ?_
              refine lv_topi (fun v34 ev34 => ?_)
              refine lv_bipush (v := 48) hx hb dX7_takeNumber_76 (by decide) ?_
              refine lv_isub hx hb dX7_takeNumber_78 ?_
              refine lv_topi (fun v35 ev35 => ?_)
              refine lv_istore (lv' := [(4, .int v35), (3, .int k12_L_3), (0, .ref a), (1, .int 1), (2, .int 24)]) hx hb dX7_takeNumber_79 hl (by decide) rfl (fun ls hl => ?_)
              exact K81 v35 h21 h20 q12_3 H locs (hP.sub (ws' := [(a, .inr (7, [.ref a_bytes, .int a__length, .int k12_F_a_2, .int a__fault])), (a_bytes, .inl (cs 0, 400, .inl a_bytes_c))]) [0, 1] rfl) (hD.sub (ws' := [(a, .inr (7, [.ref a_bytes, .int a__length, .int k12_F_a_2, .int a__fault])), (a_bytes, .inl (cs 0, 400, .inl a_bytes_c))]) [0, 1] (by decide) rfl) hS ls (lv_sub hl [0, 1, 2, 3, 4] rfl)
  refine lv_aload_n hx hb dX7_takeNumber_0 rfl (lv_at hl 0 rfl) ?_
  have hFc := va_free (wc := [(a, .inr (7, [.ref a_bytes, .int a__length, .int a__place, .int a__fault])), (a_bytes, .inl (cs 0, 400, .inl a_bytes_c))]) hD hS hA [0,1] rfl
  refine va_callv (va_runV (As := []) (rest := []) ⟨hx, hb, hml, hown, hT⟩ (c_X7_skipBlanks l D cs kK kV a a_bytes a__length a__place a__fault a_bytes_c h_a__length h_a__place h_a_bytes_c H.size) (cwV 0 hT (hz_gV q_631 q_437 q_438 q_221 q_439) rfl rfl rfl (by decide +kernel) ⟨(Nat.le_of_ble_eq_true rfl), (Nat.le_of_ble_eq_true rfl)⟩) ⟨hz_C.blind, va_recv hK hP (ci := 7) (q0 := 0) rfl rfl, hz_C.mk (hP.sub (ws' := [(a, .inr (7, [.ref a_bytes, .int a__length, .int a__place, .int a__fault])), (a_bytes, .inl (cs 0, 400, .inl a_bytes_c))]) [0,1] rfl) (hD.sub (ws' := [(a, .inr (7, [.ref a_bytes, .int a__length, .int a__place, .int a__fault])), (a_bytes, .inl (cs 0, 400, .inl a_bytes_c))]) [0,1] (by decide) rfl) hE hS hFc⟩ rfl rfl hl.1 rfl (lv_room (Nat.le_of_ble_eq_true rfl)) dX7_takeNumber_1 ⟨(Nat.le_of_ble_eq_true rfl), (Nat.le_of_ble_eq_true rfl)⟩) hS (fun q _ h => hFc q h) hFc (fun u t H1 locs ht hvm hw hB hz1 hk1 hS => ?_)
  obtain ⟨o37, h38, hP1, hD1⟩ := hB
  rw [ht] at hP1
  obtain ⟨hP, hD⟩ := va_join (wr := []) (w1 := [(a, .inr (7, [.ref a_bytes, .int a__length, .int o37, .int a__fault])), (a_bytes, .inl (cs 0, 400, .inl a_bytes_c))]) hP hD [0, 1] [] rfl rfl (by decide) (by decide) hk1 hFc hP1 hD1
  generalize H1 = H at hP hS ⊢
  have hP : va_P D classes [(a, .inr (7, [.ref a_bytes, .int a__length, .int o37, .int a__fault])), (a_bytes, .inl (cs 0, 400, .inl a_bytes_c))] H := hP
  have hD : va_D A [(a, .inr (7, [.ref a_bytes, .int a__length, .int o37, .int a__fault])), (a_bytes, .inl (cs 0, 400, .inl a_bytes_c))] := hD
  clear hk1 hFc hP1 hD1 hz1
  refine lv_aload_n hx hb dX7_takeNumber_4 rfl (lv_at hl 0 rfl) ?_
  refine va_get (D := D) (ci := 7) (v := .int o37) (C := RX7) (T := TX7) (N := 4) hx hb hT i_X7 hown hK hP 0 rfl rfl 2 (by decide) (hT _ q_129) (fun _ h9 => h9) rfl dX7_takeNumber_5 ?_
  refine lv_istore_n (lv' := [(3, .int o37), (0, .ref a), (1, .int 1), (2, .int 24)]) hx hb dX7_takeNumber_8 rfl hl (by decide) rfl (fun ls hl => ?_)
  refine lv_iconst (v := 0) hx hb dX7_takeNumber_9 (by decide) ?_
  refine lv_istore (lv' := [(4, .int 0), (3, .int o37), (0, .ref a), (1, .int 1), (2, .int 24)]) hx hb dX7_takeNumber_10 hl (by decide) rfl (fun ls hl => ?_)
  exact K12 _ 0 o37 o37 (Nat.le_refl _) h38 h38 H locs (hP.sub (ws' := [(a, .inr (7, [.ref a_bytes, .int a__length, .int o37, .int a__fault])), (a_bytes, .inl (cs 0, 400, .inl a_bytes_c))]) [0, 1] rfl) (hD.sub (ws' := [(a, .inr (7, [.ref a_bytes, .int a__length, .int o37, .int a__fault])), (a_bytes, .inl (cs 0, 400, .inl a_bytes_c))]) [0, 1] (by decide) rfl) hS ls (lv_sub hl [0, 1, 2, 3, 4] rfl)
set_option maxHeartbeats 4000000 in
set_option maxRecDepth 100000 in
theorem c_X0_numberTold_83 (l : Launch) (D : va_G) (cs : Nat → ClassId) (kK kV : Nat → Nat) (a : Nat) (a_tape : Nat) (a_told : Nat) (a__kindsTold : Int32) (a_tape_bytes : Nat) (a_tape__length : Int32) (a_tape__place : Int32) (a_tape__fault : Int32) (a_tape_bytes_c : Nat → Int32) (h_a_tape__length : IV 0 400 a_tape__length) (h_a_tape__place : IV 0 400 a_tape__place) (h_a_tape__fault : IV 0 3205 a_tape__fault) (h_a_tape_bytes_c : CI 400 0 255 a_tape_bytes_c) (sz : Nat) : Met l yX0_numberTold (hz_w yX0_numberTold cX0_numberTold 3 (some .int)) ({ frames := 2, cells := 0, slots := 0, locals := 46 }) (va_Pc [.ref a, .int 1, .int 24] (hz_C D cs kK kV sz [(a, .inr (0, [.ref a_tape, .ref a_told, .int a__kindsTold])), (a_tape, .inr (7, [.ref a_tape_bytes, .int a_tape__length, .int a_tape__place, .int a_tape__fault])), (a_tape_bytes, .inl (cs 0, 400, .inl a_tape_bytes_c))])) (va_Qi (fun (r : Int32) (u : (Nat → Int32) × (Nat → Nat → Int32)) => (r = 1 ∧ IV 1 3205 (u.1 0) ∧ IV 1 3205 a_tape__fault ∧ IV 0 400 (u.1 1)) ∨ (IV 1 24 r ∧ IV 0 3205 (u.1 0) ∧ IV 0 0 a_tape__fault ∧ IV 0 400 (u.1 1)) ∨ (IV 1 3205 (u.1 0) ∧ IV 0 0 a_tape__fault ∧ IV 0 400 (u.1 1))) (fun u t => va_P D classes [(a, .inr (0, [.ref a_tape, .ref a_told, .int a__kindsTold])), (a_tape, .inr (7, [.ref a_tape_bytes, .int a_tape__length, .int (u.1 1), .int (u.1 0)])), (a_tape_bytes, .inl (cs 0, 400, .inl a_tape_bytes_c))] t.heap ∧ va_D (va_A [(a, .inr (0, [.ref a_tape, .ref a_told, .int a__kindsTold])), (a_tape, .inr (7, [.ref a_tape_bytes, .int a_tape__length, .int a_tape__place, .int a_tape__fault])), (a_tape_bytes, .inl (cs 0, 400, .inl a_tape_bytes_c))] sz) [(a, .inr (0, [.ref a_tape, .ref a_told, .int a__kindsTold])), (a_tape, .inr (7, [.ref a_tape_bytes, .int a_tape__length, .int (u.1 1), .int (u.1 0)])), (a_tape_bytes, .inl (cs 0, 400, .inl a_tape_bytes_c))]) (va_A [(a, .inr (0, [.ref a_tape, .ref a_told, .int a__kindsTold])), (a_tape, .inr (7, [.ref a_tape_bytes, .int a_tape__length, .int a_tape__place, .int a_tape__fault])), (a_tape_bytes, .inl (cs 0, 400, .inl a_tape_bytes_c))] sz)) 0 0 (va_A [(a, .inr (0, [.ref a_tape, .ref a_told, .int a__kindsTold])), (a_tape, .inr (7, [.ref a_tape_bytes, .int a_tape__length, .int a_tape__place, .int a_tape__fault])), (a_tape_bytes, .inl (cs 0, 400, .inl a_tape_bytes_c))] sz) := by
  refine Met.ofW (cc := cX0_numberTold) (maxL := 3) (ret := (some .int)) (by decide) rfl ?_
  intro p e s m args below meth c s₁ B hml hv
  obtain ⟨rfl, hsz, hP, hD0, hE⟩ := hv
  have hx := B.exec
  have hb := B.bytes
  have hr := B.returns
  have hT : ∀ w ∈ TB, w.before _ s = true := fun w h => atoms_spec (ws := hz_w yX0_numberTold cX0_numberTold 3 (some .int)) B.pre w (List.mem_cons_of_mem _ h)
  have hown : s.vm.findClass RX0 = some m.cls := findClass_of_methodNamed B.named
  have hlocks := B.notSynchronized
  clear B
  subst hsz
  have hD := hD0.self (sz := s.heap.size)
  generalize hAe : va_A [(a, .inr (0, [.ref a_tape, .ref a_told, .int a__kindsTold])), (a_tape, .inr (7, [.ref a_tape_bytes, .int a_tape__length, .int a_tape__place, .int a_tape__fault])), (a_tape_bytes, .inl (cs 0, 400, .inl a_tape_bytes_c))] s.heap.size = A at hD hE ⊢
  have hA : ∀ q : Nat, s.heap.size ≤ q → A q := fun q h => by rw [← hAe]; exact Or.inr h
  clear hAe hD0
  have hS : va_S A s.heap s.heap [] := va_S.rf
  have hK := hE.1
  have hl := lv_entry ([.ref a, .int 1, .int 24]) (n := 3) (Nat.le_of_ble_eq_true rfl)
  rw [lg_entry_eq]
  generalize (lg_sl ([.ref a, .int 1, .int 24]) ++ List.replicate (3 - (lg_sl ([.ref a, .int 1, .int 24])).length) Slot.unset).toArray = ls at hl ⊢
  have hl : lv_has ls 3 [(0, .ref a), (1, .int 1), (2, .int 24)] := hl
  obtain ⟨H, eH⟩ : ∃ z, z = s.heap := ⟨_, rfl⟩
  have hP : va_P D classes [(a, .inr (0, [.ref a_tape, .ref a_told, .int a__kindsTold])), (a_tape, .inr (7, [.ref a_tape_bytes, .int a_tape__length, .int a_tape__place, .int a_tape__fault])), (a_tape_bytes, .inl (cs 0, 400, .inl a_tape_bytes_c))] H := by rw [eH]; exact hP
  have hS : va_S A s.heap H [] := by rw [eH]; exact hS
  rw [← eH]
  clear eH
  obtain ⟨locs, el⟩ : ∃ z : List Loc, z = [] := ⟨_, rfl⟩
  rw [← el] at hS ⊢
  clear el
  refine lv_aload_n hx hb dX0_numberTold_0 rfl (lv_at hl 0 rfl) ?_
  refine va_get (D := D) (ci := 0) (v := .ref a_tape) (C := RX0) (T := TX0) (N := 3) hx hb hT i_X0 hown hK hP 0 rfl rfl 0 (by decide) (hT _ q_44) (fun _ h9 => h9) rfl dX0_numberTold_1 ?_
  refine va_calli (va_runV (As := []) (rest := []) ⟨hx, hb, hml, hown, hT⟩ (c_X7_isSound l D cs kK kV a_tape a_tape_bytes a_tape__length a_tape__place a_tape__fault h_a_tape__fault) (cwV 0 hT (hz_gV q_420 q_421 q_422 q_221 q_423) rfl rfl rfl (by decide +kernel) ⟨(Nat.le_of_ble_eq_true rfl), (Nat.le_of_ble_eq_true rfl)⟩) ⟨hz_P.blind, va_recv hK hP (ci := 7) (q0 := 1) rfl rfl, hz_P.mk (hP.sub (ws' := [(a_tape, .inr (7, [.ref a_tape_bytes, .int a_tape__length, .int a_tape__place, .int a_tape__fault]))]) [1] rfl) hE hS⟩ rfl rfl hl.1 rfl (lv_room (Nat.le_of_ble_eq_true rfl)) dX0_numberTold_4 ⟨(Nat.le_of_ble_eq_true rfl), (Nat.le_of_ble_eq_true rfl)⟩) hS (fun _ _ h => h.elim) (fun _ h => h.elim) (fun r1 u t H1 locs ht hvm hw hB hz1 hk1 hS => ?_)
  have hP := hz_keep hP hk1
  clear hk1 hB hz1
  generalize H1 = H at hP hS ⊢
  rcases hw with ⟨rfl, h2⟩ | ⟨rfl, h3⟩
  · refine lv_if_eq (tgt := 22) hx hb dX0_numberTold_7 (by decide) (fun _ => ?_) (fun z => absurd (by decide) z)
    refine lv_iload_n hx hb dX0_numberTold_22 rfl (lv_at hl 1 rfl) ?_
    refine W.widen (k := 0) (n := 0) (Nat.le_of_ble_eq_true rfl) (Nat.le_of_ble_eq_true rfl) ?_
    exact W.iret (v := 1) hx hb hr (fun t ht hW => ⟨⟨1, (fun k => match k with | 0 => a_tape__fault | 1 => a_tape__place | _ => 0, fun _ _ => 0), rfl, (Or.inl (⟨rfl, h2, h2, h_a_tape__place⟩)), by rw [ht]; exact hP.sub [0, 1, 2] rfl, hD.sub [0, 1, 2] (by decide) rfl⟩, hS.F ht⟩) hS.2.2 dX0_numberTold_23
  · refine lv_if_eq (tgt := 22) hx hb dX0_numberTold_7 (by decide) (fun z => absurd z (by decide)) (fun _ => ?_)
    refine lv_aload_n hx hb dX0_numberTold_10 rfl (lv_at hl 0 rfl) ?_
    refine va_get (D := D) (ci := 0) (v := .ref a_tape) (C := RX0) (T := TX0) (N := 3) hx hb hT i_X0 hown hK hP 0 rfl rfl 0 (by decide) (hT _ q_44) (fun _ h9 => h9) rfl dX0_numberTold_11 ?_
    refine lv_iload_n hx hb dX0_numberTold_14 rfl (lv_at hl 1 rfl) ?_
    refine lv_iload_n hx hb dX0_numberTold_15 rfl (lv_at hl 2 rfl) ?_
    have hFc := va_free (wc := [(a_tape, .inr (7, [.ref a_tape_bytes, .int a_tape__length, .int a_tape__place, .int a_tape__fault])), (a_tape_bytes, .inl (cs 0, 400, .inl a_tape_bytes_c))]) hD hS hA [1,2] rfl
    refine va_calli (va_runV (As := [.int 1, .int 24]) (rest := []) ⟨hx, hb, hml, hown, hT⟩ (c_X7_takeNumber_84 l D cs kK kV a_tape a_tape_bytes a_tape__length a_tape__place a_tape__fault a_tape_bytes_c h_a_tape__length h_a_tape__place ((iv_w h3 (by decide) (by decide))) h_a_tape_bytes_c H.size) (cwV 2 hT (hz_gV q_472 q_473 q_474 q_221 q_475) rfl rfl rfl (by decide +kernel) ⟨(Nat.le_of_ble_eq_true rfl), (Nat.le_of_ble_eq_true rfl)⟩) ⟨hz_C.blind, va_recv hK hP (ci := 7) (q0 := 1) rfl rfl, hz_C.mk (hP.sub (ws' := [(a_tape, .inr (7, [.ref a_tape_bytes, .int a_tape__length, .int a_tape__place, .int a_tape__fault])), (a_tape_bytes, .inl (cs 0, 400, .inl a_tape_bytes_c))]) [1,2] rfl) (hD.sub (ws' := [(a_tape, .inr (7, [.ref a_tape_bytes, .int a_tape__length, .int a_tape__place, .int a_tape__fault])), (a_tape_bytes, .inl (cs 0, 400, .inl a_tape_bytes_c))]) [1,2] (by decide) rfl) hE hS hFc⟩ rfl rfl hl.1 rfl (lv_room (Nat.le_of_ble_eq_true rfl)) dX0_numberTold_16 ⟨(Nat.le_of_ble_eq_true rfl), (Nat.le_of_ble_eq_true rfl)⟩) hS (fun q _ h => hFc q h) hFc (fun r4 o5 t H1 locs ht hvm hw hB hz1 hk1 hS => ?_)
    obtain ⟨hP1, hD1⟩ := hB
    rw [ht] at hP1
    obtain ⟨hP, hD⟩ := va_join (wr := [(a, .inr (0, [.ref a_tape, .ref a_told, .int a__kindsTold]))]) (w1 := [(a_tape, .inr (7, [.ref a_tape_bytes, .int a_tape__length, .int (o5.1 1), .int (o5.1 0)])), (a_tape_bytes, .inl (cs 0, 400, .inl a_tape_bytes_c))]) hP hD [1, 2] [0] rfl rfl (by decide) (by decide) hk1 hFc hP1 hD1
    generalize H1 = H at hP hS ⊢
    have hP : va_P D classes [(a, .inr (0, [.ref a_tape, .ref a_told, .int a__kindsTold])), (a_tape, .inr (7, [.ref a_tape_bytes, .int a_tape__length, .int (o5.1 1), .int (o5.1 0)])), (a_tape_bytes, .inl (cs 0, 400, .inl a_tape_bytes_c))] H := hP
    have hD : va_D A [(a, .inr (0, [.ref a_tape, .ref a_told, .int a__kindsTold])), (a_tape, .inr (7, [.ref a_tape_bytes, .int a_tape__length, .int (o5.1 1), .int (o5.1 0)])), (a_tape_bytes, .inl (cs 0, 400, .inl a_tape_bytes_c))] := hD
    clear hk1 hFc hP1 hD1 hz1
    rcases hw with ⟨h6, h7, h8⟩ | ⟨h9, h10⟩
    · refine lv_goto (tgt := 23) hx hb dX0_numberTold_19 (by decide) ?_
      refine W.widen (k := 0) (n := 0) (Nat.le_of_ble_eq_true rfl) (Nat.le_of_ble_eq_true rfl) ?_
      exact W.iret (v := r4) hx hb hr (fun t ht hW => ⟨⟨r4, (fun k => match k with | 0 => o5.1 0 | 1 => o5.1 1 | _ => 0, fun _ _ => 0), rfl, (Or.inr (Or.inl (⟨h6, h7, h3, h8⟩))), by rw [ht]; exact hP.sub [0, 1, 2] rfl, hD.sub [0, 1, 2] (by decide) rfl⟩, hS.F ht⟩) hS.2.2 dX0_numberTold_23
    · refine lv_goto (tgt := 23) hx hb dX0_numberTold_19 (by decide) ?_
      refine W.widen (k := 0) (n := 0) (Nat.le_of_ble_eq_true rfl) (Nat.le_of_ble_eq_true rfl) ?_
      exact W.iret (v := r4) hx hb hr (fun t ht hW => ⟨⟨r4, (fun k => match k with | 0 => o5.1 0 | 1 => o5.1 1 | _ => 0, fun _ _ => 0), rfl, (Or.inr (Or.inr ((⟨h9, h3, h10⟩)))), by rw [ht]; exact hP.sub [0, 1, 2] rfl, hD.sub [0, 1, 2] (by decide) rfl⟩, hS.F ht⟩) hS.2.2 dX0_numberTold_23
set_option maxHeartbeats 4000000 in
set_option maxRecDepth 100000 in
theorem c_X0_isTooMany_85 (l : Launch) (D : va_G) (cs : Nat → ClassId) (kK kV : Nat → Nat) (a : Nat) (a_tape : Nat) (a_told : Nat) (a__kindsTold : Int32)  : Met l yX0_isTooMany (hz_w yX0_isTooMany cX0_isTooMany 2 (some .boolean)) ({ frames := 0, cells := 0, slots := 0, locals := 0 }) (va_Pc [.ref a, .int 7] (hz_P D cs kK kV [(a, .inr (0, [.ref a_tape, .ref a_told, .int a__kindsTold]))])) (va_Qi (fun (r : Int32) (_ : Unit) => (r = 0) ∨ (r = 1)) (fun _ t => True) (fun _ => False)) 0 0 (fun _ => False) := by
  refine Met.ofW (cc := cX0_isTooMany) (maxL := 2) (ret := (some .boolean)) (by decide) rfl ?_
  intro p e s m args below meth c s₁ B hml hv
  obtain ⟨rfl, hP, hE⟩ := hv
  have hx := B.exec
  have hb := B.bytes
  have hr := B.returns
  have hT : ∀ w ∈ TB, w.before _ s = true := fun w h => atoms_spec (ws := hz_w yX0_isTooMany cX0_isTooMany 2 (some .boolean)) B.pre w (List.mem_cons_of_mem _ h)
  have hown : s.vm.findClass RX0 = some m.cls := findClass_of_methodNamed B.named
  have hlocks := B.notSynchronized
  clear B
  have hS : va_S (fun _ => False) s.heap s.heap [] := va_S.rf
  have hK := hE.1
  have hl := lv_entry ([.ref a, .int 7]) (n := 2) (Nat.le_of_ble_eq_true rfl)
  rw [lg_entry_eq]
  generalize (lg_sl ([.ref a, .int 7]) ++ List.replicate (2 - (lg_sl ([.ref a, .int 7])).length) Slot.unset).toArray = ls at hl ⊢
  have hl : lv_has ls 2 [(0, .ref a), (1, .int 7)] := hl
  obtain ⟨H, eH⟩ : ∃ z, z = s.heap := ⟨_, rfl⟩
  have hP : va_P D classes [(a, .inr (0, [.ref a_tape, .ref a_told, .int a__kindsTold]))] H := by rw [eH]; exact hP
  have hS : va_S (fun _ => False) s.heap H [] := by rw [eH]; exact hS
  rw [← eH]
  clear eH
  obtain ⟨locs, el⟩ : ∃ z : List Loc, z = [] := ⟨_, rfl⟩
  rw [← el] at hS ⊢
  clear el
  have K15 : ∀ (H : Heap) (locs : List Loc), va_P D classes [(a, .inr (0, [.ref a_tape, .ref a_told, .int a__kindsTold]))] H → va_S (fun _ => False) s.heap H locs → ∀ ls : Array Slot, lv_has ls 2 [(0, .ref a), (1, .int 7)] → W p l e (headSpec (hz_w yX0_isTooMany cX0_isTooMany 2 (some .boolean)) ({ frames := 0, cells := 0, slots := 0, locals := 0 })).room s m [.ref a, .int 7].toArray below meth c H locs 0 0 (MQ below (va_Qi (fun (r : Int32) (_ : Unit) => (r = 0) ∨ (r = 1)) (fun _ t => True) (fun _ => False)) [.ref a, .int 7].toArray s 0 0 (fun _ => False)) (F0 m 15 ls []) := by
    intro   H locs hP hS ls hl
    refine lv_iload_n hx hb dX0_isTooMany_15 rfl (lv_at hl 1 rfl) ?_
    refine lv_tableIn (off := 48) (tgt := 64) hx hb dX0_isTooMany_16 (by decide) (by decide) (by decide) (by decide) ?_
    refine lv_aload_n hx hb dX0_isTooMany_64 rfl (lv_at hl 0 rfl) ?_
    refine va_get (D := D) (ci := 0) (v := .int a__kindsTold) (C := RX0) (T := TX0) (N := 3) hx hb hT i_X0 hown hK hP 0 rfl rfl 2 (by decide) (hT _ q_46) (fun _ h9 => h9) rfl dX0_isTooMany_65 ?_
    refine lv_iload_n hx hb dX0_isTooMany_68 rfl (lv_at hl 1 rfl) ?_
    refine lv_ishr hx hb dX0_isTooMany_69 ?_
    refine lv_topi (fun v1 ev1 => ?_)
    refine lv_iconst (v := 1) hx hb dX0_isTooMany_70 (by decide) ?_
    refine lv_iand hx hb dX0_isTooMany_71 ?_
    refine lv_topi (fun v2 ev2 => ?_)
    have hv2 : IV 0 1 v2 := iv_and2 ev2 (iv_c (a := 1) (b := 1) (by decide))
    refine lv_iconst (v := 1) hx hb dX0_isTooMany_72 (by decide) ?_
    refine lv_icmp_ne (tgt := 80) hx hb dX0_isTooMany_73 (by decide) (fun c3 => ?_) (fun c3 => ?_)
    · have h4 : IV 0 0 v2 := iv_neR c3 hv2 (by decide)
      refine lv_iconst (v := 0) hx hb dX0_isTooMany_80 (by decide) ?_
      exact W.zret (v := 0) hx hb hr rfl (fun t ht hW => ⟨⟨0, (), rfl, (Or.inl (rfl)), trivial⟩, hS.F ht⟩) hS.2.2 dX0_isTooMany_81
    · have h5 : IV 1 1 v2 := iv_eq1 c3 hv2 (iv_c (a := 1) (b := 1) (by decide)) (by decide) (by decide)
      refine lv_iconst (v := 1) hx hb dX0_isTooMany_76 (by decide) ?_
      refine lv_goto (tgt := 81) hx hb dX0_isTooMany_77 (by decide) ?_
      exact W.zret (v := 1) hx hb hr rfl (fun t ht hW => ⟨⟨1, (), rfl, (Or.inr ((rfl))), trivial⟩, hS.F ht⟩) hS.2.2 dX0_isTooMany_81
  refine lv_iload_n hx hb dX0_isTooMany_0 rfl (lv_at hl 1 rfl) ?_
  refine lv_if_eq (tgt := 15) hx hb dX0_isTooMany_1 (by decide) (fun z => absurd z (by decide)) (fun _ => ?_)
  refine lv_aload_n hx hb dX0_isTooMany_4 rfl (lv_at hl 0 rfl) ?_
  refine va_get (D := D) (ci := 0) (v := .int a__kindsTold) (C := RX0) (T := TX0) (N := 3) hx hb hT i_X0 hown hK hP 0 rfl rfl 2 (by decide) (hT _ q_46) (fun _ h9 => h9) rfl dX0_isTooMany_5 ?_
  refine lv_iconst (v := 1) hx hb dX0_isTooMany_8 (by decide) ?_
  refine lv_iand hx hb dX0_isTooMany_9 ?_
  refine lv_topi (fun v6 ev6 => ?_)
  have hv6 : IV 0 1 v6 := iv_and2 ev6 (iv_c (a := 1) (b := 1) (by decide))
  refine lv_if_ne (tgt := 15) hx hb dX0_isTooMany_10 (by decide) (fun c7 => ?_) (fun c7 => ?_)
  · have h8 : IV 1 1 v6 := iv_neL c7 hv6 (by decide)
    exact K15  H locs (hP.sub (ws' := [(a, .inr (0, [.ref a_tape, .ref a_told, .int a__kindsTold]))]) [0] rfl) hS ls (lv_sub hl [0, 1] rfl)
  · have h9 : IV 0 0 v6 := iv_eq1 c7 hv6 (iv_c (a := 0) (b := 0) (by decide)) (by decide) (by decide)
    refine lv_iconst (v := 1) hx hb dX0_isTooMany_13 (by decide) ?_
    exact W.zret (v := 1) hx hb hr rfl (fun t ht hW => ⟨⟨1, (), rfl, (Or.inr ((rfl))), trivial⟩, hS.F ht⟩) hS.2.2 dX0_isTooMany_14
set_option maxHeartbeats 4000000 in
set_option maxRecDepth 100000 in
theorem c_X0_isTooMany_86 (l : Launch) (D : va_G) (cs : Nat → ClassId) (kK kV : Nat → Nat) (a : Nat) (p0 : Int32) (a_tape : Nat) (a_told : Nat) (a__kindsTold : Int32) (h_p0 : IV 8 2147483647 p0) : Met l yX0_isTooMany (hz_w yX0_isTooMany cX0_isTooMany 2 (some .boolean)) ({ frames := 0, cells := 0, slots := 0, locals := 0 }) (va_Pc [.ref a, .int p0] (hz_P D cs kK kV [(a, .inr (0, [.ref a_tape, .ref a_told, .int a__kindsTold]))])) (va_Qi (fun (r : Int32) (_ : Unit) => (r = 0) ∨ (r = 1)) (fun _ t => True) (fun _ => False)) 0 0 (fun _ => False) := by
  refine Met.ofW (cc := cX0_isTooMany) (maxL := 2) (ret := (some .boolean)) (by decide) rfl ?_
  intro p e s m args below meth c s₁ B hml hv
  obtain ⟨rfl, hP, hE⟩ := hv
  have hx := B.exec
  have hb := B.bytes
  have hr := B.returns
  have hT : ∀ w ∈ TB, w.before _ s = true := fun w h => atoms_spec (ws := hz_w yX0_isTooMany cX0_isTooMany 2 (some .boolean)) B.pre w (List.mem_cons_of_mem _ h)
  have hown : s.vm.findClass RX0 = some m.cls := findClass_of_methodNamed B.named
  have hlocks := B.notSynchronized
  clear B
  have hS : va_S (fun _ => False) s.heap s.heap [] := va_S.rf
  have hK := hE.1
  have hl := lv_entry ([.ref a, .int p0]) (n := 2) (Nat.le_of_ble_eq_true rfl)
  rw [lg_entry_eq]
  generalize (lg_sl ([.ref a, .int p0]) ++ List.replicate (2 - (lg_sl ([.ref a, .int p0])).length) Slot.unset).toArray = ls at hl ⊢
  have hl : lv_has ls 2 [(0, .ref a), (1, .int p0)] := hl
  obtain ⟨H, eH⟩ : ∃ z, z = s.heap := ⟨_, rfl⟩
  have hP : va_P D classes [(a, .inr (0, [.ref a_tape, .ref a_told, .int a__kindsTold]))] H := by rw [eH]; exact hP
  have hS : va_S (fun _ => False) s.heap H [] := by rw [eH]; exact hS
  rw [← eH]
  clear eH
  obtain ⟨locs, el⟩ : ∃ z : List Loc, z = [] := ⟨_, rfl⟩
  rw [← el] at hS ⊢
  clear el
  have K15 : ∀ (H : Heap) (locs : List Loc), va_P D classes [(a, .inr (0, [.ref a_tape, .ref a_told, .int a__kindsTold]))] H → va_S (fun _ => False) s.heap H locs → ∀ ls : Array Slot, lv_has ls 2 [(0, .ref a), (1, .int p0)] → W p l e (headSpec (hz_w yX0_isTooMany cX0_isTooMany 2 (some .boolean)) ({ frames := 0, cells := 0, slots := 0, locals := 0 })).room s m [.ref a, .int p0].toArray below meth c H locs 0 0 (MQ below (va_Qi (fun (r : Int32) (_ : Unit) => (r = 0) ∨ (r = 1)) (fun _ t => True) (fun _ => False)) [.ref a, .int p0].toArray s 0 0 (fun _ => False)) (F0 m 15 ls []) := by
    intro   H locs hP hS ls hl
    refine lv_iload_n hx hb dX0_isTooMany_15 rfl (lv_at hl 1 rfl) ?_
    have h9 := h_p0
    unfold IV at h9
    refine lv_tableOut (tgt := 117) hx hb dX0_isTooMany_16 (by omega) (by decide) ?_
    refine lv_iconst (v := 0) hx hb dX0_isTooMany_117 (by decide) ?_
    exact W.zret (v := 0) hx hb hr rfl (fun t ht hW => ⟨⟨0, (), rfl, (Or.inl (rfl)), trivial⟩, hS.F ht⟩) hS.2.2 dX0_isTooMany_118
  refine lv_iload_n hx hb dX0_isTooMany_0 rfl (lv_at hl 1 rfl) ?_
  refine lv_if_eq (tgt := 15) hx hb dX0_isTooMany_1 (by decide) (fun z => absurd z (iv_eqF h_p0 (iv_c (a := 0) (b := 0) (by decide)) (by decide))) (fun _ => ?_)
  refine lv_aload_n hx hb dX0_isTooMany_4 rfl (lv_at hl 0 rfl) ?_
  refine va_get (D := D) (ci := 0) (v := .int a__kindsTold) (C := RX0) (T := TX0) (N := 3) hx hb hT i_X0 hown hK hP 0 rfl rfl 2 (by decide) (hT _ q_46) (fun _ h9 => h9) rfl dX0_isTooMany_5 ?_
  refine lv_iconst (v := 1) hx hb dX0_isTooMany_8 (by decide) ?_
  refine lv_iand hx hb dX0_isTooMany_9 ?_
  refine lv_topi (fun v1 ev1 => ?_)
  have hv1 : IV 0 1 v1 := iv_and2 ev1 (iv_c (a := 1) (b := 1) (by decide))
  refine lv_if_ne (tgt := 15) hx hb dX0_isTooMany_10 (by decide) (fun c2 => ?_) (fun c2 => ?_)
  · have h3 : IV 1 1 v1 := iv_neL c2 hv1 (by decide)
    exact K15  H locs (hP.sub (ws' := [(a, .inr (0, [.ref a_tape, .ref a_told, .int a__kindsTold]))]) [0] rfl) hS ls (lv_sub hl [0, 1] rfl)
  · have h4 : IV 0 0 v1 := iv_eq1 c2 hv1 (iv_c (a := 0) (b := 0) (by decide)) (by decide) (by decide)
    refine lv_iconst (v := 1) hx hb dX0_isTooMany_13 (by decide) ?_
    exact W.zret (v := 1) hx hb hr rfl (fun t ht hW => ⟨⟨1, (), rfl, (Or.inr ((rfl))), trivial⟩, hS.F ht⟩) hS.2.2 dX0_isTooMany_14
