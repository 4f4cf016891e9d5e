theorem HT.start {D : va_G} {cs : Nat → ClassId} {g : GH} {τ : Nat → Nat} {H : Heap} {w : va_W} (hin : ∀ q, τ q ≠ 0 → q ∈ w.map Prod.fst) (hok : AllC (fun x => OKc cs g τ x.1 (τ x.1) x.2) w) (hP : va_P D classes w H) : HT D cs g τ H := fun q hq => by
  obtain ⟨⟨q', e⟩, m1, m2⟩ := List.mem_map.mp (hin q hq)
  obtain ⟨k, hk⟩ := List.getElem?_of_mem m1
  have m2' : q' = q := m2
  subst m2'
  exact ⟨e, hP k _ hk, hok.at k _ hk⟩
theorem ge_left {w x : va_W} {k : Nat} {q : Nat × va_E} (h : w[k]? = some q) : (w ++ x)[k]? = some q := by
  obtain ⟨h1, -⟩ := List.getElem?_eq_some_iff.mp h
  rw [List.getElem?_append_left h1]; exact h
theorem ge_right {w x : va_W} {k : Nat} {q : Nat × va_E} (h : x[k]? = some q) : (w ++ x)[w.length + k]? = some q := by
  rw [List.getElem?_append_right (by omega), Nat.add_sub_cancel_left]; exact h
theorem vp_left {D : va_G} {w x : va_W} {H : Heap} (h : va_P D classes (w ++ x) H) : va_P D classes w H := fun k q hk => h k q (ge_left hk)
theorem vp_right {D : va_G} {w x : va_W} {H : Heap} (h : va_P D classes (w ++ x) H) : va_P D classes x H := fun k q hk => h (w.length + k) q (ge_right hk)
theorem vd_right {A : Nat → Prop} {w x : va_W} (h : va_D A (w ++ x)) : va_D A x := ⟨fun i j p q h1 h2 h3 => by
  have := h.1 (w.length + i) (w.length + j) p q (ge_right h1) (ge_right h2) h3
  omega, fun k q hk => h.2 (w.length + k) q (ge_right hk)⟩
theorem vd_last {A : Nat → Prop} {w : va_W} {q : Nat} {e : va_E} (h : va_D A (w ++ [(q, e)])) : q ∉ w.map Prod.fst := fun z => by
  obtain ⟨⟨q', e'⟩, m1, m2⟩ := List.mem_map.mp z
  obtain ⟨k, hk⟩ := List.getElem?_of_mem m1
  obtain ⟨h1, -⟩ := List.getElem?_eq_some_iff.mp hk
  have := h.1 k (w.length + 0) (q', e') (q, e) (ge_left hk) (ge_right rfl) m2
  omega
theorem ci_z {n k : Nat} {f : Nat → Int32} (h : CI n 0 0 f) (hk : k < n) : (f k).toInt = 0 := by
  have q := h k hk
  unfold IV at q
  omega
set_option maxHeartbeats 4000000 in
set_option maxRecDepth 100000 in
theorem x12_pack {D : va_G} {cs : Nat → ClassId} {A F : Nat → Prop} {τ : Nat → Nat} {a : Nat} {H : Heap} {u : (Nat → Int32) × (Nat → Nat → Int32)} (hw : CI 400 0 0 (u.2 0) ∧ CI 2400 0 0 (u.2 1) ∧ CI 7 0 0 (u.2 2) ∧ CI 360 0 0 (u.2 3) ∧ CI 6 0 0 (u.2 4) ∧ CI 86 0 0 (u.2 5) ∧ CI 400 0 0 (u.2 6) ∧ CI 123 0 0 (u.2 7) ∧ CI 4096 0 0 (u.2 8) ∧ CI 4096 0 0 (u.2 9) ∧ CI 1720 0 0 (u.2 10) ∧ CI 2048 0 0 (u.2 11) ∧ CI 2048 0 0 (u.2 12) ∧ CI 86 0 0 (u.2 13) ∧ CI 492 0 0 (u.2 14) ∧ CI 4 0 0 (u.2 15) ∧ CI 4 0 0 (u.2 16)) (hB : ∃ (m0 : Nat), ∃ (m1 : Nat), ∃ (m2 : Nat), ∃ (m3 : Nat), ∃ (m4 : Nat), ∃ (m5 : Nat), ∃ (m6 : Nat), ∃ (m7 : Nat), ∃ (m7_c : Nat → Int64), ∃ (m8 : Nat), ∃ (m8_c : Nat → Int64), ∃ (m9 : Nat), ∃ (m10 : Nat), ∃ (m11 : Nat), ∃ (m12 : Nat), ∃ (m13 : Nat), ∃ (m14 : Nat), ∃ (m15 : Nat), ∃ (m16 : Nat), ∃ (m17 : Nat), ∃ (m18 : Nat), va_P D classes [(a, .inr (12, [.ref m0, .int 0, .int 0, .ref m1, .ref m2, .ref m3, .ref m4, .ref m5, .int 0, .int 0, .int 0, .int 0, .int 0, .int 0, .int 0, .ref m6, .int 0, .ref m7, .int 0, .ref m8, .ref m9, .int 0, .ref m10, .ref m11, .ref m12, .int 0, .int 0, .ref m13, .ref m14, .int 0, .int 0, .int 0, .ref m15, .long 0, .ref m16, .ref m17, .ref m18])), (m0, .inl (cs 1, 400, .inl (u.2 0))), (m1, .inl (cs 0, 2400, .inl (u.2 1))), (m2, .inl (cs 0, 7, .inl (u.2 2))), (m3, .inl (cs 0, 360, .inl (u.2 3))), (m4, .inl (cs 0, 6, .inl (u.2 4))), (m5, .inl (cs 0, 86, .inl (u.2 5))), (m6, .inl (cs 0, 400, .inl (u.2 6))), (m7, .inl (cs 3, 64, .inr (.inl m7_c))), (m8, .inl (cs 3, 13, .inr (.inl m8_c))), (m9, .inl (cs 0, 123, .inl (u.2 7))), (m10, .inl (cs 0, 4096, .inl (u.2 8))), (m11, .inl (cs 0, 4096, .inl (u.2 9))), (m12, .inl (cs 0, 1720, .inl (u.2 10))), (m13, .inl (cs 0, 2048, .inl (u.2 11))), (m14, .inl (cs 0, 2048, .inl (u.2 12))), (m15, .inl (cs 0, 86, .inl (u.2 13))), (m16, .inl (cs 0, 492, .inl (u.2 14))), (m17, .inl (cs 0, 4, .inl (u.2 15))), (m18, .inl (cs 2, 4, .inl (u.2 16)))] H ∧ va_D F [(a, .inr (12, [.ref m0, .int 0, .int 0, .ref m1, .ref m2, .ref m3, .ref m4, .ref m5, .int 0, .int 0, .int 0, .int 0, .int 0, .int 0, .int 0, .ref m6, .int 0, .ref m7, .int 0, .ref m8, .ref m9, .int 0, .ref m10, .ref m11, .ref m12, .int 0, .int 0, .ref m13, .ref m14, .int 0, .int 0, .int 0, .ref m15, .long 0, .ref m16, .ref m17, .ref m18])), (m0, .inl (cs 1, 400, .inl (u.2 0))), (m1, .inl (cs 0, 2400, .inl (u.2 1))), (m2, .inl (cs 0, 7, .inl (u.2 2))), (m3, .inl (cs 0, 360, .inl (u.2 3))), (m4, .inl (cs 0, 6, .inl (u.2 4))), (m5, .inl (cs 0, 86, .inl (u.2 5))), (m6, .inl (cs 0, 400, .inl (u.2 6))), (m7, .inl (cs 3, 64, .inr (.inl m7_c))), (m8, .inl (cs 3, 13, .inr (.inl m8_c))), (m9, .inl (cs 0, 123, .inl (u.2 7))), (m10, .inl (cs 0, 4096, .inl (u.2 8))), (m11, .inl (cs 0, 4096, .inl (u.2 9))), (m12, .inl (cs 0, 1720, .inl (u.2 10))), (m13, .inl (cs 0, 2048, .inl (u.2 11))), (m14, .inl (cs 0, 2048, .inl (u.2 12))), (m15, .inl (cs 0, 86, .inl (u.2 13))), (m16, .inl (cs 0, 492, .inl (u.2 14))), (m17, .inl (cs 0, 4, .inl (u.2 15))), (m18, .inl (cs 2, 4, .inl (u.2 16)))]) (hF : ∀ q, F q → A q) (hz : ∀ q, F q → τ q = 0) : MH D cs A τ a 0 (u.2 16) (u.2 15) H ∧ ∀ k : Nat, k < 4 → ((u.2 16) k).toInt = 0 := by
  obtain ⟨c0, c1, c2, c3, c4, c5, c6, c7, c8, c9, c10, c11, c12, c13, c14, c15, c16⟩ := hw
  obtain ⟨m0, m1, m2, m3, m4, m5, m6, m7, m7_c, m8, m8_c, m9, m10, m11, m12, m13, m14, m15, m16, m17, m18, hP1, hD1⟩ := hB
  have hDA : va_D A [(a, .inr (12, [.ref m0, .int 0, .int 0, .ref m1, .ref m2, .ref m3, .ref m4, .ref m5, .int 0, .int 0, .int 0, .int 0, .int 0, .int 0, .int 0, .ref m6, .int 0, .ref m7, .int 0, .ref m8, .ref m9, .int 0, .ref m10, .ref m11, .ref m12, .int 0, .int 0, .ref m13, .ref m14, .int 0, .int 0, .int 0, .ref m15, .long 0, .ref m16, .ref m17, .ref m18])), (m0, .inl (cs 1, 400, .inl (u.2 0))), (m1, .inl (cs 0, 2400, .inl (u.2 1))), (m2, .inl (cs 0, 7, .inl (u.2 2))), (m3, .inl (cs 0, 360, .inl (u.2 3))), (m4, .inl (cs 0, 6, .inl (u.2 4))), (m5, .inl (cs 0, 86, .inl (u.2 5))), (m6, .inl (cs 0, 400, .inl (u.2 6))), (m7, .inl (cs 3, 64, .inr (.inl m7_c))), (m8, .inl (cs 3, 13, .inr (.inl m8_c))), (m9, .inl (cs 0, 123, .inl (u.2 7))), (m10, .inl (cs 0, 4096, .inl (u.2 8))), (m11, .inl (cs 0, 4096, .inl (u.2 9))), (m12, .inl (cs 0, 1720, .inl (u.2 10))), (m13, .inl (cs 0, 2048, .inl (u.2 11))), (m14, .inl (cs 0, 2048, .inl (u.2 12))), (m15, .inl (cs 0, 86, .inl (u.2 13))), (m16, .inl (cs 0, 492, .inl (u.2 14))), (m17, .inl (cs 0, 4, .inl (u.2 15))), (m18, .inl (cs 2, 4, .inl (u.2 16)))] := ⟨hD1.1, fun k q h => hF _ (hD1.2 k q h)⟩
  exact ⟨⟨(fun k => match k with | 0 => m0 | 1 => m1 | 2 => m2 | 3 => m3 | 4 => m4 | 5 => m5 | 6 => m6 | 7 => m7 | 8 => m8 | 9 => m9 | 10 => m10 | 11 => m11 | 12 => m12 | 13 => m13 | 14 => m14 | 15 => m15 | 16 => m16 | 17 => m17 | 18 => m18 | _ => 0), (fun k => match k with | 0 => 0 | 1 => 0 | 2 => 0 | 3 => 0 | 4 => 0 | 5 => 0 | 6 => 0 | 7 => 0 | 8 => 0 | 9 => 0 | 10 => 0 | 11 => 0 | 12 => 0 | 13 => 0 | 14 => 0 | 15 => 0 | _ => 0), 0, (fun k => match k with | 0 => u.2 0 | 1 => u.2 1 | 2 => u.2 2 | 3 => u.2 3 | 4 => u.2 4 | 5 => u.2 5 | 6 => u.2 6 | 7 => u.2 7 | 8 => u.2 8 | 9 => u.2 9 | 10 => u.2 10 | 11 => u.2 11 | 12 => u.2 12 | 13 => u.2 13 | 14 => u.2 14 | _ => fun _ => 0), (fun k => match k with | 0 => m7_c | 1 => m8_c | _ => fun _ => 0), hP1.sub [0, 1, 2, 3, 4, 5, 6, 7, 8, 9, 10, 11, 12, 13, 14, 15, 16, 17, 18, 19] rfl, hDA.sub [0, 1, 2, 3, 4, 5, 6, 7, 8, 9, 10, 11, 12, 13, 14, 15, 16, 17, 18, 19] (by decide) rfl, ⟨hz a (hD1.2 0 _ rfl), fun i hi => by rcases (show i = 0 ∨ i = 1 ∨ i = 2 ∨ i = 3 ∨ i = 4 ∨ i = 5 ∨ i = 6 ∨ i = 7 ∨ i = 8 ∨ i = 9 ∨ i = 10 ∨ i = 11 ∨ i = 12 ∨ i = 13 ∨ i = 14 ∨ i = 15 ∨ i = 16 ∨ i = 17 ∨ i = 18 by omega) with rfl | rfl | rfl | rfl | rfl | rfl | rfl | rfl | rfl | rfl | rfl | rfl | rfl | rfl | rfl | rfl | rfl | rfl | rfl <;> first | exact (hz m0 (hD1.2 1 _ rfl)) | exact (hz m1 (hD1.2 2 _ rfl)) | exact (hz m2 (hD1.2 3 _ rfl)) | exact (hz m3 (hD1.2 4 _ rfl)) | exact (hz m4 (hD1.2 5 _ rfl)) | exact (hz m5 (hD1.2 6 _ rfl)) | exact (hz m6 (hD1.2 7 _ rfl)) | exact (hz m7 (hD1.2 8 _ rfl)) | exact (hz m8 (hD1.2 9 _ rfl)) | exact (hz m9 (hD1.2 10 _ rfl)) | exact (hz m10 (hD1.2 11 _ rfl)) | exact (hz m11 (hD1.2 12 _ rfl)) | exact (hz m12 (hD1.2 13 _ rfl)) | exact (hz m13 (hD1.2 14 _ rfl)) | exact (hz m14 (hD1.2 15 _ rfl)) | exact (hz m15 (hD1.2 16 _ rfl)) | exact (hz m16 (hD1.2 17 _ rfl)) | exact (hz m17 (hD1.2 18 _ rfl)) | exact (hz m18 (hD1.2 19 _ rfl))⟩, iv_c (a := 0) (b := 400) (x := 0) (by decide), iv_c (a := 0) (b := 6) (x := 0) (by decide), iv_c (a := 0) (b := 400) (x := 0) (by decide), iv_c (a := 0) (b := 6) (x := 0) (by decide), iv_c (a := 0) (b := 60) (x := 0) (by decide), iv_c (a := 0) (b := 40) (x := 0) (by decide), iv_c (a := 0) (b := 400) (x := 0) (by decide), iv_c (a := 0) (b := 64) (x := 0) (by decide), iv_c (a := 0) (b := 2147483647) (x := 0) (by decide), iv_c (a := 0) (b := 20) (x := 0) (by decide), ci_w c9 (by decide) (by decide), ci_w c15 (by decide) (by decide), bs_hi (bs_zero (ci_z c7 (by decide)) (ci_z c7 (by decide)) (ci_z c7 (by decide)) (ci_z c7 (by decide)) (ci_z c7 (by decide))) (by decide), tr_zero (fun j h1 h2 => ci_z c7 h2), (show ((u.2 7) 3).toInt ≤ 99 from by have q := ci_z (k := 3) c7 (by decide); omega), (fun r hr => absurd (show (r : Int) < (0 : Int32).toInt from hr) (by have q : (0 : Int32).toInt = 0 := (by decide); omega)), wsn_0 (by decide), (fun k hk h => absurd (ci_z c16 hk) h)⟩, fun k hk => ci_z c16 hk⟩
set_option maxHeartbeats 40000000 in
set_option maxRecDepth 100000 in
theorem whole_start {p : Program} {e : Env} {s : State} {m : MethodId} {below : List Frame} {meth : Method} {c : Code} (l : Launch) (hflags : l.flags = flags0) {b L : Nat} {xs : Nat → Int32} (hL : L ≤ 3072) (C0 : lw_At p s m meth c b L xs) : W p l e room_1 s m #[Value.ref b] below meth c s.heap [] 0 0 (lw_Z below #[Value.ref b] s) (entryFrame m ([Value.ref b] : List Value).toArray 4) := by
  obtain ⟨hx, hb, hr, hml, hown, hts, hX, hbl, hlocks, hgv⟩ := C0
  have hT : ∀ w ∈ TB, w.before _ s = true := fun w h => hts w (TB_ok w h).1
  obtain ⟨A, hAe⟩ : ∃ A : Nat → Prop, A = fun q : Nat => s.heap.size ≤ q := ⟨_, rfl⟩
  have hA : ∀ q : Nat, s.heap.size ≤ q → A q := fun q h => by rw [hAe]; exact h
  have hAo : ∀ q : Nat, A q → s.heap.size ≤ q := fun q h => by rw [hAe] at h; exact h
  have hAn : ∀ q : Nat, q < s.heap.size → ¬ A q := fun q h z => absurd (hAo q z) (Nat.not_le.mpr h)
  obtain ⟨D, cs, kK, kV, hE⟩ := hz_start hts hgv hAn
  have hbA : ¬ A b := hAn b hbl
  have hb : c.code = cL_law := hb
  have hown : s.vm.findClass RL = some m.cls := hown
  have hK := hE.1
  have hl := lv_entry ([.ref b]) (n := 4) (Nat.le_of_ble_eq_true rfl)
  rw [lg_entry_eq]
  generalize (lg_sl ([.ref b]) ++ List.replicate (4 - (lg_sl ([.ref b])).length) Slot.unset).toArray = ls at hl ⊢
  have hl : lv_has ls 4 [(0, .ref b)] := hl
  obtain ⟨H, eH⟩ : ∃ z, z = s.heap := ⟨_, rfl⟩
  have hP : va_P D classes [] H := hz_P0
  have hD : va_D A [] := hz_D0
  have hS : va_S A s.heap H [] := by rw [eH]; exact va_S.rf
  rw [← eH]
  clear eH hAn
  refine va_new (D := D) (ci := 11) (fs := [.null, .null, .null, .null, .int 0, .null, .null, .null, .null, .int 0, .int 0, .null, .null, .null, .null, .null, .int 0]) (C := RX11) (T := TX11) (N := 17) hx hb hT i_X11 tyX11 tyX11_ok hown (hT _ q_1380) (hT _ q_1381) (hT _ q_241) hK hP hD hS hA rfl df_X11 (Nat.le_of_ble_eq_true rfl) (Nat.le_of_ble_eq_true rfl) dL_law_0 (fun q1 Ha hPn hDn hSn => ?_)
  refine W.widen (k := 1) (n := 17) (Nat.le_of_ble_eq_true rfl) (Nat.le_of_ble_eq_true rfl) ?_
  have hPa : va_P D classes [(q1, .inr (11, [.null, .null, .null, .null, .int 0, .null, .null, .null, .null, .int 0, .int 0, .null, .null, .null, .null, .null, .int 0]))] Ha := hPn
  have hDa : va_D A [(q1, .inr (11, [.null, .null, .null, .null, .int 0, .null, .null, .null, .null, .int 0, .int 0, .null, .null, .null, .null, .null, .int 0]))] := hDn
  have hSa := hSn
  clear hPn hDn hSn
  refine lv_dup hx hb dL_law_3 rfl ?_
  have hFc1 := va_free (wc := [(q1, .inr (11, [.null, .null, .null, .null, .int 0, .null, .null, .null, .null, .int 0, .int 0, .null, .null, .null, .null, .null, .int 0]))]) hDa hSa hA [0] rfl
  refine va_callv (va_runI (As := []) (rest := [.ref q1]) ⟨hx, hb, hml, hown, hT⟩ (c_X11_init l D cs kK kV q1 Ha.size) (cwI 0 hT (hz_gw q_698) rfl rfl rfl (hT _ q_241) (hT _ q_696) (hT _ q_697) rfl (by decide +kernel) ⟨(Nat.le_of_ble_eq_true rfl), (Nat.le_of_ble_eq_true rfl)⟩) ⟨hz_C.blind, hz_C.mk hPa hDa hE hSa hFc1⟩ rfl rfl hl.1 rfl (lv_room (Nat.le_of_ble_eq_true rfl)) dL_law_4 ⟨(Nat.le_of_ble_eq_true rfl), (Nat.le_of_ble_eq_true rfl)⟩) hSa (fun q _ h => hFc1 q h) hFc1 (fun u1 t1 H1 locs1 ht1 hvm1 hw1 hB1 hz1 hk1 hS1 => ?_)
  refine W.widen (k := 166) (n := 10231) (Nat.le_of_ble_eq_true rfl) (Nat.le_of_ble_eq_true rfl) ?_
  obtain ⟨w, g, τ, hPw, hDw, hin, ha, hU, hok, hg1, hg2⟩ := x11_pack hB1
  rw [ht1] at hPw
  have hDw : va_D A w := ⟨hDw.1, fun k q h => hFc1 _ (hDw.2 k q h)⟩
  refine lv_astore_n (lv' := [(1, .ref q1), (0, .ref b)]) hx hb dL_law_7 rfl hl (by decide) rfl (fun ls hl => ?_)
  refine va_new (D := D) (ci := 12) (fs := [.null, .int 0, .int 0, .null, .null, .null, .null, .null, .int 0, .int 0, .int 0, .int 0, .int 0, .int 0, .int 0, .null, .int 0, .null, .int 0, .null, .null, .int 0, .null, .null, .null, .int 0, .int 0, .null, .null, .int 0, .int 0, .int 0, .null, .long 0, .null, .null, .null]) (C := RX12) (T := TX12) (N := 37) hx hb hT i_X12 tyX12 tyX12_ok hown (hT _ q_1382) (hT _ q_1383) (hT _ q_701) hK hPw hDw hS1 hA rfl df_X12 (Nat.le_of_ble_eq_true rfl) (Nat.le_of_ble_eq_true rfl) dL_law_8 (fun q2 Hb hPn hDn hSn => ?_)
  refine W.widen (k := 167) (n := 10268) (Nat.le_of_ble_eq_true rfl) (Nat.le_of_ble_eq_true rfl) ?_
  have hPb : va_P D classes [(q2, .inr (12, [.null, .int 0, .int 0, .null, .null, .null, .null, .null, .int 0, .int 0, .int 0, .int 0, .int 0, .int 0, .int 0, .null, .int 0, .null, .int 0, .null, .null, .int 0, .null, .null, .null, .int 0, .int 0, .null, .null, .int 0, .int 0, .int 0, .null, .long 0, .null, .null, .null]))] Hb := vp_right hPn
  have hDb : va_D A [(q2, .inr (12, [.null, .int 0, .int 0, .null, .null, .null, .null, .null, .int 0, .int 0, .int 0, .int 0, .int 0, .int 0, .int 0, .null, .int 0, .null, .int 0, .null, .null, .int 0, .null, .null, .null, .int 0, .int 0, .null, .null, .int 0, .int 0, .int 0, .null, .long 0, .null, .null, .null]))] := vd_right hDn
  have hSb := hSn
  have hI := HT.start hin hok (vp_left hPn)
  have hzq : τ q2 = 0 := Classical.byContradiction (fun z => vd_last hDn (hin q2 z))
  have hAt : ∀ q, τ q ≠ 0 → A q := fun q hq => by
    obtain ⟨x, m1, m2⟩ := List.mem_map.mp (hin q hq)
    obtain ⟨k, hk⟩ := List.getElem?_of_mem m1
    rw [← m2]; exact hDw.2 k _ hk
  refine lv_dup hx hb dL_law_11 rfl ?_
  have hFc2 := va_free (wc := [(q2, .inr (12, [.null, .int 0, .int 0, .null, .null, .null, .null, .null, .int 0, .int 0, .int 0, .int 0, .int 0, .int 0, .int 0, .null, .int 0, .null, .int 0, .null, .null, .int 0, .null, .null, .null, .int 0, .int 0, .null, .null, .int 0, .int 0, .int 0, .null, .long 0, .null, .null, .null]))]) hDb hSb hA [0] rfl
  refine va_callv (va_runI (As := []) (rest := [.ref q2]) ⟨hx, hb, hml, hown, hT⟩ (c_X12_init l D cs kK kV q2 Hb.size) (cwI 0 hT (hz_gw q_702) rfl rfl rfl (hT _ q_701) (hT _ q_699) (hT _ q_700) rfl (by decide +kernel) ⟨(Nat.le_of_ble_eq_true rfl), (Nat.le_of_ble_eq_true rfl)⟩) ⟨hz_C.blind, hz_C.mk hPb hDb hE hSb hFc2⟩ rfl rfl hl.1 rfl (lv_room (Nat.le_of_ble_eq_true rfl)) dL_law_12 ⟨(Nat.le_of_ble_eq_true rfl), (Nat.le_of_ble_eq_true rfl)⟩) hSb (fun q _ h => hFc2 q h) hFc2 (fun u2 t2 H2 locs2 ht2 hvm2 hw2 hB2 hz2 hk2 hS2 => ?_)
  refine W.widen (k := 186) (n := 28721) (Nat.le_of_ble_eq_true rfl) (Nat.le_of_ble_eq_true rfl) ?_
  have hI2 : HT D cs g τ H2 := HT.off hI (vz_off (ws := [(q2, .inr (12, [.null, .int 0, .int 0, .null, .null, .null, .null, .null, .int 0, .int 0, .int 0, .int 0, .int 0, .int 0, .int 0, .null, .int 0, .null, .int 0, .null, .null, .int 0, .null, .null, .null, .int 0, .int 0, .null, .null, .int 0, .int 0, .int 0, .null, .long 0, .null, .null, .null]))]) ⟨hzq, trivial⟩ hk2)
  obtain ⟨hM, hmd⟩ := x12_pack (τ := τ) (F := va_A [(q2, .inr (12, [.null, .int 0, .int 0, .null, .null, .null, .null, .null, .int 0, .int 0, .int 0, .int 0, .int 0, .int 0, .int 0, .null, .int 0, .null, .int 0, .null, .null, .int 0, .null, .null, .null, .int 0, .int 0, .null, .null, .int 0, .int 0, .int 0, .null, .long 0, .null, .null, .null]))] Hb.size) hw2 hB2 hFc2 (fun q hq => Classical.byContradiction (fun z => by
    rcases hq with ⟨k, x, y⟩ | y
    · exact z ((show AllC (fun x => τ x.1 = 0) [(q2, .inr (12, [.null, .int 0, .int 0, .null, .null, .null, .null, .null, .int 0, .int 0, .int 0, .int 0, .int 0, .int 0, .int 0, .null, .int 0, .null, .int 0, .null, .null, .int 0, .null, .null, .null, .int 0, .int 0, .null, .null, .int 0, .int 0, .int 0, .null, .long 0, .null, .null, .null]))] from ⟨hzq, trivial⟩).at k _ y)
    · exact absurd (HT.lt hI z) (Nat.not_lt.mpr y)))
  rw [ht2] at hM
  refine lv_astore_n (lv' := [(2, .ref q2), (1, .ref q1), (0, .ref b)]) hx hb dL_law_15 rfl hl (by decide) rfl (fun ls hl => ?_)
  refine lv_iconst (v := 0) hx hb dL_law_16 (by decide) ?_
  refine lv_istore_n (lv' := [(3, .int 0), (2, .ref q2), (1, .ref q1), (0, .ref b)]) hx hb dL_law_17 rfl hl (by decide) rfl (fun ls hl => ?_)
  exact lp_loop ⟨hx, hb, hml, hown, hT, hE, hA⟩ hX hbl hbA hL hr hlocks hAo 513 0 H2 locs2 186 28721 ls (by decide) (by decide) (by decide) (by decide) (by decide) hl ⟨g, τ, 0, _, _, hI2, ha, hAt, hU, hM, hg1, fun k hk => Or.inl ⟨hmd k hk, by rw [hg2]⟩⟩ hS2
set_option maxHeartbeats 4000000 in
theorem lw_walk (l : Launch) (hflags : l.flags = flags0) (b : Addr) (xs : List Int32) : MetFree l x (headSpec (Jvm.Cond.code x code maxLocals ret :: tables_1) room_1) (lw_P b xs) (fun _ _ _ _ _ => True) lw_Q := by
  refine MetFree.of_bodyS (code := code) (maxLocals := maxLocals) (ret := ret) (by decide) ?_ ?_
  · intro args s m h hn
    obtain ⟨meth, c, h1, h2, h3, h4, h5, h6, -, -⟩ := Cond.code_spec hn (atoms_spec (ws := Jvm.Cond.code x code maxLocals ret :: tables_1) h _ List.mem_cons_self)
    exact ⟨meth, c, h1, h2, h3, h4, h5, h6⟩
  · intro p e s m args below meth c s₁ B hml0 hP _
    obtain ⟨rfl, hx, hbd, hgv⟩ := hP
    obtain ⟨scr, harrAt, hlist, hof, hsmall⟩ := hx
    obtain ⟨hcb, hkn, -, -⟩ := State.arrayAt?_spec harrAt
    have hown : s.vm.findClass R_law = some m.cls := findClass_of_methodNamed B.named
    have hts0 : ∀ c ∈ (Jvm.Cond.code x code maxLocals ret :: tables_1), c.before #[Value.ref b] s = true := atoms_spec (ws := Jvm.Cond.code x code maxLocals ret :: tables_1) B.pre
    have hts : ∀ w ∈ lw_tbl, w.before #[Value.ref b] s = true := k2_hts_sels lw_privs (fun w hw => hts0 w (List.mem_cons_of_mem _ hw)) lw_privs_ok
    have hml : c.maxLocals = 4 := B.maxLocals_eq (hts0 _ List.mem_cons_self)
    have X₀ : Stand p l e room_1 s m #[Value.ref b] below meth c s₁ [] 0 0 := Stand.of_body B
    have hh0 : s₁.heap = s.heap := by rw [B.state]; rfl
    have hsz : scr.slots.size = xs.length := by rw [← Array.length_toList, hlist, List.length_map]
    have hval : ∀ j : Nat, j < xs.length → scr.slots[j]? = some (.int (xs.getD j 0)) := fun j hj => by
      rw [← Array.getElem?_toList, hlist]
      simp [hj]
    have hbl : b < s.heap.size := (Array.getElem?_eq_some_iff.mp hcb).1
    have hX : va_X b xs.length (fun j => xs.getD j 0) s s.heap := ⟨scr, hcb, hof, hkn, hsz, hval⟩
    have K : W p l e room_1 s m #[Value.ref b] below meth c s₁.heap [] 0 0 (lw_Z below #[Value.ref b] s) (entryFrame m ([Value.ref b] : List Value).toArray 4) := by
      rw [hh0]
      exact whole_start l hflags hbd ⟨B.exec, B.bytes, B.returns, hml, hown, hts, hX, hbl, B.notSynchronized, hgv⟩
    obtain ⟨t, a1, o, b1, b2, b3⟩ := K s₁ rfl X₀
    exact ⟨t, o, a1, b1, b2, b3⟩
theorem lw_pre_spec {args : Array Value} {s : State} (h : (Jvm.Cond.and given_1 narrow_1).before args s = true) (hr : rest_1_c.before args s = true) : ∃ (b : Addr) (xs : List Int32), lw_P b xs args s := by
  have hs := flat_of_before _ h
  have hq := flat_of_before _ hr
  have hc : (Cond.count 1).before args s = true := hs _ (by decide +kernel)
  have harr : (Cond.arrayOf (.arg 0) .int).before args s = true := hs _ (by decide +kernel)
  have hle : (Cond.le (.length (.arg 0)) (.int 3072)).before args s = true := hs _ (by decide +kernel)
  have hlen : (Cond.isInt (.length (.arg 0))).before args s = true := hq _ (by decide +kernel)
  have hall : (Cond.all (.arg 0) (.isInt (.elem (.arg 0) (.index 0)))).before args s = true := hq _ (by decide +kernel)
  obtain ⟨b, xs, hb, hx⟩ := State.ints_of_pre rfl harr hlen hall
  have hsm : xs.length < 2 ^ 31 := hx.choose_spec.2.2.2
  have hev : (Term.length (.arg 0)).eval args s none [] s = some (.int xs.length.toInt32) := hx.length_eval hb
  have hv := Cond.le_ints hev (show (Term.int 3072).eval args s none [] s = some (.int 3072) from rfl)
  have hd : xs.length.toInt32 ≤ 3072 := by
    simpa [Cond.before, Cond.holds, hv] using hle
  have hN : xs.length ≤ 3072 := (Int32.ofNat_le_ofNat hsm (by decide)).mp (show Int32.ofNat xs.length ≤ Int32.ofNat 3072 from hd)
  exact ⟨b, xs, Cond.one_arg hc (show args[0]? = some (.ref b) from hb), hx, hN, h⟩
theorem lw_comes (l : Launch) (hflags : l.flags = flags0) : Comes l x (Jvm.Cond.code x code maxLocals ret :: tables_1) room_1 (fun tb e args s => Calls_1 tb e args s ∧ rest_1 tb e args s ∧ Pre_1 tb e args s)
    (fun _ _ args s o t => lw_Q args s o t) := by
  intro p e ha hc hk s m args below hf hfit hheap happ hpre
  obtain ⟨b, xs, hP⟩ := lw_pre_spec hpre.2.2 hpre.2.1
  obtain ⟨k, o, h1, h2, h3, hQ⟩ := lw_walk l hflags b xs p e ha hc hk s m args below hf ((Spec.applies_iff_loose hf).mp happ).1 hP trivial
  exact ⟨k, o, h1, h2, h3, hQ⟩
theorem lw_frame {s t : State} {o : Outcome} {args : Array Value} (h : Framed s o t [] 600000 7302250) :
    Framed s o t (fieldLocs frame_1_writes args s ++ arrayLocs frame_1_arrays args s ++ staticLocs frame_1_statics s) 600000 7302250 := h
theorem lw_limb (L : Cond) (hL : ∀ (args : Array Value) (s t : State), L.after args s (.returned (some (.int 1))) t = true) :
    ArmFor flags0 classFile x code maxLocals ret World_1 tables_1 room_1 Calls_1 rest_1 Pre_1
      (fun tb e a s o t => postC L tb e a s o t ∧ Framed s o t (fieldLocs frame_1_writes a s ++ arrayLocs frame_1_arrays a s ++ staticLocs frame_1_statics s) 600000 7302250) := by
  intro l hflags _ _ p e ha hc hk s m args below hf hfit hheap happ hpre
  obtain ⟨k, o, h1, h2, h3, rfl, hF⟩ := lw_comes l hflags p e ha hc hk s m args below hf hfit hheap happ hpre
  exact ⟨k, _, h1, h2, h3, hL args s _, lw_frame hF⟩
theorem i_vc : Claimed_1_1 ∧ Claimed_1_2 := ⟨lw_limb limb_1_1 (fun args s t => by simp [limb_1_1, Cond.after, Cond.holds, Cond.value]), lw_limb limb_1_2 (fun args s t => Cond.after_iff.mpr (by
  first | (rw [show limb_1_2 = Cond.eq .result (.int 1) from rfl, Cond.eq_ints (x := 1) (y := 1) rfl rfl]; simp; done) | (simp [limb_1_2, Cond.value, Term.eval]; done)))⟩
