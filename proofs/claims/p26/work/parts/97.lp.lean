theorem lp_i {L : Nat} (hL : L ≤ 3072) : (Int32.ofNat L - 6).toInt = L - 6 := by
  have e : (Int32.ofNat L).toInt = L := nI_toInt (by omega)
  rw [Int32.toInt_sub, e, show (6 : Int32).toInt = 6 by decide]
  exact iv_bm (by omega) (by omega)
theorem lp_6 {i v : Int32} (h0 : 0 ≤ i.toInt) (h1 : i.toInt ≤ 3072) (e : v = i + 6) : v.toInt = i.toInt + 6 := by
  rw [e, Int32.toInt_add, show (6 : Int32).toInt = 6 by decide]
  exact iv_bm (by omega) (by omega)
set_option maxHeartbeats 4000000 in
set_option maxRecDepth 100000 in
theorem lp_round {p : Program} {l : Launch} {e : Env} {s : State} {m : MethodId} {below : List Frame} {meth : Method} {c : Code} {D : va_G} {cs : Nat → ClassId} {kK kV : Nat → Nat} {A : Nat → Prop} {b : Nat} (C : LC p s m c b D cs kK kV A) {L : Nat} {xs : Nat → Int32} (hX : va_X b L xs s s.heap) (hbl : b < s.heap.size) (hbA : ¬ A b) (hL : L ≤ 3072) {ax am : Nat} {i3 : Int32} (h0 : 0 ≤ i3.toInt) (h5 : i3.toInt + 5 < L) {H : Heap} {locs : List Loc} {cells slots : Nat} {Q : State → Prop} {ls : Array Slot} (hl : lv_has ls 4 [(3, .int i3), (2, .ref am), (1, .ref ax), (0, .ref b)]) (hJ : LI D cs A ax am H) (hS : va_S A s.heap H locs) (hc : cells + 12 ≤ 600000) (hs : slots + 454 ≤ 7302250) (kk : ∀ (H1 : Heap) (locs1 : List Loc), LI D cs A ax am H1 → va_S A s.heap H1 locs1 → W p l e room_1 s m #[Value.ref b] below meth c H1 locs1 (cells + 12) (slots + 454) Q (F0 m 1137 ls [])) : W p l e room_1 s m #[Value.ref b] below meth c H locs cells slots Q (F0 m 27 ls []) := by
  have ⟨hx, hb, hml, hown, hT, hE, hA⟩ := C
  refine lv_aload_n hx hb dL_law_27 rfl (lv_at hl 3 rfl) ?_
  refine lv_iload_n hx hb dL_law_28 rfl (lv_at hl 0 rfl) ?_
  refine va_sld hx hb hX hbl hbA hS (vp_in_iff.mpr ⟨by omega, by omega⟩) dL_law_29 ?_
  refine lv_bipush (v := 31) hx hb dL_law_30 (by decide) ?_
  refine lv_iand hx hb dL_law_32 ?_
  refine lv_topi (fun y ey => ?_)
  have hy : IV 0 31 y := iv_and2 ey (iv_c (a := 31) (b := 31) (by decide))
  unfold IV at hy
  rcases (show y.toInt = 0 ∨ y.toInt = 1 ∨ y.toInt = 2 ∨ y.toInt = 3 ∨ y.toInt = 4 ∨ y.toInt = 5 ∨ y.toInt = 6 ∨ y.toInt = 7 ∨ y.toInt = 8 ∨ y.toInt = 9 ∨ y.toInt = 10 ∨ y.toInt = 11 ∨ y.toInt = 12 ∨ y.toInt = 13 ∨ y.toInt = 14 ∨ y.toInt = 15 ∨ y.toInt = 16 ∨ y.toInt = 17 ∨ y.toInt = 18 ∨ y.toInt = 19 ∨ y.toInt = 20 ∨ y.toInt = 21 ∨ y.toInt = 22 ∨ y.toInt = 23 ∨ y.toInt = 24 ∨ y.toInt = 25 ∨ y.toInt = 26 ∨ y.toInt = 27 ∨ y.toInt = 28 ∨ 28 < y.toInt by omega) with c1 | c1 | c1 | c1 | c1 | c1 | c1 | c1 | c1 | c1 | c1 | c1 | c1 | c1 | c1 | c1 | c1 | c1 | c1 | c1 | c1 | c1 | c1 | c1 | c1 | c1 | c1 | c1 | c1 | c1
  · refine lv_tableIn (off := 131) (tgt := 164) hx hb dL_law_33 (by omega) (by omega) (by rw [c1]; rfl) (by decide) ?_
    exact lc_feed C hX hbl hbA hL h0 h5 hl hJ hS hc hs kk
  · refine lv_tableIn (off := 194) (tgt := 227) hx hb dL_law_33 (by omega) (by omega) (by rw [c1]; rfl) (by decide) ?_
    exact lc_end C hX hbl hbA hL h0 h5 hl hJ hS hc hs kk
  · refine lv_tableIn (off := 217) (tgt := 250) hx hb dL_law_33 (by omega) (by omega) (by rw [c1]; rfl) (by decide) ?_
    exact lc_fair C hX hbl hbA hL h0 h5 hl hJ hS hc hs kk
  · refine lv_tableIn (off := 230) (tgt := 263) hx hb dL_law_33 (by omega) (by omega) (by rw [c1]; rfl) (by decide) ?_
    exact lc_rule C hX hbl hbA hL h0 h5 hl hJ hS hc hs kk
  · refine lv_tableIn (off := 243) (tgt := 276) hx hb dL_law_33 (by omega) (by omega) (by rw [c1]; rfl) (by decide) ?_
    exact lc_half C hX hbl hbA hL h0 h5 hl hJ hS hc hs kk
  · refine lv_tableIn (off := 276) (tgt := 309) hx hb dL_law_33 (by omega) (by omega) (by rw [c1]; rfl) (by decide) ?_
    exact lc_fit C hX hbl hbA hL h0 h5 hl hJ hS hc hs kk
  · refine lv_tableIn (off := 309) (tgt := 342) hx hb dL_law_33 (by omega) (by omega) (by rw [c1]; rfl) (by decide) ?_
    exact lc_buyer C hX hbl hbA hL h0 h5 hl hJ hS hc hs kk
  · refine lv_tableIn (off := 342) (tgt := 375) hx hb dL_law_33 (by omega) (by omega) (by rw [c1]; rfl) (by decide) ?_
    exact lc_spot C hX hbl hbA hL h0 h5 hl hJ hS hc hs kk
  · refine lv_tableIn (off := 375) (tgt := 408) hx hb dL_law_33 (by omega) (by omega) (by rw [c1]; rfl) (by decide) ?_
    exact lc_go C hX hbl hbA hL h0 h5 hl hJ hS hc hs kk
  · refine lv_tableIn (off := 408) (tgt := 441) hx hb dL_law_33 (by omega) (by omega) (by rw [c1]; rfl) (by decide) ?_
    exact lc_buy C hX hbl hbA hL h0 h5 hl hJ hS hc hs kk
  · refine lv_tableIn (off := 441) (tgt := 474) hx hb dL_law_33 (by omega) (by omega) (by rw [c1]; rfl) (by decide) ?_
    exact lc_shout C hX hbl hbA hL h0 h5 hl hJ hS hc hs kk
  · refine lv_tableIn (off := 474) (tgt := 507) hx hb dL_law_33 (by omega) (by omega) (by rw [c1]; rfl) (by decide) ?_
    exact lc_swap C hX hbl hbA hL h0 h5 hl hJ hS hc hs kk
  · refine lv_tableIn (off := 527) (tgt := 560) hx hb dL_law_33 (by omega) (by omega) (by rw [c1]; rfl) (by decide) ?_
    exact lc_giveUp C hX hbl hbA hL h0 h5 hl hJ hS hc hs kk
  · refine lv_tableIn (off := 560) (tgt := 593) hx hb dL_law_33 (by omega) (by omega) (by rw [c1]; rfl) (by decide) ?_
    exact lc_undo C hX hbl hbA hL h0 h5 hl hJ hS hc hs kk
  · refine lv_tableIn (off := 573) (tgt := 606) hx hb dL_law_33 (by omega) (by omega) (by rw [c1]; rfl) (by decide) ?_
    exact lc_run C hX hbl hbA hL h0 h5 hl hJ hS hc hs kk
  · refine lv_tableIn (off := 606) (tgt := 639) hx hb dL_law_33 (by omega) (by omega) (by rw [c1]; rfl) (by decide) ?_
    exact lc_worth C hX hbl hbA hL h0 h5 hl hJ hS hc hs kk
  · refine lv_tableIn (off := 629) (tgt := 662) hx hb dL_law_33 (by omega) (by omega) (by rw [c1]; rfl) (by decide) ?_
    exact lc_with C hX hbl hbA hL h0 h5 hl hJ hS hc hs kk
  · refine lv_tableIn (off := 662) (tgt := 695) hx hb dL_law_33 (by omega) (by omega) (by rw [c1]; rfl) (by decide) ?_
    exact lc_walk C hX hbl hbA hL h0 h5 hl hJ hS hc hs kk
  · refine lv_tableIn (off := 695) (tgt := 728) hx hb dL_law_33 (by omega) (by omega) (by rw [c1]; rfl) (by decide) ?_
    exact lc_chance C hX hbl hbA hL h0 h5 hl hJ hS hc hs kk
  · refine lv_tableIn (off := 738) (tgt := 771) hx hb dL_law_33 (by omega) (by omega) (by rw [c1]; rfl) (by decide) ?_
    exact lc_yields C hX hbl hbA hL h0 h5 hl hJ hS hc hs kk
  · refine lv_tableIn (off := 801) (tgt := 834) hx hb dL_law_33 (by omega) (by omega) (by rw [c1]; rfl) (by decide) ?_
    exact lc_cry C hX hbl hbA hL h0 h5 hl hJ hS hc hs kk
  · refine lv_tableIn (off := 834) (tgt := 867) hx hb dL_law_33 (by omega) (by omega) (by rw [c1]; rfl) (by decide) ?_
    exact lc_bring C hX hbl hbA hL h0 h5 hl hJ hS hc hs kk
  · refine lv_tableIn (off := 877) (tgt := 910) hx hb dL_law_33 (by omega) (by omega) (by rw [c1]; rfl) (by decide) ?_
    exact lc_trial C hX hbl hbA hL h0 h5 hl hJ hS hc hs kk
  · refine lv_tableIn (off := 936) (tgt := 969) hx hb dL_law_33 (by omega) (by omega) (by rw [c1]; rfl) (by decide) ?_
    exact lc_forgers C hX hbl hbA hL h0 h5 hl hJ hS hc hs kk
  · refine lv_tableIn (off := 959) (tgt := 992) hx hb dL_law_33 (by omega) (by omega) (by rw [c1]; rfl) (by decide) ?_
    exact lc_seed C hX hbl hbA hL h0 h5 hl hJ hS hc hs kk
  · refine lv_tableIn (off := 982) (tgt := 1015) hx hb dL_law_33 (by omega) (by omega) (by rw [c1]; rfl) (by decide) ?_
    exact lc_fairs C hX hbl hbA hL h0 h5 hl hJ hS hc hs kk
  · refine lv_tableIn (off := 1035) (tgt := 1068) hx hb dL_law_33 (by omega) (by omega) (by rw [c1]; rfl) (by decide) ?_
    exact lc_count C hX hbl hbA hL h0 h5 hl hJ hS hc hs kk
  · refine lv_tableIn (off := 1058) (tgt := 1091) hx hb dL_law_33 (by omega) (by omega) (by rw [c1]; rfl) (by decide) ?_
    exact lc_image C hX hbl hbA hL h0 h5 hl hJ hS hc hs kk
  · refine lv_tableIn (off := 1081) (tgt := 1114) hx hb dL_law_33 (by omega) (by omega) (by rw [c1]; rfl) (by decide) ?_
    exact lc_back C hX hbl hbA hL h0 h5 hl hJ hS hc hs kk
  · refine lv_tableOut (tgt := 1137) hx hb dL_law_33 (Or.inr c1) (by decide) ?_
    refine W.widen (k := cells + 12) (n := slots + 454) (by omega) (by omega) ?_
    exact kk H locs hJ hS
set_option maxHeartbeats 4000000 in
set_option maxRecDepth 100000 in
theorem lp_loop {p : Program} {l : Launch} {e : Env} {s : State} {m : MethodId} {below : List Frame} {meth : Method} {c : Code} {D : va_G} {cs : Nat → ClassId} {kK kV : Nat → Nat} {A : Nat → Prop} {b : Nat} (C : LC p s m c b D cs kK kV A) {L : Nat} {xs : Nat → Int32} (hX : va_X b L xs s s.heap) (hbl : b < s.heap.size) (hbA : ¬ A b) (hL : L ≤ 3072) (hr : meth.sig.returnType = ret) (hlocks : meth.locks = false) (hAo : ∀ q : Nat, A q → s.heap.size ≤ q) {ax am : Nat} : ∀ (n : Nat) (i3 : Int32) (H : Heap) (locs : List Loc) (cells slots : Nat) (ls : Array Slot), 0 ≤ i3.toInt → i3.toInt ≤ 3072 → 3078 ≤ i3.toInt + 6 * n → cells + 12 * n ≤ 600000 → slots + 454 * n ≤ 7302250 → lv_has ls 4 [(3, .int i3), (2, .ref am), (1, .ref ax), (0, .ref b)] → LI D cs A ax am H → va_S A s.heap H locs → W p l e room_1 s m #[Value.ref b] below meth c H locs cells slots (lw_Z below #[Value.ref b] s) (F0 m 18 ls []) := by
  have ⟨hx, hb, hml, hown, hT, hE, hA⟩ := C
  intro n
  induction n with
  | zero =>
    intro i3 H locs cells slots ls h0 h1 h2
    omega
  | succ n ih =>
    intro i3 H locs cells slots ls h0 h1 h2 hc hs hl hJ hS
    refine lv_iload_n hx hb dL_law_18 rfl (lv_at hl 0 rfl) ?_
    refine lv_aload_n hx hb dL_law_19 rfl (lv_at hl 3 rfl) ?_
    refine va_slen hx hb hX hbl hbA hS dL_law_20 ?_
    refine lv_bipush (v := 6) hx hb dL_law_21 (by decide) ?_
    refine lv_isub hx hb dL_law_23 ?_
    have eL := lp_i hL
    refine lv_icmp_gt (tgt := 1143) hx hb dL_law_24 (by decide) (fun c1 => ?_) (fun c1 => ?_)
    · refine lv_iconst (v := 1) hx hb dL_law_1143 (by decide) ?_
      refine va_forget (fun q hq => hAo _ (hS.2.2 q hq)) ?_
      refine W.widen (k := 600000) (n := 7302250) (by omega) (by omega) ?_
      exact lw_ret hx hb hr hlocks dL_law_1144
    · have h5 : i3.toInt + 5 < L := by
        have q := lin_gtN c1 rfl eL
        omega
      refine lp_round C hX hbl hbA hL h0 h5 hl hJ hS (by omega) (by omega) (fun H1 locs1 hJ1 hS1 => ?_)
      obtain ⟨v, ev⟩ : ∃ z : Int32, z = i3 + 6 := ⟨_, rfl⟩
      have e6 := lp_6 h0 h1 ev
      refine lv_iinc (v := v) (lv' := [(3, .int v), (2, .ref am), (1, .ref ax), (0, .ref b)]) hx hb dL_law_1137 hl (k := 0) rfl (by rw [ev]; rfl) (by decide) rfl (fun ls hl => ?_)
      refine lv_goto (tgt := 18) hx hb dL_law_1140 (by decide) ?_
      exact ih v H1 locs1 (cells + 12) (slots + 454) ls (by omega) (by omega) (by omega) (by omega) (by omega) hl hJ1 hS1
