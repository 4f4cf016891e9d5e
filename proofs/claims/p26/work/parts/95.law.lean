-- ===== class and reference beside each other =====
/-- x, and the images' x, alike -/
def LK (g : GH) (x : Int32) (md ix : Nat → Int32) : Prop := g.2.1 = x ∧ ∀ k : Nat, k < 4 → ((md k).toInt = 0 ∧ g.2.2.2 k = none) ∨ ((md k).toInt ≠ 0 ∧ g.2.2.2 k = some (ix k))
/-- between two rounds of the law -/
def LI (D : va_G) (cs : Nat → ClassId) (A : Nat → Prop) (ax am : Nat) (H : Heap) : Prop := ∃ (g : GH) (τ : Nat → Nat) (x : Int32) (md ix : Nat → Int32), HT D cs g τ H ∧ τ ax = 1 ∧ (∀ q, τ q ≠ 0 → A q) ∧ XU τ ∧ MH D cs A τ am x md ix H ∧ LK g x md ix
theorem lk_same {g g' : GH} {x x' : Int32} {md md' ix ix' : Nat → Int32} (h : LK g x md ix) (h1 : g'.2.1 = g.2.1 ∧ g'.2.2.2 = g.2.2.2) (h2 : x' = x ∧ md' = md ∧ ix' = ix) : LK g' x' md' ix' := by
  obtain ⟨rfl, rfl, rfl⟩ := h2
  unfold LK
  rw [h1.1, h1.2]
  exact h
theorem lk_seed {g g' : GH} {x x' p0 r r2 : Int32} {md md' ix ix' : Nat → Int32} (h : LK g x md ix) (h1 : ((p0.toInt < 0 ∧ r = -1 ∧ g'.2.1 = g.2.1) ∨ (0 ≤ p0.toInt ∧ r = g.2.1 ∧ g'.2.1 = p0)) ∧ g'.2.2.2 = g.2.2.2) (h2 : ((p0.toInt < 0 ∧ r2 = -1 ∧ x' = x) ∨ (0 ≤ p0.toInt ∧ r2 = x ∧ x' = p0)) ∧ md' = md ∧ ix' = ix) : r = r2 ∧ LK g' x' md' ix' := by
  obtain ⟨h2, rfl, rfl⟩ := h2
  obtain ⟨h1, e1⟩ := h1
  unfold LK
  rw [e1]
  rcases h1 with ⟨a1, a2, a3⟩ | ⟨a1, a2, a3⟩ <;> rcases h2 with ⟨b1, b2, b3⟩ | ⟨b1, b2, b3⟩
  · exact ⟨by rw [a2, b2], by rw [a3, b3]; exact h.1, h.2⟩
  · omega
  · omega
  · exact ⟨by rw [a2, b2]; exact h.1, by rw [a3, b3], h.2⟩
theorem lk_image {g g' : GH} {x x' p0 : Int32} {md md' ix ix' : Nat → Int32} (h : LK g x md ix) (h1 : g'.2.1 = g.2.1 ∧ (((p0.toInt < 0 ∨ 3 < p0.toInt) ∧ g'.2.2.2 = g.2.2.2) ∨ (0 ≤ p0.toInt ∧ p0.toInt ≤ 3 ∧ ∀ j, g'.2.2.2 j = if j = p0.toInt.toNat then some g.2.1 else g.2.2.2 j))) (h2 : x' = x ∧ ((¬ (0 ≤ p0.toInt ∧ p0.toInt ≤ 3) ∧ md' = md ∧ ix' = ix) ∨ ((0 ≤ p0.toInt ∧ p0.toInt ≤ 3) ∧ md' = upd md (Int32.toNatClampNeg p0) (vp_nar .boolean 1) ∧ ix' = upd ix (Int32.toNatClampNeg p0) x))) : LK g' x' md' ix' := by
  obtain ⟨rfl, h2⟩ := h2
  obtain ⟨e1, h1⟩ := h1
  refine ⟨e1.trans h.1, ?_⟩
  rcases h1 with ⟨a1, a2⟩ | ⟨a1, a2, a3⟩ <;> rcases h2 with ⟨b1, rfl, rfl⟩ | ⟨b1, rfl, rfl⟩
  · rw [a2]; exact h.2
  · omega
  · omega
  · intro k hk
    have e : Int32.toNatClampNeg p0 = p0.toInt.toNat := rfl
    rw [a3 k, e]
    by_cases z : k = p0.toInt.toNat
    · rw [if_pos z, z, pk_us, pk_us, h.1]
      exact Or.inr ⟨by decide, rfl⟩
    · rw [if_neg z, pk_un z, pk_un z]
      exact h.2 k hk
theorem lk_back {g g' : GH} {x x' p0 : Int32} {md md' ix ix' : Nat → Int32} (h : LK g x md ix) (h1 : g'.2.2.2 = g.2.2.2 ∧ (((p0.toInt < 0 ∨ 3 < p0.toInt ∨ g.2.2.2 p0.toInt.toNat = none) ∧ g'.2.1 = g.2.1) ∨ (0 ≤ p0.toInt ∧ p0.toInt ≤ 3 ∧ g.2.2.2 p0.toInt.toNat = some g'.2.1))) (h2 : md' = md ∧ ix' = ix ∧ (((¬ (0 ≤ p0.toInt ∧ p0.toInt ≤ 3) ∨ (md (Int32.toNatClampNeg p0)).toInt = 0) ∧ x' = x) ∨ ((0 ≤ p0.toInt ∧ p0.toInt ≤ 3) ∧ (md (Int32.toNatClampNeg p0)).toInt ≠ 0 ∧ x' = ix (Int32.toNatClampNeg p0)))) : LK g' x' md' ix' := by
  obtain ⟨rfl, rfl, h2⟩ := h2
  obtain ⟨e1, h1⟩ := h1
  have e : Int32.toNatClampNeg p0 = p0.toInt.toNat := rfl
  rw [e] at h2
  refine ⟨?_, by rw [e1]; exact h.2⟩
  rcases h1 with ⟨a1, a2⟩ | ⟨a1, a2, a3⟩ <;> rcases h2 with ⟨b1, b2⟩ | ⟨b1, b2, b3⟩
  · rw [a2, b2]; exact h.1
  · have q := h.2 p0.toInt.toNat (by omega)
    rcases a1 with a1 | a1 | a1
    · omega
    · omega
    · rcases q with q | q
      · exact absurd q.1 b2
      · rw [a1] at q; exact absurd q.2 (by simp)
  · have q := h.2 p0.toInt.toNat (by omega)
    rcases b1 with b1 | b1
    · omega
    · rcases q with q | q
      · rw [a3] at q; exact absurd q.2 (by simp)
      · exact absurd b1 q.1
  · have q := h.2 p0.toInt.toNat (by omega)
    rcases q with q | q
    · exact absurd q.1 b2
    · rw [a3] at q
      rw [b3]
      exact Option.some.inj q.2
theorem lc_in {i : Int32} {L : Nat} (hL : L ≤ 3072) (h0 : 0 ≤ i.toInt) (h5 : i.toInt + 5 < L) {k : Int32} (hk : IV 0 5 k) : vp_in (i + k) L := by
  unfold IV at hk
  have e : (i + k).toInt = i.toInt + k.toInt := by rw [Int32.toInt_add]; exact iv_bm (by omega) (by omega)
  exact vp_in_iff.mpr ⟨by omega, by omega⟩
set_option maxHeartbeats 4000000 in
set_option maxRecDepth 100000 in
theorem lc_feed {p : Program} {l : Launch} {e : Env} {s : State} {m : MethodId} {below : List Frame} {meth : Method} {c : Code} {D : va_G} {cs : Nat → ClassId} {kK kV : Nat → Nat} {A : Nat → Prop} {b : Nat} (C : LC p s m c b D cs kK kV A) {L : Nat} {xs : Nat → Int32} (hX : va_X b L xs s s.heap) (hbl : b < s.heap.size) (hbA : ¬ A b) (hL : L ≤ 3072) {ax am : Nat} {i3 : Int32} (h0 : 0 ≤ i3.toInt) (h5 : i3.toInt + 5 < L) {H : Heap} {locs : List Loc} {cells slots : Nat} {Q : State → Prop} {ls : Array Slot} (hl : lv_has ls 4 [(3, .int i3), (2, .ref am), (1, .ref ax), (0, .ref b)]) (hJ : LI D cs A ax am H) (hS : va_S A s.heap H locs) (hc : cells + 12 ≤ 600000) (hs : slots + 454 ≤ 7302250) (kk : ∀ (H1 : Heap) (locs1 : List Loc), LI D cs A ax am H1 → va_S A s.heap H1 locs1 → W p l e room_1 s m #[Value.ref b] below meth c H1 locs1 (cells + 12) (slots + 454) Q (F0 m 1137 ls [])) : W p l e room_1 s m #[Value.ref b] below meth c H locs cells slots Q (F0 m 164 ls []) := by
  have ⟨hx, hb, hml, hown, hT, hE, hA⟩ := C
  obtain ⟨g, τ, x, md, ix, hI, ha, hAt, hU, hM, hlk⟩ := hJ
  refine lv_aload_n hx hb dL_law_164 rfl (lv_at hl 2 rfl) ?_
  refine lv_aload_n hx hb dL_law_165 rfl (lv_at hl 3 rfl) ?_
  refine lv_iload_n hx hb dL_law_166 rfl (lv_at hl 0 rfl) ?_
  refine lv_iconst (v := 1) hx hb dL_law_167 (by decide) ?_
  refine lv_iadd hx hb dL_law_168 ?_
  refine va_sld hx hb hX hbl hbA hS (lc_in hL h0 h5 (iv_c (by decide))) dL_law_169 ?_
  refine lv_topi (fun v1 ev1 => ?_)
  refine lv_aload_n hx hb dL_law_170 rfl (lv_at hl 3 rfl) ?_
  refine lv_iload_n hx hb dL_law_171 rfl (lv_at hl 0 rfl) ?_
  refine lv_iconst (v := 2) hx hb dL_law_172 (by decide) ?_
  refine lv_iadd hx hb dL_law_173 ?_
  refine va_sld hx hb hX hbl hbA hS (lc_in hL h0 h5 (iv_c (by decide))) dL_law_174 ?_
  refine lv_topi (fun v2 ev2 => ?_)
  refine lv_aload_n hx hb dL_law_175 rfl (lv_at hl 3 rfl) ?_
  refine lv_iload_n hx hb dL_law_176 rfl (lv_at hl 0 rfl) ?_
  refine lv_iconst (v := 3) hx hb dL_law_177 (by decide) ?_
  refine lv_iadd hx hb dL_law_178 ?_
  refine va_sld hx hb hX hbl hbA hS (lc_in hL h0 h5 (iv_c (by decide))) dL_law_179 ?_
  refine lv_topi (fun v3 ev3 => ?_)
  refine lv_aload_n hx hb dL_law_180 rfl (lv_at hl 3 rfl) ?_
  refine lv_iload_n hx hb dL_law_181 rfl (lv_at hl 0 rfl) ?_
  refine lv_iconst (v := 4) hx hb dL_law_182 (by decide) ?_
  refine lv_iadd hx hb dL_law_183 ?_
  refine va_sld hx hb hX hbl hbA hS (lc_in hL h0 h5 (iv_c (by decide))) dL_law_184 ?_
  refine lv_topi (fun v4 ev4 => ?_)
  refine lv_aload_n hx hb dL_law_185 rfl (lv_at hl 3 rfl) ?_
  refine lv_iload_n hx hb dL_law_186 rfl (lv_at hl 0 rfl) ?_
  refine lv_iconst (v := 5) hx hb dL_law_187 (by decide) ?_
  refine lv_iadd hx hb dL_law_188 ?_
  refine va_sld hx hb hX hbl hbA hS (lc_in hL h0 h5 (iv_c (by decide))) dL_law_189 ?_
  refine lv_topi (fun v5 ev5 => ?_)
  refine lx_feed C hl.1 v1 v2 v3 v4 v5 hI ha hAt hU hS (by omega) (by omega) (fun r1 g1 τ1 H1 locs1 hI1 ha1 hAt1 hU1 hR1 hK1 hS1 => ?_)
  have hM1 := hM.kept hK1
  refine lv_pop hx hb dL_law_193 rfl ?_
  refine lv_aload_n hx hb dL_law_194 rfl (lv_at hl 1 rfl) ?_
  refine lv_aload_n hx hb dL_law_195 rfl (lv_at hl 3 rfl) ?_
  refine lv_iload_n hx hb dL_law_196 rfl (lv_at hl 0 rfl) ?_
  refine lv_iconst (v := 1) hx hb dL_law_197 (by decide) ?_
  refine lv_iadd hx hb dL_law_198 ?_
  refine va_sld hx hb hX hbl hbA hS1 (lc_in hL h0 h5 (iv_c (by decide))) dL_law_199 ?_
  refine hz_ev v1 ev1.symm ?_
  refine lv_aload_n hx hb dL_law_200 rfl (lv_at hl 3 rfl) ?_
  refine lv_iload_n hx hb dL_law_201 rfl (lv_at hl 0 rfl) ?_
  refine lv_iconst (v := 2) hx hb dL_law_202 (by decide) ?_
  refine lv_iadd hx hb dL_law_203 ?_
  refine va_sld hx hb hX hbl hbA hS1 (lc_in hL h0 h5 (iv_c (by decide))) dL_law_204 ?_
  refine hz_ev v2 ev2.symm ?_
  refine lv_aload_n hx hb dL_law_205 rfl (lv_at hl 3 rfl) ?_
  refine lv_iload_n hx hb dL_law_206 rfl (lv_at hl 0 rfl) ?_
  refine lv_iconst (v := 3) hx hb dL_law_207 (by decide) ?_
  refine lv_iadd hx hb dL_law_208 ?_
  refine va_sld hx hb hX hbl hbA hS1 (lc_in hL h0 h5 (iv_c (by decide))) dL_law_209 ?_
  refine hz_ev v3 ev3.symm ?_
  refine lv_aload_n hx hb dL_law_210 rfl (lv_at hl 3 rfl) ?_
  refine lv_iload_n hx hb dL_law_211 rfl (lv_at hl 0 rfl) ?_
  refine lv_iconst (v := 4) hx hb dL_law_212 (by decide) ?_
  refine lv_iadd hx hb dL_law_213 ?_
  refine va_sld hx hb hX hbl hbA hS1 (lc_in hL h0 h5 (iv_c (by decide))) dL_law_214 ?_
  refine hz_ev v4 ev4.symm ?_
  refine lv_aload_n hx hb dL_law_215 rfl (lv_at hl 3 rfl) ?_
  refine lv_iload_n hx hb dL_law_216 rfl (lv_at hl 0 rfl) ?_
  refine lv_iconst (v := 5) hx hb dL_law_217 (by decide) ?_
  refine lv_iadd hx hb dL_law_218 ?_
  refine va_sld hx hb hX hbl hbA hS1 (lc_in hL h0 h5 (iv_c (by decide))) dL_law_219 ?_
  refine hz_ev v5 ev5.symm ?_
  refine mx_feed C hl.1 v1 v2 v3 v4 v5 [] (Nat.le_of_ble_eq_true rfl) hM1 hI1 hS1 (by omega) (by omega) (fun r2 x2 md2 ix2 H2 locs2 hM2 hI2 hR2 hS2 => ?_)
  refine lv_pop hx hb dL_law_223 rfl ?_
  refine lv_goto (tgt := 1137) hx hb dL_law_224 (by decide) ?_
  refine W.widen (k := cells + 12) (n := slots + 454) (by omega) (by omega) ?_
  exact kk H2 locs2 ⟨g1, τ1, x2, md2, ix2, hI2, ha1, hAt1, hU1, hM2, lk_same hlk hR1 hR2⟩ hS2
set_option maxHeartbeats 4000000 in
set_option maxRecDepth 100000 in
theorem lc_end {p : Program} {l : Launch} {e : Env} {s : State} {m : MethodId} {below : List Frame} {meth : Method} {c : Code} {D : va_G} {cs : Nat → ClassId} {kK kV : Nat → Nat} {A : Nat → Prop} {b : Nat} (C : LC p s m c b D cs kK kV A) {L : Nat} {xs : Nat → Int32} (hX : va_X b L xs s s.heap) (hbl : b < s.heap.size) (hbA : ¬ A b) (hL : L ≤ 3072) {ax am : Nat} {i3 : Int32} (h0 : 0 ≤ i3.toInt) (h5 : i3.toInt + 5 < L) {H : Heap} {locs : List Loc} {cells slots : Nat} {Q : State → Prop} {ls : Array Slot} (hl : lv_has ls 4 [(3, .int i3), (2, .ref am), (1, .ref ax), (0, .ref b)]) (hJ : LI D cs A ax am H) (hS : va_S A s.heap H locs) (hc : cells + 12 ≤ 600000) (hs : slots + 454 ≤ 7302250) (kk : ∀ (H1 : Heap) (locs1 : List Loc), LI D cs A ax am H1 → va_S A s.heap H1 locs1 → W p l e room_1 s m #[Value.ref b] below meth c H1 locs1 (cells + 12) (slots + 454) Q (F0 m 1137 ls [])) : W p l e room_1 s m #[Value.ref b] below meth c H locs cells slots Q (F0 m 227 ls []) := by
  have ⟨hx, hb, hml, hown, hT, hE, hA⟩ := C
  obtain ⟨g, τ, x, md, ix, hI, ha, hAt, hU, hM, hlk⟩ := hJ
  refine lv_aload_n hx hb dL_law_227 rfl (lv_at hl 2 rfl) ?_
  refine lv_aload_n hx hb dL_law_228 rfl (lv_at hl 3 rfl) ?_
  refine lv_iload_n hx hb dL_law_229 rfl (lv_at hl 0 rfl) ?_
  refine lv_iconst (v := 1) hx hb dL_law_230 (by decide) ?_
  refine lv_iadd hx hb dL_law_231 ?_
  refine va_sld hx hb hX hbl hbA hS (lc_in hL h0 h5 (iv_c (by decide))) dL_law_232 ?_
  refine lv_topi (fun v1 ev1 => ?_)
  refine lx_end C hl.1 v1 hI ha hAt hU hS (by omega) (by omega) (fun r1 g1 τ1 H1 locs1 hI1 ha1 hAt1 hU1 hR1 hK1 hS1 => ?_)
  have hM1 := hM.kept hK1
  refine lv_pop hx hb dL_law_236 rfl ?_
  refine lv_aload_n hx hb dL_law_237 rfl (lv_at hl 1 rfl) ?_
  refine lv_aload_n hx hb dL_law_238 rfl (lv_at hl 3 rfl) ?_
  refine lv_iload_n hx hb dL_law_239 rfl (lv_at hl 0 rfl) ?_
  refine lv_iconst (v := 1) hx hb dL_law_240 (by decide) ?_
  refine lv_iadd hx hb dL_law_241 ?_
  refine va_sld hx hb hX hbl hbA hS1 (lc_in hL h0 h5 (iv_c (by decide))) dL_law_242 ?_
  refine hz_ev v1 ev1.symm ?_
  refine mx_end C hl.1 v1 [] (Nat.le_of_ble_eq_true rfl) hM1 hI1 hS1 (by omega) (by omega) (fun r2 x2 md2 ix2 H2 locs2 hM2 hI2 hR2 hS2 => ?_)
  refine lv_pop hx hb dL_law_246 rfl ?_
  refine lv_goto (tgt := 1137) hx hb dL_law_247 (by decide) ?_
  refine W.widen (k := cells + 12) (n := slots + 454) (by omega) (by omega) ?_
  exact kk H2 locs2 ⟨g1, τ1, x2, md2, ix2, hI2, ha1, hAt1, hU1, hM2, lk_same hlk hR1 hR2⟩ hS2
set_option maxHeartbeats 4000000 in
set_option maxRecDepth 100000 in
theorem lc_fair {p : Program} {l : Launch} {e : Env} {s : State} {m : MethodId} {below : List Frame} {meth : Method} {c : Code} {D : va_G} {cs : Nat → ClassId} {kK kV : Nat → Nat} {A : Nat → Prop} {b : Nat} (C : LC p s m c b D cs kK kV A) {L : Nat} {xs : Nat → Int32} (hX : va_X b L xs s s.heap) (hbl : b < s.heap.size) (hbA : ¬ A b) (hL : L ≤ 3072) {ax am : Nat} {i3 : Int32} (h0 : 0 ≤ i3.toInt) (h5 : i3.toInt + 5 < L) {H : Heap} {locs : List Loc} {cells slots : Nat} {Q : State → Prop} {ls : Array Slot} (hl : lv_has ls 4 [(3, .int i3), (2, .ref am), (1, .ref ax), (0, .ref b)]) (hJ : LI D cs A ax am H) (hS : va_S A s.heap H locs) (hc : cells + 12 ≤ 600000) (hs : slots + 454 ≤ 7302250) (kk : ∀ (H1 : Heap) (locs1 : List Loc), LI D cs A ax am H1 → va_S A s.heap H1 locs1 → W p l e room_1 s m #[Value.ref b] below meth c H1 locs1 (cells + 12) (slots + 454) Q (F0 m 1137 ls [])) : W p l e room_1 s m #[Value.ref b] below meth c H locs cells slots Q (F0 m 250 ls []) := by
  have ⟨hx, hb, hml, hown, hT, hE, hA⟩ := C
  obtain ⟨g, τ, x, md, ix, hI, ha, hAt, hU, hM, hlk⟩ := hJ
  refine lv_aload_n hx hb dL_law_250 rfl (lv_at hl 2 rfl) ?_
  refine lx_fair C hl.1  hI ha hAt hU hS (by omega) (by omega) (fun r1 g1 τ1 H1 locs1 hI1 ha1 hAt1 hU1 hR1 hK1 hS1 => ?_)
  have hM1 := hM.kept hK1
  refine lv_pop hx hb dL_law_254 rfl ?_
  refine lv_aload_n hx hb dL_law_255 rfl (lv_at hl 1 rfl) ?_
  refine mx_fair C hl.1  [] (Nat.le_of_ble_eq_true rfl) hM1 hI1 hS1 (by omega) (by omega) (fun r2 x2 md2 ix2 H2 locs2 hM2 hI2 hR2 hS2 => ?_)
  refine lv_pop hx hb dL_law_259 rfl ?_
  refine lv_goto (tgt := 1137) hx hb dL_law_260 (by decide) ?_
  refine W.widen (k := cells + 12) (n := slots + 454) (by omega) (by omega) ?_
  exact kk H2 locs2 ⟨g1, τ1, x2, md2, ix2, hI2, ha1, hAt1, hU1, hM2, lk_same hlk hR1 hR2⟩ hS2
set_option maxHeartbeats 4000000 in
set_option maxRecDepth 100000 in
theorem lc_rule {p : Program} {l : Launch} {e : Env} {s : State} {m : MethodId} {below : List Frame} {meth : Method} {c : Code} {D : va_G} {cs : Nat → ClassId} {kK kV : Nat → Nat} {A : Nat → Prop} {b : Nat} (C : LC p s m c b D cs kK kV A) {L : Nat} {xs : Nat → Int32} (hX : va_X b L xs s s.heap) (hbl : b < s.heap.size) (hbA : ¬ A b) (hL : L ≤ 3072) {ax am : Nat} {i3 : Int32} (h0 : 0 ≤ i3.toInt) (h5 : i3.toInt + 5 < L) {H : Heap} {locs : List Loc} {cells slots : Nat} {Q : State → Prop} {ls : Array Slot} (hl : lv_has ls 4 [(3, .int i3), (2, .ref am), (1, .ref ax), (0, .ref b)]) (hJ : LI D cs A ax am H) (hS : va_S A s.heap H locs) (hc : cells + 12 ≤ 600000) (hs : slots + 454 ≤ 7302250) (kk : ∀ (H1 : Heap) (locs1 : List Loc), LI D cs A ax am H1 → va_S A s.heap H1 locs1 → W p l e room_1 s m #[Value.ref b] below meth c H1 locs1 (cells + 12) (slots + 454) Q (F0 m 1137 ls [])) : W p l e room_1 s m #[Value.ref b] below meth c H locs cells slots Q (F0 m 263 ls []) := by
  have ⟨hx, hb, hml, hown, hT, hE, hA⟩ := C
  obtain ⟨g, τ, x, md, ix, hI, ha, hAt, hU, hM, hlk⟩ := hJ
  refine lv_aload_n hx hb dL_law_263 rfl (lv_at hl 2 rfl) ?_
  refine lx_rule C hl.1  hI ha hAt hU hS (by omega) (by omega) (fun r1 g1 τ1 H1 locs1 hI1 ha1 hAt1 hU1 hR1 hK1 hS1 => ?_)
  have hM1 := hM.kept hK1
  refine lv_pop hx hb dL_law_267 rfl ?_
  refine lv_aload_n hx hb dL_law_268 rfl (lv_at hl 1 rfl) ?_
  refine mx_rule C hl.1  [] (Nat.le_of_ble_eq_true rfl) hM1 hI1 hS1 (by omega) (by omega) (fun r2 x2 md2 ix2 H2 locs2 hM2 hI2 hR2 hS2 => ?_)
  refine lv_pop hx hb dL_law_272 rfl ?_
  refine lv_goto (tgt := 1137) hx hb dL_law_273 (by decide) ?_
  refine W.widen (k := cells + 12) (n := slots + 454) (by omega) (by omega) ?_
  exact kk H2 locs2 ⟨g1, τ1, x2, md2, ix2, hI2, ha1, hAt1, hU1, hM2, lk_same hlk hR1 hR2⟩ hS2
set_option maxHeartbeats 4000000 in
set_option maxRecDepth 100000 in
theorem lc_half {p : Program} {l : Launch} {e : Env} {s : State} {m : MethodId} {below : List Frame} {meth : Method} {c : Code} {D : va_G} {cs : Nat → ClassId} {kK kV : Nat → Nat} {A : Nat → Prop} {b : Nat} (C : LC p s m c b D cs kK kV A) {L : Nat} {xs : Nat → Int32} (hX : va_X b L xs s s.heap) (hbl : b < s.heap.size) (hbA : ¬ A b) (hL : L ≤ 3072) {ax am : Nat} {i3 : Int32} (h0 : 0 ≤ i3.toInt) (h5 : i3.toInt + 5 < L) {H : Heap} {locs : List Loc} {cells slots : Nat} {Q : State → Prop} {ls : Array Slot} (hl : lv_has ls 4 [(3, .int i3), (2, .ref am), (1, .ref ax), (0, .ref b)]) (hJ : LI D cs A ax am H) (hS : va_S A s.heap H locs) (hc : cells + 12 ≤ 600000) (hs : slots + 454 ≤ 7302250) (kk : ∀ (H1 : Heap) (locs1 : List Loc), LI D cs A ax am H1 → va_S A s.heap H1 locs1 → W p l e room_1 s m #[Value.ref b] below meth c H1 locs1 (cells + 12) (slots + 454) Q (F0 m 1137 ls [])) : W p l e room_1 s m #[Value.ref b] below meth c H locs cells slots Q (F0 m 276 ls []) := by
  have ⟨hx, hb, hml, hown, hT, hE, hA⟩ := C
  obtain ⟨g, τ, x, md, ix, hI, ha, hAt, hU, hM, hlk⟩ := hJ
  refine lv_aload_n hx hb dL_law_276 rfl (lv_at hl 2 rfl) ?_
  refine lv_aload_n hx hb dL_law_277 rfl (lv_at hl 3 rfl) ?_
  refine lv_iload_n hx hb dL_law_278 rfl (lv_at hl 0 rfl) ?_
  refine lv_iconst (v := 1) hx hb dL_law_279 (by decide) ?_
  refine lv_iadd hx hb dL_law_280 ?_
  refine va_sld hx hb hX hbl hbA hS (lc_in hL h0 h5 (iv_c (by decide))) dL_law_281 ?_
  refine lv_topi (fun v1 ev1 => ?_)
  refine lv_aload_n hx hb dL_law_282 rfl (lv_at hl 3 rfl) ?_
  refine lv_iload_n hx hb dL_law_283 rfl (lv_at hl 0 rfl) ?_
  refine lv_iconst (v := 2) hx hb dL_law_284 (by decide) ?_
  refine lv_iadd hx hb dL_law_285 ?_
  refine va_sld hx hb hX hbl hbA hS (lc_in hL h0 h5 (iv_c (by decide))) dL_law_286 ?_
  refine lv_topi (fun v2 ev2 => ?_)
  refine lx_half C hl.1 v1 v2 hI ha hAt hU hS (by omega) (by omega) (fun r1 g1 τ1 H1 locs1 hI1 ha1 hAt1 hU1 hR1 hK1 hS1 => ?_)
  have hM1 := hM.kept hK1
  refine lv_pop hx hb dL_law_290 rfl ?_
  refine lv_aload_n hx hb dL_law_291 rfl (lv_at hl 1 rfl) ?_
  refine lv_aload_n hx hb dL_law_292 rfl (lv_at hl 3 rfl) ?_
  refine lv_iload_n hx hb dL_law_293 rfl (lv_at hl 0 rfl) ?_
  refine lv_iconst (v := 1) hx hb dL_law_294 (by decide) ?_
  refine lv_iadd hx hb dL_law_295 ?_
  refine va_sld hx hb hX hbl hbA hS1 (lc_in hL h0 h5 (iv_c (by decide))) dL_law_296 ?_
  refine hz_ev v1 ev1.symm ?_
  refine lv_aload_n hx hb dL_law_297 rfl (lv_at hl 3 rfl) ?_
  refine lv_iload_n hx hb dL_law_298 rfl (lv_at hl 0 rfl) ?_
  refine lv_iconst (v := 2) hx hb dL_law_299 (by decide) ?_
  refine lv_iadd hx hb dL_law_300 ?_
  refine va_sld hx hb hX hbl hbA hS1 (lc_in hL h0 h5 (iv_c (by decide))) dL_law_301 ?_
  refine hz_ev v2 ev2.symm ?_
  refine mx_half C hl.1 v1 v2 [] (Nat.le_of_ble_eq_true rfl) hM1 hI1 hS1 (by omega) (by omega) (fun r2 x2 md2 ix2 H2 locs2 hM2 hI2 hR2 hS2 => ?_)
  refine lv_pop hx hb dL_law_305 rfl ?_
  refine lv_goto (tgt := 1137) hx hb dL_law_306 (by decide) ?_
  refine W.widen (k := cells + 12) (n := slots + 454) (by omega) (by omega) ?_
  exact kk H2 locs2 ⟨g1, τ1, x2, md2, ix2, hI2, ha1, hAt1, hU1, hM2, lk_same hlk hR1 hR2⟩ hS2
set_option maxHeartbeats 4000000 in
set_option maxRecDepth 100000 in
theorem lc_fit {p : Program} {l : Launch} {e : Env} {s : State} {m : MethodId} {below : List Frame} {meth : Method} {c : Code} {D : va_G} {cs : Nat → ClassId} {kK kV : Nat → Nat} {A : Nat → Prop} {b : Nat} (C : LC p s m c b D cs kK kV A) {L : Nat} {xs : Nat → Int32} (hX : va_X b L xs s s.heap) (hbl : b < s.heap.size) (hbA : ¬ A b) (hL : L ≤ 3072) {ax am : Nat} {i3 : Int32} (h0 : 0 ≤ i3.toInt) (h5 : i3.toInt + 5 < L) {H : Heap} {locs : List Loc} {cells slots : Nat} {Q : State → Prop} {ls : Array Slot} (hl : lv_has ls 4 [(3, .int i3), (2, .ref am), (1, .ref ax), (0, .ref b)]) (hJ : LI D cs A ax am H) (hS : va_S A s.heap H locs) (hc : cells + 12 ≤ 600000) (hs : slots + 454 ≤ 7302250) (kk : ∀ (H1 : Heap) (locs1 : List Loc), LI D cs A ax am H1 → va_S A s.heap H1 locs1 → W p l e room_1 s m #[Value.ref b] below meth c H1 locs1 (cells + 12) (slots + 454) Q (F0 m 1137 ls [])) : W p l e room_1 s m #[Value.ref b] below meth c H locs cells slots Q (F0 m 309 ls []) := by
  have ⟨hx, hb, hml, hown, hT, hE, hA⟩ := C
  obtain ⟨g, τ, x, md, ix, hI, ha, hAt, hU, hM, hlk⟩ := hJ
  refine lv_aload_n hx hb dL_law_309 rfl (lv_at hl 2 rfl) ?_
  refine lv_aload_n hx hb dL_law_310 rfl (lv_at hl 3 rfl) ?_
  refine lv_iload_n hx hb dL_law_311 rfl (lv_at hl 0 rfl) ?_
  refine lv_iconst (v := 1) hx hb dL_law_312 (by decide) ?_
  refine lv_iadd hx hb dL_law_313 ?_
  refine va_sld hx hb hX hbl hbA hS (lc_in hL h0 h5 (iv_c (by decide))) dL_law_314 ?_
  refine lv_topi (fun v1 ev1 => ?_)
  refine lv_aload_n hx hb dL_law_315 rfl (lv_at hl 3 rfl) ?_
  refine lv_iload_n hx hb dL_law_316 rfl (lv_at hl 0 rfl) ?_
  refine lv_iconst (v := 2) hx hb dL_law_317 (by decide) ?_
  refine lv_iadd hx hb dL_law_318 ?_
  refine va_sld hx hb hX hbl hbA hS (lc_in hL h0 h5 (iv_c (by decide))) dL_law_319 ?_
  refine lv_topi (fun v2 ev2 => ?_)
  refine lx_fit C hl.1 v1 v2 hI ha hAt hU hS (by omega) (by omega) (fun r1 g1 τ1 H1 locs1 hI1 ha1 hAt1 hU1 hR1 hK1 hS1 => ?_)
  have hM1 := hM.kept hK1
  refine lv_pop hx hb dL_law_323 rfl ?_
  refine lv_aload_n hx hb dL_law_324 rfl (lv_at hl 1 rfl) ?_
  refine lv_aload_n hx hb dL_law_325 rfl (lv_at hl 3 rfl) ?_
  refine lv_iload_n hx hb dL_law_326 rfl (lv_at hl 0 rfl) ?_
  refine lv_iconst (v := 1) hx hb dL_law_327 (by decide) ?_
  refine lv_iadd hx hb dL_law_328 ?_
  refine va_sld hx hb hX hbl hbA hS1 (lc_in hL h0 h5 (iv_c (by decide))) dL_law_329 ?_
  refine hz_ev v1 ev1.symm ?_
  refine lv_aload_n hx hb dL_law_330 rfl (lv_at hl 3 rfl) ?_
  refine lv_iload_n hx hb dL_law_331 rfl (lv_at hl 0 rfl) ?_
  refine lv_iconst (v := 2) hx hb dL_law_332 (by decide) ?_
  refine lv_iadd hx hb dL_law_333 ?_
  refine va_sld hx hb hX hbl hbA hS1 (lc_in hL h0 h5 (iv_c (by decide))) dL_law_334 ?_
  refine hz_ev v2 ev2.symm ?_
  refine mx_fit C hl.1 v1 v2 [] (Nat.le_of_ble_eq_true rfl) hM1 hI1 hS1 (by omega) (by omega) (fun r2 x2 md2 ix2 H2 locs2 hM2 hI2 hR2 hS2 => ?_)
  refine lv_pop hx hb dL_law_338 rfl ?_
  refine lv_goto (tgt := 1137) hx hb dL_law_339 (by decide) ?_
  refine W.widen (k := cells + 12) (n := slots + 454) (by omega) (by omega) ?_
  exact kk H2 locs2 ⟨g1, τ1, x2, md2, ix2, hI2, ha1, hAt1, hU1, hM2, lk_same hlk hR1 hR2⟩ hS2
set_option maxHeartbeats 4000000 in
set_option maxRecDepth 100000 in
theorem lc_buyer {p : Program} {l : Launch} {e : Env} {s : State} {m : MethodId} {below : List Frame} {meth : Method} {c : Code} {D : va_G} {cs : Nat → ClassId} {kK kV : Nat → Nat} {A : Nat → Prop} {b : Nat} (C : LC p s m c b D cs kK kV A) {L : Nat} {xs : Nat → Int32} (hX : va_X b L xs s s.heap) (hbl : b < s.heap.size) (hbA : ¬ A b) (hL : L ≤ 3072) {ax am : Nat} {i3 : Int32} (h0 : 0 ≤ i3.toInt) (h5 : i3.toInt + 5 < L) {H : Heap} {locs : List Loc} {cells slots : Nat} {Q : State → Prop} {ls : Array Slot} (hl : lv_has ls 4 [(3, .int i3), (2, .ref am), (1, .ref ax), (0, .ref b)]) (hJ : LI D cs A ax am H) (hS : va_S A s.heap H locs) (hc : cells + 12 ≤ 600000) (hs : slots + 454 ≤ 7302250) (kk : ∀ (H1 : Heap) (locs1 : List Loc), LI D cs A ax am H1 → va_S A s.heap H1 locs1 → W p l e room_1 s m #[Value.ref b] below meth c H1 locs1 (cells + 12) (slots + 454) Q (F0 m 1137 ls [])) : W p l e room_1 s m #[Value.ref b] below meth c H locs cells slots Q (F0 m 342 ls []) := by
  have ⟨hx, hb, hml, hown, hT, hE, hA⟩ := C
  obtain ⟨g, τ, x, md, ix, hI, ha, hAt, hU, hM, hlk⟩ := hJ
  refine lv_aload_n hx hb dL_law_342 rfl (lv_at hl 2 rfl) ?_
  refine lv_aload_n hx hb dL_law_343 rfl (lv_at hl 3 rfl) ?_
  refine lv_iload_n hx hb dL_law_344 rfl (lv_at hl 0 rfl) ?_
  refine lv_iconst (v := 1) hx hb dL_law_345 (by decide) ?_
  refine lv_iadd hx hb dL_law_346 ?_
  refine va_sld hx hb hX hbl hbA hS (lc_in hL h0 h5 (iv_c (by decide))) dL_law_347 ?_
  refine lv_topi (fun v1 ev1 => ?_)
  refine lv_aload_n hx hb dL_law_348 rfl (lv_at hl 3 rfl) ?_
  refine lv_iload_n hx hb dL_law_349 rfl (lv_at hl 0 rfl) ?_
  refine lv_iconst (v := 2) hx hb dL_law_350 (by decide) ?_
  refine lv_iadd hx hb dL_law_351 ?_
  refine va_sld hx hb hX hbl hbA hS (lc_in hL h0 h5 (iv_c (by decide))) dL_law_352 ?_
  refine lv_topi (fun v2 ev2 => ?_)
  refine lx_buyer C hl.1 v1 v2 hI ha hAt hU hS (by omega) (by omega) (fun r1 g1 τ1 H1 locs1 hI1 ha1 hAt1 hU1 hR1 hK1 hS1 => ?_)
  have hM1 := hM.kept hK1
  refine lv_pop hx hb dL_law_356 rfl ?_
  refine lv_aload_n hx hb dL_law_357 rfl (lv_at hl 1 rfl) ?_
  refine lv_aload_n hx hb dL_law_358 rfl (lv_at hl 3 rfl) ?_
  refine lv_iload_n hx hb dL_law_359 rfl (lv_at hl 0 rfl) ?_
  refine lv_iconst (v := 1) hx hb dL_law_360 (by decide) ?_
  refine lv_iadd hx hb dL_law_361 ?_
  refine va_sld hx hb hX hbl hbA hS1 (lc_in hL h0 h5 (iv_c (by decide))) dL_law_362 ?_
  refine hz_ev v1 ev1.symm ?_
  refine lv_aload_n hx hb dL_law_363 rfl (lv_at hl 3 rfl) ?_
  refine lv_iload_n hx hb dL_law_364 rfl (lv_at hl 0 rfl) ?_
  refine lv_iconst (v := 2) hx hb dL_law_365 (by decide) ?_
  refine lv_iadd hx hb dL_law_366 ?_
  refine va_sld hx hb hX hbl hbA hS1 (lc_in hL h0 h5 (iv_c (by decide))) dL_law_367 ?_
  refine hz_ev v2 ev2.symm ?_
  refine mx_buyer C hl.1 v1 v2 [] (Nat.le_of_ble_eq_true rfl) hM1 hI1 hS1 (by omega) (by omega) (fun r2 x2 md2 ix2 H2 locs2 hM2 hI2 hR2 hS2 => ?_)
  refine lv_pop hx hb dL_law_371 rfl ?_
  refine lv_goto (tgt := 1137) hx hb dL_law_372 (by decide) ?_
  refine W.widen (k := cells + 12) (n := slots + 454) (by omega) (by omega) ?_
  exact kk H2 locs2 ⟨g1, τ1, x2, md2, ix2, hI2, ha1, hAt1, hU1, hM2, lk_same hlk hR1 hR2⟩ hS2
set_option maxHeartbeats 4000000 in
set_option maxRecDepth 100000 in
theorem lc_spot {p : Program} {l : Launch} {e : Env} {s : State} {m : MethodId} {below : List Frame} {meth : Method} {c : Code} {D : va_G} {cs : Nat → ClassId} {kK kV : Nat → Nat} {A : Nat → Prop} {b : Nat} (C : LC p s m c b D cs kK kV A) {L : Nat} {xs : Nat → Int32} (hX : va_X b L xs s s.heap) (hbl : b < s.heap.size) (hbA : ¬ A b) (hL : L ≤ 3072) {ax am : Nat} {i3 : Int32} (h0 : 0 ≤ i3.toInt) (h5 : i3.toInt + 5 < L) {H : Heap} {locs : List Loc} {cells slots : Nat} {Q : State → Prop} {ls : Array Slot} (hl : lv_has ls 4 [(3, .int i3), (2, .ref am), (1, .ref ax), (0, .ref b)]) (hJ : LI D cs A ax am H) (hS : va_S A s.heap H locs) (hc : cells + 12 ≤ 600000) (hs : slots + 454 ≤ 7302250) (kk : ∀ (H1 : Heap) (locs1 : List Loc), LI D cs A ax am H1 → va_S A s.heap H1 locs1 → W p l e room_1 s m #[Value.ref b] below meth c H1 locs1 (cells + 12) (slots + 454) Q (F0 m 1137 ls [])) : W p l e room_1 s m #[Value.ref b] below meth c H locs cells slots Q (F0 m 375 ls []) := by
  have ⟨hx, hb, hml, hown, hT, hE, hA⟩ := C
  obtain ⟨g, τ, x, md, ix, hI, ha, hAt, hU, hM, hlk⟩ := hJ
  refine lv_aload_n hx hb dL_law_375 rfl (lv_at hl 2 rfl) ?_
  refine lv_aload_n hx hb dL_law_376 rfl (lv_at hl 3 rfl) ?_
  refine lv_iload_n hx hb dL_law_377 rfl (lv_at hl 0 rfl) ?_
  refine lv_iconst (v := 1) hx hb dL_law_378 (by decide) ?_
  refine lv_iadd hx hb dL_law_379 ?_
  refine va_sld hx hb hX hbl hbA hS (lc_in hL h0 h5 (iv_c (by decide))) dL_law_380 ?_
  refine lv_topi (fun v1 ev1 => ?_)
  refine lv_aload_n hx hb dL_law_381 rfl (lv_at hl 3 rfl) ?_
  refine lv_iload_n hx hb dL_law_382 rfl (lv_at hl 0 rfl) ?_
  refine lv_iconst (v := 2) hx hb dL_law_383 (by decide) ?_
  refine lv_iadd hx hb dL_law_384 ?_
  refine va_sld hx hb hX hbl hbA hS (lc_in hL h0 h5 (iv_c (by decide))) dL_law_385 ?_
  refine lv_topi (fun v2 ev2 => ?_)
  refine lx_spot C hl.1 v1 v2 hI ha hAt hU hS (by omega) (by omega) (fun r1 g1 τ1 H1 locs1 hI1 ha1 hAt1 hU1 hR1 hK1 hS1 => ?_)
  have hM1 := hM.kept hK1
  refine lv_pop hx hb dL_law_389 rfl ?_
  refine lv_aload_n hx hb dL_law_390 rfl (lv_at hl 1 rfl) ?_
  refine lv_aload_n hx hb dL_law_391 rfl (lv_at hl 3 rfl) ?_
  refine lv_iload_n hx hb dL_law_392 rfl (lv_at hl 0 rfl) ?_
  refine lv_iconst (v := 1) hx hb dL_law_393 (by decide) ?_
  refine lv_iadd hx hb dL_law_394 ?_
  refine va_sld hx hb hX hbl hbA hS1 (lc_in hL h0 h5 (iv_c (by decide))) dL_law_395 ?_
  refine hz_ev v1 ev1.symm ?_
  refine lv_aload_n hx hb dL_law_396 rfl (lv_at hl 3 rfl) ?_
  refine lv_iload_n hx hb dL_law_397 rfl (lv_at hl 0 rfl) ?_
  refine lv_iconst (v := 2) hx hb dL_law_398 (by decide) ?_
  refine lv_iadd hx hb dL_law_399 ?_
  refine va_sld hx hb hX hbl hbA hS1 (lc_in hL h0 h5 (iv_c (by decide))) dL_law_400 ?_
  refine hz_ev v2 ev2.symm ?_
  refine mx_spot C hl.1 v1 v2 [] (Nat.le_of_ble_eq_true rfl) hM1 hI1 hS1 (by omega) (by omega) (fun r2 x2 md2 ix2 H2 locs2 hM2 hI2 hR2 hS2 => ?_)
  refine lv_pop hx hb dL_law_404 rfl ?_
  refine lv_goto (tgt := 1137) hx hb dL_law_405 (by decide) ?_
  refine W.widen (k := cells + 12) (n := slots + 454) (by omega) (by omega) ?_
  exact kk H2 locs2 ⟨g1, τ1, x2, md2, ix2, hI2, ha1, hAt1, hU1, hM2, lk_same hlk hR1 hR2⟩ hS2
set_option maxHeartbeats 4000000 in
set_option maxRecDepth 100000 in
theorem lc_go {p : Program} {l : Launch} {e : Env} {s : State} {m : MethodId} {below : List Frame} {meth : Method} {c : Code} {D : va_G} {cs : Nat → ClassId} {kK kV : Nat → Nat} {A : Nat → Prop} {b : Nat} (C : LC p s m c b D cs kK kV A) {L : Nat} {xs : Nat → Int32} (hX : va_X b L xs s s.heap) (hbl : b < s.heap.size) (hbA : ¬ A b) (hL : L ≤ 3072) {ax am : Nat} {i3 : Int32} (h0 : 0 ≤ i3.toInt) (h5 : i3.toInt + 5 < L) {H : Heap} {locs : List Loc} {cells slots : Nat} {Q : State → Prop} {ls : Array Slot} (hl : lv_has ls 4 [(3, .int i3), (2, .ref am), (1, .ref ax), (0, .ref b)]) (hJ : LI D cs A ax am H) (hS : va_S A s.heap H locs) (hc : cells + 12 ≤ 600000) (hs : slots + 454 ≤ 7302250) (kk : ∀ (H1 : Heap) (locs1 : List Loc), LI D cs A ax am H1 → va_S A s.heap H1 locs1 → W p l e room_1 s m #[Value.ref b] below meth c H1 locs1 (cells + 12) (slots + 454) Q (F0 m 1137 ls [])) : W p l e room_1 s m #[Value.ref b] below meth c H locs cells slots Q (F0 m 408 ls []) := by
  have ⟨hx, hb, hml, hown, hT, hE, hA⟩ := C
  obtain ⟨g, τ, x, md, ix, hI, ha, hAt, hU, hM, hlk⟩ := hJ
  refine lv_aload_n hx hb dL_law_408 rfl (lv_at hl 2 rfl) ?_
  refine lv_aload_n hx hb dL_law_409 rfl (lv_at hl 3 rfl) ?_
  refine lv_iload_n hx hb dL_law_410 rfl (lv_at hl 0 rfl) ?_
  refine lv_iconst (v := 1) hx hb dL_law_411 (by decide) ?_
  refine lv_iadd hx hb dL_law_412 ?_
  refine va_sld hx hb hX hbl hbA hS (lc_in hL h0 h5 (iv_c (by decide))) dL_law_413 ?_
  refine lv_topi (fun v1 ev1 => ?_)
  refine lv_aload_n hx hb dL_law_414 rfl (lv_at hl 3 rfl) ?_
  refine lv_iload_n hx hb dL_law_415 rfl (lv_at hl 0 rfl) ?_
  refine lv_iconst (v := 2) hx hb dL_law_416 (by decide) ?_
  refine lv_iadd hx hb dL_law_417 ?_
  refine va_sld hx hb hX hbl hbA hS (lc_in hL h0 h5 (iv_c (by decide))) dL_law_418 ?_
  refine lv_topi (fun v2 ev2 => ?_)
  refine lx_go C hl.1 v1 v2 hI ha hAt hU hS (by omega) (by omega) (fun r1 g1 τ1 H1 locs1 hI1 ha1 hAt1 hU1 hR1 hK1 hS1 => ?_)
  have hM1 := hM.kept hK1
  refine lv_pop hx hb dL_law_422 rfl ?_
  refine lv_aload_n hx hb dL_law_423 rfl (lv_at hl 1 rfl) ?_
  refine lv_aload_n hx hb dL_law_424 rfl (lv_at hl 3 rfl) ?_
  refine lv_iload_n hx hb dL_law_425 rfl (lv_at hl 0 rfl) ?_
  refine lv_iconst (v := 1) hx hb dL_law_426 (by decide) ?_
  refine lv_iadd hx hb dL_law_427 ?_
  refine va_sld hx hb hX hbl hbA hS1 (lc_in hL h0 h5 (iv_c (by decide))) dL_law_428 ?_
  refine hz_ev v1 ev1.symm ?_
  refine lv_aload_n hx hb dL_law_429 rfl (lv_at hl 3 rfl) ?_
  refine lv_iload_n hx hb dL_law_430 rfl (lv_at hl 0 rfl) ?_
  refine lv_iconst (v := 2) hx hb dL_law_431 (by decide) ?_
  refine lv_iadd hx hb dL_law_432 ?_
  refine va_sld hx hb hX hbl hbA hS1 (lc_in hL h0 h5 (iv_c (by decide))) dL_law_433 ?_
  refine hz_ev v2 ev2.symm ?_
  refine mx_go C hl.1 v1 v2 [] (Nat.le_of_ble_eq_true rfl) hM1 hI1 hS1 (by omega) (by omega) (fun r2 x2 md2 ix2 H2 locs2 hM2 hI2 hR2 hS2 => ?_)
  refine lv_pop hx hb dL_law_437 rfl ?_
  refine lv_goto (tgt := 1137) hx hb dL_law_438 (by decide) ?_
  refine W.widen (k := cells + 12) (n := slots + 454) (by omega) (by omega) ?_
  exact kk H2 locs2 ⟨g1, τ1, x2, md2, ix2, hI2, ha1, hAt1, hU1, hM2, lk_same hlk hR1 hR2⟩ hS2
set_option maxHeartbeats 4000000 in
set_option maxRecDepth 100000 in
theorem lc_buy {p : Program} {l : Launch} {e : Env} {s : State} {m : MethodId} {below : List Frame} {meth : Method} {c : Code} {D : va_G} {cs : Nat → ClassId} {kK kV : Nat → Nat} {A : Nat → Prop} {b : Nat} (C : LC p s m c b D cs kK kV A) {L : Nat} {xs : Nat → Int32} (hX : va_X b L xs s s.heap) (hbl : b < s.heap.size) (hbA : ¬ A b) (hL : L ≤ 3072) {ax am : Nat} {i3 : Int32} (h0 : 0 ≤ i3.toInt) (h5 : i3.toInt + 5 < L) {H : Heap} {locs : List Loc} {cells slots : Nat} {Q : State → Prop} {ls : Array Slot} (hl : lv_has ls 4 [(3, .int i3), (2, .ref am), (1, .ref ax), (0, .ref b)]) (hJ : LI D cs A ax am H) (hS : va_S A s.heap H locs) (hc : cells + 12 ≤ 600000) (hs : slots + 454 ≤ 7302250) (kk : ∀ (H1 : Heap) (locs1 : List Loc), LI D cs A ax am H1 → va_S A s.heap H1 locs1 → W p l e room_1 s m #[Value.ref b] below meth c H1 locs1 (cells + 12) (slots + 454) Q (F0 m 1137 ls [])) : W p l e room_1 s m #[Value.ref b] below meth c H locs cells slots Q (F0 m 441 ls []) := by
  have ⟨hx, hb, hml, hown, hT, hE, hA⟩ := C
  obtain ⟨g, τ, x, md, ix, hI, ha, hAt, hU, hM, hlk⟩ := hJ
  refine lv_aload_n hx hb dL_law_441 rfl (lv_at hl 2 rfl) ?_
  refine lv_aload_n hx hb dL_law_442 rfl (lv_at hl 3 rfl) ?_
  refine lv_iload_n hx hb dL_law_443 rfl (lv_at hl 0 rfl) ?_
  refine lv_iconst (v := 1) hx hb dL_law_444 (by decide) ?_
  refine lv_iadd hx hb dL_law_445 ?_
  refine va_sld hx hb hX hbl hbA hS (lc_in hL h0 h5 (iv_c (by decide))) dL_law_446 ?_
  refine lv_topi (fun v1 ev1 => ?_)
  refine lv_aload_n hx hb dL_law_447 rfl (lv_at hl 3 rfl) ?_
  refine lv_iload_n hx hb dL_law_448 rfl (lv_at hl 0 rfl) ?_
  refine lv_iconst (v := 2) hx hb dL_law_449 (by decide) ?_
  refine lv_iadd hx hb dL_law_450 ?_
  refine va_sld hx hb hX hbl hbA hS (lc_in hL h0 h5 (iv_c (by decide))) dL_law_451 ?_
  refine lv_topi (fun v2 ev2 => ?_)
  refine lx_buy C hl.1 v1 v2 hI ha hAt hU hS (by omega) (by omega) (fun r1 g1 τ1 H1 locs1 hI1 ha1 hAt1 hU1 hR1 hK1 hS1 => ?_)
  have hM1 := hM.kept hK1
  refine lv_pop hx hb dL_law_455 rfl ?_
  refine lv_aload_n hx hb dL_law_456 rfl (lv_at hl 1 rfl) ?_
  refine lv_aload_n hx hb dL_law_457 rfl (lv_at hl 3 rfl) ?_
  refine lv_iload_n hx hb dL_law_458 rfl (lv_at hl 0 rfl) ?_
  refine lv_iconst (v := 1) hx hb dL_law_459 (by decide) ?_
  refine lv_iadd hx hb dL_law_460 ?_
  refine va_sld hx hb hX hbl hbA hS1 (lc_in hL h0 h5 (iv_c (by decide))) dL_law_461 ?_
  refine hz_ev v1 ev1.symm ?_
  refine lv_aload_n hx hb dL_law_462 rfl (lv_at hl 3 rfl) ?_
  refine lv_iload_n hx hb dL_law_463 rfl (lv_at hl 0 rfl) ?_
  refine lv_iconst (v := 2) hx hb dL_law_464 (by decide) ?_
  refine lv_iadd hx hb dL_law_465 ?_
  refine va_sld hx hb hX hbl hbA hS1 (lc_in hL h0 h5 (iv_c (by decide))) dL_law_466 ?_
  refine hz_ev v2 ev2.symm ?_
  refine mx_buy C hl.1 v1 v2 [] (Nat.le_of_ble_eq_true rfl) hM1 hI1 hS1 (by omega) (by omega) (fun r2 x2 md2 ix2 H2 locs2 hM2 hI2 hR2 hS2 => ?_)
  refine lv_pop hx hb dL_law_470 rfl ?_
  refine lv_goto (tgt := 1137) hx hb dL_law_471 (by decide) ?_
  refine W.widen (k := cells + 12) (n := slots + 454) (by omega) (by omega) ?_
  exact kk H2 locs2 ⟨g1, τ1, x2, md2, ix2, hI2, ha1, hAt1, hU1, hM2, lk_same hlk hR1 hR2⟩ hS2
set_option maxHeartbeats 4000000 in
set_option maxRecDepth 100000 in
theorem lc_shout {p : Program} {l : Launch} {e : Env} {s : State} {m : MethodId} {below : List Frame} {meth : Method} {c : Code} {D : va_G} {cs : Nat → ClassId} {kK kV : Nat → Nat} {A : Nat → Prop} {b : Nat} (C : LC p s m c b D cs kK kV A) {L : Nat} {xs : Nat → Int32} (hX : va_X b L xs s s.heap) (hbl : b < s.heap.size) (hbA : ¬ A b) (hL : L ≤ 3072) {ax am : Nat} {i3 : Int32} (h0 : 0 ≤ i3.toInt) (h5 : i3.toInt + 5 < L) {H : Heap} {locs : List Loc} {cells slots : Nat} {Q : State → Prop} {ls : Array Slot} (hl : lv_has ls 4 [(3, .int i3), (2, .ref am), (1, .ref ax), (0, .ref b)]) (hJ : LI D cs A ax am H) (hS : va_S A s.heap H locs) (hc : cells + 12 ≤ 600000) (hs : slots + 454 ≤ 7302250) (kk : ∀ (H1 : Heap) (locs1 : List Loc), LI D cs A ax am H1 → va_S A s.heap H1 locs1 → W p l e room_1 s m #[Value.ref b] below meth c H1 locs1 (cells + 12) (slots + 454) Q (F0 m 1137 ls [])) : W p l e room_1 s m #[Value.ref b] below meth c H locs cells slots Q (F0 m 474 ls []) := by
  have ⟨hx, hb, hml, hown, hT, hE, hA⟩ := C
  obtain ⟨g, τ, x, md, ix, hI, ha, hAt, hU, hM, hlk⟩ := hJ
  refine lv_aload_n hx hb dL_law_474 rfl (lv_at hl 2 rfl) ?_
  refine lv_aload_n hx hb dL_law_475 rfl (lv_at hl 3 rfl) ?_
  refine lv_iload_n hx hb dL_law_476 rfl (lv_at hl 0 rfl) ?_
  refine lv_iconst (v := 1) hx hb dL_law_477 (by decide) ?_
  refine lv_iadd hx hb dL_law_478 ?_
  refine va_sld hx hb hX hbl hbA hS (lc_in hL h0 h5 (iv_c (by decide))) dL_law_479 ?_
  refine lv_topi (fun v1 ev1 => ?_)
  refine lv_aload_n hx hb dL_law_480 rfl (lv_at hl 3 rfl) ?_
  refine lv_iload_n hx hb dL_law_481 rfl (lv_at hl 0 rfl) ?_
  refine lv_iconst (v := 2) hx hb dL_law_482 (by decide) ?_
  refine lv_iadd hx hb dL_law_483 ?_
  refine va_sld hx hb hX hbl hbA hS (lc_in hL h0 h5 (iv_c (by decide))) dL_law_484 ?_
  refine lv_topi (fun v2 ev2 => ?_)
  refine lx_shout C hl.1 v1 v2 hI ha hAt hU hS (by omega) (by omega) (fun r1 g1 τ1 H1 locs1 hI1 ha1 hAt1 hU1 hR1 hK1 hS1 => ?_)
  have hM1 := hM.kept hK1
  refine lv_pop hx hb dL_law_488 rfl ?_
  refine lv_aload_n hx hb dL_law_489 rfl (lv_at hl 1 rfl) ?_
  refine lv_aload_n hx hb dL_law_490 rfl (lv_at hl 3 rfl) ?_
  refine lv_iload_n hx hb dL_law_491 rfl (lv_at hl 0 rfl) ?_
  refine lv_iconst (v := 1) hx hb dL_law_492 (by decide) ?_
  refine lv_iadd hx hb dL_law_493 ?_
  refine va_sld hx hb hX hbl hbA hS1 (lc_in hL h0 h5 (iv_c (by decide))) dL_law_494 ?_
  refine hz_ev v1 ev1.symm ?_
  refine lv_aload_n hx hb dL_law_495 rfl (lv_at hl 3 rfl) ?_
  refine lv_iload_n hx hb dL_law_496 rfl (lv_at hl 0 rfl) ?_
  refine lv_iconst (v := 2) hx hb dL_law_497 (by decide) ?_
  refine lv_iadd hx hb dL_law_498 ?_
  refine va_sld hx hb hX hbl hbA hS1 (lc_in hL h0 h5 (iv_c (by decide))) dL_law_499 ?_
  refine hz_ev v2 ev2.symm ?_
  refine mx_shout C hl.1 v1 v2 [] (Nat.le_of_ble_eq_true rfl) hM1 hI1 hS1 (by omega) (by omega) (fun r2 x2 md2 ix2 H2 locs2 hM2 hI2 hR2 hS2 => ?_)
  refine lv_pop hx hb dL_law_503 rfl ?_
  refine lv_goto (tgt := 1137) hx hb dL_law_504 (by decide) ?_
  refine W.widen (k := cells + 12) (n := slots + 454) (by omega) (by omega) ?_
  exact kk H2 locs2 ⟨g1, τ1, x2, md2, ix2, hI2, ha1, hAt1, hU1, hM2, lk_same hlk hR1 hR2⟩ hS2
set_option maxHeartbeats 4000000 in
set_option maxRecDepth 100000 in
theorem lc_swap {p : Program} {l : Launch} {e : Env} {s : State} {m : MethodId} {below : List Frame} {meth : Method} {c : Code} {D : va_G} {cs : Nat → ClassId} {kK kV : Nat → Nat} {A : Nat → Prop} {b : Nat} (C : LC p s m c b D cs kK kV A) {L : Nat} {xs : Nat → Int32} (hX : va_X b L xs s s.heap) (hbl : b < s.heap.size) (hbA : ¬ A b) (hL : L ≤ 3072) {ax am : Nat} {i3 : Int32} (h0 : 0 ≤ i3.toInt) (h5 : i3.toInt + 5 < L) {H : Heap} {locs : List Loc} {cells slots : Nat} {Q : State → Prop} {ls : Array Slot} (hl : lv_has ls 4 [(3, .int i3), (2, .ref am), (1, .ref ax), (0, .ref b)]) (hJ : LI D cs A ax am H) (hS : va_S A s.heap H locs) (hc : cells + 12 ≤ 600000) (hs : slots + 454 ≤ 7302250) (kk : ∀ (H1 : Heap) (locs1 : List Loc), LI D cs A ax am H1 → va_S A s.heap H1 locs1 → W p l e room_1 s m #[Value.ref b] below meth c H1 locs1 (cells + 12) (slots + 454) Q (F0 m 1137 ls [])) : W p l e room_1 s m #[Value.ref b] below meth c H locs cells slots Q (F0 m 507 ls []) := by
  have ⟨hx, hb, hml, hown, hT, hE, hA⟩ := C
  obtain ⟨g, τ, x, md, ix, hI, ha, hAt, hU, hM, hlk⟩ := hJ
  refine lv_aload_n hx hb dL_law_507 rfl (lv_at hl 2 rfl) ?_
  refine lv_aload_n hx hb dL_law_508 rfl (lv_at hl 3 rfl) ?_
  refine lv_iload_n hx hb dL_law_509 rfl (lv_at hl 0 rfl) ?_
  refine lv_iconst (v := 1) hx hb dL_law_510 (by decide) ?_
  refine lv_iadd hx hb dL_law_511 ?_
  refine va_sld hx hb hX hbl hbA hS (lc_in hL h0 h5 (iv_c (by decide))) dL_law_512 ?_
  refine lv_topi (fun v1 ev1 => ?_)
  refine lv_aload_n hx hb dL_law_513 rfl (lv_at hl 3 rfl) ?_
  refine lv_iload_n hx hb dL_law_514 rfl (lv_at hl 0 rfl) ?_
  refine lv_iconst (v := 2) hx hb dL_law_515 (by decide) ?_
  refine lv_iadd hx hb dL_law_516 ?_
  refine va_sld hx hb hX hbl hbA hS (lc_in hL h0 h5 (iv_c (by decide))) dL_law_517 ?_
  refine lv_topi (fun v2 ev2 => ?_)
  refine lv_aload_n hx hb dL_law_518 rfl (lv_at hl 3 rfl) ?_
  refine lv_iload_n hx hb dL_law_519 rfl (lv_at hl 0 rfl) ?_
  refine lv_iconst (v := 3) hx hb dL_law_520 (by decide) ?_
  refine lv_iadd hx hb dL_law_521 ?_
  refine va_sld hx hb hX hbl hbA hS (lc_in hL h0 h5 (iv_c (by decide))) dL_law_522 ?_
  refine lv_topi (fun v3 ev3 => ?_)
  refine lv_aload_n hx hb dL_law_523 rfl (lv_at hl 3 rfl) ?_
  refine lv_iload_n hx hb dL_law_524 rfl (lv_at hl 0 rfl) ?_
  refine lv_iconst (v := 4) hx hb dL_law_525 (by decide) ?_
  refine lv_iadd hx hb dL_law_526 ?_
  refine va_sld hx hb hX hbl hbA hS (lc_in hL h0 h5 (iv_c (by decide))) dL_law_527 ?_
  refine lv_topi (fun v4 ev4 => ?_)
  refine lx_swap C hl.1 v1 v2 v3 v4 hI ha hAt hU hS (by omega) (by omega) (fun r1 g1 τ1 H1 locs1 hI1 ha1 hAt1 hU1 hR1 hK1 hS1 => ?_)
  have hM1 := hM.kept hK1
  refine lv_pop hx hb dL_law_531 rfl ?_
  refine lv_aload_n hx hb dL_law_532 rfl (lv_at hl 1 rfl) ?_
  refine lv_aload_n hx hb dL_law_533 rfl (lv_at hl 3 rfl) ?_
  refine lv_iload_n hx hb dL_law_534 rfl (lv_at hl 0 rfl) ?_
  refine lv_iconst (v := 1) hx hb dL_law_535 (by decide) ?_
  refine lv_iadd hx hb dL_law_536 ?_
  refine va_sld hx hb hX hbl hbA hS1 (lc_in hL h0 h5 (iv_c (by decide))) dL_law_537 ?_
  refine hz_ev v1 ev1.symm ?_
  refine lv_aload_n hx hb dL_law_538 rfl (lv_at hl 3 rfl) ?_
  refine lv_iload_n hx hb dL_law_539 rfl (lv_at hl 0 rfl) ?_
  refine lv_iconst (v := 2) hx hb dL_law_540 (by decide) ?_
  refine lv_iadd hx hb dL_law_541 ?_
  refine va_sld hx hb hX hbl hbA hS1 (lc_in hL h0 h5 (iv_c (by decide))) dL_law_542 ?_
  refine hz_ev v2 ev2.symm ?_
  refine lv_aload_n hx hb dL_law_543 rfl (lv_at hl 3 rfl) ?_
  refine lv_iload_n hx hb dL_law_544 rfl (lv_at hl 0 rfl) ?_
  refine lv_iconst (v := 3) hx hb dL_law_545 (by decide) ?_
  refine lv_iadd hx hb dL_law_546 ?_
  refine va_sld hx hb hX hbl hbA hS1 (lc_in hL h0 h5 (iv_c (by decide))) dL_law_547 ?_
  refine hz_ev v3 ev3.symm ?_
  refine lv_aload_n hx hb dL_law_548 rfl (lv_at hl 3 rfl) ?_
  refine lv_iload_n hx hb dL_law_549 rfl (lv_at hl 0 rfl) ?_
  refine lv_iconst (v := 4) hx hb dL_law_550 (by decide) ?_
  refine lv_iadd hx hb dL_law_551 ?_
  refine va_sld hx hb hX hbl hbA hS1 (lc_in hL h0 h5 (iv_c (by decide))) dL_law_552 ?_
  refine hz_ev v4 ev4.symm ?_
  refine mx_swap C hl.1 v1 v2 v3 v4 [] (Nat.le_of_ble_eq_true rfl) hM1 hI1 hS1 (by omega) (by omega) (fun r2 x2 md2 ix2 H2 locs2 hM2 hI2 hR2 hS2 => ?_)
  refine lv_pop hx hb dL_law_556 rfl ?_
  refine lv_goto (tgt := 1137) hx hb dL_law_557 (by decide) ?_
  refine W.widen (k := cells + 12) (n := slots + 454) (by omega) (by omega) ?_
  exact kk H2 locs2 ⟨g1, τ1, x2, md2, ix2, hI2, ha1, hAt1, hU1, hM2, lk_same hlk hR1 hR2⟩ hS2
set_option maxHeartbeats 4000000 in
set_option maxRecDepth 100000 in
theorem lc_giveUp {p : Program} {l : Launch} {e : Env} {s : State} {m : MethodId} {below : List Frame} {meth : Method} {c : Code} {D : va_G} {cs : Nat → ClassId} {kK kV : Nat → Nat} {A : Nat → Prop} {b : Nat} (C : LC p s m c b D cs kK kV A) {L : Nat} {xs : Nat → Int32} (hX : va_X b L xs s s.heap) (hbl : b < s.heap.size) (hbA : ¬ A b) (hL : L ≤ 3072) {ax am : Nat} {i3 : Int32} (h0 : 0 ≤ i3.toInt) (h5 : i3.toInt + 5 < L) {H : Heap} {locs : List Loc} {cells slots : Nat} {Q : State → Prop} {ls : Array Slot} (hl : lv_has ls 4 [(3, .int i3), (2, .ref am), (1, .ref ax), (0, .ref b)]) (hJ : LI D cs A ax am H) (hS : va_S A s.heap H locs) (hc : cells + 12 ≤ 600000) (hs : slots + 454 ≤ 7302250) (kk : ∀ (H1 : Heap) (locs1 : List Loc), LI D cs A ax am H1 → va_S A s.heap H1 locs1 → W p l e room_1 s m #[Value.ref b] below meth c H1 locs1 (cells + 12) (slots + 454) Q (F0 m 1137 ls [])) : W p l e room_1 s m #[Value.ref b] below meth c H locs cells slots Q (F0 m 560 ls []) := by
  have ⟨hx, hb, hml, hown, hT, hE, hA⟩ := C
  obtain ⟨g, τ, x, md, ix, hI, ha, hAt, hU, hM, hlk⟩ := hJ
  refine lv_aload_n hx hb dL_law_560 rfl (lv_at hl 2 rfl) ?_
  refine lv_aload_n hx hb dL_law_561 rfl (lv_at hl 3 rfl) ?_
  refine lv_iload_n hx hb dL_law_562 rfl (lv_at hl 0 rfl) ?_
  refine lv_iconst (v := 1) hx hb dL_law_563 (by decide) ?_
  refine lv_iadd hx hb dL_law_564 ?_
  refine va_sld hx hb hX hbl hbA hS (lc_in hL h0 h5 (iv_c (by decide))) dL_law_565 ?_
  refine lv_topi (fun v1 ev1 => ?_)
  refine lv_aload_n hx hb dL_law_566 rfl (lv_at hl 3 rfl) ?_
  refine lv_iload_n hx hb dL_law_567 rfl (lv_at hl 0 rfl) ?_
  refine lv_iconst (v := 2) hx hb dL_law_568 (by decide) ?_
  refine lv_iadd hx hb dL_law_569 ?_
  refine va_sld hx hb hX hbl hbA hS (lc_in hL h0 h5 (iv_c (by decide))) dL_law_570 ?_
  refine lv_topi (fun v2 ev2 => ?_)
  refine lx_giveUp C hl.1 v1 v2 hI ha hAt hU hS (by omega) (by omega) (fun r1 g1 τ1 H1 locs1 hI1 ha1 hAt1 hU1 hR1 hK1 hS1 => ?_)
  have hM1 := hM.kept hK1
  refine lv_pop hx hb dL_law_574 rfl ?_
  refine lv_aload_n hx hb dL_law_575 rfl (lv_at hl 1 rfl) ?_
  refine lv_aload_n hx hb dL_law_576 rfl (lv_at hl 3 rfl) ?_
  refine lv_iload_n hx hb dL_law_577 rfl (lv_at hl 0 rfl) ?_
  refine lv_iconst (v := 1) hx hb dL_law_578 (by decide) ?_
  refine lv_iadd hx hb dL_law_579 ?_
  refine va_sld hx hb hX hbl hbA hS1 (lc_in hL h0 h5 (iv_c (by decide))) dL_law_580 ?_
  refine hz_ev v1 ev1.symm ?_
  refine lv_aload_n hx hb dL_law_581 rfl (lv_at hl 3 rfl) ?_
  refine lv_iload_n hx hb dL_law_582 rfl (lv_at hl 0 rfl) ?_
  refine lv_iconst (v := 2) hx hb dL_law_583 (by decide) ?_
  refine lv_iadd hx hb dL_law_584 ?_
  refine va_sld hx hb hX hbl hbA hS1 (lc_in hL h0 h5 (iv_c (by decide))) dL_law_585 ?_
  refine hz_ev v2 ev2.symm ?_
  refine mx_giveUp C hl.1 v1 v2 [] (Nat.le_of_ble_eq_true rfl) hM1 hI1 hS1 (by omega) (by omega) (fun r2 x2 md2 ix2 H2 locs2 hM2 hI2 hR2 hS2 => ?_)
  refine lv_pop hx hb dL_law_589 rfl ?_
  refine lv_goto (tgt := 1137) hx hb dL_law_590 (by decide) ?_
  refine W.widen (k := cells + 12) (n := slots + 454) (by omega) (by omega) ?_
  exact kk H2 locs2 ⟨g1, τ1, x2, md2, ix2, hI2, ha1, hAt1, hU1, hM2, lk_same hlk hR1 hR2⟩ hS2
set_option maxHeartbeats 4000000 in
set_option maxRecDepth 100000 in
theorem lc_undo {p : Program} {l : Launch} {e : Env} {s : State} {m : MethodId} {below : List Frame} {meth : Method} {c : Code} {D : va_G} {cs : Nat → ClassId} {kK kV : Nat → Nat} {A : Nat → Prop} {b : Nat} (C : LC p s m c b D cs kK kV A) {L : Nat} {xs : Nat → Int32} (hX : va_X b L xs s s.heap) (hbl : b < s.heap.size) (hbA : ¬ A b) (hL : L ≤ 3072) {ax am : Nat} {i3 : Int32} (h0 : 0 ≤ i3.toInt) (h5 : i3.toInt + 5 < L) {H : Heap} {locs : List Loc} {cells slots : Nat} {Q : State → Prop} {ls : Array Slot} (hl : lv_has ls 4 [(3, .int i3), (2, .ref am), (1, .ref ax), (0, .ref b)]) (hJ : LI D cs A ax am H) (hS : va_S A s.heap H locs) (hc : cells + 12 ≤ 600000) (hs : slots + 454 ≤ 7302250) (kk : ∀ (H1 : Heap) (locs1 : List Loc), LI D cs A ax am H1 → va_S A s.heap H1 locs1 → W p l e room_1 s m #[Value.ref b] below meth c H1 locs1 (cells + 12) (slots + 454) Q (F0 m 1137 ls [])) : W p l e room_1 s m #[Value.ref b] below meth c H locs cells slots Q (F0 m 593 ls []) := by
  have ⟨hx, hb, hml, hown, hT, hE, hA⟩ := C
  obtain ⟨g, τ, x, md, ix, hI, ha, hAt, hU, hM, hlk⟩ := hJ
  refine lv_aload_n hx hb dL_law_593 rfl (lv_at hl 2 rfl) ?_
  refine lx_undo C hl.1  hI ha hAt hU hS (by omega) (by omega) (fun r1 g1 τ1 H1 locs1 hI1 ha1 hAt1 hU1 hR1 hK1 hS1 => ?_)
  have hM1 := hM.kept hK1
  refine lv_pop hx hb dL_law_597 rfl ?_
  refine lv_aload_n hx hb dL_law_598 rfl (lv_at hl 1 rfl) ?_
  refine mx_undo C hl.1  [] (Nat.le_of_ble_eq_true rfl) hM1 hI1 hS1 (by omega) (by omega) (fun r2 x2 md2 ix2 H2 locs2 hM2 hI2 hR2 hS2 => ?_)
  refine lv_pop hx hb dL_law_602 rfl ?_
  refine lv_goto (tgt := 1137) hx hb dL_law_603 (by decide) ?_
  refine W.widen (k := cells + 12) (n := slots + 454) (by omega) (by omega) ?_
  exact kk H2 locs2 ⟨g1, τ1, x2, md2, ix2, hI2, ha1, hAt1, hU1, hM2, lk_same hlk hR1 hR2⟩ hS2
set_option maxHeartbeats 4000000 in
set_option maxRecDepth 100000 in
theorem lc_run {p : Program} {l : Launch} {e : Env} {s : State} {m : MethodId} {below : List Frame} {meth : Method} {c : Code} {D : va_G} {cs : Nat → ClassId} {kK kV : Nat → Nat} {A : Nat → Prop} {b : Nat} (C : LC p s m c b D cs kK kV A) {L : Nat} {xs : Nat → Int32} (hX : va_X b L xs s s.heap) (hbl : b < s.heap.size) (hbA : ¬ A b) (hL : L ≤ 3072) {ax am : Nat} {i3 : Int32} (h0 : 0 ≤ i3.toInt) (h5 : i3.toInt + 5 < L) {H : Heap} {locs : List Loc} {cells slots : Nat} {Q : State → Prop} {ls : Array Slot} (hl : lv_has ls 4 [(3, .int i3), (2, .ref am), (1, .ref ax), (0, .ref b)]) (hJ : LI D cs A ax am H) (hS : va_S A s.heap H locs) (hc : cells + 12 ≤ 600000) (hs : slots + 454 ≤ 7302250) (kk : ∀ (H1 : Heap) (locs1 : List Loc), LI D cs A ax am H1 → va_S A s.heap H1 locs1 → W p l e room_1 s m #[Value.ref b] below meth c H1 locs1 (cells + 12) (slots + 454) Q (F0 m 1137 ls [])) : W p l e room_1 s m #[Value.ref b] below meth c H locs cells slots Q (F0 m 606 ls []) := by
  have ⟨hx, hb, hml, hown, hT, hE, hA⟩ := C
  obtain ⟨g, τ, x, md, ix, hI, ha, hAt, hU, hM, hlk⟩ := hJ
  refine lv_aload_n hx hb dL_law_606 rfl (lv_at hl 2 rfl) ?_
  refine lv_aload_n hx hb dL_law_607 rfl (lv_at hl 3 rfl) ?_
  refine lv_iload_n hx hb dL_law_608 rfl (lv_at hl 0 rfl) ?_
  refine lv_iconst (v := 1) hx hb dL_law_609 (by decide) ?_
  refine lv_iadd hx hb dL_law_610 ?_
  refine va_sld hx hb hX hbl hbA hS (lc_in hL h0 h5 (iv_c (by decide))) dL_law_611 ?_
  refine lv_topi (fun v1 ev1 => ?_)
  refine lv_aload_n hx hb dL_law_612 rfl (lv_at hl 3 rfl) ?_
  refine lv_iload_n hx hb dL_law_613 rfl (lv_at hl 0 rfl) ?_
  refine lv_iconst (v := 2) hx hb dL_law_614 (by decide) ?_
  refine lv_iadd hx hb dL_law_615 ?_
  refine va_sld hx hb hX hbl hbA hS (lc_in hL h0 h5 (iv_c (by decide))) dL_law_616 ?_
  refine lv_topi (fun v2 ev2 => ?_)
  refine lx_run C hl.1 v1 v2 hI ha hAt hU hS (by omega) (by omega) (fun r1 g1 τ1 H1 locs1 hI1 ha1 hAt1 hU1 hR1 hK1 hS1 => ?_)
  have hM1 := hM.kept hK1
  refine lv_pop hx hb dL_law_620 rfl ?_
  refine lv_aload_n hx hb dL_law_621 rfl (lv_at hl 1 rfl) ?_
  refine lv_aload_n hx hb dL_law_622 rfl (lv_at hl 3 rfl) ?_
  refine lv_iload_n hx hb dL_law_623 rfl (lv_at hl 0 rfl) ?_
  refine lv_iconst (v := 1) hx hb dL_law_624 (by decide) ?_
  refine lv_iadd hx hb dL_law_625 ?_
  refine va_sld hx hb hX hbl hbA hS1 (lc_in hL h0 h5 (iv_c (by decide))) dL_law_626 ?_
  refine hz_ev v1 ev1.symm ?_
  refine lv_aload_n hx hb dL_law_627 rfl (lv_at hl 3 rfl) ?_
  refine lv_iload_n hx hb dL_law_628 rfl (lv_at hl 0 rfl) ?_
  refine lv_iconst (v := 2) hx hb dL_law_629 (by decide) ?_
  refine lv_iadd hx hb dL_law_630 ?_
  refine va_sld hx hb hX hbl hbA hS1 (lc_in hL h0 h5 (iv_c (by decide))) dL_law_631 ?_
  refine hz_ev v2 ev2.symm ?_
  refine mx_run C hl.1 v1 v2 [] (Nat.le_of_ble_eq_true rfl) hM1 hI1 hS1 (by omega) (by omega) (fun r2 x2 md2 ix2 H2 locs2 hM2 hI2 hR2 hS2 => ?_)
  refine lv_pop hx hb dL_law_635 rfl ?_
  refine lv_goto (tgt := 1137) hx hb dL_law_636 (by decide) ?_
  refine W.widen (k := cells + 12) (n := slots + 454) (by omega) (by omega) ?_
  exact kk H2 locs2 ⟨g1, τ1, x2, md2, ix2, hI2, ha1, hAt1, hU1, hM2, lk_same hlk hR1 hR2⟩ hS2
set_option maxHeartbeats 4000000 in
set_option maxRecDepth 100000 in
theorem lc_worth {p : Program} {l : Launch} {e : Env} {s : State} {m : MethodId} {below : List Frame} {meth : Method} {c : Code} {D : va_G} {cs : Nat → ClassId} {kK kV : Nat → Nat} {A : Nat → Prop} {b : Nat} (C : LC p s m c b D cs kK kV A) {L : Nat} {xs : Nat → Int32} (hX : va_X b L xs s s.heap) (hbl : b < s.heap.size) (hbA : ¬ A b) (hL : L ≤ 3072) {ax am : Nat} {i3 : Int32} (h0 : 0 ≤ i3.toInt) (h5 : i3.toInt + 5 < L) {H : Heap} {locs : List Loc} {cells slots : Nat} {Q : State → Prop} {ls : Array Slot} (hl : lv_has ls 4 [(3, .int i3), (2, .ref am), (1, .ref ax), (0, .ref b)]) (hJ : LI D cs A ax am H) (hS : va_S A s.heap H locs) (hc : cells + 12 ≤ 600000) (hs : slots + 454 ≤ 7302250) (kk : ∀ (H1 : Heap) (locs1 : List Loc), LI D cs A ax am H1 → va_S A s.heap H1 locs1 → W p l e room_1 s m #[Value.ref b] below meth c H1 locs1 (cells + 12) (slots + 454) Q (F0 m 1137 ls [])) : W p l e room_1 s m #[Value.ref b] below meth c H locs cells slots Q (F0 m 639 ls []) := by
  have ⟨hx, hb, hml, hown, hT, hE, hA⟩ := C
  obtain ⟨g, τ, x, md, ix, hI, ha, hAt, hU, hM, hlk⟩ := hJ
  refine lv_aload_n hx hb dL_law_639 rfl (lv_at hl 2 rfl) ?_
  refine lv_aload_n hx hb dL_law_640 rfl (lv_at hl 3 rfl) ?_
  refine lv_iload_n hx hb dL_law_641 rfl (lv_at hl 0 rfl) ?_
  refine lv_iconst (v := 1) hx hb dL_law_642 (by decide) ?_
  refine lv_iadd hx hb dL_law_643 ?_
  refine va_sld hx hb hX hbl hbA hS (lc_in hL h0 h5 (iv_c (by decide))) dL_law_644 ?_
  refine lv_topi (fun v1 ev1 => ?_)
  refine lx_worth C hl.1 v1 hI ha hAt hU hS (by omega) (by omega) (fun r1 g1 τ1 H1 locs1 hI1 ha1 hAt1 hU1 hR1 hK1 hS1 => ?_)
  have hM1 := hM.kept hK1
  refine lv_pop hx hb dL_law_648 rfl ?_
  refine lv_aload_n hx hb dL_law_649 rfl (lv_at hl 1 rfl) ?_
  refine lv_aload_n hx hb dL_law_650 rfl (lv_at hl 3 rfl) ?_
  refine lv_iload_n hx hb dL_law_651 rfl (lv_at hl 0 rfl) ?_
  refine lv_iconst (v := 1) hx hb dL_law_652 (by decide) ?_
  refine lv_iadd hx hb dL_law_653 ?_
  refine va_sld hx hb hX hbl hbA hS1 (lc_in hL h0 h5 (iv_c (by decide))) dL_law_654 ?_
  refine hz_ev v1 ev1.symm ?_
  refine mx_worth C hl.1 v1 [] (Nat.le_of_ble_eq_true rfl) hM1 hI1 hS1 (by omega) (by omega) (fun r2 x2 md2 ix2 H2 locs2 hM2 hI2 hR2 hS2 => ?_)
  refine lv_pop hx hb dL_law_658 rfl ?_
  refine lv_goto (tgt := 1137) hx hb dL_law_659 (by decide) ?_
  refine W.widen (k := cells + 12) (n := slots + 454) (by omega) (by omega) ?_
  exact kk H2 locs2 ⟨g1, τ1, x2, md2, ix2, hI2, ha1, hAt1, hU1, hM2, lk_same hlk hR1 hR2⟩ hS2
set_option maxHeartbeats 4000000 in
set_option maxRecDepth 100000 in
theorem lc_with {p : Program} {l : Launch} {e : Env} {s : State} {m : MethodId} {below : List Frame} {meth : Method} {c : Code} {D : va_G} {cs : Nat → ClassId} {kK kV : Nat → Nat} {A : Nat → Prop} {b : Nat} (C : LC p s m c b D cs kK kV A) {L : Nat} {xs : Nat → Int32} (hX : va_X b L xs s s.heap) (hbl : b < s.heap.size) (hbA : ¬ A b) (hL : L ≤ 3072) {ax am : Nat} {i3 : Int32} (h0 : 0 ≤ i3.toInt) (h5 : i3.toInt + 5 < L) {H : Heap} {locs : List Loc} {cells slots : Nat} {Q : State → Prop} {ls : Array Slot} (hl : lv_has ls 4 [(3, .int i3), (2, .ref am), (1, .ref ax), (0, .ref b)]) (hJ : LI D cs A ax am H) (hS : va_S A s.heap H locs) (hc : cells + 12 ≤ 600000) (hs : slots + 454 ≤ 7302250) (kk : ∀ (H1 : Heap) (locs1 : List Loc), LI D cs A ax am H1 → va_S A s.heap H1 locs1 → W p l e room_1 s m #[Value.ref b] below meth c H1 locs1 (cells + 12) (slots + 454) Q (F0 m 1137 ls [])) : W p l e room_1 s m #[Value.ref b] below meth c H locs cells slots Q (F0 m 662 ls []) := by
  have ⟨hx, hb, hml, hown, hT, hE, hA⟩ := C
  obtain ⟨g, τ, x, md, ix, hI, ha, hAt, hU, hM, hlk⟩ := hJ
  refine lv_aload_n hx hb dL_law_662 rfl (lv_at hl 2 rfl) ?_
  refine lv_aload_n hx hb dL_law_663 rfl (lv_at hl 3 rfl) ?_
  refine lv_iload_n hx hb dL_law_664 rfl (lv_at hl 0 rfl) ?_
  refine lv_iconst (v := 1) hx hb dL_law_665 (by decide) ?_
  refine lv_iadd hx hb dL_law_666 ?_
  refine va_sld hx hb hX hbl hbA hS (lc_in hL h0 h5 (iv_c (by decide))) dL_law_667 ?_
  refine lv_topi (fun v1 ev1 => ?_)
  refine lv_aload_n hx hb dL_law_668 rfl (lv_at hl 3 rfl) ?_
  refine lv_iload_n hx hb dL_law_669 rfl (lv_at hl 0 rfl) ?_
  refine lv_iconst (v := 2) hx hb dL_law_670 (by decide) ?_
  refine lv_iadd hx hb dL_law_671 ?_
  refine va_sld hx hb hX hbl hbA hS (lc_in hL h0 h5 (iv_c (by decide))) dL_law_672 ?_
  refine lv_topi (fun v2 ev2 => ?_)
  refine lx_with C hl.1 v1 v2 hI ha hAt hU hS (by omega) (by omega) (fun r1 g1 τ1 H1 locs1 hI1 ha1 hAt1 hU1 hR1 hK1 hS1 => ?_)
  have hM1 := hM.kept hK1
  refine lv_pop hx hb dL_law_676 rfl ?_
  refine lv_aload_n hx hb dL_law_677 rfl (lv_at hl 1 rfl) ?_
  refine lv_aload_n hx hb dL_law_678 rfl (lv_at hl 3 rfl) ?_
  refine lv_iload_n hx hb dL_law_679 rfl (lv_at hl 0 rfl) ?_
  refine lv_iconst (v := 1) hx hb dL_law_680 (by decide) ?_
  refine lv_iadd hx hb dL_law_681 ?_
  refine va_sld hx hb hX hbl hbA hS1 (lc_in hL h0 h5 (iv_c (by decide))) dL_law_682 ?_
  refine hz_ev v1 ev1.symm ?_
  refine lv_aload_n hx hb dL_law_683 rfl (lv_at hl 3 rfl) ?_
  refine lv_iload_n hx hb dL_law_684 rfl (lv_at hl 0 rfl) ?_
  refine lv_iconst (v := 2) hx hb dL_law_685 (by decide) ?_
  refine lv_iadd hx hb dL_law_686 ?_
  refine va_sld hx hb hX hbl hbA hS1 (lc_in hL h0 h5 (iv_c (by decide))) dL_law_687 ?_
  refine hz_ev v2 ev2.symm ?_
  refine mx_with C hl.1 v1 v2 [] (Nat.le_of_ble_eq_true rfl) hM1 hI1 hS1 (by omega) (by omega) (fun r2 x2 md2 ix2 H2 locs2 hM2 hI2 hR2 hS2 => ?_)
  refine lv_pop hx hb dL_law_691 rfl ?_
  refine lv_goto (tgt := 1137) hx hb dL_law_692 (by decide) ?_
  refine W.widen (k := cells + 12) (n := slots + 454) (by omega) (by omega) ?_
  exact kk H2 locs2 ⟨g1, τ1, x2, md2, ix2, hI2, ha1, hAt1, hU1, hM2, lk_same hlk hR1 hR2⟩ hS2
set_option maxHeartbeats 4000000 in
set_option maxRecDepth 100000 in
theorem lc_walk {p : Program} {l : Launch} {e : Env} {s : State} {m : MethodId} {below : List Frame} {meth : Method} {c : Code} {D : va_G} {cs : Nat → ClassId} {kK kV : Nat → Nat} {A : Nat → Prop} {b : Nat} (C : LC p s m c b D cs kK kV A) {L : Nat} {xs : Nat → Int32} (hX : va_X b L xs s s.heap) (hbl : b < s.heap.size) (hbA : ¬ A b) (hL : L ≤ 3072) {ax am : Nat} {i3 : Int32} (h0 : 0 ≤ i3.toInt) (h5 : i3.toInt + 5 < L) {H : Heap} {locs : List Loc} {cells slots : Nat} {Q : State → Prop} {ls : Array Slot} (hl : lv_has ls 4 [(3, .int i3), (2, .ref am), (1, .ref ax), (0, .ref b)]) (hJ : LI D cs A ax am H) (hS : va_S A s.heap H locs) (hc : cells + 12 ≤ 600000) (hs : slots + 454 ≤ 7302250) (kk : ∀ (H1 : Heap) (locs1 : List Loc), LI D cs A ax am H1 → va_S A s.heap H1 locs1 → W p l e room_1 s m #[Value.ref b] below meth c H1 locs1 (cells + 12) (slots + 454) Q (F0 m 1137 ls [])) : W p l e room_1 s m #[Value.ref b] below meth c H locs cells slots Q (F0 m 695 ls []) := by
  have ⟨hx, hb, hml, hown, hT, hE, hA⟩ := C
  obtain ⟨g, τ, x, md, ix, hI, ha, hAt, hU, hM, hlk⟩ := hJ
  refine lv_aload_n hx hb dL_law_695 rfl (lv_at hl 2 rfl) ?_
  refine lv_aload_n hx hb dL_law_696 rfl (lv_at hl 3 rfl) ?_
  refine lv_iload_n hx hb dL_law_697 rfl (lv_at hl 0 rfl) ?_
  refine lv_iconst (v := 1) hx hb dL_law_698 (by decide) ?_
  refine lv_iadd hx hb dL_law_699 ?_
  refine va_sld hx hb hX hbl hbA hS (lc_in hL h0 h5 (iv_c (by decide))) dL_law_700 ?_
  refine lv_topi (fun v1 ev1 => ?_)
  refine lv_aload_n hx hb dL_law_701 rfl (lv_at hl 3 rfl) ?_
  refine lv_iload_n hx hb dL_law_702 rfl (lv_at hl 0 rfl) ?_
  refine lv_iconst (v := 2) hx hb dL_law_703 (by decide) ?_
  refine lv_iadd hx hb dL_law_704 ?_
  refine va_sld hx hb hX hbl hbA hS (lc_in hL h0 h5 (iv_c (by decide))) dL_law_705 ?_
  refine lv_topi (fun v2 ev2 => ?_)
  refine lx_walk C hl.1 v1 v2 hI ha hAt hU hS (by omega) (by omega) (fun r1 g1 τ1 H1 locs1 hI1 ha1 hAt1 hU1 hR1 hK1 hS1 => ?_)
  have hM1 := hM.kept hK1
  refine lv_pop hx hb dL_law_709 rfl ?_
  refine lv_aload_n hx hb dL_law_710 rfl (lv_at hl 1 rfl) ?_
  refine lv_aload_n hx hb dL_law_711 rfl (lv_at hl 3 rfl) ?_
  refine lv_iload_n hx hb dL_law_712 rfl (lv_at hl 0 rfl) ?_
  refine lv_iconst (v := 1) hx hb dL_law_713 (by decide) ?_
  refine lv_iadd hx hb dL_law_714 ?_
  refine va_sld hx hb hX hbl hbA hS1 (lc_in hL h0 h5 (iv_c (by decide))) dL_law_715 ?_
  refine hz_ev v1 ev1.symm ?_
  refine lv_aload_n hx hb dL_law_716 rfl (lv_at hl 3 rfl) ?_
  refine lv_iload_n hx hb dL_law_717 rfl (lv_at hl 0 rfl) ?_
  refine lv_iconst (v := 2) hx hb dL_law_718 (by decide) ?_
  refine lv_iadd hx hb dL_law_719 ?_
  refine va_sld hx hb hX hbl hbA hS1 (lc_in hL h0 h5 (iv_c (by decide))) dL_law_720 ?_
  refine hz_ev v2 ev2.symm ?_
  refine mx_walk C hl.1 v1 v2 [] (Nat.le_of_ble_eq_true rfl) hM1 hI1 hS1 (by omega) (by omega) (fun r2 x2 md2 ix2 H2 locs2 hM2 hI2 hR2 hS2 => ?_)
  refine lv_pop hx hb dL_law_724 rfl ?_
  refine lv_goto (tgt := 1137) hx hb dL_law_725 (by decide) ?_
  refine W.widen (k := cells + 12) (n := slots + 454) (by omega) (by omega) ?_
  exact kk H2 locs2 ⟨g1, τ1, x2, md2, ix2, hI2, ha1, hAt1, hU1, hM2, lk_same hlk hR1 hR2⟩ hS2
set_option maxHeartbeats 4000000 in
set_option maxRecDepth 100000 in
theorem lc_chance {p : Program} {l : Launch} {e : Env} {s : State} {m : MethodId} {below : List Frame} {meth : Method} {c : Code} {D : va_G} {cs : Nat → ClassId} {kK kV : Nat → Nat} {A : Nat → Prop} {b : Nat} (C : LC p s m c b D cs kK kV A) {L : Nat} {xs : Nat → Int32} (hX : va_X b L xs s s.heap) (hbl : b < s.heap.size) (hbA : ¬ A b) (hL : L ≤ 3072) {ax am : Nat} {i3 : Int32} (h0 : 0 ≤ i3.toInt) (h5 : i3.toInt + 5 < L) {H : Heap} {locs : List Loc} {cells slots : Nat} {Q : State → Prop} {ls : Array Slot} (hl : lv_has ls 4 [(3, .int i3), (2, .ref am), (1, .ref ax), (0, .ref b)]) (hJ : LI D cs A ax am H) (hS : va_S A s.heap H locs) (hc : cells + 12 ≤ 600000) (hs : slots + 454 ≤ 7302250) (kk : ∀ (H1 : Heap) (locs1 : List Loc), LI D cs A ax am H1 → va_S A s.heap H1 locs1 → W p l e room_1 s m #[Value.ref b] below meth c H1 locs1 (cells + 12) (slots + 454) Q (F0 m 1137 ls [])) : W p l e room_1 s m #[Value.ref b] below meth c H locs cells slots Q (F0 m 728 ls []) := by
  have ⟨hx, hb, hml, hown, hT, hE, hA⟩ := C
  obtain ⟨g, τ, x, md, ix, hI, ha, hAt, hU, hM, hlk⟩ := hJ
  refine lv_aload_n hx hb dL_law_728 rfl (lv_at hl 2 rfl) ?_
  refine lv_aload_n hx hb dL_law_729 rfl (lv_at hl 3 rfl) ?_
  refine lv_iload_n hx hb dL_law_730 rfl (lv_at hl 0 rfl) ?_
  refine lv_iconst (v := 1) hx hb dL_law_731 (by decide) ?_
  refine lv_iadd hx hb dL_law_732 ?_
  refine va_sld hx hb hX hbl hbA hS (lc_in hL h0 h5 (iv_c (by decide))) dL_law_733 ?_
  refine lv_topi (fun v1 ev1 => ?_)
  refine lv_aload_n hx hb dL_law_734 rfl (lv_at hl 3 rfl) ?_
  refine lv_iload_n hx hb dL_law_735 rfl (lv_at hl 0 rfl) ?_
  refine lv_iconst (v := 2) hx hb dL_law_736 (by decide) ?_
  refine lv_iadd hx hb dL_law_737 ?_
  refine va_sld hx hb hX hbl hbA hS (lc_in hL h0 h5 (iv_c (by decide))) dL_law_738 ?_
  refine lv_topi (fun v2 ev2 => ?_)
  refine lv_aload_n hx hb dL_law_739 rfl (lv_at hl 3 rfl) ?_
  refine lv_iload_n hx hb dL_law_740 rfl (lv_at hl 0 rfl) ?_
  refine lv_iconst (v := 3) hx hb dL_law_741 (by decide) ?_
  refine lv_iadd hx hb dL_law_742 ?_
  refine va_sld hx hb hX hbl hbA hS (lc_in hL h0 h5 (iv_c (by decide))) dL_law_743 ?_
  refine lv_topi (fun v3 ev3 => ?_)
  refine lx_chance C hl.1 v1 v2 v3 hI ha hAt hU hS (by omega) (by omega) (fun r1 g1 τ1 H1 locs1 hI1 ha1 hAt1 hU1 hR1 hK1 hS1 => ?_)
  have hM1 := hM.kept hK1
  refine lv_pop hx hb dL_law_747 rfl ?_
  refine lv_aload_n hx hb dL_law_748 rfl (lv_at hl 1 rfl) ?_
  refine lv_aload_n hx hb dL_law_749 rfl (lv_at hl 3 rfl) ?_
  refine lv_iload_n hx hb dL_law_750 rfl (lv_at hl 0 rfl) ?_
  refine lv_iconst (v := 1) hx hb dL_law_751 (by decide) ?_
  refine lv_iadd hx hb dL_law_752 ?_
  refine va_sld hx hb hX hbl hbA hS1 (lc_in hL h0 h5 (iv_c (by decide))) dL_law_753 ?_
  refine hz_ev v1 ev1.symm ?_
  refine lv_aload_n hx hb dL_law_754 rfl (lv_at hl 3 rfl) ?_
  refine lv_iload_n hx hb dL_law_755 rfl (lv_at hl 0 rfl) ?_
  refine lv_iconst (v := 2) hx hb dL_law_756 (by decide) ?_
  refine lv_iadd hx hb dL_law_757 ?_
  refine va_sld hx hb hX hbl hbA hS1 (lc_in hL h0 h5 (iv_c (by decide))) dL_law_758 ?_
  refine hz_ev v2 ev2.symm ?_
  refine lv_aload_n hx hb dL_law_759 rfl (lv_at hl 3 rfl) ?_
  refine lv_iload_n hx hb dL_law_760 rfl (lv_at hl 0 rfl) ?_
  refine lv_iconst (v := 3) hx hb dL_law_761 (by decide) ?_
  refine lv_iadd hx hb dL_law_762 ?_
  refine va_sld hx hb hX hbl hbA hS1 (lc_in hL h0 h5 (iv_c (by decide))) dL_law_763 ?_
  refine hz_ev v3 ev3.symm ?_
  refine mx_chance C hl.1 v1 v2 v3 [] (Nat.le_of_ble_eq_true rfl) hM1 hI1 hS1 (by omega) (by omega) (fun r2 x2 md2 ix2 H2 locs2 hM2 hI2 hR2 hS2 => ?_)
  refine lv_pop hx hb dL_law_767 rfl ?_
  refine lv_goto (tgt := 1137) hx hb dL_law_768 (by decide) ?_
  refine W.widen (k := cells + 12) (n := slots + 454) (by omega) (by omega) ?_
  exact kk H2 locs2 ⟨g1, τ1, x2, md2, ix2, hI2, ha1, hAt1, hU1, hM2, lk_same hlk hR1 hR2⟩ hS2
set_option maxHeartbeats 4000000 in
set_option maxRecDepth 100000 in
theorem lc_yields {p : Program} {l : Launch} {e : Env} {s : State} {m : MethodId} {below : List Frame} {meth : Method} {c : Code} {D : va_G} {cs : Nat → ClassId} {kK kV : Nat → Nat} {A : Nat → Prop} {b : Nat} (C : LC p s m c b D cs kK kV A) {L : Nat} {xs : Nat → Int32} (hX : va_X b L xs s s.heap) (hbl : b < s.heap.size) (hbA : ¬ A b) (hL : L ≤ 3072) {ax am : Nat} {i3 : Int32} (h0 : 0 ≤ i3.toInt) (h5 : i3.toInt + 5 < L) {H : Heap} {locs : List Loc} {cells slots : Nat} {Q : State → Prop} {ls : Array Slot} (hl : lv_has ls 4 [(3, .int i3), (2, .ref am), (1, .ref ax), (0, .ref b)]) (hJ : LI D cs A ax am H) (hS : va_S A s.heap H locs) (hc : cells + 12 ≤ 600000) (hs : slots + 454 ≤ 7302250) (kk : ∀ (H1 : Heap) (locs1 : List Loc), LI D cs A ax am H1 → va_S A s.heap H1 locs1 → W p l e room_1 s m #[Value.ref b] below meth c H1 locs1 (cells + 12) (slots + 454) Q (F0 m 1137 ls [])) : W p l e room_1 s m #[Value.ref b] below meth c H locs cells slots Q (F0 m 771 ls []) := by
  have ⟨hx, hb, hml, hown, hT, hE, hA⟩ := C
  obtain ⟨g, τ, x, md, ix, hI, ha, hAt, hU, hM, hlk⟩ := hJ
  refine lv_aload_n hx hb dL_law_771 rfl (lv_at hl 2 rfl) ?_
  refine lv_aload_n hx hb dL_law_772 rfl (lv_at hl 3 rfl) ?_
  refine lv_iload_n hx hb dL_law_773 rfl (lv_at hl 0 rfl) ?_
  refine lv_iconst (v := 1) hx hb dL_law_774 (by decide) ?_
  refine lv_iadd hx hb dL_law_775 ?_
  refine va_sld hx hb hX hbl hbA hS (lc_in hL h0 h5 (iv_c (by decide))) dL_law_776 ?_
  refine lv_topi (fun v1 ev1 => ?_)
  refine lv_aload_n hx hb dL_law_777 rfl (lv_at hl 3 rfl) ?_
  refine lv_iload_n hx hb dL_law_778 rfl (lv_at hl 0 rfl) ?_
  refine lv_iconst (v := 2) hx hb dL_law_779 (by decide) ?_
  refine lv_iadd hx hb dL_law_780 ?_
  refine va_sld hx hb hX hbl hbA hS (lc_in hL h0 h5 (iv_c (by decide))) dL_law_781 ?_
  refine lv_topi (fun v2 ev2 => ?_)
  refine lv_aload_n hx hb dL_law_782 rfl (lv_at hl 3 rfl) ?_
  refine lv_iload_n hx hb dL_law_783 rfl (lv_at hl 0 rfl) ?_
  refine lv_iconst (v := 3) hx hb dL_law_784 (by decide) ?_
  refine lv_iadd hx hb dL_law_785 ?_
  refine va_sld hx hb hX hbl hbA hS (lc_in hL h0 h5 (iv_c (by decide))) dL_law_786 ?_
  refine lv_topi (fun v3 ev3 => ?_)
  refine lv_aload_n hx hb dL_law_787 rfl (lv_at hl 3 rfl) ?_
  refine lv_iload_n hx hb dL_law_788 rfl (lv_at hl 0 rfl) ?_
  refine lv_iconst (v := 4) hx hb dL_law_789 (by decide) ?_
  refine lv_iadd hx hb dL_law_790 ?_
  refine va_sld hx hb hX hbl hbA hS (lc_in hL h0 h5 (iv_c (by decide))) dL_law_791 ?_
  refine lv_topi (fun v4 ev4 => ?_)
  refine lv_aload_n hx hb dL_law_792 rfl (lv_at hl 3 rfl) ?_
  refine lv_iload_n hx hb dL_law_793 rfl (lv_at hl 0 rfl) ?_
  refine lv_iconst (v := 5) hx hb dL_law_794 (by decide) ?_
  refine lv_iadd hx hb dL_law_795 ?_
  refine va_sld hx hb hX hbl hbA hS (lc_in hL h0 h5 (iv_c (by decide))) dL_law_796 ?_
  refine lv_topi (fun v5 ev5 => ?_)
  refine lx_yields C hl.1 v1 v2 v3 v4 v5 hI ha hAt hU hS (by omega) (by omega) (fun r1 g1 τ1 H1 locs1 hI1 ha1 hAt1 hU1 hR1 hK1 hS1 => ?_)
  have hM1 := hM.kept hK1
  refine lv_pop hx hb dL_law_800 rfl ?_
  refine lv_aload_n hx hb dL_law_801 rfl (lv_at hl 1 rfl) ?_
  refine lv_aload_n hx hb dL_law_802 rfl (lv_at hl 3 rfl) ?_
  refine lv_iload_n hx hb dL_law_803 rfl (lv_at hl 0 rfl) ?_
  refine lv_iconst (v := 1) hx hb dL_law_804 (by decide) ?_
  refine lv_iadd hx hb dL_law_805 ?_
  refine va_sld hx hb hX hbl hbA hS1 (lc_in hL h0 h5 (iv_c (by decide))) dL_law_806 ?_
  refine hz_ev v1 ev1.symm ?_
  refine lv_aload_n hx hb dL_law_807 rfl (lv_at hl 3 rfl) ?_
  refine lv_iload_n hx hb dL_law_808 rfl (lv_at hl 0 rfl) ?_
  refine lv_iconst (v := 2) hx hb dL_law_809 (by decide) ?_
  refine lv_iadd hx hb dL_law_810 ?_
  refine va_sld hx hb hX hbl hbA hS1 (lc_in hL h0 h5 (iv_c (by decide))) dL_law_811 ?_
  refine hz_ev v2 ev2.symm ?_
  refine lv_aload_n hx hb dL_law_812 rfl (lv_at hl 3 rfl) ?_
  refine lv_iload_n hx hb dL_law_813 rfl (lv_at hl 0 rfl) ?_
  refine lv_iconst (v := 3) hx hb dL_law_814 (by decide) ?_
  refine lv_iadd hx hb dL_law_815 ?_
  refine va_sld hx hb hX hbl hbA hS1 (lc_in hL h0 h5 (iv_c (by decide))) dL_law_816 ?_
  refine hz_ev v3 ev3.symm ?_
  refine lv_aload_n hx hb dL_law_817 rfl (lv_at hl 3 rfl) ?_
  refine lv_iload_n hx hb dL_law_818 rfl (lv_at hl 0 rfl) ?_
  refine lv_iconst (v := 4) hx hb dL_law_819 (by decide) ?_
  refine lv_iadd hx hb dL_law_820 ?_
  refine va_sld hx hb hX hbl hbA hS1 (lc_in hL h0 h5 (iv_c (by decide))) dL_law_821 ?_
  refine hz_ev v4 ev4.symm ?_
  refine lv_aload_n hx hb dL_law_822 rfl (lv_at hl 3 rfl) ?_
  refine lv_iload_n hx hb dL_law_823 rfl (lv_at hl 0 rfl) ?_
  refine lv_iconst (v := 5) hx hb dL_law_824 (by decide) ?_
  refine lv_iadd hx hb dL_law_825 ?_
  refine va_sld hx hb hX hbl hbA hS1 (lc_in hL h0 h5 (iv_c (by decide))) dL_law_826 ?_
  refine hz_ev v5 ev5.symm ?_
  refine mx_yields C hl.1 v1 v2 v3 v4 v5 [] (Nat.le_of_ble_eq_true rfl) hM1 hI1 hS1 (by omega) (by omega) (fun r2 x2 md2 ix2 H2 locs2 hM2 hI2 hR2 hS2 => ?_)
  refine lv_pop hx hb dL_law_830 rfl ?_
  refine lv_goto (tgt := 1137) hx hb dL_law_831 (by decide) ?_
  refine W.widen (k := cells + 12) (n := slots + 454) (by omega) (by omega) ?_
  exact kk H2 locs2 ⟨g1, τ1, x2, md2, ix2, hI2, ha1, hAt1, hU1, hM2, lk_same hlk hR1 hR2⟩ hS2
set_option maxHeartbeats 4000000 in
set_option maxRecDepth 100000 in
theorem lc_cry {p : Program} {l : Launch} {e : Env} {s : State} {m : MethodId} {below : List Frame} {meth : Method} {c : Code} {D : va_G} {cs : Nat → ClassId} {kK kV : Nat → Nat} {A : Nat → Prop} {b : Nat} (C : LC p s m c b D cs kK kV A) {L : Nat} {xs : Nat → Int32} (hX : va_X b L xs s s.heap) (hbl : b < s.heap.size) (hbA : ¬ A b) (hL : L ≤ 3072) {ax am : Nat} {i3 : Int32} (h0 : 0 ≤ i3.toInt) (h5 : i3.toInt + 5 < L) {H : Heap} {locs : List Loc} {cells slots : Nat} {Q : State → Prop} {ls : Array Slot} (hl : lv_has ls 4 [(3, .int i3), (2, .ref am), (1, .ref ax), (0, .ref b)]) (hJ : LI D cs A ax am H) (hS : va_S A s.heap H locs) (hc : cells + 12 ≤ 600000) (hs : slots + 454 ≤ 7302250) (kk : ∀ (H1 : Heap) (locs1 : List Loc), LI D cs A ax am H1 → va_S A s.heap H1 locs1 → W p l e room_1 s m #[Value.ref b] below meth c H1 locs1 (cells + 12) (slots + 454) Q (F0 m 1137 ls [])) : W p l e room_1 s m #[Value.ref b] below meth c H locs cells slots Q (F0 m 834 ls []) := by
  have ⟨hx, hb, hml, hown, hT, hE, hA⟩ := C
  obtain ⟨g, τ, x, md, ix, hI, ha, hAt, hU, hM, hlk⟩ := hJ
  refine lv_aload_n hx hb dL_law_834 rfl (lv_at hl 2 rfl) ?_
  refine lv_aload_n hx hb dL_law_835 rfl (lv_at hl 3 rfl) ?_
  refine lv_iload_n hx hb dL_law_836 rfl (lv_at hl 0 rfl) ?_
  refine lv_iconst (v := 1) hx hb dL_law_837 (by decide) ?_
  refine lv_iadd hx hb dL_law_838 ?_
  refine va_sld hx hb hX hbl hbA hS (lc_in hL h0 h5 (iv_c (by decide))) dL_law_839 ?_
  refine lv_topi (fun v1 ev1 => ?_)
  refine lv_aload_n hx hb dL_law_840 rfl (lv_at hl 3 rfl) ?_
  refine lv_iload_n hx hb dL_law_841 rfl (lv_at hl 0 rfl) ?_
  refine lv_iconst (v := 2) hx hb dL_law_842 (by decide) ?_
  refine lv_iadd hx hb dL_law_843 ?_
  refine va_sld hx hb hX hbl hbA hS (lc_in hL h0 h5 (iv_c (by decide))) dL_law_844 ?_
  refine lv_topi (fun v2 ev2 => ?_)
  refine lx_cry C hl.1 v1 v2 hI ha hAt hU hS (by omega) (by omega) (fun r1 g1 τ1 H1 locs1 hI1 ha1 hAt1 hU1 hR1 hK1 hS1 => ?_)
  have hM1 := hM.kept hK1
  refine lv_pop hx hb dL_law_848 rfl ?_
  refine lv_aload_n hx hb dL_law_849 rfl (lv_at hl 1 rfl) ?_
  refine lv_aload_n hx hb dL_law_850 rfl (lv_at hl 3 rfl) ?_
  refine lv_iload_n hx hb dL_law_851 rfl (lv_at hl 0 rfl) ?_
  refine lv_iconst (v := 1) hx hb dL_law_852 (by decide) ?_
  refine lv_iadd hx hb dL_law_853 ?_
  refine va_sld hx hb hX hbl hbA hS1 (lc_in hL h0 h5 (iv_c (by decide))) dL_law_854 ?_
  refine hz_ev v1 ev1.symm ?_
  refine lv_aload_n hx hb dL_law_855 rfl (lv_at hl 3 rfl) ?_
  refine lv_iload_n hx hb dL_law_856 rfl (lv_at hl 0 rfl) ?_
  refine lv_iconst (v := 2) hx hb dL_law_857 (by decide) ?_
  refine lv_iadd hx hb dL_law_858 ?_
  refine va_sld hx hb hX hbl hbA hS1 (lc_in hL h0 h5 (iv_c (by decide))) dL_law_859 ?_
  refine hz_ev v2 ev2.symm ?_
  refine mx_cry C hl.1 v1 v2 [] (Nat.le_of_ble_eq_true rfl) hM1 hI1 hS1 (by omega) (by omega) (fun r2 x2 md2 ix2 H2 locs2 hM2 hI2 hR2 hS2 => ?_)
  refine lv_pop hx hb dL_law_863 rfl ?_
  refine lv_goto (tgt := 1137) hx hb dL_law_864 (by decide) ?_
  refine W.widen (k := cells + 12) (n := slots + 454) (by omega) (by omega) ?_
  exact kk H2 locs2 ⟨g1, τ1, x2, md2, ix2, hI2, ha1, hAt1, hU1, hM2, lk_same hlk hR1 hR2⟩ hS2
set_option maxHeartbeats 4000000 in
set_option maxRecDepth 100000 in
theorem lc_bring {p : Program} {l : Launch} {e : Env} {s : State} {m : MethodId} {below : List Frame} {meth : Method} {c : Code} {D : va_G} {cs : Nat → ClassId} {kK kV : Nat → Nat} {A : Nat → Prop} {b : Nat} (C : LC p s m c b D cs kK kV A) {L : Nat} {xs : Nat → Int32} (hX : va_X b L xs s s.heap) (hbl : b < s.heap.size) (hbA : ¬ A b) (hL : L ≤ 3072) {ax am : Nat} {i3 : Int32} (h0 : 0 ≤ i3.toInt) (h5 : i3.toInt + 5 < L) {H : Heap} {locs : List Loc} {cells slots : Nat} {Q : State → Prop} {ls : Array Slot} (hl : lv_has ls 4 [(3, .int i3), (2, .ref am), (1, .ref ax), (0, .ref b)]) (hJ : LI D cs A ax am H) (hS : va_S A s.heap H locs) (hc : cells + 12 ≤ 600000) (hs : slots + 454 ≤ 7302250) (kk : ∀ (H1 : Heap) (locs1 : List Loc), LI D cs A ax am H1 → va_S A s.heap H1 locs1 → W p l e room_1 s m #[Value.ref b] below meth c H1 locs1 (cells + 12) (slots + 454) Q (F0 m 1137 ls [])) : W p l e room_1 s m #[Value.ref b] below meth c H locs cells slots Q (F0 m 867 ls []) := by
  have ⟨hx, hb, hml, hown, hT, hE, hA⟩ := C
  obtain ⟨g, τ, x, md, ix, hI, ha, hAt, hU, hM, hlk⟩ := hJ
  refine lv_aload_n hx hb dL_law_867 rfl (lv_at hl 2 rfl) ?_
  refine lv_aload_n hx hb dL_law_868 rfl (lv_at hl 3 rfl) ?_
  refine lv_iload_n hx hb dL_law_869 rfl (lv_at hl 0 rfl) ?_
  refine lv_iconst (v := 1) hx hb dL_law_870 (by decide) ?_
  refine lv_iadd hx hb dL_law_871 ?_
  refine va_sld hx hb hX hbl hbA hS (lc_in hL h0 h5 (iv_c (by decide))) dL_law_872 ?_
  refine lv_topi (fun v1 ev1 => ?_)
  refine lv_aload_n hx hb dL_law_873 rfl (lv_at hl 3 rfl) ?_
  refine lv_iload_n hx hb dL_law_874 rfl (lv_at hl 0 rfl) ?_
  refine lv_iconst (v := 2) hx hb dL_law_875 (by decide) ?_
  refine lv_iadd hx hb dL_law_876 ?_
  refine va_sld hx hb hX hbl hbA hS (lc_in hL h0 h5 (iv_c (by decide))) dL_law_877 ?_
  refine lv_topi (fun v2 ev2 => ?_)
  refine lv_aload_n hx hb dL_law_878 rfl (lv_at hl 3 rfl) ?_
  refine lv_iload_n hx hb dL_law_879 rfl (lv_at hl 0 rfl) ?_
  refine lv_iconst (v := 3) hx hb dL_law_880 (by decide) ?_
  refine lv_iadd hx hb dL_law_881 ?_
  refine va_sld hx hb hX hbl hbA hS (lc_in hL h0 h5 (iv_c (by decide))) dL_law_882 ?_
  refine lv_topi (fun v3 ev3 => ?_)
  refine lx_bring C hl.1 v1 v2 v3 hI ha hAt hU hS (by omega) (by omega) (fun r1 g1 τ1 H1 locs1 hI1 ha1 hAt1 hU1 hR1 hK1 hS1 => ?_)
  have hM1 := hM.kept hK1
  refine lv_pop hx hb dL_law_886 rfl ?_
  refine lv_aload_n hx hb dL_law_887 rfl (lv_at hl 1 rfl) ?_
  refine lv_aload_n hx hb dL_law_888 rfl (lv_at hl 3 rfl) ?_
  refine lv_iload_n hx hb dL_law_889 rfl (lv_at hl 0 rfl) ?_
  refine lv_iconst (v := 1) hx hb dL_law_890 (by decide) ?_
  refine lv_iadd hx hb dL_law_891 ?_
  refine va_sld hx hb hX hbl hbA hS1 (lc_in hL h0 h5 (iv_c (by decide))) dL_law_892 ?_
  refine hz_ev v1 ev1.symm ?_
  refine lv_aload_n hx hb dL_law_893 rfl (lv_at hl 3 rfl) ?_
  refine lv_iload_n hx hb dL_law_894 rfl (lv_at hl 0 rfl) ?_
  refine lv_iconst (v := 2) hx hb dL_law_895 (by decide) ?_
  refine lv_iadd hx hb dL_law_896 ?_
  refine va_sld hx hb hX hbl hbA hS1 (lc_in hL h0 h5 (iv_c (by decide))) dL_law_897 ?_
  refine hz_ev v2 ev2.symm ?_
  refine lv_aload_n hx hb dL_law_898 rfl (lv_at hl 3 rfl) ?_
  refine lv_iload_n hx hb dL_law_899 rfl (lv_at hl 0 rfl) ?_
  refine lv_iconst (v := 3) hx hb dL_law_900 (by decide) ?_
  refine lv_iadd hx hb dL_law_901 ?_
  refine va_sld hx hb hX hbl hbA hS1 (lc_in hL h0 h5 (iv_c (by decide))) dL_law_902 ?_
  refine hz_ev v3 ev3.symm ?_
  refine mx_bring C hl.1 v1 v2 v3 [] (Nat.le_of_ble_eq_true rfl) hM1 hI1 hS1 (by omega) (by omega) (fun r2 x2 md2 ix2 H2 locs2 hM2 hI2 hR2 hS2 => ?_)
  refine lv_pop hx hb dL_law_906 rfl ?_
  refine lv_goto (tgt := 1137) hx hb dL_law_907 (by decide) ?_
  refine W.widen (k := cells + 12) (n := slots + 454) (by omega) (by omega) ?_
  exact kk H2 locs2 ⟨g1, τ1, x2, md2, ix2, hI2, ha1, hAt1, hU1, hM2, lk_same hlk hR1 hR2⟩ hS2
set_option maxHeartbeats 4000000 in
set_option maxRecDepth 100000 in
theorem lc_trial {p : Program} {l : Launch} {e : Env} {s : State} {m : MethodId} {below : List Frame} {meth : Method} {c : Code} {D : va_G} {cs : Nat → ClassId} {kK kV : Nat → Nat} {A : Nat → Prop} {b : Nat} (C : LC p s m c b D cs kK kV A) {L : Nat} {xs : Nat → Int32} (hX : va_X b L xs s s.heap) (hbl : b < s.heap.size) (hbA : ¬ A b) (hL : L ≤ 3072) {ax am : Nat} {i3 : Int32} (h0 : 0 ≤ i3.toInt) (h5 : i3.toInt + 5 < L) {H : Heap} {locs : List Loc} {cells slots : Nat} {Q : State → Prop} {ls : Array Slot} (hl : lv_has ls 4 [(3, .int i3), (2, .ref am), (1, .ref ax), (0, .ref b)]) (hJ : LI D cs A ax am H) (hS : va_S A s.heap H locs) (hc : cells + 12 ≤ 600000) (hs : slots + 454 ≤ 7302250) (kk : ∀ (H1 : Heap) (locs1 : List Loc), LI D cs A ax am H1 → va_S A s.heap H1 locs1 → W p l e room_1 s m #[Value.ref b] below meth c H1 locs1 (cells + 12) (slots + 454) Q (F0 m 1137 ls [])) : W p l e room_1 s m #[Value.ref b] below meth c H locs cells slots Q (F0 m 910 ls []) := by
  have ⟨hx, hb, hml, hown, hT, hE, hA⟩ := C
  obtain ⟨g, τ, x, md, ix, hI, ha, hAt, hU, hM, hlk⟩ := hJ
  refine lv_aload_n hx hb dL_law_910 rfl (lv_at hl 2 rfl) ?_
  refine lv_aload_n hx hb dL_law_911 rfl (lv_at hl 3 rfl) ?_
  refine lv_iload_n hx hb dL_law_912 rfl (lv_at hl 0 rfl) ?_
  refine lv_iconst (v := 1) hx hb dL_law_913 (by decide) ?_
  refine lv_iadd hx hb dL_law_914 ?_
  refine va_sld hx hb hX hbl hbA hS (lc_in hL h0 h5 (iv_c (by decide))) dL_law_915 ?_
  refine lv_topi (fun v1 ev1 => ?_)
  refine lv_aload_n hx hb dL_law_916 rfl (lv_at hl 3 rfl) ?_
  refine lv_iload_n hx hb dL_law_917 rfl (lv_at hl 0 rfl) ?_
  refine lv_iconst (v := 2) hx hb dL_law_918 (by decide) ?_
  refine lv_iadd hx hb dL_law_919 ?_
  refine va_sld hx hb hX hbl hbA hS (lc_in hL h0 h5 (iv_c (by decide))) dL_law_920 ?_
  refine lv_topi (fun v2 ev2 => ?_)
  refine lv_aload_n hx hb dL_law_921 rfl (lv_at hl 3 rfl) ?_
  refine lv_iload_n hx hb dL_law_922 rfl (lv_at hl 0 rfl) ?_
  refine lv_iconst (v := 3) hx hb dL_law_923 (by decide) ?_
  refine lv_iadd hx hb dL_law_924 ?_
  refine va_sld hx hb hX hbl hbA hS (lc_in hL h0 h5 (iv_c (by decide))) dL_law_925 ?_
  refine lv_topi (fun v3 ev3 => ?_)
  refine lv_if_eq (tgt := 933) hx hb dL_law_926 (by decide) (fun c1 => ?_) (fun c1 => ?_)
  · refine lv_iconst (v := 0) hx hb dL_law_933 (by decide) ?_
    refine lx_trial C hl.1 v1 v2 0 (iv_c (by decide)) hI ha hAt hU hS (by omega) (by omega) (fun r1 g1 τ1 H1 locs1 hI1 ha1 hAt1 hU1 hR1 hK1 hS1 => ?_)
    have hM1 := hM.kept hK1
    refine lv_pop hx hb dL_law_937 rfl ?_
    refine lv_aload_n hx hb dL_law_938 rfl (lv_at hl 1 rfl) ?_
    refine lv_aload_n hx hb dL_law_939 rfl (lv_at hl 3 rfl) ?_
    refine lv_iload_n hx hb dL_law_940 rfl (lv_at hl 0 rfl) ?_
    refine lv_iconst (v := 1) hx hb dL_law_941 (by decide) ?_
    refine lv_iadd hx hb dL_law_942 ?_
    refine va_sld hx hb hX hbl hbA hS1 (lc_in hL h0 h5 (iv_c (by decide))) dL_law_943 ?_
    refine hz_ev v1 ev1.symm ?_
    refine lv_aload_n hx hb dL_law_944 rfl (lv_at hl 3 rfl) ?_
    refine lv_iload_n hx hb dL_law_945 rfl (lv_at hl 0 rfl) ?_
    refine lv_iconst (v := 2) hx hb dL_law_946 (by decide) ?_
    refine lv_iadd hx hb dL_law_947 ?_
    refine va_sld hx hb hX hbl hbA hS1 (lc_in hL h0 h5 (iv_c (by decide))) dL_law_948 ?_
    refine hz_ev v2 ev2.symm ?_
    refine lv_aload_n hx hb dL_law_949 rfl (lv_at hl 3 rfl) ?_
    refine lv_iload_n hx hb dL_law_950 rfl (lv_at hl 0 rfl) ?_
    refine lv_iconst (v := 3) hx hb dL_law_951 (by decide) ?_
    refine lv_iadd hx hb dL_law_952 ?_
    refine va_sld hx hb hX hbl hbA hS1 (lc_in hL h0 h5 (iv_c (by decide))) dL_law_953 ?_
    refine hz_ev v3 ev3.symm ?_
    refine lv_if_eq (tgt := 961) hx hb dL_law_954 (by decide) (fun _ => ?_) (fun z => absurd c1 z)
    refine lv_iconst (v := 0) hx hb dL_law_961 (by decide) ?_
    refine mx_trial C hl.1 v1 v2 0 (iv_c (by decide)) [] (Nat.le_of_ble_eq_true rfl) hM1 hI1 hS1 (by omega) (by omega) (fun r2 x2 md2 ix2 H2 locs2 hM2 hI2 hR2 hS2 => ?_)
    refine lv_pop hx hb dL_law_965 rfl ?_
    refine lv_goto (tgt := 1137) hx hb dL_law_966 (by decide) ?_
    refine W.widen (k := cells + 12) (n := slots + 454) (by omega) (by omega) ?_
    exact kk H2 locs2 ⟨g1, τ1, x2, md2, ix2, hI2, ha1, hAt1, hU1, hM2, lk_same hlk hR1 hR2⟩ hS2
  · refine lv_iconst (v := 1) hx hb dL_law_929 (by decide) ?_
    refine lv_goto (tgt := 934) hx hb dL_law_930 (by decide) ?_
    refine lx_trial C hl.1 v1 v2 1 (iv_c (by decide)) hI ha hAt hU hS (by omega) (by omega) (fun r1 g1 τ1 H1 locs1 hI1 ha1 hAt1 hU1 hR1 hK1 hS1 => ?_)
    have hM1 := hM.kept hK1
    refine lv_pop hx hb dL_law_937 rfl ?_
    refine lv_aload_n hx hb dL_law_938 rfl (lv_at hl 1 rfl) ?_
    refine lv_aload_n hx hb dL_law_939 rfl (lv_at hl 3 rfl) ?_
    refine lv_iload_n hx hb dL_law_940 rfl (lv_at hl 0 rfl) ?_
    refine lv_iconst (v := 1) hx hb dL_law_941 (by decide) ?_
    refine lv_iadd hx hb dL_law_942 ?_
    refine va_sld hx hb hX hbl hbA hS1 (lc_in hL h0 h5 (iv_c (by decide))) dL_law_943 ?_
    refine hz_ev v1 ev1.symm ?_
    refine lv_aload_n hx hb dL_law_944 rfl (lv_at hl 3 rfl) ?_
    refine lv_iload_n hx hb dL_law_945 rfl (lv_at hl 0 rfl) ?_
    refine lv_iconst (v := 2) hx hb dL_law_946 (by decide) ?_
    refine lv_iadd hx hb dL_law_947 ?_
    refine va_sld hx hb hX hbl hbA hS1 (lc_in hL h0 h5 (iv_c (by decide))) dL_law_948 ?_
    refine hz_ev v2 ev2.symm ?_
    refine lv_aload_n hx hb dL_law_949 rfl (lv_at hl 3 rfl) ?_
    refine lv_iload_n hx hb dL_law_950 rfl (lv_at hl 0 rfl) ?_
    refine lv_iconst (v := 3) hx hb dL_law_951 (by decide) ?_
    refine lv_iadd hx hb dL_law_952 ?_
    refine va_sld hx hb hX hbl hbA hS1 (lc_in hL h0 h5 (iv_c (by decide))) dL_law_953 ?_
    refine hz_ev v3 ev3.symm ?_
    refine lv_if_eq (tgt := 961) hx hb dL_law_954 (by decide) (fun z => absurd z c1) (fun _ => ?_)
    refine lv_iconst (v := 1) hx hb dL_law_957 (by decide) ?_
    refine lv_goto (tgt := 962) hx hb dL_law_958 (by decide) ?_
    refine mx_trial C hl.1 v1 v2 1 (iv_c (by decide)) [] (Nat.le_of_ble_eq_true rfl) hM1 hI1 hS1 (by omega) (by omega) (fun r2 x2 md2 ix2 H2 locs2 hM2 hI2 hR2 hS2 => ?_)
    refine lv_pop hx hb dL_law_965 rfl ?_
    refine lv_goto (tgt := 1137) hx hb dL_law_966 (by decide) ?_
    refine W.widen (k := cells + 12) (n := slots + 454) (by omega) (by omega) ?_
    exact kk H2 locs2 ⟨g1, τ1, x2, md2, ix2, hI2, ha1, hAt1, hU1, hM2, lk_same hlk hR1 hR2⟩ hS2
set_option maxHeartbeats 4000000 in
set_option maxRecDepth 100000 in
theorem lc_forgers {p : Program} {l : Launch} {e : Env} {s : State} {m : MethodId} {below : List Frame} {meth : Method} {c : Code} {D : va_G} {cs : Nat → ClassId} {kK kV : Nat → Nat} {A : Nat → Prop} {b : Nat} (C : LC p s m c b D cs kK kV A) {L : Nat} {xs : Nat → Int32} (hX : va_X b L xs s s.heap) (hbl : b < s.heap.size) (hbA : ¬ A b) (hL : L ≤ 3072) {ax am : Nat} {i3 : Int32} (h0 : 0 ≤ i3.toInt) (h5 : i3.toInt + 5 < L) {H : Heap} {locs : List Loc} {cells slots : Nat} {Q : State → Prop} {ls : Array Slot} (hl : lv_has ls 4 [(3, .int i3), (2, .ref am), (1, .ref ax), (0, .ref b)]) (hJ : LI D cs A ax am H) (hS : va_S A s.heap H locs) (hc : cells + 12 ≤ 600000) (hs : slots + 454 ≤ 7302250) (kk : ∀ (H1 : Heap) (locs1 : List Loc), LI D cs A ax am H1 → va_S A s.heap H1 locs1 → W p l e room_1 s m #[Value.ref b] below meth c H1 locs1 (cells + 12) (slots + 454) Q (F0 m 1137 ls [])) : W p l e room_1 s m #[Value.ref b] below meth c H locs cells slots Q (F0 m 969 ls []) := by
  have ⟨hx, hb, hml, hown, hT, hE, hA⟩ := C
  obtain ⟨g, τ, x, md, ix, hI, ha, hAt, hU, hM, hlk⟩ := hJ
  refine lv_aload_n hx hb dL_law_969 rfl (lv_at hl 2 rfl) ?_
  refine lv_aload_n hx hb dL_law_970 rfl (lv_at hl 3 rfl) ?_
  refine lv_iload_n hx hb dL_law_971 rfl (lv_at hl 0 rfl) ?_
  refine lv_iconst (v := 1) hx hb dL_law_972 (by decide) ?_
  refine lv_iadd hx hb dL_law_973 ?_
  refine va_sld hx hb hX hbl hbA hS (lc_in hL h0 h5 (iv_c (by decide))) dL_law_974 ?_
  refine lv_topi (fun v1 ev1 => ?_)
  refine lx_forgers C hl.1 v1 hI ha hAt hU hS (by omega) (by omega) (fun r1 g1 τ1 H1 locs1 hI1 ha1 hAt1 hU1 hR1 hK1 hS1 => ?_)
  have hM1 := hM.kept hK1
  refine lv_pop hx hb dL_law_978 rfl ?_
  refine lv_aload_n hx hb dL_law_979 rfl (lv_at hl 1 rfl) ?_
  refine lv_aload_n hx hb dL_law_980 rfl (lv_at hl 3 rfl) ?_
  refine lv_iload_n hx hb dL_law_981 rfl (lv_at hl 0 rfl) ?_
  refine lv_iconst (v := 1) hx hb dL_law_982 (by decide) ?_
  refine lv_iadd hx hb dL_law_983 ?_
  refine va_sld hx hb hX hbl hbA hS1 (lc_in hL h0 h5 (iv_c (by decide))) dL_law_984 ?_
  refine hz_ev v1 ev1.symm ?_
  refine mx_forgers C hl.1 v1 [] (Nat.le_of_ble_eq_true rfl) hM1 hI1 hS1 (by omega) (by omega) (fun r2 x2 md2 ix2 H2 locs2 hM2 hI2 hR2 hS2 => ?_)
  refine lv_pop hx hb dL_law_988 rfl ?_
  refine lv_goto (tgt := 1137) hx hb dL_law_989 (by decide) ?_
  refine W.widen (k := cells + 12) (n := slots + 454) (by omega) (by omega) ?_
  exact kk H2 locs2 ⟨g1, τ1, x2, md2, ix2, hI2, ha1, hAt1, hU1, hM2, lk_same hlk hR1 hR2⟩ hS2
set_option maxHeartbeats 4000000 in
set_option maxRecDepth 100000 in
theorem lc_seed {p : Program} {l : Launch} {e : Env} {s : State} {m : MethodId} {below : List Frame} {meth : Method} {c : Code} {D : va_G} {cs : Nat → ClassId} {kK kV : Nat → Nat} {A : Nat → Prop} {b : Nat} (C : LC p s m c b D cs kK kV A) {L : Nat} {xs : Nat → Int32} (hX : va_X b L xs s s.heap) (hbl : b < s.heap.size) (hbA : ¬ A b) (hL : L ≤ 3072) {ax am : Nat} {i3 : Int32} (h0 : 0 ≤ i3.toInt) (h5 : i3.toInt + 5 < L) {H : Heap} {locs : List Loc} {cells slots : Nat} {Q : State → Prop} {ls : Array Slot} (hl : lv_has ls 4 [(3, .int i3), (2, .ref am), (1, .ref ax), (0, .ref b)]) (hJ : LI D cs A ax am H) (hS : va_S A s.heap H locs) (hc : cells + 12 ≤ 600000) (hs : slots + 454 ≤ 7302250) (kk : ∀ (H1 : Heap) (locs1 : List Loc), LI D cs A ax am H1 → va_S A s.heap H1 locs1 → W p l e room_1 s m #[Value.ref b] below meth c H1 locs1 (cells + 12) (slots + 454) Q (F0 m 1137 ls [])) : W p l e room_1 s m #[Value.ref b] below meth c H locs cells slots Q (F0 m 992 ls []) := by
  have ⟨hx, hb, hml, hown, hT, hE, hA⟩ := C
  obtain ⟨g, τ, x, md, ix, hI, ha, hAt, hU, hM, hlk⟩ := hJ
  refine lv_aload_n hx hb dL_law_992 rfl (lv_at hl 2 rfl) ?_
  refine lv_aload_n hx hb dL_law_993 rfl (lv_at hl 3 rfl) ?_
  refine lv_iload_n hx hb dL_law_994 rfl (lv_at hl 0 rfl) ?_
  refine lv_iconst (v := 1) hx hb dL_law_995 (by decide) ?_
  refine lv_iadd hx hb dL_law_996 ?_
  refine va_sld hx hb hX hbl hbA hS (lc_in hL h0 h5 (iv_c (by decide))) dL_law_997 ?_
  refine lv_topi (fun v1 ev1 => ?_)
  refine lx_seed C hl.1 v1 hI ha hAt hU hS (by omega) (by omega) (fun r1 g1 τ1 H1 locs1 hI1 ha1 hAt1 hU1 hR1 hK1 hS1 => ?_)
  have hM1 := hM.kept hK1
  refine lv_aload_n hx hb dL_law_1001 rfl (lv_at hl 1 rfl) ?_
  refine lv_aload_n hx hb dL_law_1002 rfl (lv_at hl 3 rfl) ?_
  refine lv_iload_n hx hb dL_law_1003 rfl (lv_at hl 0 rfl) ?_
  refine lv_iconst (v := 1) hx hb dL_law_1004 (by decide) ?_
  refine lv_iadd hx hb dL_law_1005 ?_
  refine va_sld hx hb hX hbl hbA hS1 (lc_in hL h0 h5 (iv_c (by decide))) dL_law_1006 ?_
  refine hz_ev v1 ev1.symm ?_
  refine mx_seed C hl.1 v1 [.int r1] (Nat.le_of_ble_eq_true rfl) hM1 hI1 hS1 (by omega) (by omega) (fun r2 x2 md2 ix2 H2 locs2 hM2 hI2 hR2 hS2 => ?_)
  obtain ⟨er, hlk⟩ := lk_seed hlk hR1 hR2
  refine lv_icmp_eq (tgt := 1137) hx hb dL_law_1010 (by decide) (fun _ => ?_) (fun z => absurd er z)
  refine W.widen (k := cells + 12) (n := slots + 454) (by omega) (by omega) ?_
  exact kk H2 locs2 ⟨g1, τ1, x2, md2, ix2, hI2, ha1, hAt1, hU1, hM2, hlk⟩ hS2
set_option maxHeartbeats 4000000 in
set_option maxRecDepth 100000 in
theorem lc_fairs {p : Program} {l : Launch} {e : Env} {s : State} {m : MethodId} {below : List Frame} {meth : Method} {c : Code} {D : va_G} {cs : Nat → ClassId} {kK kV : Nat → Nat} {A : Nat → Prop} {b : Nat} (C : LC p s m c b D cs kK kV A) {L : Nat} {xs : Nat → Int32} (hX : va_X b L xs s s.heap) (hbl : b < s.heap.size) (hbA : ¬ A b) (hL : L ≤ 3072) {ax am : Nat} {i3 : Int32} (h0 : 0 ≤ i3.toInt) (h5 : i3.toInt + 5 < L) {H : Heap} {locs : List Loc} {cells slots : Nat} {Q : State → Prop} {ls : Array Slot} (hl : lv_has ls 4 [(3, .int i3), (2, .ref am), (1, .ref ax), (0, .ref b)]) (hJ : LI D cs A ax am H) (hS : va_S A s.heap H locs) (hc : cells + 12 ≤ 600000) (hs : slots + 454 ≤ 7302250) (kk : ∀ (H1 : Heap) (locs1 : List Loc), LI D cs A ax am H1 → va_S A s.heap H1 locs1 → W p l e room_1 s m #[Value.ref b] below meth c H1 locs1 (cells + 12) (slots + 454) Q (F0 m 1137 ls [])) : W p l e room_1 s m #[Value.ref b] below meth c H locs cells slots Q (F0 m 1015 ls []) := by
  have ⟨hx, hb, hml, hown, hT, hE, hA⟩ := C
  obtain ⟨g, τ, x, md, ix, hI, ha, hAt, hU, hM, hlk⟩ := hJ
  refine lv_aload_n hx hb dL_law_1015 rfl (lv_at hl 2 rfl) ?_
  refine lv_aload_n hx hb dL_law_1016 rfl (lv_at hl 3 rfl) ?_
  refine lv_iload_n hx hb dL_law_1017 rfl (lv_at hl 0 rfl) ?_
  refine lv_iconst (v := 1) hx hb dL_law_1018 (by decide) ?_
  refine lv_iadd hx hb dL_law_1019 ?_
  refine va_sld hx hb hX hbl hbA hS (lc_in hL h0 h5 (iv_c (by decide))) dL_law_1020 ?_
  refine lv_topi (fun v1 ev1 => ?_)
  refine lv_aload_n hx hb dL_law_1021 rfl (lv_at hl 3 rfl) ?_
  refine lv_iload_n hx hb dL_law_1022 rfl (lv_at hl 0 rfl) ?_
  refine lv_iconst (v := 2) hx hb dL_law_1023 (by decide) ?_
  refine lv_iadd hx hb dL_law_1024 ?_
  refine va_sld hx hb hX hbl hbA hS (lc_in hL h0 h5 (iv_c (by decide))) dL_law_1025 ?_
  refine lv_topi (fun v2 ev2 => ?_)
  refine lv_aload_n hx hb dL_law_1026 rfl (lv_at hl 3 rfl) ?_
  refine lv_iload_n hx hb dL_law_1027 rfl (lv_at hl 0 rfl) ?_
  refine lv_iconst (v := 3) hx hb dL_law_1028 (by decide) ?_
  refine lv_iadd hx hb dL_law_1029 ?_
  refine va_sld hx hb hX hbl hbA hS (lc_in hL h0 h5 (iv_c (by decide))) dL_law_1030 ?_
  refine lv_topi (fun v3 ev3 => ?_)
  refine lv_aload_n hx hb dL_law_1031 rfl (lv_at hl 3 rfl) ?_
  refine lv_iload_n hx hb dL_law_1032 rfl (lv_at hl 0 rfl) ?_
  refine lv_iconst (v := 4) hx hb dL_law_1033 (by decide) ?_
  refine lv_iadd hx hb dL_law_1034 ?_
  refine va_sld hx hb hX hbl hbA hS (lc_in hL h0 h5 (iv_c (by decide))) dL_law_1035 ?_
  refine lv_topi (fun v4 ev4 => ?_)
  refine lx_fairs C hl.1 v1 v2 v3 v4 hI ha hAt hU hS (by omega) (by omega) (fun r1 g1 τ1 H1 locs1 hI1 ha1 hAt1 hU1 hR1 hK1 hS1 => ?_)
  have hM1 := hM.kept hK1
  refine lv_pop hx hb dL_law_1039 rfl ?_
  refine lv_aload_n hx hb dL_law_1040 rfl (lv_at hl 1 rfl) ?_
  refine lv_aload_n hx hb dL_law_1041 rfl (lv_at hl 3 rfl) ?_
  refine lv_iload_n hx hb dL_law_1042 rfl (lv_at hl 0 rfl) ?_
  refine lv_iconst (v := 1) hx hb dL_law_1043 (by decide) ?_
  refine lv_iadd hx hb dL_law_1044 ?_
  refine va_sld hx hb hX hbl hbA hS1 (lc_in hL h0 h5 (iv_c (by decide))) dL_law_1045 ?_
  refine hz_ev v1 ev1.symm ?_
  refine lv_aload_n hx hb dL_law_1046 rfl (lv_at hl 3 rfl) ?_
  refine lv_iload_n hx hb dL_law_1047 rfl (lv_at hl 0 rfl) ?_
  refine lv_iconst (v := 2) hx hb dL_law_1048 (by decide) ?_
  refine lv_iadd hx hb dL_law_1049 ?_
  refine va_sld hx hb hX hbl hbA hS1 (lc_in hL h0 h5 (iv_c (by decide))) dL_law_1050 ?_
  refine hz_ev v2 ev2.symm ?_
  refine lv_aload_n hx hb dL_law_1051 rfl (lv_at hl 3 rfl) ?_
  refine lv_iload_n hx hb dL_law_1052 rfl (lv_at hl 0 rfl) ?_
  refine lv_iconst (v := 3) hx hb dL_law_1053 (by decide) ?_
  refine lv_iadd hx hb dL_law_1054 ?_
  refine va_sld hx hb hX hbl hbA hS1 (lc_in hL h0 h5 (iv_c (by decide))) dL_law_1055 ?_
  refine hz_ev v3 ev3.symm ?_
  refine lv_aload_n hx hb dL_law_1056 rfl (lv_at hl 3 rfl) ?_
  refine lv_iload_n hx hb dL_law_1057 rfl (lv_at hl 0 rfl) ?_
  refine lv_iconst (v := 4) hx hb dL_law_1058 (by decide) ?_
  refine lv_iadd hx hb dL_law_1059 ?_
  refine va_sld hx hb hX hbl hbA hS1 (lc_in hL h0 h5 (iv_c (by decide))) dL_law_1060 ?_
  refine hz_ev v4 ev4.symm ?_
  refine mx_fairs C hl.1 v1 v2 v3 v4 [] (Nat.le_of_ble_eq_true rfl) hM1 hI1 hS1 (by omega) (by omega) (fun r2 x2 md2 ix2 H2 locs2 hM2 hI2 hR2 hS2 => ?_)
  refine lv_pop hx hb dL_law_1064 rfl ?_
  refine lv_goto (tgt := 1137) hx hb dL_law_1065 (by decide) ?_
  refine W.widen (k := cells + 12) (n := slots + 454) (by omega) (by omega) ?_
  exact kk H2 locs2 ⟨g1, τ1, x2, md2, ix2, hI2, ha1, hAt1, hU1, hM2, lk_same hlk hR1 hR2⟩ hS2
set_option maxHeartbeats 4000000 in
set_option maxRecDepth 100000 in
theorem lc_count {p : Program} {l : Launch} {e : Env} {s : State} {m : MethodId} {below : List Frame} {meth : Method} {c : Code} {D : va_G} {cs : Nat → ClassId} {kK kV : Nat → Nat} {A : Nat → Prop} {b : Nat} (C : LC p s m c b D cs kK kV A) {L : Nat} {xs : Nat → Int32} (hX : va_X b L xs s s.heap) (hbl : b < s.heap.size) (hbA : ¬ A b) (hL : L ≤ 3072) {ax am : Nat} {i3 : Int32} (h0 : 0 ≤ i3.toInt) (h5 : i3.toInt + 5 < L) {H : Heap} {locs : List Loc} {cells slots : Nat} {Q : State → Prop} {ls : Array Slot} (hl : lv_has ls 4 [(3, .int i3), (2, .ref am), (1, .ref ax), (0, .ref b)]) (hJ : LI D cs A ax am H) (hS : va_S A s.heap H locs) (hc : cells + 12 ≤ 600000) (hs : slots + 454 ≤ 7302250) (kk : ∀ (H1 : Heap) (locs1 : List Loc), LI D cs A ax am H1 → va_S A s.heap H1 locs1 → W p l e room_1 s m #[Value.ref b] below meth c H1 locs1 (cells + 12) (slots + 454) Q (F0 m 1137 ls [])) : W p l e room_1 s m #[Value.ref b] below meth c H locs cells slots Q (F0 m 1068 ls []) := by
  have ⟨hx, hb, hml, hown, hT, hE, hA⟩ := C
  obtain ⟨g, τ, x, md, ix, hI, ha, hAt, hU, hM, hlk⟩ := hJ
  refine lv_aload_n hx hb dL_law_1068 rfl (lv_at hl 2 rfl) ?_
  refine lv_aload_n hx hb dL_law_1069 rfl (lv_at hl 3 rfl) ?_
  refine lv_iload_n hx hb dL_law_1070 rfl (lv_at hl 0 rfl) ?_
  refine lv_iconst (v := 1) hx hb dL_law_1071 (by decide) ?_
  refine lv_iadd hx hb dL_law_1072 ?_
  refine va_sld hx hb hX hbl hbA hS (lc_in hL h0 h5 (iv_c (by decide))) dL_law_1073 ?_
  refine lv_topi (fun v1 ev1 => ?_)
  refine lx_count C hl.1 v1 hI ha hAt hU hS (by omega) (by omega) (fun r1 g1 τ1 H1 locs1 hI1 ha1 hAt1 hU1 hR1 hK1 hS1 => ?_)
  have hM1 := hM.kept hK1
  refine lv_pop hx hb dL_law_1077 rfl ?_
  refine lv_aload_n hx hb dL_law_1078 rfl (lv_at hl 1 rfl) ?_
  refine lv_aload_n hx hb dL_law_1079 rfl (lv_at hl 3 rfl) ?_
  refine lv_iload_n hx hb dL_law_1080 rfl (lv_at hl 0 rfl) ?_
  refine lv_iconst (v := 1) hx hb dL_law_1081 (by decide) ?_
  refine lv_iadd hx hb dL_law_1082 ?_
  refine va_sld hx hb hX hbl hbA hS1 (lc_in hL h0 h5 (iv_c (by decide))) dL_law_1083 ?_
  refine hz_ev v1 ev1.symm ?_
  refine mx_count C hl.1 v1 [] (Nat.le_of_ble_eq_true rfl) hM1 hI1 hS1 (by omega) (by omega) (fun r2 x2 md2 ix2 H2 locs2 hM2 hI2 hR2 hS2 => ?_)
  refine lv_pop hx hb dL_law_1087 rfl ?_
  refine lv_goto (tgt := 1137) hx hb dL_law_1088 (by decide) ?_
  refine W.widen (k := cells + 12) (n := slots + 454) (by omega) (by omega) ?_
  exact kk H2 locs2 ⟨g1, τ1, x2, md2, ix2, hI2, ha1, hAt1, hU1, hM2, lk_same hlk hR1 hR2⟩ hS2
set_option maxHeartbeats 4000000 in
set_option maxRecDepth 100000 in
theorem lc_image {p : Program} {l : Launch} {e : Env} {s : State} {m : MethodId} {below : List Frame} {meth : Method} {c : Code} {D : va_G} {cs : Nat → ClassId} {kK kV : Nat → Nat} {A : Nat → Prop} {b : Nat} (C : LC p s m c b D cs kK kV A) {L : Nat} {xs : Nat → Int32} (hX : va_X b L xs s s.heap) (hbl : b < s.heap.size) (hbA : ¬ A b) (hL : L ≤ 3072) {ax am : Nat} {i3 : Int32} (h0 : 0 ≤ i3.toInt) (h5 : i3.toInt + 5 < L) {H : Heap} {locs : List Loc} {cells slots : Nat} {Q : State → Prop} {ls : Array Slot} (hl : lv_has ls 4 [(3, .int i3), (2, .ref am), (1, .ref ax), (0, .ref b)]) (hJ : LI D cs A ax am H) (hS : va_S A s.heap H locs) (hc : cells + 12 ≤ 600000) (hs : slots + 454 ≤ 7302250) (kk : ∀ (H1 : Heap) (locs1 : List Loc), LI D cs A ax am H1 → va_S A s.heap H1 locs1 → W p l e room_1 s m #[Value.ref b] below meth c H1 locs1 (cells + 12) (slots + 454) Q (F0 m 1137 ls [])) : W p l e room_1 s m #[Value.ref b] below meth c H locs cells slots Q (F0 m 1091 ls []) := by
  have ⟨hx, hb, hml, hown, hT, hE, hA⟩ := C
  obtain ⟨g, τ, x, md, ix, hI, ha, hAt, hU, hM, hlk⟩ := hJ
  refine lv_aload_n hx hb dL_law_1091 rfl (lv_at hl 2 rfl) ?_
  refine lv_aload_n hx hb dL_law_1092 rfl (lv_at hl 3 rfl) ?_
  refine lv_iload_n hx hb dL_law_1093 rfl (lv_at hl 0 rfl) ?_
  refine lv_iconst (v := 1) hx hb dL_law_1094 (by decide) ?_
  refine lv_iadd hx hb dL_law_1095 ?_
  refine va_sld hx hb hX hbl hbA hS (lc_in hL h0 h5 (iv_c (by decide))) dL_law_1096 ?_
  refine lv_topi (fun v1 ev1 => ?_)
  refine lx_image C hl.1 v1 hI ha hAt hU hS (by omega) (by omega) (fun r1 g1 τ1 H1 locs1 hI1 ha1 hAt1 hU1 hR1 hK1 hS1 => ?_)
  have hM1 := hM.kept hK1
  refine lv_pop hx hb dL_law_1100 rfl ?_
  refine lv_aload_n hx hb dL_law_1101 rfl (lv_at hl 1 rfl) ?_
  refine lv_aload_n hx hb dL_law_1102 rfl (lv_at hl 3 rfl) ?_
  refine lv_iload_n hx hb dL_law_1103 rfl (lv_at hl 0 rfl) ?_
  refine lv_iconst (v := 1) hx hb dL_law_1104 (by decide) ?_
  refine lv_iadd hx hb dL_law_1105 ?_
  refine va_sld hx hb hX hbl hbA hS1 (lc_in hL h0 h5 (iv_c (by decide))) dL_law_1106 ?_
  refine hz_ev v1 ev1.symm ?_
  refine mx_image C hl.1 v1 [] (Nat.le_of_ble_eq_true rfl) hM1 hI1 hS1 (by omega) (by omega) (fun r2 x2 md2 ix2 H2 locs2 hM2 hI2 hR2 hS2 => ?_)
  refine lv_pop hx hb dL_law_1110 rfl ?_
  refine lv_goto (tgt := 1137) hx hb dL_law_1111 (by decide) ?_
  refine W.widen (k := cells + 12) (n := slots + 454) (by omega) (by omega) ?_
  exact kk H2 locs2 ⟨g1, τ1, x2, md2, ix2, hI2, ha1, hAt1, hU1, hM2, lk_image hlk hR1 hR2⟩ hS2
set_option maxHeartbeats 4000000 in
set_option maxRecDepth 100000 in
theorem lc_back {p : Program} {l : Launch} {e : Env} {s : State} {m : MethodId} {below : List Frame} {meth : Method} {c : Code} {D : va_G} {cs : Nat → ClassId} {kK kV : Nat → Nat} {A : Nat → Prop} {b : Nat} (C : LC p s m c b D cs kK kV A) {L : Nat} {xs : Nat → Int32} (hX : va_X b L xs s s.heap) (hbl : b < s.heap.size) (hbA : ¬ A b) (hL : L ≤ 3072) {ax am : Nat} {i3 : Int32} (h0 : 0 ≤ i3.toInt) (h5 : i3.toInt + 5 < L) {H : Heap} {locs : List Loc} {cells slots : Nat} {Q : State → Prop} {ls : Array Slot} (hl : lv_has ls 4 [(3, .int i3), (2, .ref am), (1, .ref ax), (0, .ref b)]) (hJ : LI D cs A ax am H) (hS : va_S A s.heap H locs) (hc : cells + 12 ≤ 600000) (hs : slots + 454 ≤ 7302250) (kk : ∀ (H1 : Heap) (locs1 : List Loc), LI D cs A ax am H1 → va_S A s.heap H1 locs1 → W p l e room_1 s m #[Value.ref b] below meth c H1 locs1 (cells + 12) (slots + 454) Q (F0 m 1137 ls [])) : W p l e room_1 s m #[Value.ref b] below meth c H locs cells slots Q (F0 m 1114 ls []) := by
  have ⟨hx, hb, hml, hown, hT, hE, hA⟩ := C
  obtain ⟨g, τ, x, md, ix, hI, ha, hAt, hU, hM, hlk⟩ := hJ
  refine lv_aload_n hx hb dL_law_1114 rfl (lv_at hl 2 rfl) ?_
  refine lv_aload_n hx hb dL_law_1115 rfl (lv_at hl 3 rfl) ?_
  refine lv_iload_n hx hb dL_law_1116 rfl (lv_at hl 0 rfl) ?_
  refine lv_iconst (v := 1) hx hb dL_law_1117 (by decide) ?_
  refine lv_iadd hx hb dL_law_1118 ?_
  refine va_sld hx hb hX hbl hbA hS (lc_in hL h0 h5 (iv_c (by decide))) dL_law_1119 ?_
  refine lv_topi (fun v1 ev1 => ?_)
  refine lx_back C hl.1 v1 hI ha hAt hU hS (by omega) (by omega) (fun r1 g1 τ1 H1 locs1 hI1 ha1 hAt1 hU1 hR1 hK1 hS1 => ?_)
  have hM1 := hM.kept hK1
  refine lv_pop hx hb dL_law_1123 rfl ?_
  refine lv_aload_n hx hb dL_law_1124 rfl (lv_at hl 1 rfl) ?_
  refine lv_aload_n hx hb dL_law_1125 rfl (lv_at hl 3 rfl) ?_
  refine lv_iload_n hx hb dL_law_1126 rfl (lv_at hl 0 rfl) ?_
  refine lv_iconst (v := 1) hx hb dL_law_1127 (by decide) ?_
  refine lv_iadd hx hb dL_law_1128 ?_
  refine va_sld hx hb hX hbl hbA hS1 (lc_in hL h0 h5 (iv_c (by decide))) dL_law_1129 ?_
  refine hz_ev v1 ev1.symm ?_
  refine mx_back C hl.1 v1 [] (Nat.le_of_ble_eq_true rfl) hM1 hI1 hS1 (by omega) (by omega) (fun r2 x2 md2 ix2 H2 locs2 hM2 hI2 hR2 hS2 => ?_)
  refine lv_pop hx hb dL_law_1133 rfl ?_
  refine lv_goto (tgt := 1137) hx hb dL_law_1134 (by decide) ?_
  refine W.widen (k := cells + 12) (n := slots + 454) (by omega) (by omega) ?_
  exact kk H2 locs2 ⟨g1, τ1, x2, md2, ix2, hI2, ha1, hAt1, hU1, hM2, lk_back hlk hR1 hR2⟩ hS2
