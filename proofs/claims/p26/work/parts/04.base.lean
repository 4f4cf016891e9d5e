-- ===== the environment of every contract: tables, nest links, strings =====
section HZ
variable {p : Program} {l : Launch} {e : Env} {R : Room} {s : State} {m : MethodId} {args : Array Value} {below : List Frame} {meth : Method} {c : Code} {H : Heap} {locs : List Loc} {cells slots : Nat} {Q : State → Prop}
variable {cc : ByteArray} {pc : Nat} {ls : Array Slot} {rest : List Value} {D : va_G} {cl : List vw_C} {A : Nat → Prop} {a : Nat} {tys : List (ClassId × FieldType)} {ws : va_W} {H0 : Heap}
theorem hz_ev {x : Int32} (y : Int32) (h : x = y) (k : W p l e R s m args below meth c H locs cells slots Q (F0 m pc ls (.int y :: rest))) : W p l e R s m args below meth c H locs cells slots Q (F0 m pc ls (.int x :: rest)) := h ▸ k
theorem hz_evl {x : Int64} (y : Int64) (h : x = y) (k : W p l e R s m args below meth c H locs cells slots Q (F0 m pc ls (.long y :: rest))) : W p l e R s m args below meth c H locs cells slots Q (F0 m pc ls (.long x :: rest)) := h ▸ k
theorem hz_evr {x : Value} (y : Value) (h : x = y) (k : W p l e R s m args below meth c H locs cells slots Q (F0 m pc ls (y :: rest))) : W p l e R s m args below meth c H locs cells slots Q (F0 m pc ls (x :: rest)) := h ▸ k
theorem hz_RA {U : State} {c1 c2 : ClassId} {ty : FieldType} (h1 : va_RA U c1 ty) (h2 : va_RA U c2 ty) : c1 = c2 := by
  cases ty with
  | object C =>
    obtain ⟨_, _, -, -, -, h⟩ := h1
    obtain ⟨_, _, -, -, -, h'⟩ := h2
    exact Option.some.inj (h.symm.trans h')
  | _ => exact Option.some.inj (Eq.trans (Eq.symm h1) h2)
theorem hz_newa (hexec : p.tables.exec = Jvm.exec) (hb : c.code = cc) {atype : ArrayType} (harr : (Cond.arrayClass (newarray.typeOf atype)).before args s = true) {ty : FieldType} (hty : newarray.typeOf atype = ty) (hK : va_K D cl tys s) (hP : va_P D cl ws H) (hD : va_D A ws) (hS : va_S A H0 H locs) (hA : ∀ q, H0.size ≤ q → A q)
    {n : Int32} {N' : Nat} {a0 : vp_A} (ha : ∀ cA : ClassId, vp_cell cA a0 = arrV cA N' (fun _ => defaultValue ty)) (hn : ¬ n < 0) (hN : n.toNatClampNeg = N') (hbytes : N' * componentBytes ty ≤ 536870912) (hcells : cells + 1 ≤ R.cells) (hslots : slots + N' ≤ R.slots) (hdg : decode cc pc = .ok (.newarray atype, 2)) (t0 : Nat) {c0 : ClassId} (ht : tys[t0]? = some (c0, ty))
    (kk : ∀ (q : Nat) (H1 : Heap), va_P D cl (ws ++ [(q, .inl (c0, a0))]) H1 → va_D A (ws ++ [(q, .inl (c0, a0))]) → va_S A H0 H1 locs →
      W p l e R s m args below meth c H1 locs (cells + 1) (slots + N') Q (F0 m (pc + 2) ls (.ref q :: rest))) : W p l e R s m args below meth c H locs cells slots Q (F0 m pc ls (.int n :: rest)) := by
  refine va_newa hexec hb harr hty hK hP hD hS hA ha hn hN hbytes hcells hslots hdg (fun q cA H1 hK' hP' hD' hS' => ?_)
  have h1 := (hK'.2 tys.length (cA, ty) (by simp)).2
  have h2 := (hK.2 t0 _ ht).2
  have h3 : cA = c0 := hz_RA h1 h2
  subst h3
  exact kk q H1 hP' hD' hS'
theorem hz_newq (hexec : p.tables.exec = Jvm.exec) (hb : c.code = cc) {own C : String} {index : Nat} (hown : s.vm.findClass own = some m.cls) (hclink : (Cond.classLink own index C).before args s = true) (hover : va_AO C s) (hK : va_K D cl tys s) (hP : va_P D cl ws H) (hD : va_D A ws) (hS : va_S A H0 H locs) (hA : ∀ q, H0.size ≤ q → A q)
    {n : Int32} {N' : Nat} (hn : ¬ n < 0) (hN : n.toNatClampNeg = N') (hbytes : N' * 4 ≤ 536870912) (hcells : cells + 1 ≤ R.cells) (hslots : slots + N' ≤ R.slots) (hdg : decode cc pc = .ok (.anewarray index, 3)) (t0 : Nat) {c0 : ClassId} (ht : tys[t0]? = some (c0, .object C))
    (kk : ∀ (q : Nat) (H1 : Heap), va_P D cl (ws ++ [(q, .inl (c0, N', .inr (.inr (.inr (.inr (fun _ => none))))))]) H1 → va_D A (ws ++ [(q, .inl (c0, N', .inr (.inr (.inr (.inr (fun _ => none))))))]) → va_S A H0 H1 locs →
      W p l e R s m args below meth c H1 locs (cells + 1) (slots + N') Q (F0 m (pc + 3) ls (.ref q :: rest))) : W p l e R s m args below meth c H locs cells slots Q (F0 m pc ls (.int n :: rest)) := by
  refine va_newq hexec hb hown hclink hover hK hP hD hS hA hn hN hbytes hcells hslots hdg (fun q cA H1 hK' hP' hD' hS' => ?_)
  have h1 := (hK'.2 tys.length (cA, .object C) (by simp)).2
  have h2 := (hK.2 t0 _ ht).2
  have h3 : cA = c0 := hz_RA h1 h2
  subst h3
  exact kk q H1 hP' hD' hS'
theorem hz_keep {H1 : Heap} (hP : va_P D cl ws H) (hk : ∀ q : Nat, q < H.size → ¬ (fun _ : Nat => False) q → H1[q]? = H[q]?) : va_P D cl ws H1 := hP.kept (fun k q h => hk q.1 ((hP k q h).lt) (fun z => z))
end HZ
def hz_Nst (U : State) : Prop := ∀ i : Nat, i < 14 → va_Nw (.methodLinkNest (nwA i) (nwI i) (nwY i) "HalfFair") U
theorem hz_Nst.warm {s U : State} (hW : s.WarmedH U.vm) (h : hz_Nst s) : hz_Nst U := fun i hi => va_Nw.warmM hW (h i hi)
theorem hz_Nst.same {s U : State} (hv : s.vm = U.vm) (h : hz_Nst s) : hz_Nst U := fun i hi => va_Nw.same rfl hv (h i hi)
abbrev classes : List vw_C := [(RX0, TX0, 3), (RX1, TX1, 4), (RX2, TX2, 10), (RX3, TX3, 2), (RX4, TX4, 6), (RX5, TX5, 4), (RX6, TX6, 6), (RX7, TX7, 4), (RX8, TX8, 18), (RX9, TX9, 7), (RX10, TX10, 11), (RX11, TX11, 17), (RX12, TX12, 37)]
abbrev TY (cs : Nat → ClassId) : List (ClassId × FieldType) := [(cs 0, .int), (cs 1, .byte), (cs 2, .boolean), (cs 3, .long), (cs 4, .object RX4), (cs 5, .object RX6), (cs 6, .object RX1)]
def hz_len : List Nat := [45, 7, 71, 3, 4, 7]
def hz_byt : List (List Int32) := [[115, 116, 97, 108, 108, 115, 32, 104, 97, 108, 102, 32, 102, 111, 114, 103, 101, 100, 32, 98, 117, 121, 101, 114, 32, 99, 108, 117, 98, 32, 110, 101, 97, 114, 32, 100, 117, 115, 107, 32, 104, 101, 97, 114, 32], [98, 117, 121, 32, 103, 111, 32], [98, 117, 121, 101, 114, 32, 112, 117, 114, 115, 101, 32, 115, 112, 111, 116, 32, 104, 111, 117, 114, 32, 108, 101, 102, 116, 32, 104, 97, 115, 32, 104, 97, 108, 102, 32, 115, 104, 97, 112, 101, 32, 115, 105, 100, 101, 32, 112, 114, 105, 99, 101, 32, 102, 105, 116, 115, 32, 110, 101, 97, 114, 108, 121, 32, 107, 110, 111, 119, 110, 32], [105, 102, 32], [110, 111, 116, 32], [97, 110, 100, 32, 111, 114, 32]]
def soF : Nat → String := fun i => match i with | 0 => "HalfFair$FairReader" | 1 => "HalfFair$RuleReader" | 2 => "HalfFair$RuleReader" | 3 => "HalfFair$RuleReader" | 4 => "HalfFair$RuleReader" | _ => "HalfFair$RuleReader"
def siF : Nat → Nat := fun i => match i with | 0 => 51 | 1 => 58 | 2 => 128 | 3 => 83 | 4 => 108 | _ => 102
def stF : Nat → String := fun i => match i with | 0 => "stalls half forged buyer club near dusk hear " | 1 => "buy go " | 2 => "buyer purse spot hour left has half shape side price fits nearly known " | 3 => "if " | 4 => "not " | _ => "and or "
def hz_EV (D : va_G) (cs : Nat → ClassId) (kK kV : Nat → Nat) (A : Nat → Prop) (U : State) (H : Heap) : Prop :=
  va_K D classes (TY cs) U ∧ hz_Nst U ∧ (va_AO RX4 U ∧ va_AO RX6 U ∧ va_AO RX1 U) ∧ vk_S 6 hz_len hz_byt kK kV A U H ∧ va_Z "java/lang/String" "COMPACT_STRINGS" "Z" (.int 1) A U H ∧ va_Zq "jdk/internal/util/Preconditions" "SIOOBE_FORMATTER" "Ljava/util/function/BiFunction;" A U H ∧ (∀ i : Nat, i < 6 → vk_R (soF i) (siF i) (stF i) (kK i) U) ∧ va_Nw (.castable "[I" "java/lang/Cloneable") U
theorem hz_EV.call {D : va_G} {cs : Nat → ClassId} {kK kV : Nat → Nat} {A B : Nat → Prop} {s U : State} {H : Heap} {locs : List Loc} (h : hz_EV D cs kK kV A s s.heap) (hS : va_S A s.heap H locs) (hAB : ∀ q, B q → A q) (hU : U.heap = H) (hW : s.WarmedH U.vm) : hz_EV D cs kK kV B U U.heap := by
  obtain ⟨h1, h2, ⟨h3, h4, h5⟩, h6, h7, h8, h9, h10⟩ := h
  rw [hU]
  have hv := hW.alike
  exact ⟨va_K.moved hv h1, h2.warm hW, ⟨va_AO.moved hv h3, va_AO.moved hv h4, va_AO.moved hv h5⟩, ((h6.kept hS.2.1).narrow hAB).moved hv, ((h7.kept hS.2.1).narrow hAB).moved hv, ((h8.kept hS.2.1).narrow hAB).moved hv, fun i hi => (h9 i hi).warm hW, h10.warmC hW⟩
theorem hz_EV.blind {D : va_G} {cs : Nat → ClassId} {kK kV : Nat → Nat} {A : Nat → Prop} {U : State} {g : JFrame} {mk : MethodId} {a : Array Value} (h : hz_EV D cs kK kV A U U.heap) : hz_EV D cs kK kV A (U.calling g mk a) (U.calling g mk a).heap := by
  obtain ⟨h1, h2, ⟨h3, h4, h5⟩, h6, h7, h8, h9, h10⟩ := h
  have hv : U.vm.Alike (U.calling g mk a).vm := Vm.Alike.refl U.vm
  exact ⟨va_K.moved hv h1, h2.same rfl, ⟨va_AO.moved hv h3, va_AO.moved hv h4, va_AO.moved hv h5⟩, vk_S.moved hv h6, va_Z.moved hv h7, va_Zq.moved hv h8, fun i hi => (h9 i hi).same rfl, va_Nw.same rfl rfl h10⟩
/-- the start of a method that writes: its world, the room from sz on -/
def hz_C (D : va_G) (cs : Nat → ClassId) (kK kV : Nat → Nat) (sz : Nat) (ws : va_W) : State → Prop := fun U => U.heap.size = sz ∧ va_P D classes ws U.heap ∧ va_D (fun _ => True) ws ∧ hz_EV D cs kK kV (va_A ws sz) U U.heap
/-- the start of a method that writes nothing -/
def hz_P (D : va_G) (cs : Nat → ClassId) (kK kV : Nat → Nat) (ws : va_W) : State → Prop := fun U => va_P D classes ws U.heap ∧ hz_EV D cs kK kV (fun _ => False) U U.heap
theorem hz_C.blind {D : va_G} {cs : Nat → ClassId} {kK kV : Nat → Nat} {sz : Nat} {ws : va_W} {av : List Value} : FrameBlind (va_Pc av (hz_C D cs kK kV sz ws)) := fun _ _ _ _ h => ⟨h.1, h.2.1, h.2.2.1, h.2.2.2.1, hz_EV.blind h.2.2.2.2⟩
theorem hz_P.blind {D : va_G} {cs : Nat → ClassId} {kK kV : Nat → Nat} {ws : va_W} {av : List Value} : FrameBlind (va_Pc av (hz_P D cs kK kV ws)) := fun _ _ _ _ h => ⟨h.1, h.2.1, hz_EV.blind h.2.2⟩
theorem hz_C.mk {D : va_G} {cs : Nat → ClassId} {kK kV : Nat → Nat} {A : Nat → Prop} {ws : va_W} {s : State} {H : Heap} {locs : List Loc} {av : List Value} (hP : va_P D classes ws H) (hD : va_D A ws) (hE : hz_EV D cs kK kV A s s.heap) (hS : va_S A s.heap H locs) (hF : ∀ q, va_A ws H.size q → A q) : ∀ U : State, U.heap = H → s.WarmedH U.vm → va_Pc av (hz_C D cs kK kV H.size ws) av.toArray U := fun U hU hW => ⟨rfl, by rw [hU], by rw [hU]; exact hP, hD.weaken (fun _ _ _ _ => trivial), hE.call hS hF hU hW⟩
theorem hz_P.mk {D : va_G} {cs : Nat → ClassId} {kK kV : Nat → Nat} {A : Nat → Prop} {ws : va_W} {s : State} {H : Heap} {locs : List Loc} {av : List Value} (hP : va_P D classes ws H) (hE : hz_EV D cs kK kV A s s.heap) (hS : va_S A s.heap H locs) : ∀ U : State, U.heap = H → s.WarmedH U.vm → va_Pc av (hz_P D cs kK kV ws) av.toArray U := fun U hU hW => ⟨rfl, by rw [hU]; exact hP, hE.call hS (fun _ h => h.elim) hU hW⟩
def hz_w (y : MethodName) (b : ByteArray) (n : Nat) (r : Option FieldType) : List Cond := .code y b n r :: TB
theorem hz_gw {y : MethodName} {b : ByteArray} {n : Nat} {r : Option FieldType} (h : Cond.code y b n r ∈ TB) : GoodIn TB (hz_w y b n r) := fun w hw => by
  rcases List.mem_cons.mp hw with rfl | hw
  · exact ⟨h, (TB_ok _ h).2⟩
  · exact ⟨hw, (TB_ok _ hw).2⟩
theorem hz_gV {own C : String} {idx : Nat} {y : MethodName} {b : ByteArray} {n : Nat} {r : Option FieldType} (h1 : Cond.methodLink own idx y ∈ TB) (h2 : Cond.instanceMethod y ∈ TB) (h3 : Cond.selects C y y ∈ TB) (h4 : Cond.initialized C ∈ TB) (h : Cond.code y b n r ∈ TB) : GoodIn TB (wsV own idx C y (hz_w y b n r)) := fun w hw => by
  rcases List.mem_append.mp hw with hw | hw
  · have hm : w ∈ TB := by
      simp only [List.mem_cons, List.not_mem_nil, or_false] at hw
      rcases hw with rfl | rfl | rfl | rfl <;> assumption
    exact ⟨hm, (TB_ok _ hm).2⟩
  · exact hz_gw h w hw
theorem hz_gS {own : String} {idx : Nat} {y : MethodName} {b : ByteArray} {n : Nat} {r : Option FieldType} (h1 : Cond.methodLink own idx y ∈ TB) (h2 : Cond.static y ∈ TB) (h4 : Cond.initialized y.cls ∈ TB) (h : Cond.code y b n r ∈ TB) : GoodIn TB (va_wsS own idx y (hz_w y b n r)) := fun w hw => by
  rcases List.mem_append.mp hw with hw | hw
  · have hm : w ∈ TB := by
      simp only [List.mem_cons, List.not_mem_nil, or_false] at hw
      rcases hw with rfl | rfl | rfl <;> assumption
    exact ⟨hm, (TB_ok _ hm).2⟩
  · exact hz_gw h w hw
theorem hz_no {x : Int32} (h1 : ¬ x < 0) (h2 : ¬ (0 : Int32) ≤ x) : False := h2 (Int32.not_lt.mp h1)
theorem hz_str {D : va_G} {cs : Nat → ClassId} {kK kV : Nat → Nat} {A : Nat → Prop} {U : State} {H : Heap} (h : hz_EV D cs kK kV A U H) (i : Nat) (hi : i < 6) : vk_R (soF i) (siF i) (stF i) (kK i) U := h.2.2.2.2.2.2.1 i hi
theorem hz_l72 (k : Nat) : hz_len.getD k 0 ≤ 72 := by
  match k with
  | 0 => decide
  | 1 => decide
  | 2 => decide
  | 3 => decide
  | 4 => decide
  | 5 => decide
  | k + 6 => simp [hz_len]
theorem hz_l31 {k : Nat} : hz_len.getD k 0 < 2 ^ 31 := by have := hz_l72 k; omega
theorem hz_shA : ∀ n, n ≤ 72 → nI n >>> ((0 : Int32) &&& 31) = nI n := by decide +kernel
theorem hz_sh0 (k : Nat) : nI (hz_len.getD k 0) >>> ((0 : Int32) &&& 31) = nI (hz_len.getD k 0) := hz_shA _ (hz_l72 k)
theorem hz_P0 {D : va_G} {H : Heap} : va_P D classes [] H := fun k q h => by simp at h
theorem hz_D0 {A : Nat → Prop} : va_D A [] := ⟨fun i j p q h => by simp at h, fun k q h => by simp at h⟩
/-- as the kit's row, for a method of a class of which other methods are run by entries -/
theorem hz_ofW {l : Launch} {y : MethodName} {ws ws' : List Cond} {rm : Room} {Pc : Array Value → State → Prop} {Qc : Array Value → State → Outcome → State → Prop} {mc ms : Nat} {free : Addr → Prop} {cc : ByteArray} {maxL : Nat} {ret : Option FieldType}
    (hy : plainFor y = true) (hw : ws = Cond.code y cc maxL ret :: ws')
    (body : ∀ p e s m args below meth c s₁, BodyLoose p l y (headSpec ws rm) cc maxL ret e s m args below meth c s₁ → c.maxLocals = maxL → Pc args s →
      W p l e (headSpec ws rm).room s m args below meth c s.heap [] 0 0 (MQ below Qc args s mc ms free) (entryFrame m args maxL)) : Met l y ws rm Pc Qc mc ms free := by
  refine MetFree.of_bodySF (code := cc) (maxLocals := maxL) (ret := ret) hy ?_ ?_
  · intro args s m h hn
    obtain ⟨meth, c, h1, h2, h3, h4, h5, h6, -, -⟩ := Cond.code_spec hn (atoms_spec (ws := ws) h _ (by rw [hw]; exact List.mem_cons_self))
    exact ⟨meth, c, h1, h2, h3, h4, h5, h6⟩
  · intro p e s m args below meth c s₁ B hml hP _
    have hh0 : s₁.heap = s.heap := by rw [B.state]; rfl
    obtain ⟨t, a1, o, b1, b2, b3⟩ := body p e s m args below meth c s₁ B hml hP s₁ hh0 (Stand.of_body B)
    exact ⟨t, o, a1, b1, b2, ⟨b3.1, b3.2⟩⟩
