/-! THE CLAIM OUT OF ONE WALK OF THE LAW'S BODY. Your part is whole_start (and what it stands on); all else here is the same for every law, but numbers. -/
def R_law : String := "HalfFairLaw"
def lw_P (b : Addr) (xs : List Int32) (args : Array Value) (s : State) : Prop := args = #[.ref b] ∧ s.IntsAt b xs ∧ xs.length ≤ 3072 ∧ (Jvm.Cond.and given_1 narrow_1).before args s = true
def lw_Q (_ : Array Value) (s : State) (o : Outcome) (t : State) : Prop := o = .returned (some (.int 1)) ∧ Framed s o t [] 600000 7302250
def lw_Z (below : List Frame) (a : Array Value) (s : State) : State → Prop := fun t => ∃ o, t.status = .running ∧ Ended t below o ∧ lw_Q a s o t
/-- the law's own end, with 1 on the stack, nothing written that was there before, its room as the claim has it -/
theorem lw_ret {p : Program} {l : Launch} {e : Env} {s : State} {m : MethodId} {below : List Frame} {meth : Method} {c : Code} {b : Nat} (hx : p.tables.exec = Jvm.exec) (hb : c.code = code) (hr : meth.sig.returnType = ret) (hlocks : meth.locks = false) {pc : Nat} {H : Heap} {ls : Array Slot} (hdg : decode code pc = .ok (.ireturn, 1)) : W p l e room_1 s m #[Value.ref b] below meth c H [] 600000 7302250 (lw_Z below #[Value.ref b] s) (F0 m pc ls [.int 1]) := by
  intro T hT X
  obtain ⟨fs, hret, hrun, hended, hW, hframe⟩ := X.leave (v := some (.int 1)) (hlocks := hlocks) (fun h => by rw [hr] at h; cases h)
  have hmeth' : T.vm.method? m = some meth := X.method'
  refine ⟨T.setFrames fs, ?_, .returned (some (.int 1)), hrun, hended, rfl, ⟨_, rfl⟩, hW, hframe⟩
  jvm_step X.here [X.here.top, hx, hb, hdg, hmeth', hr, ret, narrow_b1]
  (try refine ⟨rfl, ?_⟩); (try refine ⟨rfl, ?_⟩)
  first | (intro acts; rw [hret _ acts rfl rfl rfl]) | rw [hret _ _ rfl rfl rfl]
  exact Steps.refl _
/-- what holds at the law's entry: the machine, the code, the tables' words (any of lw_tbl by 'hts w (by decide +kernel)'), the script of L ints xs at the cell b, what the Statement gives of the start (any of its parts by flat_of_before) -/
def lw_At (p : Program) (s : State) (m : MethodId) (meth : Method) (c : Code) (b L : Nat) (xs : Nat → Int32) : Prop :=
  p.tables.exec = Jvm.exec ∧ c.code = code ∧ meth.sig.returnType = ret ∧ c.maxLocals = 4 ∧ s.vm.findClass R_law = some m.cls ∧ (∀ w ∈ lw_tbl, w.before #[Value.ref b] s = true) ∧ va_X b L xs s s.heap ∧ b < s.heap.size ∧ meth.locks = false ∧ (Jvm.Cond.and given_1 narrow_1).before #[Value.ref b] s = true

def hz_tm : Nat → Term := fun i => match i with | 0 => Term.string "HalfFair$FairReader" 51 | 1 => Term.string "HalfFair$RuleReader" 58 | 2 => Term.string "HalfFair$RuleReader" 128 | 3 => Term.string "HalfFair$RuleReader" 83 | 4 => Term.string "HalfFair$RuleReader" 108 | _ => Term.string "HalfFair$RuleReader" 102
def hz_fb : Nat → Nat := fun i => match i with | 0 => 48 | 1 => 97 | 2 => 109 | 3 => 186 | 4 => 196 | _ => 208
def hz_np : List (List Nat) := [[0, 108, 184, 193, 204, 219], [0, 0, 185, 194, 205, 220], [0, 0, 0, 195, 206, 221], [0, 0, 0, 0, 207, 222], [0, 0, 0, 0, 0, 223], [0, 0, 0, 0, 0, 0]]
theorem hz_f0 : ∀ i, i < 6 → (flatC (Jvm.Cond.and given_1 narrow_1))[hz_fb i]? = some (Cond.exactly (hz_tm i) "java/lang/String") := by decide +kernel
theorem hz_f1 : ∀ i, i < 6 → (flatC (Jvm.Cond.and given_1 narrow_1))[hz_fb i + 1]? = some (Cond.eq (.field (hz_tm i) "java/lang/String" "coder" "B") (.int 0)) := by decide +kernel
theorem hz_f2 : ∀ i, i < 6 → (flatC (Jvm.Cond.and given_1 narrow_1))[hz_fb i + 2]? = some (Cond.arrayOf (.field (hz_tm i) "java/lang/String" "value" "[B") .byte) := by decide +kernel
theorem hz_f3 : ∀ i, i < 6 → (flatC (Jvm.Cond.and given_1 narrow_1))[hz_fb i + 3]? = some (Cond.eq (.length (.field (hz_tm i) "java/lang/String" "value" "[B")) (.int (Int32.ofNat (hz_len.getD i 0)))) := by decide +kernel
theorem hz_f4 : ∀ i, i < 6 → ∀ j, j < hz_len.getD i 0 → (flatC (Jvm.Cond.and given_1 narrow_1))[hz_fb i + 4 + j]? = some (Cond.eq (.elem (.field (hz_tm i) "java/lang/String" "value" "[B") (.int (Int32.ofNat j))) (.int ((hz_byt.getD i []).getD j 0))) := by decide +kernel
theorem hz_f5 : ∀ j, j < 6 → ∀ i, i < j → (flatC (Jvm.Cond.and given_1 narrow_1))[(hz_np.getD i []).getD j 0]? = some (Cond.not (Cond.eq (hz_tm i) (hz_tm j))) := by decide +kernel
theorem hz_f6 : (flatC (Jvm.Cond.and given_1 narrow_1))[4]? = some (Cond.eq (.static "java/lang/String" "COMPACT_STRINGS" "Z") (.int 1)) := by decide +kernel
theorem hz_f7 : (flatC (Jvm.Cond.and given_1 narrow_1))[5]? = some (Cond.isRef (.static "jdk/internal/util/Preconditions" "SIOOBE_FORMATTER" "Ljava/util/function/BiFunction;")) := by decide +kernel
theorem hz_g1 : lw_tbl[609]? = some (Cond.laysStatic "java/lang/String" "COMPACT_STRINGS" "Z") := by decide +kernel
theorem hz_g2 : lw_tbl[625]? = some (Cond.laysStatic "jdk/internal/util/Preconditions" "SIOOBE_FORMATTER" "Ljava/util/function/BiFunction;") := by decide +kernel
theorem hz_g3 : lw_tbl[149]? = some (Cond.initialized "java/lang/String") := by decide +kernel
theorem hz_g4 : lw_tbl[151]? = some (Cond.initialized "jdk/internal/util/Preconditions") := by decide +kernel
def hz_sp : Nat → Nat := fun i => match i with | 0 => 594 | 1 => 787 | 2 => 798 | 3 => 814 | 4 => 823 | _ => 840
theorem hz_g5 : ∀ i, i < 6 → lw_tbl[hz_sp i]? = some (Cond.stringRef (soF i) (siF i) (stF i)) := by decide +kernel
theorem hz_g6 : ∀ i, i < 6 → hz_tm i = Term.string (soF i) (siF i) := by decide +kernel
theorem hz_g7 : lw_tbl[227]? = some (Cond.arrayOver (.object RX4)) := by decide +kernel
theorem hz_g8 : lw_tbl[374]? = some (Cond.arrayOver (.object RX6)) := by decide +kernel
theorem hz_g9 : lw_tbl[408]? = some (Cond.arrayOver (.object RX1)) := by decide +kernel
theorem hz_g10 : lw_tbl[850]? = some (Cond.castable "[I" "java/lang/Cloneable") := by decide +kernel
theorem hz_ap {ty : FieldType} {args : Array Value} {s : State} (h : (Cond.arrayClass ty).before args s = true) (hp : ∀ c : ClassId, s.vm.findClass ("[" ++ ty.toString) = some c → va_RA s c ty) (ho : ∀ k, ty ≠ .object k) (hq : ∀ k, ty ≠ .array k) : ∃ c : ClassId, ArrOfT s c ty ∧ va_RA s c ty := by
  obtain ⟨c, k, comp, h1, h2, h3⟩ := Cond.arrayClass_spec h
  exact ⟨c, fun N z => ⟨(fun k h => by cases h), k, h2, comp, h3⟩, hp c h1⟩
theorem hz_ao {C : String} {args : Array Value} {s : State} (h : (Cond.arrayOver (.object C)).before args s = true) : ∃ c : ClassId, ArrOfT s c (.object C) ∧ va_RA s c (.object C) := by
  obtain ⟨comp, c, k, h1, h2, h3, h4, h5⟩ := Cond.arrayOver_spec h
  exact ⟨c, fun N z => ⟨(fun k h => by cases h), k, h3, comp, h4⟩, k, comp, h3, h4, h1, h5⟩
set_option maxHeartbeats 4000000 in
theorem hz_start {A : Nat → Prop} {args : Array Value} {s : State} (hts : ∀ w ∈ lw_tbl, w.before args s = true) (hgv : (Jvm.Cond.and given_1 narrow_1).before args s = true) (hAn : ∀ q : Nat, q < s.heap.size → ¬ A q) : ∃ (D : va_G) (cs : Nat → ClassId) (kK kV : Nat → Nat), hz_EV D cs kK kV A s s.heap := by
  have hT : ∀ w ∈ TB, w.before args s = true := fun w h => hts w (TB_ok w h).1
  have hF := flat_of_before _ hgv
  obtain ⟨c0, j0, hk0⟩ := u_known (C := RX0) (T := TX0) (N := 3) (n := 3) hT i_X0 (hT _ q_1357)
  obtain ⟨c1, j1, hk1⟩ := u_known (C := RX1) (T := TX1) (N := 4) (n := 4) hT i_X1 (hT _ q_1369)
  obtain ⟨c2, j2, hk2⟩ := u_known (C := RX2) (T := TX2) (N := 10) (n := 10) hT i_X2 (hT _ q_1375)
  obtain ⟨c3, j3, hk3⟩ := u_known (C := RX3) (T := TX3) (N := 2) (n := 2) hT i_X3 (hT _ q_1371)
  obtain ⟨c4, j4, hk4⟩ := u_known (C := RX4) (T := TX4) (N := 6) (n := 6) hT i_X4 (hT _ q_1361)
  obtain ⟨c5, j5, hk5⟩ := u_known (C := RX5) (T := TX5) (N := 4) (n := 4) hT i_X5 (hT _ q_1359)
  obtain ⟨c6, j6, hk6⟩ := u_known (C := RX6) (T := TX6) (N := 6) (n := 6) hT i_X6 (hT _ q_1365)
  obtain ⟨c7, j7, hk7⟩ := u_known (C := RX7) (T := TX7) (N := 4) (n := 4) hT i_X7 (hT _ q_1355)
  obtain ⟨c8, j8, hk8⟩ := u_known (C := RX8) (T := TX8) (N := 18) (n := 18) hT i_X8 (hT _ q_1363)
  obtain ⟨c9, j9, hk9⟩ := u_known (C := RX9) (T := TX9) (N := 7) (n := 7) hT i_X9 (hT _ q_1367)
  obtain ⟨c10, j10, hk10⟩ := u_known (C := RX10) (T := TX10) (N := 11) (n := 11) hT i_X10 (hT _ q_1373)
  obtain ⟨c11, j11, hk11⟩ := u_known (C := RX11) (T := TX11) (N := 17) (n := 17) hT i_X11 (hT _ q_1381)
  obtain ⟨c12, j12, hk12⟩ := u_known (C := RX12) (T := TX12) (N := 37) (n := 37) hT i_X12 (hT _ q_1383)
  obtain ⟨y0, hy0⟩ := hz_ap (ty := .int) (hT _ q_1384) (fun _ h => h) (fun _ h => by cases h) (fun _ h => by cases h)
  obtain ⟨y1, hy1⟩ := hz_ap (ty := .byte) (hT _ q_1385) (fun _ h => h) (fun _ h => by cases h) (fun _ h => by cases h)
  obtain ⟨y2, hy2⟩ := hz_ap (ty := .boolean) (hT _ q_1386) (fun _ h => h) (fun _ h => by cases h) (fun _ h => by cases h)
  obtain ⟨y3, hy3⟩ := hz_ap (ty := .long) (hT _ q_1387) (fun _ h => h) (fun _ h => by cases h) (fun _ h => by cases h)
  obtain ⟨y4, hy4⟩ := hz_ao (hts _ (List.mem_of_getElem? hz_g7))
  obtain ⟨y5, hy5⟩ := hz_ao (hts _ (List.mem_of_getElem? hz_g8))
  obtain ⟨y6, hy6⟩ := hz_ao (hts _ (List.mem_of_getElem? hz_g9))
  obtain ⟨kK, kV, hVS, hVE⟩ := vk_Sof (s := s) (args := args) (N := 6) (tm := hz_tm) (len := hz_len) (byt := hz_byt) (A := A) (fun i _ => hz_l31) (fun i hi => hF _ (List.mem_of_getElem? (hz_f0 i hi))) (fun i hi => hF _ (List.mem_of_getElem? (hz_f1 i hi))) (fun i hi => hF _ (List.mem_of_getElem? (hz_f2 i hi))) (fun i hi => hF _ (List.mem_of_getElem? (hz_f3 i hi))) (fun i hi j hj => hF _ (List.mem_of_getElem? (hz_f4 i hi j hj))) (fun i j hi hj hij => by
    rcases (show i < j ∨ j < i by omega) with z | z
    · exact Or.inl (hF _ (List.mem_of_getElem? (hz_f5 j hj i z)))
    · exact Or.inr (hF _ (List.mem_of_getElem? (hz_f5 i hi j z)))) hAn
  refine ⟨(fun k => match k with | 0 => c0 | 1 => c1 | 2 => c2 | 3 => c3 | 4 => c4 | 5 => c5 | 6 => c6 | 7 => c7 | 8 => c8 | 9 => c9 | 10 => c10 | 11 => c11 | _ => c12, fun k => match k with | 0 => j0 | 1 => j1 | 2 => j2 | 3 => j3 | 4 => j4 | 5 => j5 | 6 => j6 | 7 => j7 | 8 => j8 | 9 => j9 | 10 => j10 | 11 => j11 | _ => j12), fun k => match k with | 0 => y0 | 1 => y1 | 2 => y2 | 3 => y3 | 4 => y4 | 5 => y5 | _ => y6, kK, kV, ⟨?_, ?_⟩, fun i hi => va_Nw.of rfl (hts _ (List.mem_of_getElem? (nw_in i hi))), ⟨va_AO.of (hts _ (List.mem_of_getElem? hz_g7)), va_AO.of (hts _ (List.mem_of_getElem? hz_g8)), va_AO.of (hts _ (List.mem_of_getElem? hz_g9))⟩, hVS, va_Zof (hts _ (List.mem_of_getElem? hz_g1)) (hts _ (List.mem_of_getElem? hz_g3)) (va_eqi (hF _ (List.mem_of_getElem? hz_f6))) hAn, va_Zqof (hts _ (List.mem_of_getElem? hz_g2)) (hts _ (List.mem_of_getElem? hz_g4)) (hF _ (List.mem_of_getElem? hz_f7)) hAn, fun i hi => vk_R.of (hts _ (List.mem_of_getElem? (hz_g5 i hi))) (by rw [← hz_g6 i hi]; exact hVE i hi), va_Nw.of rfl (hts _ (List.mem_of_getElem? hz_g10))⟩
  · intro k q hq
    match k, hq with
    | 0, hq => cases hq; exact hk0
    | 1, hq => cases hq; exact hk1
    | 2, hq => cases hq; exact hk2
    | 3, hq => cases hq; exact hk3
    | 4, hq => cases hq; exact hk4
    | 5, hq => cases hq; exact hk5
    | 6, hq => cases hq; exact hk6
    | 7, hq => cases hq; exact hk7
    | 8, hq => cases hq; exact hk8
    | 9, hq => cases hq; exact hk9
    | 10, hq => cases hq; exact hk10
    | 11, hq => cases hq; exact hk11
    | 12, hq => cases hq; exact hk12
    | k + 13, hq => simp [classes] at hq
  · intro k q hq
    match k, hq with
    | 0, hq => cases hq; exact hy0
    | 1, hq => cases hq; exact hy1
    | 2, hq => cases hq; exact hy2
    | 3, hq => cases hq; exact hy3
    | 4, hq => cases hq; exact hy4
    | 5, hq => cases hq; exact hy5
    | 6, hq => cases hq; exact hy6
    | k + 7, hq => simp [TY] at hq
