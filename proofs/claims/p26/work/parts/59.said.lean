-- ===== what is told =====
def BS (f : Nat → Int32) (hi : Int) : Prop :=
  (((f 0).toInt = 0 ∧ (f 1).toInt = 0 ∧ (f 2).toInt = 0) ∨ (2 ≤ (f 0).toInt ∧ (f 0).toInt ≤ 8)) ∧ (0 ≤ (f 1).toInt ∧ (f 1).toInt ≤ 12) ∧ (0 ≤ (f 2).toInt ∧ (f 2).toInt ≤ 4) ∧ (0 ≤ (f 3).toInt ∧ (f 3).toInt ≤ hi) ∧ (0 ≤ (f 4).toInt ∧ (f 4).toInt ≤ 7) ∧
  ∀ b : Nat, b < 4 → (b : Int) < (f 2).toInt → 0 ≤ (f (71 + 4 * b)).toInt ∧ (f (71 + 4 * b)).toInt < (f 0).toInt
def TR (f : Nat → Int32) : Prop := (0 ≤ (f 122).toInt ∧ (f 122).toInt ≤ 12) ∧ ∀ k : Nat, k < 12 → (0 ≤ (f (86 + 3 * k)).toInt ∧ (f (86 + 3 * k)).toInt ≤ 11) ∧ 0 ≤ (f (87 + 3 * k)).toInt ∧ (f (87 + 3 * k)).toInt ≤ 11
theorem bs_congr {f g : Nat → Int32} {hi : Int} (h : BS f hi) (e : ∀ j, j < 86 → g j = f j) : BS g hi := by
  unfold BS at *
  rw [e 0 (by omega), e 1 (by omega), e 2 (by omega), e 3 (by omega), e 4 (by omega)]
  obtain ⟨h1, h2, h3, h4, h5, h6⟩ := h
  exact ⟨h1, h2, h3, h4, h5, fun b hb hb2 => by rw [e (71 + 4 * b) (by omega)]; exact h6 b hb hb2⟩
theorem bs_hi {f : Nat → Int32} {hi hi' : Int} (h : BS f hi) (e : hi ≤ hi') : BS f hi' := by
  obtain ⟨h1, h2, h3, h4, h5, h6⟩ := h
  exact ⟨h1, h2, h3, ⟨h4.1, by omega⟩, h5, h6⟩
theorem bs_upd {f g : Nat → Int32} {hi : Int} {i : Nat} {x : Int32} (h : BS f hi) (u : g = upd f i x) (hi' : i ≠ 0 ∧ i ≠ 1 ∧ i ≠ 2 ∧ i ≠ 3 ∧ i ≠ 4 ∧ i ≠ 71 ∧ i ≠ 75 ∧ i ≠ 79 ∧ i ≠ 83) : BS g hi := by
  obtain ⟨h1, h2, h3, h4, h5, h6⟩ := h
  unfold BS
  rw [u, pk_un (by omega : (0 : Nat) ≠ i), pk_un (by omega : (1 : Nat) ≠ i), pk_un (by omega : (2 : Nat) ≠ i), pk_un (by omega : (3 : Nat) ≠ i), pk_un (by omega : (4 : Nat) ≠ i)]
  exact ⟨h1, h2, h3, h4, h5, fun b hb hb2 => by rw [pk_un (by omega)]; exact h6 b hb hb2⟩
theorem bs_zero {f : Nat → Int32} (h0 : (f 0).toInt = 0) (h1 : (f 1).toInt = 0) (h2 : (f 2).toInt = 0) (h3 : (f 3).toInt = 0) (h4 : (f 4).toInt = 0) : BS f 0 :=
  ⟨Or.inl ⟨h0, h1, h2⟩, by omega, by omega, by omega, by omega, fun b _ hb => by omega⟩
theorem bs_0 {f g : Nat → Int32} {hi : Int} {x : Int32} (h : BS f hi) (u : g = upd f 0 x) (h0 : (f 0).toInt ≤ 0) (hx : 2 ≤ x.toInt ∧ x.toInt ≤ 8) : BS g hi := by
  obtain ⟨h1, h2, h3, h4, h5, h6⟩ := h
  unfold BS
  rw [u, pk_us, pk_un (by omega : (1 : Nat) ≠ 0), pk_un (by omega : (2 : Nat) ≠ 0), pk_un (by omega : (3 : Nat) ≠ 0), pk_un (by omega : (4 : Nat) ≠ 0)]
  exact ⟨Or.inr hx, h2, h3, h4, h5, fun b _ hb2 => by omega⟩
theorem bs_4 {f g : Nat → Int32} {hi : Int} {x : Int32} (h : BS f hi) (u : g = upd f 4 x) (hx : 0 ≤ x.toInt ∧ x.toInt ≤ 7) : BS g hi := by
  obtain ⟨h1, h2, h3, h4, h5, h6⟩ := h
  unfold BS
  rw [u, pk_us, pk_un (by omega : (0 : Nat) ≠ 4), pk_un (by omega : (1 : Nat) ≠ 4), pk_un (by omega : (2 : Nat) ≠ 4), pk_un (by omega : (3 : Nat) ≠ 4)]
  exact ⟨h1, h2, h3, h4, hx, fun b hb hb2 => by rw [pk_un (by omega)]; exact h6 b hb hb2⟩
theorem bs_3 {f g : Nat → Int32} {hi hi' : Int} {x : Int32} (h : BS f hi) (u : g = upd f 3 x) (hx : 0 ≤ x.toInt ∧ x.toInt ≤ hi') : BS g hi' := by
  obtain ⟨h1, h2, h3, h4, h5, h6⟩ := h
  unfold BS
  rw [u, pk_us, pk_un (by omega : (0 : Nat) ≠ 3), pk_un (by omega : (1 : Nat) ≠ 3), pk_un (by omega : (2 : Nat) ≠ 3), pk_un (by omega : (4 : Nat) ≠ 3)]
  exact ⟨h1, h2, h3, hx, h5, fun b hb hb2 => by rw [pk_un (by omega)]; exact h6 b hb hb2⟩
theorem bs_1 {f g : Nat → Int32} {hi : Int} {x : Int32} (h : BS f hi) (u : g = upd f 1 x) (h0 : 1 ≤ (f 0).toInt) (hx : 0 ≤ x.toInt ∧ x.toInt ≤ 12) : BS g hi := by
  obtain ⟨h1, h2, h3, h4, h5, h6⟩ := h
  unfold BS
  rw [u, pk_us, pk_un (by omega : (0 : Nat) ≠ 1), pk_un (by omega : (2 : Nat) ≠ 1), pk_un (by omega : (3 : Nat) ≠ 1), pk_un (by omega : (4 : Nat) ≠ 1)]
  exact ⟨Or.inr (by omega), hx, h3, h4, h5, fun b hb hb2 => by rw [pk_un (by omega)]; exact h6 b hb hb2⟩
theorem bs_2 {f g : Nat → Int32} {hi : Int} {x : Int32} (h : BS f hi) (u : g = upd f 2 x) (h0 : 1 ≤ (f 0).toInt) (hx : x.toInt = (f 2).toInt + 1) (h2' : (f 2).toInt ≤ 3) (hs : 0 ≤ (f (71 + 4 * (f 2).toInt.toNat)).toInt ∧ (f (71 + 4 * (f 2).toInt.toNat)).toInt < (f 0).toInt) : BS g hi := by
  obtain ⟨h1, h2, h3, h4, h5, h6⟩ := h
  unfold BS
  rw [u, pk_us, pk_un (by omega : (0 : Nat) ≠ 2), pk_un (by omega : (1 : Nat) ≠ 2), pk_un (by omega : (3 : Nat) ≠ 2), pk_un (by omega : (4 : Nat) ≠ 2)]
  refine ⟨Or.inr (by omega), h2, by omega, h4, h5, fun b hb hb2 => ?_⟩
  rw [pk_un (by omega)]
  by_cases z : (b : Int) < (f 2).toInt
  · exact h6 b hb z
  · have e : b = (f 2).toInt.toNat := by omega
    rw [e]; exact hs
theorem bs_sp {f g : Nat → Int32} {hi : Int} {x : Int32} {b i : Nat} (h : BS f hi) (u : g = upd f i x) (hi' : i = 71 + 4 * b) (hx : (f 2).toInt ≤ (b : Int) ∨ (0 ≤ x.toInt ∧ x.toInt < (f 0).toInt)) : BS g hi := by
  subst hi'
  obtain ⟨h1, h2, h3, h4, h5, h6⟩ := h
  unfold BS
  rw [u, pk_un (by omega : (0 : Nat) ≠ 71 + 4 * b), pk_un (by omega : (1 : Nat) ≠ 71 + 4 * b), pk_un (by omega : (2 : Nat) ≠ 71 + 4 * b), pk_un (by omega : (3 : Nat) ≠ 71 + 4 * b), pk_un (by omega : (4 : Nat) ≠ 71 + 4 * b)]
  refine ⟨h1, h2, h3, h4, h5, fun c hc hc2 => ?_⟩
  by_cases z : c = b
  · subst z
    rw [pk_us]
    rcases hx with hx | hx
    · omega
    · exact hx
  · rw [pk_un (by omega)]; exact h6 c hc hc2
theorem tr_upd {f g : Nat → Int32} {i : Nat} {x : Int32} (h : TR f) (u : g = upd f i x) (hi : i < 86) : TR g := by
  obtain ⟨h1, h2⟩ := h
  unfold TR
  rw [u, pk_un (by omega : (122 : Nat) ≠ i)]
  exact ⟨h1, fun k hk => by rw [pk_un (by omega), pk_un (by omega)]; exact h2 k hk⟩
theorem tr_congr {f g : Nat → Int32} (h : TR f) (e : ∀ j, 86 ≤ j → g j = f j) : TR g := by
  obtain ⟨h1, h2⟩ := h
  unfold TR
  rw [e 122 (by omega)]
  exact ⟨h1, fun k hk => by rw [e _ (by omega), e _ (by omega)]; exact h2 k hk⟩
theorem tr_zero {f : Nat → Int32} (h : ∀ j, 86 ≤ j → j < 123 → (f j).toInt = 0) : TR f := by
  refine ⟨by have := h 122 (by omega) (by omega); omega, fun k hk => ?_⟩
  have a := h (86 + 3 * k) (by omega) (by omega)
  have b := h (87 + 3 * k) (by omega) (by omega)
  omega
theorem bs_i0 {f : Nat → Int32} {hi : Int} (h : BS f hi) : IV 0 8 (f 0) := by obtain ⟨h1, -⟩ := h; unfold IV; omega
theorem bs_i1 {f : Nat → Int32} {hi : Int} (h : BS f hi) : IV 0 12 (f 1) := h.2.1
theorem bs_i2 {f : Nat → Int32} {hi : Int} (h : BS f hi) : IV 0 4 (f 2) := h.2.2.1
theorem bs_i3 {f : Nat → Int32} {hi : Int} (h : BS f hi) : IV 0 hi (f 3) := h.2.2.2.1
theorem bs_i4 {f : Nat → Int32} {hi : Int} (h : BS f hi) : IV 0 7 (f 4) := h.2.2.2.2.1
theorem bs_b {f : Nat → Int32} {hi : Int} (h : BS f hi) : 1 ≤ (f 2).toInt → 2 ≤ (f 0).toInt := by obtain ⟨h1, -⟩ := h; omega
theorem bs_h {f : Nat → Int32} {hi : Int} (h : BS f hi) : 1 ≤ (f 1).toInt → 2 ≤ (f 0).toInt := by obtain ⟨h1, -⟩ := h; omega
/-- a cell may be told a number between two -/
def CK (f : Nat → Int32) (c a b : Int32) : Prop := BS f 0 ∧ ∀ x : Int32, a.toInt ≤ x.toInt → x.toInt ≤ b.toInt → BS (upd f (Int32.toNatClampNeg c) x) 0
theorem ck_o {f : Nat → Int32} {c a b : Int32} (h : BS f 0) (hc : c.toInt.toNat ≠ 0 ∧ c.toInt.toNat ≠ 1 ∧ c.toInt.toNat ≠ 2 ∧ c.toInt.toNat ≠ 3 ∧ c.toInt.toNat ≠ 4 ∧ c.toInt.toNat ≠ 71 ∧ c.toInt.toNat ≠ 75 ∧ c.toInt.toNat ≠ 79 ∧ c.toInt.toNat ≠ 83) : CK f c a b := ⟨h, fun x _ _ => bs_upd h rfl hc⟩
theorem ck_0 {f : Nat → Int32} (h : BS f 0) (h0 : (f 0).toInt ≤ 0) : CK f 0 2 8 := ⟨h, fun x h1 h2 => bs_0 h rfl h0 ⟨h1, h2⟩⟩
theorem ck_4 {f : Nat → Int32} (h : BS f 0) : CK f 4 0 7 := ⟨h, fun x h1 h2 => bs_4 h rfl ⟨h1, h2⟩⟩
theorem ck_sp {f : Nat → Int32} {c a b : Int32} {k : Nat} (h : BS f 0) (hc : c.toInt.toNat = 71 + 4 * k) (hk : (f 2).toInt ≤ (k : Int)) : CK f c a b := ⟨h, fun x _ _ => bs_sp h rfl hc (Or.inl hk)⟩
def RM (x y : Int32) : Int32 := x - x / y * y
theorem st_ex {n p h sh : Int32} (hn : 1 ≤ n.toInt ∧ n.toInt ≤ 8) (hp : 0 ≤ p.toInt ∧ p.toInt < n.toInt) (hh : 0 ≤ h.toInt ∧ h.toInt ≤ 300) (hs : 0 ≤ sh.toInt ∧ sh.toInt ≤ 7) : ∃ k : Int32, 0 ≤ k.toInt ∧ k.toInt < n.toInt ∧ RM (k + h * sh) n = p := by
  have m0 : 0 ≤ h.toInt * sh.toInt := Int.mul_nonneg hh.1 hs.1
  have m1 : h.toInt * sh.toInt ≤ 300 * 7 := Int.mul_le_mul hh.2 hs.2 hs.1 (by decide)
  have eM : (h * sh).toInt = h.toInt * sh.toInt := by rw [Int32.toInt_mul, iv_bm (by omega) (by omega)]
  generalize h.toInt * sh.toInt = M at m0 m1 eM
  have k0 : 0 ≤ (p.toInt - M) % n.toInt := Int.emod_nonneg _ (by omega)
  have k1 : (p.toInt - M) % n.toInt < n.toInt := Int.emod_lt_of_pos _ (by omega)
  have ek : (Int32.ofInt ((p.toInt - M) % n.toInt)).toInt = (p.toInt - M) % n.toInt := by
    rw [Int32.toInt_ofInt]; exact iv_bm (by omega) (by omega)
  refine ⟨Int32.ofInt ((p.toInt - M) % n.toInt), by omega, by omega, ?_⟩
  apply Int32.toInt_inj.mp
  have ea : (Int32.ofInt ((p.toInt - M) % n.toInt) + h * sh).toInt = (p.toInt - M) % n.toInt + M := by
    rw [Int32.toInt_add, eM, ek]; exact iv_bm (by omega) (by omega)
  rw [iv_remE (v := RM _ n) (y := n) (a := 1) (b := 8) rfl hn (by decide), ea, Int.tmod_eq_emod_of_nonneg (by omega), Int.emod_add_emod, Int.sub_add_cancel]
  exact Int.emod_eq_of_lt hp.1 hp.2
/-- a bit is set -/
def BT (s k : Int32) : Prop := (s >>> (k &&& 31)) &&& 1 = 1
theorem bt_iff {s k : Int32} {b : Int} (h : IV 0 b s) (hk : 0 ≤ k.toInt ∧ k.toInt ≤ 30) : BT s k ↔ s.toInt.toNat.testBit k.toInt.toNat = true := by
  obtain ⟨m, e1, e2, e3⟩ := iv_nn h (by decide)
  obtain ⟨j, f1, f2, f3⟩ := iv_nn (show IV 0 30 k from hk) (by decide)
  have em : s.toInt.toNat = m := by omega
  have ej : k.toInt.toNat = j := by omega
  rw [em, ej]
  have tm : s.toBitVec.toNat = m := iv_bt m e1 e3
  have tj : k.toBitVec.toNat = j := iv_bt j f1 f3
  have kk : (k &&& 31).toBitVec.toNat = j := by
    rw [Int32.toBitVec_and, BitVec.toNat_and, tj]
    show j &&& 31 = j
    have : j &&& 31 = j % 32 := Nat.and_two_pow_sub_one_eq_mod j 5
    rw [this]; omega
  have hm : s.toBitVec.msb = false := by rw [BitVec.msb_eq_false_iff_two_mul_lt, tm]; omega
  have sh : (s >>> (k &&& 31)).toBitVec.toNat = m >>> j := by
    show (s.toBitVec.sshiftRight' ((k &&& 31).toBitVec.smod 32)).toNat = _
    have e5 : ((k &&& 31).toBitVec.smod 32).toNat = j := by
      have hmk : (k &&& 31).toBitVec.msb = false := by rw [BitVec.msb_eq_false_iff_two_mul_lt, kk]; omega
      have hm2 : (32 : BitVec 32).msb = false := by decide
      rw [BitVec.smod_eq, hmk, hm2]
      show ((k &&& 31).toBitVec % 32#32).toNat = j
      rw [BitVec.toNat_umod, kk]
      show j % 32 = j
      omega
    rw [BitVec.sshiftRight', e5, BitVec.sshiftRight_eq_of_msb_false hm, BitVec.toNat_ushiftRight, tm]
  unfold BT
  rw [← Int32.toBitVec_inj, ← BitVec.toNat_inj, Int32.toBitVec_and, BitVec.toNat_and, sh]
  show m >>> j &&& 1 = 1 ↔ _
  rw [Nat.and_one_is_mod, Nat.testBit, Nat.and_comm, Nat.and_one_is_mod]
  simp
theorem bt_ex {s : Int32} (h : IV 1 4095 s) : ∃ k : Int32, 0 ≤ k.toInt ∧ k.toInt ≤ 11 ∧ BT s k := by
  have h0 : IV 0 4095 s := iv_w h (by decide) (by decide)
  have h1 := h.1
  have h2 := h.2
  apply Classical.byContradiction
  intro hn
  have hz : s.toInt.toNat = 0 := by
    apply Nat.eq_of_testBit_eq
    intro i
    rw [Nat.zero_testBit]
    by_cases hi : i < 12
    · have hk : (Int32.ofNat i).toInt = (i : Int) := nI_toInt (by omega)
      have hb : ¬ BT s (Int32.ofNat i) := fun q => hn ⟨Int32.ofNat i, by omega, by omega, q⟩
      rw [bt_iff h0 (by omega)] at hb
      have e : (Int32.ofNat i).toInt.toNat = i := by omega
      rw [e] at hb
      simpa using hb
    · exact Nat.testBit_lt_two_pow (Nat.lt_of_lt_of_le (by omega : s.toInt.toNat < 2 ^ 12) (Nat.pow_le_pow_right (by decide) (by omega)))
  omega
theorem bt_lsb {s k : Int32} {b : Int} (h : IV 0 b s) (hk : 0 ≤ k.toInt ∧ k.toInt ≤ 30) : BT s k ↔ s.toBitVec.getLsbD k.toInt.toNat = true := by
  rw [bt_iff h hk]
  obtain ⟨m, e1, e2, e3⟩ := iv_nn h (by decide)
  have em : s.toInt.toNat = s.toBitVec.toNat := by rw [iv_bt m e1 e3]; omega
  rw [em]; rfl
theorem sh_lsb {h v : Int32} (hh : 0 ≤ h.toInt ∧ h.toInt ≤ 30) (e : v = (1 : Int32) <<< (h &&& 31)) (i : Nat) : v.toBitVec.getLsbD i = decide (h.toInt.toNat = i) := by
  obtain ⟨k, e1, e2, e3⟩ := iv_nn (show IV 0 30 h from hh) (by decide)
  have u : v.toInt = (2 : Int) ^ k := by rw [e, e1]; exact iv_shlT k (by omega)
  have w : (2 : Int) ^ k ≤ 2 ^ 30 := iv_p2 (by omega)
  have w0 : (1 : Int) ≤ 2 ^ k := iv_p2 (m := 0) (Nat.zero_le k)
  have z30 : (2 : Int) ^ 30 = 1073741824 := by decide
  obtain ⟨m, f1, f2, f3⟩ := iv_nn (show IV 0 1073741824 v from ⟨by omega, by omega⟩) (by decide)
  have hm : m = 2 ^ k := by have : (m : Int) = ((2 ^ k : Nat) : Int) := by (rw [f2, u]; exact_mod_cast rfl)
                            exact_mod_cast this
  show (v.toBitVec.toNat).testBit i = _
  rw [iv_bt m f1 f3, hm, Nat.testBit_two_pow]
  have : h.toInt.toNat = k := by omega
  rw [this]
/-- one and its mate are taken out of a set -/
theorem wi_clear {l h p x y l' a b : Int32} (hl : IV 0 4095 l) (hp : 0 ≤ p.toInt ∧ p.toInt ≤ 11) (hh : 0 ≤ h.toInt ∧ h.toInt ≤ 11) (hb : BT l p) (hbh : BT l h) (ea : a = (1 : Int32) <<< (h &&& 31)) (ex : x = a ||| y) (eb : b = x ^^^ (-1)) (e : l' = l &&& b) (hne : h.toInt ≠ p.toInt)
    (hy : y.toBitVec.getLsbD p.toInt.toNat = false) : IV 1 4095 l' ∧ BT l' p ∧ l'.toInt < l.toInt := by
  have hl' : IV 0 4095 l' := iv_and1 e hl
  have key : ∀ i, i < 32 → l'.toBitVec.getLsbD i = (l.toBitVec.getLsbD i && !(a.toBitVec.getLsbD i || y.toBitVec.getLsbD i)) := by
    intro i hi
    have n1 : (-1 : Int32).toBitVec = BitVec.allOnes 32 := by decide
    rw [e, eb, ex, Int32.toBitVec_and, Int32.toBitVec_xor, n1, BitVec.xor_allOnes, BitVec.getLsbD_and, BitVec.getLsbD_not, Int32.toBitVec_or, BitVec.getLsbD_or]
    simp [hi]
  have ka := sh_lsb (h := h) ⟨hh.1, by omega⟩ ea
  have b1 : BT l' p := by
    rw [bt_lsb hl' ⟨hp.1, by omega⟩, key _ (by omega), ka, hy, (bt_lsb hl ⟨hp.1, by omega⟩).mp hb]
    have : decide (h.toInt.toNat = p.toInt.toNat) = false := decide_eq_false (by omega)
    rw [this]; rfl
  have b2 : l'.toBitVec.getLsbD h.toInt.toNat = false := by rw [key _ (by omega), ka]; simp
  have b3 := (bt_lsb hl ⟨hh.1, by omega⟩).mp hbh
  obtain ⟨m, e1, e2, e3⟩ := iv_nn hl (by decide)
  obtain ⟨m', f1, f2, f3⟩ := iv_nn hl' (by decide)
  have tm : l.toBitVec.toNat = m := iv_bt m e1 e3
  have tm' : l'.toBitVec.toNat = m' := iv_bt m' f1 f3
  have le : m' ≤ m := by
    rw [← tm, ← tm', e, Int32.toBitVec_and, BitVec.toNat_and]; exact Nat.and_le_left
  have ne : m' ≠ m := fun z => by
    have : l'.toBitVec = l.toBitVec := BitVec.eq_of_toNat_eq (by rw [tm, tm', z])
    rw [this, b3] at b2; cases b2
  have pos : m' ≠ 0 := fun z => by
    have h0 : l'.toBitVec = 0#32 := BitVec.eq_of_toNat_eq (by rw [tm', z]; rfl)
    have := (bt_lsb hl' ⟨hp.1, by omega⟩).mp b1
    rw [h0] at this; simp at this
  have u := hl'.2
  exact ⟨⟨by omega, u⟩, b1, by omega⟩
theorem lsb_0 {i : Nat} : (0 : Int32).toBitVec.getLsbD i = false := by show (0#32).getLsbD i = false; simp
theorem lsb_sh {o p v : Int32} (ho : 0 ≤ o.toInt ∧ o.toInt ≤ 11) (e : v = (1 : Int32) <<< (o &&& 31)) (hne : o.toInt ≠ p.toInt) (hp : 0 ≤ p.toInt) : v.toBitVec.getLsbD p.toInt.toNat = false := by
  rw [sh_lsb ⟨ho.1, by omega⟩ e]
  exact decide_eq_false (by omega)
/-- the least bit is taken off -/
theorem bits_dn {s a b : Int32} (e : a = s - 1) (e2 : b = s &&& a) (h : ¬ s = 0) : b.toBitVec.toNat < s.toBitVec.toNat := by
  have h0 : s.toBitVec.toNat ≠ 0 := fun z => h (Int32.toBitVec_inj.mp (BitVec.eq_of_toNat_eq (by rw [z]; rfl)))
  have h1 : a.toBitVec.toNat = s.toBitVec.toNat - 1 := by
    rw [e, Int32.toBitVec_sub, BitVec.toNat_sub]
    have := s.toBitVec.isLt
    show (2 ^ 32 - 1 + s.toBitVec.toNat) % 2 ^ 32 = _
    omega
  have h2 : b.toBitVec.toNat ≤ a.toBitVec.toNat := by rw [e2, Int32.toBitVec_and, BitVec.toNat_and]; exact Nat.and_le_right
  omega
theorem bt_pos {s k : Int32} (h : BT s k) (hs : IV 0 4095 s) (hk : 0 ≤ k.toInt ∧ k.toInt ≤ 30) : IV 1 4095 s := by
  have h1 := (bt_lsb hs hk).mp h
  have h2 := hs.1
  refine ⟨?_, hs.2⟩
  by_cases z : s.toInt = 0
  · have e : s = 0 := Int32.toInt_inj.mp (by rw [z]; decide)
    rw [e, lsb_0] at h1; cases h1
  · omega
theorem bs_99 {f : Nat → Int32} (h : BS f 200) (h3 : (f 3).toInt ≤ 99) : BS f 99 := by
  obtain ⟨h1, h2, h3', h4, h5, h6⟩ := h
  exact ⟨h1, h2, h3', ⟨h4.1, h3⟩, h5, h6⟩
/-- what can be undone -/
def WSN (w : Nat → Int32) (u : Int) : Prop := ∀ k : Nat, (k : Int) < u → BS (fun j => w (86 * k + j)) 99
theorem wsn_le {w : Nat → Int32} {u v : Int} (h : WSN w u) (e : v ≤ u) : WSN w v := fun k hk => h k (by omega)
theorem wsn_0 {w : Nat → Int32} {u : Int} (e : u ≤ 0) : WSN w u := fun k hk => by omega
def SHI (f0 f : Nat → Int32) (k : Nat) : Prop := (∀ j, j + 86 < k → f j = f0 (j + 86)) ∧ ∀ j, k ≤ j + 86 → f j = f0 j
theorem shi_0 {f : Nat → Int32} : SHI f f ((86 : Int32).toInt.toNat) := by
  have e : (86 : Int32).toInt.toNat = 86 := by decide
  exact ⟨fun j hj => by omega, fun _ _ => rfl⟩
theorem shi_step {f0 f g : Nat → Int32} {k k' i v : Int32} (h : SHI f0 f k.toInt.toNat) (u : g = upd f (Int32.toNatClampNeg i) v) (ev : v = f (Int32.toNatClampNeg k)) (hi : i.toInt = k.toInt - 86) (hk : 86 ≤ k.toInt) (hk' : k'.toInt = k.toInt + 1) : SHI f0 g k'.toInt.toNat := by
  have ei : Int32.toNatClampNeg i = k.toInt.toNat - 86 := by show i.toInt.toNat = _; omega
  have ek : Int32.toNatClampNeg k = k.toInt.toNat := rfl
  refine ⟨fun j hj => ?_, fun j hj => ?_⟩
  · rw [u, ei]
    by_cases z : j = k.toInt.toNat - 86
    · rw [z, pk_us, ev, ek, h.2 _ (by omega)]; congr 1; omega
    · rw [pk_un z]; exact h.1 j (by omega)
  · rw [u, ei, pk_un (by omega)]; exact h.2 j (by omega)
theorem wsn_shift {w w' : Nat → Int32} {k u : Int32} {v : Int} (h : WSN w u.toInt) (e : SHI w w' k.toInt.toNat) (hk : 1720 ≤ k.toInt) (hu : u.toInt = 20) (hv : v = 19) : WSN w' v := fun j hj => by
  refine bs_congr (h (j + 1) (by omega)) (fun i hi => ?_)
  show w' (86 * j + i) = w (86 * (j + 1) + i)
  rw [e.1 _ (by omega)]; congr 1; omega
/-- a row is copied to a place, so far -/
def CPT (w f : Nat → Int32) (b k : Nat) : Prop := ∀ j, j < k → w (b + j) = f j
/-- a row is copied from a place, so far -/
def CPF (f w : Nat → Int32) (b k : Nat) : Prop := ∀ j, j < k → f j = w (b + j)
def KPA (f f0 : Nat → Int32) (k : Nat) : Prop := ∀ j, k ≤ j → f j = f0 j
theorem z32n : (0 : Int32).toInt.toNat = 0 := by decide
theorem cpt_0 {w f : Nat → Int32} {b : Nat} : CPT w f b ((0 : Int32).toInt.toNat) := fun j hj => absurd hj (by rw [z32n]; omega)
theorem cpf_0 {w f : Nat → Int32} {b : Nat} : CPF w f b ((0 : Int32).toInt.toNat) := fun j hj => absurd hj (by rw [z32n]; omega)
theorem kpa_0 {f : Nat → Int32} {k : Nat} : KPA f f k := fun _ _ => rfl
theorem cpt_step {w w' f : Nat → Int32} {b : Nat} {k k' i v : Int32} (h : CPT w f b k.toInt.toNat) (u : w' = upd w (Int32.toNatClampNeg i) v) (ev : v = f (Int32.toNatClampNeg k)) (hi : i.toInt.toNat = b + k.toInt.toNat) (hk : 0 ≤ k.toInt) (hk' : k'.toInt = k.toInt + 1) : CPT w' f b k'.toInt.toNat := fun j hj => by
  have ei : Int32.toNatClampNeg i = b + k.toInt.toNat := hi
  rw [u, ei]
  by_cases z : j = k.toInt.toNat
  · rw [z, pk_us, ev]; rfl
  · rw [pk_un (by omega)]; exact h j (by omega)
theorem cpf_step {f f' w : Nat → Int32} {b : Nat} {k k' m v : Int32} (h : CPF f w b k.toInt.toNat) (u : f' = upd f (Int32.toNatClampNeg k) v) (ev : v = w (Int32.toNatClampNeg m)) (hm : m.toInt.toNat = b + k.toInt.toNat) (hk : 0 ≤ k.toInt) (hk' : k'.toInt = k.toInt + 1) : CPF f' w b k'.toInt.toNat := fun j hj => by
  have ek : Int32.toNatClampNeg k = k.toInt.toNat := rfl
  have em : Int32.toNatClampNeg m = b + k.toInt.toNat := hm
  rw [u, ek]
  by_cases z : j = k.toInt.toNat
  · rw [z, pk_us, ev, em]
  · rw [pk_un z]; exact h j (by omega)
theorem kpa_step {f f' f0 : Nat → Int32} {k k' v : Int32} (h : KPA f f0 k.toInt.toNat) (u : f' = upd f (Int32.toNatClampNeg k) v) (hk : 0 ≤ k.toInt) (hk' : k'.toInt = k.toInt + 1) : KPA f' f0 k'.toInt.toNat := fun j hj => by
  have ek : Int32.toNatClampNeg k = k.toInt.toNat := rfl
  rw [u, ek, pk_un (by omega)]; exact h j (by omega)
theorem wsn_keep {w w' : Nat → Int32} {i v : Int32} {u : Int} (h : WSN w u) (e : w' = upd w (Int32.toNatClampNeg i) v) (hi : 86 * u ≤ i.toInt) (h0 : 0 ≤ i.toInt) : WSN w' u := fun k hk => by
  refine bs_congr (h k hk) (fun j hj => ?_)
  have ei : Int32.toNatClampNeg i = i.toInt.toNat := rfl
  show w' (86 * k + j) = w (86 * k + j)
  rw [e, ei, pk_un (by omega)]
theorem wsn_add {w f : Nat → Int32} {u : Int32} {k : Int32} {v : Int} (h : WSN w u.toInt) (c : CPT w f (86 * u.toInt.toNat) k.toInt.toNat) (hk : 86 ≤ k.toInt) (hb : BS f 99) (h0 : 0 ≤ u.toInt) (hv : v = u.toInt + 1) : WSN w v := fun j hj => by
  by_cases z : (j : Int) < u.toInt
  · exact h j z
  · have e : j = u.toInt.toNat := by omega
    subst e
    exact bs_congr hb (fun i hi => c i (by omega))
theorem rk_step {s : Nat → Int32} {T n N h K : Nat} {x : Int32} (hN : hgt s T N = some K) (hn : hgt s T n = some h) (hlt : n < N) (hx : x = s (T + n)) : ∃ h', stp x h = some h' ∧ hgt s T (n + 1) = some h' := by
  obtain ⟨h', e⟩ := hgt_pre hN (n + 1) hlt
  have e' : (hgt s T n).bind (stp (s (T + n))) = some h' := e
  rw [hn] at e'
  refine ⟨h', ?_, e⟩
  rw [hx]; exact e'
theorem stp_0 {v : Int32} {n m : Nat} (e : v &&& 15 = 0) (h : stp v n = some m) : n < 60 ∧ m = n + 1 := by
  unfold stp at h
  rw [if_pos e] at h
  by_cases z : n < 60
  · rw [if_pos z] at h; exact ⟨z, (Option.some.inj h).symm⟩
  · rw [if_neg z] at h; cases h
theorem stp_1 {v : Int32} {n m : Nat} (e : v &&& 15 = 1) (h : stp v n = some m) : n < 60 ∧ m = n + 1 ∧ 0 ≤ (v >>> ((4 : Int32) &&& 31)).toInt ∧ (v >>> ((4 : Int32) &&& 31)).toInt ≤ 12 := by
  unfold stp at h
  rw [if_neg (by rw [e]; decide), if_pos e] at h
  by_cases z : n < 60 ∧ 0 ≤ (v >>> ((4 : Int32) &&& 31)).toInt ∧ (v >>> ((4 : Int32) &&& 31)).toInt ≤ 12
  · rw [if_pos z] at h; exact ⟨z.1, (Option.some.inj h).symm, z.2⟩
  · rw [if_neg z] at h; cases h
theorem stp_11 {v : Int32} {n m : Nat} (e : v &&& 15 = 11) (h : stp v n = some m) : 1 ≤ n ∧ m = n := by
  unfold stp at h
  rw [if_neg (by rw [e]; decide), if_neg (by rw [e]; decide), if_pos e] at h
  by_cases z : 1 ≤ n
  · rw [if_pos z] at h; exact ⟨z, (Option.some.inj h).symm⟩
  · rw [if_neg z] at h; cases h
theorem stp_b {v : Int32} {n m : Nat} (e0 : ¬ v &&& 15 = 0) (e1 : ¬ v &&& 15 = 1) (e2 : ¬ v &&& 15 = 11) (h : stp v n = some m) : 2 ≤ n ∧ m + 1 = n := by
  unfold stp at h
  rw [if_neg e0, if_neg e1, if_neg e2] at h
  by_cases z : 2 ≤ n
  · rw [if_pos z] at h; exact ⟨z, by have := (Option.some.inj h).symm; omega⟩
  · rw [if_neg z] at h; cases h
theorem hgt_le {s : Nat → Int32} {T : Nat} : ∀ {n h : Nat}, hgt s T n = some h → h ≤ 60
  | 0, h, e => by cases e; decide
  | n + 1, h, e => by
    have e' : (hgt s T n).bind (stp (s (T + n))) = some h := e
    rcases q : hgt s T n with _ | h1
    · rw [q] at e'; cases e'
    · rw [q] at e'
      have i := hgt_le q
      have e2 : stp (s (T + n)) h1 = some h := e'
      unfold stp at e2
      repeat' split at e2
      all_goals first | omega | (cases e2; done) | (have := Option.some.inj e2; omega) | (cases e2; omega)
theorem sg_at {s : Nat → Int32} {r : Nat} {b e b' e' : Int32} {n : Int} (h : SG s r b e n) (hb : b' = b) (he : e' = e) : SG s r b' e' n := by subst hb he; exact h
/-- halves at stalls -/
def mw (f : Nat → Int32) : Nat → Nat
  | 0 => 0
  | n + 1 => mw f n + if (f (13 + 5 * n)).toInt < 100 then 1 else 0
def MW (f : Nat → Int32) : Nat := mw f 12
theorem mw_congr {f g : Nat → Int32} : ∀ n, (∀ k, k < n → g (13 + 5 * k) = f (13 + 5 * k)) → mw g n = mw f n
  | 0, _ => rfl
  | n + 1, h => by
    show mw g n + _ = mw f n + _
    rw [mw_congr n (fun k hk => h k (by omega)), h n (by omega)]
theorem mw_set {f g : Nat → Int32} {h : Nat} {x : Int32} (u : g = upd f (13 + 5 * h) x) (hx : 100 ≤ x.toInt) : ∀ n, h < n → mw g n + (if (f (13 + 5 * h)).toInt < 100 then 1 else 0) = mw f n
  | 0, hn => by omega
  | n + 1, hn => by
    show mw g n + _ + _ = mw f n + _
    by_cases z : h = n
    · subst z
      rw [mw_congr h (g := g) (f := f) (fun k hk => by rw [u, pk_un (by omega)]), u, pk_us, if_neg (by omega), Nat.add_zero]
    · have i := mw_set u hx n (by omega)
      rw [u, pk_un (by omega : 13 + 5 * n ≠ 13 + 5 * h), ← u]
      omega
theorem MW_buy {f g k : Nat → Int32} {i j : Nat} {h : Nat} {x y : Int32} (u : g = upd f i y) (hi : 70 ≤ i) (u2 : k = upd g j x) (hj : j = 13 + 5 * h) (hh : h < 12) (hx : 100 ≤ x.toInt) : MW k + (if (f (13 + 5 * h)).toInt < 100 then 1 else 0) = MW f := by
  subst hj
  have e1 : MW g = MW f := mw_congr 12 (fun c hc => by rw [u, pk_un (by omega)])
  have e2 : g (13 + 5 * h) = f (13 + 5 * h) := by rw [u, pk_un (by omega)]
  rw [← e1, ← e2]
  exact mw_set u2 hx 12 hh
/-- images made -/
def IMG (m im : Nat → Int32) : Prop := ∀ k : Nat, k < 4 → (m k).toInt ≠ 0 → BS (fun j => im (123 * k + j)) 99 ∧ TR (fun j => im (123 * k + j))
theorem tr_cg {f g : Nat → Int32} (h : TR f) (e : ∀ j, j < 123 → g j = f j) : TR g := by
  obtain ⟨h1, h2⟩ := h
  unfold TR
  rw [e 122 (by omega)]
  exact ⟨h1, fun k hk => by rw [e _ (by omega), e _ (by omega)]; exact h2 k hk⟩
theorem tr_a {f g : Nat → Int32} {i : Nat} {x : Int32} (h : TR f) (u : g = upd f i x) (hx : 0 ≤ x.toInt ∧ x.toInt ≤ 11) : TR g := by
  obtain ⟨h1, h2⟩ := h
  unfold TR
  rw [u]
  have p : ∀ j : Nat, ∀ b : Int, 11 ≤ b → (0 ≤ (f j).toInt ∧ (f j).toInt ≤ b) → 0 ≤ (upd f i x j).toInt ∧ (upd f i x j).toInt ≤ b := by
    intro j b hb hj
    unfold upd
    split
    · omega
    · exact hj
  exact ⟨p 122 12 (by decide) h1, fun k hk => ⟨p _ 11 (by decide) (h2 k hk).1, p _ 11 (by decide) (h2 k hk).2⟩⟩
theorem tr_n {f g : Nat → Int32} {x : Int32} (h : TR f) (u : g = upd f 122 x) (hx : 0 ≤ x.toInt ∧ x.toInt ≤ 12) : TR g := by
  obtain ⟨h1, h2⟩ := h
  unfold TR
  rw [u, pk_us]
  exact ⟨hx, fun k hk => by rw [pk_un (by omega), pk_un (by omega)]; exact h2 k hk⟩
theorem img_new {m im im' f : Nat → Int32} {m' : Nat → Int32} {k l : Int32} {v : Int32} (h : IMG m im) (um : m' = upd m (Int32.toNatClampNeg k) v) (hk : 0 ≤ k.toInt ∧ k.toInt ≤ 3) (c : CPT im' f (123 * k.toInt.toNat) l.toInt.toNat) (hl : 123 ≤ l.toInt) (o : ∀ j, (j < 123 * k.toInt.toNat ∨ 123 * k.toInt.toNat + 123 ≤ j) → im' j = im j) (hb : BS f 99) (ht : TR f) : IMG m' im' := fun q hq hm => by
  by_cases z : q = k.toInt.toNat
  · subst z
    exact ⟨bs_congr hb (fun j hj => c j (by omega)), tr_cg ht (fun j hj => c j (by omega))⟩
  · have e : m' q = m q := by rw [um, pk_un (show q ≠ Int32.toNatClampNeg k from z)]
    rw [e] at hm
    obtain ⟨b1, b2⟩ := h q hq hm
    exact ⟨bs_congr b1 (fun j hj => o _ (by omega)), tr_cg b2 (fun j hj => o _ (by omega))⟩

theorem lb_bm {z : Int} (h1 : -9223372036854775808 ≤ z) (h2 : z ≤ 9223372036854775807) : z.bmod (2 ^ 64) = z := by
  rw [Int.bmod_def]; omega
theorem lrm {x y v : Int64} (e : v = x - x / y * y) (hx : 0 ≤ x.toInt) (hy : 1 ≤ y.toInt) : v.toInt = x.toInt % y.toInt := by
  have hxb := Int64.toInt_lt x
  have hyb := Int64.toInt_lt y
  have q0 : 0 ≤ x.toInt / y.toInt := Int.ediv_nonneg hx (by omega)
  have q1 : x.toInt / y.toInt ≤ x.toInt := Int.ediv_le_self _ hx
  have s1 : x.toInt / y.toInt * y.toInt + x.toInt % y.toInt = x.toInt := Int.ediv_mul_add_emod _ _
  have m0 : 0 ≤ x.toInt % y.toInt := Int.emod_nonneg _ (by omega)
  have p0 : 0 ≤ x.toInt / y.toInt * y.toInt := Int.mul_nonneg q0 (by omega)
  have ed : (x / y).toInt = x.toInt / y.toInt := by
    rw [Int64.toInt_div, Int.tdiv_eq_ediv_of_nonneg hx]; exact lb_bm (by omega) (by omega)
  have em : (x / y * y).toInt = x.toInt / y.toInt * y.toInt := by
    rw [Int64.toInt_mul, ed]; exact lb_bm (by omega) (by omega)
  rw [e, Int64.toInt_sub, em, lb_bm (by omega) (by omega)]; omega
/-- the number that is drawn from stays a number of 31 bits -/
theorem dr_x {d a b v : Int64} (ea : a = d * 1103515245) (eb : b = a + 12345) (ev : v = b - b / 2147483648 * 2147483648) (h : 0 ≤ d.toInt ∧ d.toInt < 2147483648) : 0 ≤ v.toInt ∧ v.toInt < 2147483648 := by
  have k1 : (1103515245 : Int64).toInt = 1103515245 := by decide
  have k2 : (12345 : Int64).toInt = 12345 := by decide
  have k3 : (2147483648 : Int64).toInt = 2147483648 := by decide
  have ta : a.toInt = d.toInt * 1103515245 := by rw [ea, Int64.toInt_mul, k1]; exact lb_bm (by omega) (by omega)
  have tb : b.toInt = d.toInt * 1103515245 + 12345 := by rw [eb, Int64.toInt_add, ta, k2]; exact lb_bm (by omega) (by omega)
  rw [lrm ev (by omega) (by omega), k3]
  omega
theorem dr_r {v q m : Int64} {n r : Int32} (eq : q = v / 65536) (em : m = q - q / n.toInt64 * n.toInt64) (er : r = m.toInt32) (h : 0 ≤ v.toInt ∧ v.toInt < 2147483648) (hn : 1 ≤ n.toInt ∧ n.toInt ≤ 100) : 0 ≤ r.toInt ∧ r.toInt < n.toInt := by
  have k1 : (65536 : Int64).toInt = 65536 := by decide
  have tq : q.toInt = v.toInt / 65536 := by rw [eq, Int64.toInt_div, k1, Int.tdiv_eq_ediv_of_nonneg h.1]; exact lb_bm (by omega) (by omega)
  have tn : n.toInt64.toInt = n.toInt := Int32.toInt_toInt64 n
  have tm : m.toInt = q.toInt % n.toInt := by rw [lrm em (by omega) (by omega), tn]
  have m0 : 0 ≤ q.toInt % n.toInt := Int.emod_nonneg _ (by omega)
  have m1 : q.toInt % n.toInt < n.toInt := Int.emod_lt_of_pos _ (by omega)
  have tr : r.toInt = m.toInt := by
    rw [er, Int64.toInt_toInt32]; exact iv_bm (by omega) (by omega)
  omega
