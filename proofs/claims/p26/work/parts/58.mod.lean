-- ===== words for the reference's texts =====
def LT (f : Nat → Int32) (n k : Int32) : Prop := k.toInt < n.toInt ∧ 97 ≤ (f (Int32.toNatClampNeg k)).toInt ∧ (f (Int32.toNatClampNeg k)).toInt ≤ 122
def DG (f : Nat → Int32) (n k : Int32) : Prop := k.toInt < n.toInt ∧ 48 ≤ (f (Int32.toNatClampNeg k)).toInt ∧ (f (Int32.toNatClampNeg k)).toInt ≤ 57
theorem lt_first {f : Nat → Int32} {n k v m : Int32} (hv : v.toInt = k.toInt + m.toInt) (h : LT f n v) (z : m.toInt = 0 ∨ LT f n k) : LT f n k := by
  rcases z with z | z
  · have e : v = k := Int32.toInt_inj.mp (by omega)
    rwa [e] at h
  · exact z
theorem lcmp_ge {x y : Int64} {v : Int32} (e : v = lg_cmp x y) (h : ¬ v < 0) : y ≤ x := (lg_cmp_ge x y).mp (by rw [← e]; exact Int32.not_lt.mp h)
theorem lcmp_le {x y : Int64} {v : Int32} (e : v = lg_cmp x y) (h : ¬ 0 < v) : x ≤ y := by
  refine Int64.not_lt.mp (fun z => h ?_)
  rw [e, lg_cmp, if_pos z]; decide
theorem l64_le {x y : Int32} {a b : Int} (h : x.toInt64 ≤ y.toInt64) (ex : x.toInt = a) (ey : y.toInt = b) : a ≤ b := by
  rw [Int64.le_iff_toInt_le, Int32.toInt_toInt64, Int32.toInt_toInt64] at h; omega
theorem l64_cle {x : Int32} {k : Int64} {b : Int} (h : k ≤ x.toInt64) (ek : k.toInt = b) : b ≤ x.toInt := by
  rw [Int64.le_iff_toInt_le, Int32.toInt_toInt64] at h; omega
theorem in_no1 {a x b : Int64} {v : Int32} (e : v = lg_cmp x a) (h : v < 0) : ¬ (a ≤ x ∧ x ≤ b) := fun z => by
  have := (lg_cmp_ge x a).mpr z.1
  rw [← e] at this; exact absurd h (Int32.not_lt.mpr this)
theorem in_no2 {a x b : Int64} {v : Int32} (e : v = lg_cmp x b) (h : 0 < v) : ¬ (a ≤ x ∧ x ≤ b) := fun z => by
  rw [e] at h
  unfold lg_cmp at h
  rw [if_neg (Int64.not_lt.mpr z.2)] at h
  split at h <;> exact absurd h (by decide)
theorem l64_clI {x : Int32} {k : Int64} {b : Int} (h : b ≤ x.toInt) (ek : k.toInt = b) : k ≤ x.toInt64 := by
  rw [Int64.le_iff_toInt_le, Int32.toInt_toInt64]; omega
theorem l64_lcI {x : Int32} {k : Int64} {b : Int} (h : x.toInt ≤ b) (ek : k.toInt = b) : x.toInt64 ≤ k := by
  rw [Int64.le_iff_toInt_le, Int32.toInt_toInt64]; omega
theorem l64_ne {x : Int32} (h : 1 ≤ x.toInt) : ¬ x.toInt64 = 0 := fun z => by
  have e : x.toInt64.toInt = x.toInt := Int32.toInt_toInt64 x
  rw [z] at e
  have : (0 : Int64).toInt = 0 := by decide
  omega
theorem l64_lec {x : Int32} {k : Int64} {b : Int} (h : x.toInt64 ≤ k) (ek : k.toInt = b) : x.toInt ≤ b := by
  rw [Int64.le_iff_toInt_le, Int32.toInt_toInt64] at h; omega
/-- one sign over a stack of height h -/
def stp (s : Int32) (h : Nat) : Option Nat :=
  if s &&& 15 = 0 then (if h < 60 then some (h + 1) else none)
  else if s &&& 15 = 1 then (if h < 60 ∧ 0 ≤ (s >>> ((4 : Int32) &&& 31)).toInt ∧ (s >>> ((4 : Int32) &&& 31)).toInt ≤ 12 then some (h + 1) else none)
  else if s &&& 15 = 11 then (if 1 ≤ h then some h else none)
  else (if 2 ≤ h then some (h - 1) else none)
def hgt (f : Nat → Int32) (b : Nat) : Nat → Option Nat
  | 0 => some 0
  | n + 1 => (hgt f b n).bind (stp (f (b + n)))
theorem hgt_congr {f g : Nat → Int32} {b : Nat} : ∀ n, (∀ j, j < n → f (b + j) = g (b + j)) → hgt f b n = hgt g b n
  | 0, _ => rfl
  | n + 1, h => by
    show (hgt f b n).bind _ = (hgt g b n).bind _
    rw [hgt_congr n (fun j hj => h j (by omega)), h n (by omega)]
theorem hgt_pre {f : Nat → Int32} {b : Nat} : ∀ {n h : Nat}, hgt f b n = some h → ∀ i, i ≤ n → ∃ h', hgt f b i = some h'
  | 0, h, e, i, hi => ⟨0, by rw [Nat.le_zero.mp hi]; rfl⟩
  | n + 1, h, e, i, hi => by
    by_cases z : i = n + 1
    · exact ⟨h, by rw [z]; exact e⟩
    · have e' : (hgt f b n).bind (stp (f (b + n))) = some h := e
      rcases q : hgt f b n with _ | h1
      · rw [q] at e'; cases e'
      · exact hgt_pre q i (by omega)
def kbin (x : Int32) : Bool := !(x &&& 15 == 0) && !(x &&& 15 == 1) && !(x &&& 15 == 11)
theorem stp_bin {x : Int32} (hk : kbin x = true) {h : Nat} (h2 : 2 ≤ h) : stp x h = some (h - 1) := by
  simp only [kbin, Bool.and_eq_true, Bool.not_eq_true', beq_eq_false_iff_ne, ne_eq] at hk
  unfold stp
  rw [if_neg hk.1.1, if_neg hk.1.2, if_neg hk.2, if_pos h2]
theorem stp_not {x : Int32} (hk : x &&& 15 = 11) {h : Nat} (h1 : 1 ≤ h) : stp x h = some h := by
  unfold stp
  rw [if_neg (by rw [hk]; decide), if_neg (by rw [hk]; decide), if_pos hk, if_pos h1]
theorem and15 (x : Int32) : (x &&& 15).toBitVec.toNat = x.toBitVec.toNat % 16 := by
  rw [Int32.toBitVec_and, BitVec.toNat_and]
  show x.toBitVec.toNat &&& 15 = _
  exact Nat.and_two_pow_sub_one_eq_mod _ 4
theorem sg_nat {s : Nat} {v : Int32} {b : Int} (hs : s < 16) (h : IV 0 b v) (hb : b ≤ 99999) : (Int32.ofNat s + 16 * v).toBitVec.toNat = s + 16 * v.toInt.toNat := by
  obtain ⟨k, e1, e2, e3⟩ := iv_nn h (by decide)
  have h2 := h.2
  have e4 : v.toBitVec.toNat = k := iv_bt k e1 e3
  have e5 : v.toInt.toNat = k := by omega
  rw [Int32.toBitVec_add, Int32.toBitVec_mul, BitVec.toNat_add, BitVec.toNat_mul, e4, e5]
  show ((BitVec.ofNat 32 s).toNat + (16 * k) % 2 ^ 32) % 2 ^ 32 = _
  rw [BitVec.toNat_ofNat]
  omega
theorem sg_and {s : Nat} {v : Int32} {b : Int} (hs : s < 16) (h : IV 0 b v) (hb : b ≤ 99999) : (Int32.ofNat s + 16 * v) &&& 15 = Int32.ofNat s := by
  apply Int32.toBitVec_inj.mp
  apply BitVec.eq_of_toNat_eq
  rw [and15, sg_nat hs h hb]
  show _ = (BitVec.ofNat 32 s).toNat
  rw [BitVec.toNat_ofNat]
  omega
theorem sg_shr {s : Nat} {v : Int32} {b : Int} (hs : s < 16) (h : IV 0 b v) (hb : b ≤ 99999) : (Int32.ofNat s + 16 * v) >>> ((4 : Int32) &&& 31) = v := by
  obtain ⟨k, e1, e2, e3⟩ := iv_nn h (by decide)
  have h2 := h.2
  have e4 : v.toBitVec.toNat = k := iv_bt k e1 e3
  have e5 : v.toInt.toNat = k := by omega
  have e6 := sg_nat hs h hb
  apply Int32.toBitVec_inj.mp
  apply BitVec.eq_of_toNat_eq
  rw [e4]
  show ((Int32.ofNat s + 16 * v).toBitVec.sshiftRight 4).toNat = k
  have hm : (Int32.ofNat s + 16 * v).toBitVec.msb = false := by
    rw [BitVec.msb_eq_false_iff_two_mul_lt, e6]; omega
  rw [BitVec.sshiftRight_eq_of_msb_false hm, BitVec.toNat_ushiftRight, e6, e5, Nat.shiftRight_eq_div_pow]
  omega
theorem stp_num {v : Int32} (h : IV 0 99999 v) {n : Nat} (hn : n < 60) : stp ((0 : Int32) + 16 * v) n = some (n + 1) := by
  have e : ((0 : Int32) + 16 * v) &&& 15 = 0 := sg_and (s := 0) (by decide) h (by decide)
  unfold stp
  rw [if_pos e, if_pos hn]
theorem stp_word {v : Int32} (h : IV 0 12 v) {n : Nat} (hn : n < 60) : stp ((1 : Int32) + 16 * v) n = some (n + 1) := by
  have e := sg_and (s := 1) (by decide) h (by decide)
  have e2 := sg_shr (s := 1) (by decide) h (by decide)
  have e' : ((1 : Int32) + 16 * v) &&& 15 = 1 := e
  have e2' : ((1 : Int32) + 16 * v) >>> ((4 : Int32) &&& 31) = v := e2
  unfold stp
  rw [if_neg (by rw [e']; decide), if_pos e', if_pos ⟨hn, by rw [e2']; exact h.1, by rw [e2']; exact h.2⟩]
/-- a sign is put behind a text's signs -/
def PU (t : Int32) (f : Nat → Int32) (n : Int32) (x : Int32) (g : Nat → Int32) : Prop := g = upd f (400 * t.toInt.toNat + n.toInt.toNat) x
/-- what stands below a text's end is as it was -/
def FR (t : Int32) (f : Nat → Int32) (n : Int32) (g : Nat → Int32) : Prop := ∀ j, j < 400 * t.toInt.toNat + n.toInt.toNat → g j = f j
theorem fr_rf {t : Int32} {f : Nat → Int32} {n : Int32} : FR t f n f := fun _ _ => rfl
theorem fr_tr {t : Int32} {f g k : Nat → Int32} {n m : Int32} (h : FR t f n g) (h2 : FR t g m k) (hn : n.toInt ≤ m.toInt) : FR t f n k := fun j hj => (h2 j (by omega)).trans (h j hj)
theorem fr_pu {t : Int32} {f g k : Nat → Int32} {n m x : Int32} (h : FR t f n g) (h2 : PU t g m x k) (hn : n.toInt ≤ m.toInt) : FR t f n k := fun j hj => by
  rw [h2, pk_un (by omega)]; exact h j hj
/-- from a text's signs to more of them: k values more on the stack -/
def EX (t : Int32) (f : Nat → Int32) (n m : Int32) (g : Nat → Int32) (n' m' : Int32) (k : Nat) : Prop :=
  ∀ b h : Nat, b ≤ n.toInt.toNat → hgt f (400 * t.toInt.toNat + b) (n.toInt.toNat - b) = some h → (h : Int) ≤ m.toInt → hgt g (400 * t.toInt.toNat + b) (n'.toInt.toNat - b) = some (h + k) ∧ ((h + k : Nat) : Int) ≤ m'.toInt
theorem ex_rf {t : Int32} {f : Nat → Int32} {n m : Int32} : EX t f n m f n m 0 := fun _ _ _ h1 h2 => ⟨h1, h2⟩
theorem ex_tr {t : Int32} {f g q : Nat → Int32} {n m n1 m1 n2 m2 : Int32} {k1 k2 k : Nat} (h1 : EX t f n m g n1 m1 k1) (h2 : EX t g n1 m1 q n2 m2 k2) (hn : n.toInt ≤ n1.toInt) (hk : k1 + k2 = k) : EX t f n m q n2 m2 k := fun b h hb e hm => by
  obtain ⟨a1, a2⟩ := h1 b h hb e hm
  obtain ⟨b1, b2⟩ := h2 b (h + k1) (by omega) a1 a2
  subst hk
  exact ⟨by rw [b1, Nat.add_assoc], by rw [← Nat.add_assoc]; exact b2⟩
theorem ex_pu {t : Int32} {f g q : Nat → Int32} {n m n1 m1 n2 m2 x : Int32} {k k2 : Nat} (h1 : EX t f n m g n1 m1 k) (h2 : PU t g n1 x q) (h0 : 0 ≤ n.toInt) (hn : n.toInt ≤ n1.toInt) (hn2 : n2.toInt = n1.toInt + 1)
    (hs : ∀ h : Nat, ((h + k : Nat) : Int) ≤ m1.toInt → stp x (h + k) = some (h + k2) ∧ ((h + k2 : Nat) : Int) ≤ m2.toInt) : EX t f n m q n2 m2 k2 := fun b h hb e hm => by
  obtain ⟨a1, a2⟩ := h1 b h hb e hm
  obtain ⟨b1, b2⟩ := hs h a2
  refine ⟨?_, b2⟩
  have e1 : n2.toInt.toNat - b = (n1.toInt.toNat - b) + 1 := by omega
  rw [e1]
  show (hgt q _ _).bind _ = _
  rw [hgt_congr (g := g) _ (fun j hj => by rw [h2, pk_un (by omega)]), a1]
  show stp _ _ = _
  have e2 : 400 * t.toInt.toNat + b + (n1.toInt.toNat - b) = 400 * t.toInt.toNat + n1.toInt.toNat := by omega
  rw [e2, h2, pk_us]
  exact b1
theorem ex_bin {t : Int32} {f g q : Nat → Int32} {n m n1 m1 n2 x : Int32} {k : Nat} (h1 : EX t f n m g n1 m1 (k + 2)) (h2 : PU t g n1 x q) (h0 : 0 ≤ n.toInt) (hn : n.toInt ≤ n1.toInt) (hn2 : n2.toInt = n1.toInt + 1) (hk : kbin x = true) : EX t f n m q n2 m1 (k + 1) :=
  ex_pu h1 h2 h0 hn hn2 (fun h hm => ⟨by rw [stp_bin hk (by omega)]; congr 1, by omega⟩)
theorem ex_not {t : Int32} {f g q : Nat → Int32} {n m n1 m1 n2 x : Int32} {k : Nat} (h1 : EX t f n m g n1 m1 (k + 1)) (h2 : PU t g n1 x q) (h0 : 0 ≤ n.toInt) (hn : n.toInt ≤ n1.toInt) (hn2 : n2.toInt = n1.toInt + 1) (hk : x &&& 15 = 11) : EX t f n m q n2 m1 (k + 1) :=
  ex_pu h1 h2 h0 hn hn2 (fun h hm => ⟨stp_not hk (by omega), hm⟩)
theorem ex_num {t : Int32} {f q : Nat → Int32} {n m n2 m2 v : Int32} (h2 : PU t f n ((0 : Int32) + 16 * v) q) (h0 : 0 ≤ n.toInt) (hn2 : n2.toInt = n.toInt + 1) (hm : m2.toInt = m.toInt + 1) (hm2 : m2.toInt ≤ 60) (hv : IV 0 99999 v) : EX t f n m q n2 m2 1 :=
  ex_pu ex_rf h2 h0 (Int.le_refl _) hn2 (fun h hh => ⟨stp_num hv (by omega), by omega⟩)
theorem ex_word {t : Int32} {f q : Nat → Int32} {n m n2 m2 v : Int32} (h2 : PU t f n ((1 : Int32) + 16 * v) q) (h0 : 0 ≤ n.toInt) (hn2 : n2.toInt = n.toInt + 1) (hm : m2.toInt = m.toInt + 1) (hm2 : m2.toInt ≤ 60) (hv : IV 0 12 v) : EX t f n m q n2 m2 1 :=
  ex_pu ex_rf h2 h0 (Int.le_refl _) hn2 (fun h hh => ⟨stp_word hv (by omega), by omega⟩)
theorem ex_mk {t : Int32} {f g : Nat → Int32} {n m n1 m1 m2 : Int32} {k : Nat} (h1 : EX t f n m g n1 m1 k) (hm : m1.toInt ≤ m2.toInt) : EX t f n m g n1 m2 k := fun b h hb e hh => by
  obtain ⟨a1, a2⟩ := h1 b h hb e hh
  exact ⟨a1, Int.le_trans a2 hm⟩
theorem ex_end {t : Int32} {f g : Nat → Int32} {n m n1 m1 : Int32} {k : Nat} (h1 : EX t f n m g n1 m1 k) (hm : 0 ≤ m.toInt) : hgt g (400 * t.toInt.toNat + n.toInt.toNat) (n1.toInt.toNat - n.toInt.toNat) = some k := by
  obtain ⟨a1, -⟩ := h1 n.toInt.toNat 0 (Nat.le_refl _) (by rw [Nat.sub_self]; rfl) (by simpa using hm)
  rw [Nat.zero_add] at a1
  exact a1
/-- binary signs that wait -/
def nb (f : Nat → Int32) : Nat → Nat
  | 0 => 0
  | n + 1 => nb f n + if f n = 12 ∨ f n = 13 then 1 else 0
theorem nb_congr {f g : Nat → Int32} : ∀ n, (∀ j, j < n → f j = g j) → nb f n = nb g n
  | 0, _ => rfl
  | n + 1, h => by
    show nb f n + _ = nb g n + _
    rw [nb_congr n (fun j hj => h j (by omega)), h n (by omega)]
theorem pu_mk {t : Int32} {f g : Nat → Int32} {n i x y : Int32} (u : g = upd f (Int32.toNatClampNeg i) x) (hi : i.toInt = 400 * t.toInt + n.toInt) (h0 : 0 ≤ t.toInt) (h1 : 0 ≤ n.toInt) (hx : x = y) : PU t f n y g := by
  unfold PU
  have e : Int32.toNatClampNeg i = 400 * t.toInt.toNat + n.toInt.toNat := by show i.toInt.toNat = _; omega
  rw [u, e, hx]
def NB (f : Nat → Int32) (n k : Int32) : Prop := k.toInt < n.toInt ∧ (f (Int32.toNatClampNeg k)).toInt ≠ 32
theorem lt_nb {f : Nat → Int32} {n k : Int32} (h : LT f n k) : NB f n k := ⟨h.1, by have := h.2; omega⟩
theorem dg_nb {f : Nat → Int32} {n k : Int32} (h : DG f n k) : NB f n k := ⟨h.1, by have := h.2; omega⟩
def strF (x : Int32) : Int32 := if x = 13 then 1 else if x = 12 then 2 else if x = 11 then 3 else 0
theorem strF_cases {x : Int32} (h : 1 ≤ (strF x).toInt) : x = 13 ∨ x = 12 ∨ x = 11 := by
  unfold strF at h
  by_cases h1 : x = 13
  · exact Or.inl h1
  · by_cases h2 : x = 12
    · exact Or.inr (Or.inl h2)
    · by_cases h3 : x = 11
      · exact Or.inr (Or.inr h3)
      · rw [if_neg h1, if_neg h2, if_neg h3] at h; exact absurd h (by decide)
/-- signs that waited are put -/
def ES (t : Int32) (f : Nat → Int32) (n m : Int32) (g : Nat → Int32) (n' : Int32) (a b : Nat) : Prop :=
  ∀ (f0 : Nat → Int32) (n0 m0 : Int32), 0 ≤ n0.toInt → n0.toInt ≤ n.toInt → EX t f0 n0 m0 f n m (a + 1) → EX t f0 n0 m0 g n' m (b + 1)
theorem es_rf {t : Int32} {f : Nat → Int32} {n m : Int32} {a : Nat} : ES t f n m f n a a := fun _ _ _ _ _ h => h
theorem es_tr {t : Int32} {f g q : Nat → Int32} {n m n1 n2 : Int32} {a b c : Nat} (h1 : ES t f n m g n1 a b) (h2 : ES t g n1 m q n2 b c) (hn : n.toInt ≤ n1.toInt) : ES t f n m q n2 a c := fun f0 n0 m0 z1 z2 h => h2 f0 n0 m0 z1 (by omega) (h1 f0 n0 m0 z1 z2 h)
theorem es_eq {t : Int32} {f g : Nat → Int32} {n m n1 : Int32} {a b c : Nat} (h1 : ES t f n m g n1 a b) (e : b = c) : ES t f n m g n1 a c := e ▸ h1
theorem es_pu {t : Int32} {f g q : Nat → Int32} {n m n1 n2 : Int32} {a k : Nat} {o : Nat → Int32} {x : Int32} (h1 : ES t f n m g n1 a (nb o (k + 1))) (h2 : PU t g n1 (x + 16 * 0) q) (hx : o k = x) (hn : n.toInt ≤ n1.toInt) (hn2 : n2.toInt = n1.toInt + 1) (hs : 1 ≤ (strF x).toInt) : ES t f n m q n2 a (nb o k) := fun f0 n0 m0 z1 z2 h => by
  have h3 := h1 f0 n0 m0 z1 z2 h
  rcases strF_cases hs with e | e | e
  · have e1 : nb o (k + 1) = nb o k + 1 := by show nb o k + _ = _; rw [if_pos (Or.inr (hx.trans e))]
    rw [e1] at h3
    rw [e] at h2
    exact ex_bin h3 h2 z1 (by omega) hn2 (by decide)
  · have e1 : nb o (k + 1) = nb o k + 1 := by show nb o k + _ = _; rw [if_pos (Or.inl (hx.trans e))]
    rw [e1] at h3
    rw [e] at h2
    exact ex_bin h3 h2 z1 (by omega) hn2 (by decide)
  · have e1 : nb o (k + 1) = nb o k := by
      show nb o k + _ = _
      rw [if_neg (by rw [hx, e]; decide)]; rfl
    rw [e1] at h3
    rw [e] at h2
    exact ex_not h3 h2 z1 (by omega) hn2 (by decide)
theorem nb_skip {o : Nat → Int32} {k : Nat} (h : ¬ (o k = 12 ∨ o k = 13)) : nb o (k + 1) = nb o k := by
  show nb o k + _ = _
  rw [if_neg h]; rfl
theorem nb_push {o q : Nat → Int32} {n k : Nat} {x : Int32} (u : q = upd o k x) (hk : n = k + 1) (hx : ¬ (x = 12 ∨ x = 13)) : nb q n = nb o k := by
  subst hk
  rw [nb_skip (by rw [u, pk_us]; exact hx)]
  exact nb_congr k (fun j hj => by rw [u, pk_un (by omega)])
theorem nb_pushb {o q : Nat → Int32} {n k : Nat} {x : Int32} (u : q = upd o k x) (hk : n = k + 1) (hx : x = 12 ∨ x = 13) : nb q n = nb o k + 1 := by
  subst hk
  show nb q k + _ = _
  rw [if_pos (by rw [u, pk_us]; exact hx), nb_congr k (fun j hj => by rw [u, pk_un (by omega)])]
theorem strF_lt1 {x : Int32} (h : (strF x).toInt < 1) : ¬ (x = 12 ∨ x = 13) := fun z => by
  rcases z with z | z <;> rw [z] at h <;> exact absurd h (by decide)
/-- all that was taken off was of some strength -/
def SP (o : Nat → Int32) (a b : Int32) (s : Int32) : Prop := ∀ k : Nat, a.toInt.toNat ≤ k → k < b.toInt.toNat → s.toInt ≤ (strF (o k)).toInt
/-- a clause's two rows of signs reckon out -/
def SG (s : Nat → Int32) (r : Nat) (b e : Int32) (n : Int) : Prop := 0 ≤ b.toInt ∧ b.toInt ≤ e.toInt ∧ e.toInt ≤ n ∧ ∃ k, hgt s (400 * r + b.toInt.toNat) (e.toInt.toNat - b.toInt.toNat) = some (k + 1)
def CLOK (s cl : Nat → Int32) (n : Int) (r c : Nat) : Prop := SG s r (cl (60 * r + 5 * c + 1)) (cl (60 * r + 5 * c + 2)) n ∧ ((cl (60 * r + 5 * c + 3)).toInt < 0 ∨ SG s r (cl (60 * r + 5 * c + 3)) (cl (60 * r + 5 * c + 4)) n)
def RU (s cl : Nat → Int32) (n : Int) (r m : Nat) : Prop := ∀ c, c < m → CLOK s cl n r c
theorem sg_keep {s s' : Nat → Int32} {r : Nat} {b e : Int32} {n n' : Int} (h : SG s r b e n) (hs : ∀ j, j < 400 * r + n.toNat → s' j = s j) (hn : n ≤ n') : SG s' r b e n' := by
  obtain ⟨h1, h2, h3, k, h4⟩ := h
  refine ⟨h1, h2, Int.le_trans h3 hn, k, ?_⟩
  rw [hgt_congr (g := s) _ (fun j hj => hs _ (by omega))]; exact h4
theorem clok_keep {s s' cl cl' : Nat → Int32} {n n' : Int} {r c : Nat} (h : CLOK s cl n r c) (hs : ∀ j, j < 400 * r + n.toNat → s' j = s j) (hc : ∀ j, j < 60 * r + 5 * c + 5 → cl' j = cl j) (hn : n ≤ n') : CLOK s' cl' n' r c := by
  unfold CLOK at *
  rw [hc _ (by omega), hc _ (by omega), hc _ (by omega), hc _ (by omega)]
  exact ⟨sg_keep h.1 hs hn, h.2.imp id (fun z => sg_keep z hs hn)⟩
theorem ru_keep {s s' cl cl' : Nat → Int32} {n n' : Int} {r m : Nat} (h : RU s cl n r m) (hs : ∀ j, j < 400 * r + n.toNat → s' j = s j) (hc : ∀ j, j < 60 * r + 5 * m → cl' j = cl j) (hn : n ≤ n') : RU s' cl' n' r m := fun c hcm => clok_keep (h c hcm) hs (fun j hj => hc j (by omega)) hn
theorem ru_step {s s' cl cl' : Nat → Int32} {n n' : Int} {r m m' : Nat} (h : RU s cl n r m) (hs : ∀ j, j < 400 * r + n.toNat → s' j = s j) (hc : ∀ j, j < 60 * r + 5 * m → cl' j = cl j) (hn : n ≤ n') (hl : CLOK s' cl' n' r m) (hm : m' = m + 1) : RU s' cl' n' r m' := fun c hcm => by
  by_cases z : c < m
  · exact clok_keep (h c z) hs (fun j hj => hc j (by omega)) hn
  · have e : c = m := by omega
    rw [e]; exact hl
theorem sg_ex {t : Int32} {f g g' : Nat → Int32} {n m n1 m1 a b : Int32} {k : Nat} {N : Int} (h : EX t f n m g n1 m1 (k + 1)) (hm : 0 ≤ m.toInt) (h0 : 0 ≤ n.toInt) (hn : n.toInt ≤ n1.toInt) (hN : n1.toInt ≤ N) (hg : ∀ j, j < 400 * t.toInt.toNat + n1.toInt.toNat → g' j = g j) (ha : a = n) (hb : b = n1) : SG g' t.toInt.toNat a b N := by
  subst ha hb
  refine ⟨h0, hn, hN, k, ?_⟩
  rw [hgt_congr (g := g) _ (fun j hj => hg _ (by omega))]
  exact ex_end h hm
def FC (cl cl' : Nat → Int32) (k : Nat) : Prop := ∀ j, j < k → cl' j = cl j
/-- all rules there are reckon out -/
def RUS (s cl cs : Nat → Int32) (m : Int) : Prop := ∀ r : Nat, (r : Int) < m → RU s cl 400 r (cs r).toInt.toNat ∧ 0 ≤ (cs r).toInt ∧ (cs r).toInt ≤ 12
theorem rus_keep {s s' cl cl' cs cs' : Nat → Int32} {t : Int32} {m : Int} (h : RUS s cl cs m) (ht : m ≤ t.toInt) (h0 : 0 ≤ t.toInt) (hs : FR t s 0 s') (hc : FC cl cl' (60 * t.toInt.toNat)) (hl : ∀ j, j ≠ Int32.toNatClampNeg t → cs' j = cs j) : RUS s' cl' cs' m := fun r hr => by
  obtain ⟨h1, h2, h3⟩ := h r hr
  have e : cs' r = cs r := hl r (by show r ≠ t.toInt.toNat; omega)
  rw [e]
  have z0 : (0 : Int32).toInt.toNat = 0 := rfl
  refine ⟨fun c hc2 => clok_keep (h1 c hc2) (fun j hj => hs j (by rw [z0]; have e4 : (400 : Int).toNat = 400 := rfl; rw [e4] at hj; omega)) (fun j hj => hc j (by omega)) (Int.le_refl _), h2, h3⟩
theorem rus_add {s cl cs : Nat → Int32} {t : Int32} {m m' n : Int} (h : RUS s cl cs m) (ht : m = t.toInt) (h0 : 0 ≤ t.toInt) (hm : m' = m + 1) (h1 : RU s cl n t.toInt.toNat (cs (Int32.toNatClampNeg t)).toInt.toNat) (hn : n ≤ 400) (h2 : 0 ≤ (cs (Int32.toNatClampNeg t)).toInt) (h3 : (cs (Int32.toNatClampNeg t)).toInt ≤ 12) : RUS s cl cs m' := fun r hr => by
  by_cases z : (r : Int) < m
  · exact h r z
  · have e : r = Int32.toNatClampNeg t := by show r = t.toInt.toNat; omega
    subst e
    exact ⟨ru_keep h1 (fun _ _ => rfl) (fun _ _ => rfl) hn, h2, h3⟩
