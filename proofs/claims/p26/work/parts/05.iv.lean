-- ===== intervals =====
def IV (lo hi : Int) (x : Int32) : Prop := lo ≤ x.toInt ∧ x.toInt ≤ hi
def CI (n : Nat) (lo hi : Int) (f : Nat → Int32) : Prop := ∀ k, k < n → IV lo hi (f k)
theorem iv_c {a b : Int} {x : Int32} (h : (decide (a ≤ x.toInt) && decide (x.toInt ≤ b)) = true) : IV a b x := by
  rw [Bool.and_eq_true] at h; exact ⟨of_decide_eq_true h.1, of_decide_eq_true h.2⟩
theorem iv_top {x : Int32} : IV (-2147483648) 2147483647 x := ⟨by have := Int32.le_toInt x; simpa using this, by have := Int32.toInt_lt x; omega⟩
theorem iv_w {a b c d : Int} {x : Int32} (h : IV a b x) (h1 : c ≤ a) (h2 : b ≤ d) : IV c d x := ⟨by have := h.1; omega, by have := h.2; omega⟩
theorem iv_i {a b c d e f : Int} {x : Int32} (h : IV a b x) (g : IV c d x) (h1 : e ≤ a ∨ e ≤ c) (h2 : b ≤ f ∨ d ≤ f) : IV e f x := by
  unfold IV at *; omega
theorem iv_no {a b c d : Int} {x : Int32} (h : IV a b x) (g : IV c d x) (h1 : b < c ∨ d < a) : False := by unfold IV at *; omega
theorem iv_bm {z : Int} (h1 : -2147483648 ≤ z) (h2 : z ≤ 2147483647) : z.bmod (2 ^ 32) = z := by
  rw [Int.bmod_def]; omega
theorem iv_addE {a b c d : Int} {x y v : Int32} (e : v = x + y) (h : IV a b x) (g : IV c d y) (h1 : -2147483648 ≤ a + c) (h2 : b + d ≤ 2147483647) (h3 : c = d) : v.toInt = x.toInt + c := by
  unfold IV at *; rw [e, Int32.toInt_add, iv_bm (by omega) (by omega)]; omega
theorem iv_subE {a b c d : Int} {x y v : Int32} (e : v = x - y) (h : IV a b x) (g : IV c d y) (h1 : -2147483648 ≤ a - d) (h2 : b - c ≤ 2147483647) (h3 : c = d) : v.toInt = x.toInt + -c := by
  unfold IV at *; rw [e, Int32.toInt_sub, iv_bm (by omega) (by omega)]; omega
theorem iv_add {a b c d p q : Int} {x y v : Int32} (e : v = x + y) (h : IV a b x) (g : IV c d y) (h1 : -2147483648 ≤ p ∧ p ≤ a + c) (h2 : b + d ≤ q ∧ q ≤ 2147483647) : IV p q v := by
  unfold IV at *; rw [e, Int32.toInt_add, iv_bm (by omega) (by omega)]; omega
theorem iv_sub {a b c d p q : Int} {x y v : Int32} (e : v = x - y) (h : IV a b x) (g : IV c d y) (h1 : -2147483648 ≤ p ∧ p ≤ a - d) (h2 : b - c ≤ q ∧ q ≤ 2147483647) : IV p q v := by
  unfold IV at *; rw [e, Int32.toInt_sub, iv_bm (by omega) (by omega)]; omega
theorem iv_mul {a b c d p q : Int} {x y v : Int32} (e : v = x * y) (h : IV a b x) (g : IV c d y) (h0 : 0 ≤ a) (h1 : 0 ≤ c) (h2 : 0 ≤ p ∧ p ≤ a * c) (h3 : b * d ≤ q ∧ q ≤ 2147483647) : IV p q v := by
  have u1 : a * c ≤ x.toInt * y.toInt := Int.mul_le_mul h.1 g.1 h1 (Int.le_trans h0 h.1)
  have u2 : x.toInt * y.toInt ≤ b * d := Int.mul_le_mul h.2 g.2 (Int.le_trans h1 g.1) (Int.le_trans (Int.le_trans h0 h.1) h.2)
  unfold IV at *; rw [e, Int32.toInt_mul, iv_bm (by omega) (by omega)]; omega
theorem iv_lt1 {a b c d q : Int} {x y : Int32} (h : x < y) (h1 : IV a b x) (h2 : IV c d y) (h3 : b ≤ q ∨ d - 1 ≤ q) : IV a q x := by
  rw [Int32.lt_iff_toInt_lt] at h; unfold IV at *; omega
theorem iv_lt2 {a b c d p : Int} {x y : Int32} (h : x < y) (h1 : IV a b x) (h2 : IV c d y) (h3 : p ≤ c ∨ p ≤ a + 1) : IV p d y := by
  rw [Int32.lt_iff_toInt_lt] at h; unfold IV at *; omega
theorem iv_le1 {a b c d q : Int} {x y : Int32} (h : x ≤ y) (h1 : IV a b x) (h2 : IV c d y) (h3 : b ≤ q ∨ d ≤ q) : IV a q x := by
  rw [Int32.le_iff_toInt_le] at h; unfold IV at *; omega
theorem iv_le2 {a b c d p : Int} {x y : Int32} (h : x ≤ y) (h1 : IV a b x) (h2 : IV c d y) (h3 : p ≤ c ∨ p ≤ a) : IV p d y := by
  rw [Int32.le_iff_toInt_le] at h; unfold IV at *; omega
theorem iv_eq1 {a b c d p q : Int} {x y : Int32} (h : x = y) (h1 : IV a b x) (h2 : IV c d y) (h3 : p ≤ a ∨ p ≤ c) (h4 : b ≤ q ∨ d ≤ q) : IV p q x := by subst h; unfold IV at *; omega
theorem iv_eq2 {a b c d p q : Int} {x y : Int32} (h : x = y) (h1 : IV a b x) (h2 : IV c d y) (h3 : p ≤ a ∨ p ≤ c) (h4 : b ≤ q ∨ d ≤ q) : IV p q y := by subst h; unfold IV at *; omega
theorem iv_neL {a b p : Int} {x y : Int32} (h : ¬ x = y) (h1 : IV a b x) (h2 : y.toInt = a ∧ p = a + 1) : IV p b x := by
  have h3 : ¬ x.toInt = y.toInt := fun z => h (Int32.toInt_inj.mp z)
  unfold IV at *; omega
theorem iv_neR {a b q : Int} {x y : Int32} (h : ¬ x = y) (h1 : IV a b x) (h2 : y.toInt = b ∧ q = b - 1) : IV a q x := by
  have h3 : ¬ x.toInt = y.toInt := fun z => h (Int32.toInt_inj.mp z)
  unfold IV at *; omega
theorem iv_ltT {a b c d : Int} {x y : Int32} (h1 : IV a b x) (h2 : IV c d y) (h3 : b < c) : x < y := by rw [Int32.lt_iff_toInt_lt]; unfold IV at *; omega
theorem iv_ltF {a b c d : Int} {x y : Int32} (h1 : IV a b x) (h2 : IV c d y) (h3 : d ≤ a) : ¬ x < y := by rw [Int32.lt_iff_toInt_lt]; unfold IV at *; omega
theorem iv_leT {a b c d : Int} {x y : Int32} (h1 : IV a b x) (h2 : IV c d y) (h3 : b ≤ c) : x ≤ y := by rw [Int32.le_iff_toInt_le]; unfold IV at *; omega
theorem iv_leF {a b c d : Int} {x y : Int32} (h1 : IV a b x) (h2 : IV c d y) (h3 : d < a) : ¬ x ≤ y := by rw [Int32.le_iff_toInt_le]; unfold IV at *; omega
theorem iv_eqF {a b c d : Int} {x y : Int32} (h1 : IV a b x) (h2 : IV c d y) (h3 : b < c ∨ d < a) : ¬ x = y := fun z => by subst z; unfold IV at *; omega
theorem iv_eqT {a b c d : Int} {x y : Int32} (h1 : IV a b x) (h2 : IV c d y) (h3 : a = b ∧ c = d ∧ a = c) : x = y := Int32.toInt_inj.mp (by unfold IV at *; omega)
theorem iv_v {a b : Int} {n : Nat} {x : Int32} (h : IV a b x) (h1 : 0 ≤ a) (h2 : b < n) : vp_in x n := vp_in_iff.mpr ⟨by have := h.1; omega, by have := h.2; omega⟩
theorem iv_vc {n : Nat} {x : Int32} (h : (decide (0 ≤ x.toInt) && decide (x.toInt < n)) = true) : vp_in x n := by
  rw [Bool.and_eq_true] at h; exact vp_in_iff.mpr ⟨of_decide_eq_true h.1, of_decide_eq_true h.2⟩
theorem iv_ne0 {a b : Int} {x : Int32} (h : IV a b x) (h1 : 0 < a ∨ b < 0) : ¬ x = 0 := by
  intro z
  have e : x.toInt = 0 := by rw [z]; decide
  unfold IV at h
  omega
theorem iv_cn {x : Int32} {n : Nat} (h : vp_in x n) : x.toNatClampNeg < n := Nat.not_le.mp fun q => h (Or.inr q)
theorem iv_ci {n : Nat} {a b : Int} {f : Nat → Int32} {i v : Int32} (e : v = f i.toNatClampNeg) (h : CI n a b f) (hi : vp_in i n) : IV a b v := by rw [e]; exact h _ (iv_cn hi)
theorem ci_w {n : Nat} {a b c d : Int} {f : Nat → Int32} (h : CI n a b f) (h1 : c ≤ a) (h2 : b ≤ d) : CI n c d f := fun k hk => iv_w (h k hk) h1 h2
theorem ci_upd {n : Nat} {a b : Int} {f : Nat → Int32} {i x : Int32} (h : CI n a b f) (g : IV a b x) : CI n a b (upd f (Int32.toNatClampNeg i) x) := fun k hk => by
  unfold upd; split
  · exact g
  · exact h k hk
theorem iv_nn {a b : Int} {x : Int32} (h : IV a b x) (h1 : 0 ≤ a) : ∃ k : Nat, x = nI k ∧ (k : Int) = x.toInt ∧ k < 2 ^ 31 := by
  obtain ⟨k, hk, e⟩ := nI_of (x := x) (fun z => by rw [Int32.lt_iff_toInt_lt] at z; have : (0 : Int32).toInt = 0 := by decide
                                                   unfold IV at h; omega)
  exact ⟨k, e, by rw [e, nI_toInt hk], hk⟩
theorem iv_bt {x : Int32} (k : Nat) (e : x = nI k) (h : k < 2 ^ 31) : x.toBitVec.toNat = k := by rw [e]; exact pk_tn (by omega)
theorem iv_of {a b : Int} {x : Int32} (h0 : x.toBitVec.toNat < 2 ^ 31) (h1 : a ≤ x.toBitVec.toNat) (h2 : (x.toBitVec.toNat : Int) ≤ b) : IV a b x := by
  have : x.toInt = (x.toBitVec.toNat : Int) := by
    show x.toBitVec.toInt = _
    exact BitVec.toInt_eq_toNat_of_lt (by omega)
  unfold IV; omega
theorem iv_and2 {a b : Int} {x y v : Int32} (e : v = x &&& y) (g : IV a b y) (h : decide (0 ≤ a) = true := by decide) : IV 0 b v := by
  obtain ⟨k, e1, e2, e3⟩ := iv_nn g (of_decide_eq_true h)
  have h1 : v.toBitVec.toNat = x.toBitVec.toNat &&& k := by rw [e, Int32.toBitVec_and, BitVec.toNat_and, iv_bt k e1 e3]
  have h2 : x.toBitVec.toNat &&& k ≤ k := Nat.and_le_right
  have := g.2
  exact iv_of (by omega) (by omega) (by omega)
theorem iv_and1 {a b : Int} {x y v : Int32} (e : v = x &&& y) (g : IV a b x) (h : decide (0 ≤ a) = true := by decide) : IV 0 b v := by
  obtain ⟨k, e1, e2, e3⟩ := iv_nn g (of_decide_eq_true h)
  have h1 : v.toBitVec.toNat = k &&& y.toBitVec.toNat := by rw [e, Int32.toBitVec_and, BitVec.toNat_and, iv_bt k e1 e3]
  have h2 : k &&& y.toBitVec.toNat ≤ k := Nat.and_le_left
  have := g.2
  exact iv_of (by omega) (by omega) (by omega)
theorem iv_or {a b c d q : Int} {k : Nat} {x y v : Int32} (e : v = x ||| y) (h : IV a b x) (g : IV c d y) (h0 : 0 ≤ a) (h1 : 0 ≤ c) (h2 : b < (2 : Int) ^ k) (h3 : d < (2 : Int) ^ k) (h4 : (2 : Int) ^ k - 1 ≤ q) (h5 : k ≤ 30) : IV 0 q v := by
  obtain ⟨m, e1, e2, e3⟩ := iv_nn h h0
  obtain ⟨n, f1, f2, f3⟩ := iv_nn g h1
  have u : v.toBitVec.toNat = m ||| n := by rw [e, Int32.toBitVec_or, BitVec.toNat_or, iv_bt m e1 e3, iv_bt n f1 f3]
  have p1 : m < 2 ^ k := by have := h.2; have : (m : Int) < (2 : Int) ^ k := by omega
                            exact_mod_cast this
  have p2 : n < 2 ^ k := by have := g.2; have : (n : Int) < (2 : Int) ^ k := by omega
                            exact_mod_cast this
  have p3 := Nat.or_lt_two_pow p1 p2
  have p4 : (2 : Nat) ^ k ≤ 2 ^ 30 := Nat.pow_le_pow_right (by decide) h5
  have p5 : ((m ||| n : Nat) : Int) < (2 : Int) ^ k := by exact_mod_cast p3
  exact iv_of (by omega) (by omega) (by rw [u]; omega)
theorem iv_xor {a b c d q : Int} {k : Nat} {x y v : Int32} (e : v = x ^^^ y) (h : IV a b x) (g : IV c d y) (h0 : 0 ≤ a) (h1 : 0 ≤ c) (h2 : b < (2 : Int) ^ k) (h3 : d < (2 : Int) ^ k) (h4 : (2 : Int) ^ k - 1 ≤ q) (h5 : k ≤ 30) : IV 0 q v := by
  obtain ⟨m, e1, e2, e3⟩ := iv_nn h h0
  obtain ⟨n, f1, f2, f3⟩ := iv_nn g h1
  have u : v.toBitVec.toNat = m ^^^ n := by rw [e, Int32.toBitVec_xor, BitVec.toNat_xor, iv_bt m e1 e3, iv_bt n f1 f3]
  have p1 : m < 2 ^ k := by have := h.2; have : (m : Int) < (2 : Int) ^ k := by omega
                            exact_mod_cast this
  have p2 : n < 2 ^ k := by have := g.2; have : (n : Int) < (2 : Int) ^ k := by omega
                            exact_mod_cast this
  have p3 := Nat.xor_lt_two_pow p1 p2
  have p4 : (2 : Nat) ^ k ≤ 2 ^ 30 := Nat.pow_le_pow_right (by decide) h5
  have p5 : ((m ^^^ n : Nat) : Int) < (2 : Int) ^ k := by exact_mod_cast p3
  exact iv_of (by omega) (by omega) (by rw [u]; omega)
theorem iv_shlT : ∀ k, k < 31 → ((1 : Int32) <<< (nI k &&& 31)).toInt = (2 : Int) ^ k := by decide +kernel
theorem iv_p2 {m n : Nat} (h : m ≤ n) : (2 : Int) ^ m ≤ (2 : Int) ^ n := by
  have : (2 : Nat) ^ m ≤ 2 ^ n := Nat.pow_le_pow_right (by decide) h
  exact_mod_cast this
theorem iv_shl1 {a b q : Int} {y v : Int32} (e : v = (1 : Int32) <<< (y &&& 31)) (h : IV a b y) (h0 : 0 ≤ a) (h1 : b ≤ 30) (h2 : (2 : Int) ^ b.toNat ≤ q) : IV 1 q v := by
  obtain ⟨k, e1, e2, e3⟩ := iv_nn h h0
  have hb := h.2
  have u : v.toInt = (2 : Int) ^ k := by rw [e, e1]; exact iv_shlT k (by omega)
  have w1 := iv_p2 (m := 0) (n := k) (Nat.zero_le k)
  have w2 := iv_p2 (m := k) (n := b.toNat) (by omega)
  have w3 : (2 : Int) ^ 0 = 1 := rfl
  unfold IV; omega
theorem iv_shr {a b : Int} {x y v : Int32} (e : v = x >>> (y &&& 31)) (h : IV a b x) (h0 : 0 ≤ a) : IV 0 b v := by
  have u : v.toInt = x.toInt >>> ((y &&& 31).toBitVec.smod 32).toNat := by rw [e]; exact pk_shr x _ _ rfl
  have h1 := h.1
  have h2 := h.2
  rw [Int.shiftRight_eq_div_pow] at u
  have w1 : 0 ≤ x.toInt / ((2 ^ ((y &&& 31).toBitVec.smod 32).toNat : Nat) : Int) := Int.ediv_nonneg (by omega) (by exact_mod_cast Nat.zero_le _)
  have w2 : x.toInt / ((2 ^ ((y &&& 31).toBitVec.smod 32).toNat : Nat) : Int) ≤ x.toInt := Int.ediv_le_self _ (by omega)
  unfold IV; omega
theorem iv_tnp {a b : Int} (h : a ≤ 0) : a.tmod b ≤ 0 := by
  have h1 := Int.tmod_nonneg b (show 0 ≤ -a by omega)
  rw [Int.neg_tmod] at h1
  omega
theorem iv_tab (a b : Int) : (a.tmod b).natAbs ≤ a.natAbs := by
  rw [Int.natAbs_tmod]; exact Nat.mod_le _ _
theorem iv_remE {x y v : Int32} {a b : Int} (e : v = x - x / y * y) (h : IV a b y) (h0 : 0 < a) : v.toInt = x.toInt.tmod y.toInt := by
  have hx := iv_top (x := x)
  have hy := h.1
  have q0 : (x.toInt.tdiv y.toInt).natAbs ≤ x.toInt.natAbs := Int.natAbs_tdiv_le_natAbs _ _
  have m1 := iv_tab x.toInt y.toInt
  have s1 := Int.tdiv_mul_add_tmod x.toInt y.toInt
  have sp : 0 ≤ x.toInt → 0 ≤ x.toInt.tmod y.toInt := fun z => Int.tmod_nonneg _ z
  have sn : x.toInt ≤ 0 → x.toInt.tmod y.toInt ≤ 0 := fun z => iv_tnp z
  have qn : x.toInt ≤ 0 → x.toInt.tdiv y.toInt ≤ 0 := fun z => by
    have := Int.tdiv_le_tdiv (show 0 < y.toInt by omega) z
    rw [Int.zero_tdiv] at this
    exact this
  unfold IV at hx
  have t1 : (x / y).toInt = x.toInt.tdiv y.toInt := by
    rw [Int32.toInt_div]
    by_cases z : x.toInt ≤ 0
    · have := qn z
      exact iv_bm (by omega) (by omega)
    · exact iv_bm (by omega) (by omega)
  have t2 : (x / y * y).toInt = x.toInt - x.toInt.tmod y.toInt := by
    rw [Int32.toInt_mul, t1]
    have e2 : x.toInt.tdiv y.toInt * y.toInt = x.toInt - x.toInt.tmod y.toInt := by omega
    rw [e2]
    by_cases z : x.toInt ≤ 0
    · have := sn z
      exact iv_bm (by omega) (by omega)
    · have := sp (by omega)
      exact iv_bm (by omega) (by omega)
  rw [e, Int32.toInt_sub, t2]
  have e3 : x.toInt - (x.toInt - x.toInt.tmod y.toInt) = x.toInt.tmod y.toInt := by omega
  rw [e3]
  exact iv_bm (by omega) (by omega)
theorem iv_remP {a b c d q : Int} {x y v : Int32} (e : v = x - x / y * y) (h : IV a b x) (g : IV c d y) (h0 : 0 ≤ a ∧ 0 < c) (h1 : d - 1 ≤ q) : IV 0 q v := by
  have u := iv_remE e g h0.2
  have w1 := Int.tmod_nonneg y.toInt (show 0 ≤ x.toInt by have := h.1; omega)
  have w2 := Int.tmod_lt_of_pos x.toInt (show 0 < y.toInt by have := g.1; omega)
  have := g.2
  unfold IV; omega
theorem iv_remA {c d p q : Int} {x y v : Int32} (e : v = x - x / y * y) (g : IV c d y) (h0 : 0 < c) (h1 : d - 1 ≤ q ∧ p ≤ 1 - d) : IV p q v := by
  have u := iv_remE e g h0
  have w2 := Int.tmod_lt_of_pos x.toInt (show 0 < y.toInt by have := g.1; omega)
  have w3 := Int.lt_tmod_of_pos x.toInt (show 0 < y.toInt by have := g.1; omega)
  have := g.2
  unfold IV; omega
theorem iv_cmp {x y : Int64} {v : Int32} (e : v = lg_cmp x y) : IV (-1) 1 v := by
  rw [e]; unfold lg_cmp; split
  · exact iv_c (by decide)
  · split
    · exact iv_c (by decide)
    · exact iv_c (by decide)
theorem iv_vn {a b : Int} {n : Nat} {x : Int32} (h : IV a b x) (h1 : 0 ≤ a) (h2 : x < Int32.ofNat n) (h3 : n < 2 ^ 31) : vp_in x n := by
  rw [Int32.lt_iff_toInt_lt] at h2
  have e : (Int32.ofNat n).toInt = (n : Int) := nI_toInt h3
  exact vp_in_iff.mpr ⟨by have := h.1; omega, by omega⟩
theorem iv_rel {a b c d q : Int} {k : Int} {x y : Int32} (h : x.toInt ≤ y.toInt + k) (h1 : IV a b x) (h2 : IV c d y) (h3 : d + k ≤ q) : IV a q x := by unfold IV at *; omega
theorem iv_xneg {a b c d : Int} {x y v : Int32} (e : v = x ^^^ y) (h : IV a b x) (g : IV c d y) (h1 : b < 0) (h2 : 0 ≤ c) : IV (-2147483648) (-1) v := by
  have t := iv_top (x := v)
  have u : v.toInt < 0 := by
    have hx : x.toBitVec.msb = true := by rw [BitVec.msb_eq_toInt]; exact decide_eq_true (show x.toInt < 0 by have := h.2; omega)
    have hy : y.toBitVec.msb = false := by rw [BitVec.msb_eq_toInt]; exact decide_eq_false (show ¬ y.toInt < 0 by have := g.1; omega)
    have hv : v.toBitVec.msb = true := by rw [e, Int32.toBitVec_xor, BitVec.msb_xor, hx, hy]; rfl
    rw [BitVec.msb_eq_toInt] at hv
    exact of_decide_eq_true hv
  unfold IV at *; omega
theorem iv_addG {a b c d : Int} {x y v : Int32} (e : v = x + y) (h : IV a b x) (g : IV c d y) (h1 : -2147483648 ≤ a + c) (h2 : b + d ≤ 2147483647) : v.toInt = x.toInt + y.toInt := by
  unfold IV at *; rw [e, Int32.toInt_add, iv_bm (by omega) (by omega)]
theorem iv_tm {c d : Int} {x y v : Int32} (e : v = x - x / y * y) (g : IV c d y) (h0 : 0 < c) : v.toInt < y.toInt ∧ -y.toInt < v.toInt := by
  have u := iv_remE e g h0
  have w2 := Int.tmod_lt_of_pos x.toInt (show 0 < y.toInt by have := g.1; omega)
  have w3 := Int.lt_tmod_of_pos x.toInt (show 0 < y.toInt by have := g.1; omega)
  omega
theorem iv_remN {a b c d p : Int} {x y v : Int32} (e : v = x - x / y * y) (h : IV a b x) (g : IV c d y) (h0 : b ≤ 0 ∧ 0 < c) (h1 : p ≤ 1 - d) : IV p 0 v := by
  have u := iv_remE e g h0.2
  have w1 := iv_tnp (b := y.toInt) (show x.toInt ≤ 0 by have := h.2; omega)
  have w3 := Int.lt_tmod_of_pos x.toInt (show 0 < y.toInt by have := g.1; omega)
  have := g.2
  unfold IV; omega
theorem iv_xpos {a b c d : Int} {x y v : Int32} (e : v = x ^^^ y) (h : IV a b x) (g : IV c d y) (h1 : 0 ≤ a) (h2 : 0 ≤ c) : IV 0 2147483647 v := by
  have t := iv_top (x := v)
  have u : ¬ v.toInt < 0 := by
    have hx : x.toBitVec.msb = false := by rw [BitVec.msb_eq_toInt]; exact decide_eq_false (show ¬ x.toInt < 0 by have := h.1; omega)
    have hy : y.toBitVec.msb = false := by rw [BitVec.msb_eq_toInt]; exact decide_eq_false (show ¬ y.toInt < 0 by have := g.1; omega)
    have hv : v.toBitVec.msb = false := by rw [e, Int32.toBitVec_xor, BitVec.msb_xor, hx, hy]; rfl
    rw [BitVec.msb_eq_toInt] at hv
    exact of_decide_eq_false hv
  unfold IV at *; omega
def ushF (x k : Int32) : Int32 := (x.toUInt32 >>> (k.toUInt32 &&& Int32.toUInt32 31)).toInt32
def bcF (x : Int32) : Int32 :=
  let a1 := x - (ushF x 1 &&& 1431655765)
  let a2 := (a1 &&& 858993459) + (ushF a1 2 &&& 858993459)
  let a3 := (a2 + ushF a2 4) &&& 252645135
  let a4 := a3 + ushF a3 8
  let a5 := a4 + ushF a4 16
  a5 &&& 63
theorem bc_iv {x r : Int32} (h : r = bcF x) : IV 0 63 r := by
  unfold bcF at h
  exact iv_and2 h (iv_c (a := 63) (b := 63) (by decide))
theorem bc_all : (List.range 4096).all (fun k => k == 0 || (decide (0 ≤ (bcF ((nI k ^^^ (nI k &&& (nI k - 1))) - 1)).toInt) && decide ((bcF ((nI k ^^^ (nI k &&& (nI k - 1))) - 1)).toInt ≤ 11))) = true := by decide +kernel
theorem bc_first {s a b c d r : Int32} (h : IV 1 4095 s) (e1 : a = s - 1) (e2 : b = s &&& a) (e3 : c = s ^^^ b) (e4 : d = c - 1) (hr : r = bcF d) : IV 0 11 r := by
  obtain ⟨k, u1, u2, u3⟩ := iv_nn h (by decide)
  have h1 := h.1
  have h2 := h.2
  have hk := List.all_eq_true.mp bc_all k (List.mem_range.mpr (by omega))
  have e : r = bcF ((nI k ^^^ (nI k &&& (nI k - 1))) - 1) := by rw [hr, e4, e3, e2, e1, u1]
  rw [e]
  have hz : (k == 0) = false := by simp; omega
  rw [hz, Bool.false_or] at hk
  exact iv_c hk
theorem hz_len72 (k : Nat) : IV 0 72 (nI (hz_len.getD k 0)) := by
  have h := hz_l72 k
  have e : (nI (hz_len.getD k 0)).toInt = ((hz_len.getD k 0 : Nat) : Int) := nI_toInt hz_l31
  unfold IV; omega
theorem ci_0 {n : Nat} : CI n 0 0 (fun _ => (0 : Int32)) := fun _ _ => (iv_c (by decide) : IV 0 0 (0 : Int32))
