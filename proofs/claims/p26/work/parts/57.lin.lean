-- ===== linear facts =====
theorem lin_lt {x y : Int32} {a b : Int} (h : x < y) (ex : x.toInt = a) (ey : y.toInt = b) : a < b := by rw [Int32.lt_iff_toInt_lt] at h; omega
theorem lin_ltN {x y : Int32} {a b : Int} (h : ¬ x < y) (ex : x.toInt = a) (ey : y.toInt = b) : a ≥ b := by rw [Int32.lt_iff_toInt_lt] at h; omega
theorem lin_le {x y : Int32} {a b : Int} (h : x ≤ y) (ex : x.toInt = a) (ey : y.toInt = b) : a ≤ b := by rw [Int32.le_iff_toInt_le] at h; omega
theorem lin_leN {x y : Int32} {a b : Int} (h : ¬ x ≤ y) (ex : x.toInt = a) (ey : y.toInt = b) : a > b := by rw [Int32.le_iff_toInt_le] at h; omega
theorem lin_gt {x y : Int32} {a b : Int} (h : y < x) (ex : x.toInt = a) (ey : y.toInt = b) : a > b := by rw [Int32.lt_iff_toInt_lt] at h; omega
theorem lin_gtN {x y : Int32} {a b : Int} (h : ¬ y < x) (ex : x.toInt = a) (ey : y.toInt = b) : a ≤ b := by rw [Int32.lt_iff_toInt_lt] at h; omega
theorem lin_ge {x y : Int32} {a b : Int} (h : y ≤ x) (ex : x.toInt = a) (ey : y.toInt = b) : a ≥ b := by rw [Int32.le_iff_toInt_le] at h; omega
theorem lin_geN {x y : Int32} {a b : Int} (h : ¬ y ≤ x) (ex : x.toInt = a) (ey : y.toInt = b) : a < b := by rw [Int32.le_iff_toInt_le] at h; omega
theorem lin_eq {x y : Int32} {a b : Int} (h : x = y) (ex : x.toInt = a) (ey : y.toInt = b) : a = b := by rw [← ex, ← ey, h]
theorem lin_eqN {x y : Int32} {a b : Int} (h : x = y) (ex : x.toInt = a) (ey : y.toInt = b) : a = b := by rw [← ex, ← ey, h]
theorem lin_ne {x y : Int32} {a b : Int} (h : ¬ x = y) (ex : x.toInt = a) (ey : y.toInt = b) : a ≠ b := fun z => h (Int32.toInt_inj.mp (by rw [ex, ey, z]))
theorem lin_add {a b c d X Y : Int} {x y v : Int32} (e : v = x + y) (h : IV a b x) (g : IV c d y) (ex : x.toInt = X) (ey : y.toInt = Y) (h1 : -2147483648 ≤ a + c) (h2 : b + d ≤ 2147483647) : v.toInt = X + Y := by
  unfold IV at *; rw [e, Int32.toInt_add, iv_bm (by omega) (by omega)]; omega
theorem lin_sub {a b c d X Y : Int} {x y v : Int32} (e : v = x - y) (h : IV a b x) (g : IV c d y) (ex : x.toInt = X) (ey : y.toInt = Y) (h1 : -2147483648 ≤ a - d) (h2 : b - c ≤ 2147483647) : v.toInt = X - Y := by
  unfold IV at *; rw [e, Int32.toInt_sub, iv_bm (by omega) (by omega)]; omega
theorem lin_mul {a b c d X Y : Int} {x y v : Int32} (e : v = x * y) (h : IV a b x) (g : IV c d y) (ex : x.toInt = X) (ey : y.toInt = Y) (h0 : 0 ≤ a) (h1 : 0 ≤ c) (h2 : 0 ≤ b) (h3 : b * d ≤ 2147483647) : v.toInt = X * Y := by
  have u1 : 0 ≤ x.toInt * y.toInt := Int.mul_nonneg (Int.le_trans h0 h.1) (Int.le_trans h1 g.1)
  have u2 : x.toInt * y.toInt ≤ b * d := Int.mul_le_mul h.2 g.2 (Int.le_trans h1 g.1) h2
  rw [e, Int32.toInt_mul, iv_bm (by omega) (by omega), ex, ey]
theorem lin_rem {a b c d X Y : Int} {x y v : Int32} (e : v = x - x / y * y) (h : IV a b x) (g : IV c d y) (ex : x.toInt = X) (ey : y.toInt = Y) (h1 : 0 ≤ a) (h2 : 1 ≤ c) : v.toInt < Y := by
  have := iv_tm e g (by omega)
  omega
theorem lin_us {f g : Nat → Int32} {k : Nat} {x : Int32} {X : Int} (u : f = upd g k x) (ex : x.toInt = X) : (f k).toInt = X := by rw [u, pk_us, ex]
