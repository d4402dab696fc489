/-! sums, differences and products in whole numbers -/
theorem g_addZ {a b : Int32} {X Y : Int} (hx : a.toInt = X) (hy : b.toInt = Y) (h1 : -2147483648 ≤ X + Y) (h2 : X + Y ≤ 2147483647) : (a + b).toInt = X + Y := by
  subst hx; subst hy; exact g_addI h1 h2
theorem g_subZ {a b : Int32} {X Y : Int} (hx : a.toInt = X) (hy : b.toInt = Y) (h1 : -2147483648 ≤ X - Y) (h2 : X - Y ≤ 2147483647) : (a - b).toInt = X - Y := by
  subst hx; subst hy; exact g_subI h1 h2
theorem g_mulZ {a b : Int32} {X Y : Int} (hx : a.toInt = X) (hy : b.toInt = Y) (h1 : -2147483648 ≤ X * Y) (h2 : X * Y ≤ 2147483647) : (a * b).toInt = X * Y := by
  subst hx; subst hy; exact g_mulI h1 h2
