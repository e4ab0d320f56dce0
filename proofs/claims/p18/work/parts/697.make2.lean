theorem z_neg {p : Int32} (h : p < jn 0) {m : Nat} (hm : m < 2147483648) : p ≠ jn m := by
  intro e
  rw [e, j_lt hm (by omega)] at h
  omega
