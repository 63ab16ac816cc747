/-! How large the heap is. -/
theorem HH_sl (I : hI) (J : hJ) (R : hR) (T : am_H) : am_sl (HH I J R T) = 4930 + am_sl T := by
  simp only [HH, am_sl, List.map_cons, List.sum_cons, am_sz, List.length_cons, List.length_nil]
  omega
theorem HH_ln (I : hI) (J : hJ) (R : hR) (T : am_H) : (HH I J R T).length = 99 + T.length := by
  simp only [HH, List.length_cons]
  omega

