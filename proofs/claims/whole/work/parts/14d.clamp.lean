/-! seeded: the reference -/
theorem sdC_if1 {z : Int32} (h : ¬ -20 ≤ z) : sdC z = -20 := by
  apply Int32.toInt_inj.mp
  have e1 : (-20 : Int32).toInt = -20 := by decide
  have e2 : (20 : Int32).toInt = 20 := by decide
  rw [i32_le, e1] at h
  unfold sdC
  rw [i32_max, i32_min, e1, e2]
  omega
theorem sdC_if2 {z : Int32} (h : -20 ≤ z) (h2 : ¬ z ≤ 20) : sdC z = 20 := by
  apply Int32.toInt_inj.mp
  have e1 : (-20 : Int32).toInt = -20 := by decide
  have e2 : (20 : Int32).toInt = 20 := by decide
  rw [i32_le, e1] at h
  rw [i32_le, e2] at h2
  unfold sdC
  rw [i32_max, i32_min, e1, e2]
  omega
theorem sdC_if3 {z : Int32} (h : -20 ≤ z) (h2 : z ≤ 20) : sdC z = z := by
  apply Int32.toInt_inj.mp
  have e1 : (-20 : Int32).toInt = -20 := by decide
  have e2 : (20 : Int32).toInt = 20 := by decide
  rw [i32_le, e1] at h
  rw [i32_le, e2] at h2
  unfold sdC
  rw [i32_max, i32_min, e1, e2]
  omega
