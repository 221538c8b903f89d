/-- (for the rounds alone: the whole library is read) -/
theorem mx_wide (a b : Int) (h : a < b) : compare a b = .lt := (Jvm.FP.Core.compare_lt_iff a b).mpr h
