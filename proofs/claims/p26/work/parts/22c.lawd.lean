theorem pd_237_10 : ∀ q ∈ pm_237_10, decode cL_law q.1 = .ok (q.2.1, q.2.2.1) := by decide +kernel
theorem pd_237_11 : ∀ q ∈ pm_237_11, decode cL_law q.1 = .ok (q.2.1, q.2.2.1) := by decide +kernel
theorem pd_237_12 : ∀ q ∈ pm_237_12, decode cL_law q.1 = .ok (q.2.1, q.2.2.1) := by decide +kernel
theorem pd_237_13 : ∀ q ∈ pm_237_13, decode cL_law q.1 = .ok (q.2.1, q.2.2.1) := by decide +kernel
theorem pd_237_14 : ∀ q ∈ pm_237_14, decode cL_law q.1 = .ok (q.2.1, q.2.2.1) := by decide +kernel
