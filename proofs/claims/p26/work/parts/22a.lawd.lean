theorem pd_237_0 : ∀ q ∈ pm_237_0, decode cL_law q.1 = .ok (q.2.1, q.2.2.1) := by decide +kernel
theorem pd_237_1 : ∀ q ∈ pm_237_1, decode cL_law q.1 = .ok (q.2.1, q.2.2.1) := by decide +kernel
theorem pd_237_2 : ∀ q ∈ pm_237_2, decode cL_law q.1 = .ok (q.2.1, q.2.2.1) := by decide +kernel
theorem pd_237_3 : ∀ q ∈ pm_237_3, decode cL_law q.1 = .ok (q.2.1, q.2.2.1) := by decide +kernel
theorem pd_237_4 : ∀ q ∈ pm_237_4, decode cL_law q.1 = .ok (q.2.1, q.2.2.1) := by decide +kernel
