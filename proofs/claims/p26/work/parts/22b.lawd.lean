theorem pd_237_5 : ∀ q ∈ pm_237_5, decode cL_law q.1 = .ok (q.2.1, q.2.2.1) := by decide +kernel
theorem pd_237_6 : ∀ q ∈ pm_237_6, decode cL_law q.1 = .ok (q.2.1, q.2.2.1) := by decide +kernel
theorem pd_237_7 : ∀ q ∈ pm_237_7, decode cL_law q.1 = .ok (q.2.1, q.2.2.1) := by decide +kernel
theorem pd_237_8 : ∀ q ∈ pm_237_8, decode cL_law q.1 = .ok (q.2.1, q.2.2.1) := by decide +kernel
theorem pd_237_9 : ∀ q ∈ pm_237_9, decode cL_law q.1 = .ok (q.2.1, q.2.2.1) := by decide +kernel
