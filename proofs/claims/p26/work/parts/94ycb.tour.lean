section TOU
variable {sc : Nat × (Nat → Int32)} {d : Nat} {J : hJ} {R : hR} {T : am_H} {Q : Option Value → am_H → Prop}
def gS0 (I : hI) (D : FD) (v : Int32) : Int32 × hI := stF (sf (cpF I 29 22) 29 3 0) D 29 v.toInt64
def gS1 (I : hI) (D : FD) (v : Int32) : Int32 × hI := stF (cpF I 32 29) D 32 v.toInt64
def gS2 (I : hI) (D : FD) (v : Int32) : Int32 × hI := stF (cpF I 35 32) D 35 v.toInt64
/-- what stays as it is on the way -/
def gK (I I' : hI) : Prop := (∀ c, c < 4 ∨ (17 < c ∧ c < 29) ∨ 37 < c → I' c = I c)
theorem gS0_c {I : hI} {D : FD} {v : Int32} : gK I (gS0 I D v).2 := fun c hc => by
  unfold gS0
  rw [stF_c (by omega) (by omega) (by omega) (by omega), sf_c (by omega)]
  exact (cpF_CP (by decide) (by decide) (by decide)).1 c (by omega) (by omega) (by omega)
theorem gS1_c {I : hI} {D : FD} {v : Int32} : gK I (gS1 I D v).2 := fun c hc => by
  unfold gS1
  rw [stF_c (by omega) (by omega) (by omega) (by omega)]
  exact (cpF_CP (by decide) (by decide) (by decide)).1 c (by omega) (by omega) (by omega)
theorem gS2_c {I : hI} {D : FD} {v : Int32} : gK I (gS2 I D v).2 := fun c hc => by
  unfold gS2
  rw [stF_c (by omega) (by omega) (by omega) (by omega)]
  exact (cpF_CP (by decide) (by decide) (by decide)).1 c (by omega) (by omega) (by omega)
theorem gS0_BS {I : hI} {D : FD} {v : Int32} (ho : ∀ k, k < D.1 → okR (D.2.1 k)) (h : BS I) : BS (gS0 I D v).2 := stF_BS (by decide) ho (BS_of h (by rw [sf_c (by decide)]; exact (cpF_CP (by decide) (by decide) (by decide)).1 8 (by decide) (by decide) (by decide)))
theorem gS1_BS {I : hI} {D : FD} {v : Int32} (ho : ∀ k, k < D.1 → okR (D.2.1 k)) (h : BS I) : BS (gS1 I D v).2 := stF_BS (by decide) ho (BS_of h ((cpF_CP (by decide) (by decide) (by decide)).1 8 (by decide) (by decide) (by decide)))
theorem gS2_BS {I : hI} {D : FD} {v : Int32} (ho : ∀ k, k < D.1 → okR (D.2.1 k)) (h : BS I) : BS (gS2 I D v).2 := stF_BS (by decide) ho (BS_of h ((cpF_CP (by decide) (by decide) (by decide)).1 8 (by decide) (by decide) (by decide)))
end TOU

