/-! The class: tour leaves the rest as it was. -/
section CS3T
variable {sc : Nat × (Nat → Int32)} {d : Nat} {I : hI} {J : hJ} {R : hR} {T : am_H} {tx : Nat → Nat} {c : Nat} {D : FD} {m : Nat} {sn : Nat → Nat → Int32}
def tK (I I' : hI) : Prop := gK I I' ∧ (WK I → WK I')
theorem tK_0 (I : hI) : tK I I := ⟨fun _ _ => rfl, id⟩
theorem tK_t {I1 I2 : hI} (h : tK I I1) (g : tK I1 I2) : tK I I2 := ⟨fun c hc => (g.1 c hc).trans (h.1 c hc), fun x => g.2 (h.2 x)⟩
theorem gS0_t {v : Int32} (ho : ∀ k, k < D.1 → okR (D.2.1 k)) : tK I (gS0 I D v).2 := ⟨gS0_c, fun h => stF_WK (by omega) ho (WK_of h (fun c x y => by rw [sf_c (by omega)]; exact (cpF_CP (by decide) (by decide) (by decide)).1 c (by omega) (by omega) (by omega)))⟩
theorem gS1_t {v : Int32} (ho : ∀ k, k < D.1 → okR (D.2.1 k)) : tK I (gS1 I D v).2 := ⟨gS1_c, fun h => stF_WK (by omega) ho (WK_of h (fun c x y => (cpF_CP (by decide) (by decide) (by decide)).1 c (by omega) (by omega) (by omega)))⟩
theorem gS2_t {v : Int32} (ho : ∀ k, k < D.1 → okR (D.2.1 k)) : tK I (gS2 I D v).2 := ⟨gS2_c, fun h => stF_WK (by omega) ho (WK_of h (fun c x y => (cpF_CP (by decide) (by decide) (by decide)).1 c (by omega) (by omega) (by omega)))⟩
def tC (K : hI → Int32 → Int32 → Option (Int32 × Int32) × hI) : Prop := ∀ I lt lo, tK I (K I lt lo).2
theorem toM_t {y z o : Int32} {K : hI → Int32 → Int32 → Option (Int32 × Int32) × hI} (ho : ∀ k, k < D.1 → okR (D.2.1 k)) (hK : tC K) : tC (toM D y z o K) := fun I lt lo => by
  have t2 := tK_t (gS1_t (I := I) (v := y) ho) (gS2_t (I := (gS1 I D y).2) (v := z) ho)
  unfold toM
  split
  · exact gS1_t ho
  · split
    · exact t2
    · split
      · exact tK_t t2 (hK _ _ _)
      · exact tK_t t2 (hK _ _ _)
theorem toN_t {x y z o : Int32} {K : hI → Int32 → Int32 → Option (Int32 × Int32) × hI} (ho : ∀ k, k < D.1 → okR (D.2.1 k)) (hK : tC K) : tC (toN D x y z o K) := fun I lt lo => by
  unfold toN
  split
  · exact gS0_t ho
  · exact tK_t (gS0_t ho) (toM_t ho hK _ _ _)
theorem tourF_t {a b e w : Int32} (ho : ∀ k, k < D.1 → okR (D.2.1 k)) : tK I (tourF I D a b e w).2 := by
  have h6 : tC (to6 D a b e) := fun I lt lo => tK_0 I
  have h5 : tC (to5 D a b e) := toM_t ho h6
  have h4 : tC (to4 D a b e) := toN_t ho h5
  have h3 : tC (to3 D a b e) := toM_t ho h4
  have h2 : tC (to2 D a b e) := toN_t ho h3
  have h1 : tC (to1 D a b e) := toM_t ho h2
  have h0 : tC (to0 D a b e) := toN_t ho h1
  unfold tourF
  split
  · split
    · split
      · split
        · exact tK_0 I
        · split
          · exact h0 _ _ _
          · exact tK_0 I
      · exact tK_0 I
    · exact tK_0 I
  · exact tK_0 I
theorem cs_tour {a b e w : Int32} (h : CI tx c D m sn I R T) : Ze sc (d + 14) 112 [.ref 0, .int a, .int b, .int e, .int w] (HH I J R T) (CSi tx c D m sn I T) := by
  have t := tourF_t (I := I) (a := a) (b := b) (e := e) (w := w) (DC_ok h.2.1)
  exact CS_q (c_tour h.2.2.2.2.2.2.2.1 h.2.1 h.2.2.2.1.1) h (gK_q t.1) (t.2 h.2.2.2.1)
end CS3T

