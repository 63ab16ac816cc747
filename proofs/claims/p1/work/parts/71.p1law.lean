/-! The law on a script of at most five ints: one call on a fresh object. -/
section P1
variable {xs : Nat → Int32}
def P1e (r : Option Value) (h : am_H) : Prop := r = some (.int 1) ∧ ∃ I J R, h = HH I J R []
set_option maxRecDepth 100000 in
theorem p1_end {I : hI} {J : hJ} {R : hR} : Zs (5, xs) 900 pm_237 (870, [(0, .retAddr 0), (1, .ref 0), (2, .ref 73), (3, .int 0)], []) (HH I J R []) P1e := by
  refine Z_jump 5 rfl ?_
  show Zs _ _ pm_237 (21, [(0, .retAddr 0), (1, .ref 0), (2, .ref 73), (3, .int (5 : Int32))], [.int (5 : Int32), .int (5 : Int32)]) (HH I J R []) _
  refine Z_jump 4 rfl ?_
  show Zs _ _ pm_237 (877, [(0, .retAddr 0), (1, .ref 0), (2, .ref 73), (3, .int (5 : Int32))], [.int (1 : Int32)]) (HH I J R []) _
  refine Z_rI rfl (by first | exact am_nw0 _ | exact am_nw01 | rfl | assumption) ?_
  exact ⟨rfl, I, J, R, rfl⟩
set_option maxRecDepth 100000 in
theorem p1_c0 : Zs (5, xs) 900 pm_237 (156, [(0, .retAddr 0), (1, .ref 0), (2, .ref 73), (3, .int 0)], []) (HH I_0 J_0 R_1 []) P1e := by
  refine Z_jump 6 rfl ?_
  show Zs _ _ pm_237 (162, [(0, .retAddr 0), (1, .ref 0), (2, .ref 73), (3, .int (0 : Int32))], [.int (xs 1), .ref 0]) (HH I_0 J_0 R_1 []) _
  refine Z_c1 rfl rfl rfl (c_write (c := 0) rfl (by omega)) ?_
  show Zs _ _ pm_237 (165, [(0, .retAddr 0), (1, .ref 0), (2, .ref 73), (3, .int (0 : Int32))], [.int (if M_let (xs 1) then (if 0 = 160 then -5 else nI (0 + 1)) else -3)]) (HH (if M_let (xs 1) ∧ 0 ≠ 160 then sf (sf I_0 2 0 (xs 1)) 1 1 (nI (0 + 1)) else I_0) J_0 R_1 []) _
  refine Z_jump 6 rfl ?_
  show Zs _ _ pm_237 (171, [(0, .retAddr 0), (1, .ref 0), (2, .ref 73), (3, .int (0 : Int32))], [.int (xs 1), .ref 73, .int (if M_let (xs 1) then (if 0 = 160 then -5 else nI (0 + 1)) else -3)]) (HH (if M_let (xs 1) ∧ 0 ≠ 160 then sf (sf I_0 2 0 (xs 1)) 1 1 (nI (0 + 1)) else I_0) J_0 R_1 []) _
  refine Z_c1 rfl rfl rfl (m_write (c := 0) (I := (if M_let (xs 1) ∧ 0 ≠ 160 then sf (sf I_0 2 0 (xs 1)) 1 1 (nI (0 + 1)) else I_0)) (by by_cases z : M_let (xs 1) ∧ (0 : Nat) ≠ 160; rw [if_pos z]; rfl; rw [if_neg z]; rfl) (by omega)) ?_
  generalize HHx : (if M_let (xs 1) ∧ (0 : Nat) ≠ 160 then va_up (va_up (if M_let (xs 1) ∧ (0 : Nat) ≠ 160 then sf (sf I_0 2 0 (xs 1)) 1 1 (nI (0 + 1)) else I_0) 84 (upd ((if M_let (xs 1) ∧ (0 : Nat) ≠ 160 then sf (sf I_0 2 0 (xs 1)) 1 1 (nI (0 + 1)) else I_0) 84) 0 (xs 1))) 73 (va_up ((if M_let (xs 1) ∧ (0 : Nat) ≠ 160 then sf (sf I_0 2 0 (xs 1)) 1 1 (nI (0 + 1)) else I_0) 73) 12 (nI (0 + 1))) else (if M_let (xs 1) ∧ (0 : Nat) ≠ 160 then sf (sf I_0 2 0 (xs 1)) 1 1 (nI (0 + 1)) else I_0)) = I2
  show Zs _ _ pm_237 (174, [(0, .retAddr 0), (1, .ref 0), (2, .ref 73), (3, .int (0 : Int32))], [.int (if M_let (xs 1) then (if 0 = 160 then -5 else nI (0 + 1)) else -3), .int (if M_let (xs 1) then (if 0 = 160 then -5 else nI (0 + 1)) else -3)]) (HH I2 J_0 R_1 []) _
  refine Z_jump 1 rfl ?_
  refine Z_bd (fun c174 => ?_) (fun c174 => absurd ((rfl)) c174)
  show Zs _ _ pm_237 (870, [(0, .retAddr 0), (1, .ref 0), (2, .ref 73), (3, .int (0 : Int32))], []) (HH I2 J_0 R_1 []) _
  exact p1_end
set_option maxRecDepth 100000 in
theorem p1_c1 : Zs (5, xs) 900 pm_237 (179, [(0, .retAddr 0), (1, .ref 0), (2, .ref 73), (3, .int 0)], []) (HH I_0 J_0 R_1 []) P1e := by
  refine Z_jump 1 rfl ?_
  show Zs _ _ pm_237 (180, [(0, .retAddr 0), (1, .ref 0), (2, .ref 73), (3, .int (0 : Int32))], [.ref 0]) (HH I_0 J_0 R_1 []) _
  refine Z_c1 rfl rfl rfl (c_erase) ?_
  show Zs _ _ pm_237 (183, [(0, .retAddr 0), (1, .ref 0), (2, .ref 73), (3, .int (0 : Int32))], [.int (I_0 1 1)]) (HH (sf I_0 1 1 0) J_0 R_1 []) _
  refine Z_jump 1 rfl ?_
  show Zs _ _ pm_237 (184, [(0, .retAddr 0), (1, .ref 0), (2, .ref 73), (3, .int (0 : Int32))], [.ref 73, .int (I_0 1 1)]) (HH (sf I_0 1 1 0) J_0 R_1 []) _
  refine Z_c1 rfl rfl rfl (m_erase) ?_
  show Zs _ _ pm_237 (187, [(0, .retAddr 0), (1, .ref 0), (2, .ref 73), (3, .int (0 : Int32))], [.int (I_0 1 1), .int (I_0 1 1)]) (HH (va_up (sf I_0 1 1 0) 73 (va_up ((sf I_0 1 1 0) 73) 12 0)) J_0 R_1 []) _
  refine Z_jump 1 rfl ?_
  refine Z_bd (fun c187 => ?_) (fun c187 => absurd ((rfl)) c187)
  show Zs _ _ pm_237 (870, [(0, .retAddr 0), (1, .ref 0), (2, .ref 73), (3, .int (0 : Int32))], []) (HH (va_up (sf I_0 1 1 0) 73 (va_up ((sf I_0 1 1 0) 73) 12 0)) J_0 R_1 []) _
  exact p1_end
set_option maxRecDepth 100000 in
theorem p1_c2 : Zs (5, xs) 900 pm_237 (192, [(0, .retAddr 0), (1, .ref 0), (2, .ref 73), (3, .int 0)], []) (HH I_0 J_0 R_1 []) P1e := by
  refine Z_jump 6 rfl ?_
  show Zs _ _ pm_237 (198, [(0, .retAddr 0), (1, .ref 0), (2, .ref 73), (3, .int (0 : Int32))], [.int (xs 1), .ref 0]) (HH I_0 J_0 R_1 []) _
  refine Z_cQ rfl rfl rfl (c_fault0 rfl rfl) (fun v h1 hq => ?_)
  obtain ⟨rfl, I1, J1, R1, rfl, hI1, hJ1⟩ := hq
  have hM : ∀ a k, 73 ≤ a → I1 a k = 0 := fun a k ha => by rw [hI1 a ha]; exact I0_M ha
  show Zs _ _ pm_237 (201, [(0, .retAddr 0), (1, .ref 0), (2, .ref 73), (3, .int (0 : Int32))], [.int (if M_01 (xs 1) then 0 else -3)]) (HH I1 J1 R1 []) _
  refine Z_jump 6 rfl ?_
  show Zs _ _ pm_237 (207, [(0, .retAddr 0), (1, .ref 0), (2, .ref 73), (3, .int (0 : Int32))], [.int (xs 1), .ref 73, .int (if M_01 (xs 1) then 0 else -3)]) (HH I1 J1 R1 []) _
  refine Z_cQ rfl rfl rfl (m_fault0 (hM _ _ (by decide)) (hM _ _ (by decide))) (fun v h1 hq => ?_)
  obtain ⟨rfl, I2, J2, rfl, hn2⟩ := hq
  show Zs _ _ pm_237 (210, [(0, .retAddr 0), (1, .ref 0), (2, .ref 73), (3, .int (0 : Int32))], [.int (if M_01 (xs 1) then 0 else -3), .int (if M_01 (xs 1) then 0 else -3)]) (HH I2 J2 R1 []) _
  refine Z_jump 1 rfl ?_
  refine Z_bd (fun c210 => ?_) (fun c210 => absurd ((rfl)) c210)
  show Zs _ _ pm_237 (870, [(0, .retAddr 0), (1, .ref 0), (2, .ref 73), (3, .int (0 : Int32))], []) (HH I2 J2 R1 []) _
  exact p1_end
set_option maxRecDepth 100000 in
theorem p1_c3 : Zs (5, xs) 900 pm_237 (215, [(0, .retAddr 0), (1, .ref 0), (2, .ref 73), (3, .int 0)], []) (HH I_0 J_0 R_1 []) P1e := by
  refine Z_jump 1 rfl ?_
  show Zs _ _ pm_237 (216, [(0, .retAddr 0), (1, .ref 0), (2, .ref 73), (3, .int (0 : Int32))], [.ref 0]) (HH I_0 J_0 R_1 []) _
  refine Z_cQ rfl rfl rfl (c_frame0 rfl rfl) (fun v h1 hq => ?_)
  obtain ⟨rfl, I1, J1, R1, rfl, hI1, hJ1⟩ := hq
  have hM : ∀ a k, 73 ≤ a → I1 a k = 0 := fun a k ha => by rw [hI1 a ha]; exact I0_M ha
  show Zs _ _ pm_237 (219, [(0, .retAddr 0), (1, .ref 0), (2, .ref 73), (3, .int (0 : Int32))], [.int (-4 : Int32)]) (HH I1 J1 R1 []) _
  refine Z_jump 1 rfl ?_
  show Zs _ _ pm_237 (220, [(0, .retAddr 0), (1, .ref 0), (2, .ref 73), (3, .int (0 : Int32))], [.ref 73, .int (-4 : Int32)]) (HH I1 J1 R1 []) _
  refine Z_cQ rfl rfl rfl (m_frame0 (hM _ _ (by decide)) (hM _ _ (by decide))) (fun v h1 hq => ?_)
  obtain ⟨rfl, I2, J2, rfl, hn2⟩ := hq
  show Zs _ _ pm_237 (223, [(0, .retAddr 0), (1, .ref 0), (2, .ref 73), (3, .int (0 : Int32))], [.int (-4 : Int32), .int (-4 : Int32)]) (HH I2 J2 R1 []) _
  refine Z_jump 1 rfl ?_
  refine Z_bd (fun c223 => ?_) (fun c223 => absurd ((rfl)) c223)
  show Zs _ _ pm_237 (870, [(0, .retAddr 0), (1, .ref 0), (2, .ref 73), (3, .int (0 : Int32))], []) (HH I2 J2 R1 []) _
  exact p1_end
set_option maxRecDepth 100000 in
theorem p1_c4 : Zs (5, xs) 900 pm_237 (228, [(0, .retAddr 0), (1, .ref 0), (2, .ref 73), (3, .int 0)], []) (HH I_0 J_0 R_1 []) P1e := by
  refine Z_jump 1 rfl ?_
  show Zs _ _ pm_237 (229, [(0, .retAddr 0), (1, .ref 0), (2, .ref 73), (3, .int (0 : Int32))], [.ref 0]) (HH I_0 J_0 R_1 []) _
  refine Z_cQ rfl rfl rfl (c_run0 rfl) (fun v h1 hq => ?_)
  obtain ⟨rfl, I1, J1, R1, rfl, hI1, hJ1⟩ := hq
  have hM : ∀ a k, 73 ≤ a → I1 a k = 0 := fun a k ha => by rw [hI1 a ha]; exact I0_M ha
  show Zs _ _ pm_237 (232, [(0, .retAddr 0), (1, .ref 0), (2, .ref 73), (3, .int (0 : Int32))], [.int (-4 : Int32)]) (HH I1 J1 R1 []) _
  refine Z_jump 1 rfl ?_
  show Zs _ _ pm_237 (233, [(0, .retAddr 0), (1, .ref 0), (2, .ref 73), (3, .int (0 : Int32))], [.ref 73, .int (-4 : Int32)]) (HH I1 J1 R1 []) _
  refine Z_cQ rfl rfl rfl (m_run0 (hM _ _ (by decide)) (hM _ _ (by decide))) (fun v h1 hq => ?_)
  obtain ⟨rfl, I2, J2, rfl, hn2⟩ := hq
  show Zs _ _ pm_237 (236, [(0, .retAddr 0), (1, .ref 0), (2, .ref 73), (3, .int (0 : Int32))], [.int (-4 : Int32), .int (-4 : Int32)]) (HH I2 J2 R1 []) _
  refine Z_jump 1 rfl ?_
  refine Z_bd (fun c236 => ?_) (fun c236 => absurd ((rfl)) c236)
  show Zs _ _ pm_237 (870, [(0, .retAddr 0), (1, .ref 0), (2, .ref 73), (3, .int (0 : Int32))], []) (HH I2 J2 R1 []) _
  exact p1_end
set_option maxRecDepth 100000 in
theorem p1_c5 : Zs (5, xs) 900 pm_237 (241, [(0, .retAddr 0), (1, .ref 0), (2, .ref 73), (3, .int 0)], []) (HH I_0 J_0 R_1 []) P1e := by
  refine Z_jump 11 rfl ?_
  show Zs _ _ pm_237 (252, [(0, .retAddr 0), (1, .ref 0), (2, .ref 73), (3, .int (0 : Int32))], [.int (xs 2), .int (xs 1), .ref 0]) (HH I_0 J_0 R_1 []) _
  refine Z_c1 rfl rfl rfl (c_rod_no (n := 0) rfl (by omega) (by omega)) ?_
  show Zs _ _ pm_237 (255, [(0, .retAddr 0), (1, .ref 0), (2, .ref 73), (3, .int (0 : Int32))], [.int (-2 : Int32)]) (HH I_0 J_0 R_1 []) _
  refine Z_jump 11 rfl ?_
  show Zs _ _ pm_237 (266, [(0, .retAddr 0), (1, .ref 0), (2, .ref 73), (3, .int (0 : Int32))], [.int (xs 2), .int (xs 1), .ref 73, .int (-2 : Int32)]) (HH I_0 J_0 R_1 []) _
  refine Z_c1 rfl rfl rfl (m_rod_no (n := 0) (I := I_0) rfl (by omega) (by omega)) ?_
  show Zs _ _ pm_237 (269, [(0, .retAddr 0), (1, .ref 0), (2, .ref 73), (3, .int (0 : Int32))], [.int (-2 : Int32), .int (-2 : Int32)]) (HH I_0 J_0 R_1 []) _
  refine Z_jump 1 rfl ?_
  refine Z_bd (fun c269 => ?_) (fun c269 => absurd ((rfl)) c269)
  show Zs _ _ pm_237 (870, [(0, .retAddr 0), (1, .ref 0), (2, .ref 73), (3, .int (0 : Int32))], []) (HH I_0 J_0 R_1 []) _
  exact p1_end
set_option maxRecDepth 100000 in
theorem p1_c6 : Zs (5, xs) 900 pm_237 (274, [(0, .retAddr 0), (1, .ref 0), (2, .ref 73), (3, .int 0)], []) (HH I_0 J_0 R_1 []) P1e := by
  refine Z_jump 1 rfl ?_
  show Zs _ _ pm_237 (275, [(0, .retAddr 0), (1, .ref 0), (2, .ref 73), (3, .int (0 : Int32))], [.ref 0]) (HH I_0 J_0 R_1 []) _
  refine Z_c1 rfl rfl rfl (c_number0 rfl) ?_
  show Zs _ _ pm_237 (278, [(0, .retAddr 0), (1, .ref 0), (2, .ref 73), (3, .int (0 : Int32))], [.long (0 : Int64)]) (HH I_0 J_0 R_1 []) _
  refine Z_jump 1 rfl ?_
  show Zs _ _ pm_237 (279, [(0, .retAddr 0), (1, .ref 0), (2, .ref 73), (3, .int (0 : Int32))], [.ref 73, .long (0 : Int64)]) (HH I_0 J_0 R_1 []) _
  refine Z_c1 rfl rfl rfl (m_number (n := 0) (I := I_0) rfl (by omega)) ?_
  show Zs _ _ pm_237 (282, [(0, .retAddr 0), (1, .ref 0), (2, .ref 73), (3, .int (0 : Int32))], [.long (0 : Int64), .long (0 : Int64)]) (HH I_0 J_0 R_1 []) _
  refine Z_jump 2 rfl ?_
  refine Z_bd (fun c283 => ?_) (fun c283 => absurd (((lc_eq _ _).mpr rfl)) c283)
  show Zs _ _ pm_237 (870, [(0, .retAddr 0), (1, .ref 0), (2, .ref 73), (3, .int (0 : Int32))], []) (HH I_0 J_0 R_1 []) _
  exact p1_end
set_option maxRecDepth 100000 in
theorem p1_c7 : Zs (5, xs) 900 pm_237 (288, [(0, .retAddr 0), (1, .ref 0), (2, .ref 73), (3, .int 0)], []) (HH I_0 J_0 R_1 []) P1e := by
  refine Z_jump 11 rfl ?_
  show Zs _ _ pm_237 (299, [(0, .retAddr 0), (1, .ref 0), (2, .ref 73), (3, .int (0 : Int32))], [.int (xs 2), .int (xs 1), .ref 0]) (HH I_0 J_0 R_1 []) _
  refine Z_c1 rfl rfl rfl (c_as_no (n := 0) rfl (by omega) (by omega)) ?_
  show Zs _ _ pm_237 (302, [(0, .retAddr 0), (1, .ref 0), (2, .ref 73), (3, .int (0 : Int32))], [.int (-2 : Int32)]) (HH I_0 J_0 R_1 []) _
  refine Z_jump 11 rfl ?_
  show Zs _ _ pm_237 (313, [(0, .retAddr 0), (1, .ref 0), (2, .ref 73), (3, .int (0 : Int32))], [.int (xs 2), .int (xs 1), .ref 73, .int (-2 : Int32)]) (HH I_0 J_0 R_1 []) _
  refine Z_c1 rfl rfl rfl (m_as_no (n := 0) (I := I_0) rfl (by omega) (by omega)) ?_
  show Zs _ _ pm_237 (316, [(0, .retAddr 0), (1, .ref 0), (2, .ref 73), (3, .int (0 : Int32))], [.int (-2 : Int32), .int (-2 : Int32)]) (HH I_0 J_0 R_1 []) _
  refine Z_jump 1 rfl ?_
  refine Z_bd (fun c316 => ?_) (fun c316 => absurd ((rfl)) c316)
  show Zs _ _ pm_237 (870, [(0, .retAddr 0), (1, .ref 0), (2, .ref 73), (3, .int (0 : Int32))], []) (HH I_0 J_0 R_1 []) _
  exact p1_end
set_option maxRecDepth 100000 in
theorem p1_c8 : Zs (5, xs) 900 pm_237 (321, [(0, .retAddr 0), (1, .ref 0), (2, .ref 73), (3, .int 0)], []) (HH I_0 J_0 R_1 []) P1e := by
  refine Z_jump 16 rfl ?_
  show Zs _ _ pm_237 (337, [(0, .retAddr 0), (1, .ref 0), (2, .ref 73), (3, .int (0 : Int32))], [.int (xs 3), .int (xs 2), .int (xs 1), .ref 0]) (HH I_0 J_0 R_1 []) _
  refine Z_c1 rfl rfl rfl (c_push_no (n := 0) rfl (by omega) (by omega)) ?_
  show Zs _ _ pm_237 (340, [(0, .retAddr 0), (1, .ref 0), (2, .ref 73), (3, .int (0 : Int32))], [.int (-2 : Int32)]) (HH I_0 J_0 R_1 []) _
  refine Z_jump 16 rfl ?_
  show Zs _ _ pm_237 (356, [(0, .retAddr 0), (1, .ref 0), (2, .ref 73), (3, .int (0 : Int32))], [.int (xs 3), .int (xs 2), .int (xs 1), .ref 73, .int (-2 : Int32)]) (HH I_0 J_0 R_1 []) _
  refine Z_c1 rfl rfl rfl (m_push_no (n := 0) (I := I_0) rfl (by omega) (by omega)) ?_
  show Zs _ _ pm_237 (359, [(0, .retAddr 0), (1, .ref 0), (2, .ref 73), (3, .int (0 : Int32))], [.int (-2 : Int32), .int (-2 : Int32)]) (HH I_0 J_0 R_1 []) _
  refine Z_jump 1 rfl ?_
  refine Z_bd (fun c359 => ?_) (fun c359 => absurd ((rfl)) c359)
  show Zs _ _ pm_237 (870, [(0, .retAddr 0), (1, .ref 0), (2, .ref 73), (3, .int (0 : Int32))], []) (HH I_0 J_0 R_1 []) _
  exact p1_end
set_option maxRecDepth 100000 in
theorem p1_c9 : Zs (5, xs) 900 pm_237 (364, [(0, .retAddr 0), (1, .ref 0), (2, .ref 73), (3, .int 0)], []) (HH I_0 J_0 R_1 []) P1e := by
  refine Z_jump 11 rfl ?_
  show Zs _ _ pm_237 (375, [(0, .retAddr 0), (1, .ref 0), (2, .ref 73), (3, .int (0 : Int32))], [.int (xs 2), .int (xs 1), .ref 0]) (HH I_0 J_0 R_1 []) _
  refine Z_c1 rfl rfl rfl (c_stick_no (n := 0) rfl (by omega) (by omega)) ?_
  show Zs _ _ pm_237 (378, [(0, .retAddr 0), (1, .ref 0), (2, .ref 73), (3, .int (0 : Int32))], [.int (-2 : Int32)]) (HH I_0 J_0 R_1 []) _
  refine Z_jump 11 rfl ?_
  show Zs _ _ pm_237 (389, [(0, .retAddr 0), (1, .ref 0), (2, .ref 73), (3, .int (0 : Int32))], [.int (xs 2), .int (xs 1), .ref 73, .int (-2 : Int32)]) (HH I_0 J_0 R_1 []) _
  refine Z_c1 rfl rfl rfl (m_stick_no (n := 0) (I := I_0) rfl (by omega) (by omega)) ?_
  show Zs _ _ pm_237 (392, [(0, .retAddr 0), (1, .ref 0), (2, .ref 73), (3, .int (0 : Int32))], [.int (-2 : Int32), .int (-2 : Int32)]) (HH I_0 J_0 R_1 []) _
  refine Z_jump 1 rfl ?_
  refine Z_bd (fun c392 => ?_) (fun c392 => absurd ((rfl)) c392)
  show Zs _ _ pm_237 (870, [(0, .retAddr 0), (1, .ref 0), (2, .ref 73), (3, .int (0 : Int32))], []) (HH I_0 J_0 R_1 []) _
  exact p1_end
set_option maxRecDepth 100000 in
theorem p1_c10 : Zs (5, xs) 900 pm_237 (397, [(0, .retAddr 0), (1, .ref 0), (2, .ref 73), (3, .int 0)], []) (HH I_0 J_0 R_1 []) P1e := by
  refine Z_jump 6 rfl ?_
  show Zs _ _ pm_237 (403, [(0, .retAddr 0), (1, .ref 0), (2, .ref 73), (3, .int (0 : Int32))], [.int (xs 1), .ref 0]) (HH I_0 J_0 R_1 []) _
  refine Z_cQ rfl rfl rfl (c_set0 rfl rfl rfl) (fun v h1 hq => ?_)
  obtain ⟨rfl, I1, J1, R1, rfl, hI1, hJ1⟩ := hq
  have hM : ∀ a k, 73 ≤ a → I1 a k = 0 := fun a k ha => by rw [hI1 a ha]; exact I0_M ha
  show Zs _ _ pm_237 (406, [(0, .retAddr 0), (1, .ref 0), (2, .ref 73), (3, .int (0 : Int32))], [.int (if M_num (xs 1) then (if (xs 1) = 0 then 0 else -4) else -3)]) (HH I1 J1 R1 []) _
  refine Z_jump 6 rfl ?_
  show Zs _ _ pm_237 (412, [(0, .retAddr 0), (1, .ref 0), (2, .ref 73), (3, .int (0 : Int32))], [.int (xs 1), .ref 73, .int (if M_num (xs 1) then (if (xs 1) = 0 then 0 else -4) else -3)]) (HH I1 J1 R1 []) _
  refine Z_cQ rfl rfl rfl (m_set0 (hM _ _ (by decide)) (hM _ _ (by decide)) (hM _ _ (by decide))) (fun v h1 hq => ?_)
  obtain ⟨rfl, I2, J2, rfl, hn2⟩ := hq
  show Zs _ _ pm_237 (415, [(0, .retAddr 0), (1, .ref 0), (2, .ref 73), (3, .int (0 : Int32))], [.int (if M_num (xs 1) then (if (xs 1) = 0 then 0 else -4) else -3), .int (if M_num (xs 1) then (if (xs 1) = 0 then 0 else -4) else -3)]) (HH I2 J2 R1 []) _
  refine Z_jump 1 rfl ?_
  refine Z_bd (fun c415 => ?_) (fun c415 => absurd ((rfl)) c415)
  show Zs _ _ pm_237 (870, [(0, .retAddr 0), (1, .ref 0), (2, .ref 73), (3, .int (0 : Int32))], []) (HH I2 J2 R1 []) _
  exact p1_end
set_option maxRecDepth 100000 in
theorem p1_c11 : Zs (5, xs) 900 pm_237 (420, [(0, .retAddr 0), (1, .ref 0), (2, .ref 73), (3, .int 0)], []) (HH I_0 J_0 R_1 []) P1e := by
  refine Z_jump 6 rfl ?_
  show Zs _ _ pm_237 (426, [(0, .retAddr 0), (1, .ref 0), (2, .ref 73), (3, .int (0 : Int32))], [.int (xs 1), .ref 0]) (HH I_0 J_0 R_1 []) _
  refine Z_c1 rfl rfl rfl (c_carry_no (n := 0) rfl (by omega) (by omega)) ?_
  show Zs _ _ pm_237 (429, [(0, .retAddr 0), (1, .ref 0), (2, .ref 73), (3, .int (0 : Int32))], [.int (-2 : Int32)]) (HH I_0 J_0 R_1 []) _
  refine Z_jump 6 rfl ?_
  show Zs _ _ pm_237 (435, [(0, .retAddr 0), (1, .ref 0), (2, .ref 73), (3, .int (0 : Int32))], [.int (xs 1), .ref 73, .int (-2 : Int32)]) (HH I_0 J_0 R_1 []) _
  refine Z_c1 rfl rfl rfl (m_carry_no (n := 0) (I := I_0) rfl (by omega) (by omega)) ?_
  show Zs _ _ pm_237 (438, [(0, .retAddr 0), (1, .ref 0), (2, .ref 73), (3, .int (0 : Int32))], [.int (-2 : Int32), .int (-2 : Int32)]) (HH I_0 J_0 R_1 []) _
  refine Z_jump 1 rfl ?_
  refine Z_bd (fun c438 => ?_) (fun c438 => absurd ((rfl)) c438)
  show Zs _ _ pm_237 (870, [(0, .retAddr 0), (1, .ref 0), (2, .ref 73), (3, .int (0 : Int32))], []) (HH I_0 J_0 R_1 []) _
  exact p1_end
set_option maxRecDepth 100000 in
theorem p1_c12 : Zs (5, xs) 900 pm_237 (443, [(0, .retAddr 0), (1, .ref 0), (2, .ref 73), (3, .int 0)], []) (HH I_0 J_0 R_1 []) P1e := by
  refine Z_jump 1 rfl ?_
  show Zs _ _ pm_237 (444, [(0, .retAddr 0), (1, .ref 0), (2, .ref 73), (3, .int (0 : Int32))], [.ref 0]) (HH I_0 J_0 R_1 []) _
  refine Z_c1 rfl rfl rfl (c_undo_no rfl) ?_
  show Zs _ _ pm_237 (447, [(0, .retAddr 0), (1, .ref 0), (2, .ref 73), (3, .int (0 : Int32))], [.int (-4 : Int32)]) (HH I_0 J_0 R_1 []) _
  refine Z_jump 1 rfl ?_
  show Zs _ _ pm_237 (448, [(0, .retAddr 0), (1, .ref 0), (2, .ref 73), (3, .int (0 : Int32))], [.ref 73, .int (-4 : Int32)]) (HH I_0 J_0 R_1 []) _
  refine Z_c1 rfl rfl rfl (m_undo_no (I := I_0) rfl) ?_
  show Zs _ _ pm_237 (451, [(0, .retAddr 0), (1, .ref 0), (2, .ref 73), (3, .int (0 : Int32))], [.int (-4 : Int32), .int (-4 : Int32)]) (HH I_0 J_0 R_1 []) _
  refine Z_jump 1 rfl ?_
  refine Z_bd (fun c451 => ?_) (fun c451 => absurd ((rfl)) c451)
  show Zs _ _ pm_237 (870, [(0, .retAddr 0), (1, .ref 0), (2, .ref 73), (3, .int (0 : Int32))], []) (HH I_0 J_0 R_1 []) _
  exact p1_end
set_option maxRecDepth 100000 in
theorem p1_c13 : Zs (5, xs) 900 pm_237 (456, [(0, .retAddr 0), (1, .ref 0), (2, .ref 73), (3, .int 0)], []) (HH I_0 J_0 R_1 []) P1e := by
  refine Z_jump 6 rfl ?_
  show Zs _ _ pm_237 (462, [(0, .retAddr 0), (1, .ref 0), (2, .ref 73), (3, .int (0 : Int32))], [.int (xs 1), .ref 0]) (HH I_0 J_0 R_1 []) _
  refine Z_cQ rfl rfl rfl (c_keep0 rfl rfl (fun _ => rfl) (fun _ => rfl)) (fun v h1 hq => ?_)
  obtain ⟨rfl, I1, J1, R1, rfl, hI1, hJ1⟩ := hq
  have hM : ∀ a k, 73 ≤ a → I1 a k = 0 := fun a k ha => by rw [hI1 a ha]; exact I0_M ha
  show Zs _ _ pm_237 (465, [(0, .retAddr 0), (1, .ref 0), (2, .ref 73), (3, .int (0 : Int32))], [.int (if M_01 (xs 1) then 0 else -2)]) (HH I1 J1 R1 []) _
  refine Z_jump 6 rfl ?_
  show Zs _ _ pm_237 (471, [(0, .retAddr 0), (1, .ref 0), (2, .ref 73), (3, .int (0 : Int32))], [.int (xs 1), .ref 73, .int (if M_01 (xs 1) then 0 else -2)]) (HH I1 J1 R1 []) _
  refine Z_cQ rfl rfl rfl (m_keep0 (hM _ _ (by decide))) (fun v h1 hq => ?_)
  obtain ⟨rfl, I2, J2, rfl, hn2⟩ := hq
  show Zs _ _ pm_237 (474, [(0, .retAddr 0), (1, .ref 0), (2, .ref 73), (3, .int (0 : Int32))], [.int (if M_01 (xs 1) then 0 else -2), .int (if M_01 (xs 1) then 0 else -2)]) (HH I2 J2 R1 []) _
  refine Z_jump 1 rfl ?_
  refine Z_bd (fun c474 => ?_) (fun c474 => absurd ((rfl)) c474)
  show Zs _ _ pm_237 (870, [(0, .retAddr 0), (1, .ref 0), (2, .ref 73), (3, .int (0 : Int32))], []) (HH I2 J2 R1 []) _
  exact p1_end
set_option maxRecDepth 100000 in
theorem p1_c14 : Zs (5, xs) 900 pm_237 (479, [(0, .retAddr 0), (1, .ref 0), (2, .ref 73), (3, .int 0)], []) (HH I_0 J_0 R_1 []) P1e := by
  refine Z_jump 6 rfl ?_
  show Zs _ _ pm_237 (485, [(0, .retAddr 0), (1, .ref 0), (2, .ref 73), (3, .int (0 : Int32))], [.int (xs 1), .ref 0]) (HH I_0 J_0 R_1 []) _
  refine Z_c1 rfl rfl rfl (c_back0 rfl rfl rfl) ?_
  show Zs _ _ pm_237 (488, [(0, .retAddr 0), (1, .ref 0), (2, .ref 73), (3, .int (0 : Int32))], [.int (if M_01 (xs 1) then -4 else -2)]) (HH I_0 J_0 R_1 []) _
  refine Z_jump 6 rfl ?_
  show Zs _ _ pm_237 (494, [(0, .retAddr 0), (1, .ref 0), (2, .ref 73), (3, .int (0 : Int32))], [.int (xs 1), .ref 73, .int (if M_01 (xs 1) then -4 else -2)]) (HH I_0 J_0 R_1 []) _
  refine Z_c1 rfl rfl rfl (m_back0 (I := I_0) (fun _ => rfl)) ?_
  show Zs _ _ pm_237 (497, [(0, .retAddr 0), (1, .ref 0), (2, .ref 73), (3, .int (0 : Int32))], [.int (if M_01 (xs 1) then -4 else -2), .int (if M_01 (xs 1) then -4 else -2)]) (HH I_0 J_0 R_1 []) _
  refine Z_jump 1 rfl ?_
  refine Z_bd (fun c497 => ?_) (fun c497 => absurd ((rfl)) c497)
  show Zs _ _ pm_237 (870, [(0, .retAddr 0), (1, .ref 0), (2, .ref 73), (3, .int (0 : Int32))], []) (HH I_0 J_0 R_1 []) _
  exact p1_end
set_option maxRecDepth 100000 in
theorem p1_c15 : Zs (5, xs) 900 pm_237 (502, [(0, .retAddr 0), (1, .ref 0), (2, .ref 73), (3, .int 0)], []) (HH I_0 J_0 R_1 []) P1e := by
  refine Z_jump 6 rfl ?_
  show Zs _ _ pm_237 (508, [(0, .retAddr 0), (1, .ref 0), (2, .ref 73), (3, .int (0 : Int32))], [.int (xs 1), .ref 0]) (HH I_0 J_0 R_1 []) _
  refine Z_cQ rfl rfl rfl (c_ways0 rfl) (fun v h1 hq => ?_)
  obtain ⟨rfl, I1, J1, R1, rfl, hI1, hJ1⟩ := hq
  have hM : ∀ a k, 73 ≤ a → I1 a k = 0 := fun a k ha => by rw [hI1 a ha]; exact I0_M ha
  show Zs _ _ pm_237 (511, [(0, .retAddr 0), (1, .ref 0), (2, .ref 73), (3, .int (0 : Int32))], [.int (if M_num (xs 1) then (if (xs 1) = 0 then 1 else 0) else -3)]) (HH I1 J1 R1 []) _
  refine Z_jump 6 rfl ?_
  show Zs _ _ pm_237 (517, [(0, .retAddr 0), (1, .ref 0), (2, .ref 73), (3, .int (0 : Int32))], [.int (xs 1), .ref 73, .int (if M_num (xs 1) then (if (xs 1) = 0 then 1 else 0) else -3)]) (HH I1 J1 R1 []) _
  refine Z_cQ rfl rfl rfl (m_ways0 (hM _ _ (by decide))) (fun v h1 hq => ?_)
  obtain ⟨rfl, I2, J2, rfl, hn2⟩ := hq
  show Zs _ _ pm_237 (520, [(0, .retAddr 0), (1, .ref 0), (2, .ref 73), (3, .int (0 : Int32))], [.int (if M_num (xs 1) then (if (xs 1) = 0 then 1 else 0) else -3), .int (if M_num (xs 1) then (if (xs 1) = 0 then 1 else 0) else -3)]) (HH I2 J2 R1 []) _
  refine Z_jump 1 rfl ?_
  refine Z_bd (fun c520 => ?_) (fun c520 => absurd ((rfl)) c520)
  show Zs _ _ pm_237 (870, [(0, .retAddr 0), (1, .ref 0), (2, .ref 73), (3, .int (0 : Int32))], []) (HH I2 J2 R1 []) _
  exact p1_end
set_option maxRecDepth 100000 in
theorem p1_c16 : Zs (5, xs) 900 pm_237 (525, [(0, .retAddr 0), (1, .ref 0), (2, .ref 73), (3, .int 0)], []) (HH I_0 J_0 R_1 []) P1e := by
  refine Z_jump 6 rfl ?_
  show Zs _ _ pm_237 (531, [(0, .retAddr 0), (1, .ref 0), (2, .ref 73), (3, .int (0 : Int32))], [.int (xs 1), .ref 0]) (HH I_0 J_0 R_1 []) _
  refine Z_cQ rfl rfl rfl (c_time0 rfl) (fun v h1 hq => ?_)
  obtain ⟨rfl, I1, J1, R1, rfl, hI1, hJ1⟩ := hq
  have hM : ∀ a k, 73 ≤ a → I1 a k = 0 := fun a k ha => by rw [hI1 a ha]; exact I0_M ha
  show Zs _ _ pm_237 (534, [(0, .retAddr 0), (1, .ref 0), (2, .ref 73), (3, .int (0 : Int32))], [.int (if M_num (xs 1) then (if (xs 1) = 0 then 0 else -1) else -3)]) (HH I1 J1 R1 []) _
  refine Z_jump 6 rfl ?_
  show Zs _ _ pm_237 (540, [(0, .retAddr 0), (1, .ref 0), (2, .ref 73), (3, .int (0 : Int32))], [.int (xs 1), .ref 73, .int (if M_num (xs 1) then (if (xs 1) = 0 then 0 else -1) else -3)]) (HH I1 J1 R1 []) _
  refine Z_cQ rfl rfl rfl (m_time0 (hM _ _ (by decide))) (fun v h1 hq => ?_)
  obtain ⟨rfl, I2, J2, rfl, hn2⟩ := hq
  show Zs _ _ pm_237 (543, [(0, .retAddr 0), (1, .ref 0), (2, .ref 73), (3, .int (0 : Int32))], [.int (if M_num (xs 1) then (if (xs 1) = 0 then 0 else -1) else -3), .int (if M_num (xs 1) then (if (xs 1) = 0 then 0 else -1) else -3)]) (HH I2 J2 R1 []) _
  refine Z_jump 1 rfl ?_
  refine Z_bd (fun c543 => ?_) (fun c543 => absurd ((rfl)) c543)
  show Zs _ _ pm_237 (870, [(0, .retAddr 0), (1, .ref 0), (2, .ref 73), (3, .int (0 : Int32))], []) (HH I2 J2 R1 []) _
  exact p1_end
set_option maxRecDepth 100000 in
theorem p1_c17 : Zs (5, xs) 900 pm_237 (548, [(0, .retAddr 0), (1, .ref 0), (2, .ref 73), (3, .int 0)], []) (HH I_0 J_0 R_1 []) P1e := by
  refine Z_jump 16 rfl ?_
  show Zs _ _ pm_237 (564, [(0, .retAddr 0), (1, .ref 0), (2, .ref 73), (3, .int (0 : Int32))], [.int (xs 3), .int (xs 2), .int (xs 1), .ref 0]) (HH I_0 J_0 R_1 []) _
  refine Z_c1 rfl rfl rfl (c_pushed_no (n := 0) rfl (by omega) (by omega)) ?_
  show Zs _ _ pm_237 (567, [(0, .retAddr 0), (1, .ref 0), (2, .ref 73), (3, .int (0 : Int32))], [.int (-2 : Int32)]) (HH I_0 J_0 R_1 []) _
  refine Z_jump 16 rfl ?_
  show Zs _ _ pm_237 (583, [(0, .retAddr 0), (1, .ref 0), (2, .ref 73), (3, .int (0 : Int32))], [.int (xs 3), .int (xs 2), .int (xs 1), .ref 73, .int (-2 : Int32)]) (HH I_0 J_0 R_1 []) _
  refine Z_c1 rfl rfl rfl (m_pushed_no (n := 0) (I := I_0) rfl (by omega) (by omega)) ?_
  show Zs _ _ pm_237 (586, [(0, .retAddr 0), (1, .ref 0), (2, .ref 73), (3, .int (0 : Int32))], [.int (-2 : Int32), .int (-2 : Int32)]) (HH I_0 J_0 R_1 []) _
  refine Z_jump 1 rfl ?_
  refine Z_bd (fun c586 => ?_) (fun c586 => absurd ((rfl)) c586)
  show Zs _ _ pm_237 (870, [(0, .retAddr 0), (1, .ref 0), (2, .ref 73), (3, .int (0 : Int32))], []) (HH I_0 J_0 R_1 []) _
  exact p1_end
set_option maxRecDepth 100000 in
theorem p1_c18 : Zs (5, xs) 900 pm_237 (591, [(0, .retAddr 0), (1, .ref 0), (2, .ref 73), (3, .int 0)], []) (HH I_0 J_0 R_1 []) P1e := by
  refine Z_jump 6 rfl ?_
  show Zs _ _ pm_237 (597, [(0, .retAddr 0), (1, .ref 0), (2, .ref 73), (3, .int (0 : Int32))], [.int (xs 1), .ref 0]) (HH I_0 J_0 R_1 []) _
  refine Z_cQ rfl rfl rfl (c_span0 rfl) (fun v h1 hq => ?_)
  obtain ⟨rfl, I1, J1, R1, rfl, hI1, hJ1⟩ := hq
  have hM : ∀ a k, 73 ≤ a → I1 a k = 0 := fun a k ha => by rw [hI1 a ha]; exact I0_M ha
  show Zs _ _ pm_237 (600, [(0, .retAddr 0), (1, .ref 0), (2, .ref 73), (3, .int (0 : Int32))], [.long (if M_tri (xs 1) then (if (xs 1) = 2 then 1 else 0) else -3)]) (HH I1 J1 R1 []) _
  refine Z_jump 6 rfl ?_
  show Zs _ _ pm_237 (606, [(0, .retAddr 0), (1, .ref 0), (2, .ref 73), (3, .int (0 : Int32))], [.int (xs 1), .ref 73, .long (if M_tri (xs 1) then (if (xs 1) = 2 then 1 else 0) else -3)]) (HH I1 J1 R1 []) _
  refine Z_cQ rfl rfl rfl (m_span0 (hM _ _ (by decide))) (fun v h1 hq => ?_)
  obtain ⟨rfl, I2, J2, rfl, hn2⟩ := hq
  show Zs _ _ pm_237 (609, [(0, .retAddr 0), (1, .ref 0), (2, .ref 73), (3, .int (0 : Int32))], [.long (if M_tri (xs 1) then (if (xs 1) = 2 then 1 else 0) else -3), .long (if M_tri (xs 1) then (if (xs 1) = 2 then 1 else 0) else -3)]) (HH I2 J2 R1 []) _
  refine Z_jump 2 rfl ?_
  refine Z_bd (fun c610 => ?_) (fun c610 => absurd (((lc_eq _ _).mpr rfl)) c610)
  show Zs _ _ pm_237 (870, [(0, .retAddr 0), (1, .ref 0), (2, .ref 73), (3, .int (0 : Int32))], []) (HH I2 J2 R1 []) _
  exact p1_end
set_option maxRecDepth 100000 in
theorem p1_c19 : Zs (5, xs) 900 pm_237 (615, [(0, .retAddr 0), (1, .ref 0), (2, .ref 73), (3, .int 0)], []) (HH I_0 J_0 R_1 []) P1e := by
  refine Z_jump 6 rfl ?_
  show Zs _ _ pm_237 (621, [(0, .retAddr 0), (1, .ref 0), (2, .ref 73), (3, .int (0 : Int32))], [.int (xs 1), .ref 0]) (HH I_0 J_0 R_1 []) _
  refine Z_cQ rfl rfl rfl (c_nearest0 rfl) (fun v h1 hq => ?_)
  obtain ⟨rfl, I1, J1, R1, rfl, hI1, hJ1⟩ := hq
  have hM : ∀ a k, 73 ≤ a → I1 a k = 0 := fun a k ha => by rw [hI1 a ha]; exact I0_M ha
  show Zs _ _ pm_237 (624, [(0, .retAddr 0), (1, .ref 0), (2, .ref 73), (3, .int (0 : Int32))], [.int (if M_num (xs 1) then (if (xs 1).toInt ≤ 500 then 0 else -1) else -3)]) (HH I1 J1 R1 []) _
  refine Z_jump 6 rfl ?_
  show Zs _ _ pm_237 (630, [(0, .retAddr 0), (1, .ref 0), (2, .ref 73), (3, .int (0 : Int32))], [.int (xs 1), .ref 73, .int (if M_num (xs 1) then (if (xs 1).toInt ≤ 500 then 0 else -1) else -3)]) (HH I1 J1 R1 []) _
  refine Z_cQ rfl rfl rfl (m_nearest0 (hM _ _ (by decide))) (fun v h1 hq => ?_)
  obtain ⟨rfl, I2, J2, rfl, hn2⟩ := hq
  show Zs _ _ pm_237 (633, [(0, .retAddr 0), (1, .ref 0), (2, .ref 73), (3, .int (0 : Int32))], [.int (if M_num (xs 1) then (if (xs 1).toInt ≤ 500 then 0 else -1) else -3), .int (if M_num (xs 1) then (if (xs 1).toInt ≤ 500 then 0 else -1) else -3)]) (HH I2 J2 R1 []) _
  refine Z_jump 1 rfl ?_
  refine Z_bd (fun c633 => ?_) (fun c633 => absurd ((rfl)) c633)
  show Zs _ _ pm_237 (870, [(0, .retAddr 0), (1, .ref 0), (2, .ref 73), (3, .int (0 : Int32))], []) (HH I2 J2 R1 []) _
  exact p1_end
set_option maxRecDepth 100000 in
theorem p1_c20 : Zs (5, xs) 900 pm_237 (638, [(0, .retAddr 0), (1, .ref 0), (2, .ref 73), (3, .int 0)], []) (HH I_0 J_0 R_1 []) P1e := by
  refine Z_jump 6 rfl ?_
  show Zs _ _ pm_237 (644, [(0, .retAddr 0), (1, .ref 0), (2, .ref 73), (3, .int (0 : Int32))], [.int (xs 1), .ref 0]) (HH I_0 J_0 R_1 []) _
  refine Z_cQ rfl rfl rfl (c_loosen0 rfl) (fun v h1 hq => ?_)
  obtain ⟨rfl, I1, J1, R1, rfl, hI1, hJ1⟩ := hq
  have hM : ∀ a k, 73 ≤ a → I1 a k = 0 := fun a k ha => by rw [hI1 a ha]; exact I0_M ha
  show Zs _ _ pm_237 (647, [(0, .retAddr 0), (1, .ref 0), (2, .ref 73), (3, .int (0 : Int32))], [.int (if M_num (xs 1) then (if (xs 1) = 0 then 0 else -1) else -3)]) (HH I1 J1 R1 []) _
  refine Z_jump 6 rfl ?_
  show Zs _ _ pm_237 (653, [(0, .retAddr 0), (1, .ref 0), (2, .ref 73), (3, .int (0 : Int32))], [.int (xs 1), .ref 73, .int (if M_num (xs 1) then (if (xs 1) = 0 then 0 else -1) else -3)]) (HH I1 J1 R1 []) _
  refine Z_cQ rfl rfl rfl (m_loosen0 (hM _ _ (by decide)) (hM _ _ (by decide))) (fun v h1 hq => ?_)
  obtain ⟨rfl, I2, J2, rfl, hn2⟩ := hq
  show Zs _ _ pm_237 (656, [(0, .retAddr 0), (1, .ref 0), (2, .ref 73), (3, .int (0 : Int32))], [.int (if M_num (xs 1) then (if (xs 1) = 0 then 0 else -1) else -3), .int (if M_num (xs 1) then (if (xs 1) = 0 then 0 else -1) else -3)]) (HH I2 J2 R1 []) _
  refine Z_jump 1 rfl ?_
  refine Z_bd (fun c656 => ?_) (fun c656 => absurd ((rfl)) c656)
  show Zs _ _ pm_237 (870, [(0, .retAddr 0), (1, .ref 0), (2, .ref 73), (3, .int (0 : Int32))], []) (HH I2 J2 R1 []) _
  exact p1_end
set_option maxRecDepth 100000 in
theorem p1_c21 : Zs (5, xs) 900 pm_237 (661, [(0, .retAddr 0), (1, .ref 0), (2, .ref 73), (3, .int 0)], []) (HH I_0 J_0 R_1 []) P1e := by
  by_cases hb : M_mil (xs 1) ∧ M_mil (xs 2) ∧ M_mil (xs 3) ∧ M_01 (xs 4)
  · refine Z_jump 21 rfl ?_
    show Zs _ _ pm_237 (682, [(0, .retAddr 0), (1, .ref 0), (2, .ref 73), (3, .int (0 : Int32))], [.int (xs 4), .int (xs 3), .int (xs 2), .int (xs 1), .ref 0]) (HH I_0 J_0 R_1 []) _
    refine Z_cQ rfl rfl rfl (c_tour0 rfl rfl rfl rfl hb) (fun v h1 hq => ?_)
    obtain ⟨rfl, I1, J1, R1, rfl, hI1, hJ1⟩ := hq
    have hM : ∀ a k, 73 ≤ a → I1 a k = 0 := fun a k ha => by rw [hI1 a ha]; exact I0_M ha
    show Zs _ _ pm_237 (685, [(0, .retAddr 0), (1, .ref 0), (2, .ref 73), (3, .int (0 : Int32))], [.int (if (xs 1) = 0 ∧ (xs 2) = 0 ∧ (xs 3) = 0 then 0 else -1)]) (HH I1 J1 R1 []) _
    refine Z_jump 21 rfl ?_
    show Zs _ _ pm_237 (706, [(0, .retAddr 0), (1, .ref 0), (2, .ref 73), (3, .int (0 : Int32))], [.int (xs 4), .int (xs 3), .int (xs 2), .int (xs 1), .ref 73, .int (if (xs 1) = 0 ∧ (xs 2) = 0 ∧ (xs 3) = 0 then 0 else -1)]) (HH I1 J1 R1 []) _
    refine Z_cQ rfl rfl rfl (m_tour0 (hM _ _ (by decide)) hb) (fun v h1 hq => ?_)
    obtain ⟨rfl, I2, J2, rfl, hn2⟩ := hq
    show Zs _ _ pm_237 (709, [(0, .retAddr 0), (1, .ref 0), (2, .ref 73), (3, .int (0 : Int32))], [.int (if (xs 1) = 0 ∧ (xs 2) = 0 ∧ (xs 3) = 0 then 0 else -1), .int (if (xs 1) = 0 ∧ (xs 2) = 0 ∧ (xs 3) = 0 then 0 else -1)]) (HH I2 J2 R1 []) _
    refine Z_jump 1 rfl ?_
    refine Z_bd (fun c709 => ?_) (fun c709 => absurd ((rfl)) c709)
    show Zs _ _ pm_237 (870, [(0, .retAddr 0), (1, .ref 0), (2, .ref 73), (3, .int (0 : Int32))], []) (HH I2 J2 R1 []) _
    exact p1_end
  · refine Z_jump 21 rfl ?_
    show Zs _ _ pm_237 (682, [(0, .retAddr 0), (1, .ref 0), (2, .ref 73), (3, .int (0 : Int32))], [.int (xs 4), .int (xs 3), .int (xs 2), .int (xs 1), .ref 0]) (HH I_0 J_0 R_1 []) _
    refine Z_c1 rfl rfl rfl (c_tourOut hb) ?_
    show Zs _ _ pm_237 (685, [(0, .retAddr 0), (1, .ref 0), (2, .ref 73), (3, .int (0 : Int32))], [.int (-3 : Int32)]) (HH I_0 J_0 R_1 []) _
    refine Z_jump 21 rfl ?_
    show Zs _ _ pm_237 (706, [(0, .retAddr 0), (1, .ref 0), (2, .ref 73), (3, .int (0 : Int32))], [.int (xs 4), .int (xs 3), .int (xs 2), .int (xs 1), .ref 73, .int (-3 : Int32)]) (HH I_0 J_0 R_1 []) _
    refine Z_c1 rfl rfl rfl (m_tourOut (I := I_0) hb) ?_
    show Zs _ _ pm_237 (709, [(0, .retAddr 0), (1, .ref 0), (2, .ref 73), (3, .int (0 : Int32))], [.int (-3 : Int32), .int (-3 : Int32)]) (HH I_0 J_0 R_1 []) _
    refine Z_jump 1 rfl ?_
    refine Z_bd (fun c709 => ?_) (fun c709 => absurd ((rfl)) c709)
    show Zs _ _ pm_237 (870, [(0, .retAddr 0), (1, .ref 0), (2, .ref 73), (3, .int (0 : Int32))], []) (HH I_0 J_0 R_1 []) _
    exact p1_end
set_option maxRecDepth 100000 in
theorem p1_c22 : Zs (5, xs) 900 pm_237 (714, [(0, .retAddr 0), (1, .ref 0), (2, .ref 73), (3, .int 0)], []) (HH I_0 J_0 R_1 []) P1e := by
  refine Z_jump 16 rfl ?_
  show Zs _ _ pm_237 (730, [(0, .retAddr 0), (1, .ref 0), (2, .ref 73), (3, .int (0 : Int32))], [.int (xs 3), .int (xs 2), .int (xs 1), .ref 0]) (HH I_0 J_0 R_1 []) _
  refine Z_c1 rfl rfl rfl (c_seen_no (n := 0) rfl (by omega) (by omega)) ?_
  show Zs _ _ pm_237 (733, [(0, .retAddr 0), (1, .ref 0), (2, .ref 73), (3, .int (0 : Int32))], [.int (-2 : Int32)]) (HH I_0 J_0 R_1 []) _
  refine Z_jump 16 rfl ?_
  show Zs _ _ pm_237 (749, [(0, .retAddr 0), (1, .ref 0), (2, .ref 73), (3, .int (0 : Int32))], [.int (xs 3), .int (xs 2), .int (xs 1), .ref 73, .int (-2 : Int32)]) (HH I_0 J_0 R_1 []) _
  refine Z_c1 rfl rfl rfl (m_seen_no (n := 0) (I := I_0) rfl (by omega) (by omega)) ?_
  show Zs _ _ pm_237 (752, [(0, .retAddr 0), (1, .ref 0), (2, .ref 73), (3, .int (0 : Int32))], [.int (-2 : Int32), .int (-2 : Int32)]) (HH I_0 J_0 R_1 []) _
  refine Z_jump 1 rfl ?_
  refine Z_bd (fun c752 => ?_) (fun c752 => absurd ((rfl)) c752)
  show Zs _ _ pm_237 (870, [(0, .retAddr 0), (1, .ref 0), (2, .ref 73), (3, .int (0 : Int32))], []) (HH I_0 J_0 R_1 []) _
  exact p1_end
set_option maxRecDepth 100000 in
theorem p1_c23 : Zs (5, xs) 900 pm_237 (757, [(0, .retAddr 0), (1, .ref 0), (2, .ref 73), (3, .int 0)], []) (HH I_0 J_0 R_1 []) P1e := by
  refine Z_jump 1 rfl ?_
  show Zs _ _ pm_237 (758, [(0, .retAddr 0), (1, .ref 0), (2, .ref 73), (3, .int (0 : Int32))], [.ref 0]) (HH I_0 J_0 R_1 []) _
  refine Z_c1 rfl rfl rfl (c_forget) ?_
  show Zs _ _ pm_237 (761, [(0, .retAddr 0), (1, .ref 0), (2, .ref 73), (3, .int (0 : Int32))], [.int (I_0 0 15)]) (HH (sf I_0 0 15 0) J_0 R_1 []) _
  refine Z_jump 1 rfl ?_
  show Zs _ _ pm_237 (762, [(0, .retAddr 0), (1, .ref 0), (2, .ref 73), (3, .int (0 : Int32))], [.ref 73, .int (I_0 0 15)]) (HH (sf I_0 0 15 0) J_0 R_1 []) _
  refine Z_c1 rfl rfl rfl (m_forget) ?_
  show Zs _ _ pm_237 (765, [(0, .retAddr 0), (1, .ref 0), (2, .ref 73), (3, .int (0 : Int32))], [.int (I_0 0 15), .int (I_0 0 15)]) (HH (va_up (sf I_0 0 15 0) 73 (va_up ((sf I_0 0 15 0) 73) 40 0)) J_0 R_1 []) _
  refine Z_jump 1 rfl ?_
  refine Z_bd (fun c765 => ?_) (fun c765 => absurd ((rfl)) c765)
  show Zs _ _ pm_237 (870, [(0, .retAddr 0), (1, .ref 0), (2, .ref 73), (3, .int (0 : Int32))], []) (HH (va_up (sf I_0 0 15 0) 73 (va_up ((sf I_0 0 15 0) 73) 40 0)) J_0 R_1 []) _
  exact p1_end
set_option maxRecDepth 100000 in
theorem p1_c24 : Zs (5, xs) 900 pm_237 (770, [(0, .retAddr 0), (1, .ref 0), (2, .ref 73), (3, .int 0)], []) (HH I_0 J_0 R_1 []) P1e := by
  refine Z_jump 6 rfl ?_
  show Zs _ _ pm_237 (776, [(0, .retAddr 0), (1, .ref 0), (2, .ref 73), (3, .int (0 : Int32))], [.int (xs 1), .ref 0]) (HH I_0 J_0 R_1 []) _
  refine Z_c1 rfl rfl rfl (c_kinds_no (n := 0) rfl (by omega) (by omega)) ?_
  show Zs _ _ pm_237 (779, [(0, .retAddr 0), (1, .ref 0), (2, .ref 73), (3, .int (0 : Int32))], [.int (-2 : Int32)]) (HH I_0 J_0 R_1 []) _
  refine Z_jump 6 rfl ?_
  show Zs _ _ pm_237 (785, [(0, .retAddr 0), (1, .ref 0), (2, .ref 73), (3, .int (0 : Int32))], [.int (xs 1), .ref 73, .int (-2 : Int32)]) (HH I_0 J_0 R_1 []) _
  refine Z_c1 rfl rfl rfl (m_kinds_no (n := 0) (I := I_0) rfl (by omega) (by omega)) ?_
  show Zs _ _ pm_237 (788, [(0, .retAddr 0), (1, .ref 0), (2, .ref 73), (3, .int (0 : Int32))], [.int (-2 : Int32), .int (-2 : Int32)]) (HH I_0 J_0 R_1 []) _
  refine Z_jump 1 rfl ?_
  refine Z_bd (fun c788 => ?_) (fun c788 => absurd ((rfl)) c788)
  show Zs _ _ pm_237 (870, [(0, .retAddr 0), (1, .ref 0), (2, .ref 73), (3, .int (0 : Int32))], []) (HH I_0 J_0 R_1 []) _
  exact p1_end
set_option maxRecDepth 100000 in
theorem p1_c25 : Zs (5, xs) 900 pm_237 (793, [(0, .retAddr 0), (1, .ref 0), (2, .ref 73), (3, .int 0)], []) (HH I_0 J_0 R_1 []) P1e := by
  refine Z_jump 21 rfl ?_
  show Zs _ _ pm_237 (814, [(0, .retAddr 0), (1, .ref 0), (2, .ref 73), (3, .int (0 : Int32))], [.int (xs 4), .int (xs 3), .int (xs 2), .int (xs 1), .ref 0]) (HH I_0 J_0 R_1 []) _
  refine Z_c1 rfl rfl rfl (c_slips_no (n := 0) rfl (by omega) (by omega)) ?_
  show Zs _ _ pm_237 (817, [(0, .retAddr 0), (1, .ref 0), (2, .ref 73), (3, .int (0 : Int32))], [.long (-2 : Int64)]) (HH I_0 J_0 R_1 []) _
  refine Z_jump 21 rfl ?_
  show Zs _ _ pm_237 (838, [(0, .retAddr 0), (1, .ref 0), (2, .ref 73), (3, .int (0 : Int32))], [.int (xs 4), .int (xs 3), .int (xs 2), .int (xs 1), .ref 73, .long (-2 : Int64)]) (HH I_0 J_0 R_1 []) _
  refine Z_c1 rfl rfl rfl (m_slips_no (n := 0) (I := I_0) rfl (by omega) (by omega)) ?_
  show Zs _ _ pm_237 (841, [(0, .retAddr 0), (1, .ref 0), (2, .ref 73), (3, .int (0 : Int32))], [.long (-2 : Int64), .long (-2 : Int64)]) (HH I_0 J_0 R_1 []) _
  refine Z_jump 2 rfl ?_
  refine Z_bd (fun c842 => ?_) (fun c842 => absurd (((lc_eq _ _).mpr rfl)) c842)
  show Zs _ _ pm_237 (870, [(0, .retAddr 0), (1, .ref 0), (2, .ref 73), (3, .int (0 : Int32))], []) (HH I_0 J_0 R_1 []) _
  exact p1_end
set_option maxRecDepth 100000 in
theorem p1_c26 : Zs (5, xs) 900 pm_237 (847, [(0, .retAddr 0), (1, .ref 0), (2, .ref 73), (3, .int 0)], []) (HH I_0 J_0 R_1 []) P1e := by
  refine Z_jump 6 rfl ?_
  show Zs _ _ pm_237 (853, [(0, .retAddr 0), (1, .ref 0), (2, .ref 73), (3, .int (0 : Int32))], [.int (xs 1), .ref 0]) (HH I_0 J_0 R_1 []) _
  refine Z_c1 rfl rfl rfl (c_count0 rfl (fun _ => rfl) (fun _ => rfl) rfl rfl rfl rfl rfl) ?_
  show Zs _ _ pm_237 (856, [(0, .retAddr 0), (1, .ref 0), (2, .ref 73), (3, .int (0 : Int32))], [.int (if 0 ≤ (xs 1).toInt ∧ (xs 1).toInt ≤ 7 then 0 else -3)]) (HH I_0 J_0 R_1 []) _
  refine Z_jump 6 rfl ?_
  show Zs _ _ pm_237 (862, [(0, .retAddr 0), (1, .ref 0), (2, .ref 73), (3, .int (0 : Int32))], [.int (xs 1), .ref 73, .int (if 0 ≤ (xs 1).toInt ∧ (xs 1).toInt ≤ 7 then 0 else -3)]) (HH I_0 J_0 R_1 []) _
  refine Z_c1 rfl rfl rfl (m_count0 (I := I_0) rfl (fun a k h => I0_M h)) ?_
  show Zs _ _ pm_237 (865, [(0, .retAddr 0), (1, .ref 0), (2, .ref 73), (3, .int (0 : Int32))], [.int (if 0 ≤ (xs 1).toInt ∧ (xs 1).toInt ≤ 7 then 0 else -3), .int (if 0 ≤ (xs 1).toInt ∧ (xs 1).toInt ≤ 7 then 0 else -3)]) (HH I_0 J_0 R_1 []) _
  refine Z_jump 1 rfl ?_
  refine Z_bd (fun c865 => ?_) (fun c865 => absurd ((rfl)) c865)
  show Zs _ _ pm_237 (870, [(0, .retAddr 0), (1, .ref 0), (2, .ref 73), (3, .int (0 : Int32))], []) (HH I_0 J_0 R_1 []) _
  exact p1_end
end P1

