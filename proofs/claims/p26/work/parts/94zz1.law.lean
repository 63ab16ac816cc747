/-! The law of p26: its loop, over the pairs of calls. -/
section LAW
variable {sc : Nat × (Nat → Int32)} {I : hI} {J : hJ} {R : hR} {T : am_H} {Q : Option Value → am_H → Prop} {x : Int32} {i : Nat}
def LK (sc : Nat × (Nat → Int32)) (x : Int32) (T : am_H) (Q : Option Value → am_H → Prop) : Prop := ∀ (I : hI) (J : hJ) (R : hR) (T' : am_H), LI I R T' → TX 16 T T' → Zs sc 900 pm_237 (867, [(0, .retAddr 0), (1, .ref 0), (2, .ref 73), (3, .int x)], []) (HH I J R T') Q

set_option maxRecDepth 100000 in
theorem lw_c0 (hx : x = nI i) (hi : i + 5 ≤ sc.1) (hL : sc.1 ≤ 320) (h : LI I R T) (K : LK sc x T Q) : Zs sc 900 pm_237 (156, [(0, .retAddr 0), (1, .ref 0), (2, .ref 73), (3, .int x)], []) (HH I J R T) Q := by
  have e1 : x + 1 = nI (i + 1) := by rw [hx]; exact nI_add i 1
  refine Z_jump 5 rfl ?_
  show Zs _ _ pm_237 (161, [(0, .retAddr 0), (1, .ref 0), (2, .ref 73), (3, .int x)], [.int (x + (1 : Int32)), .retAddr 0, .ref 0]) (HH I J R T) _
  refine Z_ialS (i + 1) rfl (e1) (by omega) (by omega) ?_
  show Zs _ _ pm_237 (162, [(0, .retAddr 0), (1, .ref 0), (2, .ref 73), (3, .int x)], [.int (sc.2 (i + 1)), .ref 0]) (HH I J R T) _
  show Zs _ _ pm_237 (162, [(0, .retAddr 0), (1, .ref 0), (2, .ref 73), (3, .int x)], [.int (sc.2 (i + 1)), .ref 0]) (HH I J R T) _
  refine Z_cQ rfl rfl rfl (p_write (d1 := 897) (d2 := 898) h) (fun v h1 hq => ?_)
  obtain ⟨x1, I1, J1, R1, T1, rfl, rfl, xT, hz⟩ := hq
  show Zs _ _ pm_237 (165, [(0, .retAddr 0), (1, .ref 0), (2, .ref 73), (3, .int x)], [.int x1]) (HH I1 J1 R1 T1) _
  refine Z_jump 6 rfl ?_
  show Zs _ _ pm_237 (171, [(0, .retAddr 0), (1, .ref 0), (2, .ref 73), (3, .int x)], [.int (x + (1 : Int32)), .retAddr 0, .ref 73]) (HH I1 J1 R1 T1) _
  refine Z_ialS (i + 1) rfl (e1) (by omega) (by omega) ?_
  show Zs _ _ pm_237 (172, [(0, .retAddr 0), (1, .ref 0), (2, .ref 73), (3, .int x)], [.int (sc.2 (i + 1)), .ref 73]) (HH I1 J1 R1 T1) _
  show Zs _ _ pm_237 (172, [(0, .retAddr 0), (1, .ref 0), (2, .ref 73), (3, .int x)], [.int (sc.2 (i + 1)), .ref 73]) (HH I1 J1 R1 T1) _
  refine Z_cQ rfl rfl rfl (hz) (fun v h1 hq => ?_)
  obtain ⟨x2, I2, J2, rfl, he, rfl, h2⟩ := hq
  show Zs _ _ pm_237 (175, [(0, .retAddr 0), (1, .ref 0), (2, .ref 73), (3, .int x)], [.int x2]) (HH I2 J2 R1 T1) _
  refine Z_jump 2 rfl ?_
  show Zs _ _ pm_237 (867, [(0, .retAddr 0), (1, .ref 0), (2, .ref 73), (3, .int x)], []) (HH I2 J2 R1 T1) _
  exact K I2 J2 R1 T1 h2 xT
set_option maxRecDepth 100000 in
theorem lw_c1 (hx : x = nI i) (hi : i + 5 ≤ sc.1) (hL : sc.1 ≤ 320) (h : LI I R T) (K : LK sc x T Q) : Zs sc 900 pm_237 (179, [(0, .retAddr 0), (1, .ref 0), (2, .ref 73), (3, .int x)], []) (HH I J R T) Q := by
  refine Z_jump 1 rfl ?_
  show Zs _ _ pm_237 (180, [(0, .retAddr 0), (1, .ref 0), (2, .ref 73), (3, .int x)], [.ref 0]) (HH I J R T) _
  refine Z_cQ rfl rfl rfl (p_erase (d1 := 899) (d2 := 899) h) (fun v h1 hq => ?_)
  obtain ⟨x1, I1, J1, R1, T1, rfl, rfl, xT, hz⟩ := hq
  show Zs _ _ pm_237 (183, [(0, .retAddr 0), (1, .ref 0), (2, .ref 73), (3, .int x)], [.int x1]) (HH I1 J1 R1 T1) _
  refine Z_jump 2 rfl ?_
  show Zs _ _ pm_237 (185, [(0, .retAddr 0), (1, .ref 0), (2, .ref 73), (3, .int x)], [.ref 73]) (HH I1 J1 R1 T1) _
  refine Z_cQ rfl rfl rfl (hz) (fun v h1 hq => ?_)
  obtain ⟨x2, I2, J2, rfl, he, rfl, h2⟩ := hq
  show Zs _ _ pm_237 (188, [(0, .retAddr 0), (1, .ref 0), (2, .ref 73), (3, .int x)], [.int x2]) (HH I2 J2 R1 T1) _
  refine Z_jump 2 rfl ?_
  show Zs _ _ pm_237 (867, [(0, .retAddr 0), (1, .ref 0), (2, .ref 73), (3, .int x)], []) (HH I2 J2 R1 T1) _
  exact K I2 J2 R1 T1 h2 xT
set_option maxRecDepth 100000 in
theorem lw_c2 (hx : x = nI i) (hi : i + 5 ≤ sc.1) (hL : sc.1 ≤ 320) (h : LI I R T) (K : LK sc x T Q) : Zs sc 900 pm_237 (192, [(0, .retAddr 0), (1, .ref 0), (2, .ref 73), (3, .int x)], []) (HH I J R T) Q := by
  have e1 : x + 1 = nI (i + 1) := by rw [hx]; exact nI_add i 1
  refine Z_jump 5 rfl ?_
  show Zs _ _ pm_237 (197, [(0, .retAddr 0), (1, .ref 0), (2, .ref 73), (3, .int x)], [.int (x + (1 : Int32)), .retAddr 0, .ref 0]) (HH I J R T) _
  refine Z_ialS (i + 1) rfl (e1) (by omega) (by omega) ?_
  show Zs _ _ pm_237 (198, [(0, .retAddr 0), (1, .ref 0), (2, .ref 73), (3, .int x)], [.int (sc.2 (i + 1)), .ref 0]) (HH I J R T) _
  show Zs _ _ pm_237 (198, [(0, .retAddr 0), (1, .ref 0), (2, .ref 73), (3, .int x)], [.int (sc.2 (i + 1)), .ref 0]) (HH I J R T) _
  refine Z_cQ rfl rfl rfl (p_fault (d1 := 378) (d2 := 891) h) (fun v h1 hq => ?_)
  obtain ⟨x1, I1, J1, R1, T1, rfl, rfl, xT, hz⟩ := hq
  show Zs _ _ pm_237 (201, [(0, .retAddr 0), (1, .ref 0), (2, .ref 73), (3, .int x)], [.int x1]) (HH I1 J1 R1 T1) _
  refine Z_jump 6 rfl ?_
  show Zs _ _ pm_237 (207, [(0, .retAddr 0), (1, .ref 0), (2, .ref 73), (3, .int x)], [.int (x + (1 : Int32)), .retAddr 0, .ref 73]) (HH I1 J1 R1 T1) _
  refine Z_ialS (i + 1) rfl (e1) (by omega) (by omega) ?_
  show Zs _ _ pm_237 (208, [(0, .retAddr 0), (1, .ref 0), (2, .ref 73), (3, .int x)], [.int (sc.2 (i + 1)), .ref 73]) (HH I1 J1 R1 T1) _
  show Zs _ _ pm_237 (208, [(0, .retAddr 0), (1, .ref 0), (2, .ref 73), (3, .int x)], [.int (sc.2 (i + 1)), .ref 73]) (HH I1 J1 R1 T1) _
  refine Z_cQ rfl rfl rfl (hz) (fun v h1 hq => ?_)
  obtain ⟨x2, I2, J2, rfl, he, rfl, h2⟩ := hq
  show Zs _ _ pm_237 (211, [(0, .retAddr 0), (1, .ref 0), (2, .ref 73), (3, .int x)], [.int x2]) (HH I2 J2 R1 T1) _
  refine Z_jump 2 rfl ?_
  show Zs _ _ pm_237 (867, [(0, .retAddr 0), (1, .ref 0), (2, .ref 73), (3, .int x)], []) (HH I2 J2 R1 T1) _
  exact K I2 J2 R1 T1 h2 xT
set_option maxRecDepth 100000 in
theorem lw_c3 (hx : x = nI i) (hi : i + 5 ≤ sc.1) (hL : sc.1 ≤ 320) (h : LI I R T) (K : LK sc x T Q) : Zs sc 900 pm_237 (215, [(0, .retAddr 0), (1, .ref 0), (2, .ref 73), (3, .int x)], []) (HH I J R T) Q := by
  refine Z_jump 1 rfl ?_
  show Zs _ _ pm_237 (216, [(0, .retAddr 0), (1, .ref 0), (2, .ref 73), (3, .int x)], [.ref 0]) (HH I J R T) _
  refine Z_cQ rfl rfl rfl (p_frame (d1 := 888) (d2 := 891) h) (fun v h1 hq => ?_)
  obtain ⟨x1, I1, J1, R1, T1, rfl, rfl, xT, hz⟩ := hq
  show Zs _ _ pm_237 (219, [(0, .retAddr 0), (1, .ref 0), (2, .ref 73), (3, .int x)], [.int x1]) (HH I1 J1 R1 T1) _
  refine Z_jump 2 rfl ?_
  show Zs _ _ pm_237 (221, [(0, .retAddr 0), (1, .ref 0), (2, .ref 73), (3, .int x)], [.ref 73]) (HH I1 J1 R1 T1) _
  refine Z_cQ rfl rfl rfl (hz) (fun v h1 hq => ?_)
  obtain ⟨x2, I2, J2, rfl, he, rfl, h2⟩ := hq
  show Zs _ _ pm_237 (224, [(0, .retAddr 0), (1, .ref 0), (2, .ref 73), (3, .int x)], [.int x2]) (HH I2 J2 R1 T1) _
  refine Z_jump 2 rfl ?_
  show Zs _ _ pm_237 (867, [(0, .retAddr 0), (1, .ref 0), (2, .ref 73), (3, .int x)], []) (HH I2 J2 R1 T1) _
  exact K I2 J2 R1 T1 h2 xT
set_option maxRecDepth 100000 in
theorem lw_c4 (hx : x = nI i) (hi : i + 5 ≤ sc.1) (hL : sc.1 ≤ 320) (h : LI I R T) (K : LK sc x T Q) : Zs sc 900 pm_237 (228, [(0, .retAddr 0), (1, .ref 0), (2, .ref 73), (3, .int x)], []) (HH I J R T) Q := by
  refine Z_jump 1 rfl ?_
  show Zs _ _ pm_237 (229, [(0, .retAddr 0), (1, .ref 0), (2, .ref 73), (3, .int x)], [.ref 0]) (HH I J R T) _
  refine Z_cQ rfl rfl rfl (p_run (d1 := 378) (d2 := 890) h) (fun v h1 hq => ?_)
  obtain ⟨x1, I1, J1, R1, T1, rfl, rfl, xT, hz⟩ := hq
  show Zs _ _ pm_237 (232, [(0, .retAddr 0), (1, .ref 0), (2, .ref 73), (3, .int x)], [.int x1]) (HH I1 J1 R1 T1) _
  refine Z_jump 2 rfl ?_
  show Zs _ _ pm_237 (234, [(0, .retAddr 0), (1, .ref 0), (2, .ref 73), (3, .int x)], [.ref 73]) (HH I1 J1 R1 T1) _
  refine Z_cQ rfl rfl rfl (hz) (fun v h1 hq => ?_)
  obtain ⟨x2, I2, J2, rfl, he, rfl, h2⟩ := hq
  show Zs _ _ pm_237 (237, [(0, .retAddr 0), (1, .ref 0), (2, .ref 73), (3, .int x)], [.int x2]) (HH I2 J2 R1 T1) _
  refine Z_jump 2 rfl ?_
  show Zs _ _ pm_237 (867, [(0, .retAddr 0), (1, .ref 0), (2, .ref 73), (3, .int x)], []) (HH I2 J2 R1 T1) _
  exact K I2 J2 R1 T1 h2 xT
set_option maxRecDepth 100000 in
theorem lw_c5 (hx : x = nI i) (hi : i + 5 ≤ sc.1) (hL : sc.1 ≤ 320) (h : LI I R T) (K : LK sc x T Q) : Zs sc 900 pm_237 (241, [(0, .retAddr 0), (1, .ref 0), (2, .ref 73), (3, .int x)], []) (HH I J R T) Q := by
  have e1 : x + 1 = nI (i + 1) := by rw [hx]; exact nI_add i 1
  have e2 : x + 2 = nI (i + 2) := by rw [hx]; exact nI_add i 2
  refine Z_jump 5 rfl ?_
  show Zs _ _ pm_237 (246, [(0, .retAddr 0), (1, .ref 0), (2, .ref 73), (3, .int x)], [.int (x + (1 : Int32)), .retAddr 0, .ref 0]) (HH I J R T) _
  refine Z_ialS (i + 1) rfl (e1) (by omega) (by omega) ?_
  show Zs _ _ pm_237 (247, [(0, .retAddr 0), (1, .ref 0), (2, .ref 73), (3, .int x)], [.int (sc.2 (i + 1)), .ref 0]) (HH I J R T) _
  refine Z_jump 4 rfl ?_
  show Zs _ _ pm_237 (251, [(0, .retAddr 0), (1, .ref 0), (2, .ref 73), (3, .int x)], [.int (x + (2 : Int32)), .retAddr 0, .int (sc.2 (i + 1)), .ref 0]) (HH I J R T) _
  refine Z_ialS (i + 2) rfl (e2) (by omega) (by omega) ?_
  show Zs _ _ pm_237 (252, [(0, .retAddr 0), (1, .ref 0), (2, .ref 73), (3, .int x)], [.int (sc.2 (i + 2)), .int (sc.2 (i + 1)), .ref 0]) (HH I J R T) _
  show Zs _ _ pm_237 (252, [(0, .retAddr 0), (1, .ref 0), (2, .ref 73), (3, .int x)], [.int (sc.2 (i + 2)), .int (sc.2 (i + 1)), .ref 0]) (HH I J R T) _
  refine Z_cQ rfl rfl rfl (p_rod (d1 := 896) (d2 := 896) h) (fun v h1 hq => ?_)
  obtain ⟨x1, I1, J1, R1, T1, rfl, rfl, xT, hz⟩ := hq
  show Zs _ _ pm_237 (255, [(0, .retAddr 0), (1, .ref 0), (2, .ref 73), (3, .int x)], [.int x1]) (HH I1 J1 R1 T1) _
  refine Z_jump 6 rfl ?_
  show Zs _ _ pm_237 (261, [(0, .retAddr 0), (1, .ref 0), (2, .ref 73), (3, .int x)], [.int (x + (1 : Int32)), .retAddr 0, .ref 73]) (HH I1 J1 R1 T1) _
  refine Z_ialS (i + 1) rfl (e1) (by omega) (by omega) ?_
  show Zs _ _ pm_237 (262, [(0, .retAddr 0), (1, .ref 0), (2, .ref 73), (3, .int x)], [.int (sc.2 (i + 1)), .ref 73]) (HH I1 J1 R1 T1) _
  refine Z_jump 4 rfl ?_
  show Zs _ _ pm_237 (266, [(0, .retAddr 0), (1, .ref 0), (2, .ref 73), (3, .int x)], [.int (x + (2 : Int32)), .retAddr 0, .int (sc.2 (i + 1)), .ref 73]) (HH I1 J1 R1 T1) _
  refine Z_ialS (i + 2) rfl (e2) (by omega) (by omega) ?_
  show Zs _ _ pm_237 (267, [(0, .retAddr 0), (1, .ref 0), (2, .ref 73), (3, .int x)], [.int (sc.2 (i + 2)), .int (sc.2 (i + 1)), .ref 73]) (HH I1 J1 R1 T1) _
  show Zs _ _ pm_237 (267, [(0, .retAddr 0), (1, .ref 0), (2, .ref 73), (3, .int x)], [.int (sc.2 (i + 2)), .int (sc.2 (i + 1)), .ref 73]) (HH I1 J1 R1 T1) _
  refine Z_cQ rfl rfl rfl (hz) (fun v h1 hq => ?_)
  obtain ⟨x2, I2, J2, rfl, he, rfl, h2⟩ := hq
  show Zs _ _ pm_237 (270, [(0, .retAddr 0), (1, .ref 0), (2, .ref 73), (3, .int x)], [.int x2]) (HH I2 J2 R1 T1) _
  refine Z_jump 2 rfl ?_
  show Zs _ _ pm_237 (867, [(0, .retAddr 0), (1, .ref 0), (2, .ref 73), (3, .int x)], []) (HH I2 J2 R1 T1) _
  exact K I2 J2 R1 T1 h2 xT
set_option maxRecDepth 100000 in
theorem lw_c6 (hx : x = nI i) (hi : i + 5 ≤ sc.1) (hL : sc.1 ≤ 320) (h : LI I R T) (K : LK sc x T Q) : Zs sc 900 pm_237 (274, [(0, .retAddr 0), (1, .ref 0), (2, .ref 73), (3, .int x)], []) (HH I J R T) Q := by
  refine Z_jump 1 rfl ?_
  show Zs _ _ pm_237 (275, [(0, .retAddr 0), (1, .ref 0), (2, .ref 73), (3, .int x)], [.ref 0]) (HH I J R T) _
  refine Z_cQ rfl rfl rfl (p_number (d1 := 895) (d2 := 895) h) (fun v h1 hq => ?_)
  obtain ⟨x1, I1, J1, R1, T1, rfl, rfl, xT, hz⟩ := hq
  show Zs _ _ pm_237 (278, [(0, .retAddr 0), (1, .ref 0), (2, .ref 73), (3, .int x)], [.long x1]) (HH I1 J1 R1 T1) _
  refine Z_jump 2 rfl ?_
  show Zs _ _ pm_237 (280, [(0, .retAddr 0), (1, .ref 0), (2, .ref 73), (3, .int x)], [.ref 73]) (HH I1 J1 R1 T1) _
  refine Z_cQ rfl rfl rfl (hz) (fun v h1 hq => ?_)
  obtain ⟨x2, I2, J2, rfl, he, rfl, h2⟩ := hq
  show Zs _ _ pm_237 (283, [(0, .retAddr 0), (1, .ref 0), (2, .ref 73), (3, .int x)], [.long x2]) (HH I2 J2 R1 T1) _
  refine Z_jump 2 rfl ?_
  show Zs _ _ pm_237 (867, [(0, .retAddr 0), (1, .ref 0), (2, .ref 73), (3, .int x)], []) (HH I2 J2 R1 T1) _
  exact K I2 J2 R1 T1 h2 xT
set_option maxRecDepth 100000 in
theorem lw_c7 (hx : x = nI i) (hi : i + 5 ≤ sc.1) (hL : sc.1 ≤ 320) (h : LI I R T) (K : LK sc x T Q) : Zs sc 900 pm_237 (287, [(0, .retAddr 0), (1, .ref 0), (2, .ref 73), (3, .int x)], []) (HH I J R T) Q := by
  have e1 : x + 1 = nI (i + 1) := by rw [hx]; exact nI_add i 1
  have e2 : x + 2 = nI (i + 2) := by rw [hx]; exact nI_add i 2
  refine Z_jump 5 rfl ?_
  show Zs _ _ pm_237 (292, [(0, .retAddr 0), (1, .ref 0), (2, .ref 73), (3, .int x)], [.int (x + (1 : Int32)), .retAddr 0, .ref 0]) (HH I J R T) _
  refine Z_ialS (i + 1) rfl (e1) (by omega) (by omega) ?_
  show Zs _ _ pm_237 (293, [(0, .retAddr 0), (1, .ref 0), (2, .ref 73), (3, .int x)], [.int (sc.2 (i + 1)), .ref 0]) (HH I J R T) _
  refine Z_jump 4 rfl ?_
  show Zs _ _ pm_237 (297, [(0, .retAddr 0), (1, .ref 0), (2, .ref 73), (3, .int x)], [.int (x + (2 : Int32)), .retAddr 0, .int (sc.2 (i + 1)), .ref 0]) (HH I J R T) _
  refine Z_ialS (i + 2) rfl (e2) (by omega) (by omega) ?_
  show Zs _ _ pm_237 (298, [(0, .retAddr 0), (1, .ref 0), (2, .ref 73), (3, .int x)], [.int (sc.2 (i + 2)), .int (sc.2 (i + 1)), .ref 0]) (HH I J R T) _
  show Zs _ _ pm_237 (298, [(0, .retAddr 0), (1, .ref 0), (2, .ref 73), (3, .int x)], [.int (sc.2 (i + 2)), .int (sc.2 (i + 1)), .ref 0]) (HH I J R T) _
  refine Z_cQ rfl rfl rfl (p_as (d1 := 897) (d2 := 897) h) (fun v h1 hq => ?_)
  obtain ⟨x1, I1, J1, R1, T1, rfl, rfl, xT, hz⟩ := hq
  show Zs _ _ pm_237 (301, [(0, .retAddr 0), (1, .ref 0), (2, .ref 73), (3, .int x)], [.int x1]) (HH I1 J1 R1 T1) _
  refine Z_jump 6 rfl ?_
  show Zs _ _ pm_237 (307, [(0, .retAddr 0), (1, .ref 0), (2, .ref 73), (3, .int x)], [.int (x + (1 : Int32)), .retAddr 0, .ref 73]) (HH I1 J1 R1 T1) _
  refine Z_ialS (i + 1) rfl (e1) (by omega) (by omega) ?_
  show Zs _ _ pm_237 (308, [(0, .retAddr 0), (1, .ref 0), (2, .ref 73), (3, .int x)], [.int (sc.2 (i + 1)), .ref 73]) (HH I1 J1 R1 T1) _
  refine Z_jump 4 rfl ?_
  show Zs _ _ pm_237 (312, [(0, .retAddr 0), (1, .ref 0), (2, .ref 73), (3, .int x)], [.int (x + (2 : Int32)), .retAddr 0, .int (sc.2 (i + 1)), .ref 73]) (HH I1 J1 R1 T1) _
  refine Z_ialS (i + 2) rfl (e2) (by omega) (by omega) ?_
  show Zs _ _ pm_237 (313, [(0, .retAddr 0), (1, .ref 0), (2, .ref 73), (3, .int x)], [.int (sc.2 (i + 2)), .int (sc.2 (i + 1)), .ref 73]) (HH I1 J1 R1 T1) _
  show Zs _ _ pm_237 (313, [(0, .retAddr 0), (1, .ref 0), (2, .ref 73), (3, .int x)], [.int (sc.2 (i + 2)), .int (sc.2 (i + 1)), .ref 73]) (HH I1 J1 R1 T1) _
  refine Z_cQ rfl rfl rfl (hz) (fun v h1 hq => ?_)
  obtain ⟨x2, I2, J2, rfl, he, rfl, h2⟩ := hq
  show Zs _ _ pm_237 (316, [(0, .retAddr 0), (1, .ref 0), (2, .ref 73), (3, .int x)], [.int x2]) (HH I2 J2 R1 T1) _
  refine Z_jump 2 rfl ?_
  show Zs _ _ pm_237 (867, [(0, .retAddr 0), (1, .ref 0), (2, .ref 73), (3, .int x)], []) (HH I2 J2 R1 T1) _
  exact K I2 J2 R1 T1 h2 xT
set_option maxRecDepth 100000 in
theorem lw_c8 (hx : x = nI i) (hi : i + 5 ≤ sc.1) (hL : sc.1 ≤ 320) (h : LI I R T) (K : LK sc x T Q) : Zs sc 900 pm_237 (320, [(0, .retAddr 0), (1, .ref 0), (2, .ref 73), (3, .int x)], []) (HH I J R T) Q := by
  have e1 : x + 1 = nI (i + 1) := by rw [hx]; exact nI_add i 1
  have e2 : x + 2 = nI (i + 2) := by rw [hx]; exact nI_add i 2
  have e3 : x + 3 = nI (i + 3) := by rw [hx]; exact nI_add i 3
  refine Z_jump 5 rfl ?_
  show Zs _ _ pm_237 (325, [(0, .retAddr 0), (1, .ref 0), (2, .ref 73), (3, .int x)], [.int (x + (1 : Int32)), .retAddr 0, .ref 0]) (HH I J R T) _
  refine Z_ialS (i + 1) rfl (e1) (by omega) (by omega) ?_
  show Zs _ _ pm_237 (326, [(0, .retAddr 0), (1, .ref 0), (2, .ref 73), (3, .int x)], [.int (sc.2 (i + 1)), .ref 0]) (HH I J R T) _
  refine Z_jump 4 rfl ?_
  show Zs _ _ pm_237 (330, [(0, .retAddr 0), (1, .ref 0), (2, .ref 73), (3, .int x)], [.int (x + (2 : Int32)), .retAddr 0, .int (sc.2 (i + 1)), .ref 0]) (HH I J R T) _
  refine Z_ialS (i + 2) rfl (e2) (by omega) (by omega) ?_
  show Zs _ _ pm_237 (331, [(0, .retAddr 0), (1, .ref 0), (2, .ref 73), (3, .int x)], [.int (sc.2 (i + 2)), .int (sc.2 (i + 1)), .ref 0]) (HH I J R T) _
  refine Z_jump 4 rfl ?_
  show Zs _ _ pm_237 (335, [(0, .retAddr 0), (1, .ref 0), (2, .ref 73), (3, .int x)], [.int (x + (3 : Int32)), .retAddr 0, .int (sc.2 (i + 2)), .int (sc.2 (i + 1)), .ref 0]) (HH I J R T) _
  refine Z_ialS (i + 3) rfl (e3) (by omega) (by omega) ?_
  show Zs _ _ pm_237 (336, [(0, .retAddr 0), (1, .ref 0), (2, .ref 73), (3, .int x)], [.int (sc.2 (i + 3)), .int (sc.2 (i + 2)), .int (sc.2 (i + 1)), .ref 0]) (HH I J R T) _
  show Zs _ _ pm_237 (336, [(0, .retAddr 0), (1, .ref 0), (2, .ref 73), (3, .int x)], [.int (sc.2 (i + 3)), .int (sc.2 (i + 2)), .int (sc.2 (i + 1)), .ref 0]) (HH I J R T) _
  refine Z_cQ rfl rfl rfl (p_push (d1 := 896) (d2 := 896) h) (fun v h1 hq => ?_)
  obtain ⟨x1, I1, J1, R1, T1, rfl, rfl, xT, hz⟩ := hq
  show Zs _ _ pm_237 (339, [(0, .retAddr 0), (1, .ref 0), (2, .ref 73), (3, .int x)], [.int x1]) (HH I1 J1 R1 T1) _
  refine Z_jump 6 rfl ?_
  show Zs _ _ pm_237 (345, [(0, .retAddr 0), (1, .ref 0), (2, .ref 73), (3, .int x)], [.int (x + (1 : Int32)), .retAddr 0, .ref 73]) (HH I1 J1 R1 T1) _
  refine Z_ialS (i + 1) rfl (e1) (by omega) (by omega) ?_
  show Zs _ _ pm_237 (346, [(0, .retAddr 0), (1, .ref 0), (2, .ref 73), (3, .int x)], [.int (sc.2 (i + 1)), .ref 73]) (HH I1 J1 R1 T1) _
  refine Z_jump 4 rfl ?_
  show Zs _ _ pm_237 (350, [(0, .retAddr 0), (1, .ref 0), (2, .ref 73), (3, .int x)], [.int (x + (2 : Int32)), .retAddr 0, .int (sc.2 (i + 1)), .ref 73]) (HH I1 J1 R1 T1) _
  refine Z_ialS (i + 2) rfl (e2) (by omega) (by omega) ?_
  show Zs _ _ pm_237 (351, [(0, .retAddr 0), (1, .ref 0), (2, .ref 73), (3, .int x)], [.int (sc.2 (i + 2)), .int (sc.2 (i + 1)), .ref 73]) (HH I1 J1 R1 T1) _
  refine Z_jump 4 rfl ?_
  show Zs _ _ pm_237 (355, [(0, .retAddr 0), (1, .ref 0), (2, .ref 73), (3, .int x)], [.int (x + (3 : Int32)), .retAddr 0, .int (sc.2 (i + 2)), .int (sc.2 (i + 1)), .ref 73]) (HH I1 J1 R1 T1) _
  refine Z_ialS (i + 3) rfl (e3) (by omega) (by omega) ?_
  show Zs _ _ pm_237 (356, [(0, .retAddr 0), (1, .ref 0), (2, .ref 73), (3, .int x)], [.int (sc.2 (i + 3)), .int (sc.2 (i + 2)), .int (sc.2 (i + 1)), .ref 73]) (HH I1 J1 R1 T1) _
  show Zs _ _ pm_237 (356, [(0, .retAddr 0), (1, .ref 0), (2, .ref 73), (3, .int x)], [.int (sc.2 (i + 3)), .int (sc.2 (i + 2)), .int (sc.2 (i + 1)), .ref 73]) (HH I1 J1 R1 T1) _
  refine Z_cQ rfl rfl rfl (hz) (fun v h1 hq => ?_)
  obtain ⟨x2, I2, J2, rfl, he, rfl, h2⟩ := hq
  show Zs _ _ pm_237 (359, [(0, .retAddr 0), (1, .ref 0), (2, .ref 73), (3, .int x)], [.int x2]) (HH I2 J2 R1 T1) _
  refine Z_jump 2 rfl ?_
  show Zs _ _ pm_237 (867, [(0, .retAddr 0), (1, .ref 0), (2, .ref 73), (3, .int x)], []) (HH I2 J2 R1 T1) _
  exact K I2 J2 R1 T1 h2 xT
set_option maxRecDepth 100000 in
theorem lw_c9 (hx : x = nI i) (hi : i + 5 ≤ sc.1) (hL : sc.1 ≤ 320) (h : LI I R T) (K : LK sc x T Q) : Zs sc 900 pm_237 (363, [(0, .retAddr 0), (1, .ref 0), (2, .ref 73), (3, .int x)], []) (HH I J R T) Q := by
  have e1 : x + 1 = nI (i + 1) := by rw [hx]; exact nI_add i 1
  have e2 : x + 2 = nI (i + 2) := by rw [hx]; exact nI_add i 2
  refine Z_jump 5 rfl ?_
  show Zs _ _ pm_237 (368, [(0, .retAddr 0), (1, .ref 0), (2, .ref 73), (3, .int x)], [.int (x + (1 : Int32)), .retAddr 0, .ref 0]) (HH I J R T) _
  refine Z_ialS (i + 1) rfl (e1) (by omega) (by omega) ?_
  show Zs _ _ pm_237 (369, [(0, .retAddr 0), (1, .ref 0), (2, .ref 73), (3, .int x)], [.int (sc.2 (i + 1)), .ref 0]) (HH I J R T) _
  refine Z_jump 4 rfl ?_
  show Zs _ _ pm_237 (373, [(0, .retAddr 0), (1, .ref 0), (2, .ref 73), (3, .int x)], [.int (x + (2 : Int32)), .retAddr 0, .int (sc.2 (i + 1)), .ref 0]) (HH I J R T) _
  refine Z_ialS (i + 2) rfl (e2) (by omega) (by omega) ?_
  show Zs _ _ pm_237 (374, [(0, .retAddr 0), (1, .ref 0), (2, .ref 73), (3, .int x)], [.int (sc.2 (i + 2)), .int (sc.2 (i + 1)), .ref 0]) (HH I J R T) _
  show Zs _ _ pm_237 (374, [(0, .retAddr 0), (1, .ref 0), (2, .ref 73), (3, .int x)], [.int (sc.2 (i + 2)), .int (sc.2 (i + 1)), .ref 0]) (HH I J R T) _
  refine Z_cQ rfl rfl rfl (p_stick (d1 := 896) (d2 := 896) h) (fun v h1 hq => ?_)
  obtain ⟨x1, I1, J1, R1, T1, rfl, rfl, xT, hz⟩ := hq
  show Zs _ _ pm_237 (377, [(0, .retAddr 0), (1, .ref 0), (2, .ref 73), (3, .int x)], [.int x1]) (HH I1 J1 R1 T1) _
  refine Z_jump 6 rfl ?_
  show Zs _ _ pm_237 (383, [(0, .retAddr 0), (1, .ref 0), (2, .ref 73), (3, .int x)], [.int (x + (1 : Int32)), .retAddr 0, .ref 73]) (HH I1 J1 R1 T1) _
  refine Z_ialS (i + 1) rfl (e1) (by omega) (by omega) ?_
  show Zs _ _ pm_237 (384, [(0, .retAddr 0), (1, .ref 0), (2, .ref 73), (3, .int x)], [.int (sc.2 (i + 1)), .ref 73]) (HH I1 J1 R1 T1) _
  refine Z_jump 4 rfl ?_
  show Zs _ _ pm_237 (388, [(0, .retAddr 0), (1, .ref 0), (2, .ref 73), (3, .int x)], [.int (x + (2 : Int32)), .retAddr 0, .int (sc.2 (i + 1)), .ref 73]) (HH I1 J1 R1 T1) _
  refine Z_ialS (i + 2) rfl (e2) (by omega) (by omega) ?_
  show Zs _ _ pm_237 (389, [(0, .retAddr 0), (1, .ref 0), (2, .ref 73), (3, .int x)], [.int (sc.2 (i + 2)), .int (sc.2 (i + 1)), .ref 73]) (HH I1 J1 R1 T1) _
  show Zs _ _ pm_237 (389, [(0, .retAddr 0), (1, .ref 0), (2, .ref 73), (3, .int x)], [.int (sc.2 (i + 2)), .int (sc.2 (i + 1)), .ref 73]) (HH I1 J1 R1 T1) _
  refine Z_cQ rfl rfl rfl (hz) (fun v h1 hq => ?_)
  obtain ⟨x2, I2, J2, rfl, he, rfl, h2⟩ := hq
  show Zs _ _ pm_237 (392, [(0, .retAddr 0), (1, .ref 0), (2, .ref 73), (3, .int x)], [.int x2]) (HH I2 J2 R1 T1) _
  refine Z_jump 2 rfl ?_
  show Zs _ _ pm_237 (867, [(0, .retAddr 0), (1, .ref 0), (2, .ref 73), (3, .int x)], []) (HH I2 J2 R1 T1) _
  exact K I2 J2 R1 T1 h2 xT
set_option maxRecDepth 100000 in
theorem lw_c10 (hx : x = nI i) (hi : i + 5 ≤ sc.1) (hL : sc.1 ≤ 320) (h : LI I R T) (K : LK sc x T Q) : Zs sc 900 pm_237 (396, [(0, .retAddr 0), (1, .ref 0), (2, .ref 73), (3, .int x)], []) (HH I J R T) Q := by
  have e1 : x + 1 = nI (i + 1) := by rw [hx]; exact nI_add i 1
  refine Z_jump 5 rfl ?_
  show Zs _ _ pm_237 (401, [(0, .retAddr 0), (1, .ref 0), (2, .ref 73), (3, .int x)], [.int (x + (1 : Int32)), .retAddr 0, .ref 0]) (HH I J R T) _
  refine Z_ialS (i + 1) rfl (e1) (by omega) (by omega) ?_
  show Zs _ _ pm_237 (402, [(0, .retAddr 0), (1, .ref 0), (2, .ref 73), (3, .int x)], [.int (sc.2 (i + 1)), .ref 0]) (HH I J R T) _
  show Zs _ _ pm_237 (402, [(0, .retAddr 0), (1, .ref 0), (2, .ref 73), (3, .int x)], [.int (sc.2 (i + 1)), .ref 0]) (HH I J R T) _
  refine Z_cQ rfl rfl rfl (p_set (d1 := 886) (d2 := 892) h) (fun v h1 hq => ?_)
  obtain ⟨x1, I1, J1, R1, T1, rfl, rfl, xT, hz⟩ := hq
  show Zs _ _ pm_237 (405, [(0, .retAddr 0), (1, .ref 0), (2, .ref 73), (3, .int x)], [.int x1]) (HH I1 J1 R1 T1) _
  refine Z_jump 6 rfl ?_
  show Zs _ _ pm_237 (411, [(0, .retAddr 0), (1, .ref 0), (2, .ref 73), (3, .int x)], [.int (x + (1 : Int32)), .retAddr 0, .ref 73]) (HH I1 J1 R1 T1) _
  refine Z_ialS (i + 1) rfl (e1) (by omega) (by omega) ?_
  show Zs _ _ pm_237 (412, [(0, .retAddr 0), (1, .ref 0), (2, .ref 73), (3, .int x)], [.int (sc.2 (i + 1)), .ref 73]) (HH I1 J1 R1 T1) _
  show Zs _ _ pm_237 (412, [(0, .retAddr 0), (1, .ref 0), (2, .ref 73), (3, .int x)], [.int (sc.2 (i + 1)), .ref 73]) (HH I1 J1 R1 T1) _
  refine Z_cQ rfl rfl rfl (hz) (fun v h1 hq => ?_)
  obtain ⟨x2, I2, J2, rfl, he, rfl, h2⟩ := hq
  show Zs _ _ pm_237 (415, [(0, .retAddr 0), (1, .ref 0), (2, .ref 73), (3, .int x)], [.int x2]) (HH I2 J2 R1 T1) _
  refine Z_jump 2 rfl ?_
  show Zs _ _ pm_237 (867, [(0, .retAddr 0), (1, .ref 0), (2, .ref 73), (3, .int x)], []) (HH I2 J2 R1 T1) _
  exact K I2 J2 R1 T1 h2 xT
set_option maxRecDepth 100000 in
theorem lw_c11 (hx : x = nI i) (hi : i + 5 ≤ sc.1) (hL : sc.1 ≤ 320) (h : LI I R T) (K : LK sc x T Q) : Zs sc 900 pm_237 (419, [(0, .retAddr 0), (1, .ref 0), (2, .ref 73), (3, .int x)], []) (HH I J R T) Q := by
  have e1 : x + 1 = nI (i + 1) := by rw [hx]; exact nI_add i 1
  refine Z_jump 5 rfl ?_
  show Zs _ _ pm_237 (424, [(0, .retAddr 0), (1, .ref 0), (2, .ref 73), (3, .int x)], [.int (x + (1 : Int32)), .retAddr 0, .ref 0]) (HH I J R T) _
  refine Z_ialS (i + 1) rfl (e1) (by omega) (by omega) ?_
  show Zs _ _ pm_237 (425, [(0, .retAddr 0), (1, .ref 0), (2, .ref 73), (3, .int x)], [.int (sc.2 (i + 1)), .ref 0]) (HH I J R T) _
  show Zs _ _ pm_237 (425, [(0, .retAddr 0), (1, .ref 0), (2, .ref 73), (3, .int x)], [.int (sc.2 (i + 1)), .ref 0]) (HH I J R T) _
  refine Z_cQ rfl rfl rfl (p_carry (d1 := 892) (d2 := 894) h) (fun v h1 hq => ?_)
  obtain ⟨x1, I1, J1, R1, T1, rfl, rfl, xT, hz⟩ := hq
  show Zs _ _ pm_237 (428, [(0, .retAddr 0), (1, .ref 0), (2, .ref 73), (3, .int x)], [.int x1]) (HH I1 J1 R1 T1) _
  refine Z_jump 6 rfl ?_
  show Zs _ _ pm_237 (434, [(0, .retAddr 0), (1, .ref 0), (2, .ref 73), (3, .int x)], [.int (x + (1 : Int32)), .retAddr 0, .ref 73]) (HH I1 J1 R1 T1) _
  refine Z_ialS (i + 1) rfl (e1) (by omega) (by omega) ?_
  show Zs _ _ pm_237 (435, [(0, .retAddr 0), (1, .ref 0), (2, .ref 73), (3, .int x)], [.int (sc.2 (i + 1)), .ref 73]) (HH I1 J1 R1 T1) _
  show Zs _ _ pm_237 (435, [(0, .retAddr 0), (1, .ref 0), (2, .ref 73), (3, .int x)], [.int (sc.2 (i + 1)), .ref 73]) (HH I1 J1 R1 T1) _
  refine Z_cQ rfl rfl rfl (hz) (fun v h1 hq => ?_)
  obtain ⟨x2, I2, J2, rfl, he, rfl, h2⟩ := hq
  show Zs _ _ pm_237 (438, [(0, .retAddr 0), (1, .ref 0), (2, .ref 73), (3, .int x)], [.int x2]) (HH I2 J2 R1 T1) _
  refine Z_jump 2 rfl ?_
  show Zs _ _ pm_237 (867, [(0, .retAddr 0), (1, .ref 0), (2, .ref 73), (3, .int x)], []) (HH I2 J2 R1 T1) _
  exact K I2 J2 R1 T1 h2 xT
set_option maxRecDepth 100000 in
theorem lw_c12 (hx : x = nI i) (hi : i + 5 ≤ sc.1) (hL : sc.1 ≤ 320) (h : LI I R T) (K : LK sc x T Q) : Zs sc 900 pm_237 (442, [(0, .retAddr 0), (1, .ref 0), (2, .ref 73), (3, .int x)], []) (HH I J R T) Q := by
  refine Z_jump 1 rfl ?_
  show Zs _ _ pm_237 (443, [(0, .retAddr 0), (1, .ref 0), (2, .ref 73), (3, .int x)], [.ref 0]) (HH I J R T) _
  refine Z_cQ rfl rfl rfl (p_undo (d1 := 897) (d2 := 899) h) (fun v h1 hq => ?_)
  obtain ⟨x1, I1, J1, R1, T1, rfl, rfl, xT, hz⟩ := hq
  show Zs _ _ pm_237 (446, [(0, .retAddr 0), (1, .ref 0), (2, .ref 73), (3, .int x)], [.int x1]) (HH I1 J1 R1 T1) _
  refine Z_jump 2 rfl ?_
  show Zs _ _ pm_237 (448, [(0, .retAddr 0), (1, .ref 0), (2, .ref 73), (3, .int x)], [.ref 73]) (HH I1 J1 R1 T1) _
  refine Z_cQ rfl rfl rfl (hz) (fun v h1 hq => ?_)
  obtain ⟨x2, I2, J2, rfl, he, rfl, h2⟩ := hq
  show Zs _ _ pm_237 (451, [(0, .retAddr 0), (1, .ref 0), (2, .ref 73), (3, .int x)], [.int x2]) (HH I2 J2 R1 T1) _
  refine Z_jump 2 rfl ?_
  show Zs _ _ pm_237 (867, [(0, .retAddr 0), (1, .ref 0), (2, .ref 73), (3, .int x)], []) (HH I2 J2 R1 T1) _
  exact K I2 J2 R1 T1 h2 xT
set_option maxRecDepth 100000 in
theorem lw_c13 (hx : x = nI i) (hi : i + 5 ≤ sc.1) (hL : sc.1 ≤ 320) (h : LI I R T) (K : LK sc x T Q) : Zs sc 900 pm_237 (455, [(0, .retAddr 0), (1, .ref 0), (2, .ref 73), (3, .int x)], []) (HH I J R T) Q := by
  have e1 : x + 1 = nI (i + 1) := by rw [hx]; exact nI_add i 1
  refine Z_jump 5 rfl ?_
  show Zs _ _ pm_237 (460, [(0, .retAddr 0), (1, .ref 0), (2, .ref 73), (3, .int x)], [.int (x + (1 : Int32)), .retAddr 0, .ref 0]) (HH I J R T) _
  refine Z_ialS (i + 1) rfl (e1) (by omega) (by omega) ?_
  show Zs _ _ pm_237 (461, [(0, .retAddr 0), (1, .ref 0), (2, .ref 73), (3, .int x)], [.int (sc.2 (i + 1)), .ref 0]) (HH I J R T) _
  show Zs _ _ pm_237 (461, [(0, .retAddr 0), (1, .ref 0), (2, .ref 73), (3, .int x)], [.int (sc.2 (i + 1)), .ref 0]) (HH I J R T) _
  refine Z_cQ rfl rfl rfl (p_keep (d1 := 896) (d2 := 898) h) (fun v h1 hq => ?_)
  obtain ⟨x1, I1, J1, R1, T1, rfl, rfl, xT, hz⟩ := hq
  show Zs _ _ pm_237 (464, [(0, .retAddr 0), (1, .ref 0), (2, .ref 73), (3, .int x)], [.int x1]) (HH I1 J1 R1 T1) _
  refine Z_jump 6 rfl ?_
  show Zs _ _ pm_237 (470, [(0, .retAddr 0), (1, .ref 0), (2, .ref 73), (3, .int x)], [.int (x + (1 : Int32)), .retAddr 0, .ref 73]) (HH I1 J1 R1 T1) _
  refine Z_ialS (i + 1) rfl (e1) (by omega) (by omega) ?_
  show Zs _ _ pm_237 (471, [(0, .retAddr 0), (1, .ref 0), (2, .ref 73), (3, .int x)], [.int (sc.2 (i + 1)), .ref 73]) (HH I1 J1 R1 T1) _
  show Zs _ _ pm_237 (471, [(0, .retAddr 0), (1, .ref 0), (2, .ref 73), (3, .int x)], [.int (sc.2 (i + 1)), .ref 73]) (HH I1 J1 R1 T1) _
  refine Z_cQ rfl rfl rfl (hz) (fun v h1 hq => ?_)
  obtain ⟨x2, I2, J2, rfl, he, rfl, h2⟩ := hq
  show Zs _ _ pm_237 (474, [(0, .retAddr 0), (1, .ref 0), (2, .ref 73), (3, .int x)], [.int x2]) (HH I2 J2 R1 T1) _
  refine Z_jump 2 rfl ?_
  show Zs _ _ pm_237 (867, [(0, .retAddr 0), (1, .ref 0), (2, .ref 73), (3, .int x)], []) (HH I2 J2 R1 T1) _
  exact K I2 J2 R1 T1 h2 xT
set_option maxRecDepth 100000 in
theorem lw_c14 (hx : x = nI i) (hi : i + 5 ≤ sc.1) (hL : sc.1 ≤ 320) (h : LI I R T) (K : LK sc x T Q) : Zs sc 900 pm_237 (478, [(0, .retAddr 0), (1, .ref 0), (2, .ref 73), (3, .int x)], []) (HH I J R T) Q := by
  have e1 : x + 1 = nI (i + 1) := by rw [hx]; exact nI_add i 1
  refine Z_jump 5 rfl ?_
  show Zs _ _ pm_237 (483, [(0, .retAddr 0), (1, .ref 0), (2, .ref 73), (3, .int x)], [.int (x + (1 : Int32)), .retAddr 0, .ref 0]) (HH I J R T) _
  refine Z_ialS (i + 1) rfl (e1) (by omega) (by omega) ?_
  show Zs _ _ pm_237 (484, [(0, .retAddr 0), (1, .ref 0), (2, .ref 73), (3, .int x)], [.int (sc.2 (i + 1)), .ref 0]) (HH I J R T) _
  show Zs _ _ pm_237 (484, [(0, .retAddr 0), (1, .ref 0), (2, .ref 73), (3, .int x)], [.int (sc.2 (i + 1)), .ref 0]) (HH I J R T) _
  refine Z_cQ rfl rfl rfl (p_back (d1 := 896) (d2 := 898) h) (fun v h1 hq => ?_)
  obtain ⟨x1, I1, J1, R1, T1, rfl, rfl, xT, hz⟩ := hq
  show Zs _ _ pm_237 (487, [(0, .retAddr 0), (1, .ref 0), (2, .ref 73), (3, .int x)], [.int x1]) (HH I1 J1 R1 T1) _
  refine Z_jump 6 rfl ?_
  show Zs _ _ pm_237 (493, [(0, .retAddr 0), (1, .ref 0), (2, .ref 73), (3, .int x)], [.int (x + (1 : Int32)), .retAddr 0, .ref 73]) (HH I1 J1 R1 T1) _
  refine Z_ialS (i + 1) rfl (e1) (by omega) (by omega) ?_
  show Zs _ _ pm_237 (494, [(0, .retAddr 0), (1, .ref 0), (2, .ref 73), (3, .int x)], [.int (sc.2 (i + 1)), .ref 73]) (HH I1 J1 R1 T1) _
  show Zs _ _ pm_237 (494, [(0, .retAddr 0), (1, .ref 0), (2, .ref 73), (3, .int x)], [.int (sc.2 (i + 1)), .ref 73]) (HH I1 J1 R1 T1) _
  refine Z_cQ rfl rfl rfl (hz) (fun v h1 hq => ?_)
  obtain ⟨x2, I2, J2, rfl, he, rfl, h2⟩ := hq
  show Zs _ _ pm_237 (497, [(0, .retAddr 0), (1, .ref 0), (2, .ref 73), (3, .int x)], [.int x2]) (HH I2 J2 R1 T1) _
  refine Z_jump 2 rfl ?_
  show Zs _ _ pm_237 (867, [(0, .retAddr 0), (1, .ref 0), (2, .ref 73), (3, .int x)], []) (HH I2 J2 R1 T1) _
  exact K I2 J2 R1 T1 h2 xT
set_option maxRecDepth 100000 in
theorem lw_c15 (hx : x = nI i) (hi : i + 5 ≤ sc.1) (hL : sc.1 ≤ 320) (h : LI I R T) (K : LK sc x T Q) : Zs sc 900 pm_237 (501, [(0, .retAddr 0), (1, .ref 0), (2, .ref 73), (3, .int x)], []) (HH I J R T) Q := by
  have e1 : x + 1 = nI (i + 1) := by rw [hx]; exact nI_add i 1
  refine Z_jump 5 rfl ?_
  show Zs _ _ pm_237 (506, [(0, .retAddr 0), (1, .ref 0), (2, .ref 73), (3, .int x)], [.int (x + (1 : Int32)), .retAddr 0, .ref 0]) (HH I J R T) _
  refine Z_ialS (i + 1) rfl (e1) (by omega) (by omega) ?_
  show Zs _ _ pm_237 (507, [(0, .retAddr 0), (1, .ref 0), (2, .ref 73), (3, .int x)], [.int (sc.2 (i + 1)), .ref 0]) (HH I J R T) _
  show Zs _ _ pm_237 (507, [(0, .retAddr 0), (1, .ref 0), (2, .ref 73), (3, .int x)], [.int (sc.2 (i + 1)), .ref 0]) (HH I J R T) _
  refine Z_cQ rfl rfl rfl (p_ways (d1 := 888) (d2 := 893) h) (fun v h1 hq => ?_)
  obtain ⟨x1, I1, J1, R1, T1, rfl, rfl, xT, hz⟩ := hq
  show Zs _ _ pm_237 (510, [(0, .retAddr 0), (1, .ref 0), (2, .ref 73), (3, .int x)], [.int x1]) (HH I1 J1 R1 T1) _
  refine Z_jump 6 rfl ?_
  show Zs _ _ pm_237 (516, [(0, .retAddr 0), (1, .ref 0), (2, .ref 73), (3, .int x)], [.int (x + (1 : Int32)), .retAddr 0, .ref 73]) (HH I1 J1 R1 T1) _
  refine Z_ialS (i + 1) rfl (e1) (by omega) (by omega) ?_
  show Zs _ _ pm_237 (517, [(0, .retAddr 0), (1, .ref 0), (2, .ref 73), (3, .int x)], [.int (sc.2 (i + 1)), .ref 73]) (HH I1 J1 R1 T1) _
  show Zs _ _ pm_237 (517, [(0, .retAddr 0), (1, .ref 0), (2, .ref 73), (3, .int x)], [.int (sc.2 (i + 1)), .ref 73]) (HH I1 J1 R1 T1) _
  refine Z_cQ rfl rfl rfl (hz) (fun v h1 hq => ?_)
  obtain ⟨x2, I2, J2, rfl, he, rfl, h2⟩ := hq
  show Zs _ _ pm_237 (520, [(0, .retAddr 0), (1, .ref 0), (2, .ref 73), (3, .int x)], [.int x2]) (HH I2 J2 R1 T1) _
  refine Z_jump 2 rfl ?_
  show Zs _ _ pm_237 (867, [(0, .retAddr 0), (1, .ref 0), (2, .ref 73), (3, .int x)], []) (HH I2 J2 R1 T1) _
  exact K I2 J2 R1 T1 h2 xT
set_option maxRecDepth 100000 in
theorem lw_c16 (hx : x = nI i) (hi : i + 5 ≤ sc.1) (hL : sc.1 ≤ 320) (h : LI I R T) (K : LK sc x T Q) : Zs sc 900 pm_237 (524, [(0, .retAddr 0), (1, .ref 0), (2, .ref 73), (3, .int x)], []) (HH I J R T) Q := by
  have e1 : x + 1 = nI (i + 1) := by rw [hx]; exact nI_add i 1
  refine Z_jump 5 rfl ?_
  show Zs _ _ pm_237 (529, [(0, .retAddr 0), (1, .ref 0), (2, .ref 73), (3, .int x)], [.int (x + (1 : Int32)), .retAddr 0, .ref 0]) (HH I J R T) _
  refine Z_ialS (i + 1) rfl (e1) (by omega) (by omega) ?_
  show Zs _ _ pm_237 (530, [(0, .retAddr 0), (1, .ref 0), (2, .ref 73), (3, .int x)], [.int (sc.2 (i + 1)), .ref 0]) (HH I J R T) _
  show Zs _ _ pm_237 (530, [(0, .retAddr 0), (1, .ref 0), (2, .ref 73), (3, .int x)], [.int (sc.2 (i + 1)), .ref 0]) (HH I J R T) _
  refine Z_cQ rfl rfl rfl (p_time (d1 := 887) (d2 := 893) h) (fun v h1 hq => ?_)
  obtain ⟨x1, I1, J1, R1, T1, rfl, rfl, xT, hz⟩ := hq
  show Zs _ _ pm_237 (533, [(0, .retAddr 0), (1, .ref 0), (2, .ref 73), (3, .int x)], [.int x1]) (HH I1 J1 R1 T1) _
  refine Z_jump 6 rfl ?_
  show Zs _ _ pm_237 (539, [(0, .retAddr 0), (1, .ref 0), (2, .ref 73), (3, .int x)], [.int (x + (1 : Int32)), .retAddr 0, .ref 73]) (HH I1 J1 R1 T1) _
  refine Z_ialS (i + 1) rfl (e1) (by omega) (by omega) ?_
  show Zs _ _ pm_237 (540, [(0, .retAddr 0), (1, .ref 0), (2, .ref 73), (3, .int x)], [.int (sc.2 (i + 1)), .ref 73]) (HH I1 J1 R1 T1) _
  show Zs _ _ pm_237 (540, [(0, .retAddr 0), (1, .ref 0), (2, .ref 73), (3, .int x)], [.int (sc.2 (i + 1)), .ref 73]) (HH I1 J1 R1 T1) _
  refine Z_cQ rfl rfl rfl (hz) (fun v h1 hq => ?_)
  obtain ⟨x2, I2, J2, rfl, he, rfl, h2⟩ := hq
  show Zs _ _ pm_237 (543, [(0, .retAddr 0), (1, .ref 0), (2, .ref 73), (3, .int x)], [.int x2]) (HH I2 J2 R1 T1) _
  refine Z_jump 2 rfl ?_
  show Zs _ _ pm_237 (867, [(0, .retAddr 0), (1, .ref 0), (2, .ref 73), (3, .int x)], []) (HH I2 J2 R1 T1) _
  exact K I2 J2 R1 T1 h2 xT
set_option maxRecDepth 100000 in
theorem lw_c17 (hx : x = nI i) (hi : i + 5 ≤ sc.1) (hL : sc.1 ≤ 320) (h : LI I R T) (K : LK sc x T Q) : Zs sc 900 pm_237 (547, [(0, .retAddr 0), (1, .ref 0), (2, .ref 73), (3, .int x)], []) (HH I J R T) Q := by
  have e1 : x + 1 = nI (i + 1) := by rw [hx]; exact nI_add i 1
  have e2 : x + 2 = nI (i + 2) := by rw [hx]; exact nI_add i 2
  have e3 : x + 3 = nI (i + 3) := by rw [hx]; exact nI_add i 3
  refine Z_jump 5 rfl ?_
  show Zs _ _ pm_237 (552, [(0, .retAddr 0), (1, .ref 0), (2, .ref 73), (3, .int x)], [.int (x + (1 : Int32)), .retAddr 0, .ref 0]) (HH I J R T) _
  refine Z_ialS (i + 1) rfl (e1) (by omega) (by omega) ?_
  show Zs _ _ pm_237 (553, [(0, .retAddr 0), (1, .ref 0), (2, .ref 73), (3, .int x)], [.int (sc.2 (i + 1)), .ref 0]) (HH I J R T) _
  refine Z_jump 4 rfl ?_
  show Zs _ _ pm_237 (557, [(0, .retAddr 0), (1, .ref 0), (2, .ref 73), (3, .int x)], [.int (x + (2 : Int32)), .retAddr 0, .int (sc.2 (i + 1)), .ref 0]) (HH I J R T) _
  refine Z_ialS (i + 2) rfl (e2) (by omega) (by omega) ?_
  show Zs _ _ pm_237 (558, [(0, .retAddr 0), (1, .ref 0), (2, .ref 73), (3, .int x)], [.int (sc.2 (i + 2)), .int (sc.2 (i + 1)), .ref 0]) (HH I J R T) _
  refine Z_jump 4 rfl ?_
  show Zs _ _ pm_237 (562, [(0, .retAddr 0), (1, .ref 0), (2, .ref 73), (3, .int x)], [.int (x + (3 : Int32)), .retAddr 0, .int (sc.2 (i + 2)), .int (sc.2 (i + 1)), .ref 0]) (HH I J R T) _
  refine Z_ialS (i + 3) rfl (e3) (by omega) (by omega) ?_
  show Zs _ _ pm_237 (563, [(0, .retAddr 0), (1, .ref 0), (2, .ref 73), (3, .int x)], [.int (sc.2 (i + 3)), .int (sc.2 (i + 2)), .int (sc.2 (i + 1)), .ref 0]) (HH I J R T) _
  show Zs _ _ pm_237 (563, [(0, .retAddr 0), (1, .ref 0), (2, .ref 73), (3, .int x)], [.int (sc.2 (i + 3)), .int (sc.2 (i + 2)), .int (sc.2 (i + 1)), .ref 0]) (HH I J R T) _
  refine Z_cQ rfl rfl rfl (p_pushed (d1 := 886) (d2 := 893) h) (fun v h1 hq => ?_)
  obtain ⟨x1, I1, J1, R1, T1, rfl, rfl, xT, hz⟩ := hq
  show Zs _ _ pm_237 (566, [(0, .retAddr 0), (1, .ref 0), (2, .ref 73), (3, .int x)], [.int x1]) (HH I1 J1 R1 T1) _
  refine Z_jump 6 rfl ?_
  show Zs _ _ pm_237 (572, [(0, .retAddr 0), (1, .ref 0), (2, .ref 73), (3, .int x)], [.int (x + (1 : Int32)), .retAddr 0, .ref 73]) (HH I1 J1 R1 T1) _
  refine Z_ialS (i + 1) rfl (e1) (by omega) (by omega) ?_
  show Zs _ _ pm_237 (573, [(0, .retAddr 0), (1, .ref 0), (2, .ref 73), (3, .int x)], [.int (sc.2 (i + 1)), .ref 73]) (HH I1 J1 R1 T1) _
  refine Z_jump 4 rfl ?_
  show Zs _ _ pm_237 (577, [(0, .retAddr 0), (1, .ref 0), (2, .ref 73), (3, .int x)], [.int (x + (2 : Int32)), .retAddr 0, .int (sc.2 (i + 1)), .ref 73]) (HH I1 J1 R1 T1) _
  refine Z_ialS (i + 2) rfl (e2) (by omega) (by omega) ?_
  show Zs _ _ pm_237 (578, [(0, .retAddr 0), (1, .ref 0), (2, .ref 73), (3, .int x)], [.int (sc.2 (i + 2)), .int (sc.2 (i + 1)), .ref 73]) (HH I1 J1 R1 T1) _
  refine Z_jump 4 rfl ?_
  show Zs _ _ pm_237 (582, [(0, .retAddr 0), (1, .ref 0), (2, .ref 73), (3, .int x)], [.int (x + (3 : Int32)), .retAddr 0, .int (sc.2 (i + 2)), .int (sc.2 (i + 1)), .ref 73]) (HH I1 J1 R1 T1) _
  refine Z_ialS (i + 3) rfl (e3) (by omega) (by omega) ?_
  show Zs _ _ pm_237 (583, [(0, .retAddr 0), (1, .ref 0), (2, .ref 73), (3, .int x)], [.int (sc.2 (i + 3)), .int (sc.2 (i + 2)), .int (sc.2 (i + 1)), .ref 73]) (HH I1 J1 R1 T1) _
  show Zs _ _ pm_237 (583, [(0, .retAddr 0), (1, .ref 0), (2, .ref 73), (3, .int x)], [.int (sc.2 (i + 3)), .int (sc.2 (i + 2)), .int (sc.2 (i + 1)), .ref 73]) (HH I1 J1 R1 T1) _
  refine Z_cQ rfl rfl rfl (hz) (fun v h1 hq => ?_)
  obtain ⟨x2, I2, J2, rfl, he, rfl, h2⟩ := hq
  show Zs _ _ pm_237 (586, [(0, .retAddr 0), (1, .ref 0), (2, .ref 73), (3, .int x)], [.int x2]) (HH I2 J2 R1 T1) _
  refine Z_jump 2 rfl ?_
  show Zs _ _ pm_237 (867, [(0, .retAddr 0), (1, .ref 0), (2, .ref 73), (3, .int x)], []) (HH I2 J2 R1 T1) _
  exact K I2 J2 R1 T1 h2 xT
set_option maxRecDepth 100000 in
theorem lw_c18 (hx : x = nI i) (hi : i + 5 ≤ sc.1) (hL : sc.1 ≤ 320) (h : LI I R T) (K : LK sc x T Q) : Zs sc 900 pm_237 (590, [(0, .retAddr 0), (1, .ref 0), (2, .ref 73), (3, .int x)], []) (HH I J R T) Q := by
  have e1 : x + 1 = nI (i + 1) := by rw [hx]; exact nI_add i 1
  refine Z_jump 5 rfl ?_
  show Zs _ _ pm_237 (595, [(0, .retAddr 0), (1, .ref 0), (2, .ref 73), (3, .int x)], [.int (x + (1 : Int32)), .retAddr 0, .ref 0]) (HH I J R T) _
  refine Z_ialS (i + 1) rfl (e1) (by omega) (by omega) ?_
  show Zs _ _ pm_237 (596, [(0, .retAddr 0), (1, .ref 0), (2, .ref 73), (3, .int x)], [.int (sc.2 (i + 1)), .ref 0]) (HH I J R T) _
  show Zs _ _ pm_237 (596, [(0, .retAddr 0), (1, .ref 0), (2, .ref 73), (3, .int x)], [.int (sc.2 (i + 1)), .ref 0]) (HH I J R T) _
  refine Z_cQ rfl rfl rfl (p_span (d1 := 892) (d2 := 893) h) (fun v h1 hq => ?_)
  obtain ⟨x1, I1, J1, R1, T1, rfl, rfl, xT, hz⟩ := hq
  show Zs _ _ pm_237 (599, [(0, .retAddr 0), (1, .ref 0), (2, .ref 73), (3, .int x)], [.long x1]) (HH I1 J1 R1 T1) _
  refine Z_jump 6 rfl ?_
  show Zs _ _ pm_237 (605, [(0, .retAddr 0), (1, .ref 0), (2, .ref 73), (3, .int x)], [.int (x + (1 : Int32)), .retAddr 0, .ref 73]) (HH I1 J1 R1 T1) _
  refine Z_ialS (i + 1) rfl (e1) (by omega) (by omega) ?_
  show Zs _ _ pm_237 (606, [(0, .retAddr 0), (1, .ref 0), (2, .ref 73), (3, .int x)], [.int (sc.2 (i + 1)), .ref 73]) (HH I1 J1 R1 T1) _
  show Zs _ _ pm_237 (606, [(0, .retAddr 0), (1, .ref 0), (2, .ref 73), (3, .int x)], [.int (sc.2 (i + 1)), .ref 73]) (HH I1 J1 R1 T1) _
  refine Z_cQ rfl rfl rfl (hz) (fun v h1 hq => ?_)
  obtain ⟨x2, I2, J2, rfl, he, rfl, h2⟩ := hq
  show Zs _ _ pm_237 (609, [(0, .retAddr 0), (1, .ref 0), (2, .ref 73), (3, .int x)], [.long x2]) (HH I2 J2 R1 T1) _
  refine Z_jump 2 rfl ?_
  show Zs _ _ pm_237 (867, [(0, .retAddr 0), (1, .ref 0), (2, .ref 73), (3, .int x)], []) (HH I2 J2 R1 T1) _
  exact K I2 J2 R1 T1 h2 xT
set_option maxRecDepth 100000 in
theorem lw_c19 (hx : x = nI i) (hi : i + 5 ≤ sc.1) (hL : sc.1 ≤ 320) (h : LI I R T) (K : LK sc x T Q) : Zs sc 900 pm_237 (613, [(0, .retAddr 0), (1, .ref 0), (2, .ref 73), (3, .int x)], []) (HH I J R T) Q := by
  have e1 : x + 1 = nI (i + 1) := by rw [hx]; exact nI_add i 1
  refine Z_jump 5 rfl ?_
  show Zs _ _ pm_237 (618, [(0, .retAddr 0), (1, .ref 0), (2, .ref 73), (3, .int x)], [.int (x + (1 : Int32)), .retAddr 0, .ref 0]) (HH I J R T) _
  refine Z_ialS (i + 1) rfl (e1) (by omega) (by omega) ?_
  show Zs _ _ pm_237 (619, [(0, .retAddr 0), (1, .ref 0), (2, .ref 73), (3, .int x)], [.int (sc.2 (i + 1)), .ref 0]) (HH I J R T) _
  show Zs _ _ pm_237 (619, [(0, .retAddr 0), (1, .ref 0), (2, .ref 73), (3, .int x)], [.int (sc.2 (i + 1)), .ref 0]) (HH I J R T) _
  refine Z_cQ rfl rfl rfl (p_nearest (d1 := 888) (d2 := 893) h) (fun v h1 hq => ?_)
  obtain ⟨x1, I1, J1, R1, T1, rfl, rfl, xT, hz⟩ := hq
  show Zs _ _ pm_237 (622, [(0, .retAddr 0), (1, .ref 0), (2, .ref 73), (3, .int x)], [.int x1]) (HH I1 J1 R1 T1) _
  refine Z_jump 6 rfl ?_
  show Zs _ _ pm_237 (628, [(0, .retAddr 0), (1, .ref 0), (2, .ref 73), (3, .int x)], [.int (x + (1 : Int32)), .retAddr 0, .ref 73]) (HH I1 J1 R1 T1) _
  refine Z_ialS (i + 1) rfl (e1) (by omega) (by omega) ?_
  show Zs _ _ pm_237 (629, [(0, .retAddr 0), (1, .ref 0), (2, .ref 73), (3, .int x)], [.int (sc.2 (i + 1)), .ref 73]) (HH I1 J1 R1 T1) _
  show Zs _ _ pm_237 (629, [(0, .retAddr 0), (1, .ref 0), (2, .ref 73), (3, .int x)], [.int (sc.2 (i + 1)), .ref 73]) (HH I1 J1 R1 T1) _
  refine Z_cQ rfl rfl rfl (hz) (fun v h1 hq => ?_)
  obtain ⟨x2, I2, J2, rfl, he, rfl, h2⟩ := hq
  show Zs _ _ pm_237 (632, [(0, .retAddr 0), (1, .ref 0), (2, .ref 73), (3, .int x)], [.int x2]) (HH I2 J2 R1 T1) _
  refine Z_jump 2 rfl ?_
  show Zs _ _ pm_237 (867, [(0, .retAddr 0), (1, .ref 0), (2, .ref 73), (3, .int x)], []) (HH I2 J2 R1 T1) _
  exact K I2 J2 R1 T1 h2 xT
set_option maxRecDepth 100000 in
theorem lw_c20 (hx : x = nI i) (hi : i + 5 ≤ sc.1) (hL : sc.1 ≤ 320) (h : LI I R T) (K : LK sc x T Q) : Zs sc 900 pm_237 (636, [(0, .retAddr 0), (1, .ref 0), (2, .ref 73), (3, .int x)], []) (HH I J R T) Q := by
  have e1 : x + 1 = nI (i + 1) := by rw [hx]; exact nI_add i 1
  refine Z_jump 5 rfl ?_
  show Zs _ _ pm_237 (641, [(0, .retAddr 0), (1, .ref 0), (2, .ref 73), (3, .int x)], [.int (x + (1 : Int32)), .retAddr 0, .ref 0]) (HH I J R T) _
  refine Z_ialS (i + 1) rfl (e1) (by omega) (by omega) ?_
  show Zs _ _ pm_237 (642, [(0, .retAddr 0), (1, .ref 0), (2, .ref 73), (3, .int x)], [.int (sc.2 (i + 1)), .ref 0]) (HH I J R T) _
  show Zs _ _ pm_237 (642, [(0, .retAddr 0), (1, .ref 0), (2, .ref 73), (3, .int x)], [.int (sc.2 (i + 1)), .ref 0]) (HH I J R T) _
  refine Z_cQ rfl rfl rfl (p_loosen (d1 := 887) (d2 := 893) h) (fun v h1 hq => ?_)
  obtain ⟨x1, I1, J1, R1, T1, rfl, rfl, xT, hz⟩ := hq
  show Zs _ _ pm_237 (645, [(0, .retAddr 0), (1, .ref 0), (2, .ref 73), (3, .int x)], [.int x1]) (HH I1 J1 R1 T1) _
  refine Z_jump 6 rfl ?_
  show Zs _ _ pm_237 (651, [(0, .retAddr 0), (1, .ref 0), (2, .ref 73), (3, .int x)], [.int (x + (1 : Int32)), .retAddr 0, .ref 73]) (HH I1 J1 R1 T1) _
  refine Z_ialS (i + 1) rfl (e1) (by omega) (by omega) ?_
  show Zs _ _ pm_237 (652, [(0, .retAddr 0), (1, .ref 0), (2, .ref 73), (3, .int x)], [.int (sc.2 (i + 1)), .ref 73]) (HH I1 J1 R1 T1) _
  show Zs _ _ pm_237 (652, [(0, .retAddr 0), (1, .ref 0), (2, .ref 73), (3, .int x)], [.int (sc.2 (i + 1)), .ref 73]) (HH I1 J1 R1 T1) _
  refine Z_cQ rfl rfl rfl (hz) (fun v h1 hq => ?_)
  obtain ⟨x2, I2, J2, rfl, he, rfl, h2⟩ := hq
  show Zs _ _ pm_237 (655, [(0, .retAddr 0), (1, .ref 0), (2, .ref 73), (3, .int x)], [.int x2]) (HH I2 J2 R1 T1) _
  refine Z_jump 2 rfl ?_
  show Zs _ _ pm_237 (867, [(0, .retAddr 0), (1, .ref 0), (2, .ref 73), (3, .int x)], []) (HH I2 J2 R1 T1) _
  exact K I2 J2 R1 T1 h2 xT
set_option maxRecDepth 100000 in
theorem lw_c21 (hx : x = nI i) (hi : i + 5 ≤ sc.1) (hL : sc.1 ≤ 320) (h : LI I R T) (K : LK sc x T Q) : Zs sc 900 pm_237 (659, [(0, .retAddr 0), (1, .ref 0), (2, .ref 73), (3, .int x)], []) (HH I J R T) Q := by
  have e1 : x + 1 = nI (i + 1) := by rw [hx]; exact nI_add i 1
  have e2 : x + 2 = nI (i + 2) := by rw [hx]; exact nI_add i 2
  have e3 : x + 3 = nI (i + 3) := by rw [hx]; exact nI_add i 3
  have e4 : x + 4 = nI (i + 4) := by rw [hx]; exact nI_add i 4
  refine Z_jump 5 rfl ?_
  show Zs _ _ pm_237 (664, [(0, .retAddr 0), (1, .ref 0), (2, .ref 73), (3, .int x)], [.int (x + (1 : Int32)), .retAddr 0, .ref 0]) (HH I J R T) _
  refine Z_ialS (i + 1) rfl (e1) (by omega) (by omega) ?_
  show Zs _ _ pm_237 (665, [(0, .retAddr 0), (1, .ref 0), (2, .ref 73), (3, .int x)], [.int (sc.2 (i + 1)), .ref 0]) (HH I J R T) _
  refine Z_jump 4 rfl ?_
  show Zs _ _ pm_237 (669, [(0, .retAddr 0), (1, .ref 0), (2, .ref 73), (3, .int x)], [.int (x + (2 : Int32)), .retAddr 0, .int (sc.2 (i + 1)), .ref 0]) (HH I J R T) _
  refine Z_ialS (i + 2) rfl (e2) (by omega) (by omega) ?_
  show Zs _ _ pm_237 (670, [(0, .retAddr 0), (1, .ref 0), (2, .ref 73), (3, .int x)], [.int (sc.2 (i + 2)), .int (sc.2 (i + 1)), .ref 0]) (HH I J R T) _
  refine Z_jump 4 rfl ?_
  show Zs _ _ pm_237 (674, [(0, .retAddr 0), (1, .ref 0), (2, .ref 73), (3, .int x)], [.int (x + (3 : Int32)), .retAddr 0, .int (sc.2 (i + 2)), .int (sc.2 (i + 1)), .ref 0]) (HH I J R T) _
  refine Z_ialS (i + 3) rfl (e3) (by omega) (by omega) ?_
  show Zs _ _ pm_237 (675, [(0, .retAddr 0), (1, .ref 0), (2, .ref 73), (3, .int x)], [.int (sc.2 (i + 3)), .int (sc.2 (i + 2)), .int (sc.2 (i + 1)), .ref 0]) (HH I J R T) _
  refine Z_jump 4 rfl ?_
  show Zs _ _ pm_237 (679, [(0, .retAddr 0), (1, .ref 0), (2, .ref 73), (3, .int x)], [.int (x + (4 : Int32)), .retAddr 0, .int (sc.2 (i + 3)), .int (sc.2 (i + 2)), .int (sc.2 (i + 1)), .ref 0]) (HH I J R T) _
  refine Z_ialS (i + 4) rfl (e4) (by omega) (by omega) ?_
  show Zs _ _ pm_237 (680, [(0, .retAddr 0), (1, .ref 0), (2, .ref 73), (3, .int x)], [.int (sc.2 (i + 4)), .int (sc.2 (i + 3)), .int (sc.2 (i + 2)), .int (sc.2 (i + 1)), .ref 0]) (HH I J R T) _
  show Zs _ _ pm_237 (680, [(0, .retAddr 0), (1, .ref 0), (2, .ref 73), (3, .int x)], [.int (sc.2 (i + 4)), .int (sc.2 (i + 3)), .int (sc.2 (i + 2)), .int (sc.2 (i + 1)), .ref 0]) (HH I J R T) _
  refine Z_cQ rfl rfl rfl (p_tour (d1 := 886) (d2 := 892) h) (fun v h1 hq => ?_)
  obtain ⟨x1, I1, J1, R1, T1, rfl, rfl, xT, hz⟩ := hq
  show Zs _ _ pm_237 (683, [(0, .retAddr 0), (1, .ref 0), (2, .ref 73), (3, .int x)], [.int x1]) (HH I1 J1 R1 T1) _
  refine Z_jump 6 rfl ?_
  show Zs _ _ pm_237 (689, [(0, .retAddr 0), (1, .ref 0), (2, .ref 73), (3, .int x)], [.int (x + (1 : Int32)), .retAddr 0, .ref 73]) (HH I1 J1 R1 T1) _
  refine Z_ialS (i + 1) rfl (e1) (by omega) (by omega) ?_
  show Zs _ _ pm_237 (690, [(0, .retAddr 0), (1, .ref 0), (2, .ref 73), (3, .int x)], [.int (sc.2 (i + 1)), .ref 73]) (HH I1 J1 R1 T1) _
  refine Z_jump 4 rfl ?_
  show Zs _ _ pm_237 (694, [(0, .retAddr 0), (1, .ref 0), (2, .ref 73), (3, .int x)], [.int (x + (2 : Int32)), .retAddr 0, .int (sc.2 (i + 1)), .ref 73]) (HH I1 J1 R1 T1) _
  refine Z_ialS (i + 2) rfl (e2) (by omega) (by omega) ?_
  show Zs _ _ pm_237 (695, [(0, .retAddr 0), (1, .ref 0), (2, .ref 73), (3, .int x)], [.int (sc.2 (i + 2)), .int (sc.2 (i + 1)), .ref 73]) (HH I1 J1 R1 T1) _
  refine Z_jump 4 rfl ?_
  show Zs _ _ pm_237 (699, [(0, .retAddr 0), (1, .ref 0), (2, .ref 73), (3, .int x)], [.int (x + (3 : Int32)), .retAddr 0, .int (sc.2 (i + 2)), .int (sc.2 (i + 1)), .ref 73]) (HH I1 J1 R1 T1) _
  refine Z_ialS (i + 3) rfl (e3) (by omega) (by omega) ?_
  show Zs _ _ pm_237 (700, [(0, .retAddr 0), (1, .ref 0), (2, .ref 73), (3, .int x)], [.int (sc.2 (i + 3)), .int (sc.2 (i + 2)), .int (sc.2 (i + 1)), .ref 73]) (HH I1 J1 R1 T1) _
  refine Z_jump 4 rfl ?_
  show Zs _ _ pm_237 (704, [(0, .retAddr 0), (1, .ref 0), (2, .ref 73), (3, .int x)], [.int (x + (4 : Int32)), .retAddr 0, .int (sc.2 (i + 3)), .int (sc.2 (i + 2)), .int (sc.2 (i + 1)), .ref 73]) (HH I1 J1 R1 T1) _
  refine Z_ialS (i + 4) rfl (e4) (by omega) (by omega) ?_
  show Zs _ _ pm_237 (705, [(0, .retAddr 0), (1, .ref 0), (2, .ref 73), (3, .int x)], [.int (sc.2 (i + 4)), .int (sc.2 (i + 3)), .int (sc.2 (i + 2)), .int (sc.2 (i + 1)), .ref 73]) (HH I1 J1 R1 T1) _
  show Zs _ _ pm_237 (705, [(0, .retAddr 0), (1, .ref 0), (2, .ref 73), (3, .int x)], [.int (sc.2 (i + 4)), .int (sc.2 (i + 3)), .int (sc.2 (i + 2)), .int (sc.2 (i + 1)), .ref 73]) (HH I1 J1 R1 T1) _
  refine Z_cQ rfl rfl rfl (hz) (fun v h1 hq => ?_)
  obtain ⟨x2, I2, J2, rfl, he, rfl, h2⟩ := hq
  show Zs _ _ pm_237 (708, [(0, .retAddr 0), (1, .ref 0), (2, .ref 73), (3, .int x)], [.int x2]) (HH I2 J2 R1 T1) _
  refine Z_jump 2 rfl ?_
  show Zs _ _ pm_237 (867, [(0, .retAddr 0), (1, .ref 0), (2, .ref 73), (3, .int x)], []) (HH I2 J2 R1 T1) _
  exact K I2 J2 R1 T1 h2 xT
set_option maxRecDepth 100000 in
theorem lw_c22 (hx : x = nI i) (hi : i + 5 ≤ sc.1) (hL : sc.1 ≤ 320) (h : LI I R T) (K : LK sc x T Q) : Zs sc 900 pm_237 (712, [(0, .retAddr 0), (1, .ref 0), (2, .ref 73), (3, .int x)], []) (HH I J R T) Q := by
  have e1 : x + 1 = nI (i + 1) := by rw [hx]; exact nI_add i 1
  have e2 : x + 2 = nI (i + 2) := by rw [hx]; exact nI_add i 2
  have e3 : x + 3 = nI (i + 3) := by rw [hx]; exact nI_add i 3
  refine Z_jump 5 rfl ?_
  show Zs _ _ pm_237 (717, [(0, .retAddr 0), (1, .ref 0), (2, .ref 73), (3, .int x)], [.int (x + (1 : Int32)), .retAddr 0, .ref 0]) (HH I J R T) _
  refine Z_ialS (i + 1) rfl (e1) (by omega) (by omega) ?_
  show Zs _ _ pm_237 (718, [(0, .retAddr 0), (1, .ref 0), (2, .ref 73), (3, .int x)], [.int (sc.2 (i + 1)), .ref 0]) (HH I J R T) _
  refine Z_jump 4 rfl ?_
  show Zs _ _ pm_237 (722, [(0, .retAddr 0), (1, .ref 0), (2, .ref 73), (3, .int x)], [.int (x + (2 : Int32)), .retAddr 0, .int (sc.2 (i + 1)), .ref 0]) (HH I J R T) _
  refine Z_ialS (i + 2) rfl (e2) (by omega) (by omega) ?_
  show Zs _ _ pm_237 (723, [(0, .retAddr 0), (1, .ref 0), (2, .ref 73), (3, .int x)], [.int (sc.2 (i + 2)), .int (sc.2 (i + 1)), .ref 0]) (HH I J R T) _
  refine Z_jump 4 rfl ?_
  show Zs _ _ pm_237 (727, [(0, .retAddr 0), (1, .ref 0), (2, .ref 73), (3, .int x)], [.int (x + (3 : Int32)), .retAddr 0, .int (sc.2 (i + 2)), .int (sc.2 (i + 1)), .ref 0]) (HH I J R T) _
  refine Z_ialS (i + 3) rfl (e3) (by omega) (by omega) ?_
  show Zs _ _ pm_237 (728, [(0, .retAddr 0), (1, .ref 0), (2, .ref 73), (3, .int x)], [.int (sc.2 (i + 3)), .int (sc.2 (i + 2)), .int (sc.2 (i + 1)), .ref 0]) (HH I J R T) _
  show Zs _ _ pm_237 (728, [(0, .retAddr 0), (1, .ref 0), (2, .ref 73), (3, .int x)], [.int (sc.2 (i + 3)), .int (sc.2 (i + 2)), .int (sc.2 (i + 1)), .ref 0]) (HH I J R T) _
  refine Z_cQ rfl rfl rfl (p_seen (d1 := 898) (d2 := 897) h) (fun v h1 hq => ?_)
  obtain ⟨x1, I1, J1, R1, T1, rfl, rfl, xT, hz⟩ := hq
  show Zs _ _ pm_237 (731, [(0, .retAddr 0), (1, .ref 0), (2, .ref 73), (3, .int x)], [.int x1]) (HH I1 J1 R1 T1) _
  refine Z_jump 6 rfl ?_
  show Zs _ _ pm_237 (737, [(0, .retAddr 0), (1, .ref 0), (2, .ref 73), (3, .int x)], [.int (x + (1 : Int32)), .retAddr 0, .ref 73]) (HH I1 J1 R1 T1) _
  refine Z_ialS (i + 1) rfl (e1) (by omega) (by omega) ?_
  show Zs _ _ pm_237 (738, [(0, .retAddr 0), (1, .ref 0), (2, .ref 73), (3, .int x)], [.int (sc.2 (i + 1)), .ref 73]) (HH I1 J1 R1 T1) _
  refine Z_jump 4 rfl ?_
  show Zs _ _ pm_237 (742, [(0, .retAddr 0), (1, .ref 0), (2, .ref 73), (3, .int x)], [.int (x + (2 : Int32)), .retAddr 0, .int (sc.2 (i + 1)), .ref 73]) (HH I1 J1 R1 T1) _
  refine Z_ialS (i + 2) rfl (e2) (by omega) (by omega) ?_
  show Zs _ _ pm_237 (743, [(0, .retAddr 0), (1, .ref 0), (2, .ref 73), (3, .int x)], [.int (sc.2 (i + 2)), .int (sc.2 (i + 1)), .ref 73]) (HH I1 J1 R1 T1) _
  refine Z_jump 4 rfl ?_
  show Zs _ _ pm_237 (747, [(0, .retAddr 0), (1, .ref 0), (2, .ref 73), (3, .int x)], [.int (x + (3 : Int32)), .retAddr 0, .int (sc.2 (i + 2)), .int (sc.2 (i + 1)), .ref 73]) (HH I1 J1 R1 T1) _
  refine Z_ialS (i + 3) rfl (e3) (by omega) (by omega) ?_
  show Zs _ _ pm_237 (748, [(0, .retAddr 0), (1, .ref 0), (2, .ref 73), (3, .int x)], [.int (sc.2 (i + 3)), .int (sc.2 (i + 2)), .int (sc.2 (i + 1)), .ref 73]) (HH I1 J1 R1 T1) _
  show Zs _ _ pm_237 (748, [(0, .retAddr 0), (1, .ref 0), (2, .ref 73), (3, .int x)], [.int (sc.2 (i + 3)), .int (sc.2 (i + 2)), .int (sc.2 (i + 1)), .ref 73]) (HH I1 J1 R1 T1) _
  refine Z_cQ rfl rfl rfl (hz) (fun v h1 hq => ?_)
  obtain ⟨x2, I2, J2, rfl, he, rfl, h2⟩ := hq
  show Zs _ _ pm_237 (751, [(0, .retAddr 0), (1, .ref 0), (2, .ref 73), (3, .int x)], [.int x2]) (HH I2 J2 R1 T1) _
  refine Z_jump 2 rfl ?_
  show Zs _ _ pm_237 (867, [(0, .retAddr 0), (1, .ref 0), (2, .ref 73), (3, .int x)], []) (HH I2 J2 R1 T1) _
  exact K I2 J2 R1 T1 h2 xT
set_option maxRecDepth 100000 in
theorem lw_c23 (hx : x = nI i) (hi : i + 5 ≤ sc.1) (hL : sc.1 ≤ 320) (h : LI I R T) (K : LK sc x T Q) : Zs sc 900 pm_237 (755, [(0, .retAddr 0), (1, .ref 0), (2, .ref 73), (3, .int x)], []) (HH I J R T) Q := by
  refine Z_jump 1 rfl ?_
  show Zs _ _ pm_237 (756, [(0, .retAddr 0), (1, .ref 0), (2, .ref 73), (3, .int x)], [.ref 0]) (HH I J R T) _
  refine Z_cQ rfl rfl rfl (p_forget (d1 := 899) (d2 := 899) h) (fun v h1 hq => ?_)
  obtain ⟨x1, I1, J1, R1, T1, rfl, rfl, xT, hz⟩ := hq
  show Zs _ _ pm_237 (759, [(0, .retAddr 0), (1, .ref 0), (2, .ref 73), (3, .int x)], [.int x1]) (HH I1 J1 R1 T1) _
  refine Z_jump 2 rfl ?_
  show Zs _ _ pm_237 (761, [(0, .retAddr 0), (1, .ref 0), (2, .ref 73), (3, .int x)], [.ref 73]) (HH I1 J1 R1 T1) _
  refine Z_cQ rfl rfl rfl (hz) (fun v h1 hq => ?_)
  obtain ⟨x2, I2, J2, rfl, he, rfl, h2⟩ := hq
  show Zs _ _ pm_237 (764, [(0, .retAddr 0), (1, .ref 0), (2, .ref 73), (3, .int x)], [.int x2]) (HH I2 J2 R1 T1) _
  refine Z_jump 2 rfl ?_
  show Zs _ _ pm_237 (867, [(0, .retAddr 0), (1, .ref 0), (2, .ref 73), (3, .int x)], []) (HH I2 J2 R1 T1) _
  exact K I2 J2 R1 T1 h2 xT
set_option maxRecDepth 100000 in
theorem lw_c24 (hx : x = nI i) (hi : i + 5 ≤ sc.1) (hL : sc.1 ≤ 320) (h : LI I R T) (K : LK sc x T Q) : Zs sc 900 pm_237 (768, [(0, .retAddr 0), (1, .ref 0), (2, .ref 73), (3, .int x)], []) (HH I J R T) Q := by
  have e1 : x + 1 = nI (i + 1) := by rw [hx]; exact nI_add i 1
  refine Z_jump 5 rfl ?_
  show Zs _ _ pm_237 (773, [(0, .retAddr 0), (1, .ref 0), (2, .ref 73), (3, .int x)], [.int (x + (1 : Int32)), .retAddr 0, .ref 0]) (HH I J R T) _
  refine Z_ialS (i + 1) rfl (e1) (by omega) (by omega) ?_
  show Zs _ _ pm_237 (774, [(0, .retAddr 0), (1, .ref 0), (2, .ref 73), (3, .int x)], [.int (sc.2 (i + 1)), .ref 0]) (HH I J R T) _
  show Zs _ _ pm_237 (774, [(0, .retAddr 0), (1, .ref 0), (2, .ref 73), (3, .int x)], [.int (sc.2 (i + 1)), .ref 0]) (HH I J R T) _
  refine Z_cQ rfl rfl rfl (p_kinds (d1 := 895) (d2 := 896) h) (fun v h1 hq => ?_)
  obtain ⟨x1, I1, J1, R1, T1, rfl, rfl, xT, hz⟩ := hq
  show Zs _ _ pm_237 (777, [(0, .retAddr 0), (1, .ref 0), (2, .ref 73), (3, .int x)], [.int x1]) (HH I1 J1 R1 T1) _
  refine Z_jump 5 rfl ?_
  show Zs _ _ pm_237 (782, [(0, .retAddr 0), (1, .ref 0), (2, .ref 73), (3, .int x)], [.int (x + (1 : Int32)), .retAddr 0, .ref 73, .int x1]) (HH I1 J1 R1 T1) _
  refine Z_ialS (i + 1) rfl (e1) (by omega) (by omega) ?_
  show Zs _ _ pm_237 (783, [(0, .retAddr 0), (1, .ref 0), (2, .ref 73), (3, .int x)], [.int (sc.2 (i + 1)), .ref 73, .int x1]) (HH I1 J1 R1 T1) _
  show Zs _ _ pm_237 (783, [(0, .retAddr 0), (1, .ref 0), (2, .ref 73), (3, .int x)], [.int (sc.2 (i + 1)), .ref 73, .int x1]) (HH I1 J1 R1 T1) _
  refine Z_cQ rfl rfl rfl (hz) (fun v h1 hq => ?_)
  obtain ⟨x2, I2, J2, rfl, he, rfl, h2⟩ := hq
  show Zs _ _ pm_237 (786, [(0, .retAddr 0), (1, .ref 0), (2, .ref 73), (3, .int x)], [.int x2, .int x1]) (HH I2 J2 R1 T1) _
  refine Z_jump 1 rfl ?_
  refine Z_bd (fun c786 => ?_) (fun c786 => absurd ((he trivial)) c786)
  show Zs _ _ pm_237 (867, [(0, .retAddr 0), (1, .ref 0), (2, .ref 73), (3, .int x)], []) (HH I2 J2 R1 T1) _
  exact K I2 J2 R1 T1 h2 xT
set_option maxRecDepth 100000 in
theorem lw_c25 (hx : x = nI i) (hi : i + 5 ≤ sc.1) (hL : sc.1 ≤ 320) (h : LI I R T) (K : LK sc x T Q) : Zs sc 900 pm_237 (791, [(0, .retAddr 0), (1, .ref 0), (2, .ref 73), (3, .int x)], []) (HH I J R T) Q := by
  have e1 : x + 1 = nI (i + 1) := by rw [hx]; exact nI_add i 1
  have e2 : x + 2 = nI (i + 2) := by rw [hx]; exact nI_add i 2
  have e3 : x + 3 = nI (i + 3) := by rw [hx]; exact nI_add i 3
  have e4 : x + 4 = nI (i + 4) := by rw [hx]; exact nI_add i 4
  refine Z_jump 5 rfl ?_
  show Zs _ _ pm_237 (796, [(0, .retAddr 0), (1, .ref 0), (2, .ref 73), (3, .int x)], [.int (x + (1 : Int32)), .retAddr 0, .ref 0]) (HH I J R T) _
  refine Z_ialS (i + 1) rfl (e1) (by omega) (by omega) ?_
  show Zs _ _ pm_237 (797, [(0, .retAddr 0), (1, .ref 0), (2, .ref 73), (3, .int x)], [.int (sc.2 (i + 1)), .ref 0]) (HH I J R T) _
  refine Z_jump 4 rfl ?_
  show Zs _ _ pm_237 (801, [(0, .retAddr 0), (1, .ref 0), (2, .ref 73), (3, .int x)], [.int (x + (2 : Int32)), .retAddr 0, .int (sc.2 (i + 1)), .ref 0]) (HH I J R T) _
  refine Z_ialS (i + 2) rfl (e2) (by omega) (by omega) ?_
  show Zs _ _ pm_237 (802, [(0, .retAddr 0), (1, .ref 0), (2, .ref 73), (3, .int x)], [.int (sc.2 (i + 2)), .int (sc.2 (i + 1)), .ref 0]) (HH I J R T) _
  refine Z_jump 4 rfl ?_
  show Zs _ _ pm_237 (806, [(0, .retAddr 0), (1, .ref 0), (2, .ref 73), (3, .int x)], [.int (x + (3 : Int32)), .retAddr 0, .int (sc.2 (i + 2)), .int (sc.2 (i + 1)), .ref 0]) (HH I J R T) _
  refine Z_ialS (i + 3) rfl (e3) (by omega) (by omega) ?_
  show Zs _ _ pm_237 (807, [(0, .retAddr 0), (1, .ref 0), (2, .ref 73), (3, .int x)], [.int (sc.2 (i + 3)), .int (sc.2 (i + 2)), .int (sc.2 (i + 1)), .ref 0]) (HH I J R T) _
  refine Z_jump 4 rfl ?_
  show Zs _ _ pm_237 (811, [(0, .retAddr 0), (1, .ref 0), (2, .ref 73), (3, .int x)], [.int (x + (4 : Int32)), .retAddr 0, .int (sc.2 (i + 3)), .int (sc.2 (i + 2)), .int (sc.2 (i + 1)), .ref 0]) (HH I J R T) _
  refine Z_ialS (i + 4) rfl (e4) (by omega) (by omega) ?_
  show Zs _ _ pm_237 (812, [(0, .retAddr 0), (1, .ref 0), (2, .ref 73), (3, .int x)], [.int (sc.2 (i + 4)), .int (sc.2 (i + 3)), .int (sc.2 (i + 2)), .int (sc.2 (i + 1)), .ref 0]) (HH I J R T) _
  show Zs _ _ pm_237 (812, [(0, .retAddr 0), (1, .ref 0), (2, .ref 73), (3, .int x)], [.int (sc.2 (i + 4)), .int (sc.2 (i + 3)), .int (sc.2 (i + 2)), .int (sc.2 (i + 1)), .ref 0]) (HH I J R T) _
  refine Z_cQ rfl rfl rfl (p_slips (d1 := 896) (d2 := 896) h) (fun v h1 hq => ?_)
  obtain ⟨x1, I1, J1, R1, T1, rfl, rfl, xT, hz⟩ := hq
  show Zs _ _ pm_237 (815, [(0, .retAddr 0), (1, .ref 0), (2, .ref 73), (3, .int x)], [.long x1]) (HH I1 J1 R1 T1) _
  refine Z_jump 6 rfl ?_
  show Zs _ _ pm_237 (821, [(0, .retAddr 0), (1, .ref 0), (2, .ref 73), (3, .int x)], [.int (x + (1 : Int32)), .retAddr 0, .ref 73]) (HH I1 J1 R1 T1) _
  refine Z_ialS (i + 1) rfl (e1) (by omega) (by omega) ?_
  show Zs _ _ pm_237 (822, [(0, .retAddr 0), (1, .ref 0), (2, .ref 73), (3, .int x)], [.int (sc.2 (i + 1)), .ref 73]) (HH I1 J1 R1 T1) _
  refine Z_jump 4 rfl ?_
  show Zs _ _ pm_237 (826, [(0, .retAddr 0), (1, .ref 0), (2, .ref 73), (3, .int x)], [.int (x + (2 : Int32)), .retAddr 0, .int (sc.2 (i + 1)), .ref 73]) (HH I1 J1 R1 T1) _
  refine Z_ialS (i + 2) rfl (e2) (by omega) (by omega) ?_
  show Zs _ _ pm_237 (827, [(0, .retAddr 0), (1, .ref 0), (2, .ref 73), (3, .int x)], [.int (sc.2 (i + 2)), .int (sc.2 (i + 1)), .ref 73]) (HH I1 J1 R1 T1) _
  refine Z_jump 4 rfl ?_
  show Zs _ _ pm_237 (831, [(0, .retAddr 0), (1, .ref 0), (2, .ref 73), (3, .int x)], [.int (x + (3 : Int32)), .retAddr 0, .int (sc.2 (i + 2)), .int (sc.2 (i + 1)), .ref 73]) (HH I1 J1 R1 T1) _
  refine Z_ialS (i + 3) rfl (e3) (by omega) (by omega) ?_
  show Zs _ _ pm_237 (832, [(0, .retAddr 0), (1, .ref 0), (2, .ref 73), (3, .int x)], [.int (sc.2 (i + 3)), .int (sc.2 (i + 2)), .int (sc.2 (i + 1)), .ref 73]) (HH I1 J1 R1 T1) _
  refine Z_jump 4 rfl ?_
  show Zs _ _ pm_237 (836, [(0, .retAddr 0), (1, .ref 0), (2, .ref 73), (3, .int x)], [.int (x + (4 : Int32)), .retAddr 0, .int (sc.2 (i + 3)), .int (sc.2 (i + 2)), .int (sc.2 (i + 1)), .ref 73]) (HH I1 J1 R1 T1) _
  refine Z_ialS (i + 4) rfl (e4) (by omega) (by omega) ?_
  show Zs _ _ pm_237 (837, [(0, .retAddr 0), (1, .ref 0), (2, .ref 73), (3, .int x)], [.int (sc.2 (i + 4)), .int (sc.2 (i + 3)), .int (sc.2 (i + 2)), .int (sc.2 (i + 1)), .ref 73]) (HH I1 J1 R1 T1) _
  show Zs _ _ pm_237 (837, [(0, .retAddr 0), (1, .ref 0), (2, .ref 73), (3, .int x)], [.int (sc.2 (i + 4)), .int (sc.2 (i + 3)), .int (sc.2 (i + 2)), .int (sc.2 (i + 1)), .ref 73]) (HH I1 J1 R1 T1) _
  refine Z_cQ rfl rfl rfl (hz) (fun v h1 hq => ?_)
  obtain ⟨x2, I2, J2, rfl, he, rfl, h2⟩ := hq
  show Zs _ _ pm_237 (840, [(0, .retAddr 0), (1, .ref 0), (2, .ref 73), (3, .int x)], [.long x2]) (HH I2 J2 R1 T1) _
  refine Z_jump 2 rfl ?_
  show Zs _ _ pm_237 (867, [(0, .retAddr 0), (1, .ref 0), (2, .ref 73), (3, .int x)], []) (HH I2 J2 R1 T1) _
  exact K I2 J2 R1 T1 h2 xT
set_option maxRecDepth 100000 in
theorem lw_c26 (hx : x = nI i) (hi : i + 5 ≤ sc.1) (hL : sc.1 ≤ 320) (h : LI I R T) (K : LK sc x T Q) : Zs sc 900 pm_237 (844, [(0, .retAddr 0), (1, .ref 0), (2, .ref 73), (3, .int x)], []) (HH I J R T) Q := by
  have e1 : x + 1 = nI (i + 1) := by rw [hx]; exact nI_add i 1
  refine Z_jump 5 rfl ?_
  show Zs _ _ pm_237 (849, [(0, .retAddr 0), (1, .ref 0), (2, .ref 73), (3, .int x)], [.int (x + (1 : Int32)), .retAddr 0, .ref 0]) (HH I J R T) _
  refine Z_ialS (i + 1) rfl (e1) (by omega) (by omega) ?_
  show Zs _ _ pm_237 (850, [(0, .retAddr 0), (1, .ref 0), (2, .ref 73), (3, .int x)], [.int (sc.2 (i + 1)), .ref 0]) (HH I J R T) _
  show Zs _ _ pm_237 (850, [(0, .retAddr 0), (1, .ref 0), (2, .ref 73), (3, .int x)], [.int (sc.2 (i + 1)), .ref 0]) (HH I J R T) _
  refine Z_cQ rfl rfl rfl (p_count (d1 := 895) (d2 := 896) h) (fun v h1 hq => ?_)
  obtain ⟨x1, I1, J1, R1, T1, rfl, rfl, xT, hz⟩ := hq
  show Zs _ _ pm_237 (853, [(0, .retAddr 0), (1, .ref 0), (2, .ref 73), (3, .int x)], [.int x1]) (HH I1 J1 R1 T1) _
  refine Z_jump 6 rfl ?_
  show Zs _ _ pm_237 (859, [(0, .retAddr 0), (1, .ref 0), (2, .ref 73), (3, .int x)], [.int (x + (1 : Int32)), .retAddr 0, .ref 73]) (HH I1 J1 R1 T1) _
  refine Z_ialS (i + 1) rfl (e1) (by omega) (by omega) ?_
  show Zs _ _ pm_237 (860, [(0, .retAddr 0), (1, .ref 0), (2, .ref 73), (3, .int x)], [.int (sc.2 (i + 1)), .ref 73]) (HH I1 J1 R1 T1) _
  show Zs _ _ pm_237 (860, [(0, .retAddr 0), (1, .ref 0), (2, .ref 73), (3, .int x)], [.int (sc.2 (i + 1)), .ref 73]) (HH I1 J1 R1 T1) _
  refine Z_cQ rfl rfl rfl (hz) (fun v h1 hq => ?_)
  obtain ⟨x2, I2, J2, rfl, he, rfl, h2⟩ := hq
  show Zs _ _ pm_237 (863, [(0, .retAddr 0), (1, .ref 0), (2, .ref 73), (3, .int x)], [.int x2]) (HH I2 J2 R1 T1) _
  refine Z_jump 2 rfl ?_
  show Zs _ _ pm_237 (867, [(0, .retAddr 0), (1, .ref 0), (2, .ref 73), (3, .int x)], []) (HH I2 J2 R1 T1) _
  exact K I2 J2 R1 T1 h2 xT
set_option maxRecDepth 100000 in
theorem lw_sw (w : Nat) (hw : w < 32) (hx : x = nI i) (hi : i + 5 ≤ sc.1) (hL : sc.1 ≤ 320) (h : LI I R T) (K : LK sc x T Q) : Zs sc 900 pm_237 (32, [(0, .retAddr 0), (1, .ref 0), (2, .ref 73), (3, .int x)], [.int (nI w)]) (HH I J R T) Q := by
  rcases (show w = 0 ∨ w = 1 ∨ w = 2 ∨ w = 3 ∨ w = 4 ∨ w = 5 ∨ w = 6 ∨ w = 7 ∨ w = 8 ∨ w = 9 ∨ w = 10 ∨ w = 11 ∨ w = 12 ∨ w = 13 ∨ w = 14 ∨ w = 15 ∨ w = 16 ∨ w = 17 ∨ w = 18 ∨ w = 19 ∨ w = 20 ∨ w = 21 ∨ w = 22 ∨ w = 23 ∨ w = 24 ∨ w = 25 ∨ w = 26 ∨ w = 27 ∨ w = 28 ∨ w = 29 ∨ w = 30 ∨ w = 31 by omega) with rfl | rfl | rfl | rfl | rfl | rfl | rfl | rfl | rfl | rfl | rfl | rfl | rfl | rfl | rfl | rfl | rfl | rfl | rfl | rfl | rfl | rfl | rfl | rfl | rfl | rfl | rfl | rfl | rfl | rfl | rfl | rfl
  · refine Z_jump 1 rfl ?_
    exact lw_c0 hx hi hL h K
  · refine Z_jump 1 rfl ?_
    exact lw_c1 hx hi hL h K
  · refine Z_jump 1 rfl ?_
    exact lw_c2 hx hi hL h K
  · refine Z_jump 1 rfl ?_
    exact lw_c3 hx hi hL h K
  · refine Z_jump 1 rfl ?_
    exact lw_c4 hx hi hL h K
  · refine Z_jump 1 rfl ?_
    exact lw_c5 hx hi hL h K
  · refine Z_jump 1 rfl ?_
    exact lw_c6 hx hi hL h K
  · refine Z_jump 1 rfl ?_
    exact lw_c7 hx hi hL h K
  · refine Z_jump 1 rfl ?_
    exact lw_c8 hx hi hL h K
  · refine Z_jump 1 rfl ?_
    exact lw_c9 hx hi hL h K
  · refine Z_jump 1 rfl ?_
    exact lw_c10 hx hi hL h K
  · refine Z_jump 1 rfl ?_
    exact lw_c11 hx hi hL h K
  · refine Z_jump 1 rfl ?_
    exact lw_c12 hx hi hL h K
  · refine Z_jump 1 rfl ?_
    exact lw_c13 hx hi hL h K
  · refine Z_jump 1 rfl ?_
    exact lw_c14 hx hi hL h K
  · refine Z_jump 1 rfl ?_
    exact lw_c15 hx hi hL h K
  · refine Z_jump 1 rfl ?_
    exact lw_c16 hx hi hL h K
  · refine Z_jump 1 rfl ?_
    exact lw_c17 hx hi hL h K
  · refine Z_jump 1 rfl ?_
    exact lw_c18 hx hi hL h K
  · refine Z_jump 1 rfl ?_
    exact lw_c19 hx hi hL h K
  · refine Z_jump 1 rfl ?_
    exact lw_c20 hx hi hL h K
  · refine Z_jump 1 rfl ?_
    exact lw_c21 hx hi hL h K
  · refine Z_jump 1 rfl ?_
    exact lw_c22 hx hi hL h K
  · refine Z_jump 1 rfl ?_
    exact lw_c23 hx hi hL h K
  · refine Z_jump 1 rfl ?_
    exact lw_c24 hx hi hL h K
  · refine Z_jump 1 rfl ?_
    exact lw_c25 hx hi hL h K
  · refine Z_jump 1 rfl ?_
    exact lw_c26 hx hi hL h K
  · refine Z_jump 1 rfl ?_
    exact K I J R T h (TX_w (TX_0 T) (by omega))
  · refine Z_jump 1 rfl ?_
    exact K I J R T h (TX_w (TX_0 T) (by omega))
  · refine Z_jump 1 rfl ?_
    exact K I J R T h (TX_w (TX_0 T) (by omega))
  · refine Z_jump 1 rfl ?_
    exact K I J R T h (TX_w (TX_0 T) (by omega))
  · refine Z_jump 1 rfl ?_
    exact K I J R T h (TX_w (TX_0 T) (by omega))
def P3e (r : Option Value) (h : am_H) : Prop := r = some (.int 1) ∧ ∃ I J R T, h = HH I J R T ∧ T.length ≤ 1100 ∧ am_sl T ≤ 3300
theorem len5 {L : Nat} (h : L ≤ 320) : (Int32.ofNat L - 5).toInt = (L : Int) - 5 := by
  have e : (Int32.ofNat L).toInt = L := nI_toInt (by omega)
  have z5 : (5 : Int32).toInt = 5 := rfl
  rw [ti_sub] <;> omega
set_option maxRecDepth 100000 in
theorem lw_loop (hL : sc.1 ≤ 320) : ∀ (n i b : Nat) (x : Int32) (I : hI) (J : hJ) (R : hR) (T : am_H), x = nI i → i ≤ 320 → sc.1 < i + 5 * n + 5 → LI I R T → T.length ≤ b → am_sl T ≤ 3 * b → b + 16 * n ≤ 1100 → Zs sc 900 pm_237 (18, [(0, .retAddr 0), (1, .ref 0), (2, .ref 73), (3, .int x)], []) (HH I J R T) P3e
  | 0, i, b, x, I, J, R, T, hx, hi3, hn, h, hb1, hb2, hb => by
    have h5 := len5 hL
    refine Z_jump 3 rfl ?_
    show Zs _ _ pm_237 (21, [(0, .retAddr 0), (1, .ref 0), (2, .ref 73), (3, .int x)], [.int (Int32.ofNat sc.1), .int x]) (HH I J R T) _
    refine Z_jump 3 rfl ?_
    refine Z_bd (fun c23 => ?_) (fun c23 => absurd ((show Int32.ofNat sc.1 - 5 < x by rw [fi_lt, h5, hx, nI_toInt (by omega)]; omega)) c23)
    refine Z_jump 1 rfl ?_
    show Zs _ _ pm_237 (874, [(0, .retAddr 0), (1, .ref 0), (2, .ref 73), (3, .int x)], [.int (1 : Int32)]) (HH I J R T) _
    refine Z_rI rfl (by first | exact am_nw0 _ | exact am_nw01 | rfl | assumption) ?_
    exact ⟨rfl, I, J, R, T, rfl, by omega, by omega⟩
  | n + 1, i, b, x, I, J, R, T, hx, hi3, hn, h, hb1, hb2, hb => by
    have h5 := len5 hL
    by_cases hi : i + 5 ≤ sc.1
    · obtain ⟨w, hw, e⟩ := and31 (sc.2 i)
      have K : LK sc x T P3e := fun I' J' R' T' h' xT => by
        have e5 : x + 5 = nI (i + 5) := by rw [hx]; exact nI_add i 5
        obtain ⟨l, rfl, hl1, hl2⟩ := xT
        have hs : am_sl (T ++ l) ≤ 3 * (b + 16) := by
          unfold am_sl at *
          rw [List.map_append, List.sum_append]
          omega
        have hl : (T ++ l).length ≤ b + 16 := by rw [List.length_append]; omega
        generalize T ++ l = T2 at hs hl h' ⊢
        refine Z_jump 2 rfl ?_
        show Zs _ _ pm_237 (18, [(0, .retAddr 0), (1, .ref 0), (2, .ref 73), (3, .int (x + 5))], []) (HH I' J' R' T2) _
        exact lw_loop hL n (i + 5) (b + 16) _ I' J' R' T2 e5 (by omega) (by omega) h' hl hs (by omega)
      refine Z_jump 3 rfl ?_
      show Zs _ _ pm_237 (21, [(0, .retAddr 0), (1, .ref 0), (2, .ref 73), (3, .int x)], [.int (Int32.ofNat sc.1), .int x]) (HH I J R T) _
      refine Z_jump 3 rfl ?_
      refine Z_bd (fun c23 => absurd c23 ((show ¬ Int32.ofNat sc.1 - 5 < x by rw [fi_lt, h5, hx, nI_toInt (by omega)]; omega))) (fun c23 => ?_)
      refine Z_jump 2 rfl ?_
      show Zs _ _ pm_237 (28, [(0, .retAddr 0), (1, .ref 0), (2, .ref 73), (3, .int x)], [.int x, .retAddr 0]) (HH I J R T) _
      refine Z_ialS (i) rfl (hx) (by omega) (by omega) ?_
      show Zs _ _ pm_237 (29, [(0, .retAddr 0), (1, .ref 0), (2, .ref 73), (3, .int x)], [.int (sc.2 (i))]) (HH I J R T) _
      refine Z_jump 2 rfl ?_
      show Zs _ _ pm_237 (32, [(0, .retAddr 0), (1, .ref 0), (2, .ref 73), (3, .int x)], [.int ((sc.2 (i)) &&& (31 : Int32))]) (HH I J R T) _
      -- switch
      refine Z_eqI e ?_
      exact lw_sw w hw hx hi hL h K
    · refine Z_jump 3 rfl ?_
      show Zs _ _ pm_237 (21, [(0, .retAddr 0), (1, .ref 0), (2, .ref 73), (3, .int x)], [.int (Int32.ofNat sc.1), .int x]) (HH I J R T) _
      refine Z_jump 3 rfl ?_
      refine Z_bd (fun c23 => ?_) (fun c23 => absurd ((show Int32.ofNat sc.1 - 5 < x by rw [fi_lt, h5, hx, nI_toInt (by omega)]; omega)) c23)
      refine Z_jump 1 rfl ?_
      show Zs _ _ pm_237 (874, [(0, .retAddr 0), (1, .ref 0), (2, .ref 73), (3, .int x)], [.int (1 : Int32)]) (HH I J R T) _
      refine Z_rI rfl (by first | exact am_nw0 _ | exact am_nw01 | rfl | assumption) ?_
      exact ⟨rfl, I, J, R, T, rfl, by omega, by omega⟩
end LAW


