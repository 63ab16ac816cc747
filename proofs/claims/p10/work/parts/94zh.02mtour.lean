section MLA
variable {sc : Nat × (Nat → Int32)} {d : Nat} {R : hR} {T : am_H} {Q : Option Value → am_H → Prop}
theorem io_10 {h : am_H} : am_E sc (d + 7) 219 [.int (1 : Int32), .int (0 : Int32)] h (some (.int (0 : Int32))) h := E_run 40 rfl
theorem io_11 {h : am_H} : am_E sc (d + 7) 219 [.int (1 : Int32), .int (1 : Int32)] h (some (.int (2 : Int32))) h := E_run 40 rfl
theorem io_12 {h : am_H} : am_E sc (d + 7) 219 [.int (1 : Int32), .int (2 : Int32)] h (some (.int (1 : Int32))) h := E_run 40 rfl
theorem io_20 {h : am_H} : am_E sc (d + 7) 219 [.int (2 : Int32), .int (0 : Int32)] h (some (.int (1 : Int32))) h := E_run 40 rfl
theorem io_21 {h : am_H} : am_E sc (d + 7) 219 [.int (2 : Int32), .int (1 : Int32)] h (some (.int (0 : Int32))) h := E_run 40 rfl
theorem io_22 {h : am_H} : am_E sc (d + 7) 219 [.int (2 : Int32), .int (2 : Int32)] h (some (.int (2 : Int32))) h := E_run 40 rfl
theorem io_30 {h : am_H} : am_E sc (d + 7) 219 [.int (3 : Int32), .int (0 : Int32)] h (some (.int (1 : Int32))) h := E_run 40 rfl
theorem io_31 {h : am_H} : am_E sc (d + 7) 219 [.int (3 : Int32), .int (1 : Int32)] h (some (.int (2 : Int32))) h := E_run 40 rfl
theorem io_32 {h : am_H} : am_E sc (d + 7) 219 [.int (3 : Int32), .int (2 : Int32)] h (some (.int (0 : Int32))) h := E_run 40 rfl
theorem io_40 {h : am_H} : am_E sc (d + 7) 219 [.int (4 : Int32), .int (0 : Int32)] h (some (.int (2 : Int32))) h := E_run 40 rfl
theorem io_41 {h : am_H} : am_E sc (d + 7) 219 [.int (4 : Int32), .int (1 : Int32)] h (some (.int (0 : Int32))) h := E_run 40 rfl
theorem io_42 {h : am_H} : am_E sc (d + 7) 219 [.int (4 : Int32), .int (2 : Int32)] h (some (.int (1 : Int32))) h := E_run 40 rfl
theorem io_50 {h : am_H} : am_E sc (d + 7) 219 [.int (5 : Int32), .int (0 : Int32)] h (some (.int (2 : Int32))) h := E_run 40 rfl
theorem io_51 {h : am_H} : am_E sc (d + 7) 219 [.int (5 : Int32), .int (1 : Int32)] h (some (.int (1 : Int32))) h := E_run 40 rfl
theorem io_52 {h : am_H} : am_E sc (d + 7) 219 [.int (5 : Int32), .int (2 : Int32)] h (some (.int (0 : Int32))) h := E_run 40 rfl
end MLA
