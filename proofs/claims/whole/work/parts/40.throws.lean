/-! ===== throwing: the words of each exception's making ===== -/
def jp_xc : Nat → String
  | 0 => "java/lang/IllegalArgumentException"
  | 1 => "java/lang/IllegalStateException"
  | 2 => "java/lang/ArrayIndexOutOfBoundsException"
  | _ => "java/lang/ArithmeticException"
def jp_xic : Nat → Nat
  | 0 => 72
  | 1 => 107
  | 2 => 91
  | _ => 175
def jp_xik : Nat → Nat
  | 0 => 68
  | 1 => 103
  | 2 => 87
  | _ => 171
def jp_xn : Nat → List String
  | 2 => ["java/lang/IndexOutOfBoundsException", "java/lang/RuntimeException", "java/lang/Exception"]
  | _ => ["java/lang/RuntimeException", "java/lang/Exception"]
theorem jp_xg0 : ((vx_atS RX7 (jp_xic 0) (jp_xc 0) (jp_xn 0)).filter goodWord).all (fun w => decide (w ∈ lw_tbl)) = true := by decide +kernel
theorem jp_xg1 : ((vx_atS RX7 (jp_xic 1) (jp_xc 1) (jp_xn 1)).filter goodWord).all (fun w => decide (w ∈ lw_tbl)) = true := by decide +kernel
theorem jp_xg2 : ((vx_atS RX7 (jp_xic 2) (jp_xc 2) (jp_xn 2)).filter goodWord).all (fun w => decide (w ∈ lw_tbl)) = true := by decide +kernel
theorem jp_xg3 : ((vx_atS RX7 (jp_xic 3) (jp_xc 3) (jp_xn 3)).filter goodWord).all (fun w => decide (w ∈ lw_tbl)) = true := by decide +kernel
theorem jp_xb0 : ((vx_atS RX7 (jp_xic 0) (jp_xc 0) (jp_xn 0)).filter (fun w => !goodWord w)).all (fun w => decide (w ∈ lw_tbl) && jp_isC w) = true := by decide +kernel
theorem jp_xb1 : ((vx_atS RX7 (jp_xic 1) (jp_xc 1) (jp_xn 1)).filter (fun w => !goodWord w)).all (fun w => decide (w ∈ lw_tbl) && jp_isC w) = true := by decide +kernel
theorem jp_xb2 : ((vx_atS RX7 (jp_xic 2) (jp_xc 2) (jp_xn 2)).filter (fun w => !goodWord w)).all (fun w => decide (w ∈ lw_tbl) && jp_isC w) = true := by decide +kernel
theorem jp_xb3 : ((vx_atS RX7 (jp_xic 3) (jp_xc 3) (jp_xn 3)).filter (fun w => !goodWord w)).all (fun w => decide (w ∈ lw_tbl) && jp_isC w) = true := by decide +kernel
theorem jp_xo0 : (Cond.classLink RX7 (jp_xik 0) (jp_xc 0) :: Cond.initialized (jp_xc 0) :: vx_atS RX7 (jp_xic 0) (jp_xc 0) (jp_xn 0)).all vx_ot = true := by decide +kernel
theorem jp_xo1 : (Cond.classLink RX7 (jp_xik 1) (jp_xc 1) :: Cond.initialized (jp_xc 1) :: vx_atS RX7 (jp_xic 1) (jp_xc 1) (jp_xn 1)).all vx_ot = true := by decide +kernel
theorem jp_xo2 : (Cond.classLink RX7 (jp_xik 2) (jp_xc 2) :: Cond.initialized (jp_xc 2) :: vx_atS RX7 (jp_xic 2) (jp_xc 2) (jp_xn 2)).all vx_ot = true := by decide +kernel
theorem jp_xo3 : (Cond.classLink RX7 (jp_xik 3) (jp_xc 3) :: Cond.initialized (jp_xc 3) :: vx_atS RX7 (jp_xic 3) (jp_xc 3) (jp_xn 3)).all vx_ot = true := by decide +kernel
theorem jp_xl : ∀ k, k < 4 → lw_tbl.contains (Cond.classLink RX7 (jp_xik k) (jp_xc k)) = true ∧ lw_tbl.contains (Cond.initialized (jp_xc k)) = true ∧ lw_tbl.contains (Cond.castable (jp_xc k) (jp_xc k)) = true := by decide +kernel
