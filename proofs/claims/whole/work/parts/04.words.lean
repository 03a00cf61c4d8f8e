/-- the words that every contract here carries: the good ones of the tables -/
def jp_ws : List Cond := lw_tbl.filter goodWord
theorem jp_in {w : Cond} {i : Nat} (h : lw_tbl[i]? = some w) (g : goodWord w = true) : w ∈ jp_ws := List.mem_filter.mpr ⟨List.mem_of_getElem? h, g⟩
theorem jp_sub : ∀ w ∈ jp_ws, w ∈ lw_tbl := fun _ h => (List.mem_filter.mp h).1
theorem jp_gd : ∀ w ∈ jp_ws, goodWord w = true := fun _ h => (List.mem_filter.mp h).2
theorem jp_fX0 : ∀ w ∈ wsX00, w ∈ jp_ws := by
  have h : (wsX00.all fun w => decide (w ∈ lw_tbl) && goodWord w) = true := by decide +kernel
  intro w hw
  have h1 := List.all_eq_true.mp h w hw
  simp only [Bool.and_eq_true, decide_eq_true_eq] at h1
  exact List.mem_filter.mpr h1
theorem jp_fX1 : ∀ w ∈ wsX10, w ∈ jp_ws := by
  have h : (wsX10.all fun w => decide (w ∈ lw_tbl) && goodWord w) = true := by decide +kernel
  intro w hw
  have h1 := List.all_eq_true.mp h w hw
  simp only [Bool.and_eq_true, decide_eq_true_eq] at h1
  exact List.mem_filter.mpr h1
theorem jp_fX2 : ∀ w ∈ wsX20, w ∈ jp_ws := by
  have h : (wsX20.all fun w => decide (w ∈ lw_tbl) && goodWord w) = true := by decide +kernel
  intro w hw
  have h1 := List.all_eq_true.mp h w hw
  simp only [Bool.and_eq_true, decide_eq_true_eq] at h1
  exact List.mem_filter.mpr h1
theorem jp_fX4 : ∀ w ∈ wsX40, w ∈ jp_ws := by
  have h : (wsX40.all fun w => decide (w ∈ lw_tbl) && goodWord w) = true := by decide +kernel
  intro w hw
  have h1 := List.all_eq_true.mp h w hw
  simp only [Bool.and_eq_true, decide_eq_true_eq] at h1
  exact List.mem_filter.mpr h1
theorem jp_fX5 : ∀ w ∈ wsX50, w ∈ jp_ws := by
  have h : (wsX50.all fun w => decide (w ∈ lw_tbl) && goodWord w) = true := by decide +kernel
  intro w hw
  have h1 := List.all_eq_true.mp h w hw
  simp only [Bool.and_eq_true, decide_eq_true_eq] at h1
  exact List.mem_filter.mpr h1
theorem jp_fX6 : ∀ w ∈ wsX60, w ∈ jp_ws := by
  have h : (wsX60.all fun w => decide (w ∈ lw_tbl) && goodWord w) = true := by decide +kernel
  intro w hw
  have h1 := List.all_eq_true.mp h w hw
  simp only [Bool.and_eq_true, decide_eq_true_eq] at h1
  exact List.mem_filter.mpr h1
theorem jp_fX7 : ∀ w ∈ wsX70, w ∈ jp_ws := by
  have h : (wsX70.all fun w => decide (w ∈ lw_tbl) && goodWord w) = true := by decide +kernel
  intro w hw
  have h1 := List.all_eq_true.mp h w hw
  simp only [Bool.and_eq_true, decide_eq_true_eq] at h1
  exact List.mem_filter.mpr h1
theorem jp_fX8 : ∀ w ∈ wsX80, w ∈ jp_ws := by
  have h : (wsX80.all fun w => decide (w ∈ lw_tbl) && goodWord w) = true := by decide +kernel
  intro w hw
  have h1 := List.all_eq_true.mp h w hw
  simp only [Bool.and_eq_true, decide_eq_true_eq] at h1
  exact List.mem_filter.mpr h1
theorem jp_fJx00060 : ∀ w ∈ wsJx000600, w ∈ jp_ws := by
  have h : (wsJx000600.all fun w => decide (w ∈ lw_tbl) && goodWord w) = true := by decide +kernel
  intro w hw
  have h1 := List.all_eq_true.mp h w hw
  simp only [Bool.and_eq_true, decide_eq_true_eq] at h1
  exact List.mem_filter.mpr h1
/-- the words on private members of a nest mate: they aren't good ones, so they go along in the world -/
def jp_isN (w : Cond) : Bool := match w with
  | .fieldLinkNest _ _ _ _ _ _ => true
  | .methodLinkNest _ _ _ _ => true
  | _ => false
def jp_ns : List Cond := lw_tbl.filter jp_isN
theorem jp_nin {w : Cond} {i : Nat} (h : lw_tbl[i]? = some w) (g : jp_isN w = true) : w ∈ jp_ns := List.mem_filter.mpr ⟨List.mem_of_getElem? h, g⟩
