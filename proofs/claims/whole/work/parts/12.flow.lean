/-! ===== programs as functions: none where a walk would leave the safe road (an index outside, no fuel) ===== -/
def jp_F : Nat := 10000000000
def jp_ok (i : Int32) (n : Nat) : Bool := !decide (i < 0) && decide (i.toNatClampNeg < n)
theorem jp_ok_vp {i : Int32} {n : Nat} (h : jp_ok i n = true) : vp_in i n := by
  simp only [jp_ok, Bool.and_eq_true, Bool.not_eq_true', decide_eq_false_iff_not, decide_eq_true_eq] at h
  intro q
  rcases q with q | q
  · exact h.1 q
  · exact absurd h.2 (Nat.not_lt.mpr q)
def jp_isb (v : Int32) : Bool := decide (v = 0) || decide (v = 1)
theorem jp_isb_or {v : Int32} (h : jp_isb v = true) : v = 0 ∨ v = 1 := by
  simpa only [jp_isb, Bool.or_eq_true, decide_eq_true_eq] using h
theorem jp_isb_n {v : Int32} (h : jp_isb v = true) : narrow .boolean (.int v) = .int v := by
  rcases jp_isb_or h with rfl | rfl <;> rfl
theorem jp_isb_f {v : Int32} (h : jp_isb v = true) : fits .boolean (.int v) = true := by
  rcases jp_isb_or h with rfl | rfl <;> rfl
theorem jp_isb_v {v : Int32} (h : jp_isb v = true) : vp_nar .boolean v = v := by
  rcases jp_isb_or h with rfl | rfl <;> rfl
theorem jp_if {α : Type} {b : Bool} {x : Option α} {y : α} (h : (if b = true then x else none) = some y) : b = true ∧ x = some y := by
  cases b with
  | true => exact ⟨rfl, h⟩
  | false => cases h
theorem jp_nz {α : Type} {v : Int32} {x : Option α} {y : α} (h : (if v = 0 then none else x) = some y) : ¬ v = 0 ∧ x = some y := by
  by_cases hv : v = 0
  · rw [if_pos hv] at h; cases h
  · rw [if_neg hv] at h; exact ⟨hv, h⟩
theorem jp_nzl {α : Type} {v : Int64} {x : Option α} {y : α} (h : (if v = 0 then none else x) = some y) : ¬ v = 0 ∧ x = some y := by
  by_cases hv : v = 0
  · rw [if_pos hv] at h; cases h
  · rw [if_neg hv] at h; exact ⟨hv, h⟩
theorem jp_bind {α β : Type} {x : Option α} {k : α → Option β} {y : β} (h : x.bind k = some y) : ∃ q, x = some q ∧ k q = some y := by
  cases x with
  | none => cases h
  | some q => exact ⟨q, rfl, h⟩
theorem jp_inj {v r : Int32} {σ σ' : jp_I} {τ τ' : jp_J} (h : some (v, σ, τ) = some (r, σ', τ')) : r = v ∧ σ' = σ ∧ τ' = τ := by
  cases h; exact ⟨rfl, rfl, rfl⟩
def jp_loop {V E : Type} (step : V × jp_I × jp_J → Option (Sum V E × jp_I × jp_J)) : Nat → V × jp_I × jp_J → Option (E × jp_I × jp_J)
  | 0, _ => none
  | k + 1, v => (step v).bind fun q => match q.1 with
    | .inl v' => jp_loop step k (v', q.2.1, q.2.2)
    | .inr e => some (e, q.2.1, q.2.2)
/-- a loop: what holds at its head for every round's numbers -/
theorem jp_loopI {V E : Type} {step : V × jp_I × jp_J → Option (Sum V E × jp_I × jp_J)} {P : V → jp_I → jp_J → Prop} {e : E} {σ' : jp_I} {τ' : jp_J}
    (hstep : ∀ (v : V) (σ : jp_I) (τ : jp_J) (q : Sum V E × jp_I × jp_J), step (v, σ, τ) = some q → (∀ v', q.1 = .inl v' → P v' q.2.1 q.2.2) → (∀ e', q.1 = .inr e' → e' = e ∧ q.2.1 = σ' ∧ q.2.2 = τ') → P v σ τ) :
    ∀ (k : Nat) (v : V) (σ : jp_I) (τ : jp_J), jp_loop step k (v, σ, τ) = some (e, σ', τ') → P v σ τ := by
  intro k
  induction k with
  | zero => intro v σ τ h; cases h
  | succ k ih =>
    intro v σ τ h
    rw [jp_loop] at h
    obtain ⟨⟨q1, q2, q3⟩, h1, h2⟩ := jp_bind h
    refine hstep v σ τ _ h1 (fun v' hv => ?_) (fun e' he => ?_)
    · dsimp only at hv
      subst hv
      exact ih _ _ _ h2
    · dsimp only at he
      subst he
      cases h2
      exact ⟨rfl, rfl, rfl⟩
section JPW
variable (p : Program) (l : Launch) (e : Jvm.Env) (R : Room) (s : State) (m : MethodId) (args : Array Value) (below : List Frame) (meth : Method) (c : Code) (Q : State → Prop) (n : Nat) (Γ : jp_G) (Z : Nat → Option jp_Sh)
/-- at pc, with these locals and this stack, in the memory (σ, τ): it comes to Q -/
def jp_at (pc : Nat) (lv : List (Nat × Value)) (st : List Value) (σ : jp_I) (τ : jp_J) : Prop :=
  ∀ (H : Heap) (locs : List Loc) (ls : Array Slot), jp_P Γ Z σ τ H → va_S (jp_A Γ) s.heap H locs → lv_has ls n lv → W p l e R s m args below meth c H locs 0 0 Q (F0 m pc ls st)
end JPW
/-- a contract, out of a walk from its entry -/
theorem jp_mk {l : Launch} {y : MethodName} {cc : ByteArray} {n : Nat} {ret : Option FieldType} {fr lo : Nat} {Γ : jp_G} {Z : Nat → Option jp_Sh} {σ : jp_I} {τ : jp_J} {av : List Value} {res : Option Value} {σ' : jp_I} {τ' : jp_J} (hy : plainName y.cls = true) (hn : (lg_sl av).length ≤ n) {lv : List (Nat × Value)} (hlv : lv_args 0 av = lv)
    (body : ∀ (p : Program) (e : Jvm.Env) (s : State) (m : MethodId) (args : Array Value) (below : List Frame) (meth : Method) (c : Code), jp_B Γ p s m args meth c y.cls cc n ret →
      jp_at p l e (jp_R fr lo) s m args below meth c (MQ below (jp_Q Γ Z res σ' τ') args s 0 0 (jp_A Γ)) n Γ Z 0 lv [] σ τ) : jp_M l y cc n ret fr lo Γ Z σ τ av res σ' τ' :=
  jp_intro hy hn fun p e s m args below meth c B hP ls hl => body p e s m args below meth c B s.heap [] ls hP va_S.rf (hlv ▸ hl)
/-! ===== which ids a method reaches, with their shapes ===== -/
def jp_hA (Z : Nat → Option jp_Sh) (row N : Nat) : Prop := Z row = some (1, N, [])
def jp_hF (Z : Nat → Option jp_Sh) : Prop := Z 2 = some (0, 1, [(1, 5), (1, 6), (1, 7), (1, 8), (0, 0), (0, 0), (0, 0)]) ∧ Z 5 = some (1, 36, []) ∧ Z 6 = some (1, 180, []) ∧ Z 7 = some (1, 36, []) ∧ Z 8 = some (1, 36, [])
def jp_hS (Z : Nat → Option jp_Sh) (n : Nat) : Prop := Z 1 = some (0, 5, [(0, 0), (1, 2), (1, 3), (1, 4), (0, 0)]) ∧ Z 3 = some (1, n, []) ∧ Z 4 = some (1, n, []) ∧ jp_hF Z
def jp_hU (Z : Nat → Option jp_Sh) (n : Nat) : Prop := Z 9 = some (0, 6, [(1, 10), (2, 0)]) ∧ Z 10 = some (1, n, [])
def jp_hL (Z : Nat → Option jp_Sh) (pl ce nc : Nat) : Prop := Z pl = some (0, 3, [(0, 0), (1, ce), (0, 0), (0, 0)]) ∧ Z ce = some (1, nc, [])
def jp_hC (Z : Nat → Option jp_Sh) (n nc : Nat) : Prop := Z 0 = some (0, 7, [(0, 0), (1, 1), (1, 9), (1, 13), (1, 11)]) ∧ jp_hS Z n ∧ jp_hU Z n ∧ jp_hL Z 11 12 nc
def jp_hJ (Z : Nat → Option jp_Sh) (n nc nl : Nat) : Prop := Z 13 = some (0, 2, [(1, 1), (0, 0), (1, 14), (1, 15), (0, 0), (0, 0), (0, 0)]) ∧ Z 14 = some (1, nl, []) ∧ Z 15 = some (1, nl, []) ∧ jp_hS Z n ∧ jp_hL Z 11 12 nc
def jp_hP (Z : Nat → Option jp_Sh) (n nc : Nat) : Prop := Z 13 = some (0, 4, [(1, 1), (1, 9), (1, 14), (1, 16), (1, 17)]) ∧ Z 16 = some (1, 1476, []) ∧ Z 17 = some (1, 1476, []) ∧ jp_hS Z n ∧ jp_hU Z n ∧ jp_hL Z 11 12 nc ∧ jp_hL Z 14 15 nc
def jp_hM (Z : Nat → Option jp_Sh) : Prop := Z 20 = some (0, 8, [(0, 0), (0, 0), (0, 0), (0, 0), (1, 21), (1, 22), (1, 23), (0, 0), (2, 0), (0, 0), (0, 0), (0, 0), (0, 0), (1, 24), (1, 25), (1, 26), (1, 27)]) ∧ Z 21 = some (2, 36, []) ∧ Z 22 = some (1, 4, []) ∧ Z 23 = some (1, 4, []) ∧ Z 24 = some (1, 1600, []) ∧ Z 25 = some (1, 640, []) ∧ Z 26 = some (1, 4, []) ∧ Z 27 = some (1, 1476, [])
section JPE
variable {p : Program} {l : Launch} {e : Jvm.Env} {R : Room} {s : State} {m : MethodId} {args : Array Value} {below : List Frame} {meth : Method} {c : Code} {H : Heap} {locs : List Loc} {cells slots : Nat} {cc : ByteArray} {pc : Nat} {ls : Array Slot} {Γ : jp_G} {Z : Nat → Option jp_Sh} {σ σ' : jp_I} {τ τ' : jp_J} {own : String} {n : Nat} {v r : Int32}
theorem jp_endi (B : jp_B Γ p s m args meth c own cc n (some .int)) (hP : jp_P Γ Z σ τ H) (hS : va_S (jp_A Γ) s.heap H locs) (hdg : decode cc pc = .ok (.ireturn, 1)) (h : r = v ∧ σ' = σ ∧ τ' = τ) : W p l e R s m args below meth c H locs cells slots (MQ below (jp_Q Γ Z (some (.int r)) σ' τ') args s cells slots (jp_A Γ)) (F0 m pc ls [.int v]) := jp_reti B hP hS hdg ⟨by rw [h.1], h.2⟩
theorem jp_endz (B : jp_B Γ p s m args meth c own cc n (some .boolean)) (hP : jp_P Γ Z σ τ H) (hS : va_S (jp_A Γ) s.heap H locs) (hv : jp_isb v = true) (hdg : decode cc pc = .ok (.ireturn, 1)) (h : r = v ∧ σ' = σ ∧ τ' = τ) : W p l e R s m args below meth c H locs cells slots (MQ below (jp_Q Γ Z (some (.int r)) σ' τ') args s cells slots (jp_A Γ)) (F0 m pc ls [.int v]) := jp_retz B hP hS (jp_isb_n hv) hdg ⟨by rw [h.1], h.2⟩
theorem jp_endv (B : jp_B Γ p s m args meth c own cc n none) (hP : jp_P Γ Z σ τ H) (hS : va_S (jp_A Γ) s.heap H locs) (hdg : decode cc pc = .ok (.return_, 1)) (h : r = 0 ∧ σ' = σ ∧ τ' = τ) : W p l e R s m args below meth c H locs cells slots (MQ below (jp_Q Γ Z none σ' τ') args s cells slots (jp_A Γ)) (F0 m pc ls []) := jp_retv B hP hS hdg ⟨rfl, h.2⟩
end JPE
/-- none of the numbers lo .. hi: outside -/
theorem jp_out (x : Int32) (ks : List Int32) (lo hi : Int) (hk : (List.range (hi - lo + 1).toNat).all (fun i => ks.any (fun k => k.toInt == lo + i)) = true) (h : ∀ k ∈ ks, ¬ x = k) : x.toInt < lo ∨ hi < x.toInt := by
  by_cases h1 : x.toInt < lo
  · exact Or.inl h1
  · by_cases h2 : hi < x.toInt
    · exact Or.inr h2
    · exfalso
      have h3 := List.all_eq_true.mp hk (x.toInt - lo).toNat (List.mem_range.mpr (by omega))
      obtain ⟨k, hk1, hk2⟩ := List.any_eq_true.mp h3
      have hk3 : k.toInt = x.toInt := by
        have := eq_of_beq hk2
        omega
      exact h k hk1 (Int32.toInt_inj.mp hk3.symm)
