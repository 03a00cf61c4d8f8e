-- programs that come to an end: sp x P says that x is some (a, σ, τ) with P a σ τ
def sp {α : Type} (x : Option (α × jp_I × jp_J)) (P : α → jp_I → jp_J → Prop) : Prop := ∃ (a : α) (σ : jp_I) (τ : jp_J), x = some (a, σ, τ) ∧ P a σ τ
theorem sp_ret {α : Type} {a : α} {σ : jp_I} {τ : jp_J} {P : α → jp_I → jp_J → Prop} (h : P a σ τ) : sp (some (a, σ, τ)) P := ⟨a, σ, τ, rfl, h⟩
theorem sp_bind {α β : Type} {x : Option (α × jp_I × jp_J)} {k : α × jp_I × jp_J → Option (β × jp_I × jp_J)} {P : α → jp_I → jp_J → Prop} {Q : β → jp_I → jp_J → Prop} (h : sp x P) (hk : ∀ a σ τ, P a σ τ → sp (k (a, σ, τ)) Q) : sp (x.bind k) Q := by
  obtain ⟨a, σ, τ, rfl, hp⟩ := h
  exact hk a σ τ hp
theorem sp_mono {α : Type} {x : Option (α × jp_I × jp_J)} {P Q : α → jp_I → jp_J → Prop} (h : sp x P) (hk : ∀ a σ τ, P a σ τ → Q a σ τ) : sp x Q := by
  obtain ⟨a, σ, τ, e, hp⟩ := h
  exact ⟨a, σ, τ, e, hk a σ τ hp⟩
theorem sp_if {α : Type} {c : Prop} [Decidable c] {x y : Option (α × jp_I × jp_J)} {P : α → jp_I → jp_J → Prop} (h1 : c → sp x P) (h2 : ¬ c → sp y P) : sp (if c then x else y) P := by
  by_cases h : c
  · rw [if_pos h]; exact h1 h
  · rw [if_neg h]; exact h2 h
theorem sp_ok {α : Type} {b : Bool} {x : Option (α × jp_I × jp_J)} {P : α → jp_I → jp_J → Prop} (h : b = true) (h1 : sp x P) : sp (if b = true then x else none) P := by rw [if_pos h]; exact h1
theorem sp_nz {α : Type} {c : Prop} [Decidable c] {x : Option (α × jp_I × jp_J)} {P : α → jp_I → jp_J → Prop} (h : ¬ c) (h1 : sp x P) : sp (if c then none else x) P := by rw [if_neg h]; exact h1
theorem sp_eq {α : Type} {x y : Option (α × jp_I × jp_J)} {P : α → jp_I → jp_J → Prop} (e : x = y) (h : sp y P) : sp x P := by rw [e]; exact h
/-- a program that only reads -/
theorem sp_pure {α : Type} {x : Option (α × jp_I × jp_J)} {a : α} {σ : jp_I} {τ : jp_J} {P : α → jp_I → jp_J → Prop} (e : x = some (a, σ, τ)) (h : P a σ τ) : sp x P := ⟨a, σ, τ, e, h⟩
theorem sp_some {α : Type} {x : Option (α × jp_I × jp_J)} {a : α} {σ : jp_I} {τ : jp_J} (h : sp x (fun b σ' τ' => b = a ∧ σ' = σ ∧ τ' = τ)) : x = some (a, σ, τ) := by
  obtain ⟨a', σ', τ', e, rfl, rfl, rfl⟩ := h
  exact e
def sp_R {V E : Type} (I : V → jp_I → jp_J → Nat → Prop) (m : Nat) (P : E → jp_I → jp_J → Prop) : Sum V E → jp_I → jp_J → Prop := fun r σ τ => match r with
  | .inl v => ∃ m', m' < m ∧ I v σ τ m'
  | .inr e => P e σ τ
/-- a loop: I v σ τ m holds at its head, m falls -/
theorem sp_loop {V E : Type} {step : V × jp_I × jp_J → Option (Sum V E × jp_I × jp_J)} (I : V → jp_I → jp_J → Nat → Prop) {P : E → jp_I → jp_J → Prop}
    (h : ∀ v σ τ m, I v σ τ m → sp (step (v, σ, τ)) (sp_R I m P)) : ∀ (k : Nat) (v : V) (σ : jp_I) (τ : jp_J) (m : Nat), I v σ τ m → m < k → sp (jp_loop step k (v, σ, τ)) P := by
  intro k
  induction k with
  | zero => intro v σ τ m _ hm; exact absurd hm (Nat.not_lt_zero _)
  | succ k ih =>
    intro v σ τ m hI hm
    obtain ⟨r, σ1, τ1, e, hr⟩ := h v σ τ m hI
    rw [jp_loop, e]
    cases r with
    | inl v' =>
      obtain ⟨m', hm', hI'⟩ := hr
      exact ih v' σ1 τ1 m' hI' (by omega)
    | inr x => exact ⟨x, σ1, τ1, rfl, hr⟩
theorem sp_loopF {V E : Type} {step : V × jp_I × jp_J → Option (Sum V E × jp_I × jp_J)} (I : V → jp_I → jp_J → Nat → Prop) {P : E → jp_I → jp_J → Prop} {v : V} {σ : jp_I} {τ : jp_J} (m : Nat)
    (h0 : I v σ τ m) (hm : m < 10000000000) (h : ∀ v σ τ m, I v σ τ m → sp (step (v, σ, τ)) (sp_R I m P)) : sp (jp_loop step jp_F (v, σ, τ)) P := sp_loop I h jp_F v σ τ m h0 hm
-- numbers: nI n is the int n
theorem ni_add (a b : Nat) : nI a + nI b = nI (a + b) := (Int32.ofNat_add a b).symm
theorem ni_mul (a b : Nat) : nI a * nI b = nI (a * b) := (Int32.ofNat_mul a b).symm
theorem ni_toInt {a : Nat} (h : a < 2147483648) : (nI a).toInt = (a : Int) := by
  unfold nI
  rw [Int32.toInt_ofNat_of_lt h]
theorem ni_sub {a b : Nat} (h : b ≤ a) : nI a - nI b = nI (a - b) := by
  have h1 : nI a = nI (a - b) + nI b := by rw [ni_add, Nat.sub_add_cancel h]
  rw [h1, Int32.add_sub_cancel]
theorem ni_nat {a : Nat} (h : a < 2147483648) : (nI a).toNatClampNeg = a := by
  unfold Int32.toNatClampNeg
  rw [ni_toInt h]
  rfl
theorem ni_le {a b : Nat} (ha : a < 2147483648) (hb : b < 2147483648) : nI a ≤ nI b ↔ a ≤ b := by
  rw [Int32.le_iff_toInt_le, ni_toInt ha, ni_toInt hb]
  omega
theorem ni_lt {a b : Nat} (ha : a < 2147483648) (hb : b < 2147483648) : nI a < nI b ↔ a < b := by
  rw [Int32.lt_iff_toInt_lt, ni_toInt ha, ni_toInt hb]
  omega
theorem ni_inj {a b : Nat} (ha : a < 2147483648) (hb : b < 2147483648) : nI a = nI b ↔ a = b := by
  constructor
  · intro h
    have := congrArg Int32.toInt h
    rw [ni_toInt ha, ni_toInt hb] at this
    omega
  · intro h; rw [h]
theorem ni_nn {a : Nat} (h : a < 2147483648) : ¬ nI a < 0 := by
  rw [show (0 : Int32) = nI 0 from rfl, ni_lt h (by decide)]
  omega
theorem ni_ge0 {a : Nat} (h : a < 2147483648) : (0 : Int32) ≤ nI a := by
  rw [show (0 : Int32) = nI 0 from rfl, ni_le (by decide) h]
  omega
theorem ni_neg {a : Nat} (h : a < 2147483648) : ¬ nI a = -1 := by
  intro q
  have h1 := congrArg Int32.toInt q
  rw [ni_toInt h, show (-1 : Int32).toInt = -1 from by decide] at h1
  omega
theorem ni_div {a b : Nat} (ha : a < 2147483648) (hb : b < 2147483648) : nI a / nI b = nI (a / b) := by
  apply Int32.toInt_inj.mp
  rw [Int32.toInt_div, ni_toInt ha, ni_toInt hb, ni_toInt (Nat.lt_of_le_of_lt (Nat.div_le_self a b) ha), Int.tdiv_eq_ediv_of_nonneg (by omega)]
  have h1 : ((a : Int) / (b : Int)) = ((a / b : Nat) : Int) := by omega
  have h2 := Nat.div_le_self a b
  rw [h1]
  generalize a / b = k at h2
  rw [Int.bmod_eq_of_le (by omega) (by omega)]
theorem ni_mod {a b : Nat} (ha : a < 2147483648) (hb : b < 2147483648) : nI a - nI a / nI b * nI b = nI (a % b) := by
  rw [ni_div ha hb, ni_mul, ni_sub (Nat.div_mul_le_self a b)]
  congr 1
  have := Nat.div_add_mod a b
  rw [Nat.mul_comm] at this
  omega
theorem ni_ok {a N : Nat} (h : a < 2147483648) (hN : a < N) : jp_ok (nI a) N = true := by
  simp only [jp_ok, Bool.and_eq_true, Bool.not_eq_true', decide_eq_false_iff_not, decide_eq_true_eq]
  exact ⟨ni_nn h, by rw [ni_nat h]; exact hN⟩
/-- a place or none -/
def enc : Option Nat → Int32
  | none => -1
  | some a => nI a
