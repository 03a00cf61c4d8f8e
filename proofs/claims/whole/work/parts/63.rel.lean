-- what the class and the reference have in common at each call
def spc (x : Option (jp_I × jp_J)) (P : jp_I → jp_J → Prop) : Prop := ∃ (σ : jp_I) (τ : jp_J), x = some (σ, τ) ∧ P σ τ
theorem spc_ret {σ : jp_I} {τ : jp_J} {P : jp_I → jp_J → Prop} (h : P σ τ) : spc (some (σ, τ)) P := ⟨σ, τ, rfl, h⟩
theorem spc_bind {α : Type} {x : Option (α × jp_I × jp_J)} {k : α × jp_I × jp_J → Option (jp_I × jp_J)} {P : α → jp_I → jp_J → Prop} {Q : jp_I → jp_J → Prop} (h : sp x P) (hk : ∀ a σ τ, P a σ τ → spc (k (a, σ, τ)) Q) : spc (x.bind k) Q := by
  obtain ⟨a, σ, τ, rfl, hp⟩ := h
  exact hk a σ τ hp
theorem spc_ok {b : Bool} {x : Option (jp_I × jp_J)} {P : jp_I → jp_J → Prop} (h : b = true) (h1 : spc x P) : spc (if b = true then x else none) P := by rw [if_pos h]; exact h1
theorem spc_eq {c : Prop} [Decidable c] {x : Option (jp_I × jp_J)} {P : jp_I → jp_J → Prop} (h : c) (h1 : spc x P) : spc (if c then x else none) P := by rw [if_pos h]; exact h1
theorem spc_if {c : Prop} [Decidable c] {x y : Option (jp_I × jp_J)} {P : jp_I → jp_J → Prop} (h1 : c → spc x P) (h2 : ¬ c → spc y P) : spc (if c then x else y) P := by
  by_cases h : c
  · rw [if_pos h]; exact h1 h
  · rw [if_neg h]; exact h2 h
/-- how many of the cells below n have a wall -/
def wc (f : Nat → Bool) : Nat → Nat
  | 0 => 0
  | n + 1 => wc f n + (if f n then 1 else 0)
theorem wc_le (f : Nat → Bool) : ∀ n, wc f n ≤ n
  | 0 => Nat.le_refl _
  | n + 1 => by
    have := wc_le f n
    unfold wc
    split <;> omega
theorem wc_none : ∀ n, wc (fun _ => false) n = 0
  | 0 => rfl
  | n + 1 => by unfold wc; rw [wc_none n]; rfl
theorem wc_set (f : Nat → Bool) (c : Nat) (b : Bool) : ∀ n, wc (fun d => if d = c then b else f d) n + (if c < n ∧ f c then 1 else 0) = wc f n + (if c < n ∧ b then 1 else 0)
  | 0 => by simp [wc]
  | n + 1 => by
    have ih := wc_set f c b n
    unfold wc
    by_cases h : n = c
    · subst h
      simp only [Nat.lt_irrefl, false_and, if_false, if_true, Nat.lt_succ_self, true_and] at ih ⊢
      cases hb : b <;> cases hf : f n <;> simp_all <;> omega
    · have e : (c < n + 1) = (c < n) := by
        apply propext
        omega
      simp only [e, if_neg h]
      omega
abbrev plT : Type := Option (Nat × Nat × (Nat → Nat → Nat))
def plOk (R : Nat) (pl : plT) : Prop := ∀ c t f, pl = some (c, t, f) → c < 1000000 ∧ t ≤ 399 ∧ ∀ r k, r < R → k ≤ t → f r k < 36
def plX (R nc : Nat) (pl : plT) (σ : jp_I) : Prop := σ 11 0 = nI R ∧ (pl = none → σ 11 3 = -1) ∧ ∀ c t f, pl = some (c, t, f) → σ 11 3 = nI c ∧ σ 11 2 = nI t ∧ (t + 1) * R ≤ nc ∧ ∀ r k, r < R → k ≤ t → σ 12 (k * R + r) = nI (f r k)
def plM (R : Nat) (pl : plT) (σ : jp_I) : Prop := (pl = none → σ 20 9 = 0) ∧ ∀ c t f, pl = some (c, t, f) → σ 20 9 = 1 ∧ σ 20 10 = bI (decide (R ≤ 2)) ∧ σ 20 11 = nI c ∧ σ 20 12 = nI t ∧ ∀ r k, r < R → k ≤ t → σ 24 (400 * r + k) = nI (f r k)
def RX (R nc : Nat) (G : gG) (st en : Nat → Option Nat) (bar : Bool) (sd : Int64) (pl : plT) (σ : jp_I) (τ : jp_J) : Prop :=
  σ 0 0 = nI R ∧ σ 1 0 = nI R ∧ scX G σ ∧ chX G σ ∧ σ 2 6 = nI (wc G.2.2 36) ∧ (∀ r, r < R → σ 3 r = enc (st r)) ∧ (∀ r, r < R → σ 4 r = enc (en r)) ∧ σ 1 4 = bI bar ∧ τ 9 1 = sd ∧ plX R nc pl σ ∧ (R ≤ 2 → σ 13 1 = nI R) ∧ (3 ≤ R → σ 14 0 = nI R)
def RM (R : Nat) (G : gG) (st en : Nat → Option Nat) (bar : Bool) (sd : Int64) (pl : plT) (σ : jp_I) (τ : jp_J) : Prop :=
  σ 20 1 = nI R ∧ scM G σ ∧ (∀ r, r < R → σ 22 r = enc (st r)) ∧ (∀ r, r < R → σ 23 r = enc (en r)) ∧ σ 20 7 = bI bar ∧ τ 20 8 = sd ∧ plM R pl σ
def AO (R nc : Nat) (G : gG) (st en : Nat → Option Nat) (sd : Int64) (pl : plT) : Prop :=
  R ≤ 4 ∧ nc < 100000 ∧ (∀ r c, r < R → st r = some c → opn G c = true) ∧ (∀ r c, r < R → en r = some c → opn G c = true) ∧ (∀ r q c, r < R → q < R → st r = some c → st q = some c → r = q) ∧ (∀ r q c, r < R → q < R → en r = some c → en q = some c → r = q) ∧ 0 ≤ sd ∧ sd < 2147483648 ∧ plOk R pl
def Iv (R nc : Nat) (σ : jp_I) (τ : jp_J) : Prop := ∃ (G : gG) (st en : Nat → Option Nat) (bar : Bool) (sd : Int64) (pl : plT), AO R nc G st en sd pl ∧ RX R nc G st en bar sd pl σ τ ∧ RM R G st en bar sd pl σ τ
theorem RX_congr {R nc : Nat} {G : gG} {st en : Nat → Option Nat} {bar : Bool} {sd : Int64} {pl : plT} {σ σ' : jp_I} {τ τ' : jp_J} (h : RX R nc G st en bar sd pl σ τ) (hs : ∀ i, i < 20 → σ' i = σ i) (ht : τ' 9 = τ 9) : RX R nc G st en bar sd pl σ' τ' := by
  obtain ⟨h0, h1, h2, h3, h4, h5, h6, h7, h8, h9, h10, h11⟩ := h
  obtain ⟨p1, p2, p3⟩ := h9
  refine ⟨by rw [hs 0 (by decide)]; exact h0, by rw [hs 1 (by decide)]; exact h1, scX_congr h2 (hs 2 (by decide)) (hs 5 (by decide)), chX_congr h3 (hs 6 (by decide)), by rw [hs 2 (by decide)]; exact h4, fun r hr => by rw [hs 3 (by decide)]; exact h5 r hr, fun r hr => by rw [hs 4 (by decide)]; exact h6 r hr, by rw [hs 1 (by decide)]; exact h7, by rw [ht]; exact h8, ⟨by rw [hs 11 (by decide)]; exact p1, fun q => by rw [hs 11 (by decide)]; exact p2 q, fun c t f q => ?_⟩, fun q => by rw [hs 13 (by decide)]; exact h10 q, fun q => by rw [hs 14 (by decide)]; exact h11 q⟩
  rw [hs 11 (by decide), hs 12 (by decide)]
  exact p3 c t f q
theorem scM_congr {G : gG} {σ σ' : jp_I} (h : scM G σ) (h20 : σ' 20 2 = σ 20 2) (h20' : σ' 20 3 = σ 20 3) (h21 : σ' 21 = σ 21) : scM G σ' := by
  obtain ⟨a, b, c, d⟩ := h
  exact ⟨a, by rw [h20]; exact b, by rw [h20']; exact c, fun k hk => by rw [h21]; exact d k hk⟩
theorem RM_congr {R : Nat} {G : gG} {st en : Nat → Option Nat} {bar : Bool} {sd : Int64} {pl : plT} {σ σ' : jp_I} {τ τ' : jp_J} (h : RM R G st en bar sd pl σ τ) (h20 : ∀ k, k ≠ 0 → σ' 20 k = σ 20 k) (hs : ∀ i, 21 ≤ i → i < 25 → σ' i = σ i) (ht : τ' 20 = τ 20) : RM R G st en bar sd pl σ' τ' := by
  obtain ⟨h0, h1, h2, h3, h4, h5, h6, h7⟩ := h
  refine ⟨by rw [h20 1 (by decide)]; exact h0, scM_congr h1 (h20 2 (by decide)) (h20 3 (by decide)) (hs 21 (by decide) (by decide)), fun r hr => by rw [hs 22 (by decide) (by decide)]; exact h2 r hr, fun r hr => by rw [hs 23 (by decide) (by decide)]; exact h3 r hr, by rw [h20 7 (by decide)]; exact h4, by rw [ht]; exact h5, fun q => by rw [h20 9 (by decide)]; exact h6 q, fun c t f q => ?_⟩
  rw [h20 9 (by decide), h20 10 (by decide), h20 11 (by decide), h20 12 (by decide), hs 24 (by decide) (by decide)]
  exact h7 c t f q
theorem i_nat {p : Int32} (h : ¬ p < 0) : ∃ a, a < 2147483648 ∧ p = nI a := by
  have h1 : 0 ≤ p.toInt := by
    have := h
    rw [Int32.lt_iff_toInt_lt] at this
    have h0 : (0 : Int32).toInt = 0 := by decide
    omega
  have h2 := p.toInt_lt
  refine ⟨p.toInt.toNat, by omega, ?_⟩
  apply Int32.toInt_inj.mp
  rw [ni_toInt (by omega)]
  omega
theorem i_lt {p : Int32} {N : Nat} (h : ¬ p < 0) (h2 : p < nI N) (hN : N < 2147483648) : ∃ a, a < N ∧ p = nI a := by
  obtain ⟨a, ha, rfl⟩ := i_nat h
  exact ⟨a, (ni_lt ha hN).mp h2, rfl⟩
theorem jp_upl_eq (τ : jp_J) (id k : Nat) (v : Int64) : jp_upl τ id k v id k = v := by rw [jp_upl_s]; simp [vp_updL]
theorem lg0 (x : Int64) : lg_cmp x x = 0 := (lg_cmp_eq x x).mpr rfl
theorem jq_idx {L j k : Nat} (h : j + 4 ≤ L) (hL : L ≤ 2049) (hk : k < 4) : jp_ok (nI j + nI k) L = true ∧ (nI j + nI k).toNatClampNeg = j + k := by
  rw [ni_add]
  exact ⟨ni_ok (by omega) (by omega), ni_nat (by omega)⟩
-- the reference's leaves
theorem m_noCell {G : gG} {σ : jp_I} (τ : jp_J) (h : scM G σ) {x y : Int32} : fX8_noCell x y σ τ = some (if (x < 0 ∨ nI G.1 ≤ x) ∨ (y < 0 ∨ nI G.2.1 ≤ y) then 1 else 0, σ, τ) := by
  obtain ⟨hG, h4, h5, -⟩ := h
  unfold fX8_noCell
  rw [h4, h5]
  by_cases a : x < 0
  · rw [if_pos a, if_pos (Or.inl (Or.inl a))]
  · rw [if_neg a]
    by_cases b : nI G.1 ≤ x
    · rw [if_pos b, if_pos (Or.inl (Or.inr b))]
    · rw [if_neg b]
      by_cases c : y < 0
      · rw [if_pos c, if_pos (Or.inr (Or.inl c))]
      · rw [if_neg c]
        by_cases d : nI G.2.1 ≤ y
        · rw [if_neg (by rw [Int32.not_lt]; exact d), if_pos (Or.inr (Or.inr d))]
        · rw [if_pos (by rw [← Int32.not_le]; exact d), if_neg (by rintro ((q | q) | (q | q)) <;> contradiction)]
