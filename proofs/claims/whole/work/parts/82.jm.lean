-- the reference's joint costs
def jiy (s : jS) : Nat := 36 * s.1 + s.2
section JM
variable {R : Nat} {G : gG} {bar : Bool} {E : jS} {σ : jp_I}
def jmC (R : Nat) (G : gG) (bar : Bool) (E : jS) (σ : jp_I) : Prop := scM G σ ∧ σ 20 1 = nI R ∧ σ 20 7 = bI bar ∧ σ 23 0 = nI E.1 ∧ (R = 2 → σ 23 1 = nI E.2)
theorem jmC_fr {σ' : jp_I} (h : jmC R G bar E σ) (hf : ∀ i, i ≠ 27 → σ' i = σ i) : jmC R G bar E σ' := by
  obtain ⟨h1, h2, h3, h4, h5⟩ := h
  exact ⟨scM_congr h1 (by rw [hf 20 (by decide)]) (by rw [hf 20 (by decide)]) (hf 21 (by decide)), by rw [hf 20 (by decide)]; exact h2, by rw [hf 20 (by decide)]; exact h3, by rw [hf 23 (by decide)]; exact h4, fun q => by rw [hf 23 (by decide)]; exact h5 q⟩
def jrK (K : Nat → Nat) (σ : jp_I) : Prop := ∀ y, y < 1296 → σ 27 y = nI (K y) ∧ K y ≤ 1000000
theorem jiy_lt {s : jS} (h : s.1 < 36 ∧ s.2 < 36) : jiy s < 1296 := by unfold jiy; omega
theorem jiy_inj {s s' : jS} (h : s.2 < 36) (h' : s'.2 < 36) (e : jiy s = jiy s') : s = s' := by
  unfold jiy at e
  exact Prod.ext (by omega) (by omega)
theorem m_goal0 (τ : jp_J) (h : jmC R G bar E σ) (hR : 1 ≤ R ∧ R ≤ 2) : fX8_goal 0 σ τ = some (nI E.1, σ, τ) := by
  unfold fX8_goal
  rw [h.2.1, show (0 : Int32) = nI 0 from rfl, if_neg (by rw [ni_le (by omega) (by decide)]; omega), if_pos (ni_ok (by decide) (by decide)), ni_nat (by decide), h.2.2.2.1]
theorem m_goal1 (τ : jp_J) (h : jmC R G bar E σ) (hR : 1 ≤ R ∧ R ≤ 2) (hE : R ≠ 2 → E.2 = 0) : fX8_goal 1 σ τ = some (nI E.2, σ, τ) := by
  unfold fX8_goal
  rw [h.2.1, show (1 : Int32) = nI 1 from rfl]
  by_cases q : R = 2
  · rw [if_neg (by rw [ni_le (by omega) (by decide)]; omega), if_pos (ni_ok (by decide) (by decide)), ni_nat (by decide), h.2.2.2.2 q]
  · rw [if_pos (by rw [ni_le (by omega) (by decide)]; omega), hE q]; rfl
theorem m_stays {a b e : Nat} (ha : a < 36) (hb : b < 36) (he : e < 36) (σ : jp_I) (τ : jp_J) : fX8_stays (nI a) (nI b) (nI e) σ τ = some (nI (ownc a b e), σ, τ) := by
  unfold fX8_stays ownc
  by_cases z : a = b
  · rw [if_pos (by rw [z])]
    by_cases y : b = e
    · rw [if_pos (by rw [y]), if_pos ⟨z, y⟩]; rfl
    · rw [if_neg (by rw [ni_inj (by omega) (by omega)]; exact y), if_neg (fun w => y w.2)]; rfl
  · rw [if_neg (by rw [ni_inj (by omega) (by omega)]; exact z), if_neg (fun w => z w.1)]; rfl
/-- what a step by i and j would cost -/
def jthr (R : Nat) (G : gG) (bar : Bool) (E : jS) (K : Nat → Nat) (i j : Nat) (s : jS) (w : Nat) : Prop := w ≤ 1000002 ∧ ((∃ s', jmv R G bar i j s s' ∧ ((K (jiy s') < 1000000 ∧ w = pay E s s' + K (jiy s')) ∨ (1000000 ≤ K (jiy s') ∧ 1000000 ≤ w))) ∨ ((∀ s', ¬ jmv R G bar i j s s') ∧ w = 1000000))
theorem m_through (τ : jp_J) (h : jmC R G bar E σ) (hR : 1 ≤ R ∧ R ≤ 2) (hE : jval R G E) {K : Nat → Nat} (hK : jrK K σ) {s : jS} (hs : jval R G s) {i j : Nat} (hi : i < 5) (hj : j < 5) :
    sp (fX8_through (nI s.1) (nI s.2) (nI i) (nI j) σ τ) (fun r σ' τ' => σ' = σ ∧ τ' = τ ∧ ∃ w, r = nI w ∧ jthr R G bar E K i j s w) := by
  have a1 := jval_lt hs
  have he := jval_lt hE
  have hE2 : R ≠ 2 → E.2 = 0 := hE.2.2
  have far : (∀ s', ¬ jmv R G bar i j s s') → sp (some ((1000000 : Int32), σ, τ)) (fun r σ' τ' => σ' = σ ∧ τ' = τ ∧ ∃ w, r = nI w ∧ jthr R G bar E K i j s w) := fun g => sp_ret ⟨rfl, rfl, 1000000, rfl, by omega, Or.inr ⟨g, rfl⟩⟩
  -- the step is allowed
  have ok : ∀ c d, jmv R G bar i j s (c, d) → c < 36 → d < 36 → sp (bX8_through_88 (nI s.1) (nI s.2) (nI c) (nI d) σ τ) (fun r σ' τ' => σ' = σ ∧ τ' = τ ∧ ∃ w, r = nI w ∧ jthr R G bar E K i j s w) := by
    intro c d hm hc hd
    have hv' := jmv_val hs hm
    have hy := jiy_lt (s := (c, d)) ⟨hc, hd⟩
    have hKy := hK _ hy
    have fin : ∀ y : Nat, y = ownc s.2 d E.2 → sp (bX8_through_122 (nI c) (nI d) (nI (ownc s.1 c E.1)) (nI y) σ τ) (fun r σ' τ' => σ' = σ ∧ τ' = τ ∧ ∃ w, r = nI w ∧ jthr R G bar E K i j s w) := by
      intro y hy2
      have hp : ownc s.1 c E.1 + y = pay E s (c, d) := by rw [hy2]; rfl
      have hpl := pay_le (E := E) s (c, d)
      unfold bX8_through_122 bX8_through_153
      rw [ni_add, hp, show (36 : Int32) = nI 36 from rfl, ni_mul, ni_add]
      have last : (pay E s (c, d) = 0 → K (jiy (c, d)) < 1000000) → sp (if jp_ok (nI (36 * c + d)) 1476 = true then some (nI (pay E s (c, d)) + σ 27 (nI (36 * c + d)).toNatClampNeg, σ, τ) else none) (fun r σ' τ' => σ' = σ ∧ τ' = τ ∧ ∃ w, r = nI w ∧ jthr R G bar E K i j s w) := by
        intro hz
        unfold jiy at hKy hy hz
        dsimp only at hKy hy hz
        rw [if_pos (ni_ok (by omega) (by omega)), ni_nat (by omega), hKy.1, ni_add]
        refine sp_ret ⟨rfl, rfl, _, rfl, by omega, Or.inl ⟨(c, d), hm, ?_⟩⟩
        by_cases q : K (36 * c + d) < 1000000
        · exact Or.inl ⟨q, rfl⟩
        · exact Or.inr ⟨by unfold jiy; dsimp only; omega, by omega⟩
      refine sp_if (fun z => ?_) (fun z => ?_)
      · rw [show (0 : Int32) = nI 0 from rfl, ni_inj (by omega) (by decide)] at z
        have hlt : 36 * c + d < 1296 := hy
        have hKy' : σ 27 (36 * c + d) = nI (K (36 * c + d)) ∧ K (36 * c + d) ≤ 1000000 := hKy
        refine sp_ok (ni_ok (by omega) (by omega)) ?_
        refine sp_if (fun w => ?_) (fun w => ?_)
        · rw [ni_nat (by omega), hKy'.1, show (1000000 : Int32) = nI 1000000 from rfl, ni_lt (by omega) (by decide)] at w
          exact last (fun _ => w)
        · rw [ni_nat (by omega), hKy'.1, show (1000000 : Int32) = nI 1000000 from rfl, ni_lt (by omega) (by decide)] at w
          exact sp_ret ⟨rfl, rfl, 1000000, rfl, by omega, Or.inl ⟨(c, d), hm, Or.inr ⟨by show 1000000 ≤ K (36 * c + d); omega, Nat.le_refl _⟩⟩⟩
      · rw [show (0 : Int32) = nI 0 from rfl, ni_inj (by omega) (by decide)] at z
        exact last (fun q => absurd q z)
    unfold bX8_through_88
    refine sp_seq (m_goal0 τ h hR) ?_
    dsimp only
    refine sp_seq (m_stays a1.1 hc he.1 σ τ) ?_
    dsimp only
    refine sp_if (fun z => ?_) (fun z => ?_)
    · rw [h.2.1, show (2 : Int32) = nI 2 from rfl, ni_inj (by omega) (by decide)] at z
      refine sp_seq (m_goal1 τ h hR hE2) ?_
      dsimp only
      refine sp_seq (m_stays a1.2 hd he.2 σ τ) ?_
      exact fin _ rfl
    · rw [h.2.1, show (2 : Int32) = nI 2 from rfl, ni_inj (by omega) (by decide)] at z
      refine fin 0 ?_
      have := hv'.2.2 z
      have h2 := hs.2.2 z
      dsimp only at this
      rw [this, h2, hE2 z]; rfl
  -- the moves
  have two : ∀ (c : Nat) (od : Option Nat), mvc G s.1 i = some c → nx1 R G s.2 j = od → sp (bX8_through_36 (nI s.1) (nI s.2) (nI c) (enc od) σ τ) (fun r σ' τ' => σ' = σ ∧ τ' = τ ∧ ∃ w, r = nI w ∧ jthr R G bar E K i j s w) := by
    intro c od hc hd
    have hc36 := opn_lt (mvc_opn hc)
    unfold bX8_through_36
    rw [if_neg (ni_nn (by omega))]
    cases od with
    | none =>
      rw [if_neg (show ¬ 0 ≤ enc none by decide)]
      refine far (fun s' g => ?_)
      have := g.2.1
      rw [hd] at this
      cases this
    | some d =>
      have hd36 : d < 36 := by
        unfold nx1 at hd
        by_cases z : R = 2
        · rw [if_pos z] at hd
          exact opn_lt (mvc_opn hd)
        · rw [if_neg z] at hd
          by_cases y : j = 0
          · rw [if_pos y] at hd; cases hd; exact a1.2
          · rw [if_neg y] at hd; cases hd
      rw [show enc (some d) = nI d from rfl, if_pos (ni_ge0 (by omega))]
      have same : ∀ s', jmv R G bar i j s s' → s' = (c, d) := fun s' h1 => by
        have h2 := h1.1
        have h3 := h1.2.1
        rw [hc] at h2
        rw [hd] at h3
        exact Prod.ext (Option.some.inj h2).symm (Option.some.inj h3).symm
      have mk : jok R bar s (c, d) → jmv R G bar i j s (c, d) := fun g => ⟨hc, hd, g⟩
      refine sp_if (fun z => ?_) (fun z => ?_)
      · rw [h.2.1, show (2 : Int32) = nI 2 from rfl, ni_inj (by omega) (by decide)] at z
        refine sp_if (fun y => ?_) (fun y => ?_)
        · rw [ni_inj (by omega) (by omega)] at y
          refine far (fun s' g => ?_)
          have := (g.2.2 z).1
          rw [same s' g] at this
          exact this y
        · rw [ni_inj (by omega) (by omega)] at y
          refine sp_if (fun hb0 => ?_) (fun hb0 => ?_)
          · exact ok c d (mk (fun _ => ⟨y, fun w => by rw [h.2.2.1, w.1] at hb0; exact absurd hb0 (by decide)⟩)) hc36 hd36
          · have hb : bar = true := by
              rw [h.2.2.1] at hb0
              cases hq : bar with
              | true => rfl
              | false => rw [hq] at hb0; exact absurd rfl hb0
            refine sp_if (fun x => ?_) (fun x => ?_)
            · rw [ni_inj (by omega) (by omega)] at x
              refine sp_if (fun w => ?_) (fun w => ?_)
              · rw [ni_inj (by omega) (by omega)] at w
                refine far (fun s' g => ?_)
                have := (g.2.2 z).2
                rw [same s' g] at this
                exact this ⟨hb, x, w⟩
              · rw [ni_inj (by omega) (by omega)] at w
                exact ok c d (mk (fun _ => ⟨y, fun q => w q.2.2⟩)) hc36 hd36
            · rw [ni_inj (by omega) (by omega)] at x
              exact ok c d (mk (fun _ => ⟨y, fun q => x q.2.1⟩)) hc36 hd36
      · rw [h.2.1, show (2 : Int32) = nI 2 from rfl, ni_inj (by omega) (by decide)] at z
        exact ok c d (mk (fun q => absurd q z)) hc36 hd36
  unfold fX8_through
  refine sp_seq (m_moved τ h.1 a1.1 hi) ?_
  dsimp only
  cases hc : mvc G s.1 i with
  | none =>
    have g : ∀ s', ¬ jmv R G bar i j s s' := fun s' g => by
      have := g.1
      rw [hc] at this
      cases this
    have f36 : ∀ y, sp (bX8_through_36 (nI s.1) (nI s.2) (enc none) y σ τ) (fun r σ' τ' => σ' = σ ∧ τ' = τ ∧ ∃ w, r = nI w ∧ jthr R G bar E K i j s w) := fun y => by
      unfold bX8_through_36
      rw [if_pos (show enc none < 0 by decide)]
      exact far g
    refine sp_if (fun z => ?_) (fun z => ?_)
    · refine sp_seq (m_moved τ h.1 a1.2 hj) ?_
      exact f36 _
    · exact sp_if (fun _ => f36 _) (fun _ => f36 _)
  | some c =>
    rw [show enc (some c) = nI c from rfl]
    refine sp_if (fun z => ?_) (fun z => ?_)
    · rw [h.2.1, show (2 : Int32) = nI 2 from rfl, ni_inj (by omega) (by decide)] at z
      refine sp_seq (m_moved τ h.1 a1.2 hj) ?_
      exact two c _ hc (by unfold nx1; rw [if_pos z])
    · rw [h.2.1, show (2 : Int32) = nI 2 from rfl, ni_inj (by omega) (by decide)] at z
      refine sp_if (fun y => ?_) (fun y => ?_)
      · have y0 : j = 0 := by
          rw [show (0 : Int32) = nI 0 from rfl, ni_inj (by omega) (by decide)] at y
          exact y
        exact two c (some s.2) hc (by unfold nx1; rw [if_neg z, if_pos y0])
      · have y0 : ¬ j = 0 := by
          rw [show (0 : Int32) = nI 0 from rfl, ni_inj (by omega) (by decide)] at y
          exact y
        exact two c none hc (by unfold nx1; rw [if_neg z, if_neg y0])
end JM
