-- solve, for two robots at most
def jNL (R nl nc : Nat) : Prop := (R = 0 → nl = 1) ∧ (R = 1 → nl = 36) ∧ (R = 2 → nl = 1296) ∧ nc = R * nl
theorem RX_drop {R nc : Nat} {G : gG} {st en : Nat → Option Nat} {bar : Bool} {sd : Int64} {pl : plT} {σ : jp_I} {τ : jp_J} (h : RX R nc G st en bar sd pl σ τ) : RX R nc G st en bar sd none (jp_up (jp_up σ 11 3 (-1)) 11 2 0) τ := by
  obtain ⟨x0, x1, x2, x3, x4, x5, x6, x7, x8, x9, x10, x11⟩ := h
  have ne : ∀ i, i ≠ 11 → (jp_up (jp_up σ 11 3 (-1)) 11 2 0) i = σ i := fun i hi => by rw [jp_up_n _ _ hi, jp_up_n _ _ hi]
  exact ⟨by rw [ne 0 (by decide)]; exact x0, by rw [ne 1 (by decide)]; exact x1, scX_congr x2 (ne 2 (by decide)) (ne 5 (by decide)), chX_congr x3 (ne 6 (by decide)), by rw [ne 2 (by decide)]; exact x4, fun r hr => by rw [ne 3 (by decide)]; exact x5 r hr, fun r hr => by rw [ne 4 (by decide)]; exact x6 r hr, by rw [ne 1 (by decide)]; exact x7, x8, ⟨by rw [jp_up_ne _ _ _ (by decide), jp_up_ne _ _ _ (by decide)]; exact x9.1, fun _ => by rw [jp_up_ne _ _ _ (by decide), jp_up_eq], fun c t f q => by cases q⟩, fun q => by rw [ne 13 (by decide)]; exact x10 q, fun q => by rw [ne 14 (by decide)]; exact x11 q⟩
theorem AO_pl {R nc : Nat} {G : gG} {st en : Nat → Option Nat} {sd : Int64} {pl pl' : plT} (h : AO R nc G st en sd pl) (hp : plOk R pl') : AO R nc G st en sd pl' := ⟨h.1, h.2.1, h.2.2.1, h.2.2.2.1, h.2.2.2.2.1, h.2.2.2.2.2.1, h.2.2.2.2.2.2.1, h.2.2.2.2.2.2.2.1, hp⟩
/-- the class's state behind a plan: all else as it was -/
theorem RX_pl {R nc : Nat} {G : gG} {st en : Nat → Option Nat} {bar : Bool} {sd : Int64} {pl pl' : plT} {σ σ' : jp_I} {τ τ' : jp_J} (h : RX R nc G st en bar sd pl σ τ) (hf : ∀ i, i < 7 → σ' i = σ i) (h13 : R ≤ 2 → σ' 13 1 = nI R) (h14 : 3 ≤ R → σ' 14 0 = nI R) (ht : τ' 9 1 = sd) (hp : plX R nc pl' σ') : RX R nc G st en bar sd pl' σ' τ' := by
  obtain ⟨x0, x1, x2, x3, x4, x5, x6, x7, x8, x9, x10, x11⟩ := h
  exact ⟨by rw [hf 0 (by decide)]; exact x0, by rw [hf 1 (by decide)]; exact x1, scX_congr x2 (hf 2 (by decide)) (hf 5 (by decide)), chX_congr x3 (hf 6 (by decide)), by rw [hf 2 (by decide)]; exact x4, fun r hr => by rw [hf 3 (by decide)]; exact x5 r hr, fun r hr => by rw [hf 4 (by decide)]; exact x6 r hr, by rw [hf 1 (by decide)]; exact x7, ht, hp, h13, h14⟩
theorem jpl_val {R : Nat} {G : gG} {bar : Bool} {E s0 : jS} {t v : Nat} {p : Nat → jS} (hs : jval R G s0) (hl : lst R G bar E v s0) (h : jpl R G bar E s0 t p) : ∀ k, k ≤ t → jval R G (p k) := by
  have key : ∀ k, k ≤ t → jval R G (p k) ∧ ∃ u, lst R G bar E u (p k) := by
    intro k
    induction k with
    | zero => intro _; rw [h.1]; exact ⟨hs, v, hl⟩
    | succ k ih =>
      intro hk
      obtain ⟨h1, u, h2⟩ := ih (by omega)
      obtain ⟨h3, h4⟩ := h.2.2 k (by omega)
      obtain ⟨h5, u', h6, -⟩ := jfs_next h1 h2 h3 h4
      exact ⟨h5, u', h6⟩
  exact fun k hk => (key k hk).1
/-- what both make of a task -/
theorem sol_J {R nc nl : Nat} {G : gG} {st en : Nat → Option Nat} {bar : Bool} {sd : Int64} {pl : plT} {σ : jp_I} {τ : jp_J} {p1 : Int32} (hA : AO R nc G st en sd pl) (hX : RX R nc G st en bar sd pl σ τ) (hR : R ≤ 2) (hn : jNL R nl nc) (hc : cmp R st en) :
    ∃ pl' : plT, plOk R pl' ∧ sp (fX1_make R nc nl p1 (jp_up (jp_up σ 11 3 (-1)) 11 2 0) τ) (fun _ σ' τ' => τ' = τ ∧ (∀ i, 20 ≤ i → σ' i = σ i) ∧ RX R nc G st en bar sd pl' σ' τ' ∧ σ' 11 3 = enc (pl'.map (fun q => q.1))) ∧
      ∀ (σ1 : jp_I) (τ1 : jp_J), RM R G st en bar sd pl σ1 τ1 → sp (fX8_jointly σ1 τ1) (fun _ σ' τ' => τ' = τ1 ∧ (∀ i, i < 20 → σ' i = σ1 i) ∧ σ' 20 0 = σ1 20 0 ∧ RM R G st en bar sd pl' σ' τ') := by
  have hX0 := RX_drop hX
  have hA0 := AO_pl hA (plOk_none R)
  obtain ⟨n0, n1, n2, n3⟩ := hn
  by_cases z : R = 0
  · subst z
    have hnl := n0 rfl
    subst hnl
    refine ⟨some (0, 0, fun _ _ => 0), fun c t f q => by cases q; exact ⟨by decide, by decide, fun r k hr => absurd hr (Nat.not_lt_zero _)⟩, ?_, ?_⟩
    · refine sp_mono (s_make0 (nc := nc) (hX0.2.2.2.2.2.2.2.2.2.2.1 (by decide))) ?_
      rintro _ σ' τ' ⟨rfl, f1, f2, f3, f4, f5⟩
      refine ⟨rfl, fun i hi => by rw [f1 i (by omega) (by omega) (by omega) (by omega) (by omega), jp_up_n _ _ (by omega), jp_up_n _ _ (by omega)], RX_pl hX0 (fun i hi => f1 i (by omega) (by omega) (by omega) (by omega) (by omega)) (fun _ => f2) (fun q => absurd q (by decide)) hX0.2.2.2.2.2.2.2.2.1 ⟨by rw [f3]; exact hX0.2.2.2.2.2.2.2.2.2.1.1, fun q => (by cases q), fun c t f q => by cases q; exact ⟨f4, f5, by omega, fun r k hr => absurd hr (Nat.not_lt_zero _)⟩⟩, f4⟩
    · intro σ1 τ1 hM
      obtain ⟨m0, m1, m2, m3, m4, m5, m6⟩ := hM
      unfold fX8_jointly
      have e1 : (jp_up (jp_up σ1 20 10 1) 20 12 0) 20 1 = 0 := by rw [jp_up_ne _ _ _ (by decide), jp_up_ne _ _ _ (by decide)]; exact m0
      rw [if_pos e1]
      have ne : ∀ i, i ≠ 20 → (jp_up (jp_up (jp_up (jp_up σ1 20 10 1) 20 12 0) 20 11 0) 20 9 1) i = σ1 i := fun i hi => by rw [jp_up_n _ _ hi, jp_up_n _ _ hi, jp_up_n _ _ hi, jp_up_n _ _ hi]
      have k20 : ∀ k, k ≠ 9 → k ≠ 10 → k ≠ 11 → k ≠ 12 → (jp_up (jp_up (jp_up (jp_up σ1 20 10 1) 20 12 0) 20 11 0) 20 9 1) 20 k = σ1 20 k := fun k a b c d => by rw [jp_up_ne _ _ _ a, jp_up_ne _ _ _ c, jp_up_ne _ _ _ d, jp_up_ne _ _ _ b]
      refine sp_ret ⟨rfl, fun i hi => ne i (by omega), k20 0 (by decide) (by decide) (by decide) (by decide), ?_⟩
      refine ⟨by rw [k20 1 (by decide) (by decide) (by decide) (by decide)]; exact m0, scM_congr m1 (k20 2 (by decide) (by decide) (by decide) (by decide)) (k20 3 (by decide) (by decide) (by decide) (by decide)) (ne 21 (by decide)), fun r hr => absurd hr (Nat.not_lt_zero _), fun r hr => absurd hr (Nat.not_lt_zero _), by rw [k20 7 (by decide) (by decide) (by decide) (by decide)]; exact m4, m5, fun q => (by cases q), fun c t f q => ?_⟩
      cases q
      exact ⟨by rw [jp_up_eq], by rw [jp_up_ne _ _ _ (by decide), jp_up_ne _ _ _ (by decide), jp_up_ne _ _ _ (by decide), jp_up_eq]; rfl, by rw [jp_up_ne _ _ _ (by decide), jp_up_eq]; rfl, by rw [jp_up_ne _ _ _ (by decide), jp_up_ne _ _ _ (by decide), jp_up_eq]; rfl, fun r k hr => absurd hr (Nat.not_lt_zero _)⟩
  · have hR2 : 1 ≤ R ∧ R ≤ 2 := ⟨by omega, hR⟩
    have hn' : jnl R nl := ⟨n2, fun q => n1 (by omega)⟩
    obtain ⟨s0, hs0⟩ := jtask_ex (st := st) hR (fun r hr => by obtain ⟨s, e, h1, -⟩ := hc r hr; exact ⟨s, h1⟩)
    obtain ⟨E, hE0⟩ := jtask_ex (st := en) hR (fun r hr => by obtain ⟨s, e, -, h1⟩ := hc r hr; exact ⟨e, h1⟩)
    obtain ⟨a1, a2, a3, a4, a5, a6, -⟩ := id hA
    have hs := jtask_val hR2 hs0 a3 a5
    have hE := jtask_val hR2 hE0 a4 a6
    have hb : ∀ v, lst R G bar E v s0 → jbd R v := fun v hv => jb_lst hs hE hv
    have hb4 : ∀ v, lst R G bar E v s0 → v ≤ 399 := fun v hv => by
      have := hb v hv
      by_cases q : R = 2
      · exact this.1 q
      · have := this.2 q; omega
    have hmk := s_makeJ (p := p1) hX0 hA0 hR2 hn' n3 hs0 hE0 hb
    have pos36 : ∀ {t v : Nat} {p : Nat → jS}, lst R G bar E v s0 → jpl R G bar E s0 t p → ∀ r k, r < R → k ≤ t → jpos (p k) r < 36 := by
      intro t v p hl hp r k hr hk
      have := jval_lt (jpl_val hs hl hp k hk)
      unfold jpos
      split <;> omega
    by_cases c : ∃ v, lst R G bar E v s0
    · -- a plan
      obtain ⟨x, σ2, τ2, hx, rfl, f1, f2, f3, hpx⟩ := hmk
      rcases hpx with ⟨v, t, p, hl, hp, htv, e3, e2, hnc, hcell⟩ | ⟨hno, -⟩
      · have hv := hb4 v hl
        have hplX : plX R nc (some (v, t, fun r k => jpos (p k) r)) σ2 := ⟨f3, fun q => (by cases q), fun c t' f q => by cases q; exact ⟨e3, e2, hnc, hcell⟩⟩
        refine ⟨some (v, t, fun r k => jpos (p k) r), fun c t' f q => by cases q; exact ⟨by omega, by omega, fun r k hr hk => pos36 hl hp r k hr hk⟩, ⟨x, σ2, τ2, hx, rfl, fun i hi => by rw [f1 i (by omega) (by omega) (by omega) (by omega) (by omega), jp_up_n _ _ (by omega), jp_up_n _ _ (by omega)], RX_pl hX0 (fun i hi => f1 i (by omega) (by omega) (by omega) (by omega) (by omega)) (fun _ => f2) (fun q => by omega) hX0.2.2.2.2.2.2.2.2.1 hplX, e3⟩, ?_⟩
        intro σ1 τ1 hM
        refine sp_mono (m_jointly hM hA hR2 hs0 hE0 hb4) ?_
        rintro _ σ' τ' ⟨rfl, g1, g2, hpm⟩
        rcases hpm with ⟨v', t', p', hl', hp', -, e9, e10, e11, e12, hc24⟩ | ⟨hno, -⟩
        · obtain ⟨m0, m1, m2, m3, m4, m5, m6⟩ := hM
          have hvv := lst_uniq hl hl'
          obtain ⟨ht', hpp⟩ := jpl_uniq hp hp'
          subst hvv
          subst ht'
          refine ⟨rfl, fun i hi => g1 i (by omega) (by omega) (by omega), g2 0 (by decide) (by decide) (by decide) (by decide), ?_⟩
          refine ⟨by rw [g2 1 (by decide) (by decide) (by decide) (by decide)]; exact m0, scM_congr m1 (g2 2 (by decide) (by decide) (by decide) (by decide)) (g2 3 (by decide) (by decide) (by decide) (by decide)) (g1 21 (by decide) (by decide) (by decide)), fun r hr => by rw [g1 22 (by decide) (by decide) (by decide)]; exact m2 r hr, fun r hr => by rw [g1 23 (by decide) (by decide) (by decide)]; exact m3 r hr, by rw [g2 7 (by decide) (by decide) (by decide) (by decide)]; exact m4, m5, fun q => (by cases q), fun c t2 f q => ?_⟩
          cases q
          refine ⟨e9, by rw [e10, show decide (R ≤ 2) = true from decide_eq_true hR]; rfl, e11, e12, fun r k hr hk => ?_⟩
          have h24 := hc24 k hk
          rw [← hpp k hk] at h24
          by_cases q0 : r = 0
          · subst q0
            rw [show 400 * 0 + k = k by omega]
            exact h24.1
          · rw [show r = 1 by omega, show 400 * 1 + k = 400 + k by omega]
            exact h24.2
        · exact absurd hl (hno v)
      · obtain ⟨v, hv⟩ := c
        exact absurd hv (hno v)
    · obtain ⟨x, σ2, τ2, hx, rfl, f1, f2, f3, hpx⟩ := hmk
      rcases hpx with ⟨v, t, p, hl, -⟩ | ⟨-, e3⟩
      · exact absurd ⟨v, hl⟩ c
      · have hplX : plX R nc none σ2 := ⟨f3, fun _ => e3, fun c t f q => by cases q⟩
        refine ⟨none, plOk_none R, ⟨x, σ2, τ2, hx, rfl, fun i hi => by rw [f1 i (by omega) (by omega) (by omega) (by omega) (by omega), jp_up_n _ _ (by omega), jp_up_n _ _ (by omega)], RX_pl hX0 (fun i hi => f1 i (by omega) (by omega) (by omega) (by omega) (by omega)) (fun _ => f2) (fun q => by omega) hX0.2.2.2.2.2.2.2.2.1 hplX, e3⟩, ?_⟩
        intro σ1 τ1 hM
        refine sp_mono (m_jointly hM hA hR2 hs0 hE0 hb4) ?_
        rintro _ σ' τ' ⟨rfl, g1, g2, hpm⟩
        rcases hpm with ⟨v', t', p', hl', -⟩ | ⟨-, e9⟩
        · exact absurd ⟨v', hl'⟩ c
        · obtain ⟨m0, m1, m2, m3, m4, m5, m6⟩ := hM
          refine ⟨rfl, fun i hi => g1 i (by omega) (by omega) (by omega), g2 0 (by decide) (by decide) (by decide) (by decide), ?_⟩
          exact ⟨by rw [g2 1 (by decide) (by decide) (by decide) (by decide)]; exact m0, scM_congr m1 (g2 2 (by decide) (by decide) (by decide) (by decide)) (g2 3 (by decide) (by decide) (by decide) (by decide)) (g1 21 (by decide) (by decide) (by decide)), fun r hr => by rw [g1 22 (by decide) (by decide) (by decide)]; exact m2 r hr, fun r hr => by rw [g1 23 (by decide) (by decide) (by decide)]; exact m3 r hr, by rw [g2 7 (by decide) (by decide) (by decide) (by decide)]; exact m4, m5, fun _ => e9, fun c t f q => by cases q⟩
