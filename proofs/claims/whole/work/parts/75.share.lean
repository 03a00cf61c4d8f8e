-- share
theorem op_share {R nc L j : Nat} {xs : Nat → Int32} (hL : L ≤ 2049) (hj : j + 4 ≤ L) {σ : jp_I} {τ : jp_J} (h : Iv R nc σ τ) : spc (fC_share R nc L xs (nI j) σ τ) (Iv R nc) := by
  obtain ⟨G, st, en, bar, sd, pl, hA, hX, hM⟩ := h
  have hpl := hX.2.2.2.2.2.2.2.2.2.1
  have hok := hA.2.2.2.2.2.2.2.2
  unfold fC_share
  have hD : ∀ r, ∃ o, ∀ s e, st r = some s → en r = some e → isD (opn G) s e o := fun r => by
    cases e1 : st r with
    | none => exact ⟨none, fun s e h => by cases h⟩
    | some s =>
      cases e2 : en r with
      | none => exact ⟨none, fun s e _ h => by cases h⟩
      | some e =>
        obtain ⟨o, ho⟩ := isD_ex G s e
        exact ⟨o, fun s' e' h1 h2 => by cases h1; cases h2; exact ho⟩
  obtain ⟨D, hD⟩ : ∃ D : Nat → Option Nat, ∀ r s e, st r = some s → en r = some e → isD (opn G) s e (D r) := ⟨fun r => (hD r).choose, fun r => (hD r).choose_spec⟩
  -- refusals
  have no : ∀ k : Int32, k ≠ 0 → fL_share R nc σ τ = some (k, σ, τ) → sp (fX8_share σ τ) (fun _ σ' τ' => σ' = jp_up σ 20 0 k ∧ τ' = τ) → spc ((fL_share R nc σ τ).bind fun x => match x with
      | (a_1, σ_1, τ_1) => (fX8_share σ_1 τ_1).bind fun x => match x with
        | (a_2, σ_2, τ_2) => (fX8_thrown σ_2 τ_2).bind fun x => match x with
          | (a_3, σ_3, τ_3) => if a_3 = a_1 then (if a_1 = 0 then (if (lg_cmp (τ_3 30 (0 : Int32).toNatClampNeg) a_2.toInt64) = 0 then some (σ_3, τ_3) else none) else some (σ_3, τ_3)) else none) (Iv R nc) := by
    intro k hk h1 h2
    refine op_i (m := fun σ τ => fX8_share σ τ) (PX := fun k1 σ1 τ1 => k1 = k ∧ σ1 = σ ∧ τ1 = τ) (sp_pure h1 ⟨rfl, rfl, rfl⟩) ?_
    rintro k1 σ1 τ1 ⟨rfl, rfl, rfl⟩
    refine sp_mono h2 ?_
    rintro v σ2 τ2 ⟨rfl, rfl⟩
    exact ⟨jp_up_eq _ _ _ _, fun q => absurd q hk, G, st, en, bar, sd, pl, hA, RX_thr hX k1, RM_thr hM k1⟩
  have m15 : sp (bX8_share_15 σ τ) (fun _ σ' τ' => σ' = jp_up σ 20 0 1 ∧ τ' = τ) := by
    unfold bX8_share_15 bX8_share_31
    rw [jp_up_eq, if_neg (by decide)]
    exact sp_ret ⟨rfl, rfl⟩
  cases e : pl with
  | none =>
    refine no 1 (by decide) ?_ ?_
    · unfold fL_share fX7_share
      rw [s_needPlan τ hpl hok, e]
      rfl
    · unfold fX8_share
      rw [if_pos (hM.2.2.2.2.2.2.1 e)]
      exact m15
  | some q =>
    obtain ⟨c, t, f⟩ := q
    obtain ⟨q1, q2, q3, q4, q5⟩ := hM.2.2.2.2.2.2.2 c t f e
    have hc6 := (hok c t f e).1
    have hcx : σ 11 3 = nI c := (hpl.2.2 c t f e).1
    have hcz : nI c = 0 ↔ c = 0 := by
      rw [show (0 : Int32) = nI 0 from rfl, ni_inj (by omega) (by decide)]
    have hNP : fX7_needPlan R nc σ τ = some (.inl 0, σ, τ) := by rw [s_needPlan τ hpl hok, e]; rfl
    obtain ⟨o0, σ0, τ0, hNC, rfl, rfl, hcase⟩ := s_needComplete hX hA
    obtain ⟨v0, σ9, τ9, hMI, rfl, rfl, hcase2⟩ := m_missing hM hA
    by_cases cm : cmp R st en
    · have ho : o0 = .inl 0 := by
        rcases hcase with ⟨a, -⟩ | ⟨-, a⟩
        · exact a
        · exact absurd cm a
      have hv : v0 = 0 := by
        rcases hcase2 with ⟨a, -⟩ | ⟨-, a⟩
        · exact a
        · exact absurd cm a
      subst ho
      subst hv
      by_cases z : c = 0
      · refine no 2 (by decide) ?_ ?_
        · unfold fL_share fX7_share
          rw [hNP, Option.bind_some]
          dsimp only
          rw [hNC, Option.bind_some]
          dsimp only
          rw [if_pos (by rw [hcx, hcz]; exact z)]
          rfl
        · unfold fX8_share
          rw [if_neg (by rw [q1]; decide)]
          refine sp_seq hMI ?_
          dsimp only
          rw [if_pos rfl, if_pos (by rw [q3, hcz]; exact z)]
          unfold bX8_share_31
          rw [jp_up_eq, if_neg (by decide)]
          exact sp_ret ⟨rfl, rfl⟩
      · refine op_i (m := fun σ τ => fX8_share σ τ) (PX := fun k σ1 τ1 => k = 0 ∧ (∀ i, i ≠ 7 → i ≠ 8 → σ1 i = σ9 i) ∧ ∃ v : Int32, τ1 = jp_upl τ9 30 0 ((100 * v) / nI c).toInt64 ∧ ((v = -1 ∧ ∃ r, r < R ∧ D r = none) ∨ ((∀ r, r < R → D r ≠ none) ∧ v = nI (sm (fun r => (D r).getD 0) R)))) ?_ ?_
        · unfold fL_share
          refine sp_bind (P := fun o σ1 τ1 => (∀ i, i ≠ 7 → i ≠ 8 → σ1 i = σ9 i) ∧ τ1 = τ9 ∧ ∃ v : Int32, o = .inl ((100 * v) / nI c) ∧ ((v = -1 ∧ ∃ r, r < R ∧ D r = none) ∨ ((∀ r, r < R → D r ≠ none) ∧ v = nI (sm (fun r => (D r).getD 0) R)))) ?_ ?_
          · unfold fX7_share
            refine sp_seq hNP ?_
            dsimp only
            refine sp_seq hNC ?_
            dsimp only
            rw [if_neg (by rw [hcx, hcz]; exact z)]
            refine sp_bind (s_allWays hX hA cm D (fun r s e _ => hD r s e)) ?_
            rintro v σ2 τ2 ⟨rfl, h1, h2⟩
            dsimp only
            rw [if_neg (by rw [hcx, hcz]; exact z), hcx]
            exact sp_ret ⟨h1, rfl, v, rfl, h2⟩
          · rintro o σ1 τ1 ⟨h1, rfl, v, rfl, h2⟩
            exact sp_ret ⟨rfl, h1, v, by rw [jp_c30], h2⟩
        · rintro k σ1 τ1 ⟨rfl, h1, v, rfl, h2⟩
          have hX1 : RX R nc G st en bar sd pl σ1 (jp_upl τ9 30 0 ((100 * v) / nI c).toInt64) := RX_congr (RX_78 hX h1) (fun _ _ => rfl) (jp_upl_n _ _ (by decide))
          have hM1 : RM R G st en bar sd pl σ1 (jp_upl τ9 30 0 ((100 * v) / nI c).toInt64) := RM_congr hM (fun k _ => by rw [h1 20 (by decide) (by decide)]) (fun i h3 h4 => h1 i (by omega) (by omega)) (jp_upl_n _ _ (by decide))
          obtain ⟨r1, r2, r3, r4, r5⟩ := hM1.2.2.2.2.2.2.2 c t f e
          unfold fX8_share
          rw [if_neg (by rw [r1]; decide)]
          refine sp_bind (m_missing hM1 hA) ?_
          rintro x σ2 τ2 ⟨rfl, rfl, ⟨rfl, -⟩ | ⟨rfl, q⟩⟩
          · dsimp only
            rw [if_pos rfl, if_neg (by rw [r3, hcz]; exact z)]
            unfold bX8_share_31
            rw [jp_up_eq, if_pos rfl]
            have hM2 := RM_thr hM1 0
            refine sp_bind (m_boundOf hM2 hA cm D (fun r s e _ => hD r s e)) ?_
            rintro w σ3 τ3 ⟨rfl, h3, h4⟩
            dsimp only
            have e11 : σ3 20 11 = nI c := by rw [h3 20 (by decide), jp_up_ne _ _ _ (by decide), r3]
            have hwv : w = v := by
              rcases h2 with ⟨a1, r, hr, a2⟩ | ⟨a1, a2⟩
              · rcases h4 with ⟨b1, -⟩ | ⟨b1, -⟩
                · rw [a1, b1]
                · exact absurd a2 (b1 r hr)
              · rcases h4 with ⟨-, r, hr, b2⟩ | ⟨-, b2⟩
                · exact absurd b2 (a1 r hr)
                · rw [a2, b2]
            rw [e11, if_neg (by rw [hcz]; exact z)]
            exact sp_ret ⟨by rw [h3 20 (by decide), jp_up_eq], fun _ => by rw [jp_c30, jp_upl_eq, hwv], G, st, en, bar, sd, pl, hA, RX_congr (RX_thr hX1 0) (fun i hi => h3 i (by omega)) rfl, RM_27 hM2 h3⟩
          · exact absurd cm q
    · have ho : o0 = .inr 1 := by
        rcases hcase with ⟨-, a⟩ | ⟨a, -⟩
        · exact absurd a cm
        · exact a
      have hv : v0 = 1 := by
        rcases hcase2 with ⟨-, a⟩ | ⟨a, -⟩
        · exact absurd a cm
        · exact a
      subst ho
      subst hv
      refine no 1 (by decide) ?_ ?_
      · unfold fL_share fX7_share
        rw [hNP, Option.bind_some]
        dsimp only
        rw [hNC, Option.bind_some]
        rfl
      · unfold fX8_share
        rw [if_neg (by rw [q1]; decide)]
        refine sp_seq hMI ?_
        dsimp only
        rw [if_neg (by decide)]
        exact m15
