-- the call solve
def solG (R nc : Nat) (mk mm : jp_I → jp_J → Option (Int32 × jp_I × jp_J)) : Prop :=
  ∀ (G : gG) (st en : Nat → Option Nat) (bar : Bool) (sd : Int64) (pl : plT) (σ : jp_I) (τ : jp_J), AO R nc G st en sd pl → RX R nc G st en bar sd pl σ τ → cmp R st en →
    ∃ (pl' : plT) (sd' : Int64), plOk R pl' ∧ 0 ≤ sd' ∧ sd' < 2147483648 ∧ sp (mk (jp_up (jp_up σ 11 3 (-1)) 11 2 0) τ) (fun _ σ' τ' => (∀ i, 20 ≤ i → σ' i = σ i) ∧ τ' 20 = τ 20 ∧ RX R nc G st en bar sd' pl' σ' τ' ∧ σ' 11 3 = enc (pl'.map (fun q => q.1))) ∧
      ∀ (σ1 : jp_I) (τ1 : jp_J), RM R G st en bar sd pl σ1 τ1 → sp (mm σ1 τ1) (fun _ σ' τ' => (∀ i, i < 20 → σ' i = σ1 i) ∧ σ' 20 0 = σ1 20 0 ∧ τ' 9 = τ1 9 ∧ τ' 30 = τ1 30 ∧ RM R G st en bar sd' pl' σ' τ')
theorem op_solveG {R nc : Nat} {p1 : Int32} {mk mm : jp_I → jp_J → Option (Int32 × jp_I × jp_J)} {fs : jp_I → jp_J → Option (Sum Int32 Nat × jp_I × jp_J)} {σ : jp_I} {τ : jp_J}
    (hfs : fs σ τ = if p1 < 0 then some (.inr 0, σ, τ) else (if p1 ≤ 5 then ((fX7_needComplete R nc σ τ).bind fun (o_3, σ_3, τ_3) => match o_3 with
      | .inl _a_3 => ((fX2_drop 11 12 nc σ_3 τ_3).bind fun (a_4, σ_4, τ_4) => (mk σ_4 τ_4).bind fun (a_5, σ_5, τ_5) => some (.inl (σ_5 11 3), σ_5, τ_5))
      | .inr k_3 => some (.inr k_3, σ_3, τ_3)) else some (.inr 0, σ, τ)))
    (hmm : mm = if 3 ≤ R then fX8_byPriorities p1 else fX8_jointly) (hg : ¬ p1 < 0 → p1 ≤ 5 → solG R nc mk mm) (h : Iv R nc σ τ) :
    spc (((fs σ τ).bind fun (o, σ1, τ1) => match o with
      | .inl v => some ((0 : Int32), σ1, jp_upl τ1 30 (0 : Int32).toNatClampNeg v.toInt64)
      | .inr k => if k = 0 then some (1, σ1, τ1) else if k = 1 then some (2, σ1, τ1) else none).bind fun (a_2, σ_2, τ_2) => (fX8_solve p1 σ_2 τ_2).bind fun (a_3, σ_3, τ_3) => (fX8_thrown σ_3 τ_3).bind fun (a_4, σ_4, τ_4) => if a_4 = a_2 then (if a_2 = 0 then (if (lg_cmp (τ_4 30 (0 : Int32).toNatClampNeg) a_3.toInt64) = 0 then (some (σ_4, τ_4)) else (none)) else (some (σ_4, τ_4))) else (none)) (Iv R nc) := by
  obtain ⟨G, st, en, bar, sd, pl, hA, hX, hM⟩ := h
  have bad : (p1 < 0 ∨ ¬ p1 ≤ 5) → fs σ τ = some (.inr 0, σ, τ) ∧ fX8_solve p1 = bX8_solve_10 p1 := by
    intro q
    rw [hfs]
    constructor
    · by_cases c : p1 < 0
      · rw [if_pos c]
      · rw [if_neg c, if_neg (q.resolve_left c)]
    · funext a b
      unfold fX8_solve
      by_cases c : p1 < 0
      · rw [if_pos c]
      · rw [if_neg c, if_neg (q.resolve_left c)]
  by_cases hq : p1 < 0 ∨ ¬ p1 ≤ 5
  · refine op_i (m := fun σ τ => fX8_solve p1 σ τ) (PX := fun k σ1 τ1 => k = 1 ∧ σ1 = σ ∧ τ1 = τ) ?_ ?_
    · rw [(bad hq).1]
      exact sp_ret ⟨rfl, rfl, rfl⟩
    · rintro k σ1 τ1 ⟨rfl, rfl, rfl⟩
      rw [(bad hq).2]
      unfold bX8_solve_10 bX8_solve_26
      rw [jp_up_eq, if_neg (by decide)]
      exact sp_ret ⟨jp_up_eq _ _ _ _, fun q => absurd q (by decide), G, st, en, bar, sd, pl, hA, RX_thr hX 1, RM_thr hM 1⟩
  · have q1 : ¬ p1 < 0 := fun q => hq (Or.inl q)
    have q2 : p1 ≤ 5 := Classical.byContradiction fun q => hq (Or.inr q)
    rw [if_neg q1, if_pos q2] at hfs
    by_cases c : cmp R st en
    · obtain ⟨pl', sd', g1, g2, g3, g4, g5⟩ := hg q1 q2 G st en bar sd pl σ τ hA hX c
      have hA' : AO R nc G st en sd' pl' := ⟨hA.1, hA.2.1, hA.2.2.1, hA.2.2.2.1, hA.2.2.2.2.1, hA.2.2.2.2.2.1, g2, g3, g1⟩
      refine op_i (m := fun σ τ => fX8_solve p1 σ τ) (PX := fun k σ1 τ1 => k = 0 ∧ (∀ i, 20 ≤ i → σ1 i = σ i) ∧ RX R nc G st en bar sd' pl' σ1 τ1 ∧ τ1 20 = τ 20 ∧ τ1 30 0 = (enc (pl'.map (fun q => q.1))).toInt64) ?_ ?_
      · rw [hfs]
        refine sp_bind (P := fun o σ1 τ1 => o = .inl (enc (pl'.map (fun q => q.1))) ∧ (∀ i, 20 ≤ i → σ1 i = σ i) ∧ τ1 20 = τ 20 ∧ RX R nc G st en bar sd' pl' σ1 τ1) ?_ ?_
        · refine sp_bind (s_needComplete hX hA) ?_
          rintro o σ1 τ1 ⟨rfl, rfl, ⟨rfl, -⟩ | ⟨rfl, q⟩⟩
          · dsimp only
            unfold fX2_drop
            rw [Option.bind_some]
            dsimp only
            refine sp_bind g4 ?_
            rintro x σ2 τ2 ⟨f1, f2, f3, f4⟩
            exact sp_ret ⟨congrArg Sum.inl f4, f1, f2, f3⟩
          · exact absurd c q
        · rintro o σ1 τ1 ⟨rfl, f1, f2, f3⟩
          exact sp_ret ⟨rfl, f1, RX_congr f3 (fun _ _ => rfl) (jp_upl_n _ _ (by decide)), by rw [jp_upl_n _ _ (by decide)]; exact f2, by rw [jp_c30, jp_upl_eq]⟩
      · rintro k σ1 τ1 ⟨rfl, f1, f2, f3, f4⟩
        have hM1 : RM R G st en bar sd pl σ1 τ1 := RM_congr hM (fun k _ => by rw [f1 20 (by decide)]) (fun i h3 h4 => f1 i (by omega)) f3
        unfold fX8_solve
        rw [if_neg q1, if_pos q2]
        refine sp_bind (m_missing hM1 hA) ?_
        rintro x σ2 τ2 ⟨rfl, rfl, ⟨rfl, -⟩ | ⟨rfl, q⟩⟩
        · dsimp only
          rw [if_pos rfl]
          have hM2 := RM_thr hM1 0
          have hmain := g5 _ _ hM2
          have hfin : ∀ σ3 τ3, ((∀ i, i < 20 → σ3 i = (jp_up σ2 20 0 0) i) ∧ σ3 20 0 = (jp_up σ2 20 0 0) 20 0 ∧ τ3 9 = τ2 9 ∧ τ3 30 = τ2 30 ∧ RM R G st en bar sd' pl' σ3 τ3) → sp (bX8_solve_58 σ3 τ3) (fun v σ2 τ2 => σ2 20 0 = 0 ∧ ((0 : Int32) = 0 → τ2 30 (0 : Int32).toNatClampNeg = v.toInt64) ∧ Iv R nc σ2 τ2) := by
            rintro σ3 τ3 ⟨k1, k2, k3, k4, k5⟩
            have hiv : Iv R nc σ3 τ3 := ⟨G, st, en, bar, sd', pl', hA', RX_congr f2 (fun i hi => by rw [k1 i hi, jp_up_n _ _ (by omega)]) k3, k5⟩
            have h0 : σ3 20 0 = 0 := by rw [k2, jp_up_eq]
            unfold bX8_solve_58
            obtain ⟨-, -, -, -, -, -, hpm⟩ := k5
            cases hp : pl' with
            | none =>
              rw [if_pos (hpm.1 hp)]
              exact sp_ret ⟨h0, fun _ => by rw [jp_c30, k4, f4, hp]; rfl, hiv⟩
            | some w =>
              obtain ⟨cc, t, f⟩ := w
              obtain ⟨u1, u2, u3, u4, u5⟩ := hpm.2 cc t f hp
              rw [u1, if_neg (by decide), u3]
              exact sp_ret ⟨h0, fun _ => by rw [jp_c30, k4, f4, hp]; rfl, hiv⟩
          unfold bX8_solve_26
          rw [jp_up_eq, if_pos rfl, hM2.1]
          rw [hmm] at hmain
          by_cases r3 : 3 ≤ R
          · rw [if_pos r3] at hmain
            rw [if_pos (by rw [show (3 : Int32) = nI 3 from rfl]; exact (ni_le (by decide) (by have := hA.1; omega)).mpr r3)]
            refine sp_bind hmain ?_
            rintro x σ3 τ3 hx
            exact hfin σ3 τ3 hx
          · rw [if_neg r3] at hmain
            rw [if_neg (by rw [show (3 : Int32) = nI 3 from rfl]; exact fun q => r3 ((ni_le (by decide) (by have := hA.1; omega)).mp q))]
            refine sp_bind hmain ?_
            rintro x σ3 τ3 hx
            exact hfin σ3 τ3 hx
        · exact absurd c q
    · refine op_i (m := fun σ τ => fX8_solve p1 σ τ) (PX := fun k σ1 τ1 => k = 2 ∧ σ1 = σ ∧ τ1 = τ) ?_ ?_
      · rw [hfs]
        refine sp_bind (P := fun o σ1 τ1 => o = .inr 1 ∧ σ1 = σ ∧ τ1 = τ) ?_ ?_
        · refine sp_bind (s_needComplete hX hA) ?_
          rintro o σ1 τ1 ⟨rfl, rfl, ⟨rfl, q⟩ | ⟨rfl, q⟩⟩
          · exact absurd q c
          · exact sp_ret ⟨rfl, rfl, rfl⟩
        · rintro o σ1 τ1 ⟨rfl, rfl, rfl⟩
          exact sp_ret ⟨rfl, rfl, rfl⟩
      · rintro k σ1 τ1 ⟨rfl, rfl, rfl⟩
        unfold fX8_solve
        rw [if_neg q1, if_pos q2]
        refine sp_bind (m_missing hM hA) ?_
        rintro x σ2 τ2 ⟨rfl, rfl, ⟨rfl, q⟩ | ⟨rfl, q⟩⟩
        · exact absurd q c
        · dsimp only
          rw [if_neg (by decide)]
          unfold bX8_solve_26
          rw [jp_up_eq, if_neg (by decide)]
          exact sp_ret ⟨jp_up_eq _ _ _ _, fun q => absurd q (by decide), G, st, en, bar, sd, pl, hA, RX_thr hX 2, RM_thr hM 2⟩
theorem op_solveJ {R nc nl L j : Nat} {xs : Nat → Int32} (hL : L ≤ 2049) (hj : j + 4 ≤ L) (hR : R ≤ 2) (hn : jNL R nl nc) {σ : jp_I} {τ : jp_J} (h : Iv R nc σ τ) : spc (fC_solveJ R nc nl L xs (nI j) σ τ) (Iv R nc) := by
  unfold fC_solveJ
  rw [show (1 : Int32) = nI 1 from rfl, (jq_idx hj hL (by decide)).2]
  refine spc_ok (jq_idx hj hL (by decide)).1 ?_
  unfold fL_solveJ
  refine op_solveG (mk := fX1_make R nc nl (xs (j + 1))) (mm := fX8_jointly) (fs := fX7_solveJ R nc nl (xs (j + 1))) rfl (by rw [if_neg (by omega)]) ?_ h
  intro _ _ G st en bar sd pl σ τ hA hX hc
  obtain ⟨pl', g1, g2, g3⟩ := sol_J (p1 := xs (j + 1)) hA hX hR hn hc
  refine ⟨pl', sd, g1, hA.2.2.2.2.2.2.1, hA.2.2.2.2.2.2.2.1, sp_mono g2 ?_, fun σ1 τ1 hM => sp_mono (g3 σ1 τ1 hM) ?_⟩
  · rintro x σ' τ' ⟨rfl, f1, f2, f3⟩
    exact ⟨f1, rfl, f2, f3⟩
  · rintro x σ' τ' ⟨rfl, f1, f2, f3⟩
    exact ⟨f1, f2, rfl, rfl, f3⟩
theorem op_solveP' {R nc L j : Nat} {xs : Nat → Int32} (hL : L ≤ 2049) (hj : j + 4 ≤ L) (hR : 3 ≤ R) (hg : ¬ xs (j + 1) < 0 → xs (j + 1) ≤ 5 → solG R nc (fX4_make R nc (xs (j + 1))) (fX8_byPriorities (xs (j + 1)))) {σ : jp_I} {τ : jp_J} (h : Iv R nc σ τ) : spc (fC_solveP R nc L xs (nI j) σ τ) (Iv R nc) := by
  unfold fC_solveP
  rw [show (1 : Int32) = nI 1 from rfl, (jq_idx hj hL (by decide)).2]
  refine spc_ok (jq_idx hj hL (by decide)).1 ?_
  unfold fL_solveP
  exact op_solveG (mk := fX4_make R nc (xs (j + 1))) (mm := fX8_byPriorities (xs (j + 1))) (fs := fX7_solveP R nc (xs (j + 1))) rfl (by rw [if_pos hR]) hg h
