-- the calls that don't search
theorem s_renew {R w h : Nat} (hR : R ≤ 4) (hw : 1 ≤ w ∧ w ≤ 6) (hh : 1 ≤ h ∧ h ≤ 6) (σ : jp_I) (τ : jp_J) : sp (fX5_renew R (nI w) (nI h) σ τ) (fun r σ' τ' => τ' = τ ∧ scX (w, h, fun _ => false) σ' ∧ chX (w, h, fun _ => false) σ' ∧ σ' 2 6 = 0 ∧ (∀ r, r < R → σ' 3 r = -1) ∧ (∀ r, r < R → σ' 4 r = -1) ∧ ∀ i, i ≠ 2 → i ≠ 3 → i ≠ 4 → i ≠ 5 → i ≠ 6 → σ' i = σ i) := by
  unfold fX5_renew
  refine sp_bind (s_clear hw hh σ τ) ?_
  rintro r σ1 τ1 ⟨rfl, h1, h2, h3, h4⟩
  dsimp only
  refine sp_seq (s_fill 3 _ _ _ (by omega)) ?_
  dsimp only
  refine sp_seq (s_fill 4 _ _ _ (by omega)) ?_
  dsimp only
  refine sp_ret ⟨rfl, scX_congr h1 ?_ ?_, chX_congr h2 ?_, ?_, ?_, ?_, ?_⟩
  · rw [jp_row_n _ _ (by decide), jp_row_n _ _ (by decide)]
  · rw [jp_row_n _ _ (by decide), jp_row_n _ _ (by decide)]
  · rw [jp_row_n _ _ (by decide), jp_row_n _ _ (by decide)]
  · rw [jp_row_n _ _ (by decide), jp_row_n _ _ (by decide)]; exact h3
  · intro r hr
    rw [jp_row_n _ _ (by decide), jp_row_s, if_pos hr]
  · intro r hr
    rw [jp_row_s, if_pos hr]
  · intro i a2 a3 a4 a5 a6
    rw [jp_row_n _ _ a4, jp_row_n _ _ a3]
    exact h4 i a2 a5 a6
theorem m_fresh {w h : Nat} (σ : jp_I) (τ : jp_J) : sp (fX8_fresh (nI w) (nI h) σ τ) (fun r σ' τ' => τ' = τ ∧ σ' 20 2 = nI w ∧ σ' 20 3 = nI h ∧ σ' 20 9 = 0 ∧ (∀ k, k ≠ 2 → k ≠ 3 → k ≠ 9 → σ' 20 k = σ 20 k) ∧ (∀ c, c < 36 → σ' 21 c = 0) ∧ (∀ r, r < 4 → σ' 22 r = -1) ∧ (∀ r, r < 4 → σ' 23 r = -1) ∧ ∀ i, i ≠ 20 → i ≠ 21 → i ≠ 22 → i ≠ 23 → σ' i = σ i) := by
  unfold fX8_fresh
  refine sp_bind (P := fun e σ' τ' => e = .inl () ∧ τ' = τ ∧ σ' 20 = (jp_up (jp_up σ 20 2 (nI w)) 20 3 (nI h)) 20 ∧ (∀ c, c < 36 → σ' 21 c = 0) ∧ ∀ i, i ≠ 20 → i ≠ 21 → σ' i = σ i) ?_ ?_
  · refine sp_for (fun i σ' τ' => τ' = τ ∧ σ' 20 = (jp_up (jp_up σ 20 2 (nI w)) 20 3 (nI h)) 20 ∧ (∀ c, c < i → σ' 21 c = 0) ∧ ∀ i, i ≠ 20 → i ≠ 21 → σ' i = σ i) 0 36 (by decide) (by decide) ⟨rfl, rfl, fun c hc => absurd hc (Nat.not_lt_zero _), fun i h0 _ => by rw [jp_up_n _ _ h0, jp_up_n _ _ h0]⟩ ?_ ?_
    · rintro i σ' τ' - hi ⟨rfl, h1, h2, h3⟩
      dsimp only
      unfold sX8_fresh_12
      rw [show (36 : Int32) = nI 36 from rfl, if_neg (by rw [ni_le (by decide) (by omega)]; omega), if_pos (ni_ok (by omega) hi), ni_nat (by omega)]
      refine sp_ret ⟨by rw [← ni_add]; rfl, rfl, by rw [jp_up_n _ _ (by decide)]; exact h1, fun c hc => ?_, fun k a b => by rw [jp_up_n _ _ b]; exact h3 k a b⟩
      by_cases q : c = i
      · rw [q, jp_up_eq]
      · rw [jp_up_ne _ _ _ q]; exact h2 c (by omega)
    · rintro σ' τ' ⟨rfl, h1, h2, h3⟩
      dsimp only
      unfold sX8_fresh_12
      rw [if_pos (by decide)]
      exact sp_ret ⟨rfl, rfl, h1, h2, h3⟩
  · rintro e σ1 τ1 ⟨rfl, rfl, h1, h2, h3⟩
    dsimp only
    refine sp_bind (P := fun e σ' τ' => e = .inl () ∧ τ' = τ1 ∧ (∀ r, r < 4 → σ' 22 r = -1) ∧ (∀ r, r < 4 → σ' 23 r = -1) ∧ ∀ i, i ≠ 22 → i ≠ 23 → σ' i = σ1 i) ?_ ?_
    · refine sp_for (fun i σ' τ' => τ' = τ1 ∧ (∀ r, r < i → σ' 22 r = -1) ∧ (∀ r, r < i → σ' 23 r = -1) ∧ ∀ i, i ≠ 22 → i ≠ 23 → σ' i = σ1 i) 0 4 (by decide) (by decide) ⟨rfl, fun c hc => absurd hc (Nat.not_lt_zero _), fun c hc => absurd hc (Nat.not_lt_zero _), fun i _ _ => rfl⟩ ?_ ?_
      · rintro i σ' τ' - hi ⟨rfl, q1, q2, q3⟩
        dsimp only
        unfold sX8_fresh_33
        rw [show (4 : Int32) = nI 4 from rfl, if_neg (by rw [ni_le (by decide) (by omega)]; omega), if_pos (ni_ok (by omega) hi), if_pos (ni_ok (by omega) hi), ni_nat (by omega)]
        refine sp_ret ⟨by rw [← ni_add]; rfl, rfl, fun c hc => ?_, fun c hc => ?_, fun k a b => by rw [jp_up_n _ _ b, jp_up_n _ _ a]; exact q3 k a b⟩
        · rw [jp_up_n _ _ (by decide)]
          by_cases q : c = i
          · rw [q, jp_up_eq]
          · rw [jp_up_ne _ _ _ q]; exact q1 c (by omega)
        · by_cases q : c = i
          · rw [q, jp_up_eq]
          · rw [jp_up_ne _ _ _ q, jp_up_n _ _ (by decide)]; exact q2 c (by omega)
      · rintro σ' τ' ⟨rfl, q1, q2, q3⟩
        dsimp only
        unfold sX8_fresh_33
        rw [if_pos (by decide)]
        exact sp_ret ⟨rfl, rfl, q1, q2, q3⟩
    · rintro e σ2 τ2 ⟨rfl, rfl, q1, q2, q3⟩
      dsimp only
      have h20 : σ2 20 = (jp_up (jp_up σ 20 2 (nI w)) 20 3 (nI h)) 20 := by rw [q3 20 (by decide) (by decide)]; exact h1
      refine sp_ret ⟨rfl, ?_, ?_, ?_, ?_, ?_, ?_, ?_, ?_⟩
      · rw [jp_up_ne _ _ _ (by decide), h20, jp_up_ne _ _ _ (by decide), jp_up_eq]
      · rw [jp_up_ne _ _ _ (by decide), h20, jp_up_eq]
      · rw [jp_up_eq]
      · intro k a b c
        rw [jp_up_ne _ _ _ c, h20, jp_up_ne _ _ _ b, jp_up_ne _ _ _ a]
      · intro c hc
        rw [jp_up_n _ _ (by decide), q3 21 (by decide) (by decide)]; exact h2 c hc
      · intro r hr
        rw [jp_up_n _ _ (by decide)]; exact q1 r hr
      · intro r hr
        rw [jp_up_n _ _ (by decide)]; exact q2 r hr
      · intro i a b c d
        rw [jp_up_n _ _ a, q3 i c d]; exact h3 i a b
theorem m_thrown (σ : jp_I) (τ : jp_J) : fX8_thrown σ τ = some (σ 20 0, σ, τ) := rfl
theorem plOk_none (R : Nat) : plOk R none := fun c t f h => by cases h
theorem op_grid {R nc L j : Nat} {xs : Nat → Int32} (hL : L ≤ 2049) (hj : j + 4 ≤ L) {σ : jp_I} {τ : jp_J} (h : Iv R nc σ τ) : spc (fC_grid R nc L xs (nI j) σ τ) (Iv R nc) := by
  obtain ⟨G, st, en, bar, sd, pl, hA, hX, hM⟩ := h
  unfold fC_grid
  rw [show (1 : Int32) = nI 1 from rfl, show (2 : Int32) = nI 2 from rfl, (jq_idx hj hL (by decide)).2, (jq_idx hj hL (by decide)).2]
  refine spc_ok (jq_idx hj hL (by decide)).1 (spc_ok (jq_idx hj hL (by decide)).1 ?_)
  generalize xs (j + 1) = p1
  generalize xs (j + 2) = p2
  have bad : sp (fX8_grid p1 p2 σ τ) (fun _ σ' τ' => τ' = τ ∧ σ' = jp_up σ 20 0 1) → fX7_grid R nc p1 p2 σ τ = some (.inr 0, σ, τ) → spc ((fL_grid R nc p1 p2 σ τ).bind fun x => match x with
      | (a_3, σ_3, τ_3) => (fX8_grid p1 p2 σ_3 τ_3).bind fun x => match x with
        | (_, σ_4, τ_4) => (fX8_thrown σ_4 τ_4).bind fun x => match x with
          | (a_5, σ_5, τ_5) => if a_5 = a_3 then some (σ_5, τ_5) else none) (Iv R nc) := by
    intro h1 h2
    refine spc_bind (P := fun a σ' τ' => a = 1 ∧ σ' = σ ∧ τ' = τ) ?_ ?_
    · unfold fL_grid
      refine sp_seq h2 ?_
      dsimp only
      rw [if_pos rfl]
      exact sp_ret ⟨rfl, rfl, rfl⟩
    · rintro a σ' τ' ⟨rfl, rfl, rfl⟩
      dsimp only
      refine spc_bind h1 ?_
      rintro a σ1 τ1 ⟨rfl, rfl⟩
      dsimp only
      refine spc_bind (sp_pure (m_thrown _ _) (P := fun a σ2 τ2 => a = 1 ∧ σ2 = jp_up σ' 20 0 1 ∧ τ2 = τ1) ⟨jp_up_eq _ _ _ _, rfl, rfl⟩) ?_
      rintro a σ2 τ2 ⟨rfl, rfl, rfl⟩
      dsimp only
      refine spc_eq rfl (spc_ret ⟨G, st, en, bar, sd, pl, hA, RX_congr hX (fun i hi => jp_up_n _ _ (by omega)) rfl, RM_congr hM (fun k hk => jp_up_ne _ _ _ hk) (fun i h1 h2 => jp_up_n _ _ (by omega)) rfl⟩)
  have mbad : sp (bX8_grid_23 p1 p2 σ τ) (fun _ σ' τ' => τ' = τ ∧ σ' = jp_up σ 20 0 1) := by
    unfold bX8_grid_23 bX8_grid_28
    rw [jp_up_eq, if_neg (by decide)]
    exact sp_ret ⟨rfl, rfl⟩
  by_cases c1 : p1 < 1
  · exact bad (by unfold fX8_grid; rw [if_pos c1]; exact mbad) (by unfold fX7_grid; rw [if_pos c1]; rfl)
  by_cases c2 : 6 < p1
  · exact bad (by unfold fX8_grid; rw [if_neg c1, if_pos c2]; exact mbad) (by unfold fX7_grid; rw [if_neg c1, if_pos c2]; rfl)
  by_cases c3 : p2 < 1
  · exact bad (by unfold fX8_grid; rw [if_neg c1, if_neg c2, if_pos c3]; exact mbad) (by unfold fX7_grid; rw [if_neg c1, if_neg c2, if_pos c3]; rfl)
  by_cases c4 : p2 ≤ 6
  · clear bad mbad
    have side : ∀ p : Int32, ¬ p < 1 → ¬ 6 < p → ∃ w, (1 ≤ w ∧ w ≤ 6) ∧ p = nI w := by
      intro p a b
      have a0 : ¬ p < 0 := fun q => a (Int32.lt_trans q (by decide))
      obtain ⟨w, hw, rfl⟩ := i_nat a0
      rw [show (1 : Int32) = nI 1 from rfl, ni_lt hw (by decide)] at a
      rw [show (6 : Int32) = nI 6 from rfl, ni_lt (by decide) hw] at b
      exact ⟨w, ⟨by omega, by omega⟩, rfl⟩
    obtain ⟨w, hw, rfl⟩ := side p1 c1 c2
    obtain ⟨h, hh, rfl⟩ := side p2 c3 (by rw [Int32.not_lt]; exact c4)
    refine spc_bind (P := fun a σ' τ' => a = 0 ∧ (∀ i, 20 ≤ i → σ' i = σ i) ∧ τ' = τ ∧ RX R nc (w, h, fun _ => false) (fun _ => none) (fun _ => none) bar sd none σ' τ') ?_ ?_
    · unfold fL_grid fX7_grid
      rw [if_neg c1, if_neg c2, if_neg c3, if_pos c4]
      obtain ⟨x0, x1, x2, x3, x4, x5, x6, x7, x8, x9, x10, x11⟩ := hX
      refine sp_bind (P := fun o σ' τ' => o = .inl 0 ∧ (∀ i, 20 ≤ i → σ' i = σ i) ∧ τ' = τ ∧ RX R nc (w, h, fun _ => false) (fun _ => none) (fun _ => none) bar sd none σ' τ') ?_ ?_
      · refine sp_bind (s_renew hA.1 hw hh σ τ) ?_
        rintro r σ1 τ1 ⟨rfl, h1, h2, h3, h4, h5, h6⟩
        dsimp only
        refine sp_seq (show fX2_drop 11 12 nc σ1 τ1 = some (0, jp_up (jp_up σ1 11 3 (-1)) 11 2 0, τ1) from rfl) ?_
        dsimp only
        have ne : ∀ i, i ≠ 11 → (jp_up (jp_up σ1 11 3 (-1)) 11 2 0) i = σ1 i := fun i hi => by rw [jp_up_n _ _ hi, jp_up_n _ _ hi]
        refine sp_ret ⟨rfl, fun i hi => by rw [ne i (by omega)]; exact h6 i (by omega) (by omega) (by omega) (by omega) (by omega), rfl, ?_⟩
        refine ⟨?_, ?_, scX_congr h1 (ne 2 (by decide)) (ne 5 (by decide)), chX_congr h2 (ne 6 (by decide)), ?_, ?_, ?_, ?_, x8, ⟨?_, ?_, ?_⟩, ?_, ?_⟩
        · rw [ne 0 (by decide), h6 0 (by decide) (by decide) (by decide) (by decide) (by decide)]; exact x0
        · rw [ne 1 (by decide), h6 1 (by decide) (by decide) (by decide) (by decide) (by decide)]; exact x1
        · rw [ne 2 (by decide), h3, wc_none]; rfl
        · intro r hr; rw [ne 3 (by decide)]; exact h4 r hr
        · intro r hr; rw [ne 4 (by decide)]; exact h5 r hr
        · rw [ne 1 (by decide), h6 1 (by decide) (by decide) (by decide) (by decide) (by decide)]; exact x7
        · rw [jp_up_ne _ _ _ (by decide), jp_up_ne _ _ _ (by decide), h6 11 (by decide) (by decide) (by decide) (by decide) (by decide)]; exact x9.1
        · intro _; rw [jp_up_ne _ _ _ (by decide), jp_up_eq]
        · intro c t f q; cases q
        · intro q; rw [ne 13 (by decide), h6 13 (by decide) (by decide) (by decide) (by decide) (by decide)]; exact x10 q
        · intro q; rw [ne 14 (by decide), h6 14 (by decide) (by decide) (by decide) (by decide) (by decide)]; exact x11 q
      · rintro o σ1 τ1 ⟨rfl, h1, h2, h3⟩
        exact sp_ret ⟨rfl, h1, h2, h3⟩
    · rintro a σ1 τ1 ⟨rfl, h1, rfl, h3⟩
      dsimp only
      obtain ⟨m0, m1, m2, m3, m4, m5, m6⟩ := hM
      refine spc_bind (P := fun _ σ' τ' => σ' 20 0 = 0 ∧ τ' = τ1 ∧ (∀ i, i < 20 → σ' i = σ1 i) ∧ RM R (w, h, fun _ => false) (fun _ => none) (fun _ => none) bar sd none σ' τ') ?_ ?_
      · unfold fX8_grid bX8_grid_28
        rw [if_neg c1, if_neg c2, if_neg c3, if_pos c4, jp_up_eq, if_pos rfl]
        refine sp_bind (m_fresh _ _) ?_
        rintro r σ2 τ2 ⟨rfl, q1, q2, q3, q4, q5, q6, q7, q8⟩
        dsimp only
        have e20 : ∀ k, k ≠ 0 → k ≠ 2 → k ≠ 3 → k ≠ 9 → σ2 20 k = σ 20 k := fun k a b c d => by rw [q4 k b c d, jp_up_ne _ _ _ a, h1 20 (by decide)]
        refine sp_ret ⟨by rw [q4 0 (by decide) (by decide) (by decide), jp_up_eq], rfl, fun i hi => by rw [q8 i (by omega) (by omega) (by omega) (by omega), jp_up_n _ _ (by omega)], ?_⟩
        refine ⟨by rw [e20 1 (by decide) (by decide) (by decide) (by decide)]; exact m0, ⟨⟨hw.1, hw.2, hh.1, hh.2⟩, q1, q2, fun c hc => by rw [q5 c hc]; rfl⟩, fun r hr => q6 r (by have := hA.1; omega), fun r hr => q7 r (by have := hA.1; omega), by rw [e20 7 (by decide) (by decide) (by decide) (by decide)]; exact m4, m5, fun _ => q3, fun c t f q => by cases q⟩
      · rintro a σ2 τ2 ⟨q0, rfl, q1, q2⟩
        dsimp only
        refine spc_bind (sp_pure (m_thrown _ _) (P := fun a σ3 τ3 => a = 0 ∧ σ3 = σ2 ∧ τ3 = τ2) ⟨q0, rfl, rfl⟩) ?_
        rintro a σ3 τ3 ⟨rfl, rfl, rfl⟩
        dsimp only
        refine spc_eq rfl (spc_ret ⟨(w, h, fun _ => false), fun _ => none, fun _ => none, bar, sd, none, ?_, RX_congr h3 q1 rfl, q2⟩)
        exact ⟨hA.1, hA.2.1, fun r c _ q => (by cases q), fun r c _ q => (by cases q), fun r q c _ _ e => (by cases e), fun r q c _ _ e => (by cases e), hA.2.2.2.2.2.2.1, hA.2.2.2.2.2.2.2.1, plOk_none R⟩
  · exact bad (by unfold fX8_grid; rw [if_neg c1, if_neg c2, if_neg c3, if_neg c4]; exact mbad) (by unfold fX7_grid; rw [if_neg c1, if_neg c2, if_neg c3, if_neg c4]; rfl)
