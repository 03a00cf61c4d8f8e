theorem pm_all (L : Nat) (xs : Nat → Int32) (hL : L ≤ 2049) : (∃ (n nl nc : Nat) (σ1 : jp_I) (τ1 : jp_J) (σ2 : jp_I) (τ2 : jp_J) (Inv : jp_I → jp_J → Prop), fX7_initJ n nl nc (jq_cv L xs) (jp_z (fun _ _ => 0) 0) (jp_zl (fun _ _ => 0) 0) = some (σ1, τ1) ∧ fX8_init (jq_cv L xs) (jp_z σ1 20) (jp_zl τ1 20) = some (σ2, τ2) ∧ Inv σ2 (jp_zl τ2 30) ∧ ∀ (j : Nat) (σ : jp_I) (τ : jp_J), 1 ≤ j → j + 4 ≤ L → Inv σ τ → ∃ (σ' : jp_I) (τ' : jp_J), fRoundJ n nc nl L xs (nI j) σ τ = some (σ', τ') ∧ Inv σ' τ') ∨
    (∃ (n nc : Nat) (σ1 : jp_I) (τ1 : jp_J) (σ2 : jp_I) (τ2 : jp_J) (Inv : jp_I → jp_J → Prop), fX7_initP n nc (jq_cv L xs) (jp_z (fun _ _ => 0) 0) (jp_zl (fun _ _ => 0) 0) = some (σ1, τ1) ∧ fX8_init (jq_cv L xs) (jp_z σ1 20) (jp_zl τ1 20) = some (σ2, τ2) ∧ Inv σ2 (jp_zl τ2 30) ∧ ∀ (j : Nat) (σ : jp_I) (τ : jp_J), 1 ≤ j → j + 4 ≤ L → Inv σ τ → ∃ (σ' : jp_I) (τ' : jp_J), fRoundP n nc L xs (nI j) σ τ = some (σ', τ') ∧ Inv σ' τ') := by
  obtain ⟨R, hR, hp, c1, c2, c3⟩ := clamp (jq_cv L xs)
  have fin : ∀ {nc : Nat} {σ1 σ2 : jp_I} {τ1 τ2 : jp_J}, nc < 100000 → RX R nc g11 (fun _ => none) (fun _ => none) true 1 none σ1 τ1 → (∀ i, i < 20 → σ2 i = (jp_z σ1 20) i) → τ2 9 = (jp_zl τ1 20) 9 → RM R g11 (fun _ => none) (fun _ => none) true 1 none σ2 τ2 → Iv R nc σ2 (jp_zl τ2 30) := by
    intro nc σ1 σ2 τ1 τ2 hnc hX hs ht hM
    refine ⟨g11, fun _ => none, fun _ => none, true, 1, none, AO_0 hR hnc, RX_congr hX (fun i hi => by rw [hs i hi, jz_n (by omega)]) (by rw [jzl_n (by decide), ht, jzl_n (by decide)]), RM_congr hM (fun _ _ => rfl) (fun _ _ _ => rfl) (jzl_n (by decide))⟩
  by_cases r2 : R ≤ 2
  · obtain ⟨σ1, τ1, e1, hX⟩ := s_initJ r2 hp (jp_z (fun _ _ => 0) 0) (jp_zl (fun _ _ => 0) 0)
    obtain ⟨σ2, τ2, e2, hs, ht, hM⟩ := m_init hR c1 c2 c3 (jp_z σ1 20) (jp_zl τ1 20)
    have hjs := jsR_c r2
    have hm : R * jsR R < 100000 := by
      have := Nat.mul_le_mul r2 hjs.2
      omega
    have hn : jNL R (jsR R) (R * jsR R) := ⟨fun q => by subst q; rfl, fun q => by subst q; rfl, fun q => by subst q; rfl, rfl⟩
    exact Or.inl ⟨R, jsR R, R * jsR R, σ1, τ1, σ2, τ2, Iv R (R * jsR R), e1, e2, fin hm hX hs ht hM, fun j σ τ _ hj h => rd_J hL hj r2 hn h⟩
  · have r3 : 3 ≤ R ∧ R ≤ 4 := ⟨by omega, hR⟩
    obtain ⟨σ1, τ1, e1, hX⟩ := s_initP r3 hp (jp_z (fun _ _ => 0) 0) (jp_zl (fun _ _ => 0) 0)
    obtain ⟨σ2, τ2, e2, hs, ht, hM⟩ := m_init hR c1 c2 c3 (jp_z σ1 20) (jp_zl τ1 20)
    exact Or.inr ⟨R, 41 * R, σ1, τ1, σ2, τ2, Iv R (41 * R), e1, e2, fin (by omega) hX hs ht hM, fun j σ τ _ hj h => rd_P hL hj r3 rfl h⟩
