-- at, count, wall, start, end
theorem s_needRobot {R nc : Nat} {σ : jp_I} (τ : jp_J) (h : σ 0 0 = nI R) (p : Int32) : fX7_needRobot R nc p σ τ = some (if p < 0 ∨ nI R ≤ p then .inr 0 else .inl 0, σ, τ) := by
  unfold fX7_needRobot bX7_needRobot_12
  rw [h]
  by_cases a : p < 0
  · rw [if_pos a, if_pos (Or.inl a)]
  · rw [if_neg a]
    by_cases b : p < nI R
    · rw [if_pos b, if_neg (fun q => q.elim a (fun q => (Int32.not_lt.mpr q) b))]
    · rw [if_neg b, if_pos (Or.inr (Int32.not_lt.mp b))]
theorem s_cellOf {R nc c t r k : Nat} {f : Nat → Nat → Nat} {σ : jp_I} (τ : jp_J) (h : plX R nc (some (c, t, f)) σ) (hnc : nc < 100000) (hr : r < R) (hk : k ≤ t) : fX2_cellOf 11 12 nc (nI r) (nI k) σ τ = some (nI (f r k), σ, τ) := by
  unfold fX2_cellOf
  obtain ⟨h1, h2, h3, h4⟩ := h.2.2 c t f rfl
  have hlt : k * R + r < nc := by
    have : (k + 1) * R ≤ (t + 1) * R := Nat.mul_le_mul_right R (by omega)
    have : (k + 1) * R = k * R + R := by rw [Nat.add_mul, Nat.one_mul]
    omega
  rw [h.1, ni_mul, ni_add, s_readi 12 σ τ (by omega) hlt, Option.bind_some, h4 r k hr hk]
theorem op_at {R nc L j : Nat} {xs : Nat → Int32} (hL : L ≤ 2049) (hj : j + 4 ≤ L) {σ : jp_I} {τ : jp_J} (h : Iv R nc σ τ) : spc (fC_at R nc L xs (nI j) σ τ) (Iv R nc) := by
  obtain ⟨G, st, en, bar, sd, pl, hA, hX, hM⟩ := h
  have hR := hA.1
  unfold fC_at
  rw [show (1 : Int32) = nI 1 from rfl, show (2 : Int32) = nI 2 from rfl, show (3 : Int32) = nI 3 from rfl, (jq_idx hj hL (by decide)).2, (jq_idx hj hL (by decide)).2, (jq_idx hj hL (by decide)).2]
  refine spc_ok (jq_idx hj hL (by decide)).1 (spc_ok (jq_idx hj hL (by decide)).1 (spc_ok (jq_idx hj hL (by decide)).1 ?_))
  generalize xs (j + 1) = p1
  generalize xs (j + 2) = p2
  generalize xs (j + 3) = p3
  have hpl := hX.2.2.2.2.2.2.2.2.2.1
  have hok := hA.2.2.2.2.2.2.2.2
  have hM0 := hM.1
  -- the two refusals
  have no : ∀ (k : Int32), k ≠ 0 → fL_at R nc p1 p2 p3 σ τ = some (k, σ, τ) → sp (fX8_at p1 p2 p3 σ τ) (fun _ σ' τ' => σ' = jp_up σ 20 0 k ∧ τ' = τ) → spc ((fL_at R nc p1 p2 p3 σ τ).bind fun x => match x with
      | (a_4, σ_4, τ_4) => (fX8_at p1 p2 p3 σ_4 τ_4).bind fun x => match x with
        | (a_5, σ_5, τ_5) => (fX8_thrown σ_5 τ_5).bind fun x => match x with
          | (a_6, σ_6, τ_6) => if a_6 = a_4 then (if a_4 = 0 then (if (lg_cmp (τ_6 30 (0 : Int32).toNatClampNeg) a_5.toInt64) = 0 then some (σ_6, τ_6) else none) else some (σ_6, τ_6)) else none) (Iv R nc) := by
    intro k hk h1 h2
    refine op_i (m := fun σ τ => fX8_at p1 p2 p3 σ τ) (PX := fun k1 σ1 τ1 => k1 = k ∧ σ1 = σ ∧ τ1 = τ) (sp_pure h1 ⟨rfl, rfl, rfl⟩) ?_
    rintro k1 σ1 τ1 ⟨rfl, rfl, rfl⟩
    refine sp_mono h2 ?_
    rintro v σ2 τ2 ⟨rfl, rfl⟩
    exact ⟨jp_up_eq _ _ _ _, fun q => absurd q hk, G, st, en, bar, sd, pl, hA, RX_thr hX k1, RM_thr hM k1⟩
  have m26 : sp (bX8_at_26 p1 p2 p3 σ τ) (fun _ σ' τ' => σ' = jp_up σ 20 0 1 ∧ τ' = τ) := by
    unfold bX8_at_26 bX8_at_42
    rw [jp_up_eq, if_neg (by decide)]
    exact sp_ret ⟨rfl, rfl⟩
  by_cases a1 : p1 < 0 ∨ nI R ≤ p1
  · refine no 1 (by decide) ?_ ?_
    · unfold fL_at fX7_at
      rw [s_needRobot τ hX.1, if_pos a1]
      rfl
    · unfold fX8_at
      rw [hM0]
      rcases a1 with a | a
      · rw [if_pos a]; exact m26
      · exact sp_if (fun _ => m26) (fun _ => by rw [if_pos a]; exact m26)
  have b1 : ¬ p1 < 0 := fun q => a1 (Or.inl q)
  have b2 : ¬ nI R ≤ p1 := fun q => a1 (Or.inr q)
  have xs1 : ∀ (y : Option (Int32 × jp_I × jp_J)), (((if p2 < 0 then (bX7_at_18 R nc σ τ) else (if p3 < 0 then (bX7_at_18 R nc σ τ) else (if p3 ≤ 1 then ((fX7_needPlan R nc σ τ).bind fun (o_5, σ_5, τ_5) => match o_5 with
    | .inl _a_5 => ((fX2_cellOf 11 12 nc p1 (if (σ_5 11 2) < p2 then (σ_5 11 2) else p2) σ_5 τ_5).bind fun (a_6, σ_6, τ_6) => if p3 = 0 then (some (.inl (a_6 - a_6 / 6 * 6), σ_6, τ_6)) else (some (.inl (a_6 / 6), σ_6, τ_6)))
    | .inr k_5 => some (.inr k_5, σ_5, τ_5)) else (bX7_at_18 R nc σ τ)))) : Option ((Sum Int32 Nat) × jp_I × jp_J)).bind fun (o, σ1, τ1) => match o with
      | .inl v => some ((0 : Int32), σ1, jp_upl τ1 30 (0 : Int32).toNatClampNeg v.toInt64)
      | .inr k => if k = 0 then some (1, σ1, τ1) else if k = 1 then some (2, σ1, τ1) else none) = y → fL_at R nc p1 p2 p3 σ τ = y := by
    intro y hy
    unfold fL_at fX7_at
    rw [s_needRobot τ hX.1, if_neg a1, ← hy]
    rfl
  by_cases a2 : p2 < 0
  · refine no 1 (by decide) (xs1 _ ?_) ?_
    · rw [if_pos a2]; rfl
    · unfold fX8_at
      rw [hM0, if_neg b1, if_neg b2, if_pos a2]
      exact m26
  by_cases a3 : p3 < 0
  · refine no 1 (by decide) (xs1 _ ?_) ?_
    · rw [if_neg a2, if_pos a3]; rfl
    · unfold fX8_at
      rw [hM0, if_neg b1, if_neg b2, if_neg a2, if_pos a3]
      exact m26
  by_cases a4 : p3 ≤ 1
  · cases e : pl with
    | none =>
      refine no 2 (by decide) (xs1 _ ?_) ?_
      · rw [if_neg a2, if_neg a3, if_pos a4, s_needPlan τ hpl hok, e]; rfl
      · unfold fX8_at bX8_at_42
        rw [hM0, if_neg b1, if_neg b2, if_neg a2, if_neg a3, if_pos a4, if_pos (hM.2.2.2.2.2.2.1 e), jp_up_eq, if_neg (by decide)]
        exact sp_ret ⟨rfl, rfl⟩
    | some q =>
      obtain ⟨c, t, f⟩ := q
      subst e
      obtain ⟨q1, q2, q3, q4, q5⟩ := hM.2.2.2.2.2.2.2 c t f rfl
      obtain ⟨o1, o2, o3⟩ := hok c t f rfl
      obtain ⟨r, hr, rfl⟩ := i_lt b1 (by rw [← Int32.not_le]; exact b2) (by omega)
      obtain ⟨k, hk, rfl⟩ := i_nat a2
      have hst : σ 11 2 = nI t := (hpl.2.2 c t f rfl).2.1
      obtain ⟨k', hk', e1, e2⟩ : ∃ k', k' ≤ t ∧ (if nI t < nI k then nI t else nI k) = nI k' ∧ (if nI t ≤ nI k then nI t else nI k) = nI k' := by
        by_cases z : t ≤ k
        · refine ⟨t, Nat.le_refl _, ?_, ?_⟩
          · by_cases z2 : t < k
            · rw [if_pos ((ni_lt (by omega) hk).mpr z2)]
            · rw [if_neg (by rw [ni_lt (by omega) hk]; omega), show k = t by omega]
          · rw [if_pos ((ni_le (by omega) hk).mpr z)]
        · refine ⟨k, by omega, ?_, ?_⟩
          · rw [if_neg (by rw [ni_lt (by omega) hk]; omega)]
          · rw [if_neg (by rw [ni_le (by omega) hk]; omega)]
      have hx : fL_at R nc (nI r) (nI k) p3 σ τ = some (0, σ, jp_upl τ 30 0 (if p3 = 0 then nI (f r k') - nI (f r k') / 6 * 6 else nI (f r k') / 6).toInt64) := by
        refine xs1 _ ?_
        rw [if_neg a2, if_neg a3, if_pos a4, s_needPlan τ hpl hok]
        show (((fX2_cellOf 11 12 nc (nI r) (if (σ 11 2) < nI k then (σ 11 2) else nI k) σ τ).bind fun (a_6, σ_6, τ_6) => if p3 = 0 then (some (.inl (a_6 - a_6 / 6 * 6), σ_6, τ_6)) else (some (.inl (a_6 / 6), σ_6, τ_6))) : Option ((Sum Int32 Nat) × jp_I × jp_J)).bind _ = _
        rw [hst, e1, s_cellOf τ hpl hA.2.1 hr hk']
        show ((if p3 = 0 then (some (.inl (nI (f r k') - nI (f r k') / 6 * 6), σ, τ)) else (some (.inl (nI (f r k') / 6), σ, τ))) : Option ((Sum Int32 Nat) × jp_I × jp_J)).bind _ = _
        by_cases z : p3 = 0
        · rw [if_pos z, if_pos z]; rfl
        · rw [if_neg z, if_neg z]; rfl
      refine op_i (m := fun σ τ => fX8_at (nI r) (nI k) p3 σ τ) (PX := fun k1 σ1 τ1 => k1 = 0 ∧ σ1 = σ ∧ τ1 = jp_upl τ 30 0 (if p3 = 0 then nI (f r k') - nI (f r k') / 6 * 6 else nI (f r k') / 6).toInt64) (sp_pure hx ⟨rfl, rfl, rfl⟩) ?_
      rintro k1 σ1 τ1 ⟨rfl, rfl, rfl⟩
      have fin : sp (bX8_at_79 p3 (400 * nI r) (nI k') (jp_up σ1 20 0 0) (jp_upl τ 30 0 (if p3 = 0 then nI (f r k') - nI (f r k') / 6 * 6 else nI (f r k') / 6).toInt64)) (fun v σ2 τ2 => v = (if p3 = 0 then nI (f r k') - nI (f r k') / 6 * 6 else nI (f r k') / 6) ∧ σ2 = jp_up σ1 20 0 0 ∧ τ2 = jp_upl τ 30 0 (if p3 = 0 then nI (f r k') - nI (f r k') / 6 * 6 else nI (f r k') / 6).toInt64) := by
        unfold bX8_at_79
        rw [show (400 : Int32) = nI 400 from rfl, ni_mul, ni_add, if_pos (ni_ok (by omega) (by omega)), ni_nat (by omega), jp_up_n _ _ (by decide), q5 r k' hr hk']
        refine sp_if (fun z => ?_) (fun z => ?_)
        · rw [if_pos z]; exact sp_ret ⟨rfl, rfl, rfl⟩
        · rw [if_neg z]; exact sp_ret ⟨rfl, rfl, rfl⟩
      refine sp_mono (P := fun v σ2 τ2 => v = (if p3 = 0 then nI (f r k') - nI (f r k') / 6 * 6 else nI (f r k') / 6) ∧ σ2 = jp_up σ1 20 0 0 ∧ τ2 = jp_upl τ 30 0 (if p3 = 0 then nI (f r k') - nI (f r k') / 6 * 6 else nI (f r k') / 6).toInt64) ?_ ?_
      · unfold fX8_at bX8_at_42
        rw [hM0, if_neg b1, if_neg b2, if_neg a2, if_neg a3, if_pos a4, if_neg (by rw [q1]; decide), jp_up_eq, if_pos rfl, jp_up_ne _ _ _ (by decide), q4]
        refine sp_if (fun z => ?_) (fun z => ?_)
        · rw [if_pos z] at e2
          rw [e2]; exact fin
        · rw [if_neg z] at e2
          rw [e2]; exact fin
      · rintro v σ2 τ2 ⟨rfl, rfl, rfl⟩
        exact ⟨jp_up_eq _ _ _ _, fun _ => by rw [jp_c30, jp_upl_eq], G, st, en, bar, sd, some (c, t, f), hA, RX_thr (RX_congr hX (fun _ _ => rfl) (jp_upl_n _ _ (by decide))) 0, RM_thr (RM_congr hM (fun _ _ => rfl) (fun _ _ _ => rfl) (jp_upl_n _ _ (by decide))) 0⟩
  · refine no 1 (by decide) (xs1 _ ?_) ?_
    · rw [if_neg a2, if_neg a3, if_neg a4]; rfl
    · unfold fX8_at
      rw [hM0, if_neg b1, if_neg b2, if_neg a2, if_neg a3, if_neg a4]
      exact m26
theorem op_count {R nc L j : Nat} {xs : Nat → Int32} (hL : L ≤ 2049) (hj : j + 4 ≤ L) {σ : jp_I} {τ : jp_J} (h : Iv R nc σ τ) : spc (fC_count R nc L xs (nI j) σ τ) (Iv R nc) := by
  obtain ⟨G, st, en, bar, sd, pl, hA, hX, hM⟩ := h
  unfold fC_count
  rw [show (1 : Int32) = nI 1 from rfl, (jq_idx hj hL (by decide)).2]
  refine spc_ok (jq_idx hj hL (by decide)).1 ?_
  generalize xs (j + 1) = p1
  have hX2 := RX_thr hX 0
  have hM2 := RM_thr hM 0
  have hI : Iv R nc (jp_up σ 20 0 0) τ := ⟨G, st, en, bar, sd, pl, hA, hX2, hM2⟩
  have cost : (if jp_up σ 20 0 0 20 9 = 0 then (-1 : Int32) else jp_up σ 20 0 0 20 11) = σ 11 3 := by
    obtain ⟨p1, p2⟩ := hM2.2.2.2.2.2.2
    obtain ⟨-, x1, x2⟩ := hX.2.2.2.2.2.2.2.2.2.1
    cases e : pl with
    | none => rw [if_pos (p1 e), x1 e]
    | some q =>
      obtain ⟨c, t, f⟩ := q
      obtain ⟨q1, -, q2, -⟩ := p2 c t f e
      rw [if_neg (by rw [q1]; decide), q2, (x2 c t f e).1]
  refine spc_bind (P := fun a σ' τ' => a = (if p1 = 0 then nI R else if p1 = 1 then nI G.1 else if p1 = 2 then nI G.2.1 else if p1 = 3 then nI (wc G.2.2 36) else if p1 = 4 then σ 11 3 else -1) ∧ σ' = σ ∧ τ' = τ) ?_ ?_
  · unfold fX7_count
    rw [hX.1, hX.2.2.1.2.1, hX.2.2.1.2.2.1, hX.2.2.2.2.1]
    refine sp_if (fun z => ?_) (fun z => ?_)
    · rw [if_pos z]; exact sp_ret ⟨rfl, rfl, rfl⟩
    rw [if_neg z]
    refine sp_if (fun z => ?_) (fun z => ?_)
    · rw [if_pos z]; exact sp_ret ⟨rfl, rfl, rfl⟩
    rw [if_neg z]
    refine sp_if (fun z => ?_) (fun z => ?_)
    · rw [if_pos z]; exact sp_ret ⟨rfl, rfl, rfl⟩
    rw [if_neg z]
    refine sp_if (fun z => ?_) (fun z => ?_)
    · rw [if_pos z]; exact sp_ret ⟨rfl, rfl, rfl⟩
    rw [if_neg z]
    refine sp_if (fun z => ?_) (fun z => ?_)
    · rw [if_pos z]; exact sp_ret ⟨rfl, rfl, rfl⟩
    rw [if_neg z]
    exact sp_ret ⟨rfl, rfl, rfl⟩
  · rintro a σ1 τ1 ⟨rfl, rfl, rfl⟩
    dsimp only
    refine spc_bind (P := fun a σ' τ' => a = (if p1 = 0 then nI R else if p1 = 1 then nI G.1 else if p1 = 2 then nI G.2.1 else if p1 = 3 then nI (wc G.2.2 36) else if p1 = 4 then σ1 11 3 else -1) ∧ σ' = jp_up σ1 20 0 0 ∧ τ' = τ1) ?_ ?_
    · unfold fX8_count
      refine sp_bind (P := fun e σ' τ' => e = .inl (nI (wc G.2.2 36)) ∧ σ' = jp_up σ1 20 0 0 ∧ τ' = τ1) ?_ ?_
      · refine sp_loopF (fun v σ' τ' m => ∃ i, i ≤ 36 ∧ m = 36 - i ∧ v = (nI (wc G.2.2 i), nI i) ∧ σ' = jp_up σ1 20 0 0 ∧ τ' = τ1) 36 ⟨0, by decide, rfl, rfl, rfl, rfl⟩ (by decide) ?_
        rintro v σ' τ' m ⟨i, hi, rfl, rfl, rfl, rfl⟩
        dsimp only
        unfold sX8_count_9
        rw [show (36 : Int32) = nI 36 from rfl]
        refine sp_if (fun z => ?_) (fun z => ?_)
        · rw [ni_le (by decide) (by omega)] at z
          rw [show i = 36 by omega]
          exact sp_ret ⟨rfl, rfl, rfl⟩
        · rw [ni_le (by decide) (by omega)] at z
          rw [if_pos (ni_ok (by omega) (by omega)), ni_nat (by omega), hM2.2.1.2.2.2 i (by omega)]
          unfold bX8_count_30_in9
          have hw : wc G.2.2 (i + 1) = wc G.2.2 i + (if G.2.2 i then 1 else 0) := rfl
          cases e : G.2.2 i
          · rw [if_pos (show bI false = 0 from rfl)]
            refine sp_ret ⟨36 - (i + 1), by omega, i + 1, by omega, rfl, ?_, rfl, rfl⟩
            rw [hw, e, ← ni_add i 1, ← ni_add]; rfl
          · rw [if_neg (by decide)]
            refine sp_ret ⟨36 - (i + 1), by omega, i + 1, by omega, rfl, ?_, rfl, rfl⟩
            rw [hw, e, ← ni_add i 1, ← ni_add]; rfl
      · rintro e σ' τ' ⟨rfl, rfl, rfl⟩
        dsimp only
        rw [hM2.1, hM2.2.1.2.1, hM2.2.1.2.2.1]
        refine sp_if (fun z => ?_) (fun z => ?_)
        · rw [if_pos z]; exact sp_ret ⟨rfl, rfl, rfl⟩
        rw [if_neg z]
        refine sp_if (fun z => ?_) (fun z => ?_)
        · rw [if_pos z]; exact sp_ret ⟨rfl, rfl, rfl⟩
        rw [if_neg z]
        refine sp_if (fun z => ?_) (fun z => ?_)
        · rw [if_pos z]; exact sp_ret ⟨rfl, rfl, rfl⟩
        rw [if_neg z]
        refine sp_if (fun z => ?_) (fun z => ?_)
        · rw [if_pos z]; exact sp_ret ⟨rfl, rfl, rfl⟩
        rw [if_neg z]
        refine sp_if (fun z => ?_) (fun z => ?_)
        · rw [if_pos z]
          rw [← cost]
          refine sp_if (fun z => ?_) (fun z => ?_)
          · rw [if_pos z]; exact sp_ret ⟨rfl, rfl, rfl⟩
          · rw [if_neg z]; exact sp_ret ⟨rfl, rfl, rfl⟩
        rw [if_neg z]
        exact sp_ret ⟨rfl, rfl, rfl⟩
    · rintro a σ2 τ2 ⟨rfl, rfl, rfl⟩
      dsimp only
      exact spc_eq rfl (spc_ret hI)
