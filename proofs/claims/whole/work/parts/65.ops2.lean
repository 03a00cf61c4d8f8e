-- swap, seed, exact, last, at, count
theorem op_i {x : Option (Int32 × jp_I × jp_J)} {m : jp_I → jp_J → Option (Int32 × jp_I × jp_J)} {PX : Int32 → jp_I → jp_J → Prop} {Q : jp_I → jp_J → Prop} (hx : sp x PX)
    (hm : ∀ k σ1 τ1, PX k σ1 τ1 → sp (m σ1 τ1) (fun v σ2 τ2 => σ2 20 0 = k ∧ (k = 0 → τ2 30 (0 : Int32).toNatClampNeg = v.toInt64) ∧ Q σ2 τ2)) :
    spc (x.bind fun x => match x with
      | (a_4, σ_4, τ_4) => (m σ_4 τ_4).bind fun x => match x with
        | (a_5, σ_5, τ_5) => (fX8_thrown σ_5 τ_5).bind fun x => match x with
          | (a_6, σ_6, τ_6) => if a_6 = a_4 then (if a_4 = 0 then (if (lg_cmp (τ_6 30 (0 : Int32).toNatClampNeg) a_5.toInt64) = 0 then some (σ_6, τ_6) else none) else some (σ_6, τ_6)) else none) Q := by
  refine spc_bind hx ?_
  intro k σ1 τ1 h1
  dsimp only
  refine spc_bind (hm k σ1 τ1 h1) ?_
  rintro v σ2 τ2 ⟨h2, h3, h4⟩
  dsimp only
  refine spc_bind (sp_pure (m_thrown _ _) (P := fun a σ3 τ3 => a = k ∧ σ3 = σ2 ∧ τ3 = τ2) ⟨h2, rfl, rfl⟩) ?_
  rintro a σ3 τ3 ⟨rfl, rfl, rfl⟩
  dsimp only
  refine spc_eq rfl (spc_if (fun q => spc_eq ?_ (spc_ret h4)) (fun _ => spc_ret h4))
  rw [h3 q]
  exact lg0 _
theorem op_z {x : Option (Int32 × jp_I × jp_J)} {m : jp_I → jp_J → Option (Int32 × jp_I × jp_J)} {PX : Int32 → jp_I → jp_J → Prop} {Q : jp_I → jp_J → Prop} (hx : sp x PX)
    (hm : ∀ k σ1 τ1, PX k σ1 τ1 → sp (m σ1 τ1) (fun v σ2 τ2 => σ2 20 0 = k ∧ (k = 0 → τ2 30 (0 : Int32).toNatClampNeg = (if v = 0 then 0 else 1)) ∧ Q σ2 τ2)) :
    spc (x.bind fun x => match x with
      | (a_4, σ_4, τ_4) => (m σ_4 τ_4).bind fun x => match x with
        | (a_5, σ_5, τ_5) => (fX8_thrown σ_5 τ_5).bind fun x => match x with
          | (a_6, σ_6, τ_6) => if a_6 = a_4 then (if a_4 = 0 then (if a_5 = 0 then (if (lg_cmp (τ_6 30 (0 : Int32).toNatClampNeg) 0) = 0 then some (σ_6, τ_6) else none) else (if (lg_cmp (τ_6 30 (0 : Int32).toNatClampNeg) 1) = 0 then some (σ_6, τ_6) else none)) else some (σ_6, τ_6)) else none) Q := by
  refine spc_bind hx ?_
  intro k σ1 τ1 h1
  dsimp only
  refine spc_bind (hm k σ1 τ1 h1) ?_
  rintro v σ2 τ2 ⟨h2, h3, h4⟩
  dsimp only
  refine spc_bind (sp_pure (m_thrown _ _) (P := fun a σ3 τ3 => a = k ∧ σ3 = σ2 ∧ τ3 = τ2) ⟨h2, rfl, rfl⟩) ?_
  rintro a σ3 τ3 ⟨rfl, rfl, rfl⟩
  dsimp only
  refine spc_eq rfl (spc_if (fun q => spc_if (fun q0 => spc_eq ?_ (spc_ret h4)) (fun q0 => spc_eq ?_ (spc_ret h4))) (fun _ => spc_ret h4))
  · rw [h3 q, if_pos q0]
    exact lg0 _
  · rw [h3 q, if_neg q0]
    exact lg0 _
theorem RM_thr {R : Nat} {G : gG} {st en : Nat → Option Nat} {bar : Bool} {sd : Int64} {pl : plT} {σ : jp_I} {τ : jp_J} (h : RM R G st en bar sd pl σ τ) (v : Int32) : RM R G st en bar sd pl (jp_up σ 20 0 v) τ := RM_congr h (fun k hk => jp_up_ne _ _ _ hk) (fun i h1 h2 => jp_up_n _ _ (by omega)) rfl
theorem RX_thr {R nc : Nat} {G : gG} {st en : Nat → Option Nat} {bar : Bool} {sd : Int64} {pl : plT} {σ : jp_I} {τ : jp_J} (h : RX R nc G st en bar sd pl σ τ) (v : Int32) : RX R nc G st en bar sd pl (jp_up σ 20 0 v) τ := RX_congr h (fun i hi => jp_up_n _ _ (by omega)) rfl
theorem jp_c30 : (0 : Int32).toNatClampNeg = 0 := by decide
theorem op_swap {R nc L j : Nat} {xs : Nat → Int32} (hL : L ≤ 2049) (hj : j + 4 ≤ L) {σ : jp_I} {τ : jp_J} (h : Iv R nc σ τ) : spc (fC_swap R nc L xs (nI j) σ τ) (Iv R nc) := by
  obtain ⟨G, st, en, bar, sd, pl, hA, hX, hM⟩ := h
  unfold fC_swap
  rw [show (1 : Int32) = nI 1 from rfl, (jq_idx hj hL (by decide)).2]
  refine spc_ok (jq_idx hj hL (by decide)).1 ?_
  have key : ∀ b : Bool, spc ((fX7_swap R nc (bI b) σ τ).bind fun x => match x with
      | (a_3, σ_3, τ_3) => (fX8_swap (bI b) σ_3 τ_3).bind fun x => match x with
        | (a_5, σ_5, τ_5) => if a_3 = a_5 then some (σ_5, τ_5) else none) (Iv R nc) := by
    intro b
    have hX0 := hX
    obtain ⟨x0, x1, x2, x3, x4, x5, x6, x7, x8, x9, x10, x11⟩ := hX
    obtain ⟨m0, m1, m2, m3, m4, m5, m6⟩ := hM
    refine spc_bind (P := fun a σ' τ' => a = bI bar ∧ σ' = jp_up σ 1 4 (bI b) ∧ τ' = τ) ?_ ?_
    · unfold fX7_swap
      rw [if_pos (bI_isb _), x7, if_pos (bI_isb _)]
      exact sp_ret ⟨rfl, rfl, rfl⟩
    · rintro a σ1 τ1 ⟨rfl, rfl, rfl⟩
      dsimp only
      refine spc_bind (P := fun a σ' τ' => a = bI bar ∧ σ' = jp_up (jp_up (jp_up σ 1 4 (bI b)) 20 0 0) 20 7 (bI b) ∧ τ' = τ1) ?_ ?_
      · unfold fX8_swap
        have e : (jp_up (jp_up σ 1 4 (bI b)) 20 0 0) 20 7 = bI bar := by rw [jp_up_ne _ _ _ (by decide), jp_up_n _ _ (by decide)]; exact m4
        rw [if_pos (bI_isb _), e, if_pos (bI_isb _)]
        exact sp_ret ⟨rfl, rfl, rfl⟩
      · rintro a σ1 τ1 ⟨rfl, rfl, rfl⟩
        dsimp only
        refine spc_eq rfl (spc_ret ⟨G, st, en, b, sd, pl, hA, ?_, ?_⟩)
        · have ne : ∀ i, i ≠ 1 → i ≠ 20 → (jp_up (jp_up (jp_up σ 1 4 (bI b)) 20 0 0) 20 7 (bI b)) i = σ i := fun i h1 h2 => by rw [jp_up_n _ _ h2, jp_up_n _ _ h2, jp_up_n _ _ h1]
          refine ⟨by rw [ne 0 (by decide) (by decide)]; exact x0, by rw [jp_up_n _ _ (by decide), jp_up_n _ _ (by decide), jp_up_ne _ _ _ (by decide)]; exact x1, scX_congr x2 (ne 2 (by decide) (by decide)) (ne 5 (by decide) (by decide)), chX_congr x3 (ne 6 (by decide) (by decide)), by rw [ne 2 (by decide) (by decide)]; exact x4, fun r hr => by rw [ne 3 (by decide) (by decide)]; exact x5 r hr, fun r hr => by rw [ne 4 (by decide) (by decide)]; exact x6 r hr, by rw [jp_up_n _ _ (by decide), jp_up_n _ _ (by decide), jp_up_eq], x8, ?_, fun q => by rw [ne 13 (by decide) (by decide)]; exact x10 q, fun q => by rw [ne 14 (by decide) (by decide)]; exact x11 q⟩
          unfold plX
          rw [ne 11 (by decide) (by decide), ne 12 (by decide) (by decide)]
          exact x9
        · have ne : ∀ i, 21 ≤ i → (jp_up (jp_up (jp_up σ 1 4 (bI b)) 20 0 0) 20 7 (bI b)) i = σ i := fun i h1 => by rw [jp_up_n _ _ (by omega), jp_up_n _ _ (by omega), jp_up_n _ _ (by omega)]
          have n20 : ∀ k, k ≠ 0 → k ≠ 7 → (jp_up (jp_up (jp_up σ 1 4 (bI b)) 20 0 0) 20 7 (bI b)) 20 k = σ 20 k := fun k h1 h2 => by rw [jp_up_ne _ _ _ h2, jp_up_ne _ _ _ h1, jp_up_n _ _ (by decide)]
          refine ⟨by rw [n20 1 (by decide) (by decide)]; exact m0, scM_congr m1 (n20 2 (by decide) (by decide)) (n20 3 (by decide) (by decide)) (ne 21 (by decide)), fun r hr => by rw [ne 22 (by decide)]; exact m2 r hr, fun r hr => by rw [ne 23 (by decide)]; exact m3 r hr, by rw [jp_up_eq], m5, ?_⟩
          unfold plM
          rw [n20 9 (by decide) (by decide), n20 10 (by decide) (by decide), n20 11 (by decide) (by decide), n20 12 (by decide) (by decide), ne 24 (by decide)]
          exact m6
  exact spc_if (fun _ => key false) (fun _ => key true)
theorem i64_seed {p : Int32} (h : 0 ≤ p) : (0 : Int64) ≤ p.toInt64 ∧ p.toInt64 < 2147483648 := by
  obtain ⟨a, ha, rfl⟩ := i_nat (by rw [Int32.not_lt]; exact h)
  constructor
  · rw [Int64.le_iff_toInt_le, Int32.toInt_toInt64, ni_toInt ha]
    have : (0 : Int64).toInt = 0 := by decide
    omega
  · rw [Int64.lt_iff_toInt_lt, Int32.toInt_toInt64, ni_toInt ha]
    have : (2147483648 : Int64).toInt = 2147483648 := by decide
    omega
theorem op_seed {R nc L j : Nat} {xs : Nat → Int32} (hL : L ≤ 2049) (hj : j + 4 ≤ L) {σ : jp_I} {τ : jp_J} (h : Iv R nc σ τ) : spc (fC_seed R nc L xs (nI j) σ τ) (Iv R nc) := by
  obtain ⟨G, st, en, bar, sd, pl, hA, hX, hM⟩ := h
  unfold fC_seed
  rw [show (1 : Int32) = nI 1 from rfl, (jq_idx hj hL (by decide)).2]
  refine spc_ok (jq_idx hj hL (by decide)).1 ?_
  generalize xs (j + 1) = p1
  by_cases c : 0 ≤ p1
  · refine spc_bind (P := fun a σ' τ' => a = 0 ∧ σ' = σ ∧ τ' = jp_upl τ 9 1 p1.toInt64) ?_ ?_
    · unfold fL_seed fX7_seed
      rw [if_pos c]
      exact sp_ret ⟨rfl, rfl, rfl⟩
    · rintro a σ1 τ1 ⟨rfl, rfl, rfl⟩
      dsimp only
      refine spc_bind (P := fun a σ' τ' => σ' = jp_up σ1 20 0 0 ∧ τ' = jp_upl (jp_upl τ 9 1 p1.toInt64) 20 8 p1.toInt64) ?_ ?_
      · unfold fX8_seed bX8_seed_10
        rw [if_pos c, jp_up_eq, if_pos rfl]
        exact sp_ret ⟨rfl, rfl⟩
      · rintro a σ2 τ2 ⟨rfl, rfl⟩
        dsimp only
        refine spc_bind (sp_pure (m_thrown _ _) (P := fun a σ3 τ3 => a = 0 ∧ σ3 = jp_up σ1 20 0 0 ∧ τ3 = jp_upl (jp_upl τ 9 1 p1.toInt64) 20 8 p1.toInt64) ⟨jp_up_eq _ _ _ _, rfl, rfl⟩) ?_
        rintro a σ3 τ3 ⟨rfl, rfl, rfl⟩
        dsimp only
        refine spc_eq rfl (spc_ret ⟨G, st, en, bar, p1.toInt64, pl, ?_, ?_, ?_⟩)
        · obtain ⟨a1, a2, a3, a4, a5, a6, a7, a8, a9⟩ := hA
          exact ⟨a1, a2, a3, a4, a5, a6, (i64_seed c).1, (i64_seed c).2, a9⟩
        · have hX2 := RX_thr (τ := τ) hX 0
          obtain ⟨x0, x1, x2, x3, x4, x5, x6, x7, x8, x9, x10, x11⟩ := hX2
          exact ⟨x0, x1, x2, x3, x4, x5, x6, x7, by rw [jp_upl_n _ _ (by decide), jp_upl_eq], x9, x10, x11⟩
        · have hM2 := RM_thr (τ := τ) hM 0
          obtain ⟨m0, m1, m2, m3, m4, m5, m6⟩ := hM2
          exact ⟨m0, m1, m2, m3, m4, by rw [jp_upl_eq], m6⟩
  · refine spc_bind (P := fun a σ' τ' => a = 1 ∧ σ' = σ ∧ τ' = τ) ?_ ?_
    · unfold fL_seed fX7_seed
      rw [if_neg c]
      exact sp_ret ⟨rfl, rfl, rfl⟩
    · rintro a σ1 τ1 ⟨rfl, rfl, rfl⟩
      dsimp only
      refine spc_bind (P := fun a σ' τ' => σ' = jp_up σ1 20 0 1 ∧ τ' = τ1) ?_ ?_
      · unfold fX8_seed bX8_seed_10
        rw [if_neg c, jp_up_eq, if_neg (by decide)]
        exact sp_ret ⟨rfl, rfl⟩
      · rintro a σ2 τ2 ⟨rfl, rfl⟩
        dsimp only
        refine spc_bind (sp_pure (m_thrown _ _) (P := fun a σ3 τ3 => a = 1 ∧ σ3 = jp_up σ1 20 0 1 ∧ τ3 = τ2) ⟨jp_up_eq _ _ _ _, rfl, rfl⟩) ?_
        rintro a σ3 τ3 ⟨rfl, rfl, rfl⟩
        dsimp only
        exact spc_eq rfl (spc_ret ⟨G, st, en, bar, sd, pl, hA, RX_thr hX 1, RM_thr hM 1⟩)
theorem s_isMade {R nc : Nat} {pl : plT} {σ : jp_I} (τ : jp_J) (h : plX R nc pl σ) (ho : plOk R pl) : fX2_isMade 11 12 nc σ τ = some (bI pl.isSome, σ, τ) := by
  unfold fX2_isMade
  cases e : pl with
  | none => rw [if_pos (h.2.1 e)]; rfl
  | some q =>
    obtain ⟨c, t, f⟩ := q
    have h1 := (h.2.2 c t f e).1
    have h2 := (ho c t f e).1
    rw [if_neg (by rw [h1]; exact ni_neg (by omega))]; rfl
theorem op_exact {R nc L j : Nat} {xs : Nat → Int32} (hL : L ≤ 2049) (hj : j + 4 ≤ L) {σ : jp_I} {τ : jp_J} (h : Iv R nc σ τ) : spc (fC_exact R nc L xs (nI j) σ τ) (Iv R nc) := by
  obtain ⟨G, st, en, bar, sd, pl, hA, hX, hM⟩ := h
  have hR := hA.1
  unfold fC_exact
  refine spc_bind (P := fun a σ' τ' => a = bI (decide (R ≤ 2) && pl.isSome) ∧ σ' = σ ∧ τ' = τ) ?_ ?_
  · unfold fX7_exact
    rw [hX.1, show (2 : Int32) = nI 2 from rfl]
    refine sp_if (fun q => ?_) (fun q => ?_)
    · rw [ni_lt (by decide) (by omega)] at q
      refine sp_ret ⟨?_, rfl, rfl⟩
      rw [show decide (R ≤ 2) = false from decide_eq_false (by omega)]; rfl
    · rw [ni_lt (by decide) (by omega)] at q
      refine sp_seq (s_isMade τ hX.2.2.2.2.2.2.2.2.2.1 hA.2.2.2.2.2.2.2.2) ?_
      dsimp only
      rw [show decide (R ≤ 2) = true from decide_eq_true (by omega)]
      cases pl.isSome
      · exact sp_ret ⟨rfl, rfl, rfl⟩
      · exact sp_ret ⟨rfl, rfl, rfl⟩
  · rintro a σ1 τ1 ⟨rfl, rfl, rfl⟩
    dsimp only
    refine spc_bind (P := fun a σ' τ' => a = bI (decide (R ≤ 2) && pl.isSome) ∧ σ' = jp_up σ1 20 0 0 ∧ τ' = τ1) ?_ ?_
    · unfold fX8_exact
      rw [jp_up_ne _ _ _ (by decide), jp_up_ne _ _ _ (by decide)]
      obtain ⟨p1, p2⟩ := hM.2.2.2.2.2.2
      cases e : pl with
      | none =>
        rw [if_pos (p1 e)]
        exact sp_ret ⟨by simp [bI], rfl, rfl⟩
      | some q =>
        obtain ⟨c, t, f⟩ := q
        obtain ⟨q1, q2, -⟩ := p2 c t f e
        rw [q1, q2, if_neg (by decide)]
        cases decide (R ≤ 2)
        · exact sp_ret ⟨rfl, rfl, rfl⟩
        · exact sp_ret ⟨rfl, rfl, rfl⟩
    · rintro a σ2 τ2 ⟨rfl, rfl, rfl⟩
      dsimp only
      exact spc_eq rfl (spc_ret ⟨G, st, en, bar, sd, pl, hA, RX_thr hX 0, RM_thr hM 0⟩)
theorem s_needPlan {R nc : Nat} {pl : plT} {σ : jp_I} (τ : jp_J) (h : plX R nc pl σ) (ho : plOk R pl) : fX7_needPlan R nc σ τ = some (if pl.isSome then .inl 0 else .inr 1, σ, τ) := by
  unfold fX7_needPlan
  rw [s_isMade τ h ho, Option.bind_some]
  cases pl.isSome <;> rfl
theorem op_last {R nc L j : Nat} {xs : Nat → Int32} (hL : L ≤ 2049) (hj : j + 4 ≤ L) {σ : jp_I} {τ : jp_J} (h : Iv R nc σ τ) : spc (fC_last R nc L xs (nI j) σ τ) (Iv R nc) := by
  obtain ⟨G, st, en, bar, sd, pl, hA, hX, hM⟩ := h
  unfold fC_last
  have hpl := hX.2.2.2.2.2.2.2.2.2.1
  have hok := hA.2.2.2.2.2.2.2.2
  cases e : pl with
  | none =>
    refine op_i (m := fun σ τ => fX8_last σ τ) (PX := fun k σ1 τ1 => k = 1 ∧ σ1 = σ ∧ τ1 = τ) ?_ ?_
    · unfold fL_last fX7_last
      rw [s_needPlan τ hpl hok, e]
      exact sp_ret ⟨rfl, rfl, rfl⟩
    · rintro k σ1 τ1 ⟨rfl, rfl, rfl⟩
      unfold fX8_last bX8_last_13
      rw [if_pos (hM.2.2.2.2.2.2.1 e), jp_up_eq, if_neg (by decide)]
      exact sp_ret ⟨jp_up_eq _ _ _ _, fun q => absurd q (by decide), G, st, en, bar, sd, pl, hA, RX_thr hX 1, RM_thr hM 1⟩
  | some q =>
    obtain ⟨c, t, f⟩ := q
    obtain ⟨q1, q2, q3, q4, q5⟩ := hM.2.2.2.2.2.2.2 c t f e
    refine op_i (m := fun σ τ => fX8_last σ τ) (PX := fun k σ1 τ1 => k = 0 ∧ σ1 = σ ∧ τ1 = jp_upl τ 30 0 (nI t).toInt64) ?_ ?_
    · unfold fL_last fX7_last
      rw [s_needPlan τ hpl hok, e]
      exact sp_ret ⟨rfl, rfl, by rw [jp_c30, (hpl.2.2 c t f e).2.1]⟩
    · rintro k σ1 τ1 ⟨rfl, rfl, rfl⟩
      unfold fX8_last bX8_last_13
      rw [if_neg (by rw [q1]; decide), jp_up_eq, if_pos rfl]
      refine sp_ret ⟨jp_up_eq _ _ _ _, fun _ => ?_, G, st, en, bar, sd, pl, hA, RX_thr (RX_congr hX (fun _ _ => rfl) (jp_upl_n _ _ (by decide))) 0, RM_thr (RM_congr hM (fun _ _ => rfl) (fun _ _ _ => rfl) (jp_upl_n _ _ (by decide))) 0⟩
      rw [jp_c30, jp_upl_eq, jp_up_ne _ _ _ (by decide), q4]
