-- alone, bound, share
theorem s_isComplete {R nc r : Nat} {G : gG} {st en : Nat → Option Nat} {bar : Bool} {sd : Int64} {pl : plT} {σ : jp_I} {τ : jp_J} (h : RX R nc G st en bar sd pl σ τ) (hA : AO R nc G st en sd pl) (hr : r < R) : fX5_isComplete R (nI r) σ τ = some (bI ((st r).isSome && (en r).isSome), σ, τ) := by
  obtain ⟨hR, hnc, ha3, ha4, -⟩ := hA
  unfold fX5_isComplete
  rw [s_readi 3 σ τ (by omega) hr, Option.bind_some]
  dsimp only
  rw [h.2.2.2.2.2.1 r hr]
  cases e : st r with
  | none => rw [if_pos (show enc none = -1 from rfl)]; rfl
  | some c =>
    have hc := opn_lt (ha3 r c hr e)
    rw [if_neg (show ¬ enc (some c) = -1 from ni_neg (by omega)), s_readi 4 σ τ (by omega) hr, Option.bind_some]
    dsimp only
    rw [h.2.2.2.2.2.2.1 r hr]
    cases e2 : en r with
    | none => rw [if_pos (show enc none = -1 from rfl)]; rfl
    | some d =>
      have hd := opn_lt (ha4 r d hr e2)
      rw [if_neg (show ¬ enc (some d) = -1 from ni_neg (by omega))]; rfl
theorem RX_78 {R nc : Nat} {G : gG} {st en : Nat → Option Nat} {bar : Bool} {sd : Int64} {pl : plT} {σ σ' : jp_I} {τ : jp_J} (h : RX R nc G st en bar sd pl σ τ) (hs : ∀ i, i ≠ 7 → i ≠ 8 → σ' i = σ i) : RX R nc G st en bar sd pl σ' τ := by
  obtain ⟨h0, h1, h2, h3, h4, h5, h6, h7, h8, h9, h10, h11⟩ := h
  obtain ⟨p1, p2, p3⟩ := h9
  have n : ∀ i, i ≠ 7 → i ≠ 8 → σ' i = σ i := hs
  refine ⟨by rw [n 0 (by decide) (by decide)]; exact h0, by rw [n 1 (by decide) (by decide)]; exact h1, scX_congr h2 (n 2 (by decide) (by decide)) (n 5 (by decide) (by decide)), chX_congr h3 (n 6 (by decide) (by decide)), by rw [n 2 (by decide) (by decide)]; exact h4, fun r hr => by rw [n 3 (by decide) (by decide)]; exact h5 r hr, fun r hr => by rw [n 4 (by decide) (by decide)]; exact h6 r hr, by rw [n 1 (by decide) (by decide)]; exact h7, h8, ⟨by rw [n 11 (by decide) (by decide)]; exact p1, fun q => by rw [n 11 (by decide) (by decide)]; exact p2 q, fun c t f q => ?_⟩, fun q => by rw [n 13 (by decide) (by decide)]; exact h10 q, fun q => by rw [n 14 (by decide) (by decide)]; exact h11 q⟩
  rw [n 11 (by decide) (by decide), n 12 (by decide) (by decide)]
  exact p3 c t f q
theorem RM_27 {R : Nat} {G : gG} {st en : Nat → Option Nat} {bar : Bool} {sd : Int64} {pl : plT} {σ σ' : jp_I} {τ : jp_J} (h : RM R G st en bar sd pl σ τ) (hs : ∀ i, i ≠ 27 → σ' i = σ i) : RM R G st en bar sd pl σ' τ := RM_congr h (fun k _ => by rw [hs 20 (by decide)]) (fun i h1 h2 => hs i (by omega)) rfl
theorem s_way {R nc r s e : Nat} {G : gG} {st en : Nat → Option Nat} {bar : Bool} {sd : Int64} {pl : plT} {σ : jp_I} {τ : jp_J} (h : RX R nc G st en bar sd pl σ τ) (hA : AO R nc G st en sd pl) (hr : r < R) (hs : st r = some s) (he : en r = some e) : sp (fX5_way R (nI r) σ τ) (fun v σ' τ' => τ' = τ ∧ (∀ i, i ≠ 7 → i ≠ 8 → σ' i = σ i) ∧ ∃ o, isD (opn G) s e o ∧ v = enc o) := by
  obtain ⟨hR, hnc, ha3, ha4, -⟩ := hA
  unfold fX5_way
  refine sp_seq (s_readi 3 σ τ (by omega) hr) ?_
  dsimp only
  refine sp_seq (s_readi 4 σ τ (by omega) hr) ?_
  dsimp only
  rw [h.2.2.2.2.2.1 r hr, h.2.2.2.2.2.2.1 r hr, hs, he]
  refine sp_bind (s_moves τ h.2.2.2.1 (ha3 r s hr hs) (opn_lt (ha4 r e hr he))) ?_
  rintro v σ1 τ1 h1
  exact sp_ret h1
theorem isD_lt {S : Nat → Bool} {a b : Nat} {o : Option Nat} (h : isD S a b o) : ∀ d, o = some d → d < 36 := fun d q => (h.1 d q).1
theorem op_alone {R nc L j : Nat} {xs : Nat → Int32} (hL : L ≤ 2049) (hj : j + 4 ≤ L) {σ : jp_I} {τ : jp_J} (h : Iv R nc σ τ) : spc (fC_alone R nc L xs (nI j) σ τ) (Iv R nc) := by
  obtain ⟨G, st, en, bar, sd, pl, hA, hX, hM⟩ := h
  have hR := hA.1
  obtain ⟨-, -, ha3, ha4, -⟩ := id hA
  unfold fC_alone
  rw [show (1 : Int32) = nI 1 from rfl, (jq_idx hj hL (by decide)).2]
  refine spc_ok (jq_idx hj hL (by decide)).1 ?_
  generalize xs (j + 1) = p1
  by_cases a1 : p1 < 0 ∨ nI R ≤ p1
  · refine op_i (m := fun σ τ => fX8_alone p1 σ τ) (PX := fun k σ1 τ1 => k = 1 ∧ σ1 = σ ∧ τ1 = τ) ?_ ?_
    · unfold fL_alone fX7_alone
      rw [s_needRobot τ hX.1, if_pos a1]
      exact sp_ret ⟨rfl, rfl, rfl⟩
    · rintro k σ1 τ1 ⟨rfl, rfl, rfl⟩
      have key : sp (bX8_alone_13 p1 σ1 τ1) (fun v σ2 τ2 => σ2 20 0 = 1 ∧ ((1 : Int32) = 0 → τ2 30 (0 : Int32).toNatClampNeg = v.toInt64) ∧ Iv R nc σ2 τ2) := by
        unfold bX8_alone_13 bX8_alone_40
        rw [jp_up_eq, if_neg (by decide)]
        exact sp_ret ⟨jp_up_eq _ _ _ _, fun q => absurd q (by decide), G, st, en, bar, sd, pl, hA, RX_thr hX 1, RM_thr hM 1⟩
      unfold fX8_alone
      rw [hM.1]
      rcases a1 with a | a
      · rw [if_pos a]; exact key
      · refine sp_if (fun _ => key) (fun _ => ?_)
        rw [if_neg (Int32.not_lt.mpr a)]
        exact key
  · have b1 : ¬ p1 < 0 := fun q => a1 (Or.inl q)
    have b2 : ¬ nI R ≤ p1 := fun q => a1 (Or.inr q)
    obtain ⟨r, hr, rfl⟩ := i_lt b1 (by rw [← Int32.not_le]; exact b2) (by omega)
    by_cases cm : (∃ s e, st r = some s ∧ en r = some e)
    · obtain ⟨s, e, hs, he⟩ := cm
      refine op_i (m := fun σ τ => fX8_alone (nI r) σ τ) (PX := fun k σ1 τ1 => k = 0 ∧ (∀ i, i ≠ 7 → i ≠ 8 → σ1 i = σ i) ∧ ∃ o, isD (opn G) s e o ∧ τ1 = jp_upl τ 30 0 (enc o).toInt64) ?_ ?_
      · unfold fL_alone fX7_alone
        rw [s_needRobot τ hX.1, if_neg a1]
        refine sp_bind (P := fun o' σ1 τ1 => (∀ i, i ≠ 7 → i ≠ 8 → σ1 i = σ i) ∧ τ1 = τ ∧ ∃ o, isD (opn G) s e o ∧ o' = .inl (enc o)) ?_ ?_
        · rw [Option.bind_some]
          dsimp only
          refine sp_seq (s_isComplete hX hA hr) ?_
          dsimp only
          rw [hs, he, if_neg (show ¬ bI ((some s).isSome && (some e).isSome) = 0 from fun q => absurd q (show ¬ bI true = 0 by decide))]
          refine sp_bind (s_way hX hA hr hs he) ?_
          rintro v σ1 τ1 ⟨rfl, h1, o, h2, rfl⟩
          exact sp_ret ⟨h1, rfl, o, h2, rfl⟩
        · rintro o' σ1 τ1 ⟨h1, rfl, o, h2, rfl⟩
          exact sp_ret ⟨rfl, h1, o, h2, by rw [jp_c30]⟩
      · rintro k σ1 τ1 ⟨rfl, h1, o, h2, rfl⟩
        have hX1 : RX R nc G st en bar sd pl σ1 (jp_upl τ 30 0 (enc o).toInt64) := RX_congr (RX_78 hX h1) (fun _ _ => rfl) (jp_upl_n _ _ (by decide))
        have hM1 : RM R G st en bar sd pl σ1 (jp_upl τ 30 0 (enc o).toInt64) := RM_congr hM (fun k _ => by rw [h1 20 (by decide) (by decide)]) (fun i h3 h4 => h1 i (by omega) (by omega)) (jp_upl_n _ _ (by decide))
        have e22 : σ1 22 r = nI s := by rw [hM1.2.2.1 r hr, hs]; rfl
        have e23 : σ1 23 r = nI e := by rw [hM1.2.2.2.1 r hr, he]; rfl
        have hs36 := opn_lt (ha3 r s hr hs)
        have he36 := opn_lt (ha4 r e hr he)
        unfold fX8_alone
        rw [hM1.1, if_neg b1, if_pos (by rw [← Int32.not_le]; exact b2)]
        refine sp_ok (ni_ok (by omega) (by omega)) ?_
        rw [ni_nat (by omega), e22, e23, if_neg (ni_nn (by omega))]
        refine sp_ok (ni_ok (by omega) (by omega)) ?_
        rw [if_pos (ni_ge0 (by omega))]
        unfold bX8_alone_40
        rw [jp_up_eq, if_pos rfl]
        have hM2 := RM_thr hM1 0
        refine sp_bind (m_distance (R := R) _ hM2.2.1 (by omega) (by rw [jp_up_n _ _ (by decide)]; exact e22) (by rw [jp_up_n _ _ (by decide)]; exact e23) (ha3 r s hr hs) (ha4 r e hr he)) ?_
        rintro v σ2 τ2 ⟨rfl, h3, o2, h4, rfl⟩
        dsimp only
        have ho := isD_uniq h2 h4
        subst ho
        refine sp_ret ⟨by rw [h3 20 (by decide), jp_up_eq], fun _ => by rw [jp_c30, jp_upl_eq], G, st, en, bar, sd, pl, hA, RX_congr (RX_thr hX1 0) (fun i hi => h3 i (by omega)) rfl, RM_27 hM2 h3⟩
    · have cf : ((st r).isSome && (en r).isSome) = false := by
        cases e1 : st r with
        | none => rfl
        | some s =>
          cases e2 : en r with
          | none => rfl
          | some e => exact absurd ⟨s, e, e1, e2⟩ cm
      refine op_i (m := fun σ τ => fX8_alone (nI r) σ τ) (PX := fun k σ1 τ1 => k = 2 ∧ σ1 = σ ∧ τ1 = τ) ?_ ?_
      · unfold fL_alone fX7_alone
        rw [s_needRobot τ hX.1, if_neg a1]
        refine sp_bind (P := fun o' σ1 τ1 => o' = .inr 1 ∧ σ1 = σ ∧ τ1 = τ) ?_ ?_
        · rw [Option.bind_some]
          dsimp only
          refine sp_seq (s_isComplete hX hA hr) ?_
          dsimp only
          rw [cf, if_pos (show bI false = 0 from rfl)]
          exact sp_ret ⟨rfl, rfl, rfl⟩
        · rintro o' σ1 τ1 ⟨rfl, rfl, rfl⟩
          exact sp_ret ⟨rfl, rfl, rfl⟩
      · rintro k σ1 τ1 ⟨rfl, rfl, rfl⟩
        have key : sp (bX8_alone_35 (nI r) σ1 τ1) (fun v σ2 τ2 => σ2 20 0 = 2 ∧ ((2 : Int32) = 0 → τ2 30 (0 : Int32).toNatClampNeg = v.toInt64) ∧ Iv R nc σ2 τ2) := by
          unfold bX8_alone_35 bX8_alone_40
          rw [jp_up_eq, if_neg (by decide)]
          exact sp_ret ⟨jp_up_eq _ _ _ _, fun q => absurd q (by decide), G, st, en, bar, sd, pl, hA, RX_thr hX 2, RM_thr hM 2⟩
        unfold fX8_alone
        rw [hM.1, if_neg b1, if_pos (by rw [← Int32.not_le]; exact b2)]
        refine sp_ok (ni_ok (by omega) (by omega)) ?_
        rw [ni_nat (by omega), hM.2.2.1 r hr, hM.2.2.2.1 r hr]
        cases e1 : st r with
        | none =>
          rw [if_pos (show enc none < 0 by decide)]
          exact key
        | some s =>
          have hs36 := opn_lt (ha3 r s hr e1)
          rw [if_neg (show ¬ enc (some s) < 0 from ni_nn (by omega))]
          refine sp_ok (ni_ok (by omega) (by omega)) ?_
          cases e2 : en r with
          | none =>
            rw [if_neg (show ¬ 0 ≤ enc none by decide)]
            exact key
          | some e => exact absurd ⟨s, e, e1, e2⟩ cm
-- all robots have start and end
def cmp (R : Nat) (st en : Nat → Option Nat) : Prop := ∀ r, r < R → ∃ s e, st r = some s ∧ en r = some e
theorem s_needComplete {R nc : Nat} {G : gG} {st en : Nat → Option Nat} {bar : Bool} {sd : Int64} {pl : plT} {σ : jp_I} {τ : jp_J} (h : RX R nc G st en bar sd pl σ τ) (hA : AO R nc G st en sd pl) : sp (fX7_needComplete R nc σ τ) (fun o σ' τ' => σ' = σ ∧ τ' = τ ∧ ((o = .inl 0 ∧ cmp R st en) ∨ (o = .inr 1 ∧ ¬ cmp R st en))) := by
  have hR := hA.1
  unfold fX7_needComplete
  refine sp_bind (P := fun e σ' τ' => σ' = σ ∧ τ' = τ ∧ ((e = .inl () ∧ cmp R st en) ∨ (e = .inr (.inr 1) ∧ ¬ cmp R st en))) ?_ ?_
  · refine sp_for (fun i σ' τ' => σ' = σ ∧ τ' = τ ∧ ∀ r, r < i → ∃ s e, st r = some s ∧ en r = some e) 0 R (Nat.zero_le _) (by omega) ⟨rfl, rfl, fun r hr => absurd hr (Nat.not_lt_zero _)⟩ ?_ ?_
    · rintro i σ' τ' - hi ⟨rfl, rfl, hh⟩
      dsimp only
      unfold sX7_needComplete_2
      rw [h.1, if_neg (by rw [ni_le (by omega) (by omega)]; omega)]
      refine sp_seq (s_isComplete h hA hi) ?_
      dsimp only
      cases e1 : st i with
      | none =>
        rw [if_pos (show bI (Option.isSome none && (en i).isSome) = 0 from rfl)]
        refine sp_ret ⟨rfl, rfl, Or.inr ⟨rfl, fun q => ?_⟩⟩
        obtain ⟨s, e, h1, -⟩ := q i hi
        rw [e1] at h1; cases h1
      | some s =>
        cases e2 : en i with
        | none =>
          rw [if_pos (show bI (Option.isSome (some s) && Option.isSome none) = 0 from rfl)]
          refine sp_ret ⟨rfl, rfl, Or.inr ⟨rfl, fun q => ?_⟩⟩
          obtain ⟨s, e, -, h1⟩ := q i hi
          rw [e2] at h1; cases h1
        | some e =>
          rw [if_neg (show ¬ bI ((some s).isSome && (some e).isSome) = 0 from fun q => absurd q (show ¬ bI true = 0 by decide))]
          refine sp_ret ⟨by rw [← ni_add]; rfl, rfl, rfl, fun r hr => ?_⟩
          by_cases w : r = i
          · rw [w]; exact ⟨s, e, e1, e2⟩
          · exact hh r (by omega)
    · rintro σ' τ' ⟨rfl, rfl, hh⟩
      dsimp only
      unfold sX7_needComplete_2
      rw [h.1, if_pos (by rw [ni_le (by omega) (by omega)]; omega)]
      exact sp_ret ⟨rfl, rfl, Or.inl ⟨rfl, hh⟩⟩
  · rintro e σ' τ' ⟨rfl, rfl, ⟨rfl, hh⟩ | ⟨rfl, hh⟩⟩
    · exact sp_ret ⟨rfl, rfl, Or.inl ⟨rfl, hh⟩⟩
    · exact sp_ret ⟨rfl, rfl, Or.inr ⟨rfl, hh⟩⟩
theorem m_missing {R nc : Nat} {G : gG} {st en : Nat → Option Nat} {bar : Bool} {sd : Int64} {pl : plT} {σ : jp_I} {τ : jp_J} (h : RM R G st en bar sd pl σ τ) (hA : AO R nc G st en sd pl) : sp (fX8_missing σ τ) (fun v σ' τ' => σ' = σ ∧ τ' = τ ∧ ((v = 0 ∧ cmp R st en) ∨ (v = 1 ∧ ¬ cmp R st en))) := by
  have hR := hA.1
  obtain ⟨-, -, ha3, ha4, -⟩ := id hA
  unfold fX8_missing
  refine sp_bind (P := fun e σ' τ' => σ' = σ ∧ τ' = τ ∧ ((e = .inl () ∧ cmp R st en) ∨ (e = .inr 1 ∧ ¬ cmp R st en))) ?_ ?_
  · refine sp_for (fun i σ' τ' => σ' = σ ∧ τ' = τ ∧ ∀ r, r < i → ∃ s e, st r = some s ∧ en r = some e) 0 R (Nat.zero_le _) (by omega) ⟨rfl, rfl, fun r hr => absurd hr (Nat.not_lt_zero _)⟩ ?_ ?_
    · rintro i σ' τ' - hi ⟨rfl, rfl, hh⟩
      dsimp only
      unfold sX8_missing_2
      rw [h.1, if_neg (by rw [ni_le (by omega) (by omega)]; omega)]
      refine sp_ok (ni_ok (by omega) (by omega)) ?_
      rw [ni_nat (by omega), h.2.2.1 i hi, h.2.2.2.1 i hi]
      cases e1 : st i with
      | none =>
        rw [if_pos (show enc none < 0 by decide)]
        refine sp_ret ⟨rfl, rfl, Or.inr ⟨rfl, fun q => ?_⟩⟩
        obtain ⟨s, e, h1, -⟩ := q i hi
        rw [e1] at h1; cases h1
      | some s =>
        have hs36 := opn_lt (ha3 i s hi e1)
        rw [if_neg (show ¬ enc (some s) < 0 from ni_nn (by omega))]
        refine sp_ok (ni_ok (by omega) (by omega)) ?_
        cases e2 : en i with
        | none =>
          rw [if_neg (show ¬ 0 ≤ enc none by decide)]
          refine sp_ret ⟨rfl, rfl, Or.inr ⟨rfl, fun q => ?_⟩⟩
          obtain ⟨s, e, -, h1⟩ := q i hi
          rw [e2] at h1; cases h1
        | some e =>
          have he36 := opn_lt (ha4 i e hi e2)
          rw [if_pos (show 0 ≤ enc (some e) from ni_ge0 (by omega))]
          refine sp_ret ⟨by rw [← ni_add]; rfl, rfl, rfl, fun r hr => ?_⟩
          by_cases w : r = i
          · rw [w]; exact ⟨s, e, e1, e2⟩
          · exact hh r (by omega)
    · rintro σ' τ' ⟨rfl, rfl, hh⟩
      dsimp only
      unfold sX8_missing_2
      rw [h.1, if_pos (by rw [ni_le (by omega) (by omega)]; omega)]
      exact sp_ret ⟨rfl, rfl, Or.inl ⟨rfl, hh⟩⟩
  · rintro e σ' τ' ⟨rfl, rfl, ⟨rfl, hh⟩ | ⟨rfl, hh⟩⟩
    · exact sp_ret ⟨rfl, rfl, Or.inl ⟨rfl, hh⟩⟩
    · exact sp_ret ⟨rfl, rfl, Or.inr ⟨rfl, hh⟩⟩
theorem s_allWays {R nc : Nat} {G : gG} {st en : Nat → Option Nat} {bar : Bool} {sd : Int64} {pl : plT} {σ : jp_I} {τ : jp_J} (h : RX R nc G st en bar sd pl σ τ) (hA : AO R nc G st en sd pl) (hc : cmp R st en) (D : Nat → Option Nat) (hD : ∀ r s e, r < R → st r = some s → en r = some e → isD (opn G) s e (D r)) :
    sp (fX5_allWays R σ τ) (fun v σ' τ' => τ' = τ ∧ (∀ i, i ≠ 7 → i ≠ 8 → σ' i = σ i) ∧ ((v = -1 ∧ ∃ r, r < R ∧ D r = none) ∨ ((∀ r, r < R → D r ≠ none) ∧ v = nI (sm (fun r => (D r).getD 0) R)))) := by
  have hR := hA.1
  have hDl : ∀ r, r < R → ∀ d, D r = some d → d < 36 := by
    intro r hr d hd
    obtain ⟨s, e, h1, h2⟩ := hc r hr
    exact isD_lt (hD r s e hr h1 h2) d hd
  unfold fX5_allWays
  refine sp_bind (P := fun x σ' τ' => τ' = τ ∧ (∀ i, i ≠ 7 → i ≠ 8 → σ' i = σ i) ∧ ((x = .inr (-1) ∧ ∃ r, r < R ∧ D r = none) ∨ ((∀ r, r < R → D r ≠ none) ∧ x = .inl (nI (sm (fun r => (D r).getD 0) R))))) ?_ ?_
  · refine sp_loopF (fun v σ' τ' m => ∃ i, i ≤ R ∧ m = R - i ∧ v = (nI (sm (fun r => (D r).getD 0) i), nI i) ∧ τ' = τ ∧ (∀ i, i ≠ 7 → i ≠ 8 → σ' i = σ i) ∧ ∀ r, r < i → D r ≠ none) R ⟨0, Nat.zero_le _, rfl, rfl, rfl, fun _ _ _ => rfl, fun r hr => absurd hr (Nat.not_lt_zero _)⟩ (by omega) ?_
    rintro v σ1 τ1 m ⟨i, hi, rfl, rfl, rfl, hfr, hn⟩
    dsimp only
    unfold sX5_allWays_4
    have hX1 := RX_78 h hfr
    rw [hX1.2.1]
    refine sp_if (fun z => ?_) (fun z => ?_)
    · rw [ni_le (by omega) (by omega)] at z
      have : i = R := by omega
      subst this
      exact sp_ret ⟨rfl, hfr, Or.inr ⟨hn, rfl⟩⟩
    · rw [ni_le (by omega) (by omega)] at z
      obtain ⟨s, e, h1, h2⟩ := hc i (by omega)
      refine sp_bind (s_way hX1 hA (by omega) h1 h2) ?_
      rintro v σ2 τ2 ⟨rfl, h3, o, h4, rfl⟩
      dsimp only
      have ho := isD_uniq h4 (hD i s e (by omega) h1 h2)
      subst ho
      have fr2 : ∀ i, i ≠ 7 → i ≠ 8 → σ2 i = σ i := fun k a b => by rw [h3 k a b]; exact hfr k a b
      cases e1 : D i with
      | none =>
        rw [if_pos (show enc none = -1 from rfl)]
        exact sp_ret ⟨rfl, fr2, Or.inl ⟨rfl, i, by omega, e1⟩⟩
      | some d =>
        have hd := hDl i (by omega) d e1
        rw [if_neg (show ¬ enc (some d) = -1 from ni_neg (by omega))]
        refine sp_ret ⟨R - (i + 1), by omega, i + 1, by omega, rfl, ?_, rfl, fr2, fun r hr => ?_⟩
        · show (nI _ + nI d, nI i + nI 1) = _
          rw [ni_add, ni_add]
          have : sm (fun r => (D r).getD 0) (i + 1) = sm (fun r => (D r).getD 0) i + d := by
            show _ + (D i).getD 0 = _
            rw [e1]; rfl
          rw [this]
        · by_cases w : r = i
          · rw [w, e1]; exact fun q => by cases q
          · exact hn r (by omega)
  · rintro x σ1 τ1 ⟨rfl, hfr, ⟨rfl, hh⟩ | ⟨hh, rfl⟩⟩
    · exact sp_ret ⟨rfl, hfr, Or.inl ⟨rfl, hh⟩⟩
    · exact sp_ret ⟨rfl, hfr, Or.inr ⟨hh, rfl⟩⟩
theorem m_boundOf {R nc : Nat} {G : gG} {st en : Nat → Option Nat} {bar : Bool} {sd : Int64} {pl : plT} {σ : jp_I} {τ : jp_J} (h : RM R G st en bar sd pl σ τ) (hA : AO R nc G st en sd pl) (hc : cmp R st en) (D : Nat → Option Nat) (hD : ∀ r s e, r < R → st r = some s → en r = some e → isD (opn G) s e (D r)) :
    sp (fX8_boundOf σ τ) (fun v σ' τ' => τ' = τ ∧ (∀ i, i ≠ 27 → σ' i = σ i) ∧ ((v = -1 ∧ ∃ r, r < R ∧ D r = none) ∨ ((∀ r, r < R → D r ≠ none) ∧ v = nI (sm (fun r => (D r).getD 0) R)))) := by
  have hR := hA.1
  obtain ⟨-, -, ha3, ha4, -⟩ := id hA
  have hDl : ∀ r, r < R → ∀ d, D r = some d → d < 36 := by
    intro r hr d hd
    obtain ⟨s, e, h1, h2⟩ := hc r hr
    exact isD_lt (hD r s e hr h1 h2) d hd
  unfold fX8_boundOf
  refine sp_bind (P := fun x σ' τ' => τ' = τ ∧ (∀ i, i ≠ 27 → σ' i = σ i) ∧ ((x = .inr (-1) ∧ ∃ r, r < R ∧ D r = none) ∨ ((∀ r, r < R → D r ≠ none) ∧ x = .inl (nI (sm (fun r => (D r).getD 0) R))))) ?_ ?_
  · refine sp_loopF (fun v σ' τ' m => ∃ i, i ≤ R ∧ m = R - i ∧ v = (nI (sm (fun r => (D r).getD 0) i), nI i) ∧ τ' = τ ∧ (∀ i, i ≠ 27 → σ' i = σ i) ∧ ∀ r, r < i → D r ≠ none) R ⟨0, Nat.zero_le _, rfl, rfl, rfl, fun _ _ => rfl, fun r hr => absurd hr (Nat.not_lt_zero _)⟩ (by omega) ?_
    rintro v σ1 τ1 m ⟨i, hi, rfl, rfl, rfl, hfr, hn⟩
    dsimp only
    unfold sX8_boundOf_4
    have hM1 := RM_27 h hfr
    rw [hM1.1]
    refine sp_if (fun z => ?_) (fun z => ?_)
    · rw [ni_le (by omega) (by omega)] at z
      have : i = R := by omega
      subst this
      exact sp_ret ⟨rfl, hfr, Or.inr ⟨hn, rfl⟩⟩
    · rw [ni_le (by omega) (by omega)] at z
      obtain ⟨s, e, h1, h2⟩ := hc i (by omega)
      refine sp_bind (m_distance (R := R) τ1 hM1.2.1 (by omega) (by rw [hM1.2.2.1 i (by omega), h1]; rfl) (by rw [hM1.2.2.2.1 i (by omega), h2]; rfl) (ha3 i s (by omega) h1) (ha4 i e (by omega) h2)) ?_
      rintro v σ2 τ2 ⟨rfl, h3, o, h4, rfl⟩
      dsimp only
      have ho := isD_uniq h4 (hD i s e (by omega) h1 h2)
      subst ho
      have fr2 : ∀ i, i ≠ 27 → σ2 i = σ i := fun k a => by rw [h3 k a]; exact hfr k a
      cases e1 : D i with
      | none =>
        rw [if_neg (show ¬ 0 ≤ enc none by decide)]
        exact sp_ret ⟨rfl, fr2, Or.inl ⟨rfl, i, by omega, e1⟩⟩
      | some d =>
        have hd := hDl i (by omega) d e1
        rw [if_pos (show 0 ≤ enc (some d) from ni_ge0 (by omega))]
        refine sp_ret ⟨R - (i + 1), by omega, i + 1, by omega, rfl, ?_, rfl, fr2, fun r hr => ?_⟩
        · show (nI _ + nI d, nI i + nI 1) = _
          rw [ni_add, ni_add]
          have : sm (fun r => (D r).getD 0) (i + 1) = sm (fun r => (D r).getD 0) i + d := by
            show _ + (D i).getD 0 = _
            rw [e1]; rfl
          rw [this]
        · by_cases w : r = i
          · rw [w, e1]; exact fun q => by cases q
          · exact hn r (by omega)
  · rintro x σ1 τ1 ⟨rfl, hfr, ⟨rfl, hh⟩ | ⟨hh, rfl⟩⟩
    · exact sp_ret ⟨rfl, hfr, Or.inl ⟨rfl, hh⟩⟩
    · exact sp_ret ⟨rfl, hfr, Or.inr ⟨hh, rfl⟩⟩
/-- the fewest steps, for every pair -/
theorem isD_ex (G : gG) (s e : Nat) : ∃ o, isD (opn G) s e o := by
  by_cases h : ∃ k, wk (opn G) k s e
  · obtain ⟨k, hk⟩ := h
    obtain ⟨j, hj, hj2⟩ := wk_short (fun c hc => opn_lt hc) hk
    -- the least
    have least : ∀ n, (∃ i, i ≤ n ∧ wk (opn G) i s e) → ∃ i, i ≤ n ∧ wk (opn G) i s e ∧ ∀ x, wk (opn G) x s e → i ≤ x := by
      intro n
      induction n with
      | zero =>
        rintro ⟨i, hi, h1⟩
        exact ⟨i, hi, h1, fun x _ => by omega⟩
      | succ n ih =>
        rintro ⟨i, hi, h1⟩
        by_cases q : ∃ i, i ≤ n ∧ wk (opn G) i s e
        · obtain ⟨i, h2, h3⟩ := ih q
          exact ⟨i, by omega, h3⟩
        · refine ⟨i, hi, h1, fun x hx => ?_⟩
          refine Classical.byContradiction fun w => q ⟨x, by omega, hx⟩
    obtain ⟨i, h1, h2, h3⟩ := least 35 ⟨j, hj, hj2⟩
    exact ⟨some i, fun k hk => by cases hk; exact ⟨by omega, h2, h3⟩, fun q => by cases q⟩
  · exact ⟨none, fun k hk => (by cases hk), fun _ j hj => h ⟨j, hj⟩⟩
theorem op_bound {R nc L j : Nat} {xs : Nat → Int32} (hL : L ≤ 2049) (hj : j + 4 ≤ L) {σ : jp_I} {τ : jp_J} (h : Iv R nc σ τ) : spc (fC_bound R nc L xs (nI j) σ τ) (Iv R nc) := by
  obtain ⟨G, st, en, bar, sd, pl, hA, hX, hM⟩ := h
  unfold fC_bound
  have hD : ∀ r, ∃ o, ∀ s e, st r = some s → en r = some e → isD (opn G) s e o := fun r => by
    cases e1 : st r with
    | none => exact ⟨none, fun s e h => by cases h⟩
    | some s =>
      cases e2 : en r with
      | none => exact ⟨none, fun s e _ h => by cases h⟩
      | some e =>
        obtain ⟨o, ho⟩ := isD_ex G s e
        exact ⟨o, fun s' e' h1 h2 => by cases h1; cases h2; exact ho⟩
  obtain ⟨D, hD⟩ : ∃ D : Nat → Option Nat, ∀ r s e, st r = some s → en r = some e → isD (opn G) s e (D r) := ⟨fun r => (hD r).choose, fun r => (hD r).choose_spec⟩
  by_cases c : cmp R st en
  · refine op_i (m := fun σ τ => fX8_bound σ τ) (PX := fun k σ1 τ1 => k = 0 ∧ (∀ i, i ≠ 7 → i ≠ 8 → σ1 i = σ i) ∧ ∃ v : Int32, τ1 = jp_upl τ 30 0 v.toInt64 ∧ ((v = -1 ∧ ∃ r, r < R ∧ D r = none) ∨ ((∀ r, r < R → D r ≠ none) ∧ v = nI (sm (fun r => (D r).getD 0) R)))) ?_ ?_
    · unfold fL_bound fX7_bound
      refine sp_bind (P := fun o σ1 τ1 => (∀ i, i ≠ 7 → i ≠ 8 → σ1 i = σ i) ∧ τ1 = τ ∧ ∃ v : Int32, o = .inl v ∧ ((v = -1 ∧ ∃ r, r < R ∧ D r = none) ∨ ((∀ r, r < R → D r ≠ none) ∧ v = nI (sm (fun r => (D r).getD 0) R)))) ?_ ?_
      · refine sp_bind (s_needComplete hX hA) ?_
        rintro o σ1 τ1 ⟨rfl, rfl, ⟨rfl, -⟩ | ⟨rfl, q⟩⟩
        · dsimp only
          refine sp_bind (s_allWays hX hA c D (fun r s e _ => hD r s e)) ?_
          rintro v σ2 τ2 ⟨rfl, h1, h2⟩
          exact sp_ret ⟨h1, rfl, v, rfl, h2⟩
        · exact absurd c q
      · rintro o σ1 τ1 ⟨h1, rfl, v, rfl, h2⟩
        exact sp_ret ⟨rfl, h1, v, by rw [jp_c30], h2⟩
    · rintro k σ1 τ1 ⟨rfl, h1, v, rfl, h2⟩
      have hX1 : RX R nc G st en bar sd pl σ1 (jp_upl τ 30 0 v.toInt64) := RX_congr (RX_78 hX h1) (fun _ _ => rfl) (jp_upl_n _ _ (by decide))
      have hM1 : RM R G st en bar sd pl σ1 (jp_upl τ 30 0 v.toInt64) := RM_congr hM (fun k _ => by rw [h1 20 (by decide) (by decide)]) (fun i h3 h4 => h1 i (by omega) (by omega)) (jp_upl_n _ _ (by decide))
      unfold fX8_bound
      refine sp_bind (m_missing hM1 hA) ?_
      rintro x σ2 τ2 ⟨rfl, rfl, ⟨rfl, -⟩ | ⟨rfl, q⟩⟩
      · dsimp only
        rw [if_pos rfl]
        unfold bX8_bound_13
        rw [jp_up_eq, if_pos rfl]
        have hM2 := RM_thr hM1 0
        refine sp_bind (m_boundOf hM2 hA c D (fun r s e _ => hD r s e)) ?_
        rintro w σ3 τ3 ⟨rfl, h3, h4⟩
        dsimp only
        have hwv : w = v := by
          rcases h2 with ⟨a1, r, hr, a2⟩ | ⟨a1, a2⟩
          · rcases h4 with ⟨b1, -⟩ | ⟨b1, -⟩
            · rw [a1, b1]
            · exact absurd a2 (b1 r hr)
          · rcases h4 with ⟨-, r, hr, b2⟩ | ⟨-, b2⟩
            · exact absurd b2 (a1 r hr)
            · rw [a2, b2]
        exact sp_ret ⟨by rw [h3 20 (by decide), jp_up_eq], fun _ => by rw [jp_c30, jp_upl_eq, hwv], G, st, en, bar, sd, pl, hA, RX_congr (RX_thr hX1 0) (fun i hi => h3 i (by omega)) rfl, RM_27 hM2 h3⟩
      · exact absurd c q
  · refine op_i (m := fun σ τ => fX8_bound σ τ) (PX := fun k σ1 τ1 => k = 1 ∧ σ1 = σ ∧ τ1 = τ) ?_ ?_
    · unfold fL_bound fX7_bound
      refine sp_bind (P := fun o σ1 τ1 => o = .inr 1 ∧ σ1 = σ ∧ τ1 = τ) ?_ ?_
      · refine sp_bind (s_needComplete hX hA) ?_
        rintro o σ1 τ1 ⟨rfl, rfl, ⟨rfl, q⟩ | ⟨rfl, q⟩⟩
        · exact absurd q c
        · exact sp_ret ⟨rfl, rfl, rfl⟩
      · rintro o σ1 τ1 ⟨rfl, rfl, rfl⟩
        exact sp_ret ⟨rfl, rfl, rfl⟩
    · rintro k σ1 τ1 ⟨rfl, rfl, rfl⟩
      unfold fX8_bound
      refine sp_bind (m_missing hM hA) ?_
      rintro x σ2 τ2 ⟨rfl, rfl, ⟨rfl, q⟩ | ⟨rfl, q⟩⟩
      · exact absurd q c
      · dsimp only
        rw [if_neg (by decide)]
        unfold bX8_bound_13
        rw [jp_up_eq, if_neg (by decide)]
        exact sp_ret ⟨jp_up_eq _ _ _ _, fun q => absurd q (by decide), G, st, en, bar, sd, pl, hA, RX_thr hX 1, RM_thr hM 1⟩
