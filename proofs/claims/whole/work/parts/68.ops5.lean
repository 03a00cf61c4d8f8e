-- start and end
theorem st_bad {R nc row : Nat} {G : gG} {σ : jp_I} (τ : jp_J) (h0 : σ 0 0 = nI R) (h2 : scX G σ) {p1 p2 p3 : Int32} (h : (p1 < 0 ∨ nI R ≤ p1) ∨ outC G p2 p3) : fX7_settle R nc row R p1 p2 p3 σ τ = some (.inr 0, σ, τ) := by
  unfold fX7_settle
  rw [s_needRobot τ h0]
  by_cases a : p1 < 0 ∨ nI R ≤ p1
  · rw [if_pos a]; rfl
  · rw [if_neg a]
    show ((fX0_cellAt p2 p3 σ τ).bind _) = _
    rw [s_cellOut τ h2 (h.resolve_left a)]
    rfl
theorem st_wall {R nc row r c : Nat} {G : gG} {σ : jp_I} (τ : jp_J) (h0 : σ 0 0 = nI R) (h2 : scX G σ) (hR : R ≤ 4) {p2 p3 : Int32} (hr : r < R) (ho : ¬ outC G p2 p3) (hc : c < 36) (e : p2 + 6 * p3 = nI c) (hw : G.2.2 c = true) : fX7_settle R nc row R (nI r) p2 p3 σ τ = some (.inr 1, σ, τ) := by
  unfold fX7_settle
  rw [s_needRobot τ h0, if_neg (fun q => q.elim (ni_nn (by omega)) (fun q => by rw [ni_le (by omega) (by omega)] at q; omega))]
  show ((fX0_cellAt p2 p3 σ τ).bind _) = _
  rw [s_cellIn τ h2 ho e]
  show (if nI c = -1 then _ else _) = _
  rw [if_neg (ni_neg (by omega))]
  show ((fX0_isWall (nI c) σ τ).bind _) = _
  rw [s_isWall τ h2 hc, hw]
  rfl
theorem st_set {R nc row r c : Nat} {G : gG} {f : Nat → Option Nat} {σ : jp_I} (τ : jp_J) (h0 : σ 0 0 = nI R) (h2 : scX G σ) (hR : R ≤ 4) {p2 p3 : Int32} (hr : r < R) (ho : ¬ outC G p2 p3) (hc : c < 36) (e : p2 + 6 * p3 = nI c) (hw : G.2.2 c = false) (hf : ∀ q, q < R → σ row q = enc (f q)) (hf36 : ∀ q, q < R → ∀ d, f q = some d → d < 36) :
    sp (fX7_settle R nc row R (nI r) p2 p3 σ τ) (fun o σ' τ' => τ' = τ ∧ (((∃ q, q < R ∧ q ≠ r ∧ f q = some c) ∧ o = .inl 0 ∧ σ' = σ) ∨ ((∀ q, q < R → f q = some c → q = r) ∧ o = .inl 1 ∧ σ' = jp_up σ row r (nI c)) ∨ (∃ q q', q < R ∧ q' < R ∧ q ≠ q' ∧ f q = some c ∧ f q' = some c))) := by
  unfold fX7_settle
  rw [s_needRobot τ h0, if_neg (fun q => q.elim (ni_nn (by omega)) (fun q => by rw [ni_le (by omega) (by omega)] at q; omega))]
  show sp ((fX0_cellAt p2 p3 σ τ).bind _) _
  rw [s_cellIn τ h2 ho e]
  show sp (if nI c = -1 then _ else _) _
  rw [if_neg (ni_neg (by omega))]
  refine sp_seq (s_isWall τ h2 hc) ?_
  dsimp only
  rw [hw, if_pos (show bI false = 0 from rfl)]
  refine sp_bind (s_ownerOf row (by omega) (nI c) σ τ) ?_
  have wr : sp (bX7_settle_83 R nc row R (nI r) (nI c) σ τ) (fun o σ' τ' => τ' = τ ∧ o = .inl 1 ∧ σ' = jp_up σ row r (nI c)) := by
    unfold bX7_settle_83
    refine sp_seq (s_write row _ _ _ (by omega) hr) ?_
    exact sp_ret ⟨rfl, rfl, rfl⟩
  rintro a σ1 τ1 ⟨rfl, rfl, ⟨rfl, n1⟩ | ⟨k, hk, rfl, n1⟩⟩
  · dsimp only
    rw [if_pos rfl]
    refine sp_mono wr ?_
    rintro o σ' τ' ⟨rfl, rfl, rfl⟩
    exact ⟨rfl, Or.inr (Or.inl ⟨fun q hq hfq => absurd (by rw [hf q hq, hfq]; rfl) (n1 q hq), rfl, rfl⟩)⟩
  · dsimp only
    rw [if_neg (ni_neg (by omega))]
    rw [hf k hk, enc_eq (hf36 k hk) hc] at n1
    by_cases z : k = r
    · rw [z, if_pos rfl]
      refine sp_mono wr ?_
      rintro o σ' τ' ⟨rfl, rfl, rfl⟩
      refine ⟨rfl, ?_⟩
      by_cases w : ∃ q, q < R ∧ q ≠ r ∧ f q = some c
      · obtain ⟨q, hq, hqr, hqc⟩ := w
        exact Or.inr (Or.inr ⟨q, r, hq, hr, hqr, hqc, z ▸ n1⟩)
      · exact Or.inr (Or.inl ⟨fun q hq hqc => Classical.byContradiction fun n => w ⟨q, hq, n, hqc⟩, rfl, rfl⟩)
    · rw [if_neg (by rw [ni_inj (by omega) (by omega)]; exact z)]
      exact sp_ret ⟨rfl, Or.inl ⟨⟨k, hk, z, n1⟩, rfl, rfl⟩⟩
theorem pt_bad {R row : Nat} {G : gG} {σ : jp_I} (τ : jp_J) (h0 : σ 20 1 = nI R) (h2 : scM G σ) {p1 p2 p3 : Int32} (h : (p1 < 0 ∨ nI R ≤ p1) ∨ outC G p2 p3) : fX8_put row 4 p1 p2 p3 σ τ = some (0, jp_up σ 20 0 1, τ) := by
  have key : bX8_put_22 row 4 p1 p2 p3 σ τ = some (0, jp_up σ 20 0 1, τ) := by
    unfold bX8_put_22 bX8_put_27 bX8_put_59
    rw [if_neg (by decide), jp_up_eq, if_neg (by decide)]
  unfold fX8_put
  rw [h0]
  by_cases a : p1 < 0
  · rw [if_pos a]; exact key
  · rw [if_neg a]
    by_cases b : nI R ≤ p1
    · rw [if_pos b]; exact key
    · rw [if_neg b, m_noCell τ h2, if_pos (h.resolve_left (fun q => q.elim a b))]
      rw [Option.bind_some]
      dsimp only
      rw [if_neg (by decide)]
      exact key
theorem pt_in {R row r c : Nat} {G : gG} {σ : jp_I} (τ : jp_J) (h0 : σ 20 1 = nI R) (h2 : scM G σ) (hR : R ≤ 4) {p2 p3 : Int32} (hr : r < R) (ho : ¬ outC G p2 p3) (hc : c < 36) (e : 6 * p3 + p2 = nI c) : fX8_put row 4 (nI r) p2 p3 σ τ = (if G.2.2 c then bX8_put_59 row 4 (nI r) p2 p3 2 σ τ else bX8_put_59 row 4 (nI r) p2 p3 0 σ τ) := by
  unfold fX8_put
  rw [h0, if_neg (ni_nn (by omega)), if_neg (by rw [ni_le (by omega) (by omega)]; omega), m_noCell τ h2, if_neg ho]
  rw [Option.bind_some]
  dsimp only
  rw [if_pos rfl]
  unfold bX8_put_27
  rw [if_pos rfl, e, if_pos (ni_ok (by omega) hc), ni_nat (by omega), h2.2.2.2 c hc]
  cases G.2.2 c <;> rfl
theorem pt_set {R row r c : Nat} {G : gG} {f : Nat → Option Nat} {σ : jp_I} (τ : jp_J) (hrow : row ≠ 20) (h0 : σ 20 1 = nI R) (h2 : scM G σ) (hR : R ≤ 4) {p2 p3 : Int32} (hr : r < R) (ho : ¬ outC G p2 p3) (hc : c < 36) (e : 6 * p3 + p2 = nI c) (hw : G.2.2 c = false) (hf : ∀ q, q < R → σ row q = enc (f q)) (hf36 : ∀ q, q < R → ∀ d, f q = some d → d < 36) :
    sp (fX8_put row 4 (nI r) p2 p3 σ τ) (fun v σ' τ' => τ' = τ ∧ (((∃ q, q < R ∧ q ≠ r ∧ f q = some c) ∧ v = 0 ∧ σ' = jp_up σ 20 0 0) ∨ ((∀ q, q < R → f q = some c → q = r) ∧ v = 1 ∧ σ' = jp_up (jp_up σ 20 0 0) row r (nI c)))) := by
  rw [pt_in τ h0 h2 hR hr ho hc e, hw]
  show sp (bX8_put_59 row 4 (nI r) p2 p3 0 σ τ) _
  unfold bX8_put_59
  rw [jp_up_eq, if_pos rfl]
  refine sp_bind (P := fun e' σ' τ' => σ' = jp_up σ 20 0 0 ∧ τ' = τ ∧ ((e' = .inl () ∧ ∀ q, q < R → f q = some c → q = r) ∨ (e' = .inr 0 ∧ ∃ q, q < R ∧ q ≠ r ∧ f q = some c))) ?_ ?_
  · refine sp_for (fun i σ' τ' => σ' = jp_up σ 20 0 0 ∧ τ' = τ ∧ ∀ q, q < i → f q = some c → q = r) 0 R (Nat.zero_le _) (by omega) ⟨rfl, rfl, fun q hq => absurd hq (Nat.not_lt_zero _)⟩ ?_ ?_
    · rintro i σ' τ' - hi ⟨rfl, rfl, h⟩
      dsimp only
      unfold sX8_put_74 bX8_put_105_in74
      rw [jp_up_ne _ _ _ (by decide), h0, if_neg (by rw [ni_le (by omega) (by omega)]; omega)]
      refine sp_if (fun z => ?_) (fun z => ?_)
      · rw [ni_inj (by omega) (by omega)] at z
        refine sp_ret ⟨by rw [← ni_add]; rfl, rfl, rfl, fun q hq hqc => ?_⟩
        by_cases w : q = i
        · rw [w]; exact z
        · exact h q (by omega) hqc
      · rw [ni_inj (by omega) (by omega)] at z
        rw [if_pos (ni_ok (by omega) (by omega)), ni_nat (by omega), jp_up_n _ _ hrow, hf i hi, e]
        refine sp_if (fun w => ?_) (fun w => ?_)
        · rw [enc_eq (hf36 i hi) hc] at w
          exact sp_ret ⟨rfl, rfl, Or.inr ⟨rfl, i, hi, z, w⟩⟩
        · rw [enc_eq (hf36 i hi) hc] at w
          refine sp_ret ⟨by rw [← ni_add]; rfl, rfl, rfl, fun q hq hqc => ?_⟩
          by_cases y : q = i
          · rw [y] at hqc; exact absurd hqc w
          · exact h q (by omega) hqc
    · rintro σ' τ' ⟨rfl, rfl, h⟩
      dsimp only
      unfold sX8_put_74
      rw [jp_up_ne _ _ _ (by decide), h0, if_pos (by rw [ni_le (by omega) (by omega)]; omega)]
      exact sp_ret ⟨rfl, rfl, Or.inl ⟨rfl, h⟩⟩
  · rintro e' σ' τ' ⟨rfl, rfl, ⟨rfl, h⟩ | ⟨rfl, h⟩⟩
    · dsimp only
      rw [if_pos (ni_ok (by omega) (by omega)), ni_nat (by omega), e]
      exact sp_ret ⟨rfl, Or.inr ⟨h, rfl, rfl⟩⟩
    · exact sp_ret ⟨rfl, Or.inl ⟨h, rfl, rfl⟩⟩
def plc (f : Nat → Option Nat) (r c : Nat) : Nat → Option Nat := fun q => if q = r then some c else f q
theorem plc_inj {R r c : Nat} {f : Nat → Option Nat} (h : ∀ a b d, a < R → b < R → f a = some d → f b = some d → a = b) (hc : ∀ q, q < R → f q = some c → q = r) : ∀ a b d, a < R → b < R → plc f r c a = some d → plc f r c b = some d → a = b := by
  intro a b d ha hb h1 h2
  unfold plc at h1 h2
  by_cases za : a = r
  · by_cases zb : b = r
    · rw [za, zb]
    · rw [if_pos za] at h1
      rw [if_neg zb] at h2
      cases h1
      exact absurd (hc b hb h2) zb
  · rw [if_neg za] at h1
    by_cases zb : b = r
    · rw [if_pos zb] at h2
      cases h2
      exact absurd (hc a ha h1) za
    · rw [if_neg zb] at h2
      exact h a b d ha hb h1 h2
theorem plc_opn {R r c : Nat} {G : gG} {f : Nat → Option Nat} (h : ∀ q d, q < R → f q = some d → opn G d = true) (hc : opn G c = true) : ∀ q d, q < R → plc f r c q = some d → opn G d = true := by
  intro q d hq h1
  unfold plc at h1
  by_cases z : q = r
  · rw [if_pos z] at h1; cases h1; exact hc
  · rw [if_neg z] at h1; exact h q d hq h1
theorem plc_row {R r c row : Nat} {f : Nat → Option Nat} {σ : jp_I} (h : ∀ q, q < R → σ row q = enc (f q)) : ∀ q, q < R → (jp_up σ row r (nI c)) row q = enc (plc f r c q) := by
  intro q hq
  unfold plc
  by_cases z : q = r
  · rw [z, jp_up_eq, if_pos rfl]; rfl
  · rw [jp_up_ne _ _ _ z, if_neg z]; exact h q hq
/-- one of the two rows of places gets a cell -/
theorem RX_st {R nc r c : Nat} {G : gG} {st en : Nat → Option Nat} {bar : Bool} {sd : Int64} {pl : plT} {σ : jp_I} {τ : jp_J} (h : RX R nc G st en bar sd pl σ τ) : RX R nc G (plc st r c) en bar sd pl (jp_up σ 3 r (nI c)) τ := by
  obtain ⟨x0, x1, x2, x3, x4, x5, x6, x7, x8, x9, x10, x11⟩ := h
  have ne : ∀ i, i ≠ 3 → (jp_up σ 3 r (nI c)) i = σ i := fun i hi => jp_up_n _ _ hi
  refine ⟨by rw [ne 0 (by decide)]; exact x0, by rw [ne 1 (by decide)]; exact x1, scX_congr x2 (ne 2 (by decide)) (ne 5 (by decide)), chX_congr x3 (ne 6 (by decide)), by rw [ne 2 (by decide)]; exact x4, plc_row x5, fun r hr => by rw [ne 4 (by decide)]; exact x6 r hr, by rw [ne 1 (by decide)]; exact x7, x8, ?_, fun q => by rw [ne 13 (by decide)]; exact x10 q, fun q => by rw [ne 14 (by decide)]; exact x11 q⟩
  unfold plX
  rw [ne 11 (by decide), ne 12 (by decide)]
  exact x9
theorem RX_en {R nc r c : Nat} {G : gG} {st en : Nat → Option Nat} {bar : Bool} {sd : Int64} {pl : plT} {σ : jp_I} {τ : jp_J} (h : RX R nc G st en bar sd pl σ τ) : RX R nc G st (plc en r c) bar sd pl (jp_up σ 4 r (nI c)) τ := by
  obtain ⟨x0, x1, x2, x3, x4, x5, x6, x7, x8, x9, x10, x11⟩ := h
  have ne : ∀ i, i ≠ 4 → (jp_up σ 4 r (nI c)) i = σ i := fun i hi => jp_up_n _ _ hi
  refine ⟨by rw [ne 0 (by decide)]; exact x0, by rw [ne 1 (by decide)]; exact x1, scX_congr x2 (ne 2 (by decide)) (ne 5 (by decide)), chX_congr x3 (ne 6 (by decide)), by rw [ne 2 (by decide)]; exact x4, fun r hr => by rw [ne 3 (by decide)]; exact x5 r hr, plc_row x6, by rw [ne 1 (by decide)]; exact x7, x8, ?_, fun q => by rw [ne 13 (by decide)]; exact x10 q, fun q => by rw [ne 14 (by decide)]; exact x11 q⟩
  unfold plX
  rw [ne 11 (by decide), ne 12 (by decide)]
  exact x9
theorem RM_st {R r c : Nat} {G : gG} {st en : Nat → Option Nat} {bar : Bool} {sd : Int64} {pl : plT} {σ : jp_I} {τ : jp_J} (h : RM R G st en bar sd pl σ τ) : RM R G (plc st r c) en bar sd pl (jp_up σ 22 r (nI c)) τ := by
  obtain ⟨m0, m1, m2, m3, m4, m5, m6⟩ := h
  have ne : ∀ i, i ≠ 22 → (jp_up σ 22 r (nI c)) i = σ i := fun i hi => jp_up_n _ _ hi
  refine ⟨by rw [ne 20 (by decide)]; exact m0, scM_congr m1 (by rw [ne 20 (by decide)]) (by rw [ne 20 (by decide)]) (ne 21 (by decide)), plc_row m2, fun r hr => by rw [ne 23 (by decide)]; exact m3 r hr, by rw [ne 20 (by decide)]; exact m4, m5, ?_⟩
  unfold plM
  rw [ne 20 (by decide), ne 24 (by decide)]
  exact m6
theorem RM_en {R r c : Nat} {G : gG} {st en : Nat → Option Nat} {bar : Bool} {sd : Int64} {pl : plT} {σ : jp_I} {τ : jp_J} (h : RM R G st en bar sd pl σ τ) : RM R G st (plc en r c) bar sd pl (jp_up σ 23 r (nI c)) τ := by
  obtain ⟨m0, m1, m2, m3, m4, m5, m6⟩ := h
  have ne : ∀ i, i ≠ 23 → (jp_up σ 23 r (nI c)) i = σ i := fun i hi => jp_up_n _ _ hi
  refine ⟨by rw [ne 20 (by decide)]; exact m0, scM_congr m1 (by rw [ne 20 (by decide)]) (by rw [ne 20 (by decide)]) (ne 21 (by decide)), fun r hr => by rw [ne 22 (by decide)]; exact m2 r hr, plc_row m3, by rw [ne 20 (by decide)]; exact m4, m5, ?_⟩
  unfold plM
  rw [ne 20 (by decide), ne 24 (by decide)]
  exact m6
theorem op_start {R nc L j : Nat} {xs : Nat → Int32} (hL : L ≤ 2049) (hj : j + 4 ≤ L) {σ : jp_I} {τ : jp_J} (h : Iv R nc σ τ) : spc (fC_start R nc L xs (nI j) σ τ) (Iv R nc) := by
  obtain ⟨G, st, en, bar, sd, pl, hA, hX, hM⟩ := h
  have hA0 := hA
  have hX0 := hX
  have hM0 := hM
  obtain ⟨hR, hnc, ha3, ha4, ha5, ha6, ha7, ha8, ha9⟩ := hA
  obtain ⟨x0, x1, x2, x3, x4, x5, x6, x7, x8, x9, x10, x11⟩ := hX
  obtain ⟨m0, m1, m2, m3, m4, m5, m6⟩ := hM
  unfold fC_start
  rw [show nI j + 1 = nI j + nI 1 from rfl, show nI j + 2 = nI j + nI 2 from rfl, show nI j + 3 = nI j + nI 3 from rfl, (jq_idx hj hL (by decide)).2, (jq_idx hj hL (by decide)).2, (jq_idx hj hL (by decide)).2]
  refine spc_ok (jq_idx hj hL (by decide)).1 (spc_ok (jq_idx hj hL (by decide)).1 (spc_ok (jq_idx hj hL (by decide)).1 ?_))
  generalize xs (j + 1) = p1
  generalize xs (j + 2) = p2
  generalize xs (j + 3) = p3
  have hf36 : ∀ q, q < R → ∀ d, st q = some d → d < 36 := fun q hq d e => opn_lt (ha3 q d hq e)
  by_cases b0 : (p1 < 0 ∨ nI R ≤ p1) ∨ outC G p2 p3
  · refine op_z (m := fun σ τ => fX8_start p1 p2 p3 σ τ) (PX := fun k σ1 τ1 => k = 1 ∧ σ1 = σ ∧ τ1 = τ) ?_ ?_
    · unfold fL_start fX7_start
      rw [st_bad τ x0 x2 b0]
      exact sp_ret ⟨rfl, rfl, rfl⟩
    · rintro k σ1 τ1 ⟨rfl, rfl, rfl⟩
      unfold fX8_start
      rw [pt_bad τ1 m0 m1 b0]
      exact sp_ret ⟨jp_up_eq _ _ _ _, fun q => absurd q (by decide), G, st, en, bar, sd, pl, hA0, RX_thr hX0 1, RM_thr hM0 1⟩
  · have o : ¬ outC G p2 p3 := fun q => b0 (Or.inr q)
    obtain ⟨r, hr, rfl⟩ := i_lt (p := p1) (N := R) (fun q => b0 (Or.inl (Or.inl q))) (by rw [← Int32.not_le]; exact fun q => b0 (Or.inl (Or.inr q))) (by omega)
    obtain ⟨c, hc, hin, e1, e2⟩ := cell_co x2.1 o
    cases hw : G.2.2 c with
    | true =>
      refine op_z (m := fun σ τ => fX8_start (nI r) p2 p3 σ τ) (PX := fun k σ1 τ1 => k = 2 ∧ σ1 = σ ∧ τ1 = τ) ?_ ?_
      · unfold fL_start fX7_start
        rw [st_wall τ x0 x2 hR hr o hc e1 hw]
        exact sp_ret ⟨rfl, rfl, rfl⟩
      · rintro k σ1 τ1 ⟨rfl, rfl, rfl⟩
        unfold fX8_start
        rw [pt_in τ1 m0 m1 hR hr o hc e2, hw]
        show sp ((bX8_put_59 22 4 (nI r) p2 p3 2 σ1 τ1).bind _) _
        unfold bX8_put_59
        rw [jp_up_eq, if_neg (by decide)]
        exact sp_ret ⟨jp_up_eq _ _ _ _, fun q => absurd q (by decide), G, st, en, bar, sd, pl, hA0, RX_thr hX0 2, RM_thr hM0 2⟩
    | false =>
      have hop : opn G c = true := by simp [opn, hin, hw]
      refine op_z (m := fun σ τ => fX8_start (nI r) p2 p3 σ τ) (PX := fun k σ1 τ1 => k = 0 ∧ (((∃ q, q < R ∧ q ≠ r ∧ st q = some c) ∧ τ1 = jp_upl τ 30 0 0 ∧ σ1 = σ) ∨ ((∀ q, q < R → st q = some c → q = r) ∧ τ1 = jp_upl τ 30 0 1 ∧ σ1 = jp_up σ 3 r (nI c)))) ?_ ?_
      · unfold fL_start fX7_start
        refine sp_bind (P := fun o' σ1 τ1 => τ1 = τ ∧ (((∃ q, q < R ∧ q ≠ r ∧ st q = some c) ∧ o' = .inl 0 ∧ σ1 = σ) ∨ ((∀ q, q < R → st q = some c → q = r) ∧ o' = .inl 1 ∧ σ1 = jp_up σ 3 r (nI c)))) ?_ ?_
        · refine sp_bind (st_set τ x0 x2 hR hr o hc e1 hw x5 hf36) ?_
          rintro o' σ1 τ1 ⟨rfl, ⟨n1, rfl, rfl⟩ | ⟨n1, rfl, rfl⟩ | ⟨q, q', hq, hq', hne, f1, f2⟩⟩
          · exact sp_ret ⟨rfl, Or.inl ⟨n1, rfl, rfl⟩⟩
          · exact sp_ret ⟨rfl, Or.inr ⟨n1, rfl, rfl⟩⟩
          · exact absurd (ha5 q q' c hq hq' f1 f2) hne
        · rintro o' σ1 τ1 ⟨rfl, ⟨n1, rfl, rfl⟩ | ⟨n1, rfl, rfl⟩⟩
          · dsimp only
            rw [if_pos rfl, jp_c30]
            exact sp_ret ⟨rfl, Or.inl ⟨n1, rfl, rfl⟩⟩
          · dsimp only
            rw [if_neg (by decide), jp_c30]
            exact sp_ret ⟨rfl, Or.inr ⟨n1, rfl, rfl⟩⟩
      · rintro k σ1 τ1 ⟨rfl, ⟨n1, rfl, rfl⟩ | ⟨n1, rfl, rfl⟩⟩
        · unfold fX8_start
          have hM1 : RM R G st en bar sd pl σ1 (jp_upl τ 30 0 0) := RM_congr hM0 (fun _ _ => rfl) (fun _ _ _ => rfl) (jp_upl_n _ _ (by decide))
          have hX1 : RX R nc G st en bar sd pl σ1 (jp_upl τ 30 0 0) := RX_congr hX0 (fun _ _ => rfl) (jp_upl_n _ _ (by decide))
          refine sp_bind (pt_set _ (by decide) m0 m1 hR hr o hc e2 hw m2 hf36) ?_
          rintro v σ2 τ2 ⟨rfl, ⟨-, rfl, rfl⟩ | ⟨n2, rfl, rfl⟩⟩
          · exact sp_ret ⟨jp_up_eq _ _ _ _, fun _ => by rw [jp_c30, jp_upl_eq]; rfl, G, st, en, bar, sd, pl, hA0, RX_thr hX1 0, RM_thr hM1 0⟩
          · obtain ⟨q, hq, hne, hqc⟩ := n1
            exact absurd (n2 q hq hqc) hne
        · unfold fX8_start
          have ne : ∀ i, 20 ≤ i → (jp_up σ 3 r (nI c)) i = σ i := fun i hi => jp_up_n _ _ (by omega)
          have hM1 : RM R G st en bar sd pl (jp_up σ 3 r (nI c)) (jp_upl τ 30 0 1) := RM_congr hM0 (fun k _ => by rw [ne 20 (by decide)]) (fun i h1 _ => ne i (by omega)) (jp_upl_n _ _ (by decide))
          have hX1 : RX R nc G (plc st r c) en bar sd pl (jp_up σ 3 r (nI c)) (jp_upl τ 30 0 1) := RX_congr (RX_st hX0) (fun _ _ => rfl) (jp_upl_n _ _ (by decide))
          refine sp_bind (pt_set (f := st) _ (by decide) (by rw [ne 20 (by decide)]; exact m0) hM1.2.1 hR hr o hc e2 hw (fun q hq => by rw [ne 22 (by decide)]; exact m2 q hq) hf36) ?_
          rintro v σ2 τ2 ⟨rfl, ⟨n2, rfl, rfl⟩ | ⟨n2, rfl, rfl⟩⟩
          · obtain ⟨q, hq, hne, hqc⟩ := n2
            exact absurd (n1 q hq hqc) hne
          · refine sp_ret ⟨by rw [jp_up_n _ _ (by decide), jp_up_eq], fun _ => by rw [jp_c30, jp_upl_eq]; rfl, G, plc st r c, en, bar, sd, pl, ?_, ?_, RM_st (RM_thr hM1 0)⟩
            · exact ⟨hR, hnc, plc_opn ha3 hop, ha4, plc_inj ha5 n1, ha6, ha7, ha8, ha9⟩
            · exact RX_congr (RX_thr hX1 0) (fun i hi => jp_up_n _ _ (by omega)) rfl
theorem op_end {R nc L j : Nat} {xs : Nat → Int32} (hL : L ≤ 2049) (hj : j + 4 ≤ L) {σ : jp_I} {τ : jp_J} (h : Iv R nc σ τ) : spc (fC_end R nc L xs (nI j) σ τ) (Iv R nc) := by
  obtain ⟨G, st, en, bar, sd, pl, hA, hX, hM⟩ := h
  have hA0 := hA
  have hX0 := hX
  have hM0 := hM
  obtain ⟨hR, hnc, ha3, ha4, ha5, ha6, ha7, ha8, ha9⟩ := hA
  obtain ⟨x0, x1, x2, x3, x4, x5, x6, x7, x8, x9, x10, x11⟩ := hX
  obtain ⟨m0, m1, m2, m3, m4, m5, m6⟩ := hM
  unfold fC_end
  rw [show nI j + 1 = nI j + nI 1 from rfl, show nI j + 2 = nI j + nI 2 from rfl, show nI j + 3 = nI j + nI 3 from rfl, (jq_idx hj hL (by decide)).2, (jq_idx hj hL (by decide)).2, (jq_idx hj hL (by decide)).2]
  refine spc_ok (jq_idx hj hL (by decide)).1 (spc_ok (jq_idx hj hL (by decide)).1 (spc_ok (jq_idx hj hL (by decide)).1 ?_))
  generalize xs (j + 1) = p1
  generalize xs (j + 2) = p2
  generalize xs (j + 3) = p3
  have hf36 : ∀ q, q < R → ∀ d, en q = some d → d < 36 := fun q hq d e => opn_lt (ha4 q d hq e)
  by_cases b0 : (p1 < 0 ∨ nI R ≤ p1) ∨ outC G p2 p3
  · refine op_z (m := fun σ τ => fX8_end p1 p2 p3 σ τ) (PX := fun k σ1 τ1 => k = 1 ∧ σ1 = σ ∧ τ1 = τ) ?_ ?_
    · unfold fL_end fX7_end
      rw [st_bad τ x0 x2 b0]
      exact sp_ret ⟨rfl, rfl, rfl⟩
    · rintro k σ1 τ1 ⟨rfl, rfl, rfl⟩
      unfold fX8_end
      rw [pt_bad τ1 m0 m1 b0]
      exact sp_ret ⟨jp_up_eq _ _ _ _, fun q => absurd q (by decide), G, st, en, bar, sd, pl, hA0, RX_thr hX0 1, RM_thr hM0 1⟩
  · have o : ¬ outC G p2 p3 := fun q => b0 (Or.inr q)
    obtain ⟨r, hr, rfl⟩ := i_lt (p := p1) (N := R) (fun q => b0 (Or.inl (Or.inl q))) (by rw [← Int32.not_le]; exact fun q => b0 (Or.inl (Or.inr q))) (by omega)
    obtain ⟨c, hc, hin, e1, e2⟩ := cell_co x2.1 o
    cases hw : G.2.2 c with
    | true =>
      refine op_z (m := fun σ τ => fX8_end (nI r) p2 p3 σ τ) (PX := fun k σ1 τ1 => k = 2 ∧ σ1 = σ ∧ τ1 = τ) ?_ ?_
      · unfold fL_end fX7_end
        rw [st_wall τ x0 x2 hR hr o hc e1 hw]
        exact sp_ret ⟨rfl, rfl, rfl⟩
      · rintro k σ1 τ1 ⟨rfl, rfl, rfl⟩
        unfold fX8_end
        rw [pt_in τ1 m0 m1 hR hr o hc e2, hw]
        show sp ((bX8_put_59 23 4 (nI r) p2 p3 2 σ1 τ1).bind _) _
        unfold bX8_put_59
        rw [jp_up_eq, if_neg (by decide)]
        exact sp_ret ⟨jp_up_eq _ _ _ _, fun q => absurd q (by decide), G, st, en, bar, sd, pl, hA0, RX_thr hX0 2, RM_thr hM0 2⟩
    | false =>
      have hop : opn G c = true := by simp [opn, hin, hw]
      refine op_z (m := fun σ τ => fX8_end (nI r) p2 p3 σ τ) (PX := fun k σ1 τ1 => k = 0 ∧ (((∃ q, q < R ∧ q ≠ r ∧ en q = some c) ∧ τ1 = jp_upl τ 30 0 0 ∧ σ1 = σ) ∨ ((∀ q, q < R → en q = some c → q = r) ∧ τ1 = jp_upl τ 30 0 1 ∧ σ1 = jp_up σ 4 r (nI c)))) ?_ ?_
      · unfold fL_end fX7_end
        refine sp_bind (P := fun o' σ1 τ1 => τ1 = τ ∧ (((∃ q, q < R ∧ q ≠ r ∧ en q = some c) ∧ o' = .inl 0 ∧ σ1 = σ) ∨ ((∀ q, q < R → en q = some c → q = r) ∧ o' = .inl 1 ∧ σ1 = jp_up σ 4 r (nI c)))) ?_ ?_
        · refine sp_bind (st_set τ x0 x2 hR hr o hc e1 hw x6 hf36) ?_
          rintro o' σ1 τ1 ⟨rfl, ⟨n1, rfl, rfl⟩ | ⟨n1, rfl, rfl⟩ | ⟨q, q', hq, hq', hne, f1, f2⟩⟩
          · exact sp_ret ⟨rfl, Or.inl ⟨n1, rfl, rfl⟩⟩
          · exact sp_ret ⟨rfl, Or.inr ⟨n1, rfl, rfl⟩⟩
          · exact absurd (ha6 q q' c hq hq' f1 f2) hne
        · rintro o' σ1 τ1 ⟨rfl, ⟨n1, rfl, rfl⟩ | ⟨n1, rfl, rfl⟩⟩
          · dsimp only
            rw [if_pos rfl, jp_c30]
            exact sp_ret ⟨rfl, Or.inl ⟨n1, rfl, rfl⟩⟩
          · dsimp only
            rw [if_neg (by decide), jp_c30]
            exact sp_ret ⟨rfl, Or.inr ⟨n1, rfl, rfl⟩⟩
      · rintro k σ1 τ1 ⟨rfl, ⟨n1, rfl, rfl⟩ | ⟨n1, rfl, rfl⟩⟩
        · unfold fX8_end
          have hM1 : RM R G st en bar sd pl σ1 (jp_upl τ 30 0 0) := RM_congr hM0 (fun _ _ => rfl) (fun _ _ _ => rfl) (jp_upl_n _ _ (by decide))
          have hX1 : RX R nc G st en bar sd pl σ1 (jp_upl τ 30 0 0) := RX_congr hX0 (fun _ _ => rfl) (jp_upl_n _ _ (by decide))
          refine sp_bind (pt_set _ (by decide) m0 m1 hR hr o hc e2 hw m3 hf36) ?_
          rintro v σ2 τ2 ⟨rfl, ⟨-, rfl, rfl⟩ | ⟨n2, rfl, rfl⟩⟩
          · exact sp_ret ⟨jp_up_eq _ _ _ _, fun _ => by rw [jp_c30, jp_upl_eq]; rfl, G, st, en, bar, sd, pl, hA0, RX_thr hX1 0, RM_thr hM1 0⟩
          · obtain ⟨q, hq, hne, hqc⟩ := n1
            exact absurd (n2 q hq hqc) hne
        · unfold fX8_end
          have ne : ∀ i, 20 ≤ i → (jp_up σ 4 r (nI c)) i = σ i := fun i hi => jp_up_n _ _ (by omega)
          have hM1 : RM R G st en bar sd pl (jp_up σ 4 r (nI c)) (jp_upl τ 30 0 1) := RM_congr hM0 (fun k _ => by rw [ne 20 (by decide)]) (fun i h1 _ => ne i (by omega)) (jp_upl_n _ _ (by decide))
          have hX1 : RX R nc G st (plc en r c) bar sd pl (jp_up σ 4 r (nI c)) (jp_upl τ 30 0 1) := RX_congr (RX_en hX0) (fun _ _ => rfl) (jp_upl_n _ _ (by decide))
          refine sp_bind (pt_set (f := en) _ (by decide) (by rw [ne 20 (by decide)]; exact m0) hM1.2.1 hR hr o hc e2 hw (fun q hq => by rw [ne 23 (by decide)]; exact m3 q hq) hf36) ?_
          rintro v σ2 τ2 ⟨rfl, ⟨n2, rfl, rfl⟩ | ⟨n2, rfl, rfl⟩⟩
          · obtain ⟨q, hq, hne, hqc⟩ := n2
            exact absurd (n1 q hq hqc) hne
          · refine sp_ret ⟨by rw [jp_up_n _ _ (by decide), jp_up_eq], fun _ => by rw [jp_c30, jp_upl_eq]; rfl, G, st, plc en r c, bar, sd, pl, ?_, ?_, RM_en (RM_thr hM1 0)⟩
            · exact ⟨hR, hnc, ha3, plc_opn ha4 hop, ha5, plc_inj ha6 n1, ha7, ha8, ha9⟩
            · exact RX_congr (RX_thr hX1 0) (fun i hi => jp_up_n _ _ (by omega)) rfl
