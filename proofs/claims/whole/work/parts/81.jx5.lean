-- the class's joint search: made
section JX
variable {R nc nl : Nat} {G : gG} {bar : Bool} {E : jS} {σ : jp_I}
theorem s_place (τ : jp_J) {row r w : Nat} (h : σ 13 1 = nI R) (hR : R ≤ 4) (hr : r < 4) (h1 : r < R → σ row r = nI w) (h2 : R ≤ r → w = 0) : fX1_placeOf R nc nl row R (nI r) σ τ = some (nI w, σ, τ) := by
  unfold fX1_placeOf
  rw [h]
  by_cases z : R ≤ r
  · rw [if_pos (by rw [ni_le (by omega) (by omega)]; exact z), h2 z]; rfl
  · rw [if_neg (by rw [ni_le (by omega) (by omega)]; exact z), s_readi row σ τ (by omega) (by omega), Option.bind_some, h1 (by omega)]
/-- the two states of a task -/
def jtask (R : Nat) (st : Nat → Option Nat) (s : jS) : Prop := (0 < R → st 0 = some s.1) ∧ (1 < R → st 1 = some s.2) ∧ (R ≤ 1 → s.2 = 0) ∧ (R = 0 → s.1 = 0)
theorem jtask_val {st : Nat → Option Nat} {s : jS} (hR : 1 ≤ R ∧ R ≤ 2) (h : jtask R st s) (ho : ∀ r c, r < R → st r = some c → opn G c = true) (hi : ∀ r q c, r < R → q < R → st r = some c → st q = some c → r = q) : jval R G s := by
  obtain ⟨h1, h2, h3, -⟩ := h
  refine ⟨ho 0 _ (by omega) (h1 (by omega)), fun q => ⟨ho 1 _ (by omega) (h2 (by omega)), fun w => ?_⟩, fun q => h3 (by omega)⟩
  have := hi 0 1 s.1 (by omega) (by omega) (h1 (by omega)) (by rw [w]; exact h2 (by omega))
  omega
theorem jtask_ex {st : Nat → Option Nat} (hR : R ≤ 2) (h : ∀ r, r < R → ∃ c, st r = some c) : ∃ s, jtask R st s := by
  rcases (show R = 0 ∨ R = 1 ∨ R = 2 by omega) with rfl | rfl | rfl
  · exact ⟨(0, 0), fun q => absurd q (by decide), fun q => absurd q (by decide), fun _ => rfl, fun _ => rfl⟩
  · obtain ⟨c, hc⟩ := h 0 (by decide)
    exact ⟨(c, 0), fun _ => hc, fun q => absurd q (by decide), fun _ => rfl, fun q => absurd q (by decide)⟩
  · obtain ⟨c, hc⟩ := h 0 (by decide)
    obtain ⟨d, hd⟩ := h 1 (by decide)
    exact ⟨(c, d), fun _ => hc, fun _ => hd, fun q => absurd q (by decide), fun q => absurd q (by decide)⟩
def jPX (R nc : Nat) (G : gG) (bar : Bool) (E s0 : jS) (σ' : jp_I) : Prop := (∃ (v t : Nat) (p : Nat → jS), lst R G bar E v s0 ∧ jpl R G bar E s0 t p ∧ t ≤ v ∧ σ' 11 3 = nI v ∧ σ' 11 2 = nI t ∧ (t + 1) * R ≤ nc ∧ ∀ r k, r < R → k ≤ t → σ' 12 (k * R + r) = nI (jpos (p k) r)) ∨ ((∀ v, ¬ lst R G bar E v s0) ∧ σ' 11 3 = -1)
theorem s_makeJ {st en : Nat → Option Nat} {sd : Int64} {τ : jp_J} {p : Int32} (hX : RX R nc G st en bar sd none σ τ) (hA : AO R nc G st en sd none) (hR : 1 ≤ R ∧ R ≤ 2) (hn : jnl R nl) (hnc : nc = R * nl) {s0 : jS} (h0 : jtask R st s0) (hE0 : jtask R en E) (hb : ∀ v, lst R G bar E v s0 → jbd R v) :
    sp (fX1_make R nc nl p σ τ) (fun _ σ' τ' => τ' = τ ∧ (∀ i, i ≠ 11 → i ≠ 12 → i ≠ 13 → i ≠ 14 → i ≠ 15 → σ' i = σ i) ∧ σ' 13 1 = nI R ∧ σ' 11 0 = nI R ∧ jPX R nc G bar E s0 σ') := by
  obtain ⟨a1, a2, a3, a4, a5, a6, -⟩ := id hA
  obtain ⟨x0, x1, x2, x3, x4, x5, x6, x7, x8, x9, x10, x11⟩ := id hX
  have hs := jtask_val hR h0 a3 a5
  have hE := jtask_val hR hE0 a4 a6
  have he := jval_lt hE
  have hs2 := jval_lt hs
  have hnl := jnl_lt hn
  have h13 := x10 hR.2
  unfold fX1_make
  refine sp_seq (show fX1_placeOf R nc nl 4 R 0 σ τ = some (nI E.1, σ, τ) from s_place (r := 0) τ h13 (by omega) (by decide) (fun q => by rw [x6 0 q, hE0.1 q]; rfl) (fun q => by omega)) ?_
  dsimp only
  refine sp_seq (show fX1_placeOf R nc nl 4 R 1 (jp_up σ 13 5 (nI E.1)) τ = some (nI E.2, _, τ) from s_place (r := 1) τ (by rw [jp_up_ne _ _ _ (by decide)]; exact h13) (by omega) (by decide) (fun q => by rw [jp_up_n _ _ (by decide), x6 1 q, hE0.2.1 q]; rfl) (fun q => hE0.2.2.1 q)) ?_
  dsimp only
  obtain ⟨σ1, hσ1⟩ : ∃ σ1, σ1 = jp_up (jp_up σ 13 5 (nI E.1)) 13 6 (nI E.2) := ⟨_, rfl⟩
  rw [← hσ1]
  have n1 : ∀ i, i ≠ 13 → σ1 i = σ i := fun i hi => by rw [hσ1, jp_up_n _ _ hi, jp_up_n _ _ hi]
  have hC1 : jxC R G bar E σ1 := ⟨chX_congr x3 (n1 6 (by decide)), by rw [hσ1, jp_up_ne _ _ _ (by decide), jp_up_ne _ _ _ (by decide)]; exact h13, by rw [n1 1 (by decide)]; exact x7, by rw [hσ1, jp_up_ne _ _ _ (by decide), jp_up_eq], by rw [hσ1, jp_up_eq]⟩
  refine sp_seq (show fX1_placeOf R nc nl 3 R 0 σ1 τ = some (nI s0.1, _, τ) from s_place (r := 0) τ hC1.2.1 (by omega) (by decide) (fun q => by rw [n1 3 (by decide), x5 0 q, h0.1 q]; rfl) (fun q => by omega)) ?_
  dsimp only
  refine sp_seq (show fX1_placeOf R nc nl 3 R 1 σ1 τ = some (nI s0.2, _, τ) from s_place (r := 1) τ hC1.2.1 (by omega) (by decide) (fun q => by rw [n1 3 (by decide), x5 1 q, h0.2.1 q]; rfl) (fun q => h0.2.2.1 q)) ?_
  dsimp only
  rw [hC1.2.2.2.1, hC1.2.2.2.2, show nI s0.1 + 36 * nI s0.2 = nI (jix s0) from by rw [show (36 : Int32) = nI 36 from rfl, ni_mul, ni_add]; rfl, show nI E.1 + 36 * nI E.2 = nI (jix E) from by rw [show (36 : Int32) = nI 36 from rfl, ni_mul, ni_add]; rfl]
  refine sp_bind (s_measure τ hC1 hR hn hE hs) ?_
  rintro r σ2 τ2 ⟨rfl, f2, L, lv, l1, l2, l3, l4⟩
  dsimp only
  have hx := jix_lt hs hn
  refine sp_seq (s_readi 14 σ2 τ2 (by omega) hx) ?_
  dsimp only
  rw [l1 _ hx]
  have h110 : σ2 11 0 = nI R := by rw [f2.1 11 (by decide) (by decide) (by decide), n1 11 (by decide)]; exact x9.1
  have fr2 : ∀ i, i ≠ 11 → i ≠ 12 → i ≠ 13 → i ≠ 14 → i ≠ 15 → ∀ w, (jp_up σ2 11 3 w) i = σ i := fun i b1 b2 b3 b4 b5 w => by rw [jp_up_n _ _ b1, f2.1 i b3 b4 b5, n1 i b3]
  cases e : L (jix s0) with
  | none =>
    refine sp_seq (show fX2_isMade 11 12 nc (jp_up σ2 11 3 (enc none)) τ2 = some (0, _, τ2) from by unfold fX2_isMade; rw [jp_up_eq, if_pos (show enc none = -1 from rfl)]) ?_
    dsimp only
    rw [if_pos rfl]
    refine sp_ret ⟨rfl, fun i b1 b2 b3 b4 b5 => fr2 i b1 b2 b3 b4 b5 _, by rw [jp_up_n _ _ (by decide), f2.2 1 (by decide)]; exact hC1.2.1, by rw [jp_up_ne _ _ _ (by decide)]; exact h110, Or.inr ⟨fun v hv => ?_, jp_up_eq _ _ _ _⟩⟩
    have := (l3 s0 v hs).mpr ⟨hv, l4 v hv⟩
    rw [e] at this
    cases this
  | some v =>
    have hv := (l3 s0 v hs).mp e
    have hv1 := l2 _ v e
    refine sp_seq (show fX2_isMade 11 12 nc (jp_up σ2 11 3 (enc (some v))) τ2 = some (1, _, τ2) from by unfold fX2_isMade; rw [jp_up_eq, if_neg (show ¬ enc (some v) = -1 from ni_neg (by omega))]) ?_
    dsimp only
    rw [if_neg (by decide)]
    have hC3 : jxC R G bar E (jp_up σ2 11 3 (enc (some v))) := by
      obtain ⟨c1, c2, c3, c4, c5⟩ := jxC_fr hC1 f2
      exact ⟨chX_congr c1 (jp_up_n _ _ (by decide)), by rw [jp_up_n _ _ (by decide)]; exact c2, by rw [jp_up_n _ _ (by decide)]; exact c3, by rw [jp_up_n _ _ (by decide)]; exact c4, by rw [jp_up_n _ _ (by decide)]; exact c5⟩
    refine sp_bind (s_walk τ2 hC3 hR hn hE (by rw [jp_up_ne _ _ _ (by decide)]; exact h110) hnc ⟨fun x hx => by rw [jp_up_n _ _ (by decide)]; exact l1 x hx, l2, l3⟩ hs hv.1 hv.2 (hb v hv.1)) ?_
    rintro r σ3 τ3 ⟨rfl, f3, t, pp, g1, g2, rfl, g3, g4⟩
    dsimp only
    refine sp_ret ⟨rfl, fun i b1 b2 b3 b4 b5 => by rw [jp_up_n _ _ b1, f3 i b2]; exact fr2 i b1 b2 b3 b4 b5 _, by rw [jp_up_n _ _ (by decide), f3 13 (by decide)]; exact hC3.2.1, by rw [jp_up_ne _ _ _ (by decide), f3 11 (by decide), jp_up_ne _ _ _ (by decide)]; exact h110, Or.inl ⟨v, t, pp, hv.1, g1, g2, ?_, jp_up_eq _ _ _ _, g3, fun r k hr hk => by rw [jp_up_n _ _ (by decide)]; exact g4 r k hr hk⟩⟩
    rw [jp_up_ne _ _ _ (by decide), f3 11 (by decide), jp_up_eq]; rfl
/-- no robots -/
theorem s_make0 {τ : jp_J} {p : Int32} (h13 : σ 13 1 = 0) : sp (fX1_make 0 nc 1 p σ τ) (fun _ σ' τ' => τ' = τ ∧ (∀ i, i ≠ 11 → i ≠ 12 → i ≠ 13 → i ≠ 14 → i ≠ 15 → σ' i = σ i) ∧ σ' 13 1 = 0 ∧ σ' 11 0 = σ 11 0 ∧ σ' 11 3 = 0 ∧ σ' 11 2 = 0) := by
  have pl : ∀ (σ : jp_I) (τ : jp_J) (row : Nat) (q : Int32), σ 13 1 = 0 → 0 ≤ q → fX1_placeOf 0 nc 1 row 0 q σ τ = some (0, σ, τ) := by
    intro σ τ row q h hq
    unfold fX1_placeOf
    rw [h, if_pos hq]
  have rd0 : ∀ (σ : jp_I) (τ : jp_J), σ 14 0 = 0 → fX7_read 14 1 0 σ τ = some (0, σ, τ) := fun σ τ h => by
    have := s_readi (N := 1) 14 (a := 0) σ τ (by decide) (by decide)
    rw [h] at this
    exact this
  unfold fX1_make
  refine sp_seq (pl σ τ 4 0 h13 (by decide)) ?_
  dsimp only
  refine sp_seq (pl _ τ 4 1 (by rw [jp_up_ne _ _ _ (by decide)]; exact h13) (by decide)) ?_
  dsimp only
  obtain ⟨σ1, hσ1⟩ : ∃ σ1, σ1 = jp_up (jp_up σ 13 5 0) 13 6 0 := ⟨_, rfl⟩
  rw [← hσ1]
  have n1 : ∀ i, i ≠ 13 → σ1 i = σ i := fun i hi => by rw [hσ1, jp_up_n _ _ hi, jp_up_n _ _ hi]
  have h131 : σ1 13 1 = 0 := by rw [hσ1, jp_up_ne _ _ _ (by decide), jp_up_ne _ _ _ (by decide)]; exact h13
  refine sp_seq (pl σ1 τ 3 0 h131 (by decide)) ?_
  dsimp only
  refine sp_seq (pl σ1 τ 3 1 h131 (by decide)) ?_
  dsimp only
  have e5 : σ1 13 5 = 0 := by rw [hσ1, jp_up_ne _ _ _ (by decide), jp_up_eq]
  have e6 : σ1 13 6 = 0 := by rw [hσ1, jp_up_eq]
  rw [e5, e6, show (0 : Int32) + 36 * 0 = 0 from by decide]
  refine sp_bind (P := fun _ σ' τ' => τ' = τ ∧ jfr σ1 σ' ∧ σ' 14 0 = 0) ?_ ?_
  · unfold fX1_measure
    refine sp_seq (s_fill 14 _ _ _ (by decide)) ?_
    dsimp only
    have hfr0 : jfr σ1 (jp_up (jp_row σ1 14 (fun j => if j < 1 then -1 else σ1 14 j)) 13 4 0) := ⟨fun i a b c => by rw [jp_up_n _ _ a, jp_row_n _ _ b], fun k hk => by rw [jp_up_ne _ _ _ hk, jp_row_n _ _ (by decide)]⟩
    have hI0 : stI 1 0 (fun _ => none) (fun _ => 0) (jp_up (jp_row σ1 14 (fun j => if j < 1 then -1 else σ1 14 j)) 13 4 0) := by
      refine ⟨fun x hx => ?_, fun i hi => absurd hi (Nat.not_lt_zero _), fun x hx => absurd rfl hx, wc_none 1, jp_up_eq _ _ _ _, fun x v q => by cases q⟩
      rw [jp_up_n _ _ (by decide), jp_row_s, if_pos hx]; rfl
    refine sp_bind (show sp (fX1_reach 0 nc 1 (nI 0) (nI 0) _ τ) _ from s_reach (P := fun x => True) (v := 0) τ (by decide) hI0 (by decide) (by decide) trivial) ?_
    rintro r σ2 τ2 ⟨rfl, f2, cnt, L, q, hI, hA, hk⟩
    dsimp only
    have hL0 : L 0 = some 0 := (hA.2.2.2.1 0 rfl hk).1
    have h140 : σ2 14 0 = 0 := by rw [hI.1 0 (by decide), hL0]; rfl
    refine sp_bind (P := fun e σ' τ' => σ' = σ2 ∧ τ' = τ2) ?_ ?_
    · refine sp_loopF (fun v σ' τ' m => v = (0, 0, 1) ∧ σ' = σ2 ∧ τ' = τ2) 0 ⟨rfl, rfl, rfl⟩ (by decide) ?_
      rintro v σ' τ' m ⟨rfl, rfl, rfl⟩
      dsimp only
      unfold sX1_measure_27
      refine sp_if (fun z => sp_ret ⟨rfl, rfl⟩) (fun z => sp_if (fun y => sp_ret ⟨rfl, rfl⟩) (fun y => ?_))
      refine sp_seq (rd0 σ' τ' h140) ?_
      dsimp only
      rw [if_neg (by decide)]
      exact sp_ret ⟨rfl, rfl⟩
    · rintro e σ3 τ3 ⟨rfl, rfl⟩
      cases e with
      | inl u => exact sp_ret ⟨rfl, jfr_tr hfr0 f2, h140⟩
      | inr u => exact sp_ret ⟨rfl, jfr_tr hfr0 f2, h140⟩
  · rintro r σ2 τ2 ⟨rfl, f2, h140⟩
    dsimp only
    refine sp_seq (rd0 σ2 τ2 h140) ?_
    dsimp only
    refine sp_seq (show fX2_isMade 11 12 nc (jp_up σ2 11 3 0) τ2 = some (1, _, τ2) from by unfold fX2_isMade; rw [jp_up_eq, if_neg (by decide)]) ?_
    dsimp only
    rw [if_neg (by decide)]
    have h133 : (jp_up σ2 11 3 0) 13 1 = 0 := by rw [jp_up_n _ _ (by decide), f2.2 1 (by decide)]; exact h131
    have note : ∀ k x : Int32, fX1_note 0 nc 1 k x (jp_up σ2 11 3 0) τ2 = some (0, jp_up σ2 11 3 0, τ2) := by
      intro k x
      unfold fX1_note bX1_note_17
      rw [h133, if_pos (by decide), if_pos (by decide)]
    unfold fX1_walk
    refine sp_bind (P := fun r σ' τ' => r = 0 ∧ σ' = jp_up σ2 11 3 0 ∧ τ' = τ2) ?_ ?_
    · refine sp_seq (note 0 0) ?_
      dsimp only
      refine sp_bind (P := fun e σ' τ' => e = .inl 0 ∧ σ' = jp_up σ2 11 3 0 ∧ τ' = τ2) ?_ ?_
      · refine sp_loopF (fun v σ' τ' m => v = (0, 0) ∧ σ' = jp_up σ2 11 3 0 ∧ τ' = τ2) 0 ⟨rfl, rfl, rfl⟩ (by decide) ?_
        rintro v σ' τ' m ⟨rfl, rfl, rfl⟩
        dsimp only
        unfold sX1_walk_12
        rw [h133]
        refine sp_seq (show fX7_mostSteps 0 (jp_up σ2 11 3 0) τ' = some (0, _, τ') from rfl) ?_
        dsimp only
        rw [if_pos (by decide)]
        exact sp_ret ⟨rfl, rfl, rfl⟩
      · rintro e σ3 τ3 ⟨rfl, rfl, rfl⟩
        exact sp_ret ⟨rfl, rfl, rfl⟩
    · rintro r σ3 τ3 ⟨rfl, rfl, rfl⟩
      dsimp only
      refine sp_ret ⟨rfl, fun i b1 b2 b3 b4 b5 => by rw [jp_up_n _ _ b1, jp_up_n _ _ b1, f2.1 i b3 b4 b5, n1 i b3], by rw [jp_up_n _ _ (by decide)]; exact h133, by rw [jp_up_ne _ _ _ (by decide), jp_up_ne _ _ _ (by decide), f2.1 11 (by decide) (by decide) (by decide), n1 11 (by decide)], by rw [jp_up_ne _ _ _ (by decide), jp_up_eq], jp_up_eq _ _ _ _⟩
end JX
