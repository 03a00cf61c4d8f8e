-- the reference's best plan by priorities
def plN (R : Nat) (b : plT) (σ : jp_I) : Prop := (b = none → σ 20 9 = 0) ∧ ∀ c t f, b = some (c, t, f) → σ 20 9 = 1 ∧ σ 20 11 = nI c ∧ ∀ r k, r < R → k ≤ 40 → σ 24 (400 * r + k) = nI (f r k)
theorem plN_congr {R : Nat} {b : plT} {σ σ' : jp_I} (h : plN R b σ) (e20 : σ' 20 = σ 20) (e24 : σ' 24 = σ 24) : plN R b σ' := by
  unfold plN
  rw [e20, e24]
  exact h
def pmf (σ σ' : jp_I) : Prop := (∀ i, i ≠ 20 → i ≠ 24 → i ≠ 25 → i ≠ 26 → i ≠ 27 → σ' i = σ i) ∧ ∀ k, k ≠ 9 → k ≠ 10 → k ≠ 11 → k ≠ 12 → σ' 20 k = σ 20 k
theorem pmf_tr {σ σ1 σ2 : jp_I} (h : pmf σ σ1) (h' : pmf σ1 σ2) : pmf σ σ2 := ⟨fun i a b c d e => by rw [h'.1 i a b c d e, h.1 i a b c d e], fun k a b c d => by rw [h'.2 k a b c d, h.2 k a b c d]⟩
theorem pmf_of {σ σ' : jp_I} (h : ∀ i, i ≠ 24 → i ≠ 25 → i ≠ 26 → i ≠ 27 → σ' i = σ i) : pmf σ σ' := ⟨fun i _ b c d e => h i b c d e, fun k _ _ _ _ => by rw [h 20 (by decide) (by decide) (by decide) (by decide)]⟩
def pm0 (R : Nat) (G : gG) (bar : Bool) (s e : Nat → Nat) (σ : jp_I) : Prop := scM G σ ∧ σ 20 1 = nI R ∧ σ 20 7 = bI bar ∧ (∀ r, r < R → σ 22 r = nI (s r)) ∧ ∀ r, r < R → σ 23 r = nI (e r)
theorem pm0_f {R : Nat} {G : gG} {bar : Bool} {s e : Nat → Nat} {σ σ' : jp_I} (h : pm0 R G bar s e σ) (hf : pmf σ σ') : pm0 R G bar s e σ' := by
  obtain ⟨a1, a2, a3, a4, a5⟩ := h
  obtain ⟨f1, f2⟩ := hf
  exact ⟨scM_congr a1 (f2 2 (by decide) (by decide) (by decide) (by decide)) (f2 3 (by decide) (by decide) (by decide) (by decide)) (f1 21 (by decide) (by decide) (by decide) (by decide) (by decide)), by rw [f2 1 (by decide) (by decide) (by decide) (by decide)]; exact a2, by rw [f2 7 (by decide) (by decide) (by decide) (by decide)]; exact a3, fun r hr => by rw [f1 22 (by decide) (by decide) (by decide) (by decide) (by decide)]; exact a4 r hr, fun r hr => by rw [f1 23 (by decide) (by decide) (by decide) (by decide) (by decide)]; exact a5 r hr⟩
theorem m_copy1 {x1 x2 : Int32} (σ : jp_I) (τ : jp_J) : sp (jp_loop (fun q : (Int32) × jp_I × jp_J => sX8_byPriorities_82 x1 x2 q.1 q.2.1 q.2.2) jp_F (0, σ, τ)) (fun y σ' τ' => y = .inl () ∧ τ' = τ ∧ (∀ i, i ≠ 24 → σ' i = σ i) ∧ ∀ r t, r < 4 → t < 40 → σ' 24 (400 * r + t) = σ 25 (160 * r + t)) := by
  refine sp_for (fun j σ' τ' => τ' = τ ∧ (∀ i, i ≠ 24 → σ' i = σ i) ∧ ∀ r t, r < 4 → t < 40 → 40 * r + t < j → σ' 24 (400 * r + t) = σ 25 (160 * r + t)) 0 160 (by decide) (by decide) ⟨rfl, fun _ _ => rfl, fun r t _ _ h => absurd h (Nat.not_lt_zero _)⟩ ?_ ?_
  · rintro j σ1 τ1 - hj ⟨rfl, f1, f2⟩
    dsimp only
    unfold sX8_byPriorities_82
    have e1 : nI j / 40 * 160 + (nI j - nI j / 40 * 40) = nI (j / 40 * 160 + j % 40) := by
      rw [show (40 : Int32) = nI 40 from rfl, show (160 : Int32) = nI 160 from rfl, ni_mod (by omega) (by decide), ni_div (by omega) (by decide), ni_mul, ni_add]
    have e2 : nI j / 40 * 400 + (nI j - nI j / 40 * 40) = nI (j / 40 * 400 + j % 40) := by
      rw [show (40 : Int32) = nI 40 from rfl, show (400 : Int32) = nI 400 from rfl, ni_mod (by omega) (by decide), ni_div (by omega) (by decide), ni_mul, ni_add]
    rw [if_neg (by rw [show (160 : Int32) = nI 160 from rfl, ni_le (by decide) (by omega)]; omega)]
    refine sp_ok (by rw [e1]; exact ni_ok (by omega) (by omega)) (sp_ok (by rw [e2]; exact ni_ok (by omega) (by omega)) ?_)
    rw [e1, e2, ni_nat (by omega), ni_nat (by omega)]
    refine sp_ret ⟨by rw [← ni_add]; rfl, rfl, fun i hi => by rw [jp_up_n _ _ hi]; exact f1 i hi, fun r t hr ht hh => ?_⟩
    by_cases q : 40 * r + t = j
    · rw [show 400 * r + t = j / 40 * 400 + j % 40 by omega, show 160 * r + t = j / 40 * 160 + j % 40 by omega, jp_up_eq, f1 25 (by decide)]
    · rw [jp_up_ne _ _ _ (by omega)]
      exact f2 r t hr ht (by omega)
  · rintro σ1 τ1 ⟨rfl, f1, f2⟩
    dsimp only
    unfold sX8_byPriorities_82
    rw [if_pos (by decide)]
    exact sp_ret ⟨rfl, rfl, f1, fun r t hr ht => f2 r t hr ht (by omega)⟩
theorem m_copy2 {x1 x2 : Int32} (σ : jp_I) (τ : jp_J) : sp (jp_loop (fun q : (Int32) × jp_I × jp_J => sX8_byPriorities_139 x1 x2 q.1 q.2.1 q.2.2) jp_F (0, σ, τ)) (fun y σ' τ' => y = .inl () ∧ τ' = τ ∧ (∀ i, i ≠ 24 → σ' i = σ i) ∧ (∀ r t, r < 4 → t < 40 → σ' 24 (400 * r + t) = σ 24 (400 * r + t)) ∧ ∀ r, r < 4 → σ' 24 (400 * r + 40) = σ 25 (160 * r + 40)) := by
  refine sp_for (fun j σ' τ' => τ' = τ ∧ (∀ i, i ≠ 24 → σ' i = σ i) ∧ (∀ r t, r < 4 → t < 40 → σ' 24 (400 * r + t) = σ 24 (400 * r + t)) ∧ ∀ r, r < j → σ' 24 (400 * r + 40) = σ 25 (160 * r + 40)) 0 4 (by decide) (by decide) ⟨rfl, fun _ _ => rfl, fun _ _ _ _ => rfl, fun r h => absurd h (Nat.not_lt_zero _)⟩ ?_ ?_
  · rintro j σ1 τ1 - hj ⟨rfl, f1, f2, f3⟩
    dsimp only
    unfold sX8_byPriorities_139
    have e1 : (160 : Int32) * nI j + 40 = nI (160 * j + 40) := by rw [show (160 : Int32) = nI 160 from rfl, show (40 : Int32) = nI 40 from rfl, ni_mul, ni_add]
    have e2 : (400 : Int32) * nI j + 40 = nI (400 * j + 40) := by rw [show (400 : Int32) = nI 400 from rfl, show (40 : Int32) = nI 40 from rfl, ni_mul, ni_add]
    rw [if_neg (by rw [show (4 : Int32) = nI 4 from rfl, ni_le (by decide) (by omega)]; omega)]
    refine sp_ok (by rw [e1]; exact ni_ok (by omega) (by omega)) (sp_ok (by rw [e2]; exact ni_ok (by omega) (by omega)) ?_)
    rw [e1, e2, ni_nat (by omega), ni_nat (by omega)]
    refine sp_ret ⟨by rw [← ni_add]; rfl, rfl, fun i hi => by rw [jp_up_n _ _ hi]; exact f1 i hi, fun r t hr ht => by rw [jp_up_ne _ _ _ (by omega)]; exact f2 r t hr ht, fun r hr => ?_⟩
    by_cases q : r = j
    · rw [q, jp_up_eq, f1 25 (by decide)]
    · rw [jp_up_ne _ _ _ (by omega)]
      exact f3 r (by omega)
  · rintro σ1 τ1 ⟨rfl, f1, f2, f3⟩
    dsimp only
    unfold sX8_byPriorities_139
    rw [if_pos (by decide)]
    exact sp_ret ⟨rfl, rfl, f1, f2, f3⟩
section PQ
variable {R : Nat} {G : gG} {bar : Bool} {o s e : Nat → Nat} {σ : jp_I}
theorem m_att (τ : jp_J) {x1 : Int32} {p : Nat} {b : plT} (hT : ptT R G s e) (hR : ptR R o) (hR4 : R ≤ 4) (hC : pmC R G bar s e o σ) (hN : plN R b σ) (hb : plOk R b) :
    sp (bX8_byPriorities_45_in12 x1 (nI p) σ τ) (fun y σ' τ' => y = .inl (nI (p + 1)) ∧ τ' = τ ∧ pmf σ σ' ∧ σ' 20 10 = σ 20 10 ∧ plN R (pbet b (ptry R G bar s e o)) σ') := by
  unfold bX8_byPriorities_45_in12
  refine sp_bind (m_ways τ hT hR hR4 hC) ?_
  rintro a σ1 τ1 ⟨rfl, f1, f3⟩
  dsimp only
  have hp1 : nI p + 1 = nI (p + 1) := ni_add p 1
  have e20 := f1 20 (by decide) (by decide)
  have e24 := f1 24 (by decide) (by decide)
  have hpf : pmf σ σ1 := pmf_of fun i _ h25 _ h27 => f1 i h25 h27
  unfold bX8_byPriorities_179_in12
  rw [hp1]
  rcases f3 with ⟨h1, rfl⟩ | ⟨c, F, h1, rfl, h4⟩
  · rw [if_pos (by decide)]
    have : ptry R G bar s e o = none := by unfold ptry; rw [h1]; rfl
    rw [this]
    exact sp_ret ⟨rfl, rfl, hpf, by rw [e20], plN_congr hN e20 e24⟩
  · have hc := (rn_ok hT hR (Nat.le_refl _) h1).2
    have htry : ptry R G bar s e o = some (c, stn (atE R e F) 40, F) := by unfold ptry; rw [h1]; rfl
    rw [if_neg (ni_nn (by omega))]
    have hcopy : pbet b (ptry R G bar s e o) = some (c, stn (atE R e F) 40, F) → sp (bX8_byPriorities_69_in12 x1 (nI p) (nI c) σ1 τ1) (fun y σ' τ' => y = .inl (nI (p + 1)) ∧ τ' = τ1 ∧ pmf σ σ' ∧ σ' 20 10 = σ 20 10 ∧ plN R (pbet b (ptry R G bar s e o)) σ') := by
      intro hbet
      rw [hbet]
      unfold bX8_byPriorities_69_in12
      refine sp_bind (m_copy1 _ τ1) ?_
      rintro y σ2 τ2 ⟨rfl, rfl, g1, g2⟩
      dsimp only
      refine sp_bind (m_copy2 σ2 τ2) ?_
      rintro y σ3 τ3 ⟨rfl, rfl, k1, k2, k3⟩
      dsimp only
      unfold bX8_byPriorities_179_in12
      rw [hp1]
      have h20 : σ3 20 = (jp_up (jp_up σ1 20 9 1) 20 11 (nI c)) 20 := by rw [k1 20 (by decide), g1 20 (by decide)]
      refine sp_ret ⟨rfl, rfl, ⟨fun i h20 h24 h25 h26 h27 => by rw [k1 i h24, g1 i h24, jp_up_n _ _ h20, jp_up_n _ _ h20]; exact f1 i h25 h27, fun k h9 _ h11 _ => by rw [h20, jp_up_ne _ _ _ h11, jp_up_ne _ _ _ h9, e20]⟩, by rw [h20, jp_up_ne _ _ _ (by decide), jp_up_ne _ _ _ (by decide), e20], ⟨fun q => (by cases q), fun c' t' f' q => ?_⟩⟩
      cases q
      refine ⟨by rw [h20, jp_up_ne _ _ _ (by decide), jp_up_eq], by rw [h20, jp_up_eq], fun r k hr hk => ?_⟩
      have h25 : ∀ j, (jp_up (jp_up σ1 20 9 1) 20 11 (nI c)) 25 j = σ1 25 j := fun j => by rw [jp_up_n _ _ (by decide), jp_up_n _ _ (by decide)]
      by_cases z : k = 40
      · rw [z, k3 r (by omega), g1 25 (by decide), h25]
        exact h4 r 40 hr (by omega)
      · rw [k2 r k (by omega) (by omega), g2 r k (by omega) (by omega), h25]
        exact h4 r k hr hk
    cases hbb : b with
    | none =>
      subst hbb
      rw [if_pos (by rw [e20]; exact hN.1 rfl)]
      exact hcopy (by rw [pbet_none, htry])
    | some x =>
      subst hbb
      obtain ⟨c0, t0, f0⟩ := x
      obtain ⟨p1, p2, p3⟩ := hN.2 c0 t0 f0 rfl
      have hc0 := (hb c0 t0 f0 rfl).1
      have hbt : pbet (some (c0, t0, f0)) (ptry R G bar s e o) = if c0 ≤ c then some (c0, t0, f0) else some (c, stn (atE R e F) 40, F) := by rw [htry]; rfl
      rw [if_neg (by rw [e20, p1]; decide)]
      by_cases z : c0 ≤ c
      · rw [if_pos (by rw [e20, p2]; exact (ni_le (by omega) (by omega)).mpr z)]
        rw [if_pos z] at hbt
        rw [hbt]
        exact sp_ret ⟨rfl, rfl, hpf, by rw [e20], plN_congr hN e20 e24⟩
      · rw [if_neg (by rw [e20, p2]; exact fun q => z ((ni_le (by omega) (by omega)).mp q))]
        rw [if_neg z] at hbt
        exact hcopy hbt
/-- the plans tried: their steps, their ends -/
def plE (R : Nat) (e : Nat → Nat) (b : plT) : Prop := ∀ c t f, b = some (c, t, f) → t = stn (atE R e f) 40 ∧ ∀ r, r < R → f r 40 = e r ∧ ∀ k, k ≤ 40 → f r k < 36
theorem plE_try (hT : ptT R G s e) (hR : ptR R o) : plE R e (ptry R G bar s e o) := by
  intro c t f h
  unfold ptry at h
  cases q : rn G bar s e o R with
  | none => rw [q] at h; cases h
  | some w =>
    obtain ⟨c', F⟩ := w
    rw [q] at h
    cases h
    exact ⟨rfl, rn_all hT hR q⟩
theorem plE_bet {a b : plT} (ha : plE R e a) (hb : plE R e b) : plE R e (pbet a b) := by
  cases b with
  | none => exact ha
  | some y =>
    cases a with
    | none => exact hb
    | some x =>
      show plE R e (if x.1 ≤ y.1 then some x else some y)
      split
      · exact ha
      · exact hb
theorem bst_E {a : Nat} (hT : ptT R G s e) (hR4 : 1 ≤ R ∧ R ≤ 4) : ∀ p, plE R e (bst R G bar s e a p)
  | 0 => plE_try hT (ptR_id R)
  | p + 1 => plE_bet (bst_E hT hR4 p) (plE_try hT (ord_ptR hR4.1 _))
theorem m_atts {a P : Nat} {τ : jp_J} (hT : ptT R G s e) (hR4 : 1 ≤ R ∧ R ≤ 4) (h0 : pm0 R G bar s e σ) (h9 : σ 20 9 = 0) (ha : a < 2147483648) (ht : τ 20 8 = n64 a) (hP : P ≤ 5) :
    sp (jp_loop (fun q : (Int32) × jp_I × jp_J => sX8_byPriorities_12 (nI P) q.1 q.2.1 q.2.2) jp_F (0, σ, τ)) (fun y σ' τ' => y = .inl () ∧ pmf σ σ' ∧ σ' 20 10 = σ 20 10 ∧ (∀ i, i ≠ 20 → τ' i = τ i) ∧ τ' 20 8 = n64 (sdq R a P) ∧ plN R (bst R G bar s e a P) σ') := by
  refine sp_for (fun p σ' τ' => pmf σ σ' ∧ σ' 20 10 = σ 20 10 ∧ (∀ i, i ≠ 20 → τ' i = τ i) ∧ τ' 20 8 = n64 (sdq R a (p - 1)) ∧ plN R (bsx R G bar s e a p) σ') 0 (P + 1) (Nat.zero_le _) (by omega) ⟨⟨fun _ _ _ _ _ _ => rfl, fun _ _ _ _ _ => rfl⟩, rfl, fun _ _ => rfl, ht, fun _ => h9, fun c t f q => (by cases q)⟩ ?_ ?_
  · rintro p σ1 τ1 - hp ⟨f1, f2, f3, f4, f5⟩
    dsimp only
    unfold sX8_byPriorities_12
    rw [if_neg (by rw [ni_lt (by omega) (by omega)]; omega)]
    refine sp_bind (m_order σ1 τ1) ?_
    rintro y σ2 τ2 ⟨rfl, rfl, g1, g2⟩
    dsimp only
    have hf2 : pmf σ σ2 := pmf_tr f1 (pmf_of fun i _ _ h26 _ => g1 i h26)
    have h02 := pm0_f h0 hf2
    have fin : ∀ σ3 τ3, (∀ i, i ≠ 26 → σ3 i = σ2 i) → (∀ i, i ≠ 20 → τ3 i = τ i) → τ3 20 8 = n64 (sdq R a p) → (∀ k, k < R → σ3 26 k = nI (ord R a p k)) → sp (bX8_byPriorities_45_in12 (nI P) (nI p) σ3 τ3) (sp_S (fun v σ' τ' => v = nI (p + 1) ∧ pmf σ σ' ∧ σ' 20 10 = σ 20 10 ∧ (∀ i, i ≠ 20 → τ' i = τ i) ∧ τ' 20 8 = n64 (sdq R a (p + 1 - 1)) ∧ plN R (bsx R G bar s e a (p + 1)) σ') (fun y σ' τ' => y = .inl () ∧ pmf σ σ' ∧ σ' 20 10 = σ 20 10 ∧ (∀ i, i ≠ 20 → τ' i = τ i) ∧ τ' 20 8 = n64 (sdq R a P) ∧ plN R (bst R G bar s e a P) σ')) := by
      intro σ3 τ3 k1 k2 k3 k4
      have hf3 : pmf σ σ3 := pmf_tr hf2 (pmf_of fun i _ _ h26 _ => k1 i h26)
      obtain ⟨b1, b2, b3, b4, b5⟩ := pm0_f h0 hf3
      refine sp_mono (m_att (o := ord R a p) τ3 hT (ord_ptR hR4.1 p) hR4.2 ⟨b1, b2, b3, b4, b5, k4⟩ (plN_congr f5 (by rw [k1 20 (by decide), g1 20 (by decide)]) (by rw [k1 24 (by decide), g1 24 (by decide)])) (bsx_ok hT hR4 p)) ?_
      rintro y σ4 τ4 ⟨rfl, rfl, m1, m2, m3⟩
      exact ⟨rfl, pmf_tr hf3 m1, by rw [m2, k1 20 (by decide), g1 20 (by decide)]; exact f2, k2, by rw [Nat.add_sub_cancel]; exact k3, by rw [bsx_s]; exact m3⟩
    by_cases z : p = 0
    · subst z
      rw [if_pos (by decide)]
      exact fin σ2 τ2 (fun _ _ => rfl) f3 f4 (fun k hk => g2 k (by omega))
    · obtain ⟨q, rfl⟩ : ∃ q, p = q + 1 := ⟨p - 1, by omega⟩
      rw [Nat.add_sub_cancel] at f4
      rw [if_neg (by rw [show (0 : Int32) = nI 0 from rfl, ni_le (by omega) (by omega)]; omega)]
      refine sp_bind (m_draw hR4 (sdq_lt ha q) h02.2.1 g2 f4) ?_
      rintro y σ3 τ3 ⟨k1, k2, k3, k4⟩
      dsimp only
      exact fin σ3 τ3 k1 (fun i hi => by rw [k2 i hi]; exact f3 i hi) k3 k4
  · rintro σ1 τ1 ⟨f1, f2, f3, f4, f5⟩
    dsimp only
    unfold sX8_byPriorities_12
    rw [if_pos (by rw [ni_lt (by omega) (by omega)]; omega)]
    exact sp_ret ⟨rfl, f1, f2, f3, f4, f5⟩
theorem m_flag {x m : Nat} {f : Nat → Nat → Nat} (τ : jp_J) (hR4 : R ≤ 4) (h1 : σ 20 1 = nI R) (h12 : σ 20 12 = nI (x + 1)) (hx : x + 1 ≤ 40) (hf : ∀ r k, r < R → k ≤ 40 → f r k < 36 ∧ σ 24 (400 * r + k) = nI (f r k)) (he : ∀ r, r < R → f r 40 = e r) :
    sp (jp_loop (fun q : (Int32 × Int32) × jp_I × jp_J => sX8_byPriorities_209 q.1.1 q.1.2 q.2.1 q.2.2) jp_F ((1, 0), σ, τ)) (fun y σ' τ' => y = .inl (bI (atE R e f x)) ∧ σ' = σ ∧ τ' = τ) := by
  refine sp_loopF (fun w σ' τ' m => ∃ r, r ≤ R ∧ m = R - r ∧ w = (bI (!exB (fun q => !(f q x == e q)) r), nI r) ∧ σ' = σ ∧ τ' = τ) R ⟨0, Nat.zero_le _, rfl, rfl, rfl, rfl⟩ (by omega) ?_
  rintro w σ' τ' m ⟨r, hr, rfl, rfl, rfl, rfl⟩
  dsimp only
  unfold sX8_byPriorities_209
  rw [h1]
  by_cases q : r = R
  · subst q
    rw [if_pos (by rw [ni_le (by omega) (by omega)]; omega)]
    exact sp_ret ⟨rfl, rfl, rfl⟩
  · have hr' : r < R := by omega
    rw [if_neg (by rw [ni_le (by omega) (by omega)]; omega)]
    have e1 : (400 : Int32) * nI r + σ' 20 12 - 1 = nI (400 * r + x) := by
      rw [h12, show (400 : Int32) = nI 400 from rfl, ni_mul, ni_add]
      exact ni_sub (a := 400 * r + (x + 1)) (b := 1) (by omega)
    have e2 : (400 : Int32) * nI r + 40 = nI (400 * r + 40) := by rw [show (400 : Int32) = nI 400 from rfl, show (40 : Int32) = nI 40 from rfl, ni_mul, ni_add]
    refine sp_ok (by rw [e1]; exact ni_ok (by omega) (by omega)) (sp_ok (by rw [e2]; exact ni_ok (by omega) (by omega)) ?_)
    obtain ⟨b1, b2⟩ := hf r x hr' (by omega)
    obtain ⟨b3, b4⟩ := hf r 40 hr' (by omega)
    have hex : exB (fun q => !(f q x == e q)) (r + 1) = (exB (fun q => !(f q x == e q)) r || !(f r x == e r)) := rfl
    unfold bX8_byPriorities_252_in209
    rw [show nI r + 1 = nI (r + 1) from ni_add r 1]
    refine sp_if (fun z => ?_) (fun z => ?_)
    · rw [e1, e2, ni_nat (by omega), ni_nat (by omega), b2, b4, ni_inj (by omega) (by omega), he r hr'] at z
      refine sp_ret ⟨R - (r + 1), by omega, r + 1, by omega, rfl, ?_, rfl, rfl⟩
      rw [hex, z]
      simp
    · rw [e1, e2, ni_nat (by omega), ni_nat (by omega), b2, b4, ni_inj (by omega) (by omega), he r hr'] at z
      refine sp_ret ⟨R - (r + 1), by omega, r + 1, by omega, rfl, ?_, rfl, rfl⟩
      rw [hex]
      have : (f r x == e r) = false := by simp [z]
      rw [this]
      simp [bI]
theorem m_byP {a P : Nat} {τ : jp_J} {st en : Nat → Option Nat} {pl : plT} (hT : ptT R G s e) (hR : 3 ≤ R ∧ R ≤ 4) (hs : ∀ r, r < R → st r = some (s r)) (he : ∀ r, r < R → en r = some (e r)) (hM : RM R G st en bar (n64 a) pl σ τ) (ha : a < 2147483648) (hP : P ≤ 5) :
    sp (fX8_byPriorities (nI P) σ τ) (fun _ σ' τ' => (∀ i, i < 20 → σ' i = σ i) ∧ σ' 20 0 = σ 20 0 ∧ τ' 9 = τ 9 ∧ τ' 30 = τ 30 ∧ RM R G st en bar (n64 (sdq R a P)) (bst R G bar s e a P) σ' τ') := by
  obtain ⟨m0, m1, m2, m3, m4, m5, m6⟩ := hM
  have hR4 : 1 ≤ R ∧ R ≤ 4 := ⟨by omega, hR.2⟩
  have h0 : pm0 R G bar s e σ := ⟨m1, m0, m4, fun r hr => by rw [m2 r hr, hs r hr]; rfl, fun r hr => by rw [m3 r hr, he r hr]; rfl⟩
  have hf0 : pmf σ (jp_up (jp_up σ 20 10 0) 20 9 0) := ⟨fun i h20 _ _ _ _ => by rw [jp_up_n _ _ h20, jp_up_n _ _ h20], fun k h9 h10 _ _ => by rw [jp_up_ne _ _ _ h9, jp_up_ne _ _ _ h10]⟩
  unfold fX8_byPriorities
  refine sp_bind (m_atts (bar := bar) hT hR4 (pm0_f h0 hf0) (jp_up_eq _ _ _ _) ha m5 hP) ?_
  rintro y σ1 τ1 ⟨rfl, f1, f2, f3, f4, f5⟩
  dsimp only
  rw [jp_up_ne _ _ _ (by decide), jp_up_eq] at f2
  have hf1 := pmf_tr hf0 f1
  have hN2 : plN R (bst R G bar s e a P) (jp_up σ1 20 12 40) := ⟨fun q => by rw [jp_up_ne _ _ _ (by decide)]; exact f5.1 q, fun c t f q => by rw [jp_up_ne _ _ _ (by decide), jp_up_ne _ _ _ (by decide), jp_up_n _ _ (by decide)]; exact f5.2 c t f q⟩
  have hf2 : pmf σ (jp_up σ1 20 12 40) := pmf_tr hf1 ⟨fun i h20 _ _ _ _ => jp_up_n _ _ h20, fun k _ _ _ h12 => jp_up_ne _ _ _ h12⟩
  have fin : ∀ σ3 τ3, pmf σ σ3 → τ3 = τ1 → σ3 20 10 = 0 → plN R (bst R G bar s e a P) σ3 → (∀ c t f, bst R G bar s e a P = some (c, t, f) → σ3 20 12 = nI t) → (∀ i, i < 20 → σ3 i = σ i) ∧ σ3 20 0 = σ 20 0 ∧ τ3 9 = τ 9 ∧ τ3 30 = τ 30 ∧ RM R G st en bar (n64 (sdq R a P)) (bst R G bar s e a P) σ3 τ3 := by
    rintro σ3 τ3 k1 rfl k2 k3 k4
    obtain ⟨b1, b2, b3, b4, b5⟩ := pm0_f h0 k1
    refine ⟨fun i hi => k1.1 i (by omega) (by omega) (by omega) (by omega) (by omega), k1.2 0 (by decide) (by decide) (by decide) (by decide), f3 9 (by decide), f3 30 (by decide), b2, b1, fun r hr => by rw [b4 r hr, hs r hr]; rfl, fun r hr => by rw [b5 r hr, he r hr]; rfl, b3, f4, k3.1, fun c t f q => ?_⟩
    obtain ⟨c1, c2, c3⟩ := k3.2 c t f q
    have ht : t ≤ 40 := by rw [(bst_E hT hR4 P c t f q).1]; exact stn_le _ _
    exact ⟨c1, by rw [k2, show decide (R ≤ 2) = false from decide_eq_false (by omega)]; rfl, c2, k4 c t f q, fun r k hr hk => c3 r k hr (by omega)⟩
  cases hb : bst R G bar s e a P with
  | none =>
    rw [hb] at fin hN2
    have h9 := hN2.1 rfl
    rw [h9]
    refine sp_bind (P := fun y σ' τ' => y = .inl () ∧ σ' = jp_up σ1 20 12 40 ∧ τ' = τ1) ?_ ?_
    · refine sp_loopF (fun v σ' τ' m => v = 0 ∧ σ' = jp_up σ1 20 12 40 ∧ τ' = τ1) 0 ⟨rfl, rfl, rfl⟩ (by decide) ?_
      rintro v σ' τ' m ⟨rfl, rfl, rfl⟩
      dsimp only
      unfold sX8_byPriorities_196
      rw [if_pos rfl]
      exact sp_ret ⟨rfl, rfl, rfl⟩
    · rintro y σ2 τ2 ⟨rfl, rfl, rfl⟩
      dsimp only
      exact sp_ret (fin _ _ hf2 rfl (by rw [jp_up_ne _ _ _ (by decide)]; exact f2) hN2 (fun c t f q => by cases q))
  | some w =>
    obtain ⟨c, t, f⟩ := w
    obtain ⟨hE1, hE2⟩ := bst_E (bar := bar) (a := a) hT hR4 P c t f hb
    rw [hb] at fin hN2
    obtain ⟨n1, n2, n3⟩ := hN2.2 c t f rfl
    rw [n1]
    have keep : ∀ v : Int32, plN R (some (c, t, f)) (jp_up σ1 20 12 v) := by
      intro v
      refine ⟨fun q => (by cases q), fun c' t' f' q => ?_⟩
      cases q
      rw [jp_up_ne _ _ _ (by decide)] at n1 n2
      rw [jp_up_ne _ _ _ (by decide), jp_up_ne _ _ _ (by decide), jp_up_n _ _ (by decide)]
      rw [jp_up_n _ _ (by decide)] at n3
      exact ⟨n1, n2, n3⟩
    refine sp_bind (P := fun y σ' τ' => y = .inl () ∧ σ' = jp_up σ1 20 12 (nI t) ∧ τ' = τ1) ?_ ?_
    · refine sp_loopF (fun v σ' τ' m => ∃ x, x ≤ 40 ∧ σ' = jp_up σ1 20 12 (nI x) ∧ τ' = τ1 ∧ ((v = 1 ∧ m = x + 1 ∧ t = stn (atE R e f) x) ∨ (v = 0 ∧ m = 0 ∧ t = x))) 41 ⟨40, Nat.le_refl _, rfl, rfl, Or.inl ⟨rfl, rfl, hE1⟩⟩ (by decide) ?_
      rintro v σ' τ' m ⟨x, hx, rfl, rfl, ⟨rfl, rfl, h2⟩ | ⟨rfl, rfl, rfl⟩⟩
      · dsimp only
        unfold sX8_byPriorities_196
        rw [if_neg (by decide), jp_up_eq]
        by_cases z : x = 0
        · subst z
          rw [if_pos (by decide)]
          refine sp_ret ⟨rfl, ?_, rfl⟩
          rw [h2]
          rfl
        · obtain ⟨x, rfl⟩ : ∃ y, x = y + 1 := ⟨x - 1, by omega⟩
          rw [if_neg (by rw [show (0 : Int32) = nI 0 from rfl, ni_le (by omega) (by omega)]; omega)]
          obtain ⟨p1, p2, p3⟩ := (keep (nI (x + 1))).2 c t f rfl
          refine sp_bind (m_flag (m := 0) (e := e) (x := x) (f := f) τ' hR4.2 (pm0_f h0 (pmf_tr hf1 ⟨fun i h20 _ _ _ _ => jp_up_n _ _ h20, fun k _ _ _ h12 => jp_up_ne _ _ _ h12⟩)).2.1 (jp_up_eq _ _ _ _) hx (fun r k hr hk => ⟨(hE2 r hr).2 k hk, p3 r k hr hk⟩) (fun r hr => (hE2 r hr).1)) ?_
          rintro y σ3 τ3 ⟨rfl, rfl, rfl⟩
          dsimp only
          have hst : stn (atE R e f) (x + 1) = if atE R e f x then stn (atE R e f) x else x + 1 := rfl
          cases w : atE R e f x with
          | true =>
            rw [w] at hst
            rw [if_neg (show ¬ bI true = 0 by decide), jp_up_eq, show nI (x + 1) - 1 = nI x from ni_sub (a := x + 1) (b := 1) (by omega)]
            refine sp_ret ⟨x + 1, by omega, x, by omega, ?_, rfl, Or.inl ⟨rfl, rfl, h2.trans hst⟩⟩
            rw [jp_up_row, jp_up_row, jp_up_row, jp_row_row, jp_row_s]
            congr 1
            funext j
            by_cases u : j = 12
            · rw [if_pos u, if_pos u]
            · rw [if_neg u, if_neg u, if_neg u]
          | false =>
            rw [w] at hst
            rw [if_pos (show bI false = 0 by decide)]
            exact sp_ret ⟨0, by omega, x + 1, hx, rfl, rfl, Or.inr ⟨rfl, rfl, h2.trans hst⟩⟩
      · dsimp only
        unfold sX8_byPriorities_196
        rw [if_pos rfl]
        exact sp_ret ⟨rfl, rfl, rfl⟩
    · rintro y σ2 τ2 ⟨rfl, rfl, rfl⟩
      dsimp only
      refine sp_ret (fin _ _ (pmf_tr hf1 ⟨fun i h20 _ _ _ _ => jp_up_n _ _ h20, fun k _ _ _ h12 => jp_up_ne _ _ _ h12⟩) rfl (by rw [jp_up_ne _ _ _ (by decide)]; exact f2) (keep _) (fun c' t' f' q => ?_))
      cases q
      rw [jp_up_eq]
end PQ
