-- the class's best plan by priorities
theorem s_copy {nc : Nat} (hnc : nc < 100000) (σ : jp_I) (τ : jp_J) : sp (fX2_copy 11 12 nc 14 15 nc σ τ) (fun _ σ' τ' => τ' = τ ∧ (∀ i, i ≠ 11 → i ≠ 12 → σ' i = σ i) ∧ σ' 11 0 = σ 11 0 ∧ σ' 11 2 = σ 14 2 ∧ σ' 11 3 = σ 14 3 ∧ ∀ j, j < nc → σ' 12 j = σ 15 j) := by
  unfold fX2_copy
  refine sp_bind (P := fun x σ' τ' => x = .inl () ∧ τ' = τ ∧ (∀ i, i ≠ 12 → σ' i = σ i) ∧ ∀ j, j < nc → σ' 12 j = σ 15 j) ?_ ?_
  · refine sp_for (fun x σ' τ' => τ' = τ ∧ (∀ i, i ≠ 12 → σ' i = σ i) ∧ ∀ j, j < x → σ' 12 j = σ 15 j) 0 nc (Nat.zero_le _) (by omega) ⟨rfl, fun _ _ => rfl, fun j h => absurd h (Nat.not_lt_zero _)⟩ ?_ ?_
    · rintro x σ1 τ1 - hx ⟨rfl, f1, f2⟩
      dsimp only
      unfold sX2_copy_2
      rw [if_neg (by rw [ni_le (by omega) (by omega)]; omega), s_readi 15 σ1 τ1 (by omega) hx, Option.bind_some]
      dsimp only
      rw [if_pos (ni_ok (by omega) hx), ni_nat (by omega)]
      refine sp_ret ⟨by rw [← ni_add]; rfl, rfl, fun i hi => by rw [jp_up_n _ _ hi]; exact f1 i hi, fun j hj => ?_⟩
      by_cases q : j = x
      · subst q; rw [jp_up_eq, f1 15 (by decide)]
      · rw [jp_up_ne _ _ _ q]; exact f2 j (by omega)
    · rintro σ1 τ1 ⟨rfl, f1, f2⟩
      dsimp only
      unfold sX2_copy_2
      rw [if_pos (by rw [ni_le (by omega) (by omega)]; omega)]
      exact sp_ret ⟨rfl, rfl, f1, f2⟩
  · rintro x σ1 τ1 ⟨rfl, rfl, f1, f2⟩
    dsimp only
    refine sp_ret ⟨rfl, fun i h11 h12 => by rw [jp_up_n _ _ h11, jp_up_n _ _ h11]; exact f1 i h12, ?_, ?_, ?_, fun j hj => ?_⟩
    · rw [jp_up_ne _ _ _ (by decide), jp_up_ne _ _ _ (by decide), f1 11 (by decide)]
    · rw [jp_up_ne _ _ _ (by decide), jp_up_eq, f1 14 (by decide)]
    · rw [jp_up_eq, jp_up_n _ _ (by decide), f1 14 (by decide)]
    · rw [jp_up_n _ _ (by decide), jp_up_n _ _ (by decide)]; exact f2 j hj
theorem plX_congr {R nc : Nat} {b : plT} {σ σ' : jp_I} (h : plX R nc b σ) (e11 : σ' 11 = σ 11) (e12 : σ' 12 = σ 12) : plX R nc b σ' := by
  unfold plX
  rw [e11, e12]
  exact h
theorem plOk_try {R : Nat} {G : gG} {bar : Bool} {s e o : Nat → Nat} (hT : ptT R G s e) (hR : ptR R o) (hR4 : R ≤ 4) : plOk R (ptry R G bar s e o) := by
  intro c t f h
  unfold ptry at h
  cases q : rn G bar s e o R with
  | none => rw [q] at h; cases h
  | some w =>
    obtain ⟨c', F⟩ := w
    rw [q] at h
    cases h
    have h1 := rn_ok hT hR (Nat.le_refl _) q
    have h2 := rn_all hT hR q
    have h3 := stn_le (atE R e F) 40
    dsimp only
    exact ⟨by omega, by omega, fun r k hr hk => (h2 r hr).2 k (by omega)⟩
theorem plOk_bet {R : Nat} {a b : plT} (ha : plOk R a) (hb : plOk R b) : plOk R (pbet a b) := by
  cases b with
  | none => exact ha
  | some y =>
    cases a with
    | none => exact hb
    | some x =>
      show plOk R (if x.1 ≤ y.1 then some x else some y)
      split
      · exact ha
      · exact hb
theorem bst_ok {R a : Nat} {G : gG} {bar : Bool} {s e : Nat → Nat} (hT : ptT R G s e) (hR4 : 1 ≤ R ∧ R ≤ 4) : ∀ p, plOk R (bst R G bar s e a p)
  | 0 => plOk_try hT (ptR_id R) hR4.2
  | p + 1 => plOk_bet (bst_ok hT hR4 p) (plOk_try hT (ord_ptR hR4.1 _) hR4.2)
theorem pbet_none (b : plT) : pbet none b = b := by cases b <;> rfl
section PZ
variable {R nc : Nat} {G : gG} {bar : Bool} {o s e : Nat → Nat} {σ : jp_I}
def bsx (R : Nat) (G : gG) (bar : Bool) (s e : Nat → Nat) (a : Nat) : Nat → plT
  | 0 => none
  | p + 1 => bst R G bar s e a p
theorem bsx_s (a p : Nat) : bsx R G bar s e a (p + 1) = pbet (bsx R G bar s e a p) (ptry R G bar s e (ord R a p)) := by
  cases p with
  | zero => exact (pbet_none _).symm
  | succ p => rfl
theorem bsx_ok {a : Nat} (hT : ptT R G s e) (hR4 : 1 ≤ R ∧ R ≤ 4) : ∀ p, plOk R (bsx R G bar s e a p)
  | 0 => plOk_none R
  | p + 1 => bst_ok hT hR4 p
theorem s_improve (τ : jp_J) {b : plT} {P i : Nat} {W : Sum Unit Int32 → jp_I → jp_J → Prop} (hT : ptT R G s e) (hR : ptR R o) (hR4 : R ≤ 4) (hnc : nc = 41 * R) (hC : txC R G bar s e σ) (h10 : ∀ k, k < R → σ 10 k = nI (o k)) (hp : plX R nc b σ) (hb : plOk R b) :
    sp (bX4_make_25_in9 R nc (nI P) (nI i) σ τ) (sp_S (fun v σ' τ' => v = nI (i + 1) ∧ τ' = τ ∧ (∀ i, i ≠ 11 → i ≠ 12 → i ≠ 14 → i ≠ 15 → i ≠ 16 → i ≠ 17 → σ' i = σ i) ∧ σ' 14 0 = σ 14 0 ∧ plX R nc (pbet b (ptry R G bar s e o)) σ') W) := by
  unfold bX4_make_25_in9
  refine sp_bind (s_tryOrder τ hT hR hR4 hnc hC h10) ?_
  rintro _ σ1 τ1 ⟨rfl, f1, f2, f3⟩
  dsimp only
  have e11 := f1 11 (by decide) (by decide) (by decide) (by decide)
  have e12 := f1 12 (by decide) (by decide) (by decide) (by decide)
  unfold fX2_isMade
  rcases f3 with ⟨h1, h2⟩ | ⟨c, F, h1, h2, h3, h4⟩
  · rw [if_pos h2, Option.bind_some]
    dsimp only
    rw [if_pos rfl]
    have : ptry R G bar s e o = none := by unfold ptry; rw [h1]; rfl
    rw [this]
    unfold bX4_make_68_in9
    exact sp_ret ⟨by rw [← ni_add]; rfl, rfl, fun i _ _ h14 h15 h16 h17 => f1 i h14 h15 h16 h17, f2, plX_congr hp e11 e12⟩
  · have hc := (rn_ok hT hR (Nat.le_refl _) h1).2
    have hst := stn_le (atE R e F) 40
    have htry : ptry R G bar s e o = some (c, stn (atE R e F) 40, F) := by unfold ptry; rw [h1]; rfl
    have hcopy : pbet b (ptry R G bar s e o) = some (c, stn (atE R e F) 40, F) → sp (bX4_make_60_in9 R nc (nI P) (nI i) σ1 τ1) (sp_S (fun v σ' τ' => v = nI (i + 1) ∧ τ' = τ1 ∧ (∀ i, i ≠ 11 → i ≠ 12 → i ≠ 14 → i ≠ 15 → i ≠ 16 → i ≠ 17 → σ' i = σ i) ∧ σ' 14 0 = σ 14 0 ∧ plX R nc (pbet b (ptry R G bar s e o)) σ') W) := by
      intro hbet
      rw [hbet]
      unfold bX4_make_60_in9
      refine sp_bind (s_copy (nc := nc) (by omega) σ1 τ1) ?_
      rintro _ σ2 τ2 ⟨rfl, g1, g2, g3, g4, g5⟩
      dsimp only
      unfold bX4_make_68_in9
      refine sp_ret ⟨by rw [← ni_add]; rfl, rfl, fun i h11 h12 h14 h15 h16 h17 => by rw [g1 i h11 h12]; exact f1 i h14 h15 h16 h17, by rw [g1 14 (by decide) (by decide)]; exact f2, ⟨by rw [g2, e11]; exact hp.1, fun q => (by cases q), fun c' t' f' q => ?_⟩⟩
      cases q
      refine ⟨by rw [g4]; exact h2, by rw [g3]; exact h3, ?_, fun r k hr hk => ?_⟩
      · rw [hnc]
        exact Nat.mul_le_mul_right R (by omega)
      · rw [g5 _ (by rw [hnc]; exact ix_lt (by omega) hr)]
        exact h4 r k hr (by omega)
    rw [if_neg (by rw [h2]; exact ni_neg (by omega)), Option.bind_some]
    dsimp only
    rw [if_neg (by decide)]
    cases hbb : b with
    | none =>
      subst hbb
      rw [if_pos (by rw [e11]; exact hp.2.1 rfl), Option.bind_some]
      dsimp only
      rw [if_pos rfl]
      exact hcopy (by rw [pbet_none, htry])
    | some x =>
      subst hbb
      obtain ⟨c0, t0, f0⟩ := x
      obtain ⟨p1, p2, p3, p4⟩ := hp.2.2 c0 t0 f0 rfl
      have hc0 := (hb c0 t0 f0 rfl).1
      rw [if_neg (by rw [e11, p1]; exact ni_neg (by omega)), Option.bind_some]
      dsimp only
      have hbt : pbet (some (c0, t0, f0)) (ptry R G bar s e o) = if c0 ≤ c then some (c0, t0, f0) else some (c, stn (atE R e F) 40, F) := by rw [htry]; rfl
      rw [if_neg (by decide)]
      by_cases z : c0 ≤ c
      · rw [if_pos (by rw [e11, p1, h2]; exact (ni_le (by omega) (by omega)).mpr z)]
        rw [if_pos z] at hbt
        rw [hbt]
        unfold bX4_make_68_in9
        exact sp_ret ⟨by rw [← ni_add]; rfl, rfl, fun i _ _ h14 h15 h16 h17 => f1 i h14 h15 h16 h17, f2, plX_congr hp e11 e12⟩
      · rw [if_neg (by rw [e11, p1, h2]; exact fun q => z ((ni_le (by omega) (by omega)).mp q))]
        rw [if_neg z] at hbt
        exact hcopy hbt
theorem s_makeP {a P : Nat} {τ : jp_J} (hT : ptT R G s e) (hR4 : 1 ≤ R ∧ R ≤ 4) (hnc : nc = 41 * R) (hC : txC R G bar s e σ) (hp : plX R nc none σ) (ha : a < 2147483648) (ht : τ 9 1 = n64 a) (hP : P ≤ 5) :
    sp (fX4_make R nc (nI P) σ τ) (fun _ σ' τ' => (∀ i, i ≠ 10 → i ≠ 11 → i ≠ 12 → i ≠ 14 → i ≠ 15 → i ≠ 16 → i ≠ 17 → σ' i = σ i) ∧ σ' 14 0 = σ 14 0 ∧ (∀ i, i ≠ 9 → τ' i = τ i) ∧ τ' 9 1 = n64 (sdq R a P) ∧ plX R nc (bst R G bar s e a P) σ') := by
  unfold fX4_make
  refine sp_bind (s_reset hR4.2 σ τ) ?_
  rintro _ σ1 τ1 ⟨rfl, f1, f2⟩
  dsimp only
  refine sp_bind (P := fun x σ' τ' => x = .inl () ∧ (∀ i, i ≠ 10 → i ≠ 11 → i ≠ 12 → i ≠ 14 → i ≠ 15 → i ≠ 16 → i ≠ 17 → σ' i = σ i) ∧ σ' 14 0 = σ 14 0 ∧ (∀ i, i ≠ 9 → τ' i = τ1 i) ∧ τ' 9 1 = n64 (sdq R a P) ∧ plX R nc (bst R G bar s e a P) σ') ?_ ?_
  · refine sp_for (fun p σ' τ' => (∀ i, i ≠ 10 → i ≠ 11 → i ≠ 12 → i ≠ 14 → i ≠ 15 → i ≠ 16 → i ≠ 17 → σ' i = σ i) ∧ σ' 14 0 = σ 14 0 ∧ (∀ i, i ≠ 9 → τ' i = τ1 i) ∧ τ' 9 1 = n64 (sdq R a (p - 1)) ∧ plX R nc (bsx R G bar s e a p) σ' ∧ (p = 0 → ∀ k, k < R → σ' 10 k = nI k)) 0 (P + 1) (Nat.zero_le _) (by omega) ⟨fun i h10 h11 h12 h14 h15 h16 h17 => f1 i h10, by rw [f1 14 (by decide)], fun _ _ => rfl, ht, plX_congr hp (f1 11 (by decide)) (f1 12 (by decide)), fun _ => f2⟩ ?_ ?_
    · rintro p σ3 τ3 - hpP ⟨k1, k2, k3, k4, k5, k6⟩
      dsimp only
      unfold sX4_make_9
      rw [if_neg (by rw [ni_lt (by omega) (by omega)]; omega)]
      cases p with
      | zero =>
        rw [if_pos (by decide)]
        have hC3 : txC R G bar s e σ3 := txC_congr hC (fun i hi => k1 i (by omega) (by omega) (by omega) (by omega) (by omega) (by omega) (by omega)) k2
        refine sp_mono (s_improve (P := P) (i := 0) (W := fun x σ' τ' => x = .inl () ∧ (∀ i, i ≠ 10 → i ≠ 11 → i ≠ 12 → i ≠ 14 → i ≠ 15 → i ≠ 16 → i ≠ 17 → σ' i = σ i) ∧ σ' 14 0 = σ 14 0 ∧ (∀ i, i ≠ 9 → τ' i = τ1 i) ∧ τ' 9 1 = n64 (sdq R a P) ∧ plX R nc (bst R G bar s e a P) σ') τ3 (b := none) hT (ptR_id R) hR4.2 hnc hC3 (k6 rfl) k5 (plOk_none R)) ?_
        rintro (v | x) σ5 τ5 hh
        · obtain ⟨rfl, rfl, n1, n2, n3⟩ := hh
          rw [pbet_none] at n3
          exact ⟨rfl, fun i h10 h11 h12 h14 h15 h16 h17 => by rw [n1 i h11 h12 h14 h15 h16 h17]; exact k1 i h10 h11 h12 h14 h15 h16 h17, by rw [n2]; exact k2, k3, k4, n3, fun q => absurd q (by omega)⟩
        · exact hh
      | succ p =>
        rw [if_neg (by rw [show (0 : Int32) = nI 0 from rfl, ni_le (by omega) (by decide)]; omega)]
        refine sp_bind (s_draw hR4 (sdq_lt ha p) k4) ?_
        rintro _ σ4 τ4 ⟨m1, m2, m3, m4⟩
        dsimp only
        have hC4 : txC R G bar s e σ4 := txC_congr hC (fun i hi => by rw [m1 i (by omega)]; exact k1 i (by omega) (by omega) (by omega) (by omega) (by omega) (by omega) (by omega)) (by rw [m1 14 (by decide)]; exact k2)
        refine sp_mono (s_improve (P := P) (i := p + 1) (W := fun x σ' τ' => x = .inl () ∧ (∀ i, i ≠ 10 → i ≠ 11 → i ≠ 12 → i ≠ 14 → i ≠ 15 → i ≠ 16 → i ≠ 17 → σ' i = σ i) ∧ σ' 14 0 = σ 14 0 ∧ (∀ i, i ≠ 9 → τ' i = τ1 i) ∧ τ' 9 1 = n64 (sdq R a P) ∧ plX R nc (bst R G bar s e a P) σ') τ4 (o := ord R a (p + 1)) hT (ord_ptR hR4.1 _) hR4.2 hnc hC4 m4 (plX_congr k5 (m1 11 (by decide)) (m1 12 (by decide))) (bst_ok hT hR4 p)) ?_
        rintro (v | x) σ5 τ5 hh
        · obtain ⟨rfl, rfl, n1, n2, n3⟩ := hh
          exact ⟨rfl, fun i h10 h11 h12 h14 h15 h16 h17 => by rw [n1 i h11 h12 h14 h15 h16 h17, m1 i h10]; exact k1 i h10 h11 h12 h14 h15 h16 h17, by rw [n2, m1 14 (by decide)]; exact k2, fun i hi => by rw [m2 i hi]; exact k3 i hi, m3, n3, fun q => absurd q (by omega)⟩
        · exact hh
    · rintro σ3 τ3 ⟨k1, k2, k3, k4, k5, -⟩
      dsimp only
      unfold sX4_make_9
      rw [if_pos (by rw [ni_lt (by omega) (by omega)]; omega)]
      exact sp_ret ⟨rfl, k1, k2, k3, k4, k5⟩
  · rintro x σ3 τ3 ⟨rfl, k⟩
    exact sp_ret k
end PZ
