-- the class's joint plan
section JX
variable {R nc nl : Nat} {G : gG} {bar : Bool} {E : jS} {σ : jp_I}
def jkL (R nl : Nat) (G : gG) (bar : Bool) (E : jS) (L : Nat → Option Nat) (lv : Nat) (σ : jp_I) : Prop := (∀ x, x < nl → σ 14 x = enc (L x)) ∧ (∀ x v, L x = some v → v < 10000) ∧ jkn R G bar E L lv
theorem jdec {s : jS} (h : jval R G s) (hn : jnl R nl) : nI (jix s) - nI (jix s) / 36 * 36 = nI s.1 ∧ nI (jix s) / 36 = nI s.2 := by
  have := jix_lt h hn
  have := jnl_lt hn
  have := jval_lt h
  constructor
  · rw [show (36 : Int32) = nI 36 from rfl, ni_mod (by omega) (by decide)]
    congr 1
    unfold jix
    omega
  · rw [show (36 : Int32) = nI 36 from rfl, ni_div (by omega) (by decide)]
    congr 1
    unfold jix
    omega
theorem s_keeps (τ : jp_J) (h : jxC R G bar E σ) (hn : jnl R nl) (he : E.1 < 36 ∧ E.2 < 36) {L : Nat → Option Nat} {lv v i j : Nat} (hk : jkL R nl G bar E L lv σ) {s s' : jS} (hs : jval R G s) (hl : lst R G bar E v s) (hv : v < lv) (hm : jmv R G bar i j s s') :
    sp (fX1_keeps R nc nl (nI (jix s)) (nI s'.1) (nI s'.2) σ τ) (fun r σ' τ' => σ' = σ ∧ τ' = τ ∧ ((r = 1 ∧ jgd R G bar E i j s s') ∨ (r = 0 ∧ ¬ jgd R G bar E i j s s'))) := by
  have hs' := jmv_val hs hm
  have hx := jix_lt hs hn
  have hx' := jix_lt hs' hn
  have hnl := jnl_lt hn
  have hd := jdec hs hn
  have a1 := jval_lt hs
  have a2 := jval_lt hs'
  unfold fX1_keeps
  rw [show nI s'.1 + 36 * nI s'.2 = nI (jix s') from by rw [show (36 : Int32) = nI 36 from rfl, ni_mul, ni_add]; rfl]
  refine sp_seq (s_readi 14 σ τ (by omega) hx') ?_
  dsimp only
  rw [hk.1 _ hx']
  cases e : L (jix s') with
  | none =>
    rw [if_pos (show enc none = -1 from rfl)]
    refine sp_ret ⟨rfl, rfl, Or.inr ⟨rfl, ?_⟩⟩
    rintro ⟨-, v', u, g1, g2, g3⟩
    have := lst_uniq g1 hl
    have := (hk.2.2 s' u hs').mpr ⟨g2, by omega⟩
    rw [e] at this
    cases this
  | some u =>
    have hu := hk.2.1 _ u e
    have hlu := ((hk.2.2 s' u hs').mp e).1
    rw [if_neg (show ¬ enc (some u) = -1 from ni_neg (by omega)), hd.1, hd.2]
    refine sp_seq (s_stepCost τ h a1.1 a1.2 a2.1 a2.2 he.1 he.2) ?_
    dsimp only
    refine sp_seq (s_readi 14 σ τ (by omega) hx) ?_
    dsimp only
    have hLs := (hk.2.2 s v hs).mpr ⟨hl, hv⟩
    have hv1 := hk.2.1 _ v hLs
    have hp := pay_le (E := E) s s'
    rw [hk.1 _ hx, hLs, show enc (some u) = nI u from rfl, show enc (some v) = nI v from rfl, ni_add]
    refine sp_if (fun z => ?_) (fun z => ?_)
    · rw [ni_inj (by omega) (by omega)] at z
      exact sp_ret ⟨rfl, rfl, Or.inl ⟨rfl, hm, v, u, hl, hlu, by omega⟩⟩
    · rw [ni_inj (by omega) (by omega)] at z
      refine sp_ret ⟨rfl, rfl, Or.inr ⟨rfl, ?_⟩⟩
      rintro ⟨-, v', u', g1, g2, g3⟩
      have := lst_uniq g1 hl
      have := lst_uniq g2 hlu
      omega
theorem s_follow (τ : jp_J) (h : jxC R G bar E σ) (hR : 1 ≤ R ∧ R ≤ 2) (hn : jnl R nl) (he : E.1 < 36 ∧ E.2 < 36) {L : Nat → Option Nat} {lv v : Nat} (hk : jkL R nl G bar E L lv σ) {s : jS} (hs : jval R G s) (hl : lst R G bar E v s) (hv : v < lv) (hne : s ≠ E) :
    sp (fX1_follow R nc nl (nI (jix s)) σ τ) (fun r σ' τ' => σ' = σ ∧ τ' = τ ∧ ∃ s', jfs R G bar E s s' ∧ r = nI (jix s')) := by
  have hd := jdec hs hn
  have a1 := jval_lt hs
  unfold fX1_follow
  rw [hd.1, hd.2]
  refine sp_bind (P := fun e σ' τ' => σ' = σ ∧ τ' = τ ∧ ∃ s', jfs R G bar E s s' ∧ e = .inr (nI (jix s'))) ?_ ?_
  · refine sp_for (fun i σ' τ' => σ' = σ ∧ τ' = τ ∧ ∀ i' j' s', i' < i → j' < 5 → ¬ jgd R G bar E i' j' s s') 0 5 (by decide) (by decide) ⟨rfl, rfl, fun i' _ _ hi' => absurd hi' (Nat.not_lt_zero _)⟩ ?_ ?_
    · rintro i σ1 τ1 - hi ⟨rfl, rfl, hno⟩
      dsimp only
      unfold sX1_follow_13
      rw [show (5 : Int32) = nI 5 from rfl, if_neg (by rw [ni_le (by decide) (by omega)]; omega)]
      refine sp_seq (s_next0 τ1 h hR hs.1 hi) ?_
      dsimp only
      refine sp_bind (P := fun e σ' τ' => σ' = σ1 ∧ τ' = τ1 ∧ ((e = .inl () ∧ ∀ j' s', j' < 5 → ¬ jgd R G bar E i j' s s') ∨ ∃ s', jfs R G bar E s s' ∧ e = .inr (nI (jix s')))) ?_ ?_
      · cases eM : mvc G s.1 i with
        | none =>
          refine sp_loopF (fun v σ' τ' m => σ' = σ1 ∧ τ' = τ1) 0 ⟨rfl, rfl⟩ (by decide) ?_
          rintro v σ' τ' m ⟨rfl, rfl⟩
          dsimp only
          unfold sX1_follow_32
          have fin : sp (some ((Sum.inr (Sum.inl ()) : Sum Int32 (Sum Unit Int32)), σ', τ')) (sp_R (fun (v : Int32) σ'' τ'' m => σ'' = σ' ∧ τ'' = τ') m (fun e σ'' τ'' => σ'' = σ' ∧ τ'' = τ' ∧ ((e = .inl () ∧ ∀ j' s', j' < 5 → ¬ jgd R G bar E i j' s s') ∨ ∃ s', jfs R G bar E s s' ∧ e = .inr (nI (jix s'))))) := by
            refine sp_ret ⟨rfl, rfl, Or.inl ⟨rfl, fun j' s' _ g => ?_⟩⟩
            have := g.1.1
            rw [eM] at this
            cases this
          exact sp_if (fun _ => fin) (fun _ => by rw [if_pos (show enc none = -1 from rfl)]; exact fin)
        | some c =>
          have hc36 := opn_lt (mvc_opn eM)
          show sp (jp_loop (fun q => sX1_follow_32 R nc nl (nI (jix s)) (nI s.1) (nI s.2) (nI i) (nI c) q.1 q.2.1 q.2.2) jp_F (nI 0, σ1, τ1)) _
          refine sp_for (fun j σ' τ' => σ' = σ1 ∧ τ' = τ1 ∧ ∀ j' s', j' < j → ¬ jgd R G bar E i j' s s') 0 5 (by decide) (by decide) ⟨rfl, rfl, fun j' _ hj' => absurd hj' (Nat.not_lt_zero _)⟩ ?_ ?_
          · rintro j σ2 τ2 - hj ⟨rfl, rfl, hnoj⟩
            dsimp only
            unfold sX1_follow_32
            rw [show (5 : Int32) = nI 5 from rfl, if_neg (by rw [ni_le (by decide) (by omega)]; omega), if_neg (ni_neg (by omega))]
            refine sp_seq (s_next1 τ2 h hR (fun q => (hs.2.1 q).1) hj) ?_
            dsimp only
            have next : (∀ s', ¬ jgd R G bar E i j s s') → sp (bX1_follow_94_in32 R nc nl (nI (jix s)) (nI s.1) (nI s.2) (nI i) (nI c) (nI j) σ2 τ2) (sp_S (fun v σ' τ' => v = nI (j + 1) ∧ σ' = σ2 ∧ τ' = τ2 ∧ ∀ j' s', j' < j + 1 → ¬ jgd R G bar E i j' s s') (fun e σ' τ' => σ' = σ2 ∧ τ' = τ2 ∧ ((e = .inl () ∧ ∀ j' s', j' < 5 → ¬ jgd R G bar E i j' s s') ∨ ∃ s', jfs R G bar E s s' ∧ e = .inr (nI (jix s'))))) := by
              intro g
              unfold bX1_follow_94_in32
              refine sp_ret ⟨by rw [← ni_add]; rfl, rfl, rfl, fun j' s' hj' => ?_⟩
              by_cases z : j' = j
              · rw [z]; exact g s'
              · exact hnoj j' s' (by omega)
            cases eN : nx1 R G s.2 j with
            | none =>
              rw [if_pos (show enc none = -1 from rfl)]
              refine next (fun s' g => ?_)
              have := g.1.2.1
              rw [eN] at this
              cases this
            | some d =>
              have hd36 : d < 36 := by
                unfold nx1 at eN
                by_cases z : R = 2
                · rw [if_pos z] at eN
                  exact opn_lt (mvc_opn eN)
                · rw [if_neg z] at eN
                  by_cases y : j = 0
                  · rw [if_pos y] at eN; cases eN; exact a1.2
                  · rw [if_neg y] at eN; cases eN
              rw [if_neg (show ¬ enc (some d) = -1 from ni_neg (by omega)), show enc (some d) = nI d from rfl]
              have same : ∀ s', jmv R G bar i j s s' → s' = (c, d) := fun s' h1 => by
                have h2 := h1.1
                have h3 := h1.2.1
                rw [eM] at h2
                rw [eN] at h3
                exact Prod.ext (Option.some.inj h2).symm (Option.some.inj h3).symm
              refine sp_bind (s_fits τ2 h hR a1.1 a1.2 hc36 hd36) ?_
              rintro r σ3 τ3 ⟨rfl, rfl, ⟨rfl, g⟩ | ⟨rfl, g⟩⟩
              · dsimp only
                rw [if_neg (by decide)]
                have hmv : jmv R G bar i j s (c, d) := ⟨eM, eN, g⟩
                show sp ((fX1_keeps R nc nl (nI (jix s)) (nI (c, d).1) (nI (c, d).2) σ3 τ3).bind _) _
                refine sp_bind (s_keeps (s' := (c, d)) τ3 h hn he hk hs hl hv hmv) ?_
                rintro r σ4 τ4 ⟨rfl, rfl, ⟨rfl, g2⟩ | ⟨rfl, g2⟩⟩
                · dsimp only
                  rw [if_neg (by decide), show nI c + 36 * nI d = nI (jix (c, d)) from by rw [show (36 : Int32) = nI 36 from rfl, ni_mul, ni_add]; rfl]
                  refine sp_ret ⟨rfl, rfl, Or.inr ⟨(c, d), ⟨i, j, hi, hj, g2, fun i' j' s'' hi' hj' hlt => ?_⟩, rfl⟩⟩
                  by_cases z : i' = i
                  · rw [z]; exact hnoj j' s'' (by omega)
                  · exact hno i' j' s'' (by omega) hj'
                · dsimp only
                  rw [if_pos rfl]
                  refine next (fun s' g3 => ?_)
                  rw [same s' g3.1] at g3
                  exact g2 g3
              · dsimp only
                rw [if_pos rfl]
                refine next (fun s' g3 => ?_)
                have := g3.1.2.2
                rw [same s' g3.1] at this
                exact g this
          · rintro σ2 τ2 ⟨rfl, rfl, hnoj⟩
            dsimp only
            unfold sX1_follow_32
            rw [if_pos (by decide)]
            exact sp_ret ⟨rfl, rfl, Or.inl ⟨rfl, fun j' s' hj' => hnoj j' s' hj'⟩⟩
      · rintro e σ2 τ2 ⟨rfl, rfl, ⟨rfl, g⟩ | ⟨s', g, rfl⟩⟩
        · dsimp only
          unfold bX1_follow_100_in13
          refine sp_ret ⟨by rw [← ni_add]; rfl, rfl, rfl, fun i' j' s' hi' hj' => ?_⟩
          by_cases z : i' = i
          · rw [z]; exact g j' s' hj'
          · exact hno i' j' s' (by omega) hj'
        · exact sp_ret ⟨rfl, rfl, s', g, rfl⟩
    · rintro σ1 τ1 ⟨rfl, rfl, hno⟩
      obtain ⟨s', u, ⟨i, j, hi, hj, hmv⟩, g2, g3, -⟩ := lst_next hl hne
      exact absurd ⟨hmv, v, u, hl, g2, g3⟩ (hno i j s' hi hj)
  · rintro e σ1 τ1 ⟨rfl, rfl, s', g, rfl⟩
    exact sp_ret ⟨rfl, rfl, s', g, rfl⟩
def jpos (s : jS) (r : Nat) : Nat := if r = 0 then s.1 else s.2
theorem s_note (τ : jp_J) (h13 : σ 13 1 = nI R) (h11 : σ 11 0 = nI R) (hR : 1 ≤ R ∧ R ≤ 2) (hn : jnl R nl) {k : Nat} (hnc : (k + 1) * R ≤ nc) (hnc2 : nc < 100000) {s : jS} (hs : jval R G s) :
    sp (fX1_note R nc nl (nI k) (nI (jix s)) σ τ) (fun _ σ' τ' => τ' = τ ∧ (∀ i, i ≠ 12 → σ' i = σ i) ∧ (∀ r, r < R → σ' 12 (k * R + r) = nI (jpos s r)) ∧ ∀ x, x < k * R → σ' 12 x = σ 12 x) := by
  have hd := jdec hs hn
  have hkR : (k + 1) * R = k * R + R := by rw [Nat.add_mul, Nat.one_mul]
  unfold fX1_note
  rw [h13, show (0 : Int32) = nI 0 from rfl, if_neg (by rw [ni_le (by omega) (by decide)]; omega), hd.1]
  unfold fX2_put
  rw [h11, ni_mul, ni_add]
  refine sp_bind (P := fun _ σ1 τ1 => σ1 = jp_up σ 12 (k * R + 0) (nI s.1) ∧ τ1 = τ) ?_ ?_
  · refine sp_seq (s_write 12 _ _ _ (by omega) (show k * R + 0 < nc by omega)) ?_
    exact sp_ret ⟨rfl, rfl⟩
  · rintro r σ1 τ1 ⟨rfl, rfl⟩
    dsimp only
    unfold bX1_note_17
    rw [jp_up_n _ _ (by decide), h13, show (1 : Int32) = nI 1 from rfl]
    refine sp_if (fun z => ?_) (fun z => ?_)
    · rw [ni_le (by omega) (by decide)] at z
      refine sp_ret ⟨rfl, fun i hi => jp_up_n _ _ hi, fun r hr => ?_, fun x hx => jp_up_ne _ _ _ (by omega)⟩
      rw [show r = 0 by omega, jp_up_eq]; rfl
    · rw [ni_le (by omega) (by decide)] at z
      unfold fX2_put
      rw [jp_up_n _ _ (by decide), h11, ni_mul, ni_add, hd.2]
      refine sp_bind (P := fun _ σ2 τ2 => σ2 = jp_up (jp_up σ 12 (k * R + 0) (nI s.1)) 12 (k * R + 1) (nI s.2) ∧ τ2 = τ1) ?_ ?_
      · refine sp_seq (s_write 12 _ _ _ (by omega) (show k * R + 1 < nc by omega)) ?_
        exact sp_ret ⟨rfl, rfl⟩
      · rintro r σ2 τ2 ⟨rfl, rfl⟩
        refine sp_ret ⟨rfl, fun i hi => by rw [jp_up_n _ _ hi, jp_up_n _ _ hi], fun r hr => ?_, fun x hx => by rw [jp_up_ne _ _ _ (by omega), jp_up_ne _ _ _ (by omega)]⟩
        by_cases y : r = 0
        · rw [y, jp_up_ne _ _ _ (by omega), jp_up_eq]; rfl
        · rw [show r = 1 by omega, jp_up_eq]; rfl
/-- how dear a least cost can be -/
def jbd (R v : Nat) : Prop := (R = 2 → v ≤ 399) ∧ (R ≠ 2 → v ≤ 35)
theorem jfs_next {s s' : jS} {v : Nat} (hs : jval R G s) (hl : lst R G bar E v s) (hne : s ≠ E) (h : jfs R G bar E s s') : jval R G s' ∧ ∃ u, lst R G bar E u s' ∧ u + 1 ≤ v := by
  obtain ⟨i, j, hi, hj, ⟨hm, v', u, g1, g2, g3⟩, -⟩ := h
  refine ⟨jmv_val hs hm, u, g2, ?_⟩
  have := lst_uniq g1 hl
  have : pay E s s' ≠ 0 := fun z => hne (pay_0 z).1
  omega
theorem s_most (hR : 1 ≤ R ∧ R ≤ 2) (τ : jp_J) : fX7_mostSteps (nI R) σ τ = some (nI (if R = 2 then 1295 else 35), σ, τ) := by
  rcases (show R = 1 ∨ R = 2 by omega) with rfl | rfl
  · rfl
  · rfl
theorem s_walk (τ : jp_J) (h : jxC R G bar E σ) (hR : 1 ≤ R ∧ R ≤ 2) (hn : jnl R nl) (hE : jval R G E) (h11 : σ 11 0 = nI R) (hnc : nc = R * nl) {L : Nat → Option Nat} {lv v : Nat} (hk : jkL R nl G bar E L lv σ) {s0 : jS} (hs : jval R G s0) (hl : lst R G bar E v s0) (hv : v < lv) (hb : jbd R v) :
    sp (fX1_walk R nc nl (nI (jix s0)) σ τ) (fun r σ' τ' => τ' = τ ∧ (∀ i, i ≠ 12 → σ' i = σ i) ∧ ∃ (t : Nat) (p : Nat → jS), jpl R G bar E s0 t p ∧ t ≤ v ∧ r = nI t ∧ (t + 1) * R ≤ nc ∧ ∀ r k, r < R → k ≤ t → σ' 12 (k * R + r) = nI (jpos (p k) r)) := by
  have he := jval_lt hE
  have hnl := jnl_lt hn
  have room : ∀ k, k ≤ v → (k + 1) * R ≤ nc := by
    intro k hkv
    rw [hnc]
    rcases (show R = 1 ∨ R = 2 by omega) with rfl | rfl
    · have := hb.2 (by decide)
      rw [hn.2 (by decide)]; omega
    · have := hb.1 rfl
      rw [hn.1 rfl]; omega
  have hnc2 : nc < 100000 := by
    rw [hnc]
    rcases (show R = 1 ∨ R = 2 by omega) with rfl | rfl
    · rw [hn.2 (by decide)]; decide
    · rw [hn.1 rfl]; decide
  have cong : ∀ σ', (∀ i, i ≠ 12 → σ' i = σ i) → jxC R G bar E σ' ∧ jkL R nl G bar E L lv σ' ∧ σ' 11 0 = nI R := by
    intro σ' hf
    obtain ⟨c1, c2, c3, c4, c5⟩ := h
    exact ⟨⟨chX_congr c1 (hf 6 (by decide)), by rw [hf 13 (by decide)]; exact c2, by rw [hf 1 (by decide)]; exact c3, by rw [hf 13 (by decide)]; exact c4, by rw [hf 13 (by decide)]; exact c5⟩, ⟨fun x hx => by rw [hf 14 (by decide)]; exact hk.1 x hx, hk.2⟩, by rw [hf 11 (by decide)]; exact h11⟩
  unfold fX1_walk
  refine sp_bind (show sp (fX1_note R nc nl (nI 0) (nI (jix s0)) σ τ) _ from s_note τ h.2.1 h11 hR hn (room 0 (Nat.zero_le _)) hnc2 hs) ?_
  rintro r σ1 τ1 ⟨rfl, f1, f2, -⟩
  dsimp only
  refine sp_bind (P := fun e σ' τ' => τ' = τ1 ∧ (∀ i, i ≠ 12 → σ' i = σ i) ∧ ∃ (t : Nat) (p : Nat → jS), jpl R G bar E s0 t p ∧ t ≤ v ∧ e = .inl (nI t) ∧ (t + 1) * R ≤ nc ∧ ∀ r k, r < R → k ≤ t → σ' 12 (k * R + r) = nI (jpos (p k) r)) ?_ ?_
  · refine sp_loopF (fun x σ' τ' m => ∃ (k u : Nat) (p : Nat → jS), x = (nI (jix (p k)), nI k) ∧ m = u ∧ τ' = τ1 ∧ (∀ i, i ≠ 12 → σ' i = σ i) ∧ p 0 = s0 ∧ jval R G (p k) ∧ lst R G bar E u (p k) ∧ u + k ≤ v ∧ (∀ i, i < k → p i ≠ E ∧ jfs R G bar E (p i) (p (i + 1))) ∧ ∀ r i, r < R → i ≤ k → σ' 12 (i * R + r) = nI (jpos (p i) r)) v ⟨0, v, fun _ => s0, rfl, rfl, rfl, f1, rfl, hs, hl, by omega, fun i hi => absurd hi (Nat.not_lt_zero _), fun r i hr hi => by rw [show i = 0 by omega]; exact f2 r hr⟩ (by have h1 := hb.1; have h2 := hb.2; by_cases q : R = 2 <;> omega) ?_
    rintro x σ2 τ2 m ⟨k, u, p, rfl, rfl, rfl, g1, g2, g3, g4, g5, g6, g7⟩
    obtain ⟨c1, c2, c3⟩ := cong σ2 g1
    dsimp only
    unfold sX1_walk_12
    have hvb : v ≤ 399 := by have h1 := hb.1; have h2 := hb.2; by_cases q : R = 2 <;> omega
    have fin : m = 0 → sp (some ((Sum.inr (Sum.inl (nI k)) : Sum (Int32 × Int32) (Sum Int32 Int32)), σ2, τ2)) (sp_R (fun (x : Int32 × Int32) σ' τ' m => ∃ (k u : Nat) (p : Nat → jS), x = (nI (jix (p k)), nI k) ∧ m = u ∧ τ' = τ2 ∧ (∀ i, i ≠ 12 → σ' i = σ i) ∧ p 0 = s0 ∧ jval R G (p k) ∧ lst R G bar E u (p k) ∧ u + k ≤ v ∧ (∀ i, i < k → p i ≠ E ∧ jfs R G bar E (p i) (p (i + 1))) ∧ ∀ r i, r < R → i ≤ k → σ' 12 (i * R + r) = nI (jpos (p i) r)) m (fun e σ' τ' => τ' = τ2 ∧ (∀ i, i ≠ 12 → σ' i = σ i) ∧ ∃ (t : Nat) (p : Nat → jS), jpl R G bar E s0 t p ∧ t ≤ v ∧ e = .inl (nI t) ∧ (t + 1) * R ≤ nc ∧ ∀ r k, r < R → k ≤ t → σ' 12 (k * R + r) = nI (jpos (p k) r))) := by
      intro hm
      rw [hm] at g4
      exact sp_ret ⟨rfl, g1, k, p, ⟨g2, lst_0 g4, g6⟩, by omega, rfl, room k (by omega), g7⟩
    rw [c1.2.1]
    refine sp_seq (s_most hR τ2) ?_
    dsimp only
    refine sp_if (fun z => ?_) (fun z => ?_)
    · rw [ni_le (by split <;> omega) (by omega)] at z
      apply fin
      by_cases q : R = 2
      · rw [if_pos q] at z; omega
      · rw [if_neg q] at z
        have := hb.2 q
        omega
    · have hx := jix_lt g3 hn
      refine sp_seq (s_readi 14 σ2 τ2 (by omega) hx) ?_
      dsimp only
      rw [c2.1 _ hx, (hk.2.2 (p k) m g3).mpr ⟨g4, by omega⟩, show enc (some m) = nI m from rfl, show (0 : Int32) = nI 0 from rfl]
      refine sp_if (fun y => ?_) (fun y => ?_)
      · rw [ni_le (by omega) (by decide)] at y
        exact fin (by omega)
      · rw [ni_le (by omega) (by decide)] at y
        have hne : p k ≠ E := by
          intro w
          rw [w] at g4
          have := lst_uniq g4 lst_E
          omega
        refine sp_bind (s_follow τ2 c1 hR hn he c2 g3 g4 (by omega) hne) ?_
        rintro r σ3 τ3 ⟨rfl, rfl, s', g8, rfl⟩
        dsimp only
        obtain ⟨hs', u', hu', hlt⟩ := jfs_next g3 g4 hne g8
        rw [show nI k + 1 = nI (k + 1) from by rw [← ni_add]; rfl]
        refine sp_bind (s_note τ3 c1.2.1 c3 hR hn (room (k + 1) (by omega)) hnc2 hs') ?_
        rintro r σ4 τ4 ⟨rfl, n1, n2, n3⟩
        dsimp only
        refine sp_ret ⟨u', by omega, k + 1, u', fup p (k + 1) s', by rw [fup_s], rfl, rfl, fun i hi => by rw [n1 i hi]; exact g1 i hi, by rw [fup_n _ _ (by omega)]; exact g2, by rw [fup_s]; exact hs', by rw [fup_s]; exact hu', by omega, fun i hi => ?_, fun r i hr hi => ?_⟩
        · by_cases w : i = k
          · rw [w, fup_n _ _ (by omega), fup_s]
            exact ⟨hne, g8⟩
          · rw [fup_n _ _ (by omega), fup_n _ _ (by omega)]
            exact g6 i (by omega)
        · by_cases w : i = k + 1
          · rw [w, fup_s]; exact n2 r hr
          · rw [fup_n _ _ w, n3 _ ?_]
            · exact g7 r i hr (by omega)
            · have : (i + 1) * R ≤ (k + 1) * R := Nat.mul_le_mul_right R (by omega)
              have : (i + 1) * R = i * R + R := by rw [Nat.add_mul, Nat.one_mul]
              omega
  · rintro e σ2 τ2 ⟨rfl, g1, t, p, g2, g3, rfl, g4⟩
    exact sp_ret ⟨rfl, g1, t, p, g2, g3, rfl, g4⟩
end JX
