-- the class's ways, one order
theorem ix_lt {R t r : Nat} (ht : t ≤ 40) (hr : r < R) : t * R + r < 41 * R := by
  have := Nat.mul_le_mul_right R ht
  omega
theorem ix_inj {R t r t' r' : Nat} (hr : r < R) (hr' : r' < R) (q : t * R + r = t' * R + r') : t = t' ∧ r = r' := by
  have h0 : 0 < R := by omega
  have h1 : (t * R + r) / R = t := by rw [Nat.mul_comm, Nat.mul_add_div h0, Nat.div_eq_of_lt hr, Nat.add_zero]
  have h2 : (t' * R + r') / R = t' := by rw [Nat.mul_comm, Nat.mul_add_div h0, Nat.div_eq_of_lt hr', Nat.add_zero]
  have h3 : t = t' := by rw [← h1, ← h2, q]
  subst h3
  exact ⟨rfl, by omega⟩
section PY
variable {R nc k : Nat} {G : gG} {bar : Bool} {F : Nat → Nat → Nat} {o s e : Nat → Nat} {σ : jp_I}
theorem s_put (τ : jp_J) {r t : Nat} (v : Int32) (h14 : σ 14 0 = nI R) (hR4 : R ≤ 4) (hnc : nc = 41 * R) (ht : t ≤ 40) (hr : r < R) : fX2_put 14 15 nc (nI r) (nI t) v σ τ = some (0, jp_up σ 15 (t * R + r) v, τ) := by
  have := ix_lt ht hr
  unfold fX2_put
  rw [h14, ni_mul, ni_add, s_write 15 v σ τ (by omega) (by omega), Option.bind_some]
theorem s_cellT (τ : jp_J) {r t : Nat} (h14 : σ 14 0 = nI R) (hR4 : R ≤ 4) (hnc : nc = 41 * R) (ht : t ≤ 40) (hr : r < R) : fX2_cellOf 14 15 nc (nI r) (nI t) σ τ = some (σ 15 (t * R + r), σ, τ) := by
  have := ix_lt ht hr
  unfold fX2_cellOf
  rw [h14, ni_mul, ni_add, s_readi 15 σ τ (by omega) (by omega), Option.bind_some]
theorem s_occupy (τ : jp_J) {r : Nat} {p : Nat → Nat} (h14 : σ 14 0 = nI R) (hR4 : R ≤ 4) (hnc : nc = 41 * R) (hr : r < R) (hp : ∀ t, t ≤ 40 → p t < 36 ∧ σ 15 (t * R + r) = nI (p t)) : sp (fX4_occupy R nc (nI r) σ τ) (fun _ σ' τ' => τ' = τ ∧ (∀ i, i ≠ 17 → σ' i = σ i) ∧ ∀ t c, t ≤ 40 → c < 36 → σ' 17 (t * 36 + c) = if c = p t then nI r else σ 17 (t * 36 + c)) := by
  unfold fX4_occupy
  refine sp_bind (P := fun x σ' τ' => x = .inl () ∧ τ' = τ ∧ (∀ i, i ≠ 17 → σ' i = σ i) ∧ ∀ t c, t ≤ 40 → c < 36 → σ' 17 (t * 36 + c) = if c = p t then nI r else σ 17 (t * 36 + c)) ?_ ?_
  · refine sp_for (fun u σ' τ' => τ' = τ ∧ (∀ i, i ≠ 17 → σ' i = σ i) ∧ (∀ t c, t < u → c < 36 → σ' 17 (t * 36 + c) = if c = p t then nI r else σ 17 (t * 36 + c)) ∧ ∀ t c, u ≤ t → c < 36 → σ' 17 (t * 36 + c) = σ 17 (t * 36 + c)) 0 41 (by decide) (by decide) ⟨rfl, fun _ _ => rfl, fun t c h => absurd h (Nat.not_lt_zero _), fun _ _ _ _ => rfl⟩ ?_ ?_
    · rintro u σ1 τ1 - hu ⟨rfl, f1, f2, f3⟩
      dsimp only
      unfold sX4_occupy_2
      obtain ⟨hp1, hp2⟩ := hp u (by omega)
      rw [if_neg (by rw [show (40 : Int32) = nI 40 from rfl, ni_lt (by decide) (by omega)]; omega), s_cellT τ1 (by rw [f1 14 (by decide)]; exact h14) hR4 hnc (by omega) hr, Option.bind_some, f1 15 (by decide), hp2]
      dsimp only
      rw [show (36 : Int32) = nI 36 from rfl, ni_mul, ni_add, s_write 17 _ σ1 τ1 (by decide) (show u * 36 + p u < 1476 by omega), Option.bind_some]
      dsimp only
      refine sp_ret ⟨by rw [← ni_add]; rfl, rfl, fun i hi => by rw [jp_up_n _ _ hi]; exact f1 i hi, fun t c ht hc => ?_, fun t c ht hc => ?_⟩
      · by_cases q : t = u
        · subst q
          by_cases w : c = p t
          · rw [w, jp_up_eq, if_pos rfl]
          · rw [jp_up_ne _ _ _ (by omega), if_neg w]
            exact f3 t c (Nat.le_refl _) hc
        · rw [jp_up_ne _ _ _ (by omega)]
          exact f2 t c (by omega) hc
      · rw [jp_up_ne _ _ _ (by omega)]
        exact f3 t c (by omega) hc
    · rintro σ1 τ1 ⟨rfl, f1, f2, f3⟩
      dsimp only
      unfold sX4_occupy_2
      rw [if_pos (by decide)]
      exact sp_ret ⟨rfl, rfl, f1, fun t c ht hc => f2 t c (by omega) hc⟩
  · rintro x σ1 τ1 ⟨rfl, f⟩
    exact sp_ret f
def txC (R : Nat) (G : gG) (bar : Bool) (s e : Nat → Nat) (σ : jp_I) : Prop := σ 14 0 = nI R ∧ chX G σ ∧ σ 1 4 = bI bar ∧ σ 1 0 = nI R ∧ (∀ r, r < R → σ 3 r = nI (s r)) ∧ ∀ r, r < R → σ 4 r = nI (e r)
theorem txC_congr {σ' : jp_I} (h : txC R G bar s e σ) (hf : ∀ i, i < 10 → σ' i = σ i) (h14 : σ' 14 0 = σ 14 0) : txC R G bar s e σ' := by
  obtain ⟨a1, a2, a3, a4, a5, a6⟩ := h
  exact ⟨by rw [h14]; exact a1, chX_congr a2 (hf 6 (by decide)), by rw [hf 1 (by decide)]; exact a3, by rw [hf 1 (by decide)]; exact a4, fun r hr => by rw [hf 3 (by decide)]; exact a5 r hr, fun r hr => by rw [hf 4 (by decide)]; exact a6 r hr⟩
def txS (R : Nat) (F : Nat → Nat → Nat) (o : Nat → Nat) (k : Nat) (σ : jp_I) : Prop := tkX F o k σ ∧ ∀ x t, x < k → t ≤ 40 → σ 15 (t * R + o x) = nI (F (o x) t)
theorem tkn_start (hT : ptT R G s e) (hR : ptR R o) (hk : k < R) (hI : ptI G s e o k F) : tkn F o k 0 (s (o k)) = false := by
  cases z : tkn F o k 0 (s (o k)) with
  | false => rfl
  | true =>
    obtain ⟨x, hx, h1⟩ := tkn_iff.mp z
    rw [(hI.1 x hx).1] at h1
    have := hR.2.1 x k (by omega) hk (hT.2.1 _ _ (hR.1 x (by omega)) (hR.1 k hk) h1)
    omega
theorem pP_free {v : Nat} (hT : ptT R G s e) (hR : ptR R o) (hk : k < R) (hI : ptI G s e o k F) (hv : pW G (e (o k)) (opx bar F o k) 0 (s (o k)) = some v) : ∀ t, t ≤ 40 → tkn F o k t (pP G (e (o k)) (opx bar F o k) (s (o k)) t) = false
  | 0, _ => tkn_start hT hR hk hI
  | t + 1, ht => opx_free (pP_op hv (by omega))
theorem pnew_old (hR : ptR R o) (hk : k < R) {x : Nat} (hx : x < k) (t : Nat) : pnew G bar s e o k F (o x) t = F (o x) t := by
  unfold pnew
  rw [if_neg]
  intro q
  have := hR.2.1 x k (by omega) hk q
  omega
theorem pnew_new (t : Nat) : pnew G bar s e o k F (o k) t = pP G (e (o k)) (opx bar F o k) (s (o k)) t := by
  unfold pnew
  rw [if_pos rfl]
theorem mkR_congr {g t : Nat} {σ' : jp_I} (h : mkR G g bar F o k t σ) (e16 : σ' 16 = σ 16) : mkR G g bar F o k t σ' := fun c hc => by rw [e16]; exact h c hc
theorem s_walkP (τ : jp_J) {v : Nat} (hT : ptT R G s e) (hR : ptR R o) (hR4 : R ≤ 4) (hnc : nc = 41 * R) (hk : k < R) (h14 : σ 14 0 = nI R) (hpx : pxC G bar F o k σ) (f2 : ∀ t, t ≤ 40 → mkR G (e (o k)) bar F o k t σ) (hI : ptI G s e o k F) (hv : pW G (e (o k)) (opx bar F o k) 0 (s (o k)) = some v) :
    sp (fX4_walk R nc (nI (o k)) (nI (s (o k))) (nI (e (o k))) σ τ) (fun _ σ' τ' => τ' = τ ∧ (∀ i, i ≠ 15 → σ' i = σ i) ∧ (∀ t, t ≤ 40 → σ' 15 (t * R + o k) = nI (pP G (e (o k)) (opx bar F o k) (s (o k)) t)) ∧ ∀ t r, r < R → r ≠ o k → σ' 15 (t * R + r) = σ 15 (t * R + r)) := by
  have hr := hR.1 k hk
  have hs := opn_lt (hT.1 _ hr).1
  have he := opn_lt (hT.1 _ hr).2
  have hv40 := pW_le hv
  have hfree := pP_free hT hR hk hI hv
  have hopn := pP_opn hv (hT.1 _ hr).1
  unfold fX4_walk
  rw [show fX2_put 14 15 nc (nI (o k)) 0 (nI (s (o k))) σ τ = _ from s_put (R := R) (t := 0) τ _ h14 hR4 hnc (by decide) hr, Option.bind_some]
  dsimp only
  have hpx1 : ∀ σ', (∀ i, i ≠ 15 → σ' i = σ i) → pxC G bar F o k σ' := fun σ' q => pxC_congr hpx (q 1 (by decide)) (q 6 (by decide)) (q 17 (by decide))
  refine sp_bind (P := fun x σ' τ' => x = .inl () ∧ τ' = τ ∧ (∀ i, i ≠ 15 → σ' i = σ i) ∧ (∀ t, t ≤ 40 → σ' 15 (t * R + o k) = nI (pP G (e (o k)) (opx bar F o k) (s (o k)) t)) ∧ ∀ t r, r < R → r ≠ o k → σ' 15 (t * R + r) = σ 15 (t * R + r)) ?_ ?_
  · refine sp_loopF (fun w σ' τ' m => ∃ t, t ≤ 40 ∧ m = 40 - t ∧ w = (nI (pP G (e (o k)) (opx bar F o k) (s (o k)) t), nI t) ∧ τ' = τ ∧ (∀ i, i ≠ 15 → σ' i = σ i) ∧ (∀ t', t' ≤ t → σ' 15 (t' * R + o k) = nI (pP G (e (o k)) (opx bar F o k) (s (o k)) t')) ∧ ∀ t' r, r < R → r ≠ o k → σ' 15 (t' * R + r) = σ 15 (t' * R + r)) 40 ⟨0, by decide, rfl, rfl, rfl, fun i hi => jp_up_n _ _ hi, fun t' ht' => ?_, fun t' r h1 h2 => ?_⟩ (by decide) ?_
    · rw [show t' = 0 by omega, jp_up_eq]
      rfl
    · rw [jp_up_ne]
      intro q
      exact h2 (ix_inj h1 hr q).2
    · rintro w σ2 τ2 m ⟨t, ht, rfl, rfl, rfl, g1, g2, g3⟩
      dsimp only
      unfold sX4_walk_17
      by_cases q : t = 40
      · subst q
        rw [if_pos (by decide)]
        exact sp_ret ⟨rfl, rfl, g1, g2, g3⟩
      · obtain ⟨u, hu⟩ := pP_spec hv t ht
        have g16 := g1 16 (by decide)
        rw [if_neg (by rw [show (40 : Int32) = nI 40 from rfl, ni_le (by decide) (by omega)]; omega), s_followP τ2 (hpx1 σ2 g1) (by omega) (opn_lt (hopn t ht)) he (mkR_congr (f2 t ht) g16) (mkR_congr (f2 (t + 1) (by omega)) g16) (hfree t ht) hu, Option.bind_some]
        dsimp only
        rw [show nI t + 1 = nI (t + 1) from ni_add t 1, s_put (R := R) τ2 _ (by rw [g1 14 (by decide)]; exact h14) hR4 hnc (by omega) hr, Option.bind_some]
        dsimp only
        refine sp_ret ⟨40 - (t + 1), by omega, t + 1, by omega, rfl, rfl, rfl, fun i hi => by rw [jp_up_n _ _ hi]; exact g1 i hi, fun t' ht' => ?_, fun t' r h1 h2 => ?_⟩
        · by_cases z : t' = t + 1
          · rw [z, jp_up_eq]; rfl
          · rw [jp_up_ne]
            · exact g2 t' (by omega)
            · intro y
              exact z (ix_inj hr hr y).1
        · rw [jp_up_ne]
          · exact g3 t' r h1 h2
          · intro y
            exact h2 (ix_inj h1 hr y).2
  · rintro x σ2 τ2 ⟨rfl, g⟩
    exact sp_ret g
/-- one way more -/
theorem txS_new {v : Nat} {σ1 σ2 σ3 : jp_I} (hT : ptT R G s e) (hR : ptR R o) (hk : k < R) (hS : txS R F o k σ) (hI : ptI G s e o k F) (hv : pW G (e (o k)) (opx bar F o k) 0 (s (o k)) = some v)
    (f1 : ∀ i, i ≠ 16 → σ1 i = σ i) (g1 : ∀ i, i ≠ 15 → σ2 i = σ1 i) (g2 : ∀ t, t ≤ 40 → σ2 15 (t * R + o k) = nI (pP G (e (o k)) (opx bar F o k) (s (o k)) t)) (g3 : ∀ t r, r < R → r ≠ o k → σ2 15 (t * R + r) = σ1 15 (t * R + r))
    (k1 : ∀ i, i ≠ 17 → σ3 i = σ2 i) (k2 : ∀ t c, t ≤ 40 → c < 36 → σ3 17 (t * 36 + c) = if c = pP G (e (o k)) (opx bar F o k) (s (o k)) t then nI (o k) else σ2 17 (t * 36 + c)) : txS R (pnew G bar s e o k F) o (k + 1) σ3 := by
  have hr := hR.1 k hk
  have hfree := pP_free hT hR hk hI hv
  have hopn := pP_opn hv (hT.1 _ hr).1
  refine ⟨⟨fun x t hx ht => ?_, fun t c ht hc z => ?_⟩, fun x t hx ht => ?_⟩
  · by_cases q : x = k
    · subst q
      rw [pnew_new, k2 t _ ht (opn_lt (hopn t ht)), if_pos rfl]
    · have hx' : x < k := by omega
      rw [pnew_old hR hk hx', k2 t _ ht (opn_lt ((hI.1 x hx').2.2 t ht)), if_neg, g1 17 (by decide), f1 17 (by decide)]
      · exact hS.1.1 x t hx' ht
      · intro y
        have := tkn_iff.mpr ⟨x, hx', y⟩
        rw [hfree t ht] at this
        cases this
  · have z1 := exB_not z (show k < k + 1 by omega)
    have z2 : c ≠ pP G (e (o k)) (opx bar F o k) (s (o k)) t := by
      intro y
      rw [pnew_new, ← y] at z1
      simp at z1
    rw [k2 t c ht hc, if_neg z2, g1 17 (by decide), f1 17 (by decide)]
    refine hS.1.2 t c ht hc ?_
    cases w : tkn F o k t c with
    | false => rfl
    | true =>
      obtain ⟨x, hx, h1⟩ := tkn_iff.mp w
      have := exB_not z (show x < k + 1 by omega)
      rw [pnew_old hR hk hx, h1] at this
      simp at this
  · rw [k1 15 (by decide)]
    by_cases q : x = k
    · subst q
      rw [pnew_new]
      exact g2 t ht
    · have hx' : x < k := by omega
      rw [pnew_old hR hk hx', g3 t (o x) (hR.1 x (by omega)) (fun y => q (hR.2.1 x k (by omega) hk y)), f1 15 (by decide)]
      exact hS.2 x t hx' ht
theorem s_allAtEnds (τ : jp_J) (hR4 : R ≤ 4) (hnc : nc = 41 * R) (hC : txC R G bar s e σ) (hF : ∀ r t, r < R → t ≤ 40 → F r t < 36 ∧ σ 15 (t * R + r) = nI (F r t)) (he : ∀ r, r < R → e r < 36) {x : Nat} (hx : x ≤ 40) : fX4_allAtEnds R nc (nI x) σ τ = some (bI (atE R e F x), σ, τ) := by
  obtain ⟨c1, c2, c3, c4, c5, c6⟩ := id hC
  apply sp_some
  unfold fX4_allAtEnds
  refine sp_bind (P := fun y σ' τ' => σ' = σ ∧ τ' = τ ∧ ((y = .inl () ∧ atE R e F x = true) ∨ (y = .inr 0 ∧ atE R e F x = false))) ?_ ?_
  · refine sp_for (fun q σ' τ' => σ' = σ ∧ τ' = τ ∧ ∀ r, r < q → F r x = e r) 0 R (Nat.zero_le _) (by omega) ⟨rfl, rfl, fun r h => absurd h (Nat.not_lt_zero _)⟩ ?_ ?_
    · rintro q σ' τ' - hq ⟨rfl, rfl, h1⟩
      dsimp only
      unfold sX4_allAtEnds_2
      rw [c4, if_neg (by rw [ni_le (by omega) (by omega)]; omega), s_cellT τ' c1 hR4 hnc hx hq, Option.bind_some, (hF q x hq hx).2]
      dsimp only
      rw [s_readi 4 σ' τ' (by omega) hq, Option.bind_some, c6 q hq]
      dsimp only
      have b1 := (hF q x hq hx).1
      have b2 := he q hq
      refine sp_if (fun z => ?_) (fun z => ?_)
      · rw [ni_inj (by omega) (by omega)] at z
        refine sp_ret ⟨by rw [← ni_add]; rfl, rfl, rfl, fun r hr => ?_⟩
        by_cases y : r = q
        · rw [y]; exact z
        · exact h1 r (by omega)
      · rw [ni_inj (by omega) (by omega)] at z
        refine sp_ret ⟨rfl, rfl, Or.inr ⟨rfl, ?_⟩⟩
        unfold atE
        rw [Bool.not_eq_false']
        exact exB_iff.mpr ⟨q, hq, by simp [z]⟩
    · rintro σ' τ' ⟨rfl, rfl, h1⟩
      dsimp only
      unfold sX4_allAtEnds_2
      rw [c4, if_pos (by rw [ni_le (by omega) (by omega)]; omega)]
      refine sp_ret ⟨rfl, rfl, Or.inl ⟨rfl, ?_⟩⟩
      unfold atE
      rw [Bool.not_eq_true']
      cases z : exB (fun r => !(F r x == e r)) R with
      | false => rfl
      | true =>
        obtain ⟨r, hr, h2⟩ := exB_iff.mp z
        rw [h1 r hr] at h2
        simp at h2
  · rintro y σ' τ' ⟨rfl, rfl, ⟨rfl, h1⟩ | ⟨rfl, h1⟩⟩
    · rw [h1]; exact sp_ret ⟨rfl, rfl, rfl⟩
    · rw [h1]; exact sp_ret ⟨rfl, rfl, rfl⟩
theorem s_stepsOfTrial (τ : jp_J) (hR4 : R ≤ 4) (hnc : nc = 41 * R) (hC : txC R G bar s e σ) (hF : ∀ r t, r < R → t ≤ 40 → F r t < 36 ∧ σ 15 (t * R + r) = nI (F r t)) (he : ∀ r, r < R → e r < 36) : fX4_stepsOfTrial R nc σ τ = some (nI (stn (atE R e F) 40), σ, τ) := by
  apply sp_some
  unfold fX4_stepsOfTrial
  refine sp_bind (P := fun y σ' τ' => y = .inl (nI (stn (atE R e F) 40)) ∧ σ' = σ ∧ τ' = τ) ?_ ?_
  · refine sp_loopF (fun w σ' τ' m => m ≤ 40 ∧ w = nI m ∧ σ' = σ ∧ τ' = τ ∧ stn (atE R e F) 40 = stn (atE R e F) m) 40 ⟨Nat.le_refl _, rfl, rfl, rfl, rfl⟩ (by decide) ?_
    rintro w σ' τ' m ⟨hm, rfl, rfl, rfl, h1⟩
    dsimp only
    unfold sX4_stepsOfTrial_3
    by_cases q : m = 0
    · subst q
      rw [if_pos (by decide)]
      exact sp_ret ⟨by rw [h1]; rfl, rfl, rfl⟩
    · obtain ⟨x, rfl⟩ : ∃ x, m = x + 1 := ⟨m - 1, by omega⟩
      have hst : stn (atE R e F) (x + 1) = if atE R e F x then stn (atE R e F) x else x + 1 := rfl
      rw [if_neg (by rw [show (0 : Int32) = nI 0 from rfl, ni_le (by omega) (by omega)]; omega), show nI (x + 1) - 1 = nI x from ni_sub (a := x + 1) (b := 1) (by omega), s_allAtEnds τ' hR4 hnc hC hF he (by omega), Option.bind_some]
      dsimp only
      cases z : atE R e F x with
      | true =>
        rw [if_neg (show ¬ bI true = 0 by decide), ni_dec]
        refine sp_ret ⟨x, by omega, by omega, rfl, rfl, rfl, ?_⟩
        rw [h1, hst, z]
        rfl
      | false =>
        rw [if_pos (show bI false = 0 by decide)]
        refine sp_ret ⟨?_, rfl, rfl⟩
        rw [h1, hst, z]
        rfl
  · rintro y σ' τ' ⟨rfl, rfl, rfl⟩
    exact sp_ret ⟨rfl, rfl, rfl⟩
theorem rn_pre {n : Nat} (h : rn G bar s e o n = none) : ∀ j, n ≤ j → rn G bar s e o j = none := by
  have h2 : ∀ d, rn G bar s e o (n + d) = none := by
    intro d
    induction d with
    | zero => exact h
    | succ d ih =>
      show (match rn G bar s e o (n + d) with
        | none => none
        | some (c, F) => match pW G (e (o (n + d))) (opx bar F o (n + d)) 0 (s (o (n + d))) with
          | none => none
          | some v => some (c + v, pnew G bar s e o (n + d) F)) = _
      rw [ih]
  intro j hj
  have := h2 (j - n)
  rw [show n + (j - n) = j by omega] at this
  exact this
/-- what a full run of ways gives for every robot -/
theorem rn_all {c : Nat} (hT : ptT R G s e) (hR : ptR R o) (h : rn G bar s e o R = some (c, F)) : ∀ r, r < R → F r 40 = e r ∧ ∀ t, t ≤ 40 → F r t < 36 := by
  intro r hr
  obtain ⟨x, hx, rfl⟩ := hR.2.2 r hr
  have := (rn_ok hT hR (Nat.le_refl _) h).1.1 x hx
  exact ⟨this.2.1, fun t ht => opn_lt (this.2.2 t ht)⟩
theorem s_tryOrder (τ : jp_J) (hT : ptT R G s e) (hR : ptR R o) (hR4 : R ≤ 4) (hnc : nc = 41 * R) (hC : txC R G bar s e σ) (h10 : ∀ k, k < R → σ 10 k = nI (o k)) :
    sp (fX4_tryOrder R nc σ τ) (fun _ σ' τ' => τ' = τ ∧ (∀ i, i ≠ 14 → i ≠ 15 → i ≠ 16 → i ≠ 17 → σ' i = σ i) ∧ σ' 14 0 = σ 14 0 ∧ ((rn G bar s e o R = none ∧ σ' 14 3 = -1) ∨ ∃ c F, rn G bar s e o R = some (c, F) ∧ σ' 14 3 = nI c ∧ σ' 14 2 = nI (stn (atE R e F) 40) ∧ ∀ r t, r < R → t ≤ 40 → σ' 15 (t * R + r) = nI (F r t))) := by
  unfold fX4_tryOrder
  rw [s_fill 17 _ _ _ (by decide), Option.bind_some]
  dsimp only
  unfold fX2_drop
  rw [Option.bind_some]
  dsimp only
  refine sp_bind (P := fun y σ' τ' => τ' = τ ∧ (∀ i, i ≠ 14 → i ≠ 15 → i ≠ 16 → i ≠ 17 → σ' i = σ i) ∧ σ' 14 0 = σ 14 0 ∧ ((rn G bar s e o R = none ∧ σ' 14 3 = -1 ∧ y = .inr 0) ∨ ∃ c F, rn G bar s e o R = some (c, F) ∧ y = .inl (nI c) ∧ txS R F o R σ')) ?_ ?_
  · refine sp_loopF (fun w σ' τ' m => ∃ k c F, k ≤ R ∧ m = R - k ∧ w = (nI c, nI k) ∧ τ' = τ ∧ (∀ i, i ≠ 14 → i ≠ 15 → i ≠ 16 → i ≠ 17 → σ' i = σ i) ∧ σ' 14 0 = σ 14 0 ∧ σ' 14 3 = -1 ∧ rn G bar s e o k = some (c, F) ∧ txS R F o k σ') R ⟨0, 0, fun _ _ => 0, Nat.zero_le _, rfl, rfl, rfl, fun i h14 h15 h16 h17 => ?_, ?_, ?_, rfl, ⟨fun x t h => absurd h (Nat.not_lt_zero _), fun t c ht hc _ => ?_⟩, fun x t h => absurd h (Nat.not_lt_zero _)⟩ (by omega) ?_
    · rw [jp_up_n _ _ h14, jp_up_n _ _ h14, jp_row_n _ _ h17]
    · rw [jp_up_ne _ _ _ (by decide), jp_up_ne _ _ _ (by decide), jp_row_n _ _ (by decide)]
    · rw [jp_up_ne _ _ _ (by decide), jp_up_eq]
    · rw [jp_up_n _ _ (by decide), jp_up_n _ _ (by decide), jp_row_s, if_pos (by omega)]
    · rintro w σ1 τ1 m ⟨k, c, F, hk, rfl, rfl, rfl, f1, f2, f3, f4, f5⟩
      have hC1 : txC R G bar s e σ1 := txC_congr hC (fun i hi => f1 i (by omega) (by omega) (by omega) (by omega)) f2
      dsimp only
      unfold sX4_tryOrder_19
      rw [hC1.2.2.2.1]
      by_cases q : k = R
      · subst q
        rw [if_pos (by rw [ni_le (by omega) (by omega)]; omega)]
        exact sp_ret ⟨rfl, f1, f2, Or.inr ⟨c, F, f4, rfl, f5⟩⟩
      · have hk' : k < R := by omega
        obtain ⟨hI, hc⟩ := rn_ok hT hR hk f4
        rw [if_neg (by rw [ni_le (by omega) (by omega)]; omega), s_readi 10 σ1 τ1 (by omega) hk', Option.bind_some, f1 10 (by decide) (by decide) (by decide) (by decide), h10 k hk']
        dsimp only
        obtain ⟨c1, c2, c3, c4, c5, c6⟩ := id hC1
        have hr := hR.1 k hk'
        have hs := opn_lt (hT.1 _ hr).1
        have he := opn_lt (hT.1 _ hr).2
        have hx4 : ∀ x, x < k → o x < 4 := fun x hx => by have := hR.1 x (by omega); omega
        rw [s_readi 3 σ1 τ1 (by omega) hr, Option.bind_some, c5 _ hr]
        dsimp only
        rw [s_readi 4 σ1 τ1 (by omega) hr, Option.bind_some, c6 _ hr]
        dsimp only
        have hpx : pxC G bar F o k σ1 := ⟨c2, c3, f5.1, hx4⟩
        refine sp_bind (s_measureP (n := R) (nc := nc) τ1 hpx he) ?_
        rintro _ σ2 τ2 ⟨rfl, m1, m2⟩
        dsimp only
        have hm : σ2 16 (s (o k)) = enc (pW G (e (o k)) (opx bar F o k) 0 (s (o k))) := by
          have := m2 0 (by decide) (s (o k)) hs
          rw [Nat.zero_mul, Nat.zero_add] at this
          rw [this]
          unfold msk
          rw [if_neg (by rw [tkn_start hT hR hk' hI]; decide)]
        rw [s_readi 16 σ2 τ2 (by decide) (show s (o k) < 1476 by omega), Option.bind_some, hm]
        dsimp only
        cases hv : pW G (e (o k)) (opx bar F o k) 0 (s (o k)) with
        | none =>
          rw [if_pos (show enc none = -1 from rfl)]
          exact sp_ret ⟨rfl, fun i h14 h15 h16 h17 => by rw [m1 i h16]; exact f1 i h14 h15 h16 h17, by rw [m1 14 (by decide)]; exact f2, Or.inl ⟨rn_n f4 hv R (by omega), by rw [m1 14 (by decide)]; exact f3, rfl⟩⟩
        | some v =>
          have hv40 := pW_le hv
          have hopn := pP_opn hv (hT.1 _ hr).1
          have h14 : σ2 14 0 = nI R := by rw [m1 14 (by decide)]; exact c1
          rw [show enc (some v) = nI v from rfl, if_neg (ni_neg (by omega))]
          refine sp_bind (s_walkP (nc := nc) τ2 hT hR hR4 hnc hk' h14 (pxC_congr hpx (m1 1 (by decide)) (m1 6 (by decide)) (m1 17 (by decide))) m2 hI hv) ?_
          rintro _ σ3 τ3 ⟨rfl, w1, w2, w3⟩
          dsimp only
          refine sp_bind (s_occupy (R := R) (nc := nc) τ3 (p := pP G (e (o k)) (opx bar F o k) (s (o k))) (by rw [w1 14 (by decide)]; exact h14) hR4 hnc hr (fun t ht => ⟨opn_lt (hopn t ht), w2 t ht⟩)) ?_
          rintro _ σ4 τ4 ⟨rfl, k1, k2⟩
          dsimp only
          rw [ni_add]
          have g1 : ∀ i, i ≠ 15 → i ≠ 16 → i ≠ 17 → σ4 i = σ1 i := fun i h15 h16 h17 => by rw [k1 i h17, w1 i h15, m1 i h16]
          exact sp_ret ⟨R - (k + 1), by omega, k + 1, c + v, pnew G bar s e o k F, by omega, rfl, by rw [← ni_add k 1]; rfl, rfl, fun i h14 h15 h16 h17 => by rw [g1 i h15 h16 h17]; exact f1 i h14 h15 h16 h17, by rw [g1 14 (by decide) (by decide) (by decide)]; exact f2, by rw [g1 14 (by decide) (by decide) (by decide)]; exact f3, rn_s f4 hv, txS_new hT hR hk' f5 hI hv m1 w1 w2 w3 k1 k2⟩
  · rintro y σ1 τ1 ⟨rfl, f1, f2, ⟨h1, h2, rfl⟩ | ⟨c, F, h1, rfl, h2⟩⟩
    · exact sp_ret ⟨rfl, f1, f2, Or.inl ⟨h1, h2⟩⟩
    · dsimp only
      have hall := rn_all hT hR h1
      have h15 : ∀ r t, r < R → t ≤ 40 → σ1 15 (t * R + r) = nI (F r t) := by
        intro r t hr ht
        obtain ⟨x, hx, rfl⟩ := hR.2.2 r hr
        exact h2.2 x t hx ht
      have hC1 : txC R G bar s e (jp_up σ1 14 3 (nI c)) := txC_congr hC (fun i hi => by rw [jp_up_n _ _ (by omega)]; exact f1 i (by omega) (by omega) (by omega) (by omega)) (by rw [jp_up_ne _ _ _ (by decide)]; exact f2)
      rw [s_stepsOfTrial τ1 hR4 hnc hC1 (F := F) (fun r t hr ht => ⟨(hall r hr).2 t ht, by rw [jp_up_n _ _ (by decide)]; exact h15 r t hr ht⟩) (fun r hr => opn_lt (hT.1 r hr).2), Option.bind_some]
      dsimp only
      refine sp_ret ⟨rfl, fun i h14 h15 h16 h17 => by rw [jp_up_n _ _ h14, jp_up_n _ _ h14]; exact f1 i h14 h15 h16 h17, by rw [jp_up_ne _ _ _ (by decide), jp_up_ne _ _ _ (by decide)]; exact f2, Or.inr ⟨c, F, h1, by rw [jp_up_ne _ _ _ (by decide), jp_up_eq], by rw [jp_up_eq], fun r t hr ht => by rw [jp_up_n _ _ (by decide), jp_up_n _ _ (by decide)]; exact h15 r t hr ht⟩⟩
end PY
