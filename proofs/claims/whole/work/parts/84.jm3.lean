-- the reference's joint plan
section JM
variable {R : Nat} {G : gG} {bar : Bool} {E : jS} {σ : jp_I}
theorem m_firstMove (τ : jp_J) (h : jmC R G bar E σ) (hR : 1 ≤ R ∧ R ≤ 2) (hE : jval R G E) {K : Nat → Nat} (hI : jrI R G bar E K σ) (hcl : ∀ s, jval R G s → ∀ m, m < 25 → jcl R G bar E K s m) {s : jS} {v : Nat} (hs : jval R G s) (hl : lst R G bar E v s) (hv : v < 1000) (hne : s ≠ E) :
    sp (fX8_firstMove (nI s.1) (nI s.2) σ τ) (fun r σ' τ' => σ' = σ ∧ τ' = τ ∧ ∃ (m : Nat) (s' : jS), m < 25 ∧ r = nI m ∧ jmv R G bar (m / 5) (m % 5) s s' ∧ jfs R G bar E s s') := by
  have a1 := jval_lt hs
  have hy := jiy_lt a1
  have hKs := jK_eq hI hcl hs hl (by omega)
  have hKy := hI.1 _ hy
  -- a step keeps the cost least just where it costs what is left
  have good : ∀ i j w, i < 5 → j < 5 → jthr R G bar E K i j s w → (w = v ↔ ∃ s', jgd R G bar E i j s s') := by
    rintro i j w hi hj ⟨-, hw⟩
    constructor
    · intro e
      rcases hw with ⟨s', c1, ⟨c2, c3⟩ | ⟨c2, c3⟩⟩ | ⟨-, c3⟩
      · have hs' := jmv_val hs c1
        obtain ⟨u, hu, hlu⟩ := cst_lst (hI.2.2 s' hs' c2)
        have := lst_le hl ⟨i, j, hi, hj, c1⟩ hlu
        exact ⟨s', c1, v, u, hl, hlu, by omega⟩
      · omega
      · omega
    · rintro ⟨s', hm, v', u, g1, g2, g3⟩
      have e1 := lst_uniq g1 hl
      have hs' := jmv_val hs hm
      have e2 := jK_eq hI hcl hs' g2 (by omega)
      rcases hw with ⟨s2, c1, ⟨c2, c3⟩ | ⟨c2, c3⟩⟩ | ⟨c1, -⟩
      · have := jmv_uniq c1 hm
        subst this
        omega
      · have := jmv_uniq c1 hm
        subst this
        omega
      · exact absurd hm (c1 s')
  obtain ⟨s0, u0, ⟨i0, j0, hi0, hj0, hm0⟩, g2, g3, -⟩ := lst_next hl hne
  have hg0 : jgd R G bar E i0 j0 s s0 := ⟨hm0, v, u0, hl, g2, g3⟩
  unfold fX8_firstMove
  refine sp_bind (P := fun e σ' τ' => σ' = σ ∧ τ' = τ ∧ ∃ (m : Nat) (s' : jS), m < 25 ∧ e = .inl (nI m) ∧ jmv R G bar (m / 5) (m % 5) s s' ∧ jfs R G bar E s s') ?_ ?_
  · refine sp_loopF (fun x σ' τ' n => ∃ m, m ≤ i0 * 5 + j0 ∧ n = 25 - m ∧ x = nI m ∧ σ' = σ ∧ τ' = τ ∧ ∀ m', m' < m → ∀ s', ¬ jgd R G bar E (m' / 5) (m' % 5) s s') 25 ⟨0, Nat.zero_le _, rfl, rfl, rfl, rfl, fun m' hm' => absurd hm' (Nat.not_lt_zero _)⟩ (by decide) ?_
    rintro x σ1 τ1 n ⟨m, hm, rfl, rfl, rfl, rfl, hno⟩
    dsimp only
    unfold sX8_firstMove_2
    rw [show (5 : Int32) = nI 5 from rfl, ni_mod (by omega) (by decide), ni_div (by omega) (by decide)]
    refine sp_bind (m_through τ1 h hR hE hI.1 hs (show m / 5 < 5 by omega) (show m % 5 < 5 by omega)) ?_
    rintro r σ2 τ2 ⟨rfl, rfl, w, rfl, hw⟩
    dsimp only
    have hgw := good (m / 5) (m % 5) w (by omega) (by omega) hw
    have hw1 := hw.1
    rw [show (36 : Int32) = nI 36 from rfl, ni_mul, ni_add]
    have hyy : 36 * s.1 + s.2 < 1296 := hy
    have e27 : σ2 27 (36 * s.1 + s.2) = nI v := by
      have := hKy.1
      rw [hKs] at this
      exact this
    refine sp_ok (ni_ok (by omega) (by omega)) ?_
    refine sp_if (fun z => ?_) (fun z => ?_)
    · rw [ni_nat (by omega), e27, ni_inj (by omega) (by omega)] at z
      obtain ⟨s', hg⟩ := hgw.mp z
      refine sp_ret ⟨rfl, rfl, m, s', by omega, rfl, hg.1, m / 5, m % 5, by omega, by omega, hg, fun i' j' s'' hi' hj' hlt => ?_⟩
      have := hno (i' * 5 + j') (by omega) s''
      rw [show (i' * 5 + j') / 5 = i' by omega, show (i' * 5 + j') % 5 = j' by omega] at this
      exact this
    · rw [ni_nat (by omega), e27, ni_inj (by omega) (by omega)] at z
      have hmne : m ≠ i0 * 5 + j0 := by
        intro q
        apply z
        rw [hgw]
        refine ⟨s0, ?_⟩
        rw [q, show (i0 * 5 + j0) / 5 = i0 by omega, show (i0 * 5 + j0) % 5 = j0 by omega]
        exact hg0
      refine sp_ret ⟨25 - (m + 1), by omega, m + 1, by omega, rfl, by rw [← ni_add]; rfl, rfl, rfl, fun m' hm' s' => ?_⟩
      by_cases q : m' = m
      · rw [q]
        exact fun g => z (hgw.mpr ⟨s', g⟩)
      · exact hno m' (by omega) s'
  · rintro e σ1 τ1 ⟨rfl, rfl, m, s', h1, rfl, h2, h3⟩
    exact sp_ret ⟨rfl, rfl, m, s', h1, rfl, h2, h3⟩
def jPM (R : Nat) (G : gG) (bar : Bool) (E s0 : jS) (σ' : jp_I) : Prop := (∃ (v t : Nat) (p : Nat → jS), lst R G bar E v s0 ∧ jpl R G bar E s0 t p ∧ t ≤ v ∧ σ' 20 9 = 1 ∧ σ' 20 10 = 1 ∧ σ' 20 11 = nI v ∧ σ' 20 12 = nI t ∧ ∀ k, k ≤ t → σ' 24 k = nI (p k).1 ∧ σ' 24 (400 + k) = nI (p k).2) ∨ ((∀ v, ¬ lst R G bar E v s0) ∧ σ' 20 9 = 0)
theorem jmC_20 {σ' : jp_I} (h : jmC R G bar E σ) (h20 : ∀ k, k ≠ 9 → k ≠ 10 → k ≠ 11 → k ≠ 12 → σ' 20 k = σ 20 k) (hf : ∀ i, i ≠ 20 → i ≠ 24 → σ' i = σ i) : jmC R G bar E σ' := by
  obtain ⟨h1, h2, h3, h4, h5⟩ := h
  exact ⟨scM_congr h1 (h20 2 (by decide) (by decide) (by decide) (by decide)) (h20 3 (by decide) (by decide) (by decide) (by decide)) (hf 21 (by decide) (by decide)), by rw [h20 1 (by decide) (by decide) (by decide) (by decide)]; exact h2, by rw [h20 7 (by decide) (by decide) (by decide) (by decide)]; exact h3, by rw [hf 23 (by decide) (by decide)]; exact h4, fun q => by rw [hf 23 (by decide) (by decide)]; exact h5 q⟩
/-- the walk: from s0, step by step -/
theorem m_plan (τ : jp_J) (h : jmC R G bar E σ) (hR : 1 ≤ R ∧ R ≤ 2) (hE : jval R G E) {K : Nat → Nat} (hI : jrI R G bar E K σ) (hcl : ∀ s, jval R G s → ∀ m, m < 25 → jcl R G bar E K s m) {s0 : jS} {v : Nat} (hs : jval R G s0) (hl : lst R G bar E v s0) (hv : v ≤ 399) (h12 : σ 20 12 = 0) (h24 : σ 24 0 = nI s0.1 ∧ σ 24 400 = nI s0.2) :
    sp (jp_loop (fun q : (Int32 × Int32) × jp_I × jp_J => sX8_jointly_216 q.1.1 q.1.2 q.2.1 q.2.2) jp_F ((nI s0.1, nI s0.2), σ, τ)) (fun e σ' τ' => e = .inl () ∧ τ' = τ ∧ (∀ i, i ≠ 20 → i ≠ 24 → σ' i = σ i) ∧ (∀ k, k ≠ 12 → σ' 20 k = σ 20 k) ∧ ∃ (t : Nat) (p : Nat → jS), jpl R G bar E s0 t p ∧ t ≤ v ∧ σ' 20 12 = nI t ∧ ∀ k, k ≤ t → σ' 24 k = nI (p k).1 ∧ σ' 24 (400 + k) = nI (p k).2) := by
  refine sp_loopF (fun x σ' τ' n => ∃ (k u : Nat) (p : Nat → jS), x = (nI (p k).1, nI (p k).2) ∧ n = u ∧ τ' = τ ∧ (∀ i, i ≠ 20 → i ≠ 24 → σ' i = σ i) ∧ (∀ k, k ≠ 12 → σ' 20 k = σ 20 k) ∧ σ' 20 12 = nI k ∧ p 0 = s0 ∧ jval R G (p k) ∧ lst R G bar E u (p k) ∧ u + k ≤ v ∧ (∀ i, i < k → p i ≠ E ∧ jfs R G bar E (p i) (p (i + 1))) ∧ ∀ i, i ≤ k → σ' 24 i = nI (p i).1 ∧ σ' 24 (400 + i) = nI (p i).2) v ⟨0, v, fun _ => s0, rfl, rfl, rfl, fun _ _ _ => rfl, fun _ _ => rfl, h12, rfl, hs, hl, by omega, fun i hi => absurd hi (Nat.not_lt_zero _), fun i hi => by rw [show i = 0 by omega]; exact h24⟩ (by omega) ?_
  rintro x σ1 τ1 n ⟨k, u, p, rfl, rfl, rfl, f1, f2, f3, p0, g3, g4, g5, g6, g7⟩
  have hC1 : jmC R G bar E σ1 := jmC_20 h (fun k _ _ _ q => f2 k q) f1
  have hI1 : jrI R G bar E K σ1 := ⟨fun y hy => by rw [f1 27 (by decide) (by decide)]; exact hI.1 y hy, hI.2⟩
  have a1 := jval_lt g3
  have hy := jiy_lt a1
  have hKs := jK_eq hI hcl g3 g4 (by omega)
  have hKy := (hI1.1 _ hy).1
  rw [hKs] at hKy
  dsimp only
  unfold sX8_jointly_216
  rw [show (36 : Int32) = nI 36 from rfl, ni_mul, ni_add]
  have hyy : 36 * (p k).1 + (p k).2 < 1296 := hy
  have e27 : σ1 27 (36 * (p k).1 + (p k).2) = nI n := hKy
  refine sp_ok (ni_ok (by omega) (by omega)) ?_
  refine sp_if (fun z => ?_) (fun z => ?_)
  · rw [ni_nat (by omega), e27, show (0 : Int32) = nI 0 from rfl, ni_le (by omega) (by decide)] at z
    have hn : n = 0 := by omega
    rw [hn] at g4
    exact sp_ret ⟨rfl, rfl, f1, f2, k, p, ⟨p0, lst_0 g4, g6⟩, by omega, f3, g7⟩
  · rw [ni_nat (by omega), e27, show (0 : Int32) = nI 0 from rfl, ni_le (by omega) (by decide)] at z
    have hne : p k ≠ E := by
      intro w
      rw [w] at g4
      have := lst_uniq g4 lst_E
      omega
    refine sp_bind (m_firstMove τ1 hC1 hR hE hI1 hcl g3 g4 (by omega) hne) ?_
    rintro r σ2 τ2 ⟨rfl, rfl, m, s', hm, rfl, hmv, hfs⟩
    dsimp only
    obtain ⟨hs', u', hu', hlt⟩ := jfs_next g3 g4 hne hfs
    have b1 := jval_lt hs'
    rw [show (5 : Int32) = nI 5 from rfl, ni_mod (by omega) (by decide), ni_div (by omega) (by decide)]
    refine sp_seq (m_moved τ2 hC1.1 a1.1 (show m / 5 < 5 by omega)) ?_
    dsimp only
    rw [hmv.1]
    have fin : sp (bX8_jointly_269_in216 (nI s'.1) (nI s'.2) σ2 τ2) (sp_R (fun x σ' τ' n => ∃ (k u : Nat) (p : Nat → jS), x = (nI (p k).1, nI (p k).2) ∧ n = u ∧ τ' = τ2 ∧ (∀ i, i ≠ 20 → i ≠ 24 → σ' i = σ i) ∧ (∀ k, k ≠ 12 → σ' 20 k = σ 20 k) ∧ σ' 20 12 = nI k ∧ p 0 = s0 ∧ jval R G (p k) ∧ lst R G bar E u (p k) ∧ u + k ≤ v ∧ (∀ i, i < k → p i ≠ E ∧ jfs R G bar E (p i) (p (i + 1))) ∧ ∀ i, i ≤ k → σ' 24 i = nI (p i).1 ∧ σ' 24 (400 + i) = nI (p i).2) n (fun e σ' τ' => e = .inl () ∧ τ' = τ2 ∧ (∀ i, i ≠ 20 → i ≠ 24 → σ' i = σ i) ∧ (∀ k, k ≠ 12 → σ' 20 k = σ 20 k) ∧ ∃ (t : Nat) (p : Nat → jS), jpl R G bar E s0 t p ∧ t ≤ v ∧ σ' 20 12 = nI t ∧ ∀ k, k ≤ t → σ' 24 k = nI (p k).1 ∧ σ' 24 (400 + k) = nI (p k).2)) := by
      unfold bX8_jointly_269_in216
      have e12 : (jp_up σ2 20 12 (σ2 20 12 + 1)) 20 12 = nI (k + 1) := by rw [jp_up_eq, f3, ← ni_add]; rfl
      have e12b : (jp_up (jp_up σ2 20 12 (σ2 20 12 + 1)) 24 (k + 1) (nI s'.1)) 20 12 = nI (k + 1) := by rw [jp_up_n _ _ (by decide)]; exact e12
      rw [e12]
      refine sp_ok (ni_ok (by omega) (by omega)) ?_
      rw [ni_nat (by omega), e12b, show (400 : Int32) = nI 400 from rfl, ni_add]
      refine sp_ok (ni_ok (by omega) (by omega)) ?_
      rw [ni_nat (by omega)]
      have n24 : ∀ y, y ≠ k + 1 → y ≠ 400 + (k + 1) → (jp_up (jp_up (jp_up σ2 20 12 (σ2 20 12 + 1)) 24 (k + 1) (nI s'.1)) 24 (400 + (k + 1)) (nI s'.2)) 24 y = σ2 24 y := fun y q1 q2 => by rw [jp_up_ne _ _ _ q2, jp_up_ne _ _ _ q1, jp_up_n _ _ (by decide)]
      refine sp_ret ⟨u', by omega, k + 1, u', fup p (k + 1) s', by rw [fup_s], rfl, rfl, fun i h1 h2 => by rw [jp_up_n _ _ h2, jp_up_n _ _ h2, jp_up_n _ _ h1]; exact f1 i h1 h2, fun x hx => by rw [jp_up_n _ _ (by decide), jp_up_n _ _ (by decide), jp_up_ne _ _ _ hx]; exact f2 x hx, by rw [jp_up_n _ _ (by decide), jp_up_n _ _ (by decide)]; exact e12, by rw [fup_n _ _ (by omega)]; exact p0, by rw [fup_s]; exact hs', by rw [fup_s]; exact hu', by omega, fun i hi => ?_, fun i hi => ?_⟩
      · by_cases w : i = k
        · rw [w, fup_n _ _ (by omega), fup_s]
          exact ⟨hne, hfs⟩
        · rw [fup_n _ _ (by omega), fup_n _ _ (by omega)]
          exact g6 i (by omega)
      · by_cases w : i = k + 1
        · rw [w, fup_s]
          exact ⟨by rw [jp_up_ne _ _ _ (by omega), jp_up_eq], jp_up_eq _ _ _ _⟩
        · rw [fup_n _ _ w, n24 i w (by omega), n24 (400 + i) (by omega) (by omega)]
          exact g7 i (by omega)
    refine sp_if (fun y => ?_) (fun y => ?_)
    · rw [hC1.2.1, show (2 : Int32) = nI 2 from rfl, ni_inj (by omega) (by decide)] at y
      refine sp_seq (m_moved τ2 hC1.1 a1.2 (show m % 5 < 5 by omega)) ?_
      dsimp only
      have h2 := hmv.2.1
      unfold nx1 at h2
      rw [if_pos y] at h2
      rw [h2]
      exact fin
    · rw [hC1.2.1, show (2 : Int32) = nI 2 from rfl, ni_inj (by omega) (by decide)] at y
      have e2 : (p k).2 = s'.2 := by rw [g3.2.2 y, hs'.2.2 y]
      rw [e2]
      exact fin
theorem m_jointly {nc : Nat} {st en : Nat → Option Nat} {sd : Int64} {pl : plT} {τ : jp_J} (hM : RM R G st en bar sd pl σ τ) (hA : AO R nc G st en sd pl) (hR : 1 ≤ R ∧ R ≤ 2) {s0 : jS} (h0 : jtask R st s0) (hE0 : jtask R en E) (hb : ∀ v, lst R G bar E v s0 → v ≤ 399) :
    sp (fX8_jointly σ τ) (fun _ σ' τ' => τ' = τ ∧ (∀ i, i ≠ 20 → i ≠ 24 → i ≠ 27 → σ' i = σ i) ∧ (∀ k, k ≠ 9 → k ≠ 10 → k ≠ 11 → k ≠ 12 → σ' 20 k = σ 20 k) ∧ jPM R G bar E s0 σ') := by
  obtain ⟨a1, a2, a3, a4, a5, a6, -⟩ := id hA
  obtain ⟨m0, m1, m2, m3, m4, m5, m6⟩ := id hM
  have hs := jtask_val hR h0 a3 a5
  have hE := jtask_val hR hE0 a4 a6
  have he := jval_lt hE
  have hs2 := jval_lt hs
  obtain ⟨σ1, hσ1⟩ : ∃ σ1, σ1 = jp_up (jp_up σ 20 10 1) 20 12 0 := ⟨_, rfl⟩
  have n1 : ∀ i, i ≠ 20 → σ1 i = σ i := fun i hi => by rw [hσ1, jp_up_n _ _ hi, jp_up_n _ _ hi]
  have k1 : ∀ k, k ≠ 10 → k ≠ 12 → σ1 20 k = σ 20 k := fun k b c => by rw [hσ1, jp_up_ne _ _ _ c, jp_up_ne _ _ _ b]
  have k10 : σ1 20 10 = 1 := by rw [hσ1, jp_up_ne _ _ _ (by decide), jp_up_eq]
  have k12 : σ1 20 12 = 0 := by rw [hσ1, jp_up_eq]
  have hC1 : jmC R G bar E σ1 := ⟨scM_congr m1 (k1 2 (by decide) (by decide)) (k1 3 (by decide) (by decide)) (n1 21 (by decide)), by rw [k1 1 (by decide) (by decide)]; exact m0, by rw [k1 7 (by decide) (by decide)]; exact m4, by rw [n1 23 (by decide), m3 0 (by omega), hE0.1 (by omega)]; rfl, fun q => by rw [n1 23 (by decide), m3 1 (by omega), hE0.2.1 (by omega)]; rfl⟩
  unfold fX8_jointly
  rw [← hσ1]
  refine sp_if (fun z => ?_) (fun z => ?_)
  · rw [hC1.2.1, show (0 : Int32) = nI 0 from rfl, ni_inj (by omega) (by decide)] at z
    omega
  · refine sp_bind (P := fun e σ' τ' => e = .inl () ∧ τ' = τ ∧ (∀ i, i ≠ 27 → σ' i = σ1 i) ∧ ∀ y, y < 1296 → σ' 27 y = nI 1000000) ?_ ?_
    · refine sp_for (fun i σ' τ' => τ' = τ ∧ (∀ i, i ≠ 27 → σ' i = σ1 i) ∧ ∀ y, y < i → σ' 27 y = nI 1000000) 0 1296 (by decide) (by decide) ⟨rfl, fun _ _ => rfl, fun y hy => absurd hy (Nat.not_lt_zero _)⟩ ?_ ?_
      · rintro i σ2 τ2 - hi ⟨rfl, g1, g2⟩
        dsimp only
        unfold sX8_jointly_30
        rw [show (1296 : Int32) = nI 1296 from rfl, if_neg (by rw [ni_le (by decide) (by omega)]; omega)]
        refine sp_ok (ni_ok (by omega) (by omega)) ?_
        rw [ni_nat (by omega)]
        refine sp_ret ⟨by rw [← ni_add]; rfl, rfl, fun i hi => by rw [jp_up_n _ _ hi]; exact g1 i hi, fun y hy => ?_⟩
        by_cases w : y = i
        · rw [w, jp_up_eq]; rfl
        · rw [jp_up_ne _ _ _ w]; exact g2 y (by omega)
      · rintro σ2 τ2 ⟨rfl, g1, g2⟩
        dsimp only
        unfold sX8_jointly_30
        rw [if_pos (by decide)]
        exact sp_ret ⟨rfl, rfl, g1, g2⟩
    · rintro e σ2 τ2 ⟨rfl, rfl, g1, g2⟩
      dsimp only
      have hC2 := jmC_fr hC1 g1
      refine sp_seq (m_goal0 τ2 hC2 hR) ?_
      dsimp only
      refine sp_seq (m_goal1 τ2 hC2 hR hE.2.2) ?_
      dsimp only
      rw [show (36 : Int32) = nI 36 from rfl, ni_mul, ni_add]
      have hyE : 36 * E.1 + E.2 < 1296 := jiy_lt he
      refine sp_ok (ni_ok (by omega) (by omega)) ?_
      rw [ni_nat (by omega)]
      have hC3 : jmC R G bar E (jp_up σ2 27 (36 * E.1 + E.2) 0) := jmC_fr hC2 (fun i hi => jp_up_n _ _ hi)
      have hI3 : jrI R G bar E (fup (fun _ => 1000000) (jiy E) 0) (jp_up σ2 27 (36 * E.1 + E.2) 0) := by
        refine ⟨fun y hy => ?_, fup_s _ _ _, fun s hs3 hlt => ?_⟩
        · by_cases w : y = jiy E
          · rw [w, fup_s]
            exact ⟨jp_up_eq _ _ _ _, by decide⟩
          · rw [fup_n _ _ w, jp_up_ne _ _ _ (show y ≠ 36 * E.1 + E.2 from w)]
            exact ⟨g2 y hy, Nat.le_refl _⟩
        · by_cases w : jiy s = jiy E
          · have := jiy_inj (jval_lt hs3).2 he.2 w
            rw [this, fup_s]
            exact cst_E
          · rw [fup_n _ _ w] at hlt; omega
      refine sp_bind (m_pass3 τ2 hC3 hR hE hI3) ?_
      rintro e σ4 τ4 ⟨rfl, rfl, f4, K, hI4, hcl⟩
      dsimp only
      have hC4 := jmC_fr hC3 f4
      have n4 : ∀ i, i ≠ 27 → σ4 i = σ1 i := fun i hi => by rw [f4 i hi, jp_up_n _ _ hi]; exact g1 i hi
      have e22 : ∀ r, r < R → σ4 22 r = enc (st r) := fun r hr => by rw [n4 22 (by decide), n1 22 (by decide)]; exact m2 r hr
      have last : sp (bX8_jointly_158 (nI s0.1) (nI s0.2) σ4 τ4) (fun _ σ' τ' => τ' = τ4 ∧ (∀ i, i ≠ 20 → i ≠ 24 → i ≠ 27 → σ' i = σ i) ∧ (∀ k, k ≠ 9 → k ≠ 10 → k ≠ 11 → k ≠ 12 → σ' 20 k = σ 20 k) ∧ jPM R G bar E s0 σ') := by
        unfold bX8_jointly_158
        rw [show (36 : Int32) = nI 36 from rfl, ni_mul, ni_add]
        have hys : 36 * s0.1 + s0.2 < 1296 := jiy_lt hs2
        refine sp_ok (ni_ok (by omega) (by omega)) ?_
        rw [ni_nat (by omega)]
        have hKs : σ4 27 (36 * s0.1 + s0.2) = nI (K (jiy s0)) ∧ K (jiy s0) ≤ 1000000 := hI4.1 _ hys
        rw [hKs.1]
        refine sp_if (fun y => ?_) (fun y => ?_)
        · rw [jp_up_eq, show (1000000 : Int32) = nI 1000000 from rfl, ni_le (by decide) (by omega)] at y
          unfold bX8_jointly_189
          rw [if_pos (show jp_isb 0 = true from rfl), jp_up_eq, if_pos rfl]
          refine sp_ret ⟨rfl, fun i b1 b2 b3 => by rw [jp_up_n _ _ b1, jp_up_n _ _ b1, n4 i b3, n1 i b1], fun k b1 b2 b3 b4 => by rw [jp_up_ne _ _ _ b1, jp_up_ne _ _ _ b3, n4 20 (by decide), k1 k b2 b4], Or.inr ⟨fun v hv => ?_, jp_up_eq _ _ _ _⟩⟩
          have := hb v hv
          have := jK_eq hI4 hcl hs hv (by omega)
          omega
        · rw [jp_up_eq, show (1000000 : Int32) = nI 1000000 from rfl, ni_le (by decide) (by omega)] at y
          obtain ⟨v, hv, hl⟩ := cst_lst (hI4.2.2 s0 hs (by omega))
          have hv399 := hb v hl
          have hKv := jK_eq hI4 hcl hs hl (by omega)
          unfold bX8_jointly_189
          rw [if_pos (show jp_isb 1 = true from rfl), jp_up_eq, if_neg (by decide)]
          refine sp_ok (by decide) (sp_ok (by decide) ?_)
          rw [show (0 : Int32).toNatClampNeg = 0 from by decide, show (400 : Int32).toNatClampNeg = 400 from by decide, hKv]
          obtain ⟨σ5, hσ5⟩ : ∃ σ5, σ5 = jp_up (jp_up (jp_up (jp_up σ4 20 11 (nI v)) 20 9 1) 24 0 (nI s0.1)) 24 400 (nI s0.2) := ⟨_, rfl⟩
          rw [← hσ5]
          have n5 : ∀ i, i ≠ 20 → i ≠ 24 → σ5 i = σ4 i := fun i b1 b2 => by rw [hσ5, jp_up_n _ _ b2, jp_up_n _ _ b2, jp_up_n _ _ b1, jp_up_n _ _ b1]
          have k5 : ∀ k, k ≠ 9 → k ≠ 11 → σ5 20 k = σ4 20 k := fun k b1 b2 => by rw [hσ5, jp_up_n _ _ (by decide), jp_up_n _ _ (by decide), jp_up_ne _ _ _ b1, jp_up_ne _ _ _ b2]
          have hC5 : jmC R G bar E σ5 := jmC_20 hC4 (fun k b1 _ b3 _ => k5 k b1 b3) n5
          have hI5 : jrI R G bar E K σ5 := ⟨fun y hy => by rw [n5 27 (by decide) (by decide)]; exact hI4.1 y hy, hI4.2⟩
          refine sp_bind (m_plan τ4 hC5 hR hE hI5 hcl hs hl hv399 (by rw [k5 12 (by decide) (by decide), n4 20 (by decide)]; exact k12) ⟨by rw [hσ5, jp_up_ne _ _ _ (by decide), jp_up_eq], by rw [hσ5, jp_up_eq]⟩) ?_
          rintro e σ6 τ6 ⟨rfl, rfl, n6, k6, t, p, q1, q2, q3, q4⟩
          dsimp only
          refine sp_ret ⟨rfl, fun i b1 b2 b3 => by rw [n6 i b1 b2, n5 i b1 b2, n4 i b3, n1 i b1], fun k b1 b2 b3 b4 => by rw [k6 k b4, k5 k b1 b3, n4 20 (by decide), k1 k b2 b4], Or.inl ⟨v, t, p, hl, q1, q2, ?_, ?_, ?_, q3, q4⟩⟩
          · rw [k6 9 (by decide), hσ5, jp_up_n _ _ (by decide), jp_up_n _ _ (by decide), jp_up_eq]
          · rw [k6 10 (by decide), k5 10 (by decide) (by decide), n4 20 (by decide)]; exact k10
          · rw [k6 11 (by decide), hσ5, jp_up_n _ _ (by decide), jp_up_n _ _ (by decide), jp_up_ne _ _ _ (by decide), jp_up_eq]
      refine sp_ok (by decide) ?_
      rw [jp_c30, e22 0 (by omega), h0.1 (by omega)]
      refine sp_if (fun y => ?_) (fun y => ?_)
      · rw [hC4.2.1, show (2 : Int32) = nI 2 from rfl, ni_inj (by omega) (by decide)] at y
        refine sp_ok (by decide) ?_
        rw [show (1 : Int32).toNatClampNeg = 1 from by decide, e22 1 (by omega), h0.2.1 (by omega)]
        exact last
      · rw [hC4.2.1, show (2 : Int32) = nI 2 from rfl, ni_inj (by omega) (by decide)] at y
        have := h0.2.2.1 (by omega)
        rw [this] at last
        exact last
end JM
