-- the reference's table of costs, its way, its ways in one order
section PN
variable {R k : Nat} {G : gG} {bar : Bool} {F : Nat → Nat → Nat} {o s e : Nat → Nat} {σ : jp_I}
theorem txM_congr {σ' : jp_I} (h : txM F o k σ) (e25 : σ' 25 = σ 25) : txM F o k σ' := by
  unfold txM
  rw [e25]
  exact h
theorem m_row (τ : jp_J) (hR4 : R ≤ 4) (hok : o k < R) (he : e (o k) < 36) (hC : pmC R G bar s e o σ) {t : Nat} (ht : t ≤ 40) (op : gO) :
    sp (jp_loop (fun q : (Int32) × jp_I × jp_J => sX8_way_56 (nI k) (nI (o k)) (nI t) q.1 q.2.1 q.2.2) jp_F (0, σ, τ)) (fun y σ' τ' => y = .inl () ∧ τ' = τ ∧ (∀ i, i ≠ 27 → σ' i = σ i) ∧ (∀ c, c < 36 → σ' 27 (36 * t + c) = encF (if t = 40 then pW G (e (o k)) op 40 c else none)) ∧ ∀ j, 36 * t + 36 ≤ j → σ' 27 j = σ 27 j) := by
  refine sp_for (fun x σ' τ' => τ' = τ ∧ (∀ i, i ≠ 27 → σ' i = σ i) ∧ (∀ c, c < x → σ' 27 (36 * t + c) = encF (if t = 40 then pW G (e (o k)) op 40 c else none)) ∧ ∀ j, 36 * t + 36 ≤ j → σ' 27 j = σ 27 j) 0 36 (by decide) (by decide) ⟨rfl, fun _ _ => rfl, fun c h => absurd h (Nat.not_lt_zero _), fun _ _ => rfl⟩ ?_ ?_
  · rintro x σ1 τ1 - hx ⟨rfl, f1, f2, f3⟩
    dsimp only
    have fin : ∀ v : Int32, v = encF (if t = 40 then pW G (e (o k)) op 40 x else none) → sp (bX8_way_97_in56 (nI k) (nI (o k)) (nI t) (nI x) (36 * nI t + nI x) v σ1 τ1) (sp_S (fun v σ' τ' => v = nI (x + 1) ∧ τ' = τ1 ∧ (∀ i, i ≠ 27 → σ' i = σ i) ∧ (∀ c, c < x + 1 → σ' 27 (36 * t + c) = encF (if t = 40 then pW G (e (o k)) op 40 c else none)) ∧ ∀ j, 36 * t + 36 ≤ j → σ' 27 j = σ 27 j) (fun y σ' τ' => y = .inl () ∧ τ' = τ1 ∧ (∀ i, i ≠ 27 → σ' i = σ i) ∧ (∀ c, c < 36 → σ' 27 (36 * t + c) = encF (if t = 40 then pW G (e (o k)) op 40 c else none)) ∧ ∀ j, 36 * t + 36 ≤ j → σ' 27 j = σ 27 j)) := by
      intro v hv
      unfold bX8_way_97_in56
      rw [show (36 : Int32) * nI t + nI x = nI (36 * t + x) by rw [show (36 : Int32) = nI 36 from rfl, ni_mul, ni_add], if_pos (ni_ok (by omega) (by omega)), ni_nat (by omega)]
      refine sp_ret ⟨by rw [← ni_add]; rfl, rfl, fun i hi => by rw [jp_up_n _ _ hi]; exact f1 i hi, fun c hc => ?_, fun j hj => ?_⟩
      · by_cases q : c = x
        · rw [q, jp_up_eq]; exact hv
        · rw [jp_up_ne _ _ _ (by omega)]; exact f2 c (by omega)
      · rw [jp_up_ne _ _ _ (by omega)]; exact f3 j hj
    unfold sX8_way_56
    rw [if_neg (by rw [show (36 : Int32) = nI 36 from rfl, ni_le (by decide) (by omega)]; omega)]
    unfold bX8_way_95_in56
    refine sp_if (fun z => ?_) (fun z => ?_)
    · rw [show (40 : Int32) = nI 40 from rfl, ni_inj (by omega) (by decide)] at z
      have h23 : σ1 23 (nI (o k)).toNatClampNeg = nI (e (o k)) := by rw [ni_nat (by omega), f1 23 (by decide)]; exact hC.2.2.2.2.1 _ hok
      refine sp_ok (ni_ok (by omega) (by omega)) ?_
      refine sp_if (fun w => ?_) (fun w => ?_)
      · rw [h23, ni_inj (by omega) (by omega)] at w
        refine fin 0 ?_
        rw [if_pos z, pW_40, if_pos w]
        rfl
      · rw [h23, ni_inj (by omega) (by omega)] at w
        refine fin 1000000 ?_
        rw [if_pos z, pW_40, if_neg w]
        rfl
    · rw [show (40 : Int32) = nI 40 from rfl, ni_inj (by omega) (by decide)] at z
      refine fin 1000000 ?_
      rw [if_neg z]
      rfl
  · rintro σ1 τ1 ⟨rfl, f1, f2, f3⟩
    dsimp only
    unfold sX8_way_56
    rw [if_pos (by decide)]
    exact sp_ret ⟨rfl, rfl, f1, f2, f3⟩
theorem m_cell (τ : jp_J) (hR4 : R ≤ 4) (hR : ptR R o) (hk : k < R) (he : e (o k) < 36) (hC : pmC R G bar s e o σ) (hS : txM F o k σ) {t c : Nat} (ht : t < 40) (hc : c < 36) (hw : mW G (e (o k)) (opx bar F o k) (t + 1) σ) (h0 : σ 27 (36 * t + c) = encF none) :
    sp (jp_loop (fun q : (Int32) × jp_I × jp_J => sX8_way_123 (nI k) (nI (o k)) (nI t) (nI c) q.1 q.2.1 q.2.2) jp_F (0, σ, τ)) (fun y σ' τ' => y = .inl () ∧ τ' = τ ∧ (∀ i, i ≠ 27 → σ' i = σ i) ∧ σ' 27 (36 * t + c) = encF (pW G (e (o k)) (opx bar F o k) t c) ∧ ∀ j, j ≠ 36 * t + c → σ' 27 j = σ 27 j) := by
  refine sp_for (fun i σ' τ' => τ' = τ ∧ (∀ i, i ≠ 27 → σ' i = σ i) ∧ σ' 27 (36 * t + c) = encF (mo (pS G (e (o k)) (opx bar F o k) t c) i) ∧ ∀ j, j ≠ 36 * t + c → σ' 27 j = σ 27 j) 0 5 (by decide) (by decide) ⟨rfl, fun _ _ => rfl, h0, fun _ _ => rfl⟩ ?_ ?_
  · rintro i σ1 τ1 - hi ⟨rfl, f1, f2, f3⟩
    dsimp only
    have hC1 := pmC_congr hC (fun i _ h27 => f1 i h27)
    have hS1 := txM_congr hS (f1 25 (by decide))
    have hw1 : mW G (e (o k)) (opx bar F o k) (t + 1) σ1 := fun a ha => by rw [f3 _ (by omega)]; exact hw a ha
    unfold sX8_way_123
    rw [if_neg (by rw [show (5 : Int32) = nI 5 from rfl, ni_le (by decide) (by omega)]; omega), m_step τ1 hR4 hR hk he hC1 hS1 ht hc hi hw1, Option.bind_some]
    dsimp only
    rw [show (36 : Int32) * nI t + nI c = nI (36 * t + c) by rw [show (36 : Int32) = nI 36 from rfl, ni_mul, ni_add], ni_nat (by omega)]
    refine sp_ok (ni_ok (by omega) (by omega)) ?_
    have hmo : mo (pS G (e (o k)) (opx bar F o k) t c) (i + 1) = omn (mo (pS G (e (o k)) (opx bar F o k) t c) i) (pS G (e (o k)) (opx bar F o k) t c i) := rfl
    have hb : ∀ d, mo (pS G (e (o k)) (opx bar F o k) t c) i = some d → d < 1000 := fun d hd => by have := mo_b (f := pS G (e (o k)) (opx bar F o k) t c) (B := 41) (fun m v h => pS_le h) i d hd; omega
    unfold bX8_way_172_in123
    rcases encF_omn hb (pS_lt (G := G) (e := e (o k)) (op := opx bar F o k) (t := t) (c := c) (m := i)) with ⟨g1, g2⟩ | ⟨g1, g2⟩
    · rw [if_pos (by rw [f2]; exact g1)]
      refine sp_ret ⟨by rw [← ni_add]; rfl, rfl, f1, ?_, f3⟩
      rw [hmo, g2, f2]
    · rw [if_neg (by rw [f2]; exact g1)]
      refine sp_ok (ni_ok (by omega) (by omega)) ?_
      refine sp_ret ⟨by rw [← ni_add]; rfl, rfl, fun i hi => by rw [jp_up_n _ _ hi]; exact f1 i hi, ?_, fun j hj => by rw [jp_up_ne _ _ _ hj]; exact f3 j hj⟩
      rw [jp_up_eq, hmo, g2]
  · rintro σ1 τ1 ⟨rfl, f1, f2, f3⟩
    dsimp only
    unfold sX8_way_123
    rw [if_pos (by decide)]
    exact sp_ret ⟨rfl, rfl, f1, by rw [pW_lt c ht]; exact f2, f3⟩
theorem m_cells (τ : jp_J) (hR4 : R ≤ 4) (hR : ptR R o) (hk : k < R) (he : e (o k) < 36) (hC : pmC R G bar s e o σ) (hS : txM F o k σ) {t : Nat} (ht : t < 40) (hw : mW G (e (o k)) (opx bar F o k) (t + 1) σ) (h0 : ∀ c, c < 36 → σ 27 (36 * t + c) = encF none) :
    sp (jp_loop (fun q : (Int32) × jp_I × jp_J => sX8_way_107 (nI k) (nI (o k)) (nI t) q.1 q.2.1 q.2.2) jp_F (0, σ, τ)) (fun y σ' τ' => y = .inl () ∧ τ' = τ ∧ (∀ i, i ≠ 27 → σ' i = σ i) ∧ mW G (e (o k)) (opx bar F o k) t σ' ∧ ∀ j, 36 * t + 36 ≤ j → σ' 27 j = σ 27 j) := by
  refine sp_for (fun x σ' τ' => τ' = τ ∧ (∀ i, i ≠ 27 → σ' i = σ i) ∧ (∀ c, c < x → σ' 27 (36 * t + c) = encF (pW G (e (o k)) (opx bar F o k) t c)) ∧ (∀ c, x ≤ c → c < 36 → σ' 27 (36 * t + c) = encF none) ∧ ∀ j, 36 * t + 36 ≤ j → σ' 27 j = σ 27 j) 0 36 (by decide) (by decide) ⟨rfl, fun _ _ => rfl, fun c h => absurd h (Nat.not_lt_zero _), fun c _ hc => h0 c hc, fun _ _ => rfl⟩ ?_ ?_
  · rintro x σ1 τ1 - hx ⟨rfl, f1, f2, f3, f4⟩
    dsimp only
    have hC1 := pmC_congr hC (fun i _ h27 => f1 i h27)
    have hS1 := txM_congr hS (f1 25 (by decide))
    have hw1 : mW G (e (o k)) (opx bar F o k) (t + 1) σ1 := fun a ha => by rw [f4 _ (by omega)]; exact hw a ha
    unfold sX8_way_107
    rw [if_neg (by rw [show (36 : Int32) = nI 36 from rfl, ni_le (by decide) (by omega)]; omega), if_neg (by rw [show (40 : Int32) = nI 40 from rfl, ni_le (by decide) (by omega)]; omega)]
    refine sp_bind (m_cell τ1 hR4 hR hk he hC1 hS1 ht hx hw1 (f3 x (Nat.le_refl _) hx)) ?_
    rintro y σ2 τ2 ⟨rfl, rfl, g1, g2, g3⟩
    dsimp only
    refine sp_ret ⟨by rw [← ni_add]; rfl, rfl, fun i hi => by rw [g1 i hi]; exact f1 i hi, fun c hc => ?_, fun c h1 h2 => ?_, fun j hj => by rw [g3 j (by omega)]; exact f4 j hj⟩
    · by_cases q : c = x
      · rw [q]; exact g2
      · rw [g3 _ (by omega)]; exact f2 c (by omega)
    · rw [g3 _ (by omega)]; exact f3 c (by omega) h2
  · rintro σ1 τ1 ⟨rfl, f1, f2, f3, f4⟩
    dsimp only
    unfold sX8_way_107
    rw [if_pos (by decide)]
    exact sp_ret ⟨rfl, rfl, f1, f2, f4⟩
theorem m_table (τ : jp_J) (hR4 : R ≤ 4) (hR : ptR R o) (hk : k < R) (he : e (o k) < 36) (hC : pmC R G bar s e o σ) (hS : txM F o k σ) :
    sp (jp_loop (fun q : (Int32) × jp_I × jp_J => sX8_way_49 (nI k) (nI (o k)) q.1 q.2.1 q.2.2) jp_F (40, σ, τ)) (fun y σ' τ' => y = .inl () ∧ τ' = τ ∧ (∀ i, i ≠ 27 → σ' i = σ i) ∧ ∀ t, t ≤ 40 → mW G (e (o k)) (opx bar F o k) t σ') := by
  refine sp_loopF (fun v σ' τ' m => m ≤ 41 ∧ v = nI m + (-1) ∧ τ' = τ ∧ (∀ i, i ≠ 27 → σ' i = σ i) ∧ ∀ t, m ≤ t → t ≤ 40 → mW G (e (o k)) (opx bar F o k) t σ') 41 ⟨Nat.le_refl _, rfl, rfl, fun _ _ => rfl, fun t a b => absurd a (by omega)⟩ (by decide) ?_
  rintro v σ1 τ1 m ⟨hm, rfl, rfl, f1, f2⟩
  dsimp only
  unfold sX8_way_49
  by_cases q : m = 0
  · subst q
    rw [if_pos (by decide)]
    exact sp_ret ⟨rfl, rfl, f1, fun t ht => f2 t (Nat.zero_le _) ht⟩
  · obtain ⟨t, rfl⟩ : ∃ t, m = t + 1 := ⟨m - 1, by omega⟩
    rw [ni_dec, if_neg (ni_nn (by omega))]
    have hC1 := pmC_congr hC (fun i _ h27 => f1 i h27)
    have hS1 := txM_congr hS (f1 25 (by decide))
    refine sp_bind (m_row τ1 hR4 (hR.1 k hk) he hC1 (show t ≤ 40 by omega) (opx bar F o k)) ?_
    rintro y σ2 τ2 ⟨rfl, rfl, g1, g2, g3⟩
    dsimp only
    have up : ∀ t', t + 1 ≤ t' → t' ≤ 40 → mW G (e (o k)) (opx bar F o k) t' σ2 := fun t' a b c hc => by rw [g3 _ (by omega)]; exact f2 t' a b c hc
    by_cases w : t = 40
    · subst w
      refine sp_bind (P := fun y σ' τ' => y = .inl () ∧ σ' = σ2 ∧ τ' = τ2) ?_ ?_
      · refine sp_loopF (fun v σ' τ' m => v = 0 ∧ σ' = σ2 ∧ τ' = τ2) 0 ⟨rfl, rfl, rfl⟩ (by decide) ?_
        rintro v σ' τ' m ⟨rfl, rfl, rfl⟩
        dsimp only
        unfold sX8_way_107
        rw [if_neg (by decide), if_pos (by decide)]
        exact sp_ret ⟨rfl, rfl, rfl⟩
      · rintro y σ3 τ3 ⟨rfl, rfl, rfl⟩
        dsimp only
        unfold bX8_way_184_in49
        refine sp_ret ⟨40, by decide, by decide, rfl, rfl, fun i hi => by rw [g1 i hi]; exact f1 i hi, fun t' a b c hc => ?_⟩
        rw [show t' = 40 by omega, g2 c hc, if_pos rfl]
    · have h0 : ∀ c, c < 36 → σ2 27 (36 * t + c) = encF none := fun c hc => by rw [g2 c hc, if_neg w]
      refine sp_bind (m_cells τ2 hR4 hR hk he (pmC_congr hC1 (fun i _ h27 => g1 i h27)) (txM_congr hS1 (g1 25 (by decide))) (show t < 40 by omega) (up (t + 1) (Nat.le_refl _) (by omega)) h0) ?_
      rintro y σ3 τ3 ⟨rfl, rfl, k1, k2, k3⟩
      dsimp only
      unfold bX8_way_184_in49
      refine sp_ret ⟨t, by omega, by omega, rfl, rfl, fun i hi => by rw [k1 i hi, g1 i hi]; exact f1 i hi, fun t' a b => ?_⟩
      by_cases z : t' = t
      · rw [z]; exact k2
      · intro c hc
        rw [k3 _ (by omega)]
        exact up t' (by omega) b c hc
theorem m_first (τ : jp_J) (hR4 : R ≤ 4) (hR : ptR R o) (hk : k < R) (he : e (o k) < 36) (hC : pmC R G bar s e o σ) (hS : txM F o k σ) {t c v : Nat} (ht : t < 40) (hc : c < 36) (hw : mW G (e (o k)) (opx bar F o k) (t + 1) σ) (hw0 : mW G (e (o k)) (opx bar F o k) t σ) (hv : pW G (e (o k)) (opx bar F o k) t c = some v) :
    sp (jp_loop (fun q : (Int32) × jp_I × jp_J => sX8_way_234 (nI k) (nI (o k)) (nI c) (nI t) q.1 q.2.1 q.2.2) jp_F (0, σ, τ)) (fun y σ' τ' => y = .inl (nI (fi (pS G (e (o k)) (opx bar F o k) t c) (pW G (e (o k)) (opx bar F o k) t c))) ∧ σ' = σ ∧ τ' = τ) := by
  obtain ⟨a1, a2, a3, a4, -⟩ := pN_spec ht hv
  refine sp_loopF (fun w σ' τ' m => ∃ i, i ≤ fi (pS G (e (o k)) (opx bar F o k) t c) (pW G (e (o k)) (opx bar F o k) t c) ∧ m = fi (pS G (e (o k)) (opx bar F o k) t c) (pW G (e (o k)) (opx bar F o k) t c) - i ∧ w = nI i ∧ σ' = σ ∧ τ' = τ) _ ⟨0, Nat.zero_le _, rfl, rfl, rfl, rfl⟩ (by omega) ?_
  rintro w σ' τ' m ⟨i, hi, rfl, rfl, rfl, rfl⟩
  dsimp only
  unfold sX8_way_234
  rw [m_step τ' hR4 hR hk he hC hS ht hc (by omega) hw, Option.bind_some]
  dsimp only
  have e1 : (36 : Int32) * nI t + nI c = nI (36 * t + c) := by rw [show (36 : Int32) = nI 36 from rfl, ni_mul, ni_add]
  refine sp_ok (by rw [e1]; exact ni_ok (by omega) (by omega)) ?_
  have h27 : σ' 27 (36 * nI t + nI c).toNatClampNeg = encF (pW G (e (o k)) (opx bar F o k) t c) := by rw [e1, ni_nat (by omega)]; exact hw0 c hc
  refine sp_if (fun z => ?_) (fun z => ?_)
  · rw [h27, encF_inj pS_lt pW_lt'] at z
    have hi2 : i = fi (pS G (e (o k)) (opx bar F o k) t c) (pW G (e (o k)) (opx bar F o k) t c) := Classical.byContradiction fun q => a3 i (by omega) z
    rw [← hi2]
    exact sp_ret ⟨rfl, rfl, rfl⟩
  · rw [h27, encF_inj pS_lt pW_lt'] at z
    have hi2 : i ≠ fi (pS G (e (o k)) (opx bar F o k) t c) (pW G (e (o k)) (opx bar F o k) t c) := by
      intro q
      rw [q] at z
      exact z a2
    exact sp_ret ⟨fi (pS G (e (o k)) (opx bar F o k) t c) (pW G (e (o k)) (opx bar F o k) t c) - (i + 1), by omega, i + 1, by omega, rfl, by rw [← ni_add]; rfl, rfl, rfl⟩
theorem m_way (τ : jp_J) (hT : ptT R G s e) (hR : ptR R o) (hR4 : R ≤ 4) (hk : k < R) (hC : pmC R G bar s e o σ) (hS : txM F o k σ) (hI : ptI G s e o k F) :
    sp (fX8_way (nI k) σ τ) (fun a σ' τ' => τ' = τ ∧ (∀ i, i ≠ 25 → i ≠ 27 → σ' i = σ i) ∧ ((pW G (e (o k)) (opx bar F o k) 0 (s (o k)) = none ∧ a = 0) ∨ ∃ v, pW G (e (o k)) (opx bar F o k) 0 (s (o k)) = some v ∧ a = 1 ∧ σ' 27 (s (o k)) = nI v ∧ txM (pnew G bar s e o k F) o (k + 1) σ')) := by
  obtain ⟨a1, a2, a3, a4, a5, a6⟩ := id hC
  have hok := hR.1 k hk
  have hs := opn_lt (hT.1 _ hok).1
  have he := opn_lt (hT.1 _ hok).2
  have hq : σ 26 (nI k).toNatClampNeg = nI (o k) := by rw [ni_nat (by omega)]; exact a6 k hk
  unfold fX8_way
  rw [hq]
  refine sp_ok (ni_ok (by omega) (by omega)) ?_
  refine sp_bind (P := fun y σ' τ' => y = .inl () ∧ σ' = σ ∧ τ' = τ) ?_ ?_
  · refine sp_for (fun x σ' τ' => σ' = σ ∧ τ' = τ) 0 k (Nat.zero_le _) (by omega) ⟨rfl, rfl⟩ ?_ ?_
    · rintro x σ' τ' - hx ⟨rfl, rfl⟩
      dsimp only
      have hox := hR.1 x (by omega)
      unfold sX8_way_9
      have e1 : 160 * σ' 26 (nI x).toNatClampNeg = nI (160 * o x) := by rw [ni_nat (by omega), a6 x (by omega), show (160 : Int32) = nI 160 from rfl, ni_mul]
      rw [if_neg (by rw [ni_le (by omega) (by omega)]; omega), e1]
      refine sp_ok (ni_ok (by omega) (by omega)) (sp_ok (ni_ok (by omega) (by omega)) (sp_ok (ni_ok (by omega) (by omega)) ?_))
      obtain ⟨b1, b2⟩ := hS x 0 hx (by omega)
      rw [Nat.add_zero, (hI.1 x hx).1] at b2
      rw [(hI.1 x hx).1] at b1
      rw [if_neg]
      · exact sp_ret ⟨by rw [← ni_add]; rfl, rfl, rfl⟩
      · rw [ni_nat (by omega), ni_nat (by omega), b2, a4 _ hok, ni_inj (by omega) (by omega)]
        intro q
        have := hR.2.1 x k (by omega) hk (hT.2.1 _ _ hox hok q)
        omega
    · rintro σ' τ' ⟨rfl, rfl⟩
      dsimp only
      unfold sX8_way_9
      rw [if_pos (by rw [ni_le (by omega) (by omega)]; omega)]
      exact sp_ret ⟨rfl, rfl, rfl⟩
  · rintro y σ0 τ0 ⟨rfl, rfl, rfl⟩
    dsimp only
    refine sp_bind (m_table τ0 hR4 hR hk he hC hS) ?_
    rintro y σ1 τ1 ⟨rfl, rfl, f1, f2⟩
    dsimp only
    have h22 : σ1 22 (nI (o k)).toNatClampNeg = nI (s (o k)) := by rw [ni_nat (by omega), f1 22 (by decide)]; exact a4 _ hok
    have h27' : σ1 27 (s (o k)) = encF (pW G (e (o k)) (opx bar F o k) 0 (s (o k))) := by
      have := f2 0 (by decide) (s (o k)) hs
      rw [Nat.mul_zero, Nat.zero_add] at this
      exact this
    have h27 : σ1 27 (σ1 22 (nI (o k)).toNatClampNeg).toNatClampNeg = encF (pW G (e (o k)) (opx bar F o k) 0 (s (o k))) := by rw [h22, ni_nat (by omega)]; exact h27'
    refine sp_ok (ni_ok (by omega) (by omega)) (sp_ok (by rw [h22]; exact ni_ok (by omega) (by omega)) ?_)
    refine sp_if (fun z => ?_) (fun z => ?_)
    · rw [h27, encF_lt pW_lt'] at z
      cases hv : pW G (e (o k)) (opx bar F o k) 0 (s (o k)) with
      | none => exact absurd hv z
      | some v =>
        have hopn := pP_opn hv (hT.1 _ hok).1
        have e0 : (160 : Int32) * nI (o k) = nI (160 * o k) := by rw [show (160 : Int32) = nI 160 from rfl, ni_mul]
        refine sp_ok (by rw [e0]; exact ni_ok (by omega) (by omega)) ?_
        rw [h22, e0, ni_nat (by omega)]
        refine sp_bind (P := fun x σ' τ' => x = .inl () ∧ τ' = τ1 ∧ (∀ i, i ≠ 25 → σ' i = σ1 i) ∧ (∀ t, t ≤ 40 → σ' 25 (160 * o k + t) = nI (pP G (e (o k)) (opx bar F o k) (s (o k)) t)) ∧ ∀ r t, r ≠ o k → t ≤ 40 → σ' 25 (160 * r + t) = σ1 25 (160 * r + t)) ?_ ?_
        · refine sp_loopF (fun w σ' τ' m => ∃ t, t ≤ 40 ∧ m = 40 - t ∧ w = (nI (pP G (e (o k)) (opx bar F o k) (s (o k)) t), nI t) ∧ τ' = τ1 ∧ (∀ i, i ≠ 25 → σ' i = σ1 i) ∧ (∀ t', t' ≤ t → σ' 25 (160 * o k + t') = nI (pP G (e (o k)) (opx bar F o k) (s (o k)) t')) ∧ ∀ r t', r ≠ o k → t' ≤ 40 → σ' 25 (160 * r + t') = σ1 25 (160 * r + t')) 40 ⟨0, by decide, rfl, rfl, rfl, fun i hi => jp_up_n _ _ hi, fun t' ht' => ?_, fun r t' h1 h2 => ?_⟩ (by decide) ?_
          · rw [show t' = 0 by omega, Nat.add_zero, jp_up_eq]
            rfl
          · rw [jp_up_ne _ _ _ (by omega)]
          · rintro w σ2 τ2 m ⟨t, ht, rfl, rfl, rfl, g1, g2, g3⟩
            dsimp only
            unfold sX8_way_224
            by_cases q : t = 40
            · subst q
              rw [if_pos (by decide)]
              exact sp_ret ⟨rfl, rfl, g1, g2, g3⟩
            · obtain ⟨u, hu⟩ := pP_spec hv t ht
              have g27 := g1 27 (by decide)
              have hC2 : pmC R G bar s e o σ2 := pmC_congr hC (fun i h25 h27 => by rw [g1 i h25, f1 i h27])
              have hS2 : txM F o k σ2 := fun x t' hx ht' => by
                rw [g3 _ _ (fun q => by have := hR.2.1 x k (by omega) hk q; omega) ht', f1 25 (by decide)]
                exact hS x t' hx ht'
              have hW : ∀ t', t' ≤ 40 → mW G (e (o k)) (opx bar F o k) t' σ2 := fun t' h c hc => by rw [g27]; exact f2 t' h c hc
              rw [if_neg (by rw [show (40 : Int32) = nI 40 from rfl, ni_le (by decide) (by omega)]; omega)]
              refine sp_bind (m_first τ2 hR4 hR hk he hC2 hS2 (show t < 40 by omega) (opn_lt (hopn t ht)) (hW (t + 1) (by omega)) (hW t ht) hu) ?_
              rintro y σ3 τ3 ⟨rfl, rfl, rfl⟩
              dsimp only
              obtain ⟨b1, b2, b3, b4, -⟩ := pN_spec (show t < 40 by omega) hu
              have b5 : mvc G (pP G (e (o k)) (opx bar F o k) (s (o k)) t) (fi (pS G (e (o k)) (opx bar F o k) t (pP G (e (o k)) (opx bar F o k) (s (o k)) t)) (pW G (e (o k)) (opx bar F o k) t (pP G (e (o k)) (opx bar F o k) (s (o k)) t))) = some (pP G (e (o k)) (opx bar F o k) (s (o k)) (t + 1)) := by
                rw [tgt_mvc (hopn t ht)] at b4
                exact b4
              rw [m_moved τ3 hC2.1 (opn_lt (hopn t ht)) b1, Option.bind_some, b5]
              dsimp only
              have e2 : (160 : Int32) * nI (o k) + nI t + 1 = nI (160 * o k + (t + 1)) := by rw [e0, ni_add]; exact ni_add _ 1
              refine sp_ok (by rw [e2]; exact ni_ok (by omega) (by omega)) ?_
              rw [e2, ni_nat (by omega)]
              refine sp_ret ⟨40 - (t + 1), by omega, t + 1, by omega, rfl, by rw [← ni_add t 1]; rfl, rfl, fun i hi => by rw [jp_up_n _ _ hi]; exact g1 i hi, fun t' ht' => ?_, fun r t' h1 h2 => ?_⟩
              · by_cases z : t' = t + 1
                · rw [z, jp_up_eq]; rfl
                · rw [jp_up_ne _ _ _ (by omega)]
                  exact g2 t' (by omega)
              · rw [jp_up_ne _ _ _ (by omega)]
                exact g3 r t' h1 h2
        · rintro x σ2 τ2 ⟨rfl, rfl, g1, g2, g3⟩
          dsimp only
          refine sp_ret ⟨rfl, fun i h25 h27 => by rw [g1 i h25, f1 i h27], Or.inr ⟨v, rfl, rfl, by rw [g1 27 (by decide), h27', hv]; rfl, fun x t hx ht => ?_⟩⟩
          by_cases q : x = k
          · subst q
            rw [pnew_new]
            exact ⟨opn_lt (hopn t ht), g2 t ht⟩
          · have hx' : x < k := by omega
            rw [pnew_old hR hk hx', g3 _ _ (fun q => by have := hR.2.1 x k (by omega) hk q; omega) ht, f1 25 (by decide)]
            exact hS x t hx' ht
    · rw [h27, encF_lt pW_lt'] at z
      have hv : pW G (e (o k)) (opx bar F o k) 0 (s (o k)) = none := Classical.byContradiction z
      exact sp_ret ⟨rfl, fun i _ h27 => f1 i h27, Or.inl ⟨hv, rfl⟩⟩
theorem m_ways (τ : jp_J) (hT : ptT R G s e) (hR : ptR R o) (hR4 : R ≤ 4) (hC : pmC R G bar s e o σ) :
    sp (fX8_ways σ τ) (fun a σ' τ' => τ' = τ ∧ (∀ i, i ≠ 25 → i ≠ 27 → σ' i = σ i) ∧ ((rn G bar s e o R = none ∧ a = -1) ∨ ∃ c F, rn G bar s e o R = some (c, F) ∧ a = nI c ∧ ∀ r t, r < R → t ≤ 40 → σ' 25 (160 * r + t) = nI (F r t))) := by
  unfold fX8_ways
  refine sp_bind (P := fun y σ' τ' => τ' = τ ∧ (∀ i, i ≠ 25 → i ≠ 27 → σ' i = σ i) ∧ ((rn G bar s e o R = none ∧ y = .inr (-1)) ∨ ∃ c F, rn G bar s e o R = some (c, F) ∧ y = .inl (nI c) ∧ txM F o R σ')) ?_ ?_
  · refine sp_loopF (fun w σ' τ' m => ∃ k c F, k ≤ R ∧ m = R - k ∧ w = (nI c, nI k) ∧ τ' = τ ∧ (∀ i, i ≠ 25 → i ≠ 27 → σ' i = σ i) ∧ rn G bar s e o k = some (c, F) ∧ txM F o k σ') R ⟨0, 0, fun _ _ => 0, Nat.zero_le _, rfl, rfl, rfl, fun _ _ _ => rfl, rfl, fun x t h => absurd h (Nat.not_lt_zero _)⟩ (by omega) ?_
    rintro w σ1 τ1 m ⟨k, c, F, hk, rfl, rfl, rfl, f1, f4, f5⟩
    have hC1 := pmC_congr hC f1
    dsimp only
    unfold sX8_ways_4
    rw [hC1.2.1]
    by_cases q : k = R
    · subst q
      rw [if_pos (by rw [ni_le (by omega) (by omega)]; omega)]
      exact sp_ret ⟨rfl, f1, Or.inr ⟨c, F, f4, rfl, f5⟩⟩
    · have hk' : k < R := by omega
      have hok := hR.1 k hk'
      have hs := opn_lt (hT.1 _ hok).1
      obtain ⟨hI, hc⟩ := rn_ok hT hR hk f4
      rw [if_neg (by rw [ni_le (by omega) (by omega)]; omega)]
      refine sp_bind (m_way τ1 hT hR hR4 hk' hC1 f5 hI) ?_
      rintro a σ2 τ2 ⟨rfl, g1, ⟨hv, rfl⟩ | ⟨v, hv, rfl, g2, g3⟩⟩
      · dsimp only
        rw [if_pos rfl]
        exact sp_ret ⟨rfl, fun i h25 h27 => by rw [g1 i h25 h27]; exact f1 i h25 h27, Or.inl ⟨rn_n f4 hv R (by omega), rfl⟩⟩
      · have hC2 := pmC_congr hC1 g1
        dsimp only
        have h26 : σ2 26 (nI k).toNatClampNeg = nI (o k) := by rw [ni_nat (by omega)]; exact hC2.2.2.2.2.2 k hk'
        have h22 : σ2 22 (σ2 26 (nI k).toNatClampNeg).toNatClampNeg = nI (s (o k)) := by rw [h26, ni_nat (by omega)]; exact hC2.2.2.2.1 _ hok
        rw [if_neg (by decide)]
        refine sp_ok (ni_ok (by omega) (by omega)) (sp_ok (by rw [h26]; exact ni_ok (by omega) (by omega)) (sp_ok (by rw [h22]; exact ni_ok (by omega) (by omega)) ?_))
        rw [h22, ni_nat (by omega), g2, ni_add]
        exact sp_ret ⟨R - (k + 1), by omega, k + 1, c + v, pnew G bar s e o k F, by omega, rfl, by rw [← ni_add k 1]; rfl, rfl, fun i h25 h27 => by rw [g1 i h25 h27]; exact f1 i h25 h27, rn_s f4 hv, g3⟩
  · rintro y σ1 τ1 ⟨rfl, f1, ⟨h1, rfl⟩ | ⟨c, F, h1, rfl, h2⟩⟩
    · exact sp_ret ⟨rfl, f1, Or.inl ⟨h1, rfl⟩⟩
    · refine sp_ret ⟨rfl, f1, Or.inr ⟨c, F, h1, rfl, fun r t hr ht => ?_⟩⟩
      obtain ⟨x, hx, rfl⟩ := hR.2.2 r hr
      exact (h2 x t hx ht).2
end PN
