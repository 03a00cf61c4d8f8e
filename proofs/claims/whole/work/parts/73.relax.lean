-- the reference's distance: lowered until nothing is lowered
def sm (K : Nat → Nat) : Nat → Nat
  | 0 => 0
  | n + 1 => sm K n + K n
theorem sm_out (K : Nat → Nat) (c v : Nat) : ∀ n, n ≤ c → sm (fup K c v) n = sm K n
  | 0, _ => rfl
  | n + 1, h => by
    unfold sm
    rw [sm_out K c v n (by omega), fup_n _ _ (by omega)]
theorem sm_fup (K : Nat → Nat) (c v : Nat) : ∀ n, c < n → sm (fup K c v) n + K c = sm K n + v
  | 0, h => absurd h (Nat.not_lt_zero _)
  | n + 1, h => by
    unfold sm
    by_cases z : c = n
    · subst z
      rw [sm_out K c v c (Nat.le_refl _), fup_s]
      omega
    · have := sm_fup K c v n (by omega)
      rw [fup_n _ _ (by omega)]
      omega
theorem sm_le {K : Nat → Nat} {B : Nat} : ∀ n, (∀ c, c < n → K c ≤ B) → sm K n ≤ n * B
  | 0, _ => by simp [sm]
  | n + 1, h => by
    unfold sm
    have h1 := sm_le n (fun c hc => h c (by omega))
    have h2 := h n (by omega)
    rw [Nat.add_mul, Nat.one_mul]
    omega
def rxI (G : gG) (e : Nat) (K : Nat → Nat) (σ : jp_I) : Prop := (∀ c, c < 36 → σ 27 c = nI (K c) ∧ K c ≤ 1000000) ∧ K e = 0 ∧ ∀ c, c < 36 → K c < 1000000 → wk (opn G) (K c) c e
def rxC (G : gG) (K : Nat → Nat) (c m : Nat) : Prop := ∀ d, nb c m = some d → opn G c = true → opn G d = true → K c ≤ K d + 1
/-- where a pass stands: nothing lowered yet, or the sum has fallen -/
def rxF (G : gG) (K0 K : Nat → Nat) (f c m : Nat) : Prop := (f = 0 ∧ K = K0 ∧ (∀ c', c' < c → ∀ m', 1 ≤ m' → m' < 5 → rxC G K0 c' m') ∧ ∀ m', 1 ≤ m' → m' < m → rxC G K0 c m') ∨ (f = 1 ∧ sm K 36 < sm K0 36)
theorem mvc_some {G : gG} {c m d : Nat} (h : mvc G c m = some d) : nb c m = some d ∧ opn G d = true := by
  have h2 := mvc_opn h
  unfold mvc at h
  cases q : nb c m with
  | none => rw [q] at h; cases h
  | some x =>
    rw [q] at h
    simp only [Option.filter] at h
    split at h
    · cases h; exact ⟨rfl, h2⟩
    · cases h
theorem mvc_of {G : gG} {c m d : Nat} (h : nb c m = some d) (ho : opn G d = true) : mvc G c m = some d := by
  unfold mvc
  rw [h]
  simp [Option.filter, ho]
theorem m_rx1 {G : gG} {e c f : Nat} {K0 K : Nat → Nat} {p : Int32} {σ : jp_I} (τ : jp_J) (hM : scM G σ) (hc : c < 36) (hI : rxI G e K σ) (hF : rxF G K0 K f c 1) :
    sp (jp_loop (fun q : (Int32 × Int32) × jp_I × jp_J => sX8_distance_53 p q.1.1 (nI c) q.1.2 q.2.1 q.2.2) jp_F ((nI f, nI 1), σ, τ)) (fun x σ' τ' => τ' = τ ∧ (∀ i, i ≠ 27 → σ' i = σ i) ∧ ∃ (f' : Nat) (K' : Nat → Nat), x = .inl (nI f') ∧ rxI G e K' σ' ∧ rxF G K0 K' f' (c + 1) 1) := by
  refine sp_loopF (fun v σ' τ' m => ∃ (mm f' : Nat) (K' : Nat → Nat), 1 ≤ mm ∧ mm ≤ 5 ∧ m = 5 - mm ∧ v = (nI f', nI mm) ∧ τ' = τ ∧ (∀ i, i ≠ 27 → σ' i = σ i) ∧ rxI G e K' σ' ∧ rxF G K0 K' f' c mm) 4 ⟨1, f, K, by decide, by decide, rfl, rfl, rfl, fun _ _ => rfl, hI, hF⟩ (by decide) ?_
  rintro v σ1 τ1 m ⟨mm, f1, K1, hm1, hm5, rfl, rfl, rfl, hfr, hI1, hF1⟩
  dsimp only
  unfold sX8_distance_53
  have hM1 : scM G σ1 := scM_congr hM (by rw [hfr 20 (by decide)]) (by rw [hfr 20 (by decide)]) (hfr 21 (by decide))
  have hKc := hI1.1 c hc
  rw [show (5 : Int32) = nI 5 from rfl]
  refine sp_if (fun z => ?_) (fun z => ?_)
  · rw [ni_le (by decide) (by omega)] at z
    have : mm = 5 := by omega
    subst this
    refine sp_ret ⟨rfl, hfr, f1, K1, rfl, hI1, ?_⟩
    rcases hF1 with ⟨a1, a2, a3, a4⟩ | h
    · refine Or.inl ⟨a1, a2, fun c' hc' m' h1 h2 => ?_, fun m' h1 h2 => absurd h1 (by omega)⟩
      by_cases w : c' = c
      · subst w; exact a4 m' h1 h2
      · exact a3 c' (by omega) m' h1 h2
    · exact Or.inr h
  · rw [ni_le (by decide) (by omega)] at z
    refine sp_seq (m_outside τ1 hM1 hc) ?_
    dsimp only
    cases ho : opn G c with
    | false =>
      rw [if_neg (by decide)]
      refine sp_ret ⟨rfl, hfr, f1, K1, rfl, hI1, ?_⟩
      rcases hF1 with ⟨a1, a2, a3, a4⟩ | h
      · refine Or.inl ⟨a1, a2, fun c' hc' m' h1 h2 => ?_, fun m' h1 h2 => absurd h1 (by omega)⟩
        by_cases w : c' = c
        · subst w
          intro d hd h3
          rw [ho] at h3; cases h3
        · exact a3 c' (by omega) m' h1 h2
      · exact Or.inr h
    | true =>
      rw [if_pos (show bI (!true) = 0 from rfl)]
      refine sp_seq (m_moved τ1 hM1 hc (show mm < 5 by omega)) ?_
      dsimp only
      have next : ∀ (f2 : Nat) (K2 : Nat → Nat) (σ2 : jp_I), (∀ i, i ≠ 27 → σ2 i = σ i) → rxI G e K2 σ2 → rxF G K0 K2 f2 c (mm + 1) → sp (bX8_distance_116_in53 p (nI f2) (nI c) (nI mm) σ2 τ1) (sp_R (fun v σ' τ' m => ∃ (mm f' : Nat) (K' : Nat → Nat), 1 ≤ mm ∧ mm ≤ 5 ∧ m = 5 - mm ∧ v = (nI f', nI mm) ∧ τ' = τ1 ∧ (∀ i, i ≠ 27 → σ' i = σ i) ∧ rxI G e K' σ' ∧ rxF G K0 K' f' c mm) (5 - mm) (fun x σ' τ' => τ' = τ1 ∧ (∀ i, i ≠ 27 → σ' i = σ i) ∧ ∃ (f' : Nat) (K' : Nat → Nat), x = .inl (nI f') ∧ rxI G e K' σ' ∧ rxF G K0 K' f' (c + 1) 1)) := by
        intro f2 K2 σ2 h1 h2 h3
        unfold bX8_distance_116_in53
        exact sp_ret ⟨5 - (mm + 1), by omega, mm + 1, f2, K2, by omega, by omega, rfl, by rw [← ni_add]; rfl, rfl, h1, h2, h3⟩
      have ext : (∀ K', rxF G K0 K' f1 c mm → K' = K1 → rxC G K1 c mm → rxF G K0 K' f1 c (mm + 1)) := by
        intro K' hF' hK' hC
        rcases hF' with ⟨a1, a2, a3, a4⟩ | h
        · refine Or.inl ⟨a1, a2, a3, fun m' h1 h2 => ?_⟩
          by_cases w : m' = mm
          · subst w; rw [← a2, hK']; exact hC
          · exact a4 m' h1 (by omega)
        · exact Or.inr h
      cases eM : mvc G c mm with
      | none =>
        show sp (if (-1 : Int32) < 0 then _ else _) _
        rw [if_pos (by decide)]
        refine next f1 K1 σ1 hfr hI1 (ext K1 hF1 rfl ?_)
        intro d hd _ h3
        rw [mvc_of hd h3] at eM
        cases eM
      | some d =>
        obtain ⟨hnb, hdo⟩ := mvc_some eM
        have hd36 := opn_lt hdo
        have hKd := hI1.1 d hd36
        rw [show enc (some d) = nI d from rfl, if_neg (ni_nn (by omega)), if_pos (ni_ok (by omega) (by omega)), if_pos (ni_ok (by omega) (by omega)), ni_nat (show d < 2147483648 by omega), ni_nat (show c < 2147483648 by omega)]
        refine sp_if (fun y => ?_) (fun y => ?_)
        · rw [hKc.1, hKd.1, show (1 : Int32) = nI 1 from rfl, ni_add, ni_le (by omega) (by omega)] at y
          refine next f1 K1 σ1 hfr hI1 (ext K1 hF1 rfl ?_)
          intro d' hd' _ _
          rw [hnb] at hd'
          cases hd'
          exact y
        · rw [hKc.1, hKd.1, show (1 : Int32) = nI 1 from rfl, ni_add, ni_le (by omega) (by omega)] at y
          rw [if_pos (ni_ok (by omega) (by omega)), if_pos (ni_ok (by omega) (by omega)), hKd.1, show nI (K1 d) + 1 = nI (K1 d + 1) from by rw [← ni_add]; rfl]
          have hadj : adj c d = true := adj_iff.mpr ⟨mm, hm1, by omega, hnb⟩
          have hne : d ≠ c := fun w => adj_ne hc hadj w.symm
          have hce : c ≠ e := by
            rintro rfl
            rw [hI1.2.1] at y
            omega
          refine next 1 (fup K1 c (K1 d + 1)) _ (fun i hi => by rw [jp_up_n _ _ hi]; exact hfr i hi) ⟨fun x hx => ?_, by rw [fup_n _ _ (fun w => hce w.symm)]; exact hI1.2.1, fun x hx hlt => ?_⟩ ?_
          · by_cases w : x = c
            · subst w
              rw [jp_up_eq, fup_s]
              exact ⟨rfl, by omega⟩
            · rw [jp_up_ne _ _ _ w, fup_n _ _ w]
              exact hI1.1 x hx
          · by_cases w : x = c
            · subst w
              rw [fup_s] at hlt ⊢
              exact ⟨ho, d, hadj, hI1.2.2 d hd36 (by omega)⟩
            · rw [fup_n _ _ w] at hlt ⊢
              exact hI1.2.2 x hx hlt
          · refine Or.inr ⟨rfl, ?_⟩
            have hs := sm_fup K1 c (K1 d + 1) 36 hc
            rcases hF1 with ⟨a1, a2, -⟩ | h
            · rw [a2] at hs y ⊢
              omega
            · omega
theorem m_rx2 {G : gG} {e : Nat} {K0 : Nat → Nat} {p : Int32} {σ : jp_I} (τ : jp_J) (hM : scM G σ) (hI : rxI G e K0 σ) :
    sp (jp_loop (fun q : (Int32 × Int32) × jp_I × jp_J => sX8_distance_44 p q.1.1 q.1.2 q.2.1 q.2.2) jp_F ((nI 0, nI 0), σ, τ)) (fun x σ' τ' => τ' = τ ∧ (∀ i, i ≠ 27 → σ' i = σ i) ∧ ∃ (f' : Nat) (K' : Nat → Nat), x = .inl (nI f') ∧ rxI G e K' σ' ∧ rxF G K0 K' f' 36 1) := by
  refine sp_loopF (fun v σ' τ' m => ∃ (c f' : Nat) (K' : Nat → Nat), c ≤ 36 ∧ m = 36 - c ∧ v = (nI f', nI c) ∧ τ' = τ ∧ (∀ i, i ≠ 27 → σ' i = σ i) ∧ rxI G e K' σ' ∧ rxF G K0 K' f' c 1) 36 ⟨0, 0, K0, by decide, rfl, rfl, rfl, fun _ _ => rfl, hI, Or.inl ⟨rfl, rfl, fun c' hc' => absurd hc' (Nat.not_lt_zero _), fun m' h1 h2 => absurd h1 (by omega)⟩⟩ (by decide) ?_
  rintro v σ1 τ1 m ⟨c, f1, K1, hc, rfl, rfl, rfl, hfr, hI1, hF1⟩
  dsimp only
  unfold sX8_distance_44
  have hM1 : scM G σ1 := scM_congr hM (by rw [hfr 20 (by decide)]) (by rw [hfr 20 (by decide)]) (hfr 21 (by decide))
  rw [show (36 : Int32) = nI 36 from rfl]
  refine sp_if (fun z => ?_) (fun z => ?_)
  · rw [ni_le (by decide) (by omega)] at z
    have : c = 36 := by omega
    subst this
    exact sp_ret ⟨rfl, hfr, f1, K1, rfl, hI1, hF1⟩
  · rw [ni_le (by decide) (by omega)] at z
    refine sp_bind (m_rx1 (p := p) τ1 hM1 (show c < 36 by omega) hI1 hF1) ?_
    rintro x σ2 τ2 ⟨rfl, h1, f2, K2, rfl, h2, h3⟩
    dsimp only
    unfold bX8_distance_122_in44
    exact sp_ret ⟨36 - (c + 1), by omega, c + 1, f2, K2, by omega, rfl, by rw [← ni_add]; rfl, rfl, fun i hi => by rw [h1 i hi]; exact hfr i hi, h2, h3⟩
theorem m_rx3 {G : gG} {e : Nat} {K : Nat → Nat} {p : Int32} {σ : jp_I} (τ : jp_J) (hM : scM G σ) (hI : rxI G e K σ) :
    sp (jp_loop (fun q : (Int32) × jp_I × jp_J => sX8_distance_36 p q.1 q.2.1 q.2.2) jp_F (nI 1, σ, τ)) (fun x σ' τ' => τ' = τ ∧ (∀ i, i ≠ 27 → σ' i = σ i) ∧ ∃ (K' : Nat → Nat), x = .inl () ∧ rxI G e K' σ' ∧ ∀ c, c < 36 → ∀ m, 1 ≤ m → m < 5 → rxC G K' c m) := by
  refine sp_loopF (fun v σ' τ' m => ∃ (f' : Nat) (K' : Nat → Nat), f' ≤ 1 ∧ m = sm K' 36 + f' ∧ v = nI f' ∧ τ' = τ ∧ (∀ i, i ≠ 27 → σ' i = σ i) ∧ rxI G e K' σ' ∧ (f' = 0 → ∀ c, c < 36 → ∀ m, 1 ≤ m → m < 5 → rxC G K' c m)) (sm K 36 + 1) ⟨1, K, by decide, rfl, rfl, rfl, fun _ _ => rfl, hI, fun q => absurd q (by decide)⟩ (by have := sm_le 36 (fun c hc => (hI.1 c hc).2); omega) ?_
  rintro v σ1 τ1 m ⟨f1, K1, hf1, rfl, rfl, rfl, hfr, hI1, hcl⟩
  dsimp only
  unfold sX8_distance_36
  have hM1 : scM G σ1 := scM_congr hM (by rw [hfr 20 (by decide)]) (by rw [hfr 20 (by decide)]) (hfr 21 (by decide))
  refine sp_if (fun z => ?_) (fun z => ?_)
  · have z0 : f1 = 0 := by
      rw [show (0 : Int32) = nI 0 from rfl, ni_inj (by omega) (by decide)] at z
      exact z
    exact sp_ret ⟨rfl, hfr, K1, rfl, hI1, hcl z0⟩
  · have z0 : f1 = 1 := by
      rw [show (0 : Int32) = nI 0 from rfl, ni_inj (by omega) (by decide)] at z
      omega
    refine sp_bind (m_rx2 (p := p) τ1 hM1 hI1) ?_
    rintro x σ2 τ2 ⟨rfl, h1, f2, K2, rfl, h2, h3⟩
    dsimp only
    rcases h3 with ⟨a1, a2, a3, -⟩ | ⟨a1, a2⟩
    · refine sp_ret ⟨sm K2 36 + f2, by rw [a2, a1, z0]; omega, f2, K2, by omega, rfl, rfl, rfl, fun i hi => by rw [h1 i hi]; exact hfr i hi, h2, fun _ => by rw [a2]; exact a3⟩
    · exact sp_ret ⟨sm K2 36 + f2, by omega, f2, K2, by omega, rfl, rfl, rfl, fun i hi => by rw [h1 i hi]; exact hfr i hi, h2, fun q => by omega⟩
theorem m_distance {G : gG} {R r s e : Nat} {σ : jp_I} (τ : jp_J) (hM : scM G σ) (hr : r < 4) (h22 : σ 22 r = nI s) (h23 : σ 23 r = nI e) (hs : opn G s = true) (he : opn G e = true) : sp (fX8_distance (nI r) σ τ) (fun v σ' τ' => τ' = τ ∧ (∀ i, i ≠ 27 → σ' i = σ i) ∧ ∃ o, isD (opn G) s e o ∧ v = enc o) := by
  have hs36 := opn_lt hs
  have he36 := opn_lt he
  unfold fX8_distance
  refine sp_bind (P := fun x σ' τ' => x = .inl () ∧ τ' = τ ∧ (∀ i, i ≠ 27 → σ' i = σ i) ∧ ∀ c, c < 36 → σ' 27 c = nI 1000000) ?_ ?_
  · refine sp_for (fun i σ' τ' => τ' = τ ∧ (∀ i, i ≠ 27 → σ' i = σ i) ∧ ∀ c, c < i → σ' 27 c = nI 1000000) 0 36 (by decide) (by decide) ⟨rfl, fun _ _ => rfl, fun c hc => absurd hc (Nat.not_lt_zero _)⟩ ?_ ?_
    · rintro i σ1 τ1 - hi ⟨rfl, h1, h2⟩
      dsimp only
      unfold sX8_distance_2
      rw [show (36 : Int32) = nI 36 from rfl, if_neg (by rw [ni_le (by decide) (by omega)]; omega), if_pos (ni_ok (by omega) (by omega)), ni_nat (by omega)]
      refine sp_ret ⟨by rw [← ni_add]; rfl, rfl, fun i hi => by rw [jp_up_n _ _ hi]; exact h1 i hi, fun c hc => ?_⟩
      by_cases w : c = i
      · rw [w, jp_up_eq]; rfl
      · rw [jp_up_ne _ _ _ w]; exact h2 c (by omega)
    · rintro σ1 τ1 ⟨rfl, h1, h2⟩
      dsimp only
      unfold sX8_distance_2
      rw [if_pos (by decide)]
      exact sp_ret ⟨rfl, rfl, h1, h2⟩
  · rintro x σ1 τ1 ⟨rfl, rfl, h1, h2⟩
    dsimp only
    rw [if_pos (ni_ok (by omega) hr), ni_nat (by omega), h1 23 (by decide), h23, if_pos (ni_ok (by omega) (by omega)), ni_nat (by omega)]
    have hM1 : scM G (jp_up σ1 27 e 0) := scM_congr hM (by rw [jp_up_n _ _ (by decide), h1 20 (by decide)]) (by rw [jp_up_n _ _ (by decide), h1 20 (by decide)]) (by rw [jp_up_n _ _ (by decide), h1 21 (by decide)])
    have hI1 : rxI G e (fup (fun _ => 1000000) e 0) (jp_up σ1 27 e 0) := by
      refine ⟨fun c hc => ?_, fup_s _ _ _, fun c hc hlt => ?_⟩
      · by_cases w : c = e
        · subst w; rw [jp_up_eq, fup_s]; exact ⟨rfl, by decide⟩
        · rw [jp_up_ne _ _ _ w, fup_n _ _ w]; exact ⟨h2 c hc, Nat.le_refl _⟩
      · by_cases w : c = e
        · subst w; rw [fup_s]; exact ⟨rfl, he⟩
        · rw [fup_n _ _ w] at hlt; omega
    refine sp_bind (m_rx3 (p := nI r) τ1 hM1 hI1) ?_
    rintro x σ2 τ2 ⟨rfl, f1, K, rfl, hI, hcl⟩
    dsimp only
    have h22' : σ2 22 r = nI s := by rw [f1 22 (by decide), jp_up_n _ _ (by decide), h1 22 (by decide)]; exact h22
    refine sp_ok (ni_ok (by omega) hr) (sp_ok (by rw [h22']; exact ni_ok (by omega) (by omega)) ?_)
    have low : ∀ k c, wk (opn G) k c e → K c ≤ k := by
      intro k
      induction k with
      | zero => rintro c ⟨rfl, -⟩; rw [hI.2.1]; exact Nat.le_refl _
      | succ k ih =>
        rintro c ⟨h3, d, h4, h5⟩
        obtain ⟨m, hm1, hm2, hm3⟩ := adj_iff.mp h4
        have := hcl c (opn_lt h3) m hm1 hm2 d hm3 h3 (wk_l h5)
        have := ih d h5
        omega
    have fr : ∀ i, i ≠ 27 → σ2 i = σ i := fun i hi => by rw [f1 i hi, jp_up_n _ _ hi]; exact h1 i hi
    have hKs := (hI.1 s hs36).2
    refine sp_if (fun z => ?_) (fun z => ?_)
    · rw [h22', ni_nat (by omega), (hI.1 s hs36).1, show (1000000 : Int32) = nI 1000000 from rfl, ni_lt (by omega) (by decide)] at z
      refine sp_ok (ni_ok (by omega) hr) (sp_ok (by rw [h22']; exact ni_ok (by omega) (by omega)) ?_)
      rw [h22', ni_nat (by omega), (hI.1 s hs36).1]
      have hw := hI.2.2 s hs36 z
      obtain ⟨j, hj, hj2⟩ := wk_short (fun c hc => opn_lt hc) hw
      have := low j s hj2
      exact sp_ret ⟨rfl, fr, some (K s), ⟨fun k hk => by cases hk; exact ⟨by omega, hw, fun j hj => low j s hj⟩, fun q => by cases q⟩, rfl⟩
    · rw [h22', ni_nat (by omega), (hI.1 s hs36).1, show (1000000 : Int32) = nI 1000000 from rfl, ni_lt (by omega) (by decide)] at z
      refine sp_ret ⟨rfl, fr, none, ⟨fun k hk => (by cases hk), fun _ j hj => ?_⟩, rfl⟩
      obtain ⟨i, hi, hi2⟩ := wk_short (fun c hc => opn_lt hc) hj
      have := low i s hi2
      omega
