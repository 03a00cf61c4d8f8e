-- the class's way: breadth first
def fup {α : Type} (f : Nat → α) (k : Nat) (v : α) : Nat → α := fun i => if i = k then v else f i
theorem fup_s {α : Type} (f : Nat → α) (k : Nat) (v : α) : fup f k v k = v := by simp [fup]
theorem fup_n {α : Type} (f : Nat → α) {k i : Nat} (v : α) (h : i ≠ k) : fup f k v i = f i := by simp [fup, h]
/-- what has been reached: t cells q 0 .. in the queue, at distances dq; Dv by cell -/
def bfI (S : Nat → Bool) (a t : Nat) (q dq : Nat → Nat) (Dv : Nat → Option Nat) (σ : jp_I) : Prop :=
  (∀ c, c < 36 → σ 7 c = enc (Dv c)) ∧ (∀ i, i < t → σ 8 i = nI (q i) ∧ S (q i) = true ∧ Dv (q i) = some (dq i) ∧ dq i ≤ i ∧ wk S (dq i) a (q i)) ∧
  (∀ c, c < 36 → Dv c ≠ none → ∃ i, i < t ∧ q i = c) ∧ wc (fun c => (Dv c).isSome) 36 = t ∧ (∀ i j, i ≤ j → j < t → dq i ≤ dq j) ∧ 0 < t ∧ q 0 = a ∧ dq 0 = 0
def bfP (S : Nat → Bool) (h : Nat) (q dq : Nat → Nat) (Dv : Nat → Option Nat) : Prop := ∀ i, i < h → ∀ d, adj (q i) d = true → S d = true → ∃ k, Dv d = some k ∧ k ≤ dq i + 1
theorem tgt_opn {G : gG} {c m : Nat} (h : opn G c = true) : tgt G c m = (nb c m).filter (opn G) := by
  unfold tgt
  rw [if_pos h]
  rfl
theorem s_spread {G : gG} {a t h : Nat} {q dq : Nat → Nat} {Dv : Nat → Option Nat} {σ : jp_I} (τ : jp_J) (hc : chX G σ) (hI : bfI (opn G) a t q dq Dv σ) (hP : bfP (opn G) h q dq Dv) (ht : h < t) (hg : ∀ i, i < t → dq i ≤ dq h + 1) :
    sp (fX0_spread (nI (q h)) (nI t) σ τ) (fun r σ' τ' => τ' = τ ∧ (∀ i, i ≠ 7 → i ≠ 8 → σ' i = σ i) ∧ ∃ (t' : Nat) (q' dq' : Nat → Nat) (Dv' : Nat → Option Nat), r = nI t' ∧ bfI (opn G) a t' q' dq' Dv' σ' ∧ bfP (opn G) (h + 1) q' dq' Dv' ∧ h < t' ∧ ∀ i, i < t' → dq' i ≤ dq' h + 1) := by
  have hqo : opn G (q h) = true := (hI.2.1 h ht).2.1
  have hq36 : q h < 36 := opn_lt hqo
  unfold fX0_spread
  refine sp_bind (P := fun e σ' τ' => τ' = τ ∧ (∀ i, i ≠ 7 → i ≠ 8 → σ' i = σ i) ∧ ∃ (t' : Nat) (q' dq' : Nat → Nat) (Dv' : Nat → Option Nat), e = .inl (nI t') ∧ bfI (opn G) a t' q' dq' Dv' σ' ∧ bfP (opn G) (h + 1) q' dq' Dv' ∧ h < t' ∧ ∀ i, i < t' → dq' i ≤ dq' h + 1) ?_ ?_
  · refine sp_loopF (fun v σ' τ' m => ∃ (mm t' : Nat) (q' dq' : Nat → Nat) (Dv' : Nat → Option Nat), mm ≤ 5 ∧ m = 5 - mm ∧ v = (nI t', nI mm) ∧ τ' = τ ∧ (∀ i, i ≠ 7 → i ≠ 8 → σ' i = σ i) ∧ bfI (opn G) a t' q' dq' Dv' σ' ∧ bfP (opn G) h q' dq' Dv' ∧ h < t' ∧ q' h = q h ∧ (∀ i, i < t' → dq' i ≤ dq' h + 1) ∧ ∀ m', m' < mm → ∀ d, nb (q h) m' = some d → opn G d = true → ∃ k, Dv' d = some k ∧ k ≤ dq' h + 1) 5 ⟨0, t, q, dq, Dv, by decide, rfl, rfl, rfl, fun _ _ _ => rfl, hI, hP, ht, rfl, hg, fun m' hm' => absurd hm' (Nat.not_lt_zero _)⟩ (by decide) ?_
    rintro v σ1 τ1 m ⟨mm, t1, q1, dq1, Dv1, hmm, rfl, rfl, rfl, hfr, hI1, hP1, ht1, hqh, hg1, hdone⟩
    dsimp only
    unfold sX0_spread_5
    have hI1' := hI1
    obtain ⟨b1, b2, b3, b4, b5, b6, b7, b8⟩ := hI1'
    have ht36 : t1 ≤ 36 := by rw [← b4]; exact wc_le _ _
    rw [show (5 : Int32) = nI 5 from rfl]
    refine sp_if (fun z => ?_) (fun z => ?_)
    · rw [ni_le (by decide) (by omega)] at z
      refine sp_ret ⟨rfl, hfr, t1, q1, dq1, Dv1, rfl, hI1, ?_, ht1, hg1⟩
      intro i hi d h1 h2
      by_cases w : i = h
      · subst w
        rw [hqh] at h1
        obtain ⟨m', hm1, hm2, hm3⟩ := adj_iff.mp h1
        exact hdone m' (by omega) d hm3 h2
      · exact hP1 i (by omega) d h1 h2
    · rw [ni_le (by decide) (by omega)] at z
      have hch1 : chX G σ1 := chX_congr hc (hfr 6 (by decide) (by decide))
      refine sp_seq (s_moved τ1 hch1 hq36 (show mm < 5 by omega)) ?_
      dsimp only
      rw [tgt_opn hqo]
      have next : ∀ (t2 : Nat) (q2 dq2 : Nat → Nat) (Dv2 : Nat → Option Nat) (σ2 : jp_I), (∀ i, i ≠ 7 → i ≠ 8 → σ2 i = σ i) → bfI (opn G) a t2 q2 dq2 Dv2 σ2 → bfP (opn G) h q2 dq2 Dv2 → h < t2 → q2 h = q h → (∀ i, i < t2 → dq2 i ≤ dq2 h + 1) → (∀ m', m' < mm → ∀ d, nb (q h) m' = some d → opn G d = true → ∃ k, Dv2 d = some k ∧ k ≤ dq2 h + 1) → (∀ d, nb (q h) mm = some d → opn G d = true → ∃ k, Dv2 d = some k ∧ k ≤ dq2 h + 1) →
          sp (bX0_spread_71_in5 (nI (q h)) (nI t2) (nI mm) σ2 τ1) (sp_R (fun v σ' τ' m => ∃ (mm t' : Nat) (q' dq' : Nat → Nat) (Dv' : Nat → Option Nat), mm ≤ 5 ∧ m = 5 - mm ∧ v = (nI t', nI mm) ∧ τ' = τ1 ∧ (∀ i, i ≠ 7 → i ≠ 8 → σ' i = σ i) ∧ bfI (opn G) a t' q' dq' Dv' σ' ∧ bfP (opn G) h q' dq' Dv' ∧ h < t' ∧ q' h = q h ∧ (∀ i, i < t' → dq' i ≤ dq' h + 1) ∧ ∀ m', m' < mm → ∀ d, nb (q h) m' = some d → opn G d = true → ∃ k, Dv' d = some k ∧ k ≤ dq' h + 1) (5 - mm) (fun e σ' τ' => τ' = τ1 ∧ (∀ i, i ≠ 7 → i ≠ 8 → σ' i = σ i) ∧ ∃ (t' : Nat) (q' dq' : Nat → Nat) (Dv' : Nat → Option Nat), e = .inl (nI t') ∧ bfI (opn G) a t' q' dq' Dv' σ' ∧ bfP (opn G) (h + 1) q' dq' Dv' ∧ h < t' ∧ ∀ i, i < t' → dq' i ≤ dq' h + 1)) := by
        intro t2 q2 dq2 Dv2 σ2 f1 f2 f3 f4 f5 f6 f7 f8
        unfold bX0_spread_71_in5
        refine sp_ret ⟨5 - (mm + 1), by omega, mm + 1, t2, q2, dq2, Dv2, by omega, rfl, ?_, rfl, f1, f2, f3, f4, f5, f6, fun m' hm' d h1 h2 => ?_⟩
        · rw [← ni_add]; rfl
        · by_cases w : m' = mm
          · subst w; exact f8 d h1 h2
          · exact f7 m' (by omega) d h1 h2
      cases e : (nb (q h) mm).filter (opn G) with
      | none =>
        show sp (if (-1 : Int32) = -1 then _ else _) _
        rw [if_pos rfl]
        refine next t1 q1 dq1 Dv1 σ1 hfr hI1 hP1 ht1 hqh hg1 hdone ?_
        intro d h1 h2
        rw [h1] at e
        simp [Option.filter, h2] at e
      | some d =>
        have hd : nb (q h) mm = some d ∧ opn G d = true := by
          cases e2 : nb (q h) mm with
          | none => rw [e2] at e; cases e
          | some x =>
            rw [e2] at e
            simp only [Option.filter] at e
            split at e
            · cases e; exact ⟨rfl, by assumption⟩
            · cases e
        have hd36 : d < 36 := opn_lt hd.2
        show sp (if nI d = -1 then _ else _) _
        rw [if_neg (ni_neg (by omega))]
        refine sp_seq (s_readi 7 σ1 τ1 (by decide) hd36) ?_
        dsimp only
        rw [b1 d hd36]
        cases eD : Dv1 d with
        | some k =>
          obtain ⟨i, hi, hqi⟩ := b3 d hd36 (by rw [eD]; exact fun z => by cases z)
          have hk : k = dq1 i := by
            have := (b2 i hi).2.2.1
            rw [hqi, eD] at this
            cases this; rfl
          have hki := (b2 i hi).2.2.2.1
          show sp (if nI k = -1 then _ else _) _
          rw [if_neg (ni_neg (by omega))]
          refine next t1 q1 dq1 Dv1 σ1 hfr hI1 hP1 ht1 hqh hg1 hdone ?_
          intro d' h1 h2
          rw [hd.1] at h1
          cases h1
          exact ⟨k, eD, by rw [hk]; exact hg1 i hi⟩
        | none =>
          show sp (if (-1 : Int32) = -1 then _ else _) _
          rw [if_pos rfl]
          refine sp_seq (s_readi 7 σ1 τ1 (by decide) hq36) ?_
          dsimp only
          have hDh : Dv1 (q h) = some (dq1 h) := by
            have := (b2 h ht1).2.2.1
            rw [hqh] at this
            exact this
          rw [b1 (q h) hq36, hDh]
          show sp ((fX7_write 7 36 (nI d) (nI (dq1 h) + nI 1) σ1 τ1).bind _) _
          rw [ni_add]
          refine sp_seq (s_write 7 _ _ _ (by decide) hd36) ?_
          dsimp only
          have htl : t1 < 36 := by
            rw [← b4]
            exact wc_full hd36 (by rw [eD]; rfl)
          refine sp_seq (s_write 8 _ _ _ (by decide) htl) ?_
          dsimp only
          rw [show nI t1 + 1 = nI (t1 + 1) from by rw [← ni_add]; rfl]
          have hadj : adj (q h) d = true := by
            refine adj_iff.mpr ⟨mm, ?_, by omega, hd.1⟩
            refine Nat.pos_of_ne_zero fun z => ?_
            subst z
            have : nb (q h) 0 = some (q h) := rfl
            rw [this] at hd
            cases hd.1
            rw [eD] at hDh
            cases hDh
          have hnew : ∀ i, i < t1 → q1 i ≠ d := fun i hi z => by
            have := (b2 i hi).2.2.1
            rw [z, eD] at this
            cases this
          have hh : h ≠ t1 := by omega
          refine next (t1 + 1) (fup q1 t1 d) (fup dq1 t1 (dq1 h + 1)) (fup Dv1 d (some (dq1 h + 1))) _ ?_ ?_ ?_ (by omega) ?_ ?_ ?_ ?_
          · intro i h7 h8
            rw [jp_up_n _ _ h8, jp_up_n _ _ h7]; exact hfr i h7 h8
          · refine ⟨fun c hc => ?_, fun i hi => ?_, fun c hc hcn => ?_, ?_, fun i j hij hj => ?_, by omega, ?_, ?_⟩
            · rw [jp_up_n _ _ (by decide)]
              by_cases w : c = d
              · subst w; rw [jp_up_eq, fup_s]; rfl
              · rw [jp_up_ne _ _ _ w, fup_n _ _ w]; exact b1 c hc
            · by_cases w : i = t1
              · subst w
                rw [fup_s, fup_s, fup_s]
                refine ⟨jp_up_eq _ _ _ _, hd.2, rfl, ?_, ?_⟩
                · have := (b2 h ht1).2.2.2.1
                  omega
                · have := (b2 h ht1).2.2.2.2
                  rw [hqh] at this
                  exact wk_snoc this hadj hd.2
              · have hi' : i < t1 := by omega
                obtain ⟨c1, c2, c3, c4, c5⟩ := b2 i hi'
                rw [fup_n _ _ w, fup_n _ _ w, fup_n _ _ (hnew i hi')]
                exact ⟨by rw [jp_up_ne _ _ _ w, jp_up_n _ _ (by decide)]; exact c1, c2, c3, c4, c5⟩
            · by_cases w : c = d
              · exact ⟨t1, by omega, by rw [fup_s, w]⟩
              · rw [fup_n _ _ w] at hcn
                obtain ⟨i, hi, hqi⟩ := b3 c hc hcn
                exact ⟨i, by omega, by rw [fup_n _ _ (by omega)]; exact hqi⟩
            · have hs := wc_set (fun c => (Dv1 c).isSome) d true 36
              have e3 : (fun c => (fup Dv1 d (some (dq1 h + 1)) c).isSome) = (fun c => if c = d then true else (Dv1 c).isSome) := by
                funext c
                by_cases w : c = d
                · rw [if_pos w, w, fup_s]; rfl
                · rw [if_neg w, fup_n _ _ w]
              rw [e3]
              simp only [hd36, eD, true_and, Option.isSome_none, Bool.false_eq_true, if_false, if_true] at hs
              rw [b4] at hs
              omega
            · by_cases w : j = t1
              · by_cases w2 : i = t1
                · rw [w, w2]; exact Nat.le_refl _
                · rw [w, fup_s, fup_n _ _ w2]
                  exact hg1 i (by omega)
              · rw [fup_n _ _ w, fup_n _ _ (show i ≠ t1 by omega)]
                exact b5 i j hij (by omega)
            · rw [fup_n _ _ (show 0 ≠ t1 by omega)]; exact b7
            · rw [fup_n _ _ (show 0 ≠ t1 by omega)]; exact b8
          · intro i hi x h1 h2
            rw [fup_n _ _ (show i ≠ t1 by omega)] at h1
            rw [fup_n dq1 _ (show i ≠ t1 by omega)]
            obtain ⟨k, h3, h4⟩ := hP1 i hi x h1 h2
            refine ⟨k, ?_, h4⟩
            rw [fup_n _ _ (by rintro rfl; rw [eD] at h3; cases h3)]
            exact h3
          · rw [fup_n _ _ hh]; exact hqh
          · intro i hi
            rw [fup_n dq1 _ hh]
            by_cases w : i = t1
            · rw [w, fup_s]; exact Nat.le_refl _
            · rw [fup_n _ _ w]
              exact hg1 i (by omega)
          · intro m' hm' x h1 h2
            obtain ⟨k, h3, h4⟩ := hdone m' hm' x h1 h2
            refine ⟨k, ?_, by rw [fup_n _ _ hh]; exact h4⟩
            rw [fup_n _ _ (by rintro rfl; rw [eD] at h3; cases h3)]
            exact h3
          · intro x h1 h2
            rw [hd.1] at h1
            cases h1
            exact ⟨dq1 h + 1, fup_s _ _ _, by rw [fup_n _ _ hh]; exact Nat.le_refl _⟩
  · rintro e σ1 τ1 ⟨rfl, h1, t1, q1, dq1, Dv1, rfl, h2⟩
    exact sp_ret ⟨rfl, h1, t1, q1, dq1, Dv1, rfl, h2⟩
