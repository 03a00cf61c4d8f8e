-- the class's ways, and the reference's distances
theorem s_moves {G : gG} {a b : Nat} {σ : jp_I} (τ : jp_J) (hc : chX G σ) (ha : opn G a = true) (hb : b < 36) : sp (fX0_movesBetween (nI a) (nI b) σ τ) (fun r σ' τ' => τ' = τ ∧ (∀ i, i ≠ 7 → i ≠ 8 → σ' i = σ i) ∧ ∃ o, isD (opn G) a b o ∧ r = enc o) := by
  have ha36 := opn_lt ha
  unfold fX0_movesBetween
  refine sp_seq (s_fill 7 _ _ _ (by decide)) ?_
  dsimp only
  refine sp_seq (s_write 7 _ _ _ (by decide) ha36) ?_
  dsimp only
  refine sp_seq (show fX7_write 8 36 0 (nI a) _ τ = _ from s_write 8 (a := 0) _ _ _ (by decide) (by decide)) ?_
  dsimp only
  refine sp_bind (P := fun e σ' τ' => τ' = τ ∧ (∀ i, i ≠ 7 → i ≠ 8 → σ' i = σ i) ∧ ∃ (t : Nat) (q dq : Nat → Nat) (Dv : Nat → Option Nat), e = .inl () ∧ bfI (opn G) a t q dq Dv σ' ∧ bfP (opn G) t q dq Dv) ?_ ?_
  · refine sp_loopF (fun v σ' τ' m => ∃ (h t : Nat) (q dq : Nat → Nat) (Dv : Nat → Option Nat), m = 37 - h ∧ v = (nI t, nI h) ∧ h ≤ t ∧ τ' = τ ∧ (∀ i, i ≠ 7 → i ≠ 8 → σ' i = σ i) ∧ bfI (opn G) a t q dq Dv σ' ∧ bfP (opn G) h q dq Dv ∧ (h < t → ∀ i, i < t → dq i ≤ dq h + 1)) 37 ⟨0, 1, fun _ => a, fun _ => 0, fup (fun _ => none) a (some 0), rfl, rfl, by decide, rfl, ?_, ?_, ?_, ?_⟩ (by decide) ?_
    · intro i h7 h8
      rw [jp_up_n _ _ h8, jp_up_n _ _ h7, jp_row_n _ _ h7]
    · refine ⟨fun c hc => ?_, fun i hi => ?_, fun c hc hcn => ?_, ?_, fun i j _ _ => Nat.le_refl _, by decide, rfl, rfl⟩
      · rw [jp_up_n _ _ (by decide)]
        by_cases w : c = a
        · subst w; rw [jp_up_eq, fup_s]; rfl
        · rw [jp_up_ne _ _ _ w, jp_row_s, if_pos hc, fup_n _ _ w]; rfl
      · rw [show i = 0 by omega]
        exact ⟨jp_up_eq _ _ _ _, ha, fup_s _ _ _, Nat.le_refl _, rfl, ha⟩
      · refine ⟨0, by decide, ?_⟩
        refine Classical.byContradiction fun w => hcn ?_
        rw [fup_n _ _ (fun z => w z.symm)]
      · have hs := wc_set (fun _ => false) a true 36
        have e3 : (fun c => (fup (fun _ => none) a (some (0 : Nat)) c).isSome) = (fun c => if c = a then true else false) := by
          funext c
          by_cases w : c = a
          · rw [if_pos w, w, fup_s]; rfl
          · rw [if_neg w, fup_n _ _ w]; rfl
        rw [e3]
        simp only [ha36, true_and, Bool.false_eq_true, if_false, if_true, wc_none] at hs
        omega
    · intro i hi; exact absurd hi (Nat.not_lt_zero _)
    · intro _ i _; exact Nat.zero_le _
    · rintro v σ1 τ1 m ⟨h, t, q, dq, Dv, rfl, rfl, hht, rfl, hfr, hI, hP, hg⟩
      dsimp only
      unfold sX0_movesBetween_31
      have ht36 : t ≤ 36 := by rw [← hI.2.2.2.1]; exact wc_le _ _
      refine sp_if (fun z => ?_) (fun z => ?_)
      · rw [ni_le (by omega) (by omega)] at z
        have : h = t := by omega
        subst this
        exact sp_ret ⟨rfl, hfr, h, q, dq, Dv, rfl, hI, hP⟩
      · rw [ni_le (by omega) (by omega)] at z
        rw [show (36 : Int32) = nI 36 from rfl, if_neg (by rw [ni_le (by decide) (by omega)]; omega), if_pos (ni_ok (by omega) (by omega)), ni_nat (by omega), (hI.2.1 h (by omega)).1]
        refine sp_bind (s_spread τ1 (chX_congr hc (hfr 6 (by decide) (by decide))) hI hP (by omega) (hg (by omega))) ?_
        rintro r σ2 τ2 ⟨rfl, f1, t', q', dq', Dv', rfl, f2, f3, f4, f5⟩
        dsimp only
        refine sp_ret ⟨37 - (h + 1), by omega, h + 1, t', q', dq', Dv', rfl, ?_, by omega, rfl, fun i h7 h8 => by rw [f1 i h7 h8]; exact hfr i h7 h8, f2, f3, fun hlt i hi => ?_⟩
        · rw [← ni_add]; rfl
        · exact Nat.le_trans (f5 i hi) (by have := f2.2.2.2.2.1 h (h + 1) (by omega) hlt; omega)
  · rintro e σ1 τ1 ⟨rfl, hfr, t, q, dq, Dv, rfl, hI, hP⟩
    dsimp only
    unfold bX0_movesBetween_63
    refine sp_seq (s_readi 7 σ1 τ1 (by decide) hb) ?_
    dsimp only
    obtain ⟨b1, b2, b3, b4, b5, b6, b7, b8⟩ := hI
    have ht36 : t ≤ 36 := by rw [← b4]; exact wc_le _ _
    have hDa : Dv a = some 0 := by
      have := (b2 0 b6).2.2.1
      rw [b7, b8] at this
      exact this
    -- every walk ends where Dv knows a distance that isn't longer
    have walk : ∀ k c d, wk (opn G) k c d → ∀ x, Dv c = some x → c < 36 → ∃ y, Dv d = some y ∧ y ≤ x + k := by
      intro k
      induction k with
      | zero =>
        rintro c d ⟨rfl, -⟩ x hx _
        exact ⟨x, hx, by omega⟩
      | succ k ih =>
        rintro c d ⟨h1, e, h2, h3⟩ x hx hc36
        obtain ⟨i, hi, hqi⟩ := b3 c hc36 (by rw [hx]; exact fun z => by cases z)
        obtain ⟨y, hy, hy2⟩ := hP i hi e (by rw [hqi]; exact h2) (wk_l h3)
        have hxi : dq i = x := by
          have := (b2 i hi).2.2.1
          rw [hqi, hx] at this
          cases this; rfl
        obtain ⟨w, hw, hw2⟩ := ih e d h3 y hy (opn_lt (wk_l h3))
        exact ⟨w, hw, by omega⟩
    refine sp_ret ⟨rfl, hfr, Dv b, ⟨fun k hk => ?_, fun hn j hj => ?_⟩, b1 b hb⟩
    · obtain ⟨i, hi, hqi⟩ := b3 b hb (by rw [hk]; exact fun z => by cases z)
      have hxi : dq i = k := by
        have := (b2 i hi).2.2.1
        rw [hqi, hk] at this
        cases this; rfl
      have h5 := (b2 i hi).2.2.2
      rw [hqi, hxi] at h5
      refine ⟨by omega, h5.2, fun j hj => ?_⟩
      obtain ⟨y, hy, hy2⟩ := walk j a b hj 0 hDa ha36
      rw [hk] at hy
      cases hy
      omega
    · obtain ⟨y, hy, -⟩ := walk j a b hj 0 hDa ha36
      rw [hn] at hy
      cases hy
-- the reference's moves
theorem m_nbc {c m : Nat} (hc : c < 36) (hm : m < 5) : (if nI m = 2 then (1 : Int32) else if nI m = 4 then -1 else 0) = jp_mx m ∧ (if nI m = 3 then (1 : Int32) else if nI m = 1 then -1 else 0) = jp_my m := by
  rcases jp_c5 hm with rfl | rfl | rfl | rfl | rfl <;> decide
theorem m_moved {G : gG} {σ : jp_I} (τ : jp_J) (h : scM G σ) {c m : Nat} (hc : c < 36) (hm : m < 5) : fX8_moved (nI c) (nI m) σ τ = some (enc (mvc G c m), σ, τ) := by
  have hG := h.1
  have fin : bX8_moved_48 (nI (c % 6) + jp_mx m) (nI (c / 6)) (jp_my m) σ τ = some (enc (mvc G c m), σ, τ) := by
    unfold bX8_moved_48
    rw [m_noCell τ h, Option.bind_some]
    dsimp only
    have hcn := cellAt_nb hG hc hm
    cases e : nb c m with
    | none =>
      rw [e] at hcn
      by_cases o : (nI (c % 6) + jp_mx m < 0 ∨ nI G.1 ≤ nI (c % 6) + jp_mx m) ∨ (nI (c / 6) + jp_my m < 0 ∨ nI G.2.1 ≤ nI (c / 6) + jp_my m)
      · rw [if_pos o, if_neg (by decide)]
        simp [mvc, e, enc]
      · obtain ⟨h1, h2, h3, h4⟩ := hG
        exfalso
        apply o
        rcases nb_none hc hm e with (q | q) | q | q
        · exact Or.inl (Or.inl (by rw [q]; decide))
        · exact Or.inl (Or.inr (by rw [q, show (6 : Int32) = nI 6 from rfl, ni_le (by omega) (by decide)]; exact h2))
        · exact Or.inr (Or.inl (by rw [q]; decide))
        · exact Or.inr (Or.inr (by rw [q, show (6 : Int32) = nI 6 from rfl, ni_le (by omega) (by decide)]; exact h4))
    | some d =>
      obtain ⟨hd, e1, e2⟩ := nb_some hc hm e
      rw [e1, e2] at hcn ⊢
      rw [cellAt_in hG hd] at hcn
      have hidx : 6 * nI (d / 6) + nI (d % 6) = nI d := by
        rw [show (6 : Int32) = nI 6 from rfl, ni_mul, ni_add]
        congr 1
        omega
      by_cases i : inG G d = true
      · have o : ¬ ((nI (d % 6) < 0 ∨ nI G.1 ≤ nI (d % 6)) ∨ (nI (d / 6) < 0 ∨ nI G.2.1 ≤ nI (d / 6))) := by
          simp only [inG, Bool.and_eq_true, decide_eq_true_eq] at i
          obtain ⟨h1, h2, h3, h4⟩ := hG
          rintro ((a | a) | (a | a))
          · exact ni_nn (by omega) a
          · rw [ni_le (by omega) (by omega)] at a; omega
          · exact ni_nn (by omega) a
          · rw [ni_le (by omega) (by omega)] at a; omega
        rw [if_neg o, if_pos rfl, hidx, if_pos (ni_ok (by omega) hd), ni_nat (by omega), h.2.2.2 d hd]
        unfold mvc
        rw [e]
        cases w : G.2.2 d with
        | true => simp [bI, Option.filter, opn, w, enc]
        | false => simp [bI, Option.filter, opn, w, enc, i]
      · have o : (nI (d % 6) < 0 ∨ nI G.1 ≤ nI (d % 6)) ∨ (nI (d / 6) < 0 ∨ nI G.2.1 ≤ nI (d / 6)) := by
          simp only [inG, Bool.and_eq_true, decide_eq_true_eq] at i
          obtain ⟨h1, h2, h3, h4⟩ := hG
          by_cases a : G.1 ≤ d % 6
          · exact Or.inl (Or.inr ((ni_le (by omega) (by omega)).mpr a))
          · exact Or.inr (Or.inr ((ni_le (by omega) (by omega)).mpr (by omega)))
        rw [if_pos o, if_neg (by decide)]
        unfold mvc
        rw [e]
        simp [Option.filter, opn, i, enc]
  obtain ⟨hx, hy⟩ := m_nbc hc hm
  have e23 : ∀ v : Int32, v = jp_mx m → bX8_moved_23 (nI c) (nI m) (nI c - nI c / 6 * 6) v σ τ = some (enc (mvc G c m), σ, τ) := by
    intro v hv
    unfold bX8_moved_23
    rw [(ni_co hc).1, (ni_co hc).2, hv]
    by_cases z3 : nI m = 3
    · rw [if_pos z3]
      rw [if_pos z3] at hy
      rw [hy]; exact fin
    · rw [if_neg z3]
      rw [if_neg z3] at hy
      by_cases z1 : nI m = 1
      · rw [if_pos z1]
        rw [if_pos z1] at hy
        rw [hy]; exact fin
      · rw [if_neg z1]
        rw [if_neg z1] at hy
        rw [hy]; exact fin
  unfold fX8_moved
  by_cases z2 : nI m = 2
  · rw [if_pos z2]
    rw [if_pos z2] at hx
    exact e23 1 hx
  · rw [if_neg z2]
    rw [if_neg z2] at hx
    by_cases z4 : nI m = 4
    · rw [if_pos z4]
      rw [if_pos z4] at hx
      exact e23 (-1) hx
    · rw [if_neg z4]
      rw [if_neg z4] at hx
      exact e23 0 hx
theorem m_outside {G : gG} {σ : jp_I} (τ : jp_J) (h : scM G σ) {c : Nat} (hc : c < 36) : fX8_outside (nI c) σ τ = some (bI (!opn G c), σ, τ) := by
  have hG := h.1
  unfold fX8_outside
  rw [(ni_co hc).1, (ni_co hc).2, m_noCell τ h, Option.bind_some]
  dsimp only
  obtain ⟨h1, h2, h3, h4⟩ := hG
  by_cases i : inG G c = true
  · have o : ¬ ((nI (c % 6) < 0 ∨ nI G.1 ≤ nI (c % 6)) ∨ (nI (c / 6) < 0 ∨ nI G.2.1 ≤ nI (c / 6))) := by
      simp only [inG, Bool.and_eq_true, decide_eq_true_eq] at i
      rintro ((a | a) | (a | a))
      · exact ni_nn (by omega) a
      · rw [ni_le (by omega) (by omega)] at a; omega
      · exact ni_nn (by omega) a
      · rw [ni_le (by omega) (by omega)] at a; omega
    rw [if_neg o, if_pos rfl, if_pos (ni_ok (by omega) hc), ni_nat (by omega), h.2.2.2 c hc]
    cases w : G.2.2 c with
    | true => simp [bI, opn, w]
    | false => simp [bI, opn, w, i]
  · have o : (nI (c % 6) < 0 ∨ nI G.1 ≤ nI (c % 6)) ∨ (nI (c / 6) < 0 ∨ nI G.2.1 ≤ nI (c / 6)) := by
      simp only [inG, Bool.and_eq_true, decide_eq_true_eq] at i
      by_cases a : G.1 ≤ c % 6
      · exact Or.inl (Or.inr ((ni_le (by omega) (by omega)).mpr a))
      · exact Or.inr (Or.inr ((ni_le (by omega) (by omega)).mpr (by omega)))
    rw [if_pos o, if_neg (by decide)]
    simp [bI, opn, i]
