-- the class's joint search: from a state to those before it
def jnl (R nl : Nat) : Prop := (R = 2 → nl = 1296) ∧ (R ≠ 2 → nl = 36)
section JX
variable {R nc nl : Nat} {G : gG} {bar : Bool} {E : jS} {σ : jp_I}
theorem jval_lt {s : jS} (h : jval R G s) : s.1 < 36 ∧ s.2 < 36 := by
  refine ⟨opn_lt h.1, ?_⟩
  by_cases q : R = 2
  · exact opn_lt (h.2.1 q).1
  · rw [h.2.2 q]; decide
theorem jix_lt {s : jS} (h : jval R G s) (hn : jnl R nl) : jix s < nl := by
  have h1 := jval_lt h
  unfold jix
  by_cases q : R = 2
  · rw [hn.1 q]; omega
  · rw [hn.2 q, h.2.2 q]; omega
theorem jnl_lt (hn : jnl R nl) : nl ≤ 1296 := by
  by_cases q : R = 2
  · rw [hn.1 q]; exact Nat.le_refl _
  · rw [hn.2 q]; decide
theorem jix_inj {s s' : jS} (h : s.1 < 36) (h' : s'.1 < 36) (e : jix s = jix s') : s = s' := by
  unfold jix at e
  exact Prod.ext (by omega) (by omega)
/-- the places of the states from which a step at this cost leads to s -/
def jpre (R : Nat) (G : gG) (bar : Bool) (E : jS) (cost : Nat) (s : jS) (x : Nat) : Prop := ∃ (s' : jS) (i j : Nat), i < 5 ∧ j < 5 ∧ jmv R G bar i j s s' ∧ pay E s' s = cost ∧ x = jix s'
theorem s_reachBefore (τ : jp_J) (h : jxC R G bar E σ) (hR : 1 ≤ R ∧ R ≤ 2) (hn : jnl R nl) (he : E.1 < 36 ∧ E.2 < 36) {s : jS} (hs : jval R G s) {cost lv cnt : Nat} {L : Nat → Option Nat} {q : Nat → Nat} (hI : stI nl cnt L q σ) (hc : cost < 10) (hlv : lv < 10000) :
    sp (fX1_reachBefore R nc nl (nI (jix s)) (nI cost) (nI lv) σ τ) (fun _ σ' τ' => τ' = τ ∧ jfr σ σ' ∧ ∃ (cnt' : Nat) (L' : Nat → Option Nat) (q' : Nat → Nat), stI nl cnt' L' q' σ' ∧ stA (jpre R G bar E cost s) lv cnt cnt' L L' q q' ∧ ∀ x, jpre R G bar E cost s x → L' x ≠ none) := by
  obtain ⟨s1, s2⟩ := jval_lt hs
  have hnl := jnl_lt hn
  have hx := jix_lt hs hn
  have d1 : nI (jix s) - nI (jix s) / 36 * 36 = nI s.1 := by
    rw [show (36 : Int32) = nI 36 from rfl, ni_mod (by omega) (by decide)]
    congr 1
    unfold jix
    omega
  have d2 : nI (jix s) / 36 = nI s.2 := by
    rw [show (36 : Int32) = nI 36 from rfl, ni_div (by omega) (by decide)]
    congr 1
    unfold jix
    omega
  unfold fX1_reachBefore
  rw [d1, d2]
  refine sp_bind (P := fun e σ' τ' => e = .inl () ∧ τ' = τ ∧ jfr σ σ' ∧ ∃ (cnt' : Nat) (L' : Nat → Option Nat) (q' : Nat → Nat), stI nl cnt' L' q' σ' ∧ stA (jpre R G bar E cost s) lv cnt cnt' L L' q q' ∧ ∀ x, jpre R G bar E cost s x → L' x ≠ none) ?_ ?_
  · refine sp_for (fun i σ' τ' => τ' = τ ∧ jfr σ σ' ∧ ∃ (cnt' : Nat) (L' : Nat → Option Nat) (q' : Nat → Nat), stI nl cnt' L' q' σ' ∧ stA (jpre R G bar E cost s) lv cnt cnt' L L' q q' ∧ ∀ i' j s', i' < i → j < 5 → jmv R G bar i' j s s' → pay E s' s = cost → L' (jix s') ≠ none) 0 5 (by decide) (by decide) ⟨rfl, jfr_rf, cnt, L, q, hI, stA_rf, fun i' j s' hi' => absurd hi' (Nat.not_lt_zero _)⟩ ?_ ?_
    · rintro i σ1 τ1 - hi ⟨rfl, hf1, cnt1, L1, q1, hI1, hA1, hD1⟩
      dsimp only
      unfold sX1_reachBefore_15
      have hC1 := jxC_fr h hf1
      rw [show (5 : Int32) = nI 5 from rfl, if_neg (by rw [ni_le (by decide) (by omega)]; omega)]
      refine sp_seq (s_next0 τ1 hC1 hR hs.1 hi) ?_
      dsimp only
      refine sp_bind (P := fun e σ' τ' => e = .inl () ∧ τ' = τ1 ∧ jfr σ σ' ∧ ∃ (cnt' : Nat) (L' : Nat → Option Nat) (q' : Nat → Nat), stI nl cnt' L' q' σ' ∧ stA (jpre R G bar E cost s) lv cnt cnt' L L' q q' ∧ ∀ i' j s', i' < i + 1 → j < 5 → jmv R G bar i' j s s' → pay E s' s = cost → L' (jix s') ≠ none) ?_ ?_
      · cases eM : mvc G s.1 i with
        | none =>
          refine sp_loopF (fun v σ' τ' m => σ' = σ1 ∧ τ' = τ1) 0 ⟨rfl, rfl⟩ (by decide) ?_
          rintro v σ' τ' m ⟨rfl, rfl⟩
          dsimp only
          unfold sX1_reachBefore_35
          have fin : sp (some ((Sum.inr (Sum.inl ()) : Sum Int32 (Sum Unit Int32)), σ', τ')) (sp_R (fun (v : Int32) σ'' τ'' m => σ'' = σ' ∧ τ'' = τ') m (fun e σ'' τ'' => e = .inl () ∧ τ'' = τ' ∧ jfr σ σ'' ∧ ∃ (cnt' : Nat) (L' : Nat → Option Nat) (q' : Nat → Nat), stI nl cnt' L' q' σ'' ∧ stA (jpre R G bar E cost s) lv cnt cnt' L L' q q' ∧ ∀ i' j s', i' < i + 1 → j < 5 → jmv R G bar i' j s s' → pay E s' s = cost → L' (jix s') ≠ none)) := by
            refine sp_ret ⟨rfl, rfl, hf1, cnt1, L1, q1, hI1, hA1, fun i' j s' hi' hj h1 h2 => ?_⟩
            by_cases z : i' = i
            · rw [z] at h1
              have := h1.1
              rw [eM] at this
              cases this
            · exact hD1 i' j s' (by omega) hj h1 h2
          exact sp_if (fun _ => fin) (fun _ => by rw [if_pos (show enc none = -1 from rfl)]; exact fin)
        | some c =>
          obtain ⟨-, hco⟩ := mvc_some eM
          have hc36 := opn_lt hco
          show sp (jp_loop (fun q => sX1_reachBefore_35 R nc nl (nI cost) (nI lv) (nI s.1) (nI s.2) (nI i) (nI c) q.1 q.2.1 q.2.2) jp_F (nI 0, σ1, τ1)) _
          refine sp_for (fun j σ' τ' => τ' = τ1 ∧ jfr σ σ' ∧ ∃ (cnt' : Nat) (L' : Nat → Option Nat) (q' : Nat → Nat), stI nl cnt' L' q' σ' ∧ stA (jpre R G bar E cost s) lv cnt cnt' L L' q q' ∧ (∀ i' j s', i' < i → j < 5 → jmv R G bar i' j s s' → pay E s' s = cost → L' (jix s') ≠ none) ∧ ∀ j' s', j' < j → jmv R G bar i j' s s' → pay E s' s = cost → L' (jix s') ≠ none) 0 5 (by decide) (by decide) ⟨rfl, hf1, cnt1, L1, q1, hI1, hA1, hD1, fun j' s' hj' => absurd hj' (Nat.not_lt_zero _)⟩ ?_ ?_
          · rintro j σ2 τ2 - hj ⟨rfl, hf2, cnt2, L2, q2, hI2, hA2, hD2, hJ2⟩
            dsimp only
            unfold sX1_reachBefore_35
            have hC2 := jxC_fr h hf2
            rw [show (5 : Int32) = nI 5 from rfl, if_neg (by rw [ni_le (by decide) (by omega)]; omega), if_neg (ni_neg (by omega))]
            refine sp_seq (s_next1 τ2 hC2 hR (fun q => (hs.2.1 q).1) hj) ?_
            dsimp only
            have next : ∀ (σ3 : jp_I) (cnt3 : Nat) (L3 : Nat → Option Nat) (q3 : Nat → Nat), jfr σ σ3 → stI nl cnt3 L3 q3 σ3 → stA (jpre R G bar E cost s) lv cnt cnt3 L L3 q q3 → (∀ x, L2 x ≠ none → L3 x ≠ none) → (∀ s', jmv R G bar i j s s' → pay E s' s = cost → L3 (jix s') ≠ none) →
                sp (bX1_reachBefore_108_in35 R nc nl (nI cost) (nI lv) (nI s.1) (nI s.2) (nI i) (nI c) (nI j) σ3 τ2) (sp_S (fun v σ' τ' => v = nI (j + 1) ∧ τ' = τ2 ∧ jfr σ σ' ∧ ∃ (cnt' : Nat) (L' : Nat → Option Nat) (q' : Nat → Nat), stI nl cnt' L' q' σ' ∧ stA (jpre R G bar E cost s) lv cnt cnt' L L' q q' ∧ (∀ i' j s', i' < i → j < 5 → jmv R G bar i' j s s' → pay E s' s = cost → L' (jix s') ≠ none) ∧ ∀ j' s', j' < j + 1 → jmv R G bar i j' s s' → pay E s' s = cost → L' (jix s') ≠ none) (fun e σ' τ' => e = .inl () ∧ τ' = τ2 ∧ jfr σ σ' ∧ ∃ (cnt' : Nat) (L' : Nat → Option Nat) (q' : Nat → Nat), stI nl cnt' L' q' σ' ∧ stA (jpre R G bar E cost s) lv cnt cnt' L L' q q' ∧ ∀ i' j s', i' < i + 1 → j < 5 → jmv R G bar i' j s s' → pay E s' s = cost → L' (jix s') ≠ none)) := by
              intro σ3 cnt3 L3 q3 g1 g2 g3 g4 g5
              unfold bX1_reachBefore_108_in35
              refine sp_ret ⟨by rw [← ni_add]; rfl, rfl, g1, cnt3, L3, q3, g2, g3, fun i' j' s' hi' hj' h1 h2 => g4 _ (hD2 i' j' s' hi' hj' h1 h2), fun j' s' hj' h1 h2 => ?_⟩
              by_cases z : j' = j
              · rw [z] at h1; exact g5 s' h1 h2
              · exact g4 _ (hJ2 j' s' (by omega) h1 h2)
            have same : ∀ s', jmv R G bar i j s s' → s'.1 = c := fun s' h1 => by
              have := h1.1
              rw [eM] at this
              cases this; rfl
            cases eN : nx1 R G s.2 j with
            | none =>
              rw [if_pos (show enc none = -1 from rfl)]
              refine next σ2 cnt2 L2 q2 hf2 hI2 hA2 (fun _ w => w) (fun s' h1 _ => ?_)
              have := h1.2.1
              rw [eN] at this
              cases this
            | some d =>
              have hd36 : d < 36 := by
                unfold nx1 at eN
                by_cases z : R = 2
                · rw [if_pos z] at eN
                  exact opn_lt (mvc_opn eN)
                · rw [if_neg z] at eN
                  by_cases y : j = 0
                  · rw [if_pos y] at eN; cases eN; exact s2
                  · rw [if_neg y] at eN; cases eN
              rw [if_neg (show ¬ enc (some d) = -1 from ni_neg (by omega))]
              show sp ((fX1_stepCost R nc nl (nI (c, d).1) (nI (c, d).2) (nI s.1) (nI s.2) σ2 τ2).bind _) _
              refine sp_seq (s_stepCost τ2 hC2 (s := (c, d)) hc36 hd36 s1 s2 he.1 he.2) ?_
              dsimp only
              have samed : ∀ s', jmv R G bar i j s s' → s' = (c, d) := fun s' h1 => by
                have h3 := h1.2.1
                rw [eN] at h3
                exact Prod.ext (same s' h1) (Option.some.inj h3).symm
              have hp := pay_le (E := E) (c, d) s
              refine sp_if (fun z => ?_) (fun z => ?_)
              · rw [ni_inj (by omega) (by omega)] at z
                refine sp_bind (s_fits τ2 hC2 hR s1 s2 hc36 hd36) ?_
                rintro r σ3 τ3 ⟨rfl, rfl, ⟨rfl, g⟩ | ⟨rfl, g⟩⟩
                · dsimp only
                  rw [if_neg (by decide), show (36 : Int32) = nI 36 from rfl, show enc (some d) = nI d from rfl, ni_mul, ni_add]
                  have hmv : jmv R G bar i j s (c, d) := ⟨eM, eN, g⟩
                  have hv2 := jmv_val hs hmv
                  refine sp_bind (s_reach (P := jpre R G bar E cost s) τ3 (by omega) hI2 (jix_lt hv2 hn) hlv ⟨(c, d), i, j, hi, hj, hmv, z, rfl⟩) ?_
                  rintro r σ4 τ4 ⟨rfl, g1, cnt4, L4, q4, g2, g3, g4⟩
                  dsimp only
                  refine next σ4 cnt4 L4 q4 (jfr_tr hf2 g1) g2 (stA_tr hA2 g3) (fun x w => stA_keeps g3 w) (fun s' h1 _ => ?_)
                  rw [samed s' h1]
                  exact g4
                · dsimp only
                  rw [if_pos rfl]
                  refine next σ3 cnt2 L2 q2 hf2 hI2 hA2 (fun _ w => w) (fun s' h1 _ => ?_)
                  have h3 := h1.2.2
                  rw [samed s' h1] at h3
                  exact absurd h3 g
              · rw [ni_inj (by omega) (by omega)] at z
                refine next σ2 cnt2 L2 q2 hf2 hI2 hA2 (fun _ w => w) (fun s' h1 h2 => ?_)
                rw [samed s' h1] at h2
                exact absurd h2 z
          · rintro σ2 τ2 ⟨rfl, hf2, cnt2, L2, q2, hI2, hA2, hD2, hJ2⟩
            dsimp only
            unfold sX1_reachBefore_35
            rw [if_pos (by decide)]
            refine sp_ret ⟨rfl, rfl, hf2, cnt2, L2, q2, hI2, hA2, fun i' j' s' hi' hj' h1 h2 => ?_⟩
            by_cases z : i' = i
            · rw [z] at h1; exact hJ2 j' s' hj' h1 h2
            · exact hD2 i' j' s' (by omega) hj' h1 h2
      · rintro e σ2 τ2 ⟨rfl, rfl, hf2, cnt2, L2, q2, hI2, hA2, hD2⟩
        dsimp only
        unfold bX1_reachBefore_114_in15
        exact sp_ret ⟨by rw [← ni_add]; rfl, rfl, hf2, cnt2, L2, q2, hI2, hA2, hD2⟩
    · rintro σ1 τ1 ⟨rfl, hf1, cnt1, L1, q1, hI1, hA1, hD1⟩
      dsimp only
      unfold sX1_reachBefore_15
      rw [if_pos (by decide)]
      refine sp_ret ⟨rfl, rfl, hf1, cnt1, L1, q1, hI1, hA1, ?_⟩
      rintro x ⟨s', i, j, hi, hj, h1, h2, rfl⟩
      exact hD1 i j s' hi hj h1 h2
  · rintro e σ1 τ1 ⟨rfl, rfl, h1⟩
    exact sp_ret ⟨rfl, h1⟩
/-- from the states of the two levels before: at cost 2 from those before w, at cost 1 from the rest -/
theorem s_reachAll (τ : jp_J) (h : jxC R G bar E σ) (hR : 1 ≤ R ∧ R ≤ 2) (hn : jnl R nl) (he : E.1 < 36 ∧ E.2 < 36) {lv cnt a w : Nat} {x1 : Int32} {L : Nat → Option Nat} {q : Nat → Nat} (hI : stI nl cnt L q σ) (hlv : lv < 10000) (hab : a ≤ cnt) (hw : w ≤ cnt) (S : Nat → jS) (hS : ∀ i, i < cnt → q i = jix (S i) ∧ jval R G (S i)) :
    sp (jp_loop (fun q => sX1_measure_69 R nc nl x1 (nI w) (nI lv) (nI cnt) q.1 q.2.1 q.2.2) jp_F (nI a, σ, τ)) (fun e σ' τ' => e = .inl () ∧ τ' = τ ∧ jfr σ σ' ∧ ∃ (cnt' : Nat) (L' : Nat → Option Nat) (q' : Nat → Nat), stI nl cnt' L' q' σ' ∧ stA (fun x => ∃ i, a ≤ i ∧ i < cnt ∧ jpre R G bar E (if i < w then 2 else 1) (S i) x) lv cnt cnt' L L' q q' ∧ ∀ i x, a ≤ i → i < cnt → jpre R G bar E (if i < w then 2 else 1) (S i) x → L' x ≠ none) := by
  have hnl := jnl_lt hn
  have hcl : cnt ≤ nl := by rw [← hI.2.2.2.1]; exact wc_le _ _
  refine sp_for (fun k σ' τ' => τ' = τ ∧ jfr σ σ' ∧ ∃ (cnt' : Nat) (L' : Nat → Option Nat) (q' : Nat → Nat), stI nl cnt' L' q' σ' ∧ stA (fun x => ∃ i, a ≤ i ∧ i < cnt ∧ jpre R G bar E (if i < w then 2 else 1) (S i) x) lv cnt cnt' L L' q q' ∧ ∀ i x, a ≤ i → i < k → jpre R G bar E (if i < w then 2 else 1) (S i) x → L' x ≠ none) a cnt hab (by omega) ⟨rfl, jfr_rf, cnt, L, q, hI, stA_rf, fun i x h1 h2 => absurd h1 (by omega)⟩ ?_ ?_
  · rintro k σ1 τ1 hak hkb ⟨rfl, hf1, cnt1, L1, q1, hI1, hA1, hD1⟩
    dsimp only
    unfold sX1_measure_69
    rw [if_neg (by rw [ni_le (by omega) (by omega)]; omega)]
    have hk1 : k < cnt1 := Nat.lt_of_lt_of_le hkb hA1.1
    have hcl1 : cnt1 ≤ nl := by rw [← hI1.2.2.2.1]; exact wc_le _ _
    refine sp_seq (s_readi 15 σ1 τ1 (by omega) (show k < nl by omega)) ?_
    dsimp only
    rw [(hI1.2.1 k hk1).1, hA1.2.1 k (by omega), (hS k (by omega)).1]
    have fin : sp (bX1_measure_98_in69 R nc nl x1 (nI w) (nI lv) (nI cnt) (nI k) (nI (jix (S k))) (nI (if k < w then 2 else 1)) σ1 τ1) (sp_S (fun v σ' τ' => v = nI (k + 1) ∧ τ' = τ1 ∧ jfr σ σ' ∧ ∃ (cnt' : Nat) (L' : Nat → Option Nat) (q' : Nat → Nat), stI nl cnt' L' q' σ' ∧ stA (fun x => ∃ i, a ≤ i ∧ i < cnt ∧ jpre R G bar E (if i < w then 2 else 1) (S i) x) lv cnt cnt' L L' q q' ∧ ∀ i x, a ≤ i → i < k + 1 → jpre R G bar E (if i < w then 2 else 1) (S i) x → L' x ≠ none) (fun e σ' τ' => e = .inl () ∧ τ' = τ1 ∧ jfr σ σ' ∧ ∃ (cnt' : Nat) (L' : Nat → Option Nat) (q' : Nat → Nat), stI nl cnt' L' q' σ' ∧ stA (fun x => ∃ i, a ≤ i ∧ i < cnt ∧ jpre R G bar E (if i < w then 2 else 1) (S i) x) lv cnt cnt' L L' q q' ∧ ∀ i x, a ≤ i → i < cnt → jpre R G bar E (if i < w then 2 else 1) (S i) x → L' x ≠ none)) := by
      unfold bX1_measure_98_in69
      refine sp_bind (s_reachBefore τ1 (jxC_fr h hf1) hR hn he (hS k (by omega)).2 hI1 (by split <;> decide) hlv) ?_
      rintro r σ2 τ2 ⟨rfl, g1, cnt2, L2, q2, g2, g3, g4⟩
      dsimp only
      refine sp_ret ⟨by rw [← ni_add]; rfl, rfl, jfr_tr hf1 g1, cnt2, L2, q2, g2, stA_tr hA1 (stA_mono g3 fun x hx => ⟨k, hak, hkb, hx⟩), fun i x h1 h2 h3 => ?_⟩
      by_cases z : i = k
      · rw [z] at h3; exact g4 x h3
      · exact stA_keeps g3 (hD1 i x h1 (by omega) h3)
    by_cases z : k < w
    · rw [if_neg (by rw [ni_le (by omega) (by omega)]; omega)]
      rw [if_pos z] at fin
      exact fin
    · rw [if_pos (by rw [ni_le (by omega) (by omega)]; omega)]
      rw [if_neg z] at fin
      exact fin
  · rintro σ1 τ1 ⟨rfl, hf1, hh⟩
    dsimp only
    unfold sX1_measure_69
    rw [if_pos (by rw [ni_le (by omega) (by omega)]; omega)]
    exact sp_ret ⟨rfl, rfl, hf1, hh⟩
end JX
