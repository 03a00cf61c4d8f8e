-- the reference's joint costs: lowered until nothing is lowered
section JM
variable {R : Nat} {G : gG} {bar : Bool} {E : jS} {σ : jp_I}
def jrI (R : Nat) (G : gG) (bar : Bool) (E : jS) (K : Nat → Nat) (σ : jp_I) : Prop := jrK K σ ∧ K (jiy E) = 0 ∧ ∀ s, jval R G s → K (jiy s) < 1000000 → cst R G bar E (K (jiy s)) s
def jcl (R : Nat) (G : gG) (bar : Bool) (E : jS) (K : Nat → Nat) (s : jS) (m : Nat) : Prop := ∀ s', jmv R G bar (m / 5) (m % 5) s s' → K (jiy s') < 1000000 → K (jiy s) ≤ pay E s s' + K (jiy s')
theorem m_lower1 (τ : jp_J) (h : jmC R G bar E σ) (hR : 1 ≤ R ∧ R ≤ 2) (hE : jval R G E) {K : Nat → Nat} (hI : jrI R G bar E K σ) {s : jS} (hs : jval R G s) :
    sp (bX8_lower_31 (nI s.1) (nI s.2) σ τ) (fun r σ' τ' => τ' = τ ∧ (∀ i, i ≠ 27 → σ' i = σ i) ∧ ∃ (f : Nat) (K' : Nat → Nat), r = nI f ∧ jrI R G bar E K' σ' ∧ ((f = 0 ∧ K' = K ∧ ∀ m, m < 25 → jcl R G bar E K s m) ∨ (f = 1 ∧ sm K' 1296 < sm K 1296))) := by
  have a1 := jval_lt hs
  have hy := jiy_lt a1
  unfold bX8_lower_31
  refine sp_bind (P := fun e σ' τ' => τ' = τ ∧ (∀ i, i ≠ 27 → σ' i = σ i) ∧ ∃ (f : Nat) (K' : Nat → Nat), e = .inl (nI f) ∧ jrI R G bar E K' σ' ∧ ((f = 0 ∧ K' = K ∧ ∀ m, m < 25 → jcl R G bar E K s m) ∨ (f = 1 ∧ sm K' 1296 < sm K 1296))) ?_ ?_
  · refine sp_loopF (fun v σ' τ' n => ∃ (m f : Nat) (K' : Nat → Nat), m ≤ 25 ∧ n = 25 - m ∧ v = (nI f, nI m) ∧ τ' = τ ∧ (∀ i, i ≠ 27 → σ' i = σ i) ∧ jrI R G bar E K' σ' ∧ ((f = 0 ∧ K' = K ∧ ∀ m', m' < m → jcl R G bar E K s m') ∨ (f = 1 ∧ sm K' 1296 < sm K 1296))) 25 ⟨0, 0, K, by decide, rfl, rfl, rfl, fun _ _ => rfl, hI, Or.inl ⟨rfl, rfl, fun m' hm' => absurd hm' (Nat.not_lt_zero _)⟩⟩ (by decide) ?_
    rintro v σ1 τ1 n ⟨m, f, K1, hm, rfl, rfl, rfl, hfr, hI1, hF⟩
    dsimp only
    unfold sX8_lower_36
    have hC1 := jmC_fr h hfr
    rw [show (25 : Int32) = nI 25 from rfl]
    refine sp_if (fun z => ?_) (fun z => ?_)
    · rw [ni_le (by decide) (by omega)] at z
      have : m = 25 := by omega
      subst this
      exact sp_ret ⟨rfl, hfr, f, K1, rfl, hI1, hF⟩
    · rw [ni_le (by decide) (by omega)] at z
      rw [show (5 : Int32) = nI 5 from rfl, ni_mod (by omega) (by decide), ni_div (by omega) (by decide)]
      refine sp_bind (m_through τ1 hC1 hR hE hI1.1 hs (show m / 5 < 5 by omega) (show m % 5 < 5 by omega)) ?_
      rintro r σ2 τ2 ⟨rfl, rfl, w, rfl, hw1, hw2⟩
      dsimp only
      have hKs := hI1.1 _ hy
      rw [show (36 : Int32) = nI 36 from rfl, ni_mul, ni_add]
      have hyy : 36 * s.1 + s.2 < 1296 := hy
      have hKs' : σ2 27 (36 * s.1 + s.2) = nI (K1 (36 * s.1 + s.2)) ∧ K1 (36 * s.1 + s.2) ≤ 1000000 := hKs
      refine sp_ok (ni_ok (by omega) (by omega)) ?_
      rw [ni_nat (by omega)]
      have next : ∀ (f2 : Nat) (K2 : Nat → Nat) (σ3 : jp_I), (∀ i, i ≠ 27 → σ3 i = σ i) → jrI R G bar E K2 σ3 → ((f2 = 0 ∧ K2 = K ∧ ∀ m', m' < m + 1 → jcl R G bar E K s m') ∨ (f2 = 1 ∧ sm K2 1296 < sm K 1296)) → sp (bX8_lower_90_in36 (nI s.1) (nI s.2) (nI f2) (nI m) σ3 τ2) (sp_R (fun v σ' τ' n => ∃ (m f : Nat) (K' : Nat → Nat), m ≤ 25 ∧ n = 25 - m ∧ v = (nI f, nI m) ∧ τ' = τ2 ∧ (∀ i, i ≠ 27 → σ' i = σ i) ∧ jrI R G bar E K' σ' ∧ ((f = 0 ∧ K' = K ∧ ∀ m', m' < m → jcl R G bar E K s m') ∨ (f = 1 ∧ sm K' 1296 < sm K 1296))) (25 - m) (fun e σ' τ' => τ' = τ2 ∧ (∀ i, i ≠ 27 → σ' i = σ i) ∧ ∃ (f : Nat) (K' : Nat → Nat), e = .inl (nI f) ∧ jrI R G bar E K' σ' ∧ ((f = 0 ∧ K' = K ∧ ∀ m, m < 25 → jcl R G bar E K s m) ∨ (f = 1 ∧ sm K' 1296 < sm K 1296)))) := by
        intro f2 K2 σ3 g1 g2 g3
        unfold bX8_lower_90_in36
        exact sp_ret ⟨25 - (m + 1), by omega, m + 1, f2, K2, by omega, rfl, by rw [← ni_add]; rfl, rfl, g1, g2, g3⟩
      refine sp_if (fun y => ?_) (fun y => ?_)
      · rw [hKs'.1, ni_le (by omega) (by omega)] at y
        refine next f K1 σ2 hfr hI1 ?_
        rcases hF with ⟨b1, b2, b3⟩ | b
        · refine Or.inl ⟨b1, b2, fun m' hm' => ?_⟩
          by_cases q : m' = m
          · subst q
            intro s' hs' hlt
            rcases hw2 with ⟨s2, c1, ⟨c2, c3⟩ | ⟨c2, c3⟩⟩ | ⟨c1, -⟩
            · have := jmv_uniq c1 hs'
              subst this
              rw [b2] at c3 y
              rw [← c3]
              exact y
            · have := jmv_uniq c1 hs'
              subst this
              rw [b2] at c2
              omega
            · exact absurd hs' (c1 s')
          · exact b3 m' (by omega)
        · exact Or.inr b
      · rw [hKs'.1, ni_le (by omega) (by omega)] at y
        have hlt : w < 1000000 := by omega
        rcases hw2 with ⟨s2, c1, ⟨c2, c3⟩ | ⟨c2, c3⟩⟩ | ⟨-, c3⟩
        · refine sp_ok (ni_ok (by omega) (by omega)) ?_
          have hs2 := jmv_val hs c1
          have b1 := jval_lt hs2
          have hne : jiy s2 ≠ jiy s := by
            intro q
            rw [q] at c3
            unfold jiy at c3
            omega
          have hneE : jiy E ≠ jiy s := by
            intro q
            have := hI1.2.1
            rw [q] at this
            unfold jiy at this
            omega
          have hst : jst R G bar s s2 := ⟨_, _, by omega, by omega, c1⟩
          show sp (bX8_lower_90_in36 (nI s.1) (nI s.2) (nI 1) (nI m) (jp_up σ2 27 (jiy s) (nI w)) τ2) _
          refine next 1 (fup K1 (jiy s) w) _ (fun i hi => by rw [jp_up_n _ _ hi]; exact hfr i hi) ⟨fun x hx => ?_, by rw [fup_n _ _ hneE]; exact hI1.2.1, fun t ht hlt2 => ?_⟩ ?_
          · by_cases q : x = jiy s
            · rw [q, jp_up_eq, fup_s]; exact ⟨rfl, by omega⟩
            · rw [jp_up_ne _ _ _ q, fup_n _ _ q]; exact hI1.1 x hx
          · by_cases q : jiy t = jiy s
            · have := jiy_inj (jval_lt ht).2 a1.2 q
              subst this
              rw [fup_s, c3]
              exact cst_step hst (hI1.2.2 s2 hs2 c2)
            · rw [fup_n _ _ q] at hlt2 ⊢
              exact hI1.2.2 t ht hlt2
          · refine Or.inr ⟨rfl, ?_⟩
            have hsum := sm_fup K1 (jiy s) w 1296 hy
            have hyK : w < K1 (jiy s) := by unfold jiy; omega
            rcases hF with ⟨-, b2, -⟩ | ⟨-, b2⟩
            · rw [b2] at hsum hyK ⊢
              omega
            · omega
        · omega
        · omega
  · rintro e σ1 τ1 ⟨rfl, hfr, f, K1, rfl, hI1, hF⟩
    dsimp only
    have hf : f = 0 ∨ f = 1 := by
      rcases hF with ⟨q, -⟩ | ⟨q, -⟩
      · exact Or.inl q
      · exact Or.inr q
    rw [if_pos (by rcases hf with q | q <;> rw [q] <;> rfl)]
    exact sp_ret ⟨rfl, hfr, f, K1, rfl, hI1, hF⟩
/-- where a pass stands -/
def jpF (R : Nat) (G : gG) (bar : Bool) (E : jS) (K0 K : Nat → Nat) (f : Nat) (D : jS → Prop) : Prop := (f = 0 ∧ K = K0 ∧ ∀ s, jval R G s → D s → ∀ m, m < 25 → jcl R G bar E K0 s m) ∨ (f = 1 ∧ sm K 1296 < sm K0 1296)
theorem m_lower (τ : jp_J) (h : jmC R G bar E σ) (hR : 1 ≤ R ∧ R ≤ 2) (hE : jval R G E) {K0 K : Nat → Nat} {f0 : Nat} {D : jS → Prop} (hI : jrI R G bar E K σ) (hF : jpF R G bar E K0 K f0 D) {a b : Nat} (ha : a < 36) (hb : b < 36) (hb0 : R ≠ 2 → b = 0) :
    sp (fX8_lower (nI a) (nI b) σ τ) (fun r σ' τ' => τ' = τ ∧ (∀ i, i ≠ 27 → σ' i = σ i) ∧ ∃ (f : Nat) (K' : Nat → Nat), r = nI f ∧ f ≤ 1 ∧ jrI R G bar E K' σ' ∧ jpF R G bar E K0 K' (if f = 0 then f0 else 1) (fun s => D s ∨ s = (a, b))) := by
  have same : ¬ jval R G (a, b) → sp (some ((0 : Int32), σ, τ)) (fun r σ' τ' => τ' = τ ∧ (∀ i, i ≠ 27 → σ' i = σ i) ∧ ∃ (f : Nat) (K' : Nat → Nat), r = nI f ∧ f ≤ 1 ∧ jrI R G bar E K' σ' ∧ jpF R G bar E K0 K' (if f = 0 then f0 else 1) (fun s => D s ∨ s = (a, b))) := by
    intro hn
    refine sp_ret ⟨rfl, fun _ _ => rfl, 0, K, rfl, by decide, hI, ?_⟩
    rw [if_pos rfl]
    rcases hF with ⟨b1, b2, b3⟩ | c
    · refine Or.inl ⟨b1, b2, fun s hs hD => ?_⟩
      rcases hD with q | q
      · exact b3 s hs q
      · rw [q] at hs; exact absurd hs hn
    · exact Or.inr c
  have go : jval R G (a, b) → sp (bX8_lower_31 (nI a) (nI b) σ τ) (fun r σ' τ' => τ' = τ ∧ (∀ i, i ≠ 27 → σ' i = σ i) ∧ ∃ (f : Nat) (K' : Nat → Nat), r = nI f ∧ f ≤ 1 ∧ jrI R G bar E K' σ' ∧ jpF R G bar E K0 K' (if f = 0 then f0 else 1) (fun s => D s ∨ s = (a, b))) := by
    intro hv
    refine sp_mono (m_lower1 (s := (a, b)) τ h hR hE hI hv) ?_
    rintro r σ1 τ1 ⟨rfl, hfr, f, K1, rfl, hI1, ⟨b1, b2, b3⟩ | ⟨b1, b2⟩⟩
    · refine ⟨rfl, hfr, f, K1, rfl, by omega, hI1, ?_⟩
      rw [if_pos b1]
      rcases hF with ⟨c1, c2, c3⟩ | ⟨c1, c2⟩
      · refine Or.inl ⟨c1, b2.trans c2, fun s hs hD => ?_⟩
        rcases hD with q | q
        · exact c3 s hs q
        · rw [q, ← c2]; exact b3
      · exact Or.inr ⟨c1, by rw [b2]; exact c2⟩
    · refine ⟨rfl, hfr, f, K1, rfl, by omega, hI1, ?_⟩
      rw [if_neg (by omega)]
      refine Or.inr ⟨rfl, ?_⟩
      rcases hF with ⟨-, c2, -⟩ | ⟨-, c2⟩
      · rw [← c2]; exact b2
      · omega
  unfold fX8_lower
  refine sp_seq (m_outside τ h.1 ha) ?_
  dsimp only
  cases oa : opn G a with
  | false =>
    rw [if_neg (by decide)]
    exact same (fun w => by have := w.1; rw [show opn G (a, b).1 = opn G a from rfl, oa] at this; cases this)
  | true =>
    rw [if_pos (show bI (!true) = 0 from rfl)]
    refine sp_if (fun z => ?_) (fun z => ?_)
    · rw [h.2.1, show (2 : Int32) = nI 2 from rfl, ni_inj (by omega) (by decide)] at z
      refine sp_seq (m_outside τ h.1 hb) ?_
      dsimp only
      cases ob : opn G b with
      | false =>
        rw [if_neg (by decide)]
        exact same (fun w => by have := (w.2.1 z).1; rw [show opn G (a, b).2 = opn G b from rfl, ob] at this; cases this)
      | true =>
        rw [if_pos (show bI (!true) = 0 from rfl)]
        refine sp_if (fun y => ?_) (fun y => ?_)
        · rw [ni_inj (by omega) (by omega)] at y
          exact same (fun w => (w.2.1 z).2 y)
        · rw [ni_inj (by omega) (by omega)] at y
          exact go ⟨oa, fun _ => ⟨ob, y⟩, fun q => absurd z q⟩
    · rw [h.2.1, show (2 : Int32) = nI 2 from rfl, ni_inj (by omega) (by decide)] at z
      exact go ⟨oa, fun q => absurd q z, fun q => hb0 q⟩
def jB (R : Nat) : Nat := if R = 2 then 36 else 1
theorem m_pass1 (τ : jp_J) (h : jmC R G bar E σ) (hR : 1 ≤ R ∧ R ≤ 2) (hE : jval R G E) {K0 K : Nat → Nat} {f0 a : Nat} (hI : jrI R G bar E K σ) (hF : jpF R G bar E K0 K f0 (fun s => s.1 < a)) (hf0 : f0 ≤ 1) (ha : a < 36) :
    sp (jp_loop (fun q : (Int32 × Int32) × jp_I × jp_J => sX8_jointly_89 q.1.1 (nI a) q.1.2 q.2.1 q.2.2) jp_F ((nI f0, nI 0), σ, τ)) (fun e σ' τ' => τ' = τ ∧ (∀ i, i ≠ 27 → σ' i = σ i) ∧ ∃ (f : Nat) (K' : Nat → Nat), e = .inl (nI f) ∧ f ≤ 1 ∧ jrI R G bar E K' σ' ∧ jpF R G bar E K0 K' f (fun s => s.1 < a + 1)) := by
  have hB : jB R ≤ 36 := by unfold jB; split <;> omega
  refine sp_loopF (fun v σ' τ' n => ∃ (b f : Nat) (K' : Nat → Nat), b ≤ jB R ∧ n = jB R - b ∧ v = (nI f, nI b) ∧ f ≤ 1 ∧ τ' = τ ∧ (∀ i, i ≠ 27 → σ' i = σ i) ∧ jrI R G bar E K' σ' ∧ jpF R G bar E K0 K' f (fun s => s.1 < a ∨ (s.1 = a ∧ s.2 < b))) (jB R) ⟨0, f0, K, Nat.zero_le _, rfl, rfl, hf0, rfl, fun _ _ => rfl, hI, ?_⟩ (by omega) ?_
  · rcases hF with ⟨b1, b2, b3⟩ | c
    · exact Or.inl ⟨b1, b2, fun s hs hD => b3 s hs (hD.resolve_right (fun q => absurd q.2 (Nat.not_lt_zero _)))⟩
    · exact Or.inr c
  · rintro v σ1 τ1 n ⟨b, f, K1, hb, rfl, rfl, hf, rfl, hfr, hI1, hF1⟩
    dsimp only
    unfold sX8_jointly_89
    have hC1 := jmC_fr h hfr
    have body : ∀ y1 : Nat, y1 = jB R → sp (bX8_jointly_104_in89 (nI f) (nI a) (nI b) (nI b) (nI y1) σ1 τ1) (sp_R (fun v σ' τ' n => ∃ (b f : Nat) (K' : Nat → Nat), b ≤ jB R ∧ n = jB R - b ∧ v = (nI f, nI b) ∧ f ≤ 1 ∧ τ' = τ1 ∧ (∀ i, i ≠ 27 → σ' i = σ i) ∧ jrI R G bar E K' σ' ∧ jpF R G bar E K0 K' f (fun s => s.1 < a ∨ (s.1 = a ∧ s.2 < b))) (jB R - b) (fun e σ' τ' => τ' = τ1 ∧ (∀ i, i ≠ 27 → σ' i = σ i) ∧ ∃ (f : Nat) (K' : Nat → Nat), e = .inl (nI f) ∧ f ≤ 1 ∧ jrI R G bar E K' σ' ∧ jpF R G bar E K0 K' f (fun s => s.1 < a + 1))) := by
      intro y1 hy1
      unfold bX8_jointly_104_in89
      refine sp_if (fun z => ?_) (fun z => ?_)
      · rw [ni_le (by omega) (by omega)] at z
        refine sp_ret ⟨rfl, hfr, f, K1, rfl, hf, hI1, ?_⟩
        rcases hF1 with ⟨b1, b2, b3⟩ | c
        · refine Or.inl ⟨b1, b2, fun s hs hD => b3 s hs ?_⟩
          have h2 : s.1 < a + 1 := hD
          by_cases q : s.1 < a
          · exact Or.inl q
          · refine Or.inr ⟨by omega, ?_⟩
            have := jval_lt hs
            have hz := hs.2.2
            unfold jB at hy1
            by_cases r2 : R = 2
            · rw [if_pos r2] at hy1; omega
            · rw [if_neg r2] at hy1
              have := hz r2
              omega
        · exact Or.inr c
      · rw [ni_le (by omega) (by omega)] at z
        refine sp_bind (m_lower τ1 hC1 hR hE hI1 hF1 ha (show b < 36 by omega) (fun q => by unfold jB at hy1; rw [if_neg q] at hy1; omega)) ?_
        rintro r σ2 τ2 ⟨rfl, f2, ff, K2, rfl, hff, hI2, hF2⟩
        dsimp only
        have fr2 : ∀ i, i ≠ 27 → σ2 i = σ i := fun i hi => by rw [f2 i hi]; exact hfr i hi
        have adj2 : ∀ x, jpF R G bar E K0 K2 x (fun s => (s.1 < a ∨ (s.1 = a ∧ s.2 < b)) ∨ s = (a, b)) → jpF R G bar E K0 K2 x (fun s => s.1 < a ∨ (s.1 = a ∧ s.2 < b + 1)) := by
          intro x hx
          rcases hx with ⟨b1, b2, b3⟩ | c
          · refine Or.inl ⟨b1, b2, fun s hs hD => b3 s hs ?_⟩
            rcases hD with q | ⟨q1, q2⟩
            · exact Or.inl (Or.inl q)
            · by_cases q3 : s.2 < b
              · exact Or.inl (Or.inr ⟨q1, q3⟩)
              · exact Or.inr (Prod.ext q1 (by show s.2 = b; omega))
          · exact Or.inr c
        unfold bX8_jointly_118_in89
        refine sp_if (fun y => ?_) (fun y => ?_)
        · rw [show (0 : Int32) = nI 0 from rfl, ni_inj (by omega) (by decide)] at y
          rw [if_pos y] at hF2
          exact sp_ret ⟨jB R - (b + 1), by omega, b + 1, f, K2, by omega, rfl, by rw [← ni_add]; rfl, hf, rfl, fr2, hI2, adj2 f hF2⟩
        · rw [show (0 : Int32) = nI 0 from rfl, ni_inj (by omega) (by decide)] at y
          rw [if_neg y] at hF2
          exact sp_ret ⟨jB R - (b + 1), by omega, b + 1, 1, K2, by omega, rfl, by rw [← ni_add]; rfl, by decide, rfl, fr2, hI2, adj2 1 hF2⟩
    refine sp_if (fun z => ?_) (fun z => ?_)
    · rw [hC1.2.1, show (2 : Int32) = nI 2 from rfl, ni_inj (by omega) (by decide)] at z
      exact body 36 (by unfold jB; rw [if_pos z])
    · rw [hC1.2.1, show (2 : Int32) = nI 2 from rfl, ni_inj (by omega) (by decide)] at z
      exact body 1 (by unfold jB; rw [if_neg z])
theorem m_pass2 (τ : jp_J) (h : jmC R G bar E σ) (hR : 1 ≤ R ∧ R ≤ 2) (hE : jval R G E) {K0 : Nat → Nat} (hI : jrI R G bar E K0 σ) :
    sp (jp_loop (fun q : (Int32 × Int32) × jp_I × jp_J => sX8_jointly_81 q.1.1 q.1.2 q.2.1 q.2.2) jp_F ((nI 0, nI 0), σ, τ)) (fun e σ' τ' => τ' = τ ∧ (∀ i, i ≠ 27 → σ' i = σ i) ∧ ∃ (f : Nat) (K' : Nat → Nat), e = .inl (nI f) ∧ f ≤ 1 ∧ jrI R G bar E K' σ' ∧ jpF R G bar E K0 K' f (fun _ => True)) := by
  refine sp_loopF (fun v σ' τ' n => ∃ (a f : Nat) (K' : Nat → Nat), a ≤ 36 ∧ n = 36 - a ∧ v = (nI f, nI a) ∧ f ≤ 1 ∧ τ' = τ ∧ (∀ i, i ≠ 27 → σ' i = σ i) ∧ jrI R G bar E K' σ' ∧ jpF R G bar E K0 K' f (fun s => s.1 < a)) 36 ⟨0, 0, K0, by decide, rfl, rfl, by decide, rfl, fun _ _ => rfl, hI, Or.inl ⟨rfl, rfl, fun s _ q => absurd q (Nat.not_lt_zero _)⟩⟩ (by decide) ?_
  rintro v σ1 τ1 n ⟨a, f, K1, ha, rfl, rfl, hf, rfl, hfr, hI1, hF1⟩
  dsimp only
  unfold sX8_jointly_81
  rw [show (36 : Int32) = nI 36 from rfl]
  refine sp_if (fun z => ?_) (fun z => ?_)
  · rw [ni_le (by decide) (by omega)] at z
    refine sp_ret ⟨rfl, hfr, f, K1, rfl, hf, hI1, ?_⟩
    rcases hF1 with ⟨b1, b2, b3⟩ | c
    · exact Or.inl ⟨b1, b2, fun s hs _ => b3 s hs (by have := jval_lt hs; show s.1 < a; omega)⟩
    · exact Or.inr c
  · rw [ni_le (by decide) (by omega)] at z
    refine sp_bind (m_pass1 τ1 (jmC_fr h hfr) hR hE hI1 hF1 hf (by omega)) ?_
    rintro e σ2 τ2 ⟨rfl, f2, ff, K2, rfl, hff, hI2, hF2⟩
    dsimp only
    exact sp_ret ⟨36 - (a + 1), by omega, a + 1, ff, K2, by omega, rfl, by rw [← ni_add]; rfl, hff, rfl, fun i hi => by rw [f2 i hi]; exact hfr i hi, hI2, hF2⟩
theorem m_pass3 (τ : jp_J) (h : jmC R G bar E σ) (hR : 1 ≤ R ∧ R ≤ 2) (hE : jval R G E) {K : Nat → Nat} (hI : jrI R G bar E K σ) :
    sp (jp_loop (fun q : (Int32) × jp_I × jp_J => sX8_jointly_73 q.1 q.2.1 q.2.2) jp_F (nI 1, σ, τ)) (fun e σ' τ' => e = .inl () ∧ τ' = τ ∧ (∀ i, i ≠ 27 → σ' i = σ i) ∧ ∃ (K' : Nat → Nat), jrI R G bar E K' σ' ∧ ∀ s, jval R G s → ∀ m, m < 25 → jcl R G bar E K' s m) := by
  refine sp_loopF (fun v σ' τ' n => ∃ (f : Nat) (K' : Nat → Nat), f ≤ 1 ∧ n = sm K' 1296 + f ∧ v = nI f ∧ τ' = τ ∧ (∀ i, i ≠ 27 → σ' i = σ i) ∧ jrI R G bar E K' σ' ∧ (f = 0 → ∀ s, jval R G s → ∀ m, m < 25 → jcl R G bar E K' s m)) (sm K 1296 + 1) ⟨1, K, by decide, rfl, rfl, rfl, fun _ _ => rfl, hI, fun q => absurd q (by decide)⟩ (by have := sm_le 1296 (fun c hc => (hI.1 c hc).2); omega) ?_
  rintro v σ1 τ1 n ⟨f, K1, hf, rfl, rfl, rfl, hfr, hI1, hcl⟩
  dsimp only
  unfold sX8_jointly_73
  refine sp_if (fun z => ?_) (fun z => ?_)
  · rw [show (0 : Int32) = nI 0 from rfl, ni_inj (by omega) (by decide)] at z
    exact sp_ret ⟨rfl, rfl, hfr, K1, hI1, hcl z⟩
  · rw [show (0 : Int32) = nI 0 from rfl, ni_inj (by omega) (by decide)] at z
    refine sp_bind (m_pass2 τ1 (jmC_fr h hfr) hR hE hI1) ?_
    rintro e σ2 τ2 ⟨rfl, f2, ff, K2, rfl, hff, hI2, hF2⟩
    dsimp only
    have fr2 : ∀ i, i ≠ 27 → σ2 i = σ i := fun i hi => by rw [f2 i hi]; exact hfr i hi
    rcases hF2 with ⟨a1, a2, a3⟩ | ⟨a1, a2⟩
    · exact sp_ret ⟨sm K2 1296 + ff, by rw [a2]; omega, ff, K2, hff, rfl, rfl, rfl, fr2, hI2, fun _ => by rw [a2]; exact fun s hs m hm => a3 s hs trivial m hm⟩
    · exact sp_ret ⟨sm K2 1296 + ff, by omega, ff, K2, hff, rfl, rfl, rfl, fr2, hI2, fun q => by omega⟩
/-- the costs are the least ones, where these are small -/
theorem jK_low {K : Nat → Nat} (hcl : ∀ s, jval R G s → ∀ m, m < 25 → jcl R G bar E K s m) (hE0 : K (jiy E) = 0) : ∀ k u s, jval R G s → jc R G bar E k u s → u < 1000000 → K (jiy s) ≤ u := by
  intro k
  induction k with
  | zero =>
    rintro u s hs ⟨rfl, rfl⟩ _
    rw [hE0]; exact Nat.le_refl _
  | succ k ih =>
    rintro u s hs ⟨s', u', ⟨i, j, hi, hj, hm⟩, rfl, h3⟩ hu
    have hs' := jmv_val hs hm
    have h4 := ih u' s' hs' h3 (by omega)
    have h5 := hcl s hs (i * 5 + j) (by omega) s' (by rw [show (i * 5 + j) / 5 = i by omega, show (i * 5 + j) % 5 = j by omega]; exact hm) (by omega)
    omega
theorem jK_eq {K : Nat → Nat} (hI : jrI R G bar E K σ) (hcl : ∀ s, jval R G s → ∀ m, m < 25 → jcl R G bar E K s m) {s : jS} {v : Nat} (hs : jval R G s) (hl : lst R G bar E v s) (hv : v < 1000000) : K (jiy s) = v := by
  obtain ⟨k, hk⟩ := hl.1
  have h1 := jK_low hcl hI.2.1 k v s hs hk hv
  have h2 := hl.2 _ (hI.2.2 s hs (by omega))
  omega
end JM
