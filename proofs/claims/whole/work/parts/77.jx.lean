-- the class's joint search: its rows
def jix (s : jS) : Nat := s.1 + 36 * s.2
/-- L: what is known by state; q 0 .. q (cnt - 1): the states in the order in which they were reached -/
def stI (nl cnt : Nat) (L : Nat → Option Nat) (q : Nat → Nat) (σ : jp_I) : Prop :=
  (∀ x, x < nl → σ 14 x = enc (L x)) ∧ (∀ i, i < cnt → σ 15 i = nI (q i) ∧ q i < nl ∧ L (q i) ≠ none) ∧ (∀ x, L x ≠ none → x < nl ∧ ∃ i, i < cnt ∧ q i = x) ∧ wc (fun x => (L x).isSome) nl = cnt ∧ σ 13 4 = nI cnt ∧ ∀ x v, L x = some v → v < 10000
/-- what a search adds: places that satisfy P, at the value v -/
def stA (P : Nat → Prop) (v cnt cnt' : Nat) (L L' : Nat → Option Nat) (q q' : Nat → Nat) : Prop :=
  cnt ≤ cnt' ∧ (∀ i, i < cnt → q' i = q i) ∧ (∀ x, L x ≠ none → L' x = L x) ∧ (∀ x, L x = none → L' x ≠ none → L' x = some v ∧ P x) ∧ ∀ i, cnt ≤ i → i < cnt' → L' (q' i) = some v
theorem stA_rf {P : Nat → Prop} {v cnt : Nat} {L : Nat → Option Nat} {q : Nat → Nat} : stA P v cnt cnt L L q q := ⟨Nat.le_refl _, fun _ _ => rfl, fun _ _ => rfl, fun x h1 h2 => absurd h1 h2, fun i h1 h2 => absurd h1 (by omega)⟩
theorem stA_tr {P : Nat → Prop} {v c1 c2 c3 : Nat} {L1 L2 L3 : Nat → Option Nat} {q1 q2 q3 : Nat → Nat} (h : stA P v c1 c2 L1 L2 q1 q2) (h' : stA P v c2 c3 L2 L3 q2 q3) : stA P v c1 c3 L1 L3 q1 q3 := by
  obtain ⟨a1, a2, a3, a4, a5⟩ := h
  obtain ⟨b1, b2, b3, b4, b5⟩ := h'
  refine ⟨by omega, fun i hi => by rw [b2 i (by omega), a2 i hi], fun x hx => ?_, fun x h1 h2 => ?_, fun i h1 h2 => ?_⟩
  · have := a3 x hx
    rw [b3 x (by rw [this]; exact hx), this]
  · by_cases z : L2 x = none
    · exact b4 x z h2
    · rw [b3 x z]; exact a4 x h1 z
  · by_cases z : i < c2
    · have := a5 i h1 z
      rw [b2 i z, b3 _ (by rw [this]; exact fun w => by cases w), this]
    · exact b5 i (by omega) h2
theorem stA_mono {P Q : Nat → Prop} {v c1 c2 : Nat} {L1 L2 : Nat → Option Nat} {q1 q2 : Nat → Nat} (h : stA P v c1 c2 L1 L2 q1 q2) (hPQ : ∀ x, P x → Q x) : stA Q v c1 c2 L1 L2 q1 q2 :=
  ⟨h.1, h.2.1, h.2.2.1, fun x h1 h2 => ⟨(h.2.2.2.1 x h1 h2).1, hPQ x (h.2.2.2.1 x h1 h2).2⟩, h.2.2.2.2⟩
theorem stA_keeps {P : Nat → Prop} {v c1 c2 x : Nat} {L1 L2 : Nat → Option Nat} {q1 q2 : Nat → Nat} (h : stA P v c1 c2 L1 L2 q1 q2) (hx : L1 x ≠ none) : L2 x ≠ none := by rw [h.2.2.1 x hx]; exact hx
def jfr (σ σ' : jp_I) : Prop := (∀ i, i ≠ 13 → i ≠ 14 → i ≠ 15 → σ' i = σ i) ∧ ∀ k, k ≠ 4 → σ' 13 k = σ 13 k
theorem jfr_rf {σ : jp_I} : jfr σ σ := ⟨fun _ _ _ _ => rfl, fun _ _ => rfl⟩
theorem jfr_tr {σ σ1 σ2 : jp_I} (h : jfr σ σ1) (h' : jfr σ1 σ2) : jfr σ σ2 := ⟨fun i a b c => by rw [h'.1 i a b c, h.1 i a b c], fun k hk => by rw [h'.2 k hk, h.2 k hk]⟩
theorem s_reach {n nc nl cnt x v : Nat} {L : Nat → Option Nat} {q : Nat → Nat} {P : Nat → Prop} {σ : jp_I} (τ : jp_J) (hnl : nl < 100000) (h : stI nl cnt L q σ) (hx : x < nl) (hv : v < 10000) (hP : P x) :
    sp (fX1_reach n nc nl (nI x) (nI v) σ τ) (fun _ σ' τ' => τ' = τ ∧ jfr σ σ' ∧ ∃ (cnt' : Nat) (L' : Nat → Option Nat) (q' : Nat → Nat), stI nl cnt' L' q' σ' ∧ stA P v cnt cnt' L L' q q' ∧ L' x ≠ none) := by
  obtain ⟨h1, h2, h3, h4, h5, h6⟩ := id h
  unfold fX1_reach
  refine sp_seq (s_readi 14 σ τ (by omega) hx) ?_
  dsimp only
  rw [h1 x hx]
  have hcl : cnt ≤ nl := by rw [← h4]; exact wc_le _ _
  cases e : L x with
  | some w =>
    have := h6 x w e
    rw [if_neg (show ¬ enc (some w) = -1 from ni_neg (by omega))]
    exact sp_ret ⟨rfl, jfr_rf, cnt, L, q, h, stA_rf, by rw [e]; exact fun z => by cases z⟩
  | none =>
    rw [if_pos (show enc none = -1 from rfl)]
    refine sp_seq (s_write 14 _ _ _ (by omega) hx) ?_
    dsimp only
    have hlt : cnt < nl := by
      rw [← h4]
      exact wc_full hx (by rw [e]; rfl)
    rw [jp_up_n _ _ (by decide), h5]
    refine sp_seq (s_write 15 _ _ _ (by omega) hlt) ?_
    dsimp only
    have hnew : ∀ i, i < cnt → q i ≠ x := fun i hi z => (h2 i hi).2.2 (by rw [z]; exact e)
    refine sp_ret ⟨rfl, ⟨fun i a b c => by rw [jp_up_n _ _ a, jp_up_n _ _ c, jp_up_n _ _ b], fun k hk => by rw [jp_up_ne _ _ _ hk, jp_up_n _ _ (by decide), jp_up_n _ _ (by decide)]⟩, cnt + 1, fup L x (some v), fup q cnt x, ?_, ?_, ?_⟩
    · refine ⟨fun y hy => ?_, fun i hi => ?_, fun y hy => ?_, ?_, ?_, fun y w hw => ?_⟩
      · rw [jp_up_n _ _ (by decide), jp_up_n _ _ (by decide)]
        by_cases z : y = x
        · rw [z, jp_up_eq, fup_s]; rfl
        · rw [jp_up_ne _ _ _ z, fup_n _ _ z]; exact h1 y hy
      · rw [jp_up_n _ _ (by decide)]
        by_cases z : i = cnt
        · rw [z, jp_up_eq, fup_s, fup_s]
          exact ⟨rfl, hx, fun w => by cases w⟩
        · obtain ⟨a, b, c⟩ := h2 i (by omega)
          rw [jp_up_ne _ _ _ z, jp_up_n _ _ (by decide), fup_n _ _ z, fup_n _ _ (hnew i (by omega))]
          exact ⟨a, b, c⟩
      · by_cases z : y = x
        · rw [z]; exact ⟨hx, cnt, by omega, fup_s _ _ _⟩
        · rw [fup_n _ _ z] at hy
          obtain ⟨a, i, b, c⟩ := h3 y hy
          exact ⟨a, i, by omega, by rw [fup_n _ _ (by omega)]; exact c⟩
      · have hs := wc_set (fun x => (L x).isSome) x true nl
        have e3 : (fun y => (fup L x (some v) y).isSome) = (fun y => if y = x then true else (L y).isSome) := by
          funext y
          by_cases z : y = x
          · rw [if_pos z, z, fup_s]; rfl
          · rw [if_neg z, fup_n _ _ z]
        rw [e3]
        simp only [hx, e, true_and, Option.isSome_none, Bool.false_eq_true, if_false, if_true] at hs
        rw [h4] at hs
        omega
      · rw [jp_up_eq, jp_up_n _ _ (by decide), jp_up_n _ _ (by decide), h5, ← ni_add]; rfl
      · by_cases z : y = x
        · rw [z, fup_s] at hw; cases hw; exact hv
        · rw [fup_n _ _ z] at hw; exact h6 y w hw
    · refine ⟨by omega, fun i hi => fup_n _ _ (by omega), fun y hy => fup_n _ _ (fun z => hy (by rw [z]; exact e)), fun y a b => ?_, fun i a b => ?_⟩
      · by_cases z : y = x
        · rw [z, fup_s]; exact ⟨rfl, hP⟩
        · rw [fup_n _ _ z] at b; exact absurd a b
      · rw [show i = cnt by omega, fup_s, fup_s]
    · rw [fup_s]; exact fun w => by cases w
/-- what the joint search stands on -/
def jxC (R : Nat) (G : gG) (bar : Bool) (E : jS) (σ : jp_I) : Prop := chX G σ ∧ σ 13 1 = nI R ∧ σ 1 4 = bI bar ∧ σ 13 5 = nI E.1 ∧ σ 13 6 = nI E.2
theorem jxC_fr {R : Nat} {G : gG} {bar : Bool} {E : jS} {σ σ' : jp_I} (h : jxC R G bar E σ) (hf : jfr σ σ') : jxC R G bar E σ' := by
  obtain ⟨h1, h2, h3, h4, h5⟩ := h
  exact ⟨chX_congr h1 (hf.1 6 (by decide) (by decide) (by decide)), by rw [hf.2 1 (by decide)]; exact h2, by rw [hf.1 1 (by decide) (by decide) (by decide)]; exact h3, by rw [hf.2 5 (by decide)]; exact h4, by rw [hf.2 6 (by decide)]; exact h5⟩
section JX
variable {R nc nl : Nat} {G : gG} {bar : Bool} {E : jS} {σ : jp_I}
theorem tgt_mvc {c m : Nat} (h : opn G c = true) : tgt G c m = mvc G c m := by unfold tgt; rw [if_pos h]
theorem s_next0 (τ : jp_J) (h : jxC R G bar E σ) (hR : 1 ≤ R ∧ R ≤ 2) {a i : Nat} (ha : opn G a = true) (hi : i < 5) : fX1_next R nc nl 0 (nI a) (nI i) σ τ = some (enc (mvc G a i), σ, τ) := by
  unfold fX1_next
  rw [h.2.1, show (0 : Int32) = nI 0 from rfl, if_neg (by rw [ni_le (by omega) (by decide)]; omega), s_moved τ h.1 (opn_lt ha) hi, Option.bind_some, tgt_mvc ha]
theorem s_next1 (τ : jp_J) (h : jxC R G bar E σ) (hR : 1 ≤ R ∧ R ≤ 2) {b j : Nat} (hb : R = 2 → opn G b = true) (hj : j < 5) : fX1_next R nc nl 1 (nI b) (nI j) σ τ = some (enc (nx1 R G b j), σ, τ) := by
  unfold fX1_next nx1
  rw [h.2.1, show (1 : Int32) = nI 1 from rfl]
  by_cases q : R = 2
  · rw [if_neg (by rw [ni_le (by omega) (by decide)]; omega), s_moved τ h.1 (opn_lt (hb q)) hj, Option.bind_some, tgt_mvc (hb q), if_pos q]
  · rw [if_pos (by rw [ni_le (by omega) (by decide)]; omega), if_neg q]
    by_cases z : j = 0
    · rw [if_pos (by rw [z]; rfl), if_pos z]; rfl
    · rw [if_neg (by rw [show (0 : Int32) = nI 0 from rfl, ni_inj (by omega) (by decide)]; exact z), if_neg z]; rfl
theorem s_ownCost {a b e : Nat} (ha : a < 36) (hb : b < 36) (he : e < 36) (σ : jp_I) (τ : jp_J) : fX7_ownCost (nI a) (nI b) (nI e) σ τ = some (nI (ownc a b e), σ, τ) := by
  unfold fX7_ownCost ownc
  by_cases z : a = b
  · rw [if_pos (by rw [z])]
    by_cases y : b = e
    · rw [if_pos (by rw [y]), if_pos ⟨z, y⟩]; rfl
    · rw [if_neg (by rw [ni_inj (by omega) (by omega)]; exact y), if_neg (fun w => y w.2)]; rfl
  · rw [if_neg (by rw [ni_inj (by omega) (by omega)]; exact z), if_neg (fun w => z w.1)]; rfl
theorem s_stepCost (τ : jp_J) (h : jxC R G bar E σ) {s s' : jS} (h1 : s.1 < 36) (h2 : s.2 < 36) (h3 : s'.1 < 36) (h4 : s'.2 < 36) (he1 : E.1 < 36) (he2 : E.2 < 36) : fX1_stepCost R nc nl (nI s.1) (nI s.2) (nI s'.1) (nI s'.2) σ τ = some (nI (pay E s s'), σ, τ) := by
  unfold fX1_stepCost
  rw [h.2.2.2.1, s_ownCost h1 h3 he1, Option.bind_some]
  dsimp only
  rw [h.2.2.2.2, s_ownCost h2 h4 he2, Option.bind_some]
  dsimp only
  rw [ni_add]; rfl
/-- fits, as the class asks it -/
def jfit (R : Nat) (bar : Bool) (a b c d : Nat) : Prop := R = 2 → c ≠ d ∧ ¬ (bar = true ∧ c = b ∧ d = a)
theorem s_fits (τ : jp_J) (h : jxC R G bar E σ) (hR : 1 ≤ R ∧ R ≤ 2) {a b c d : Nat} (ha : a < 36) (hb : b < 36) (hc : c < 36) (hd : d < 36) : sp (fX1_fits R nc nl (nI a) (nI b) (nI c) (nI d) σ τ) (fun r σ' τ' => σ' = σ ∧ τ' = τ ∧ ((r = 1 ∧ jfit R bar a b c d) ∨ (r = 0 ∧ ¬ jfit R bar a b c d))) := by
  have fin : ∀ y : Bool, (y = true ↔ (bar = true ∧ c = b ∧ d = a)) → sp (bX1_fits_26 R nc nl (nI c) (nI d) (bI y) σ τ) (fun r σ' τ' => σ' = σ ∧ τ' = τ ∧ ((r = 1 ∧ jfit R bar a b c d) ∨ (r = 0 ∧ ¬ jfit R bar a b c d))) := by
    intro y hy
    unfold bX1_fits_26
    rw [h.2.1, show (2 : Int32) = nI 2 from rfl]
    refine sp_if (fun z => ?_) (fun z => ?_)
    · rw [ni_lt (by omega) (by decide)] at z
      exact sp_ret ⟨rfl, rfl, Or.inl ⟨rfl, fun q => by omega⟩⟩
    · rw [ni_lt (by omega) (by decide)] at z
      have hR2 : R = 2 := by omega
      refine sp_if (fun w => ?_) (fun w => ?_)
      · rw [ni_inj (by omega) (by omega)] at w
        exact sp_ret ⟨rfl, rfl, Or.inr ⟨rfl, fun q => (q hR2).1 w⟩⟩
      · rw [ni_inj (by omega) (by omega)] at w
        cases y with
        | false =>
          rw [if_pos (show bI false = 0 from rfl)]
          exact sp_ret ⟨rfl, rfl, Or.inl ⟨rfl, fun _ => ⟨w, fun q => absurd (hy.mpr q) (by decide)⟩⟩⟩
        | true =>
          rw [if_neg (show ¬ bI true = 0 by decide)]
          exact sp_ret ⟨rfl, rfl, Or.inr ⟨rfl, fun q => (q hR2).2 (hy.mp rfl)⟩⟩
  have f0 : ¬ (bar = true ∧ c = b ∧ d = a) → sp (bX1_fits_25 R nc nl (nI c) (nI d) σ τ) (fun r σ' τ' => σ' = σ ∧ τ' = τ ∧ ((r = 1 ∧ jfit R bar a b c d) ∨ (r = 0 ∧ ¬ jfit R bar a b c d))) := fun hn => by
    unfold bX1_fits_25
    exact fin false ⟨fun q => (by cases q), fun q => absurd q hn⟩
  unfold fX1_fits
  rw [h.2.2.1]
  cases hb2 : bar with
  | false =>
    rw [if_pos (show bI false = 0 from rfl)]
    subst hb2
    exact f0 (fun q => by cases q.1)
  | true =>
    rw [if_neg (show ¬ bI true = 0 by decide)]
    subst hb2
    refine sp_if (fun z => ?_) (fun z => ?_)
    · rw [ni_inj (by omega) (by omega)] at z
      refine sp_if (fun w => ?_) (fun w => ?_)
      · rw [ni_inj (by omega) (by omega)] at w
        exact fin true ⟨fun _ => ⟨rfl, z, w⟩, fun _ => rfl⟩
      · rw [ni_inj (by omega) (by omega)] at w
        exact f0 (fun q => w q.2.2)
    · rw [ni_inj (by omega) (by omega)] at z
      exact f0 (fun q => z q.2.1)
end JX
