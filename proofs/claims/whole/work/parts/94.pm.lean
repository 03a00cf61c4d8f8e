-- the reference's way past the ways before it
def encF : Option Nat → Int32
  | none => 1000000
  | some v => nI v
theorem encF_lt {x : Option Nat} (h : ∀ d, x = some d → d < 1000) : encF x < 1000000 ↔ x ≠ none := by
  cases x with
  | none => simp [encF]
  | some d =>
    have := h d rfl
    show nI d < nI 1000000 ↔ _
    rw [ni_lt (by omega) (by decide)]
    simp
    omega
theorem encF_inj {x y : Option Nat} (h : ∀ d, x = some d → d < 1000) (h' : ∀ d, y = some d → d < 1000) : encF x = encF y ↔ x = y := by
  cases x with
  | none =>
    cases y with
    | none => simp
    | some d =>
      have := h' d rfl
      show nI 1000000 = nI d ↔ _
      rw [ni_inj (by decide) (by omega)]
      simp
      omega
  | some c =>
    have := h c rfl
    cases y with
    | none =>
      show nI c = nI 1000000 ↔ _
      rw [ni_inj (by omega) (by decide)]
      simp
      omega
    | some d =>
      have := h' d rfl
      show nI c = nI d ↔ _
      rw [ni_inj (by omega) (by omega)]
      simp
theorem encF_omn {x y : Option Nat} (h : ∀ d, x = some d → d < 1000) (h' : ∀ d, y = some d → d < 1000) : (encF x ≤ encF y ∧ encF (omn x y) = encF x) ∨ (¬ encF x ≤ encF y ∧ encF (omn x y) = encF y) := by
  cases y with
  | none =>
    refine Or.inl ⟨?_, rfl⟩
    cases x with
    | none => exact Int32.le_refl _
    | some c =>
      have := h c rfl
      show nI c ≤ nI 1000000
      rw [ni_le (by omega) (by decide)]
      omega
  | some d =>
    have := h' d rfl
    cases x with
    | none =>
      refine Or.inr ⟨?_, rfl⟩
      show ¬ nI 1000000 ≤ nI d
      rw [ni_le (by decide) (by omega)]
      omega
    | some c =>
      have := h c rfl
      have e0 : omn (some c) (some d) = if c ≤ d then some c else some d := rfl
      rw [e0]
      by_cases z : c ≤ d
      · rw [if_pos z]
        exact Or.inl ⟨(ni_le (by omega) (by omega)).mpr z, rfl⟩
      · rw [if_neg z]
        exact Or.inr ⟨fun q => z ((ni_le (by omega) (by omega)).mp q), rfl⟩
theorem opx_iff {bar : Bool} {F : Nat → Nat → Nat} {o : Nat → Nat} {k t c a : Nat} : opx bar F o k t c a = true ↔ ∀ x, x < k → F (o x) (t + 1) ≠ a ∧ ¬ (bar = true ∧ F (o x) t = a ∧ F (o x) (t + 1) = c) := by
  unfold opx
  rw [Bool.and_eq_true, Bool.not_eq_true', Bool.not_eq_true']
  constructor
  · rintro ⟨h1, h2⟩ x hx
    refine ⟨fun q => ?_, fun q => ?_⟩
    · have := tkn_iff.mpr ⟨x, hx, q⟩
      rw [h1] at this
      cases this
    · have := brd_iff.mpr ⟨q.1, x, hx, q.2.1, q.2.2⟩
      rw [h2] at this
      cases this
  · intro h
    constructor
    · cases z : tkn F o k (t + 1) a with
      | false => rfl
      | true =>
        obtain ⟨x, hx, q⟩ := tkn_iff.mp z
        exact absurd q (h x hx).1
    · cases z : brd bar F o k t c a with
      | false => rfl
      | true =>
        obtain ⟨q0, x, hx, q⟩ := brd_iff.mp z
        exact absurd ⟨q0, q.1, q.2⟩ (h x hx).2
def pmC (R : Nat) (G : gG) (bar : Bool) (s e o : Nat → Nat) (σ : jp_I) : Prop := scM G σ ∧ σ 20 1 = nI R ∧ σ 20 7 = bI bar ∧ (∀ r, r < R → σ 22 r = nI (s r)) ∧ (∀ r, r < R → σ 23 r = nI (e r)) ∧ ∀ k, k < R → σ 26 k = nI (o k)
def txM (F : Nat → Nat → Nat) (o : Nat → Nat) (k : Nat) (σ : jp_I) : Prop := ∀ x t, x < k → t ≤ 40 → F (o x) t < 36 ∧ σ 25 (160 * o x + t) = nI (F (o x) t)
section PM
variable {R k : Nat} {G : gG} {bar : Bool} {F : Nat → Nat → Nat} {o s e : Nat → Nat} {σ : jp_I}
theorem pmC_congr {σ' : jp_I} (h : pmC R G bar s e o σ) (hf : ∀ i, i ≠ 25 → i ≠ 27 → σ' i = σ i) : pmC R G bar s e o σ' := by
  obtain ⟨a1, a2, a3, a4, a5, a6⟩ := h
  have h20 := hf 20 (by decide) (by decide)
  exact ⟨scM_congr a1 (by rw [h20]) (by rw [h20]) (hf 21 (by decide) (by decide)), by rw [h20]; exact a2, by rw [h20]; exact a3, fun r hr => by rw [hf 22 (by decide) (by decide)]; exact a4 r hr, fun r hr => by rw [hf 23 (by decide) (by decide)]; exact a5 r hr, fun r hr => by rw [hf 26 (by decide) (by decide)]; exact a6 r hr⟩
theorem m_open (τ : jp_J) (hR4 : R ≤ 4) (hR : ptR R o) (hk : k ≤ R) (hC : pmC R G bar s e o σ) (hS : txM F o k σ) {t c a : Nat} (ht : t < 40) (hc : c < 36) (ha : a < 36) : fX8_open (nI k) (nI t) (nI c) (nI a) σ τ = some (bI (opx bar F o k t c a), σ, τ) := by
  obtain ⟨a1, a2, a3, a4, a5, a6⟩ := hC
  apply sp_some
  unfold fX8_open
  refine sp_bind (P := fun y σ' τ' => σ' = σ ∧ τ' = τ ∧ ((y = .inl () ∧ opx bar F o k t c a = true) ∨ (y = .inr 0 ∧ opx bar F o k t c a = false))) ?_ ?_
  · refine sp_for (fun i σ' τ' => σ' = σ ∧ τ' = τ ∧ ∀ x, x < i → F (o x) (t + 1) ≠ a ∧ ¬ (bar = true ∧ F (o x) t = a ∧ F (o x) (t + 1) = c)) 0 k (Nat.zero_le _) (by omega) ⟨rfl, rfl, fun x h => absurd h (Nat.not_lt_zero _)⟩ ?_ ?_
    · rintro i σ' τ' - hi ⟨rfl, rfl, h1⟩
      dsimp only
      have hoi := hR.1 i (by omega)
      have e1 : 160 * σ' 26 (nI i).toNatClampNeg + nI t = nI (160 * o i + t) := by rw [ni_nat (by omega), a6 i (by omega), show (160 : Int32) = nI 160 from rfl, ni_mul, ni_add]
      have e2 : 160 * σ' 26 (nI i).toNatClampNeg + nI t + 1 = nI (160 * o i + (t + 1)) := by rw [e1]; exact ni_add _ 1
      obtain ⟨b1, b2⟩ := hS i t hi (by omega)
      obtain ⟨b3, b4⟩ := hS i (t + 1) hi (by omega)
      have stop : ¬ (F (o i) (t + 1) ≠ a ∧ ¬ (bar = true ∧ F (o i) t = a ∧ F (o i) (t + 1) = c)) → sp (some ((.inr (.inr 0) : Sum Int32 (Sum Unit Int32)), σ', τ')) (sp_S (fun v σ'' τ'' => v = nI (i + 1) ∧ σ'' = σ' ∧ τ'' = τ' ∧ ∀ x, x < i + 1 → F (o x) (t + 1) ≠ a ∧ ¬ (bar = true ∧ F (o x) t = a ∧ F (o x) (t + 1) = c)) (fun y σ'' τ'' => σ'' = σ' ∧ τ'' = τ' ∧ ((y = .inl () ∧ opx bar F o k t c a = true) ∨ (y = .inr 0 ∧ opx bar F o k t c a = false)))) := by
        intro z
        refine sp_ret ⟨rfl, rfl, Or.inr ⟨rfl, ?_⟩⟩
        cases w : opx bar F o k t c a with
        | false => rfl
        | true => exact absurd (opx_iff.mp w i hi) z
      have go : (F (o i) (t + 1) ≠ a ∧ ¬ (bar = true ∧ F (o i) t = a ∧ F (o i) (t + 1) = c)) → sp (bX8_open_80_in3 (nI k) (nI t) (nI c) (nI a) (nI i) σ' τ') (sp_S (fun v σ'' τ'' => v = nI (i + 1) ∧ σ'' = σ' ∧ τ'' = τ' ∧ ∀ x, x < i + 1 → F (o x) (t + 1) ≠ a ∧ ¬ (bar = true ∧ F (o x) t = a ∧ F (o x) (t + 1) = c)) (fun y σ'' τ'' => σ'' = σ' ∧ τ'' = τ' ∧ ((y = .inl () ∧ opx bar F o k t c a = true) ∨ (y = .inr 0 ∧ opx bar F o k t c a = false)))) := by
        intro z
        unfold bX8_open_80_in3
        refine sp_ret ⟨by rw [← ni_add]; rfl, rfl, rfl, fun x hx => ?_⟩
        by_cases y : x = i
        · rw [y]; exact z
        · exact h1 x (by omega)
      unfold sX8_open_3
      rw [if_neg (by rw [ni_le (by omega) (by omega)]; omega), e2, e1, if_pos (ni_ok (by omega) (by omega)), if_pos (ni_ok (by omega) (by omega)), if_pos (ni_ok (by omega) (by omega)), if_pos (ni_ok (by omega) (by omega)), ni_nat (by omega), ni_nat (by omega), b4, b2, a3]
      refine sp_if (fun z => ?_) (fun z => ?_)
      · rw [ni_inj (by omega) (by omega)] at z
        exact stop (fun w => w.1 z)
      · rw [ni_inj (by omega) (by omega)] at z
        refine sp_if (fun z2 => ?_) (fun z2 => ?_)
        · refine go ⟨z, fun w => ?_⟩
          rw [w.1] at z2
          exact absurd z2 (by decide)
        · have hb : bar = true := by
            cases hb : bar with
            | true => rfl
            | false => rw [hb] at z2; exact absurd rfl z2
          refine sp_if (fun z3 => ?_) (fun z3 => ?_)
          · rw [ni_inj (by omega) (by omega)] at z3
            refine sp_if (fun z4 => ?_) (fun z4 => ?_)
            · rw [ni_inj (by omega) (by omega)] at z4
              exact stop (fun w => w.2 ⟨hb, z3, z4⟩)
            · rw [ni_inj (by omega) (by omega)] at z4
              exact go ⟨z, fun w => z4 w.2.2⟩
          · rw [ni_inj (by omega) (by omega)] at z3
            exact go ⟨z, fun w => z3 w.2.1⟩
    · rintro σ' τ' ⟨rfl, rfl, h1⟩
      dsimp only
      unfold sX8_open_3
      rw [if_pos (by rw [ni_le (by omega) (by omega)]; omega)]
      exact sp_ret ⟨rfl, rfl, Or.inl ⟨rfl, opx_iff.mpr h1⟩⟩
  · rintro y σ' τ' ⟨rfl, rfl, ⟨rfl, h1⟩ | ⟨rfl, h1⟩⟩
    · rw [h1]; exact sp_ret ⟨rfl, rfl, rfl⟩
    · rw [h1]; exact sp_ret ⟨rfl, rfl, rfl⟩
def mW (G : gG) (g : Nat) (op : gO) (t : Nat) (σ : jp_I) : Prop := ∀ c, c < 36 → σ 27 (36 * t + c) = encF (pW G g op t c)
theorem m_step (τ : jp_J) (hR4 : R ≤ 4) (hR : ptR R o) (hk : k < R) (he : e (o k) < 36) (hC : pmC R G bar s e o σ) (hS : txM F o k σ) {t c m : Nat} (ht : t < 40) (hc : c < 36) (hm : m < 5) (hw : mW G (e (o k)) (opx bar F o k) (t + 1) σ) : fX8_step (nI k) (nI t) (nI c) (nI m) σ τ = some (encF (pS G (e (o k)) (opx bar F o k) t c m), σ, τ) := by
  obtain ⟨a1, a2, a3, a4, a5, a6⟩ := id hC
  have hok := hR.1 k hk
  unfold fX8_step
  rw [m_outside τ a1 hc, Option.bind_some]
  dsimp only
  cases q : opn G c with
  | false =>
    rw [if_neg (by decide)]
    have : pS G (e (o k)) (opx bar F o k) t c m = none := by unfold pS pstp tgt; rw [q]; rfl
    rw [this]
    rfl
  | true =>
    have e0 : pS G (e (o k)) (opx bar F o k) t c m = match mvc G c m with
      | none => none
      | some a => if opx bar F o k t c a then (pW G (e (o k)) (opx bar F o k) (t + 1) a).map (fun v => v + ownc c a (e (o k))) else none := by
      unfold pS pstp tgt
      rw [q]
      rfl
    rw [e0, if_pos (by decide), m_moved τ a1 hc hm, Option.bind_some]
    dsimp only
    cases w : mvc G c m with
    | none =>
      rw [if_pos (by decide)]
      rfl
    | some a =>
      have ha := opn_lt (mvc_opn w)
      rw [show enc (some a) = nI a from rfl, if_neg (ni_nn (by omega)), m_open τ hR4 hR (by omega) hC hS ht hc ha, Option.bind_some]
      dsimp only
      cases z : opx bar F o k t c a with
      | false =>
        rw [if_pos (by decide)]
        rfl
      | true =>
        have e1 : (36 : Int32) * nI t + 36 + nI a = nI (36 * (t + 1) + a) := by
          rw [show (36 : Int32) = nI 36 from rfl, ni_mul, ni_add, ni_add]
          congr 1
        have hr := hw a ha
        rw [if_neg (by decide), e1, if_pos (ni_ok (by omega) (by omega)), ni_nat (by omega)]
        cases y : pW G (e (o k)) (opx bar F o k) (t + 1) a with
        | none =>
          rw [y] at hr
          rw [if_neg (by rw [hr]; decide)]
          rfl
        | some v =>
          have hv := pW_le y
          rw [y] at hr
          rw [if_pos (by rw [hr]; exact (encF_lt (fun d hd => by cases hd; omega)).mpr (by simp)), if_pos (ni_ok (by omega) (by omega)), ni_nat (by omega), if_pos (by rw [a6 k hk]; exact ni_ok (by omega) (by omega)), a6 k hk, ni_nat (by omega), a5 _ hok, m_stays hc ha he, Option.bind_some]
          dsimp only
          rw [hr, show encF (some v) = nI v from rfl, ni_add]
          rfl
end PM
