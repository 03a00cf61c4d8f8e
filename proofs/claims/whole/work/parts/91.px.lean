-- the class's way past the ways before it: its costs
theorem ni_dec (a : Nat) : nI (a + 1) + (-1) = nI a := by
  rw [← ni_add]
  show nI a + 1 + -1 = nI a
  rw [Int32.add_assoc, show (1 : Int32) + -1 = 0 from by decide, Int32.add_zero]
theorem enc_m1 {o : Option Nat} (h : ∀ d, o = some d → d < 1000) : enc o = -1 ↔ o = none := by
  cases o with
  | none => simp [enc]
  | some d => simp [enc, ni_neg (show d < 2147483648 by have := h d rfl; omega)]
theorem enc_inj {o p : Option Nat} (h : ∀ d, o = some d → d < 1000) (h' : ∀ d, p = some d → d < 1000) : enc o = enc p ↔ o = p := by
  cases o with
  | none =>
    cases p with
    | none => simp
    | some d =>
      have : ¬ (-1 : Int32) = nI d := fun q => ni_neg (show d < 2147483648 by have := h' d rfl; omega) q.symm
      simp [enc, this]
  | some c =>
    cases p with
    | none => simp [enc, ni_neg (show c < 2147483648 by have := h c rfl; omega)]
    | some d =>
      have h1 := h c rfl
      have h2 := h' d rfl
      show nI c = nI d ↔ _
      rw [ni_inj (by omega) (by omega)]
      simp
theorem tkn_iff {F : Nat → Nat → Nat} {o : Nat → Nat} {k t c : Nat} : tkn F o k t c = true ↔ ∃ x, x < k ∧ F (o x) t = c := by
  unfold tkn
  rw [exB_iff]
  simp
theorem brd_iff {bar : Bool} {F : Nat → Nat → Nat} {o : Nat → Nat} {k t c a : Nat} : brd bar F o k t c a = true ↔ bar = true ∧ ∃ x, x < k ∧ F (o x) t = a ∧ F (o x) (t + 1) = c := by
  unfold brd
  rw [Bool.and_eq_true, exB_iff]
  simp
/-- row 17: which robot is where -/
def tkX (F : Nat → Nat → Nat) (o : Nat → Nat) (k : Nat) (σ : jp_I) : Prop := (∀ x t, x < k → t ≤ 40 → σ 17 (t * 36 + F (o x) t) = nI (o x)) ∧ ∀ t c, t ≤ 40 → c < 36 → tkn F o k t c = false → σ 17 (t * 36 + c) = -1
theorem tkX_congr {F : Nat → Nat → Nat} {o : Nat → Nat} {k : Nat} {σ σ' : jp_I} (h : tkX F o k σ) (e : σ' 17 = σ 17) : tkX F o k σ' := by
  unfold tkX
  rw [e]
  exact h
theorem tkX_m1 {k t c : Nat} {F : Nat → Nat → Nat} {o : Nat → Nat} {σ : jp_I} (h : tkX F o k σ) (ho : ∀ x, x < k → o x < 4) (ht : t ≤ 40) (hc : c < 36) : σ 17 (t * 36 + c) = -1 ↔ tkn F o k t c = false := by
  constructor
  · intro q
    cases z : tkn F o k t c with
    | false => rfl
    | true =>
      obtain ⟨x, hx, rfl⟩ := tkn_iff.mp z
      rw [h.1 x t hx ht] at q
      exact absurd q (ni_neg (by have := ho x hx; omega))
  · exact h.2 t c ht hc
section PX
variable {n nc k e : Nat} {G : gG} {bar : Bool} {F : Nat → Nat → Nat} {o : Nat → Nat} {σ : jp_I}
/-- what the class reads -/
def pxC (G : gG) (bar : Bool) (F : Nat → Nat → Nat) (o : Nat → Nat) (k : Nat) (σ : jp_I) : Prop := chX G σ ∧ σ 1 4 = bI bar ∧ tkX F o k σ ∧ ∀ x, x < k → o x < 4
theorem pxC_congr {σ' : jp_I} (h : pxC G bar F o k σ) (e1 : σ' 1 = σ 1) (e6 : σ' 6 = σ 6) (e17 : σ' 17 = σ 17) : pxC G bar F o k σ' := ⟨chX_congr h.1 e6, by rw [e1]; exact h.2.1, tkX_congr h.2.2.1 e17, h.2.2.2⟩
/-- whether a robot goes from a to c in this step -/
theorem s_change (h : pxC G bar F o k σ) {t c a : Nat} (ht : t < 40) (hc : c < 36) (ha : a < 36) : (σ 17 (t * 36 + a) = -1 → brd true F o k t c a = false) ∧ (¬ σ 17 (t * 36 + a) = -1 → σ 17 ((t + 1) * 36 + c) = σ 17 (t * 36 + a) → brd true F o k t c a = true) ∧ (¬ σ 17 (t * 36 + a) = -1 → ¬ σ 17 ((t + 1) * 36 + c) = σ 17 (t * 36 + a) → brd true F o k t c a = false) := by
  obtain ⟨h1, h2, h3, h4⟩ := h
  refine ⟨fun q => ?_, fun q w => ?_, fun q w => ?_⟩
  · have q2 := (tkX_m1 h3 h4 (by omega) ha).mp q
    cases z : brd true F o k t c a with
    | false => rfl
    | true =>
      obtain ⟨-, x, hx, h5, h6⟩ := brd_iff.mp z
      have := tkn_iff.mpr ⟨x, hx, h5⟩
      rw [q2] at this
      cases this
  · have q2 : tkn F o k t a = true := by
      cases z : tkn F o k t a with
      | true => rfl
      | false => exact absurd ((tkX_m1 h3 h4 (by omega) ha).mpr z) q
    obtain ⟨x, hx, h5⟩ := tkn_iff.mp q2
    have e1 : σ 17 (t * 36 + a) = nI (o x) := by rw [← h5]; exact h3.1 x t hx (by omega)
    rw [e1] at w
    have q3 : tkn F o k (t + 1) c = true := by
      cases z : tkn F o k (t + 1) c with
      | true => rfl
      | false =>
        have := (tkX_m1 h3 h4 (by omega) hc).mpr z
        rw [w] at this
        exact absurd this (ni_neg (by have := h4 x hx; omega))
    obtain ⟨y, hy, h6⟩ := tkn_iff.mp q3
    have e2 := h3.1 y (t + 1) hy (by omega)
    rw [h6, w] at e2
    have e3 : o x = o y := (ni_inj (by have := h4 x hx; omega) (by have := h4 y hy; omega)).mp e2
    refine brd_iff.mpr ⟨rfl, x, hx, h5, ?_⟩
    rw [e3]
    exact h6
  · cases z : brd true F o k t c a with
    | false => rfl
    | true =>
      obtain ⟨-, y, hy, h6, h7⟩ := brd_iff.mp z
      have e2 := h3.1 y t hy (by omega)
      rw [h6] at e2
      have e3 := h3.1 y (t + 1) hy (by omega)
      rw [h7, ← e2] at e3
      exact absurd e3 w
/-- the class's costs: none where a robot is -/
def msk (G : gG) (e : Nat) (bar : Bool) (F : Nat → Nat → Nat) (o : Nat → Nat) (k t c : Nat) : Option Nat := if tkn F o k t c = true then none else pW G e (opx bar F o k) t c
theorem msk_lt {t c : Nat} : ∀ d, msk G e bar F o k t c = some d → d < 1000 := by
  intro d h
  unfold msk at h
  split at h
  · cases h
  · have := pW_le h
    omega
theorem pS_lt {op : gO} {t c m : Nat} : ∀ d, pS G e op t c m = some d → d < 1000 := by
  intro d h
  have := pS_le h
  omega
theorem pW_lt' {op : gO} {t c : Nat} : ∀ d, pW G e op t c = some d → d < 1000 := by
  intro d h
  have := pW_le h
  omega
def mkR (G : gG) (e : Nat) (bar : Bool) (F : Nat → Nat → Nat) (o : Nat → Nat) (k t : Nat) (σ : jp_I) : Prop := ∀ c, c < 36 → σ 16 (t * 36 + c) = enc (msk G e bar F o k t c)
theorem s_costBy (τ : jp_J) (h : pxC G bar F o k σ) {t c m : Nat} (ht : t < 40) (hc : c < 36) (he : e < 36) (hr : mkR G e bar F o k (t + 1) σ) : fX4_costBy n nc (nI t) (nI c) (enc (tgt G c m)) (nI e) σ τ = some (enc (pS G e (opx bar F o k) t c m), σ, τ) := by
  unfold fX4_costBy
  cases q : tgt G c m with
  | none =>
    have : pS G e (opx bar F o k) t c m = none := by unfold pS pstp; rw [q]
    rw [this, if_pos (show enc none = -1 from rfl)]
    unfold bX4_costBy_24
    rw [if_pos rfl]
    rfl
  | some a =>
    have ha := opn_lt (tgt_o q)
    rw [show enc (some a) = nI a from rfl, if_neg (ni_neg (by omega)), show nI t + 1 = nI (t + 1) from ni_add t 1, show (36 : Int32) = nI 36 from rfl, ni_mul, ni_add, s_readi 16 σ τ (by decide) (show (t + 1) * 36 + a < 1476 by omega), Option.bind_some]
    dsimp only
    rw [hr a ha]
    unfold bX4_costBy_24
    have e0 : pS G e (opx bar F o k) t c m = if opx bar F o k t c a = true then (pW G e (opx bar F o k) (t + 1) a).map (fun v => v + ownc c a e) else none := by
      unfold pS pstp
      rw [q]
    rw [e0]
    have op : opx bar F o k t c a = (!tkn F o k (t + 1) a && !brd bar F o k t c a) := rfl
    cases z : tkn F o k (t + 1) a with
    | true =>
      rw [z] at op
      rw [op]
      have : msk G e bar F o k (t + 1) a = none := by unfold msk; rw [if_pos z]
      rw [this, if_pos (show enc none = -1 from rfl), if_neg (by simp)]
      rfl
    | false =>
      rw [z] at op
      have mm : msk G e bar F o k (t + 1) a = pW G e (opx bar F o k) (t + 1) a := by unfold msk; rw [if_neg (by rw [z]; decide)]
      rw [mm]
      cases w : pW G e (opx bar F o k) (t + 1) a with
      | none =>
        rw [if_pos (show enc none = -1 from rfl)]
        split <;> rfl
      | some v =>
        have hv := pW_le w
        have last : bX4_costBy_101 n nc (nI c) (nI a) (nI e) (nI v) σ τ = some (nI (v + ownc c a e), σ, τ) := by
          unfold bX4_costBy_101
          rw [s_ownCost hc ha he, Option.bind_some]
          dsimp only
          rw [ni_add]
        have fin : ∀ b : Bool, brd true F o k t c a = b → bX4_costBy_80 n nc (nI c) (nI a) (nI e) (nI v) (bI b) σ τ = some (enc (if opx bar F o k t c a = true then (some v).map (fun v => v + ownc c a e) else none), σ, τ) := by
          intro b hb
          have hbb : brd bar F o k t c a = (bar && b) := by
            rw [← hb]
            unfold brd
            rw [Bool.true_and]
          rw [hbb] at op
          unfold bX4_costBy_80
          rw [h.2.1, last, op]
          cases b with
          | false =>
            rw [if_pos (show bI false = 0 by decide), Bool.and_false, if_pos (by decide)]
            rfl
          | true =>
            rw [if_neg (show ¬ bI true = 0 by decide)]
            cases bar with
            | false =>
              rw [if_pos (show bI false = 0 by decide), if_pos (by decide)]
              rfl
            | true =>
              rw [if_neg (show ¬ bI true = 0 by decide), if_neg (by decide)]
              rfl
        obtain ⟨g1, g2, g3⟩ := s_change h (t := t) (c := c) (a := a) ht hc ha
        rw [show enc (some v) = nI v from rfl, if_neg (ni_neg (by omega)), show nI t + 1 = nI (t + 1) from ni_add t 1, show (36 : Int32) = nI 36 from rfl, ni_mul, ni_add, ni_mul, ni_add, s_readi 17 σ τ (by decide) (show t * 36 + a < 1476 by omega), Option.bind_some]
        dsimp only
        unfold bX4_costBy_79
        by_cases q1 : σ 17 (t * 36 + a) = -1
        · rw [if_pos q1]
          exact fin false (g1 q1)
        · rw [if_neg q1, s_readi 17 σ τ (by decide) (show (t + 1) * 36 + c < 1476 by omega), Option.bind_some]
          dsimp only
          by_cases q2 : σ 17 ((t + 1) * 36 + c) = σ 17 (t * 36 + a)
          · rw [if_pos q2]
            exact fin true (g2 q1 q2)
          · rw [if_neg q2]
            exact fin false (g3 q1 q2)
theorem mo_nn {f : Nat → Option Nat} (h : ∀ m, f m = none) (n : Nat) : mo f n = none := by
  cases q : mo f n with
  | none => rfl
  | some v =>
    obtain ⟨m, -, h2⟩ := mo_att q
    rw [h m] at h2
    cases h2
theorem s_leastFrom (τ : jp_J) (h : pxC G bar F o k σ) {t c : Nat} (ht : t < 40) (hc : c < 36) (he : e < 36) (hr : mkR G e bar F o k (t + 1) σ) : fX4_leastFrom n nc (nI t) (nI c) (nI e) σ τ = some (enc (msk G e bar F o k t c), σ, τ) := by
  apply sp_some
  unfold fX4_leastFrom
  rw [show fX0_moved (nI c) 0 σ τ = _ from s_moved (m := 0) τ h.1 hc (by decide), Option.bind_some]
  dsimp only
  by_cases ho : opn G c = true
  case neg =>
    have h0 : ∀ m, tgt G c m = none := fun m => by unfold tgt; rw [if_neg ho]
    rw [h0 0, if_pos (show enc none = -1 from rfl)]
    refine sp_ret ⟨?_, rfl, rfl⟩
    have : msk G e bar F o k t c = none := by
      unfold msk
      rw [pW_lt c ht, mo_nn (fun m => by unfold pS pstp; rw [h0 m]) 5]
      split <;> rfl
    rw [this]
    rfl
  have hst : tgt G c 0 = some c := by rw [tgt_mvc ho]; exact mvc_0 ho
  rw [hst, show enc (some c) = nI c from rfl, if_neg (ni_neg (by omega)), show (36 : Int32) = nI 36 from rfl, ni_mul, ni_add, s_readi 17 σ τ (by decide) (show t * 36 + c < 1476 by omega), Option.bind_some]
  dsimp only
  refine sp_if (fun z => ?_) (fun z => ?_)
  · have z2 := (tkX_m1 h.2.2.1 h.2.2.2 (by omega) hc).mp z
    have mm : msk G e bar F o k t c = mo (pS G e (opx bar F o k) t c) 5 := by unfold msk; rw [if_neg (by rw [z2]; decide), pW_lt c ht]
    refine sp_bind (P := fun x σ' τ' => x = .inl (enc (msk G e bar F o k t c)) ∧ σ' = σ ∧ τ' = τ) ?_ ?_
    · refine sp_loopF (fun v σ' τ' m => ∃ i, i ≤ 5 ∧ m = 5 - i ∧ v = (enc (mo (pS G e (opx bar F o k) t c) i), nI i) ∧ σ' = σ ∧ τ' = τ) 5 ⟨0, by decide, rfl, rfl, rfl, rfl⟩ (by decide) ?_
      rintro v σ' τ' m ⟨i, hi, rfl, rfl, rfl, rfl⟩
      dsimp only
      unfold sX4_leastFrom_41
      rw [show (5 : Int32) = nI 5 from rfl]
      by_cases q : i = 5
      · subst q
        rw [if_pos (by decide), mm]
        exact sp_ret ⟨rfl, rfl, rfl⟩
      · rw [if_neg (by rw [ni_le (by decide) (by omega)]; omega), s_moved τ' h.1 hc (by omega), Option.bind_some]
        dsimp only
        rw [s_costBy τ' h ht hc he hr, Option.bind_some]
        dsimp only
        have nx : nI i + 1 = nI (i + 1) := by rw [← ni_add]; rfl
        have hmo : mo (pS G e (opx bar F o k) t c) (i + 1) = omn (mo (pS G e (opx bar F o k) t c) i) (pS G e (opx bar F o k) t c i) := rfl
        unfold bX4_leastFrom_88_in41 bX4_leastFrom_92_in41
        rw [nx]
        have hb := mo_b (f := pS G e (opx bar F o k) t c) (B := 41) (fun m v h => pS_le h) i
        cases w : pS G e (opx bar F o k) t c i with
        | none =>
          rw [if_pos (show enc none = -1 from rfl)]
          rw [w] at hmo
          exact sp_ret ⟨5 - (i + 1), by omega, i + 1, by omega, rfl, by rw [hmo]; rfl, rfl, rfl⟩
        | some y =>
          have hy := pS_le w
          rw [w] at hmo
          rw [show enc (some y) = nI y from rfl, if_neg (ni_neg (by omega))]
          cases w2 : mo (pS G e (opx bar F o k) t c) i with
          | none =>
            rw [w2] at hmo
            rw [if_pos (show enc none = -1 from rfl)]
            exact sp_ret ⟨5 - (i + 1), by omega, i + 1, by omega, rfl, by rw [hmo]; rfl, rfl, rfl⟩
          | some x =>
            rw [w2] at hmo
            have hx := hb x w2
            rw [show enc (some x) = nI x from rfl, if_neg (ni_neg (by omega))]
            by_cases z3 : x ≤ y
            · rw [if_pos ((ni_le (by omega) (by omega)).mpr z3)]
              refine sp_ret ⟨5 - (i + 1), by omega, i + 1, by omega, rfl, ?_, rfl, rfl⟩
              rw [hmo, show omn (some x) (some y) = if x ≤ y then some x else some y from rfl, if_pos z3]
              rfl
            · rw [if_neg (fun q => z3 ((ni_le (by omega) (by omega)).mp q))]
              refine sp_ret ⟨5 - (i + 1), by omega, i + 1, by omega, rfl, ?_, rfl, rfl⟩
              rw [hmo, show omn (some x) (some y) = if x ≤ y then some x else some y from rfl, if_neg z3]
              rfl
    · rintro x σ' τ' ⟨rfl, rfl, rfl⟩
      exact sp_ret ⟨rfl, rfl, rfl⟩
  · have z2 : tkn F o k t c = true := by
      cases y : tkn F o k t c with
      | true => rfl
      | false => exact absurd ((tkX_m1 h.2.2.1 h.2.2.2 (by omega) hc).mpr y) z
    refine sp_ret ⟨?_, rfl, rfl⟩
    unfold msk
    rw [if_pos z2]
    rfl
theorem s_measureP (τ : jp_J) (h : pxC G bar F o k σ) (he : e < 36) : sp (fX4_measure n nc (nI e) σ τ) (fun _ σ' τ' => τ' = τ ∧ (∀ i, i ≠ 16 → σ' i = σ i) ∧ ∀ t, t ≤ 40 → mkR G e bar F o k t σ') := by
  unfold fX4_measure
  refine sp_bind (P := fun x σ' τ' => x = .inl () ∧ τ' = τ ∧ (∀ i, i ≠ 16 → σ' i = σ i) ∧ mkR G e bar F o k 40 σ') ?_ ?_
  · refine sp_for (fun c σ' τ' => τ' = τ ∧ (∀ i, i ≠ 16 → σ' i = σ i) ∧ ∀ d, d < c → σ' 16 (40 * 36 + d) = enc (msk G e bar F o k 40 d)) 0 36 (by decide) (by decide) ⟨rfl, fun _ _ => rfl, fun d h => absurd h (Nat.not_lt_zero _)⟩ ?_ ?_
    · rintro c σ1 τ1 - hc ⟨rfl, f1, f2⟩
      dsimp only
      have h1 : pxC G bar F o k σ1 := pxC_congr h (f1 1 (by decide)) (f1 6 (by decide)) (f1 17 (by decide))
      have fin : ∀ v : Int32, v = enc (msk G e bar F o k 40 c) → sp (bX4_measure_41_in2 n nc (nI e) (nI c) (nI 1440 + nI c) v σ1 τ1) (sp_S (fun v σ' τ' => v = nI (c + 1) ∧ τ' = τ1 ∧ (∀ i, i ≠ 16 → σ' i = σ i) ∧ ∀ d, d < c + 1 → σ' 16 (40 * 36 + d) = enc (msk G e bar F o k 40 d)) (fun x σ' τ' => x = .inl () ∧ τ' = τ1 ∧ (∀ i, i ≠ 16 → σ' i = σ i) ∧ mkR G e bar F o k 40 σ')) := by
        intro v hv
        unfold bX4_measure_41_in2
        rw [ni_add, s_write 16 v σ1 τ1 (by decide) (show 1440 + c < 1476 by omega), Option.bind_some]
        refine sp_ret ⟨by rw [← ni_add]; rfl, rfl, fun i hi => by rw [jp_up_n _ _ hi]; exact f1 i hi, fun d hd => ?_⟩
        by_cases q : d = c
        · subst q; rw [show 40 * 36 + d = 1440 + d by omega, jp_up_eq]; exact hv
        · rw [jp_up_ne _ _ _ (by omega)]; exact f2 d (by omega)
      unfold sX4_measure_2
      rw [show (36 : Int32) = nI 36 from rfl, show (1440 : Int32) = nI 1440 from rfl, if_neg (by rw [ni_le (by decide) (by omega)]; omega)]
      by_cases q : c = e
      · subst q
        rw [if_pos rfl]
        rw [show fX7_read 17 1476 (nI 1440 + nI c) σ1 τ1 = some (σ1 17 (40 * 36 + c), σ1, τ1) by rw [ni_add]; exact s_readi 17 σ1 τ1 (by decide) (by omega), Option.bind_some]
        dsimp only
        refine sp_if (fun z => ?_) (fun z => ?_)
        · have z2 := (tkX_m1 h1.2.2.1 h1.2.2.2 (by omega) hc).mp z
          refine fin 0 ?_
          unfold msk
          rw [if_neg (by rw [z2]; decide), pW_40, if_pos rfl]
          rfl
        · have z2 : tkn F o k 40 c = true := by
            cases y : tkn F o k 40 c with
            | true => rfl
            | false => exact absurd ((tkX_m1 h1.2.2.1 h1.2.2.2 (by omega) hc).mpr y) z
          unfold bX4_measure_40_in2
          refine fin (-1) ?_
          unfold msk
          rw [if_pos z2]
          rfl
      · rw [if_neg (by rw [ni_inj (by omega) (by omega)]; exact q)]
        unfold bX4_measure_40_in2
        refine fin (-1) ?_
        unfold msk
        rw [pW_40, if_neg q]
        split <;> rfl
    · rintro σ1 τ1 ⟨rfl, f1, f2⟩
      dsimp only
      unfold sX4_measure_2
      rw [if_pos (by decide)]
      exact sp_ret ⟨rfl, rfl, f1, fun c hc => f2 c hc⟩
  · rintro x σ1 τ1 ⟨rfl, rfl, f1, f2⟩
    dsimp only
    refine sp_bind (P := fun x σ' τ' => x = .inl () ∧ τ' = τ1 ∧ (∀ i, i ≠ 16 → σ' i = σ i) ∧ ∀ t, t ≤ 40 → mkR G e bar F o k t σ') ?_ ?_
    · refine sp_loopF (fun v σ' τ' m => m ≤ 40 ∧ v = nI m + (-1) ∧ τ' = τ1 ∧ (∀ i, i ≠ 16 → σ' i = σ i) ∧ ∀ t, m ≤ t → t ≤ 40 → mkR G e bar F o k t σ') 40 ⟨Nat.le_refl _, rfl, rfl, f1, fun t a b => by rw [show t = 40 by omega]; exact f2⟩ (by decide) ?_
      rintro v σ2 τ2 m ⟨hm, rfl, rfl, g1, g2⟩
      dsimp only
      unfold sX4_measure_53
      by_cases q : m = 0
      · subst q
        rw [if_pos (by decide)]
        exact sp_ret ⟨rfl, rfl, g1, fun t ht => g2 t (Nat.zero_le _) ht⟩
      · obtain ⟨t, rfl⟩ : ∃ t, m = t + 1 := ⟨m - 1, by omega⟩
        rw [ni_dec, if_neg (ni_nn (by omega))]
        refine sp_bind (P := fun x σ' τ' => x = .inl () ∧ τ' = τ2 ∧ (∀ i, i ≠ 16 → σ' i = σ i) ∧ ∀ t', t ≤ t' → t' ≤ 40 → mkR G e bar F o k t' σ') ?_ ?_
        · refine sp_for (fun c σ' τ' => τ' = τ2 ∧ (∀ i, i ≠ 16 → σ' i = σ i) ∧ (∀ t', t + 1 ≤ t' → t' ≤ 40 → mkR G e bar F o k t' σ') ∧ ∀ d, d < c → σ' 16 (t * 36 + d) = enc (msk G e bar F o k t d)) 0 36 (by decide) (by decide) ⟨rfl, g1, g2, fun d h => absurd h (Nat.not_lt_zero _)⟩ ?_ ?_
          · rintro c σ3 τ3 - hc ⟨rfl, k1, k2, k3⟩
            dsimp only
            have h1 : pxC G bar F o k σ3 := pxC_congr h (k1 1 (by decide)) (k1 6 (by decide)) (k1 17 (by decide))
            unfold sX4_measure_59
            rw [if_neg (by rw [show (36 : Int32) = nI 36 from rfl, ni_le (by decide) (by omega)]; omega), s_leastFrom τ3 h1 (by omega) hc he (k2 (t + 1) (Nat.le_refl _) (by omega)), Option.bind_some]
            dsimp only
            rw [show (36 : Int32) = nI 36 from rfl, ni_mul, ni_add, s_write 16 _ σ3 τ3 (by decide) (show t * 36 + c < 1476 by omega), Option.bind_some]
            dsimp only
            refine sp_ret ⟨by rw [← ni_add]; rfl, rfl, fun i hi => by rw [jp_up_n _ _ hi]; exact k1 i hi, fun t' a b d hd => ?_, fun d hd => ?_⟩
            · rw [jp_up_ne _ _ _ (by omega)]; exact k2 t' a b d hd
            · by_cases w : d = c
              · subst w; rw [jp_up_eq]
              · rw [jp_up_ne _ _ _ (by omega)]; exact k3 d (by omega)
          · rintro σ3 τ3 ⟨rfl, k1, k2, k3⟩
            dsimp only
            unfold sX4_measure_59
            rw [if_pos (by decide)]
            refine sp_ret ⟨rfl, rfl, k1, fun t' a b => ?_⟩
            by_cases w : t' = t
            · subst w; exact k3
            · exact k2 t' (by omega) b
        · rintro x σ3 τ3 ⟨rfl, rfl, k1, k2⟩
          dsimp only
          exact sp_ret ⟨t, by omega, by omega, rfl, rfl, k1, k2⟩
    · rintro x σ2 τ2 ⟨rfl, f⟩
      exact sp_ret f
theorem s_followP (τ : jp_J) (h : pxC G bar F o k σ) {t c v : Nat} (ht : t < 40) (hc : c < 36) (he : e < 36) (hr : mkR G e bar F o k t σ) (hr1 : mkR G e bar F o k (t + 1) σ) (hf : tkn F o k t c = false) (hv : pW G e (opx bar F o k) t c = some v) : fX4_follow n nc (nI t) (nI c) (nI e) σ τ = some (nI (pN G e (opx bar F o k) t c), σ, τ) := by
  apply sp_some
  unfold fX4_follow
  obtain ⟨a1, a2, a3, a4, -⟩ := pN_spec ht hv
  have mm : msk G e bar F o k t c = pW G e (opx bar F o k) t c := by unfold msk; rw [if_neg (by rw [hf]; decide)]
  rw [show (36 : Int32) = nI 36 from rfl, ni_mul, ni_add, s_readi 16 σ τ (by decide) (show t * 36 + c < 1476 by omega), Option.bind_some, hr c hc, mm]
  dsimp only
  refine sp_bind (P := fun x σ' τ' => x = .inr (nI (pN G e (opx bar F o k) t c)) ∧ σ' = σ ∧ τ' = τ) ?_ ?_
  · refine sp_loopF (fun v σ' τ' m => ∃ i, i ≤ fi (pS G e (opx bar F o k) t c) (pW G e (opx bar F o k) t c) ∧ m = fi (pS G e (opx bar F o k) t c) (pW G e (opx bar F o k) t c) - i ∧ v = nI i ∧ σ' = σ ∧ τ' = τ) _ ⟨0, Nat.zero_le _, rfl, rfl, rfl, rfl⟩ (by omega) ?_
    rintro v σ' τ' m ⟨i, hi, rfl, rfl, rfl, rfl⟩
    dsimp only
    unfold sX4_follow_18
    rw [if_neg (by rw [show (5 : Int32) = nI 5 from rfl, ni_le (by decide) (by omega)]; omega), s_moved τ' h.1 hc (by omega), Option.bind_some]
    dsimp only
    have nxt : ¬ pS G e (opx bar F o k) t c i = pW G e (opx bar F o k) t c → sp (bX4_follow_62_in18 n nc (nI t) (nI c) (nI e) (enc (pW G e (opx bar F o k) t c)) (nI i) σ' τ') (sp_R (fun v σ'' τ'' m => ∃ i, i ≤ fi (pS G e (opx bar F o k) t c) (pW G e (opx bar F o k) t c) ∧ m = fi (pS G e (opx bar F o k) t c) (pW G e (opx bar F o k) t c) - i ∧ v = nI i ∧ σ'' = σ' ∧ τ'' = τ') (fi (pS G e (opx bar F o k) t c) (pW G e (opx bar F o k) t c) - i) (fun x σ'' τ'' => x = .inr (nI (pN G e (opx bar F o k) t c)) ∧ σ'' = σ' ∧ τ'' = τ')) := by
      intro z
      have hi2 : i ≠ fi (pS G e (opx bar F o k) t c) (pW G e (opx bar F o k) t c) := by
        intro q
        rw [q] at z
        exact z a2
      unfold bX4_follow_62_in18
      exact sp_ret ⟨fi (pS G e (opx bar F o k) t c) (pW G e (opx bar F o k) t c) - (i + 1), by omega, i + 1, by omega, rfl, by rw [← ni_add]; rfl, rfl, rfl⟩
    by_cases w : tgt G c i = none
    · rw [w, if_pos (show enc none = -1 from rfl)]
      refine nxt (fun z => ?_)
      rw [hv] at z
      obtain ⟨a, u, b1, -⟩ := pS_some z
      rw [w] at b1
      cases b1
    · rw [if_neg (fun z => w ((enc_m1 (fun d hd => by have := opn_lt (tgt_o hd); omega)).mp z)), s_costBy τ' h ht hc he hr1, Option.bind_some]
      dsimp only
      refine sp_if (fun z => ?_) (fun z => ?_)
      · rw [enc_inj pS_lt pW_lt'] at z
        have hi2 : i = fi (pS G e (opx bar F o k) t c) (pW G e (opx bar F o k) t c) := by
          refine Classical.byContradiction fun q => a3 i (by omega) z
        rw [← hi2] at a4
        rw [a4]
        exact sp_ret ⟨rfl, rfl, rfl⟩
      · rw [enc_inj pS_lt pW_lt'] at z
        exact nxt z
  · rintro x σ' τ' ⟨rfl, rfl, rfl⟩
    exact sp_ret ⟨rfl, rfl, rfl⟩
end PX
