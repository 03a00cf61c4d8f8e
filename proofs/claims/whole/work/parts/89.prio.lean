-- priorities: the least cost of a way past the ways before it, the first way of that cost
def exB (p : Nat → Bool) : Nat → Bool
  | 0 => false
  | n + 1 => exB p n || p n
theorem exB_iff {p : Nat → Bool} : ∀ {n : Nat}, exB p n = true ↔ ∃ x, x < n ∧ p x = true
  | 0 => by simp [exB]
  | n + 1 => by
    unfold exB
    rw [Bool.or_eq_true, exB_iff]
    constructor
    · rintro (⟨x, h1, h2⟩ | h)
      · exact ⟨x, by omega, h2⟩
      · exact ⟨n, by omega, h⟩
    · rintro ⟨x, h1, h2⟩
      by_cases q : x = n
      · subst q; exact Or.inr h2
      · exact Or.inl ⟨x, by omega, h2⟩
theorem exB_not {p : Nat → Bool} {n : Nat} (h : exB p n = false) {x : Nat} (hx : x < n) : p x = false := by
  cases q : p x with
  | false => rfl
  | true =>
    have := exB_iff.mpr ⟨x, hx, q⟩
    rw [h] at this
    cases this
def omn (a b : Option Nat) : Option Nat := match b with
  | none => a
  | some y => match a with
    | none => some y
    | some x => if x ≤ y then some x else some y
def mo (f : Nat → Option Nat) : Nat → Option Nat
  | 0 => none
  | n + 1 => omn (mo f n) (f n)
theorem mo_att {f : Nat → Option Nat} : ∀ {n v : Nat}, mo f n = some v → ∃ m, m < n ∧ f m = some v
  | 0, v, h => by cases h
  | n + 1, v, h => by
    unfold mo omn at h
    cases q : f n with
    | none =>
      rw [q] at h
      obtain ⟨m, h1, h2⟩ := mo_att h
      exact ⟨m, by omega, h2⟩
    | some y =>
      rw [q] at h
      cases w : mo f n with
      | none =>
        rw [w] at h
        exact ⟨n, by omega, by rw [q]; exact h⟩
      | some x =>
        rw [w] at h
        dsimp only at h
        by_cases z : x ≤ y
        · rw [if_pos z] at h
          obtain ⟨m, h1, h2⟩ := mo_att w
          exact ⟨m, by omega, h2.trans h⟩
        · rw [if_neg z] at h
          exact ⟨n, by omega, q.trans h⟩
theorem mo_b {f : Nat → Option Nat} {B : Nat} (hf : ∀ m v, f m = some v → v ≤ B) (n v : Nat) (h : mo f n = some v) : v ≤ B := by
  obtain ⟨m, -, h2⟩ := mo_att h
  exact hf m v h2
def fi (f : Nat → Option Nat) (v : Option Nat) : Nat := if f 0 = v then 0 else if f 1 = v then 1 else if f 2 = v then 2 else if f 3 = v then 3 else 4
theorem fi_spec {f : Nat → Option Nat} {v : Option Nat} (h : ∃ m, m < 5 ∧ f m = v) : fi f v < 5 ∧ f (fi f v) = v ∧ ∀ m, m < fi f v → f m ≠ v := by
  obtain ⟨m, hm, e⟩ := h
  unfold fi
  by_cases h0 : f 0 = v
  · rw [if_pos h0]; exact ⟨by decide, h0, fun m h => absurd h (Nat.not_lt_zero _)⟩
  rw [if_neg h0]
  by_cases h1 : f 1 = v
  · rw [if_pos h1]; exact ⟨by decide, h1, fun m h => by have : m = 0 := by omega
                                                        subst this; exact h0⟩
  rw [if_neg h1]
  by_cases h2 : f 2 = v
  · rw [if_pos h2]
    refine ⟨by decide, h2, fun m h => ?_⟩
    rcases (show m = 0 ∨ m = 1 by omega) with rfl | rfl <;> assumption
  rw [if_neg h2]
  by_cases h3 : f 3 = v
  · rw [if_pos h3]
    refine ⟨by decide, h3, fun m h => ?_⟩
    rcases (show m = 0 ∨ m = 1 ∨ m = 2 by omega) with rfl | rfl | rfl <;> assumption
  rw [if_neg h3]
  have h4 : f 4 = v := by
    rcases (show m = 0 ∨ m = 1 ∨ m = 2 ∨ m = 3 ∨ m = 4 by omega) with rfl | rfl | rfl | rfl | rfl
    · exact absurd e h0
    · exact absurd e h1
    · exact absurd e h2
    · exact absurd e h3
    · exact e
  refine ⟨by decide, h4, fun m h => ?_⟩
  rcases (show m = 0 ∨ m = 1 ∨ m = 2 ∨ m = 3 by omega) with rfl | rfl | rfl | rfl <;> assumption
abbrev gO : Type := Nat → Nat → Nat → Bool
def pstp (G : gG) (e : Nat) (op : gO) (t : Nat) (w : Nat → Option Nat) (c m : Nat) : Option Nat := match tgt G c m with
  | none => none
  | some a => if op t c a then (w a).map (fun v => v + ownc c a e) else none
def pval (G : gG) (e : Nat) (op : gO) : Nat → Nat → Option Nat
  | 0, c => if c = e then some 0 else none
  | j + 1, c => mo (pstp G e op (39 - j) (pval G e op j) c) 5
def pW (G : gG) (e : Nat) (op : gO) (t c : Nat) : Option Nat := pval G e op (40 - t) c
def pS (G : gG) (e : Nat) (op : gO) (t c m : Nat) : Option Nat := pstp G e op t (pW G e op (t + 1)) c m
section PW
variable {G : gG} {e : Nat} {op : gO}
theorem pW_40 (c : Nat) : pW G e op 40 c = if c = e then some 0 else none := rfl
theorem pW_lt {t : Nat} (c : Nat) (h : t < 40) : pW G e op t c = mo (pS G e op t c) 5 := by
  show pval G e op (40 - t) c = mo (fun m => pstp G e op t (fun a => pval G e op (40 - (t + 1)) a) c m) 5
  rw [show 40 - t = (39 - t) + 1 by omega, show 40 - (t + 1) = 39 - t by omega]
  show mo (fun m => pstp G e op (39 - (39 - t)) (fun a => pval G e op (39 - t) a) c m) 5 = _
  rw [show 39 - (39 - t) = t by omega]
theorem pval_le : ∀ (j c v : Nat), pval G e op j c = some v → v ≤ j
  | 0, c, v, h => by
    unfold pval at h
    split at h
    · cases h; exact Nat.le_refl _
    · cases h
  | j + 1, c, v, h => by
    unfold pval at h
    obtain ⟨m, -, h2⟩ := mo_att h
    unfold pstp at h2
    cases q : tgt G c m with
    | none => rw [q] at h2; cases h2
    | some a =>
      rw [q] at h2
      dsimp only at h2
      split at h2
      · cases w : pval G e op j a with
        | none => rw [w] at h2; cases h2
        | some u =>
          rw [w] at h2
          have h3 : u + ownc c a e = v := Option.some.inj h2
          have := pval_le j a u w
          have := ownc_le c a e
          omega
      · cases h2
theorem pW_le {t c v : Nat} (h : pW G e op t c = some v) : v ≤ 40 := by
  have := pval_le _ _ _ h
  omega
theorem pS_some {t c m v : Nat} (h : pS G e op t c m = some v) : ∃ a u, tgt G c m = some a ∧ op t c a = true ∧ pW G e op (t + 1) a = some u ∧ v = u + ownc c a e := by
  unfold pS pstp at h
  cases q : tgt G c m with
  | none => rw [q] at h; cases h
  | some a =>
    rw [q] at h
    dsimp only at h
    split at h
    · rename_i z
      cases w : pW G e op (t + 1) a with
      | none => rw [w] at h; cases h
      | some u =>
        rw [w] at h
        exact ⟨a, u, rfl, z, w, (Option.some.inj h).symm⟩
    · cases h
theorem pS_le {t c m v : Nat} (h : pS G e op t c m = some v) : v ≤ 41 := by
  obtain ⟨a, u, -, -, h3, h4⟩ := pS_some h
  have := pW_le h3
  have := ownc_le c a e
  omega
def pN (G : gG) (e : Nat) (op : gO) (t c : Nat) : Nat := (tgt G c (fi (pS G e op t c) (pW G e op t c))).getD c
def pP (G : gG) (e : Nat) (op : gO) (s : Nat) : Nat → Nat
  | 0 => s
  | t + 1 => pN G e op t (pP G e op s t)
theorem tgt_o {c m d : Nat} (h : tgt G c m = some d) : opn G d = true := by
  unfold tgt at h
  split at h
  · exact mvc_opn h
  · cases h
theorem pN_spec {t c v : Nat} (ht : t < 40) (h : pW G e op t c = some v) : fi (pS G e op t c) (pW G e op t c) < 5 ∧ pS G e op t c (fi (pS G e op t c) (pW G e op t c)) = pW G e op t c ∧ (∀ m, m < fi (pS G e op t c) (pW G e op t c) → pS G e op t c m ≠ pW G e op t c) ∧
    tgt G c (fi (pS G e op t c) (pW G e op t c)) = some (pN G e op t c) ∧ op t c (pN G e op t c) = true ∧ ∃ u, pW G e op (t + 1) (pN G e op t c) = some u := by
  have h0 := h
  rw [pW_lt c ht] at h0
  obtain ⟨m, h1, h2⟩ := mo_att h0
  obtain ⟨a1, a2, a3⟩ := fi_spec (f := pS G e op t c) (v := pW G e op t c) ⟨m, h1, h2.trans h.symm⟩
  obtain ⟨a, u, b1, b2, b3, b4⟩ := pS_some (a2.trans h)
  have b5 : pN G e op t c = a := by unfold pN; rw [b1]; rfl
  rw [b5]
  exact ⟨a1, a2, a3, b1, b2, u, b3⟩
theorem pP_spec {s v : Nat} (h : pW G e op 0 s = some v) : ∀ t, t ≤ 40 → ∃ u, pW G e op t (pP G e op s t) = some u
  | 0, _ => ⟨v, h⟩
  | t + 1, ht => by
    obtain ⟨u, hu⟩ := pP_spec h t (by omega)
    exact (pN_spec (by omega) hu).2.2.2.2.2
theorem pP_40 {s v : Nat} (h : pW G e op 0 s = some v) : pP G e op s 40 = e := by
  obtain ⟨u, hu⟩ := pP_spec h 40 (Nat.le_refl _)
  rw [pW_40] at hu
  exact Classical.byContradiction fun q => by rw [if_neg q] at hu; cases hu
theorem pP_opn {s v : Nat} (h : pW G e op 0 s = some v) (hs : opn G s = true) : ∀ t, t ≤ 40 → opn G (pP G e op s t) = true
  | 0, _ => hs
  | t + 1, ht => by
    obtain ⟨u, hu⟩ := pP_spec h t (by omega)
    exact tgt_o (pN_spec (by omega) hu).2.2.2.1
theorem pP_op {s v t : Nat} (h : pW G e op 0 s = some v) (ht : t < 40) : op t (pP G e op s t) (pP G e op s (t + 1)) = true := by
  obtain ⟨u, hu⟩ := pP_spec h t (by omega)
  exact (pN_spec ht hu).2.2.2.2.1
end PW
-- the ways before: o gives the order, F the ways of the first k
def tkn (F : Nat → Nat → Nat) (o : Nat → Nat) (k t c : Nat) : Bool := exB (fun x => F (o x) t == c) k
def brd (bar : Bool) (F : Nat → Nat → Nat) (o : Nat → Nat) (k t c a : Nat) : Bool := bar && exB (fun x => F (o x) t == a && F (o x) (t + 1) == c) k
def opx (bar : Bool) (F : Nat → Nat → Nat) (o : Nat → Nat) (k t c a : Nat) : Bool := !tkn F o k (t + 1) a && !brd bar F o k t c a
theorem opx_free {bar : Bool} {F : Nat → Nat → Nat} {o : Nat → Nat} {k t c a : Nat} (h : opx bar F o k t c a = true) : tkn F o k (t + 1) a = false := by
  unfold opx at h
  rw [Bool.and_eq_true, Bool.not_eq_true'] at h
  exact h.1
def ptR (R : Nat) (o : Nat → Nat) : Prop := (∀ k, k < R → o k < R) ∧ (∀ k l, k < R → l < R → o k = o l → k = l) ∧ ∀ r, r < R → ∃ k, k < R ∧ o k = r
def ptI (G : gG) (s e : Nat → Nat) (o : Nat → Nat) (k : Nat) (F : Nat → Nat → Nat) : Prop := (∀ x, x < k → F (o x) 0 = s (o x) ∧ F (o x) 40 = e (o x) ∧ ∀ t, t ≤ 40 → opn G (F (o x) t) = true) ∧ ∀ x y t, x < k → y < k → t ≤ 40 → F (o x) t = F (o y) t → x = y
def pnew (G : gG) (bar : Bool) (s e : Nat → Nat) (o : Nat → Nat) (k : Nat) (F : Nat → Nat → Nat) : Nat → Nat → Nat := fun r t => if r = o k then pP G (e (o k)) (opx bar F o k) (s (o k)) t else F r t
def rn (G : gG) (bar : Bool) (s e : Nat → Nat) (o : Nat → Nat) : Nat → Option (Nat × (Nat → Nat → Nat))
  | 0 => some (0, fun _ _ => 0)
  | k + 1 => match rn G bar s e o k with
    | none => none
    | some (c, F) => match pW G (e (o k)) (opx bar F o k) 0 (s (o k)) with
      | none => none
      | some v => some (c + v, pnew G bar s e o k F)
/-- the task: starts and ends open and apart -/
def ptT (R : Nat) (G : gG) (s e : Nat → Nat) : Prop := (∀ r, r < R → opn G (s r) = true ∧ opn G (e r) = true) ∧ (∀ r q, r < R → q < R → s r = s q → r = q) ∧ ∀ r q, r < R → q < R → e r = e q → r = q
theorem pt_step {R : Nat} {G : gG} {bar : Bool} {s e o : Nat → Nat} {k v : Nat} {F : Nat → Nat → Nat} (hT : ptT R G s e) (hR : ptR R o) (hk : k < R) (h : ptI G s e o k F) (hv : pW G (e (o k)) (opx bar F o k) 0 (s (o k)) = some v) : ptI G s e o (k + 1) (pnew G bar s e o k F) := by
  have old : ∀ x, x < k → ∀ t, pnew G bar s e o k F (o x) t = F (o x) t := by
    intro x hx t
    unfold pnew
    rw [if_neg]
    intro q
    have := hR.2.1 x k (by omega) hk q
    omega
  have new : ∀ t, pnew G bar s e o k F (o k) t = pP G (e (o k)) (opx bar F o k) (s (o k)) t := by
    intro t
    unfold pnew
    rw [if_pos rfl]
  have ap : ∀ x t, x < k → t ≤ 40 → F (o x) t = pP G (e (o k)) (opx bar F o k) (s (o k)) t → False := by
    intro x t hx ht q
    cases t with
    | zero =>
      have q2 : F (o x) 0 = s (o k) := q
      rw [(h.1 x hx).1] at q2
      have := hR.2.1 x k (by omega) hk (hT.2.1 _ _ (hR.1 x (by omega)) (hR.1 k hk) q2)
      omega
    | succ t =>
      have a := opx_free (pP_op hv (show t < 40 by omega))
      have b := exB_not a hx
      rw [q] at b
      simp at b
  refine ⟨fun x hx => ?_, fun x y t hx hy ht q => ?_⟩
  · by_cases z : x = k
    · subst z
      rw [new, new]
      exact ⟨rfl, pP_40 hv, fun t ht => by rw [new]; exact pP_opn hv (hT.1 _ (hR.1 _ hk)).1 t ht⟩
    · rw [old x (by omega), old x (by omega)]
      exact ⟨(h.1 x (by omega)).1, (h.1 x (by omega)).2.1, fun t ht => by rw [old x (by omega)]; exact (h.1 x (by omega)).2.2 t ht⟩
  · by_cases z : x = k
    · by_cases w : y = k
      · omega
      · subst z
        rw [new, old y (by omega)] at q
        exact (ap y t (by omega) ht q.symm).elim
    · by_cases w : y = k
      · subst w
        rw [new, old x (by omega)] at q
        exact (ap x t (by omega) ht q).elim
      · rw [old x (by omega), old y (by omega)] at q
        exact h.2 x y t (by omega) (by omega) ht q
theorem pt_0 {G : gG} {s e o : Nat → Nat} {F : Nat → Nat → Nat} : ptI G s e o 0 F := ⟨fun x h => absurd h (Nat.not_lt_zero _), fun x y t h => absurd h (Nat.not_lt_zero _)⟩
theorem rn_ok {R : Nat} {G : gG} {bar : Bool} {s e o : Nat → Nat} (hT : ptT R G s e) (hR : ptR R o) : ∀ {k c : Nat} {F : Nat → Nat → Nat}, k ≤ R → rn G bar s e o k = some (c, F) → ptI G s e o k F ∧ c ≤ 40 * k
  | 0, c, F, _, h => by
    unfold rn at h
    cases h
    exact ⟨pt_0, Nat.le_refl _⟩
  | k + 1, c, F, hk, h => by
    unfold rn at h
    cases q : rn G bar s e o k with
    | none => rw [q] at h; cases h
    | some w =>
      obtain ⟨c0, F0⟩ := w
      rw [q] at h
      dsimp only at h
      cases z : pW G (e (o k)) (opx bar F0 o k) 0 (s (o k)) with
      | none => rw [z] at h; cases h
      | some v =>
        rw [z] at h
        cases h
        obtain ⟨a, b⟩ := rn_ok hT hR (by omega) q
        exact ⟨pt_step hT hR (by omega) a z, by have := pW_le z; omega⟩
theorem rn_s {G : gG} {bar : Bool} {s e o : Nat → Nat} {k c v : Nat} {F : Nat → Nat → Nat} (h : rn G bar s e o k = some (c, F)) (hv : pW G (e (o k)) (opx bar F o k) 0 (s (o k)) = some v) : rn G bar s e o (k + 1) = some (c + v, pnew G bar s e o k F) := by
  show (match rn G bar s e o k with
    | none => none
    | some (c, F) => match pW G (e (o k)) (opx bar F o k) 0 (s (o k)) with
      | none => none
      | some v => some (c + v, pnew G bar s e o k F)) = _
  rw [h]
  dsimp only
  rw [hv]
theorem rn_n {G : gG} {bar : Bool} {s e o : Nat → Nat} {k c : Nat} {F : Nat → Nat → Nat} (h : rn G bar s e o k = some (c, F)) (hv : pW G (e (o k)) (opx bar F o k) 0 (s (o k)) = none) : ∀ j, k < j → rn G bar s e o j = none := by
  have h1 : rn G bar s e o (k + 1) = none := by
    show (match rn G bar s e o k with
      | none => none
      | some (c, F) => match pW G (e (o k)) (opx bar F o k) 0 (s (o k)) with
        | none => none
        | some v => some (c + v, pnew G bar s e o k F)) = _
    rw [h]
    dsimp only
    rw [hv]
  have h2 : ∀ d, rn G bar s e o (k + 1 + d) = none := by
    intro d
    induction d with
    | zero => exact h1
    | succ d ih =>
      show (match rn G bar s e o (k + 1 + d) with
        | none => none
        | some (c, F) => match pW G (e (o (k + 1 + d))) (opx bar F o (k + 1 + d)) 0 (s (o (k + 1 + d))) with
          | none => none
          | some v => some (c + v, pnew G bar s e o (k + 1 + d) F)) = _
      rw [ih]
  intro j hj
  have := h2 (j - (k + 1))
  rw [show k + 1 + (j - (k + 1)) = j by omega] at this
  exact this
/-- the steps till all stand at their ends for good -/
def stn (b : Nat → Bool) : Nat → Nat
  | 0 => 0
  | x + 1 => if b x then stn b x else x + 1
theorem stn_le (b : Nat → Bool) : ∀ n, stn b n ≤ n
  | 0 => Nat.le_refl _
  | n + 1 => by
    have := stn_le b n
    unfold stn
    split <;> omega
def atE (R : Nat) (e : Nat → Nat) (F : Nat → Nat → Nat) (x : Nat) : Bool := !exB (fun r => !(F r x == e r)) R
/-- what an order brings -/
def ptry (R : Nat) (G : gG) (bar : Bool) (s e o : Nat → Nat) : plT := (rn G bar s e o R).map (fun w => (w.1, stn (atE R e w.2) 40, w.2))
def pbet (a b : plT) : plT := match b with
  | none => a
  | some y => match a with
    | none => some y
    | some x => if x.1 ≤ y.1 then some x else some y
