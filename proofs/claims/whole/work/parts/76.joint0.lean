-- joint states of one or two robots: steps, costs, the least cost, the first step that keeps it
abbrev jS : Type := Nat × Nat
/-- the second robot's move; where there is none it stands at 0 -/
def nx1 (R : Nat) (G : gG) (b j : Nat) : Option Nat := if R = 2 then mvc G b j else if j = 0 then some b else none
def jval (R : Nat) (G : gG) (s : jS) : Prop := opn G s.1 = true ∧ (R = 2 → opn G s.2 = true ∧ s.1 ≠ s.2) ∧ (R ≠ 2 → s.2 = 0)
def jok (R : Nat) (bar : Bool) (s s' : jS) : Prop := R = 2 → s'.1 ≠ s'.2 ∧ ¬ (bar = true ∧ s'.1 = s.2 ∧ s'.2 = s.1)
/-- a step by the moves i and j -/
def jmv (R : Nat) (G : gG) (bar : Bool) (i j : Nat) (s s' : jS) : Prop := mvc G s.1 i = some s'.1 ∧ nx1 R G s.2 j = some s'.2 ∧ jok R bar s s'
def jst (R : Nat) (G : gG) (bar : Bool) (s s' : jS) : Prop := ∃ i j, i < 5 ∧ j < 5 ∧ jmv R G bar i j s s'
def ownc (a b e : Nat) : Nat := if a = b ∧ b = e then 0 else 1
def pay (E s s' : jS) : Nat := ownc s.1 s'.1 E.1 + ownc s.2 s'.2 E.2
/-- a walk of k steps to E at the cost v -/
def jc (R : Nat) (G : gG) (bar : Bool) (E : jS) : Nat → Nat → jS → Prop
  | 0, v, s => v = 0 ∧ s = E
  | k + 1, v, s => ∃ (s' : jS) (u : Nat), jst R G bar s s' ∧ v = pay E s s' + u ∧ jc R G bar E k u s'
def cst (R : Nat) (G : gG) (bar : Bool) (E : jS) (v : Nat) (s : jS) : Prop := ∃ k, jc R G bar E k v s
def lst (R : Nat) (G : gG) (bar : Bool) (E : jS) (v : Nat) (s : jS) : Prop := cst R G bar E v s ∧ ∀ u, cst R G bar E u s → v ≤ u
section JT
variable {R : Nat} {G : gG} {bar : Bool} {E : jS}
theorem nb_back {c d m : Nat} (hc : c < 36) (hm : m < 5) (h : nb c m = some d) : ∃ m', m' < 5 ∧ nb d m' = some c := by
  by_cases z : m = 0
  · subst z
    have : d = c := by
      have h0 : nb c 0 = some c := rfl
      rw [h0] at h
      cases h; rfl
    subst this
    exact ⟨0, by decide, rfl⟩
  · have ha : adj c d = true := adj_iff.mpr ⟨m, by omega, hm, h⟩
    obtain ⟨m', h1, h2, h3⟩ := adj_iff.mp (adj_symm hc (adj_lt hc ha) ha)
    exact ⟨m', h2, h3⟩
theorem jmv_val {i j : Nat} {s s' : jS} (hv : jval R G s) (h : jmv R G bar i j s s') : jval R G s' := by
  obtain ⟨h1, h2, h3⟩ := h
  refine ⟨mvc_opn h1, fun q => ⟨?_, (h3 q).1⟩, fun q => ?_⟩
  · unfold nx1 at h2
    rw [if_pos q] at h2
    exact mvc_opn h2
  · unfold nx1 at h2
    rw [if_neg q] at h2
    by_cases z : j = 0
    · rw [if_pos z] at h2
      rw [← Option.some.inj h2]
      exact hv.2.2 q
    · rw [if_neg z] at h2; cases h2
theorem jst_val {s s' : jS} (hv : jval R G s) (h : jst R G bar s s') : jval R G s' := by
  obtain ⟨i, j, -, -, h⟩ := h
  exact jmv_val hv h
/-- steps go back just as they go forth -/
theorem jst_back {s s' : jS} (hv : jval R G s) (h : jst R G bar s s') : jst R G bar s' s := by
  have hv' := jst_val hv h
  obtain ⟨i, j, hi, hj, h1, h2, h3⟩ := h
  obtain ⟨n1, o1⟩ := mvc_some h1
  obtain ⟨i', hi', n1'⟩ := nb_back (opn_lt hv.1) hi n1
  have hok : jok R bar s' s := fun q => ⟨(hv.2.1 q).2, fun w => (h3 q).2 ⟨w.1, w.2.2.symm, w.2.1.symm⟩⟩
  by_cases q : R = 2
  · unfold nx1 at h2
    rw [if_pos q] at h2
    obtain ⟨n2, o2⟩ := mvc_some h2
    obtain ⟨j', hj', n2'⟩ := nb_back (opn_lt (hv.2.1 q).1) hj n2
    exact ⟨i', j', hi', hj', mvc_of n1' hv.1, by unfold nx1; rw [if_pos q]; exact mvc_of n2' (hv.2.1 q).1, hok⟩
  · refine ⟨i', 0, hi', by decide, mvc_of n1' hv.1, ?_, hok⟩
    unfold nx1
    rw [if_neg q, if_pos rfl, hv.2.2 q, hv'.2.2 q]
theorem ownc_le (a b e : Nat) : ownc a b e ≤ 1 := by unfold ownc; split <;> omega
theorem pay_le (s s' : jS) : pay E s s' ≤ 2 := by
  unfold pay
  have := ownc_le s.1 s'.1 E.1
  have := ownc_le s.2 s'.2 E.2
  omega
theorem ownc_0 {a b e : Nat} (h : ownc a b e = 0) : a = b ∧ b = e := by
  unfold ownc at h
  split at h
  · assumption
  · omega
theorem pay_0 {s s' : jS} (h : pay E s s' = 0) : s = E ∧ s' = E := by
  unfold pay at h
  obtain ⟨a1, a2⟩ := ownc_0 (show ownc s.1 s'.1 E.1 = 0 by omega)
  obtain ⟨b1, b2⟩ := ownc_0 (show ownc s.2 s'.2 E.2 = 0 by omega)
  exact ⟨Prod.ext (a1.trans a2) (b1.trans b2), Prod.ext a2 b2⟩
theorem cst_E : cst R G bar E 0 E := ⟨0, rfl, rfl⟩
theorem lst_E : lst R G bar E 0 E := ⟨cst_E, fun _ _ => Nat.zero_le _⟩
theorem cst_step {s s' : jS} {u : Nat} (h : jst R G bar s s') (hc : cst R G bar E u s') : cst R G bar E (pay E s s' + u) s := by
  obtain ⟨k, hk⟩ := hc
  exact ⟨k + 1, s', u, h, rfl, hk⟩
theorem lst_uniq {s : jS} {u v : Nat} (h : lst R G bar E u s) (h' : lst R G bar E v s) : u = v := by
  have h1 := h.2 v h'.1
  have h2 := h'.2 u h.1
  omega
theorem cst_lst {s : jS} : ∀ {v : Nat}, cst R G bar E v s → ∃ u, u ≤ v ∧ lst R G bar E u s := by
  intro v
  induction v using Nat.strongRecOn with
  | _ v ih =>
    intro h
    by_cases q : ∃ u, u < v ∧ cst R G bar E u s
    · obtain ⟨u, hu, h2⟩ := q
      obtain ⟨w, h3, h4⟩ := ih u hu h2
      exact ⟨w, by omega, h4⟩
    · exact ⟨v, Nat.le_refl _, h, fun u hu => Nat.le_of_not_lt fun z => q ⟨u, z, hu⟩⟩
/-- a least cost above 0: the first step of a cheapest walk -/
theorem lst_next {s : jS} {v : Nat} (h : lst R G bar E v s) (hv : s ≠ E) : ∃ (s' : jS) (u : Nat), jst R G bar s s' ∧ lst R G bar E u s' ∧ v = pay E s s' + u ∧ 1 ≤ pay E s s' := by
  obtain ⟨⟨k, hk⟩, hmin⟩ := h
  cases k with
  | zero => exact absurd hk.2 hv
  | succ k =>
    obtain ⟨s', u, h1, h2, h3⟩ := hk
    refine ⟨s', u, h1, ⟨⟨k, h3⟩, fun w hw => ?_⟩, h2, ?_⟩
    · have := hmin _ (cst_step h1 hw)
      omega
    · refine Nat.pos_of_ne_zero fun z => hv (pay_0 z).1
theorem lst_0 {s : jS} (h : lst R G bar E 0 s) : s = E := by
  refine Classical.byContradiction fun q => ?_
  obtain ⟨s', u, -, -, h1, h2⟩ := lst_next h q
  omega
theorem lst_le {s s' : jS} {v u : Nat} (h : lst R G bar E v s) (h1 : jst R G bar s s') (h2 : lst R G bar E u s') : v ≤ pay E s s' + u := h.2 _ (cst_step h1 h2.1)
/-- the step by i and j keeps the cost least -/
def jgd (R : Nat) (G : gG) (bar : Bool) (E : jS) (i j : Nat) (s s' : jS) : Prop := jmv R G bar i j s s' ∧ ∃ v u, lst R G bar E v s ∧ lst R G bar E u s' ∧ v = pay E s s' + u
def jfs (R : Nat) (G : gG) (bar : Bool) (E : jS) (s s' : jS) : Prop := ∃ i j, i < 5 ∧ j < 5 ∧ jgd R G bar E i j s s' ∧ ∀ i' j' s'', i' < 5 → j' < 5 → i' * 5 + j' < i * 5 + j → ¬ jgd R G bar E i' j' s s''
theorem jmv_uniq {i j : Nat} {s s' s'' : jS} (h : jmv R G bar i j s s') (h' : jmv R G bar i j s s'') : s' = s'' := by
  obtain ⟨a1, a2, -⟩ := h
  obtain ⟨b1, b2, -⟩ := h'
  rw [a1] at b1
  rw [a2] at b2
  exact Prod.ext (Option.some.inj b1) (Option.some.inj b2)
theorem jfs_uniq {s s' s'' : jS} (h : jfs R G bar E s s') (h' : jfs R G bar E s s'') : s' = s'' := by
  obtain ⟨i, j, hi, hj, h1, h2⟩ := h
  obtain ⟨i', j', hi', hj', h1', h2'⟩ := h'
  have a : ¬ i' * 5 + j' < i * 5 + j := fun q => h2 i' j' s'' hi' hj' q h1'
  have b : ¬ i * 5 + j < i' * 5 + j' := fun q => h2' i j s' hi hj q h1
  have e1 : i = i' := by omega
  have e2 : j = j' := by omega
  subst e1
  subst e2
  exact jmv_uniq h1.1 h1'.1
/-- the plan: from s, step by step, t steps to E -/
def jpl (R : Nat) (G : gG) (bar : Bool) (E : jS) (s : jS) (t : Nat) (p : Nat → jS) : Prop := p 0 = s ∧ p t = E ∧ ∀ k, k < t → p k ≠ E ∧ jfs R G bar E (p k) (p (k + 1))
theorem jpl_uniq {s : jS} {t t' : Nat} {p p' : Nat → jS} (h : jpl R G bar E s t p) (h' : jpl R G bar E s t' p') : t = t' ∧ ∀ k, k ≤ t → p k = p' k := by
  have key : ∀ k, k ≤ t → k ≤ t' → p k = p' k := by
    intro k
    induction k with
    | zero => intro _ _; rw [h.1, h'.1]
    | succ k ih =>
      intro h1 h2
      have e := ih (by omega) (by omega)
      have a := (h.2.2 k (by omega)).2
      have b := (h'.2.2 k (by omega)).2
      rw [e] at a
      exact jfs_uniq a b
  have ht : t = t' := by
    by_cases z : t < t'
    · have e := key t (Nat.le_refl _) (by omega)
      rw [h.2.1] at e
      exact absurd e.symm (h'.2.2 t z).1
    · by_cases z2 : t' < t
      · have e := key t' (by omega) (Nat.le_refl _)
        rw [h'.2.1] at e
        exact absurd e (h.2.2 t' z2).1
      · omega
  exact ⟨ht, fun k hk => key k hk (by omega)⟩
end JT
