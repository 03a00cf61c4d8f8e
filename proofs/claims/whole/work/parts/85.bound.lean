-- how many joint steps two robots need at most
theorem wk_last {S : Nat → Bool} : ∀ {i a c : Nat}, wk S (i + 1) a c → ∃ d, wk S i a d ∧ adj d c = true := by
  intro i
  induction i with
  | zero =>
    rintro a c ⟨h, d, h1, rfl, h2⟩
    exact ⟨a, ⟨rfl, h⟩, h1⟩
  | succ i ih2 =>
    rintro a c ⟨h, d, h1, h2⟩
    obtain ⟨e, h3, h4⟩ := ih2 h2
    exact ⟨e, ⟨h, d, h1, h3⟩, h4⟩
theorem wk_split {S : Nat → Bool} : ∀ {i j a b : Nat}, wk S (i + j) a b → ∃ c, wk S i a c ∧ wk S j c b := by
  intro i
  induction i with
  | zero =>
    intro j a b h
    rw [Nat.zero_add] at h
    exact ⟨a, ⟨rfl, wk_l h⟩, h⟩
  | succ i ih =>
    intro j a b h
    rw [show i + 1 + j = (i + j) + 1 by omega] at h
    obtain ⟨h1, d, h2, h3⟩ := h
    obtain ⟨c, h4, h5⟩ := ih h3
    exact ⟨c, ⟨h1, d, h2, h4⟩, h5⟩
/-- a walk whose cells all satisfy T -/
theorem wk_T {S T : Nat → Bool} : ∀ {k a b : Nat}, wk S k a b → (∀ i c, i ≤ k → wk S i a c → wk S (k - i) c b → T c = true) → wk T k a b := by
  intro k
  induction k with
  | zero =>
    rintro a b ⟨rfl, h⟩ hT
    exact ⟨rfl, hT 0 a (Nat.le_refl _) ⟨rfl, h⟩ ⟨rfl, h⟩⟩
  | succ k ih =>
    rintro a b ⟨h, d, h1, h2⟩ hT
    refine ⟨hT 0 a (Nat.zero_le _) ⟨rfl, h⟩ ⟨h, d, h1, h2⟩, d, h1, ih h2 (fun i c hi h3 h4 => ?_)⟩
    exact hT (i + 1) c (by omega) ⟨h, d, h1, h3⟩ (by rw [show k + 1 - (i + 1) = k - i by omega]; exact h4)
/-- the distance of c from j is k -/
def ds (S : Nat → Bool) (j c k : Nat) : Prop := wk S k c j ∧ ∀ m, wk S m c j → k ≤ m
theorem ds_ex {S : Nat → Bool} (hS : ∀ c, S c = true → c < 36) {j c m : Nat} (h : wk S m c j) : ∃ k, k ≤ 35 ∧ ds S j c k := by
  obtain ⟨n, hn, h1⟩ := wk_short hS h
  have least : ∀ n, (∃ i, i ≤ n ∧ wk S i c j) → ∃ i, i ≤ n ∧ wk S i c j ∧ ∀ x, wk S x c j → i ≤ x := by
    intro n
    induction n with
    | zero =>
      rintro ⟨i, hi, h1⟩
      exact ⟨i, hi, h1, fun x _ => by omega⟩
    | succ n ih =>
      rintro ⟨i, hi, h1⟩
      by_cases q : ∃ i, i ≤ n ∧ wk S i c j
      · obtain ⟨i, h2, h3⟩ := ih q
        exact ⟨i, by omega, h3⟩
      · refine ⟨i, hi, h1, fun x hx => ?_⟩
        exact Nat.le_of_not_lt fun w => q ⟨x, by omega, hx⟩
  obtain ⟨i, h2, h3⟩ := least 35 ⟨n, hn, h1⟩
  exact ⟨i, h2, h3⟩
theorem ds_uniq {S : Nat → Bool} {j c k k' : Nat} (h : ds S j c k) (h' : ds S j c k') : k = k' := by
  have h1 := h.2 k' h'.1
  have h2 := h'.2 k h.1
  omega
theorem ds_0 {S : Nat → Bool} {j c : Nat} (h : ds S j c 0) : c = j := h.1.1
/-- the next cell on a shortest way -/
theorem ds_down {S : Nat → Bool} {j c k : Nat} (h : ds S j c (k + 1)) : ∃ d, adj c d = true ∧ ds S j d k := by
  obtain ⟨⟨h1, d, h2, h3⟩, h4⟩ := h
  refine ⟨d, h2, h3, fun m hm => ?_⟩
  have := h4 (m + 1) ⟨h1, d, h2, hm⟩
  omega
theorem ds_adj {S : Nat → Bool} (hS : ∀ c, S c = true → c < 36) {j c d k l : Nat} (h : ds S j c k) (h' : ds S j d l) (ha : adj c d = true) : k ≤ l + 1 ∧ l ≤ k + 1 := by
  have hc := wk_l h.1
  have hd := wk_l h'.1
  exact ⟨h.2 (l + 1) ⟨hc, d, ha, h'.1⟩, h'.2 (k + 1) ⟨hd, c, adj_symm (hS c hc) (hS d hd) ha, h.1⟩⟩
-- colours
def col (c : Nat) : Nat := (c % 6 + c / 6) % 2
theorem col_all : ∀ c d : Fin 36, adj c.1 d.1 = true → col d.1 = 1 - col c.1 := by decide +kernel
theorem col_adj {c d : Nat} (hc : c < 36) (h : adj c d = true) : col d = 1 - col c := col_all ⟨c, hc⟩ ⟨d, adj_lt hc h⟩ h
theorem col_lt (c : Nat) : col c < 2 := Nat.mod_lt _ (by decide)
theorem wk_col {S : Nat → Bool} (hS : ∀ c, S c = true → c < 36) : ∀ {k a b : Nat}, wk S k a b → (col a + k) % 2 = col b := by
  intro k
  induction k with
  | zero =>
    rintro a b ⟨rfl, -⟩
    have := col_lt a
    omega
  | succ k ih =>
    rintro a b ⟨h, d, h1, h2⟩
    have h3 := ih h2
    have h4 := col_adj (hS a h) h1
    have := col_lt a
    omega
section JB
variable {G : gG} {bar : Bool}
/-- joint walks of two robots -/
def jw (G : gG) (bar : Bool) : Nat → jS → jS → Prop
  | 0, s, s' => s = s'
  | n + 1, s, s' => ∃ t, jst 2 G bar s t ∧ jw G bar n t s'
theorem jw_trans : ∀ {m n : Nat} {s t u : jS}, jw G bar m s t → jw G bar n t u → jw G bar (m + n) s u := by
  intro m
  induction m with
  | zero => rintro n s t u rfl h; rw [Nat.zero_add]; exact h
  | succ m ih =>
    rintro n s t u ⟨r, h1, h2⟩ h
    rw [show m + 1 + n = (m + n) + 1 by omega]
    exact ⟨r, h1, ih h2 h⟩
theorem jw_val : ∀ {n : Nat} {s t : jS}, jval 2 G s → jw G bar n s t → jval 2 G t := by
  intro n
  induction n with
  | zero => rintro s t h rfl; exact h
  | succ n ih => rintro s t h ⟨r, h1, h2⟩; exact ih (jst_val h h1) h2
theorem jw_back : ∀ {n : Nat} {s t : jS}, jval 2 G s → jw G bar n s t → jw G bar n t s := by
  intro n
  induction n with
  | zero => rintro s t _ rfl; rfl
  | succ n ih =>
    rintro s t h ⟨r, h1, h2⟩
    have hr := jst_val h h1
    have h3 := ih hr h2
    exact jw_trans h3 (n := 1) ⟨s, jst_back h h1, rfl⟩
theorem jw_cst {E : jS} : ∀ {n : Nat} {s : jS}, jw G bar n s E → ∃ v, v ≤ 2 * n ∧ cst 2 G bar E v s := by
  intro n
  induction n with
  | zero => rintro s rfl; exact ⟨0, Nat.le_refl _, cst_E⟩
  | succ n ih =>
    rintro s ⟨t, h1, h2⟩
    obtain ⟨v, hv, hc⟩ := ih h2
    have := pay_le (E := E) s t
    exact ⟨_, by omega, cst_step h1 hc⟩
theorem jc_jw {E : jS} : ∀ {k v : Nat} {s : jS}, jc 2 G bar E k v s → jw G bar k s E := by
  intro k
  induction k with
  | zero => rintro v s ⟨-, h⟩; exact h
  | succ k ih => rintro v s ⟨t, u, h1, -, h2⟩; exact ⟨t, h1, ih h2⟩
/-- the two robots' parts are alike -/
theorem jst_sw {s t : jS} (h : jst 2 G bar s t) : jst 2 G bar (s.2, s.1) (t.2, t.1) := by
  obtain ⟨i, j, hi, hj, h1, h2, h3⟩ := h
  unfold nx1 at h2
  rw [if_pos rfl] at h2
  refine ⟨j, i, hj, hi, h2, by unfold nx1; rw [if_pos rfl]; exact h1, fun q => ⟨fun w => (h3 q).1 w.symm, fun w => (h3 q).2 ⟨w.1, w.2.2, w.2.1⟩⟩⟩
theorem jw_sw : ∀ {n : Nat} {s t : jS}, jw G bar n s t → jw G bar n (s.2, s.1) (t.2, t.1) := by
  intro n
  induction n with
  | zero => rintro s t rfl; rfl
  | succ n ih => rintro s t ⟨r, h1, h2⟩; exact ⟨(r.2, r.1), jst_sw h1, ih h2⟩
theorem mvc_0 {a : Nat} (h : opn G a = true) : mvc G a 0 = some a := mvc_of rfl h
theorem adj_mvc {a c : Nat} (h : adj a c = true) (hc : opn G c = true) : ∃ i, i < 5 ∧ mvc G a i = some c := by
  obtain ⟨m, -, h2, h3⟩ := adj_iff.mp h
  exact ⟨m, h2, mvc_of h3 hc⟩
/-- both move, or one: what is allowed -/
theorem jst_mk {a b c d : Nat} (h1 : (a = c ∧ opn G a = true) ∨ (adj a c = true ∧ opn G c = true)) (h2 : (b = d ∧ opn G b = true) ∨ (adj b d = true ∧ opn G d = true)) (hne : c ≠ d) (hsw : ¬ (bar = true ∧ c = b ∧ d = a)) : jst 2 G bar (a, b) (c, d) := by
  have mv : ∀ x y, (x = y ∧ opn G x = true) ∨ (adj x y = true ∧ opn G y = true) → ∃ i, i < 5 ∧ mvc G x i = some y := by
    rintro x y (⟨rfl, h⟩ | ⟨h, h'⟩)
    · exact ⟨0, by decide, mvc_0 h⟩
    · exact adj_mvc h h'
  obtain ⟨i, hi, h3⟩ := mv a c h1
  obtain ⟨j, hj, h4⟩ := mv b d h2
  exact ⟨i, j, hi, hj, h3, by unfold nx1; rw [if_pos rfl]; exact h4, fun _ => ⟨hne, hsw⟩⟩
/-- open cells but b -/
def opb (G : gG) (b : Nat) : Nat → Bool := fun c => opn G c && !(c == b)
theorem opb_iff {b c : Nat} : opb G b c = true ↔ opn G c = true ∧ c ≠ b := by simp [opb]
theorem opb_36 {b : Nat} : ∀ c, opb G b c = true → c < 36 := fun c h => opn_lt (opb_iff.mp h).1
/-- one robot walks round the other -/
theorem jw_A {b : Nat} (hb : opn G b = true) : ∀ {k a c : Nat}, wk (opb G b) k a c → jw G bar k (a, b) (c, b) := by
  intro k
  induction k with
  | zero => rintro a c ⟨rfl, -⟩; rfl
  | succ k ih =>
    rintro a c ⟨h1, d, h2, h3⟩
    have hd := opb_iff.mp (wk_l h3)
    have ha := opb_iff.mp h1
    exact ⟨(d, b), jst_mk (Or.inr ⟨h2, hd.1⟩) (Or.inl ⟨rfl, hb⟩) hd.2 (fun q => hd.2 q.2.1), ih h3⟩
theorem jw_B {a : Nat} (ha : opn G a = true) {k b d : Nat} (h : wk (opb G a) k b d) : jw G bar k (a, b) (a, d) := jw_sw (s := (b, a)) (t := (d, a)) (jw_A ha h)
/-- each robot's own way -/
theorem jst_wk {s t : jS} (hs : jval 2 G s) (h : jst 2 G bar s t) : (∃ k, wk (opn G) k s.1 t.1) ∧ ∃ k, wk (opn G) k s.2 t.2 := by
  have one : ∀ x y i, opn G x = true → i < 5 → mvc G x i = some y → ∃ k, wk (opn G) k x y := by
    intro x y i hx hi hm
    obtain ⟨h1, h2⟩ := mvc_some hm
    by_cases z : i = 0
    · subst z
      have : nb x 0 = some x := rfl
      rw [this] at h1
      cases h1
      exact ⟨0, rfl, hx⟩
    · exact ⟨1, hx, y, adj_iff.mpr ⟨i, by omega, hi, h1⟩, rfl, h2⟩
  obtain ⟨i, j, hi, hj, h1, h2, -⟩ := h
  unfold nx1 at h2
  rw [if_pos rfl] at h2
  exact ⟨one _ _ i hs.1 hi h1, one _ _ j (hs.2.1 rfl).1 hj h2⟩
theorem jw_wk : ∀ {n : Nat} {s t : jS}, jval 2 G s → jw G bar n s t → (∃ k, wk (opn G) k s.1 t.1) ∧ ∃ k, wk (opn G) k s.2 t.2 := by
  intro n
  induction n with
  | zero => rintro s t hs rfl; exact ⟨⟨0, rfl, hs.1⟩, ⟨0, rfl, (hs.2.1 rfl).1⟩⟩
  | succ n ih =>
    rintro s t hs ⟨r, h1, h2⟩
    obtain ⟨⟨k1, g1⟩, k2, g2⟩ := jst_wk hs h1
    obtain ⟨⟨k3, g3⟩, k4, g4⟩ := ih (jst_val hs h1) h2
    exact ⟨⟨_, wk_trans g1 g3⟩, _, wk_trans g2 g4⟩
theorem op36 : ∀ c, opn G c = true → c < 36 := fun c h => opn_lt h
/-- from (a, b) to (c, d), both ways free in turn -/
theorem jw_two {a b c d k l : Nat} (hb : opn G b = true) (hc : opn G c = true) (h1 : wk (opb G b) k a c) (h2 : wk (opb G c) l b d) : ∃ n, n ≤ 70 ∧ jw G bar n (a, b) (c, d) := by
  obtain ⟨k', hk, h1⟩ := wk_short opb_36 h1
  obtain ⟨l', hl, h2⟩ := wk_short opb_36 h2
  exact ⟨k' + l', by omega, jw_trans (jw_A hb h1) (jw_B hc h2)⟩
-- swaps allowed
theorem jw_free (hbar : bar = false) : ∀ {k a c b : Nat}, wk (opn G) k a c → opn G b = true → a ≠ b → ∃ b', b' ≠ c ∧ jw G bar k (a, b) (c, b') := by
  intro k
  induction k with
  | zero => rintro a c b ⟨rfl, -⟩ _ hne; exact ⟨b, fun q => hne q.symm, rfl⟩
  | succ k ih =>
    rintro a c b ⟨h1, d, h2, h3⟩ hb hne
    have hd := wk_l h3
    have hbf : ∀ P : Prop, ¬ (bar = true ∧ P) := fun P q => by rw [hbar] at q; cases q.1
    by_cases z : d = b
    · subst z
      obtain ⟨b', g1, g2⟩ := ih h3 h1 (fun q => hne q.symm)
      exact ⟨b', g1, (d, a), jst_mk (Or.inr ⟨h2, hd⟩) (Or.inr ⟨adj_symm (opn_lt h1) (opn_lt hd) h2, h1⟩) (fun q => hne q.symm) (hbf _), g2⟩
    · obtain ⟨b', g1, g2⟩ := ih h3 hb z
      exact ⟨b', g1, (d, b), jst_mk (Or.inr ⟨h2, hd⟩) (Or.inl ⟨rfl, hb⟩) z (hbf _), g2⟩
theorem jw_free2 (hbar : bar = false) {c e : Nat} (hc : opn G c = true) (hec : e ≠ c) : ∀ {k x : Nat}, wk (opn G) k x e → (x ≠ c → jw G bar k (c, x) (c, e)) ∧ (x = c → ∀ p, opn G p = true → adj p c = true → jw G bar k (p, c) (c, e)) := by
  have hbf : ∀ P : Prop, ¬ (bar = true ∧ P) := fun P q => by rw [hbar] at q; cases q.1
  intro k
  induction k with
  | zero =>
    rintro x ⟨rfl, -⟩
    exact ⟨fun _ => rfl, fun q => absurd q hec⟩
  | succ k ih =>
    rintro x ⟨h1, d, h2, h3⟩
    have hd := wk_l h3
    obtain ⟨i1, i2⟩ := ih h3
    refine ⟨fun hx => ?_, fun hx p hp hpa => ?_⟩
    · by_cases z : d = c
      · subst z
        exact ⟨(x, d), jst_mk (Or.inr ⟨adj_symm (opn_lt h1) (opn_lt hd) h2, h1⟩) (Or.inr ⟨h2, hd⟩) hx (hbf _), i2 rfl x h1 h2⟩
      · exact ⟨(c, d), jst_mk (Or.inl ⟨rfl, hc⟩) (Or.inr ⟨h2, hd⟩) (fun q => z q.symm) (hbf _), i1 z⟩
    · subst hx
      have hdx : d ≠ x := fun q => adj_ne (opn_lt h1) h2 q.symm
      exact ⟨(x, d), jst_mk (Or.inr ⟨hpa, h1⟩) (Or.inr ⟨h2, hd⟩) (fun q => hdx q.symm) (hbf _), i1 hdx⟩
theorem jb_free (hbar : bar = false) {s t : jS} {N : Nat} (hs : jval 2 G s) (h : jw G bar N s t) : ∃ n, n ≤ 199 ∧ jw G bar n s t := by
  have ht := jw_val hs h
  obtain ⟨⟨k, hk⟩, l, hl⟩ := jw_wk hs h
  obtain ⟨k', hk', hk⟩ := wk_short op36 hk
  obtain ⟨b', g1, g2⟩ := jw_free hbar hk (hs.2.1 rfl).1 (hs.2.1 rfl).2
  have hv' := jw_val hs (t := (t.1, b')) g2
  obtain ⟨-, m, hm⟩ := jw_wk hs (t := (t.1, b')) g2
  have h2 := wk_trans (wk_symm op36 hm) hl
  obtain ⟨l', hl', h2⟩ := wk_short op36 h2
  have h3 := (jw_free2 hbar ht.1 (fun q => (ht.2.1 rfl).2 q.symm) h2).1 g1
  exact ⟨k' + l', by omega, jw_trans g2 h3⟩
-- no way from one to the other
theorem jb_apart {s t : jS} {N : Nat} (hs : jval 2 G s) (h : jw G bar N s t) (hno : ∀ k, ¬ wk (opn G) k s.1 s.2) : ∃ n, n ≤ 70 ∧ jw G bar n s t := by
  have ht := jw_val hs h
  obtain ⟨⟨k, hk⟩, l, hl⟩ := jw_wk hs h
  refine jw_two (a := s.1) (b := s.2) (c := t.1) (d := t.2) (hs.2.1 rfl).1 ht.1 (wk_T hk fun i c _ h1 _ => opb_iff.mpr ⟨wk_r h1, fun q => ?_⟩) (wk_T hl fun i c _ h1 _ => opb_iff.mpr ⟨wk_r h1, fun q => ?_⟩)
  · rw [q] at h1; exact hno _ h1
  · rw [q] at h1
    exact hno _ (wk_trans hk (wk_symm op36 h1))
end JB
