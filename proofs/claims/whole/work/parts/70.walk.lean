-- walks over cells
def adj (c d : Nat) : Bool := (nb c 1 == some d) || (nb c 2 == some d) || (nb c 3 == some d) || (nb c 4 == some d)
theorem adj_sy : ∀ c d : Fin 36, adj c.1 d.1 = adj d.1 c.1 := by decide +kernel
theorem adj_ir : ∀ c : Fin 36, adj c.1 c.1 = false := by decide +kernel
theorem adj_symm {c d : Nat} (hc : c < 36) (hd : d < 36) (h : adj c d = true) : adj d c = true := by
  rw [← adj_sy ⟨c, hc⟩ ⟨d, hd⟩]; exact h
theorem adj_ne {c d : Nat} (hc : c < 36) (h : adj c d = true) : c ≠ d := by
  rintro rfl
  rw [adj_ir ⟨c, hc⟩] at h
  cases h
theorem adj_lt {c d : Nat} (hc : c < 36) (h : adj c d = true) : d < 36 := by
  simp only [adj, Bool.or_eq_true, beq_iff_eq] at h
  rcases h with ((h | h) | h) | h
  · exact (nb_some hc (by decide) h).1
  · exact (nb_some hc (by decide) h).1
  · exact (nb_some hc (by decide) h).1
  · exact (nb_some hc (by decide) h).1
theorem adj_iff {c d : Nat} : adj c d = true ↔ ∃ m, 1 ≤ m ∧ m < 5 ∧ nb c m = some d := by
  simp only [adj, Bool.or_eq_true, beq_iff_eq]
  constructor
  · rintro (((h | h) | h) | h)
    · exact ⟨1, by decide, by decide, h⟩
    · exact ⟨2, by decide, by decide, h⟩
    · exact ⟨3, by decide, by decide, h⟩
    · exact ⟨4, by decide, by decide, h⟩
  · rintro ⟨m, h1, h2, h⟩
    rcases (show m = 1 ∨ m = 2 ∨ m = 3 ∨ m = 4 by omega) with rfl | rfl | rfl | rfl
    · exact Or.inl (Or.inl (Or.inl h))
    · exact Or.inl (Or.inl (Or.inr h))
    · exact Or.inl (Or.inr h)
    · exact Or.inr h
/-- a walk of k steps over cells of S -/
def wk (S : Nat → Bool) : Nat → Nat → Nat → Prop
  | 0, a, b => a = b ∧ S a = true
  | k + 1, a, b => S a = true ∧ ∃ d, adj a d = true ∧ wk S k d b
theorem wk_l {S : Nat → Bool} : ∀ {k a b : Nat}, wk S k a b → S a = true
  | 0, _, _, h => h.2
  | _ + 1, _, _, h => h.1
theorem wk_r {S : Nat → Bool} : ∀ {k a b : Nat}, wk S k a b → S b = true
  | 0, _, _, h => h.1 ▸ h.2
  | _ + 1, _, _, h => wk_r h.2.choose_spec.2
theorem wk_snoc {S : Nat → Bool} : ∀ {k a b c : Nat}, wk S k a b → adj b c = true → S c = true → wk S (k + 1) a c
  | 0, a, b, c, h, h1, h2 => by
    obtain ⟨rfl, h⟩ := h
    exact ⟨h, c, h1, rfl, h2⟩
  | k + 1, a, b, c, h, h1, h2 => by
    obtain ⟨h, d, h3, h4⟩ := h
    exact ⟨h, d, h3, wk_snoc h4 h1 h2⟩
theorem wk_trans {S : Nat → Bool} : ∀ {k l a b c : Nat}, wk S k a b → wk S l b c → wk S (k + l) a c
  | 0, l, a, b, c, h, h1 => by
    obtain ⟨rfl, -⟩ := h
    rw [Nat.zero_add]; exact h1
  | k + 1, l, a, b, c, h, h1 => by
    obtain ⟨h, d, h3, h4⟩ := h
    rw [show k + 1 + l = (k + l) + 1 by omega]
    exact ⟨h, d, h3, wk_trans h4 h1⟩
theorem wk_symm {S : Nat → Bool} (hS : ∀ c, S c = true → c < 36) : ∀ {k a b : Nat}, wk S k a b → wk S k b a
  | 0, a, b, h => ⟨h.1.symm, h.1 ▸ h.2⟩
  | k + 1, a, b, h => by
    obtain ⟨h, d, h3, h4⟩ := h
    exact wk_snoc (wk_symm hS h4) (adj_symm (hS a h) (hS d (wk_l h4)) h3) h
theorem wc_mono {f g : Nat → Bool} (h : ∀ c, f c = true → g c = true) : ∀ n, wc f n ≤ wc g n
  | 0 => Nat.le_refl _
  | n + 1 => by
    have ih := wc_mono h n
    unfold wc
    cases hf : f n
    · simp; omega
    · rw [h n hf]; simp; omega
theorem wc_lt {f g : Nat → Bool} (h : ∀ c, f c = true → g c = true) {c : Nat} (h1 : f c = false) (h2 : g c = true) : ∀ n, c < n → wc f n + 1 ≤ wc g n
  | 0, hc => absurd hc (Nat.not_lt_zero _)
  | n + 1, hc => by
    unfold wc
    by_cases z : c = n
    · subst z
      rw [h1, h2]
      have := wc_mono h c
      simp; omega
    · have ih := wc_lt h h1 h2 n (by omega)
      cases hf : f n
      · simp; omega
      · rw [h n hf]; simp; omega
theorem wc_full {f : Nat → Bool} {c n : Nat} (hc : c < n) (h : f c = false) : wc f n < n := by
  have h1 := wc_lt (f := f) (g := fun _ => true) (fun _ _ => rfl) h rfl n hc
  have h2 := wc_le (fun _ => true) n
  omega
/-- cells within k steps -/
noncomputable def wi (S : Nat → Bool) (a k : Nat) (c : Nat) : Bool := @decide (∃ j, j ≤ k ∧ wk S j a c) (Classical.propDecidable _)
theorem wi_iff {S : Nat → Bool} {a k c : Nat} : wi S a k c = true ↔ ∃ j, j ≤ k ∧ wk S j a c := by
  unfold wi
  exact @decide_eq_true_iff _ (Classical.propDecidable _)
theorem wk_short {S : Nat → Bool} (hS : ∀ c, S c = true → c < 36) {k a b : Nat} (h : wk S k a b) : ∃ j, j ≤ 35 ∧ wk S j a b := by
  have mono : ∀ n c, wi S a n c = true → wi S a (n + 1) c = true := fun n c h => by
    rw [wi_iff] at h ⊢
    obtain ⟨j, h1, h2⟩ := h
    exact ⟨j, by omega, h2⟩
  -- somewhere nothing new comes
  have hst : ∃ n, n ≤ 35 ∧ ∀ c, wi S a (n + 1) c = true → wi S a n c = true := by
    refine Classical.byContradiction fun hno => ?_
    have grow : ∀ n, n ≤ 36 → n + 1 ≤ wc (wi S a n) 36 := by
      intro n
      induction n with
      | zero =>
        intro _
        have h0 : wi S a 0 a = true := wi_iff.mpr ⟨0, Nat.le_refl _, rfl, wk_l h⟩
        have h1 := wc_lt (f := fun _ => false) (g := wi S a 0) (fun _ q => by cases q) rfl h0 36 (hS a (wk_l h))
        omega
      | succ n ih =>
        intro hn
        have ih := ih (by omega)
        have : ∃ c, wi S a (n + 1) c = true ∧ ¬ wi S a n c = true := Classical.byContradiction fun q => hno ⟨n, by omega, fun c hc => Classical.byContradiction fun z => q ⟨c, hc, z⟩⟩
        obtain ⟨c, h1, h2⟩ := this
        have hc : c < 36 := by
          rw [wi_iff] at h1
          obtain ⟨j, -, h1⟩ := h1
          exact hS c (wk_r h1)
        have := wc_lt (mono n) (by simpa using h2) h1 36 hc
        omega
    have h1 := grow 36 (Nat.le_refl _)
    have h2 := wc_le (wi S a 36) 36
    omega
  obtain ⟨n, hn, hst⟩ := hst
  have all : ∀ i c, wk S i a c → wi S a n c = true := by
    intro i
    induction i with
    | zero => intro c h; exact wi_iff.mpr ⟨0, Nat.zero_le _, h⟩
    | succ i ih =>
      intro c h
      -- the last step
      have last : ∀ {i a c : Nat}, wk S (i + 1) a c → ∃ d, wk S i a d ∧ adj d c = true := by
        intro i
        induction i with
        | zero =>
          rintro a c ⟨h, d, h1, rfl, h2⟩
          exact ⟨a, ⟨rfl, h⟩, h1⟩
        | succ i ih2 =>
          rintro a c ⟨h, d, h1, h2⟩
          obtain ⟨e, h3, h4⟩ := ih2 h2
          exact ⟨e, ⟨h, d, h1, h3⟩, h4⟩
      obtain ⟨d, h1, h2⟩ := last h
      have h3 := wi_iff.mp (ih d h1)
      obtain ⟨j, h4, h5⟩ := h3
      exact hst c (wi_iff.mpr ⟨j + 1, by omega, wk_snoc h5 h2 (wk_r h)⟩)
  obtain ⟨j, h1, h2⟩ := wi_iff.mp (all k b h)
  exact ⟨j, by omega, h2⟩
/-- the fewest steps -/
def isD (S : Nat → Bool) (a b : Nat) (o : Option Nat) : Prop := (∀ k, o = some k → k < 36 ∧ wk S k a b ∧ ∀ j, wk S j a b → k ≤ j) ∧ (o = none → ∀ j, ¬ wk S j a b)
theorem isD_uniq {S : Nat → Bool} {a b : Nat} {o o' : Option Nat} (h : isD S a b o) (h' : isD S a b o') : o = o' := by
  cases o with
  | none =>
    cases o' with
    | none => rfl
    | some k => exact absurd (h'.1 k rfl).2.1 (h.2 rfl k)
  | some k =>
    cases o' with
    | none => exact absurd (h.1 k rfl).2.1 (h'.2 rfl k)
    | some k' =>
      have h1 := (h.1 k rfl).2.2 k' (h'.1 k' rfl).2.1
      have h2 := (h'.1 k' rfl).2.2 k (h.1 k rfl).2.1
      rw [show k = k' by omega]
theorem isD_symm {S : Nat → Bool} (hS : ∀ c, S c = true → c < 36) {a b : Nat} {o : Option Nat} (h : isD S a b o) : isD S b a o :=
  ⟨fun k q => ⟨(h.1 k q).1, wk_symm hS (h.1 k q).2.1, fun j hj => (h.1 k q).2.2 j (wk_symm hS hj)⟩, fun q j hj => h.2 q j (wk_symm hS hj)⟩
