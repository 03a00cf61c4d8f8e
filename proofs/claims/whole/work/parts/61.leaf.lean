-- the class's leaves, as equations
def sp_S {V E : Type} (P : V → jp_I → jp_J → Prop) (Q : E → jp_I → jp_J → Prop) : Sum V E → jp_I → jp_J → Prop := fun r σ τ => match r with
  | .inl v => P v σ τ
  | .inr e => Q e σ τ
/-- a loop that counts from a up to N -/
theorem sp_for {E : Type} {step : Int32 × jp_I × jp_J → Option (Sum Int32 E × jp_I × jp_J)} {σ : jp_I} {τ : jp_J} {P : E → jp_I → jp_J → Prop} (S : Nat → jp_I → jp_J → Prop) (a N : Nat) (haN : a ≤ N) (hN : N < 2147483648) (h0 : S a σ τ)
    (hs : ∀ i σ τ, a ≤ i → i < N → S i σ τ → sp (step (nI i, σ, τ)) (sp_S (fun v σ' τ' => v = nI (i + 1) ∧ S (i + 1) σ' τ') P))
    (he : ∀ σ τ, S N σ τ → sp (step (nI N, σ, τ)) (sp_S (fun _ _ _ => False) P)) : sp (jp_loop step jp_F (nI a, σ, τ)) P := by
  refine sp_loopF (fun v σ τ m => ∃ i, v = nI i ∧ a ≤ i ∧ i ≤ N ∧ m = N - i ∧ S i σ τ) (N - a) ⟨a, rfl, Nat.le_refl _, haN, rfl, h0⟩ (by omega) ?_
  rintro v σ τ m ⟨i, rfl, hai, hiN, rfl, hS⟩
  by_cases h : i = N
  · subst h
    refine sp_mono (he σ τ hS) ?_
    intro r σ' τ' hr
    cases r with
    | inl v => exact hr.elim
    | inr e => exact hr
  · refine sp_mono (hs i σ τ hai (by omega) hS) ?_
    intro r σ' τ' hr
    cases r with
    | inl v => exact ⟨N - (i + 1), by omega, i + 1, hr.1, by omega, by omega, rfl, hr.2⟩
    | inr e => exact hr
theorem sp_seq {α β : Type} {x : Option (α × jp_I × jp_J)} {k : α × jp_I × jp_J → Option (β × jp_I × jp_J)} {a : α} {σ : jp_I} {τ : jp_J} {Q : β → jp_I → jp_J → Prop} (e : x = some (a, σ, τ)) (h : sp (k (a, σ, τ)) Q) : sp (x.bind k) Q := by rw [e]; exact h
def jp_row (σ : jp_I) (id : Nat) (f : Nat → Int32) : jp_I := fun i => if i = id then f else σ i
theorem jp_row_s (σ : jp_I) (id : Nat) (f : Nat → Int32) : jp_row σ id f id = f := by simp [jp_row]
theorem jp_row_n (σ : jp_I) {id i : Nat} (f : Nat → Int32) (h : i ≠ id) : jp_row σ id f i = σ i := by simp [jp_row, h]
theorem jp_row_self (σ : jp_I) (id : Nat) : jp_row σ id (σ id) = σ := by
  funext i
  by_cases h : i = id
  · subst h; rw [jp_row_s]
  · rw [jp_row_n _ _ h]
theorem jp_row_row (σ : jp_I) (id : Nat) (f g : Nat → Int32) : jp_row (jp_row σ id f) id g = jp_row σ id g := by
  funext i
  by_cases h : i = id
  · subst h; rw [jp_row_s, jp_row_s]
  · rw [jp_row_n _ _ h, jp_row_n _ _ h, jp_row_n _ _ h]
theorem jp_up_row (σ : jp_I) (id k : Nat) (v : Int32) : jp_up σ id k v = jp_row σ id (fun j => if j = k then v else σ id j) := by
  funext i
  by_cases h : i = id
  · subst h
    rw [jp_up_s, jp_row_s]
    funext j
    simp [upd]
  · rw [jp_up_n _ _ h, jp_row_n _ _ h]
theorem jp_up_eq (σ : jp_I) (id k : Nat) (v : Int32) : jp_up σ id k v id k = v := by rw [jp_up_s]; simp [upd]
theorem jp_up_ne (σ : jp_I) (id : Nat) {k j : Nat} (v : Int32) (h : j ≠ k) : jp_up σ id k v id j = σ id j := by rw [jp_up_s]; simp [upd, h]
theorem s_read (row : Nat) {N a : Nat} (σ : jp_I) (τ : jp_J) (hN : N < 2147483648) (ha : a < 2147483648) : fX7_read row N (nI a) σ τ = some (if a < N then σ row a else -1, σ, τ) := by
  unfold fX7_read
  rw [if_neg (ni_nn ha)]
  by_cases h : a < N
  · rw [if_neg (by rw [ni_le hN ha]; omega), if_pos (ni_ok ha h), if_pos h, ni_nat ha]
  · rw [if_pos (by rw [ni_le hN ha]; omega), if_neg h]
theorem s_readi (row : Nat) {N a : Nat} (σ : jp_I) (τ : jp_J) (hN : N < 2147483648) (h : a < N) : fX7_read row N (nI a) σ τ = some (σ row a, σ, τ) := by
  rw [s_read row σ τ hN (by omega), if_pos h]
theorem s_readn (row N : Nat) (σ : jp_I) (τ : jp_J) : fX7_read row N (-1) σ τ = some (-1, σ, τ) := by
  unfold fX7_read
  rw [if_pos (by decide)]
theorem s_write (row : Nat) {N a : Nat} (v : Int32) (σ : jp_I) (τ : jp_J) (hN : N < 2147483648) (h : a < N) : fX7_write row N (nI a) v σ τ = some (0, jp_up σ row a v, τ) := by
  unfold fX7_write
  have ha : a < 2147483648 := by omega
  rw [if_neg (ni_nn ha), if_neg (by rw [ni_le hN ha]; omega), if_pos (ni_ok ha h), ni_nat ha]
theorem s_writeo (row : Nat) {N a : Nat} (v : Int32) (σ : jp_I) (τ : jp_J) (hN : N < 2147483648) (ha : a < 2147483648) (h : N ≤ a) : fX7_write row N (nI a) v σ τ = some (0, σ, τ) := by
  unfold fX7_write
  rw [if_neg (ni_nn ha), if_pos (by rw [ni_le hN ha]; omega)]
theorem s_fill (row : Nat) {N : Nat} (v : Int32) (σ : jp_I) (τ : jp_J) (hN : N < 2147483648) : fJ7_fill_53178 row N v σ τ = some (0, jp_row σ row (fun j => if j < N then v else σ row j), τ) := by
  apply sp_some
  unfold fJ7_fill_53178
  refine sp_bind (P := fun e σ' τ' => e = .inl () ∧ σ' = jp_row σ row (fun j => if j < N then v else σ row j) ∧ τ' = τ) ?_ ?_
  · refine sp_for (fun i σ' τ' => σ' = jp_row σ row (fun j => if j < i then v else σ row j) ∧ τ' = τ) 0 N (Nat.zero_le _) hN ⟨?_, rfl⟩ ?_ ?_
    · simp only [Nat.not_lt_zero, if_false]
      exact (jp_row_self σ row).symm
    · rintro i σ' τ' - hi ⟨rfl, rfl⟩
      dsimp only
      unfold sJ7_fill_53178_5
      rw [if_neg (by rw [ni_le hN (by omega)]; omega), if_pos (ni_ok (by omega) hi)]
      refine sp_ret ⟨by rw [← ni_add]; rfl, ?_, rfl⟩
      rw [ni_nat (by omega), jp_up_row, jp_row_row, jp_row_s]
      congr 1
      funext j
      by_cases h1 : j = i
      · subst h1; simp
      · by_cases h2 : j < i
        · rw [if_neg h1, if_pos h2, if_pos (by omega)]
        · rw [if_neg h1, if_neg h2, if_neg (by omega)]
    · rintro σ' τ' ⟨rfl, rfl⟩
      dsimp only
      unfold sJ7_fill_53178_5
      rw [if_pos (by rw [ni_le hN hN]; omega)]
      exact sp_ret ⟨rfl, rfl, rfl⟩
  · rintro e σ' τ' ⟨rfl, rfl, rfl⟩
    exact sp_ret ⟨rfl, rfl, rfl⟩
-- grids: width, height, walls
abbrev gG : Type := Nat × Nat × (Nat → Bool)
def nb (c m : Nat) : Option Nat := if m = 0 then some c else if m = 1 then (if 6 ≤ c then some (c - 6) else none) else if m = 2 then (if c % 6 < 5 then some (c + 1) else none) else if m = 3 then (if c < 30 then some (c + 6) else none) else (if c % 6 = 0 then none else some (c - 1))
def inG (G : gG) (c : Nat) : Bool := decide (c < 36) && (decide (c % 6 < G.1) && decide (c / 6 < G.2.1))
def opn (G : gG) (c : Nat) : Bool := inG G c && !G.2.2 c
/-- the cell to which a move leads, if it is open -/
def mvc (G : gG) (c m : Nat) : Option Nat := (nb c m).filter (opn G)
/-- the same, from an open cell -/
def tgt (G : gG) (c m : Nat) : Option Nat := if opn G c then mvc G c m else none
def bI (b : Bool) : Int32 := if b then 1 else 0
def gOk (G : gG) : Prop := 1 ≤ G.1 ∧ G.1 ≤ 6 ∧ 1 ≤ G.2.1 ∧ G.2.1 ≤ 6
def scX (G : gG) (σ : jp_I) : Prop := gOk G ∧ σ 2 4 = nI G.1 ∧ σ 2 5 = nI G.2.1 ∧ ∀ c, c < 36 → σ 5 c = bI (G.2.2 c)
def chX (G : gG) (σ : jp_I) : Prop := ∀ c m, c < 36 → m < 5 → σ 6 (c * 5 + m) = enc (tgt G c m)
def scM (G : gG) (σ : jp_I) : Prop := gOk G ∧ σ 20 2 = nI G.1 ∧ σ 20 3 = nI G.2.1 ∧ ∀ c, c < 36 → σ 21 c = bI (G.2.2 c)
/-- the coordinates behind a move: those of a neighbour, or outside -/
def nbChk (c m : Nat) : Bool := match nb c m with
  | some d => decide (d < 36 ∧ (nI (c % 6) + jp_mx m = nI (d % 6)) ∧ (nI (c / 6) + jp_my m = nI (d / 6)))
  | none => decide ((nI (c % 6) + jp_mx m = -1 ∨ nI (c % 6) + jp_mx m = 6) ∨ nI (c / 6) + jp_my m = -1 ∨ nI (c / 6) + jp_my m = 6)
theorem nb_all : ∀ c : Fin 36, ∀ m : Fin 5, nbChk c.1 m.1 = true := by decide +kernel
theorem nb_some {c m d : Nat} (hc : c < 36) (hm : m < 5) (h : nb c m = some d) : d < 36 ∧ (nI (c % 6) + jp_mx m = nI (d % 6)) ∧ (nI (c / 6) + jp_my m = nI (d / 6)) := by
  have q := nb_all ⟨c, hc⟩ ⟨m, hm⟩
  unfold nbChk at q
  rw [h] at q
  exact of_decide_eq_true q
theorem nb_none {c m : Nat} (hc : c < 36) (hm : m < 5) (h : nb c m = none) : (nI (c % 6) + jp_mx m = -1 ∨ nI (c % 6) + jp_mx m = 6) ∨ nI (c / 6) + jp_my m = -1 ∨ nI (c / 6) + jp_my m = 6 := by
  have q := nb_all ⟨c, hc⟩ ⟨m, hm⟩
  unfold nbChk at q
  rw [h] at q
  exact of_decide_eq_true q
theorem s_cellAt {G : gG} {σ : jp_I} (τ : jp_J) (h : scX G σ) {x y : Int32} : fX0_cellAt x y σ τ = some (if (x < 0 ∨ nI G.1 ≤ x) ∨ (y < 0 ∨ nI G.2.1 ≤ y) then -1 else x + 6 * y, σ, τ) := by
  obtain ⟨hG, h4, h5, -⟩ := h
  unfold fX0_cellAt
  rw [h4, h5]
  by_cases a : x < 0
  · rw [if_pos a, if_pos (Or.inl (Or.inl a))]
  · rw [if_neg a]
    by_cases b : nI G.1 ≤ x
    · rw [if_pos b, if_pos (Or.inl (Or.inr b))]
    · rw [if_neg b]
      by_cases c : y < 0
      · rw [if_pos c, if_pos (Or.inr (Or.inl c))]
      · rw [if_neg c]
        by_cases d : nI G.2.1 ≤ y
        · rw [if_pos d, if_pos (Or.inr (Or.inr d))]
        · rw [if_neg d, if_neg (by rintro ((q | q) | (q | q)) <;> contradiction)]
theorem s_isWall {G : gG} {σ : jp_I} (τ : jp_J) (h : scX G σ) {c : Nat} (hc : c < 36) : fX0_isWall (nI c) σ τ = some (bI (G.2.2 c), σ, τ) := by
  unfold fX0_isWall
  rw [s_readi 5 σ τ (by decide) hc, h.2.2.2 c hc]
  show (if bI (G.2.2 c) = 1 then some ((1 : Int32), σ, τ) else some (0, σ, τ)) = _
  cases G.2.2 c <;> rfl
theorem ni_co {a : Nat} (h : a < 36) : nI a - nI a / 6 * 6 = nI (a % 6) ∧ nI a / 6 = nI (a / 6) := by
  rw [show (6 : Int32) = nI 6 from rfl]
  exact ⟨ni_mod (by omega) (by decide), ni_div (by omega) (by decide)⟩
theorem cellAt_in {G : gG} (hG : gOk G) {c : Nat} (hc : c < 36) : (if (nI (c % 6) < 0 ∨ nI G.1 ≤ nI (c % 6)) ∨ (nI (c / 6) < 0 ∨ nI G.2.1 ≤ nI (c / 6)) then (-1 : Int32) else nI (c % 6) + 6 * nI (c / 6)) = if inG G c then nI c else -1 := by
  obtain ⟨h1, h2, h3, h4⟩ := hG
  have e : nI (c % 6) + 6 * nI (c / 6) = nI c := by
    rw [show (6 : Int32) = nI 6 from rfl, ni_mul, ni_add]
    congr 1
    omega
  rw [e]
  by_cases q : inG G c = true
  · rw [if_pos q]
    simp only [inG, Bool.and_eq_true, decide_eq_true_eq] at q
    rw [if_neg]
    rintro ((a | a) | (a | a))
    · exact ni_nn (by omega) a
    · rw [ni_le (by omega) (by omega)] at a; omega
    · exact ni_nn (by omega) a
    · rw [ni_le (by omega) (by omega)] at a; omega
  · rw [if_neg q]
    simp only [inG, Bool.and_eq_true, decide_eq_true_eq] at q
    rw [if_pos]
    by_cases a : G.1 ≤ c % 6
    · exact Or.inl (Or.inr ((ni_le (by omega) (by omega)).mpr a))
    · exact Or.inr (Or.inr ((ni_le (by omega) (by omega)).mpr (by omega)))
theorem s_rd40 {m : Nat} (hm : m < 5) (σ : jp_I) (τ : jp_J) : fX7_read40 (nI m) σ τ = some (jp_mx m, σ, τ) := by
  unfold fX7_read40
  rw [if_neg (ni_nn (by omega)), if_neg (by rw [ni_le (by decide) (by omega)]; omega), if_pos (ni_ok (by omega) hm), ni_nat (by omega)]
theorem s_rd41 {m : Nat} (hm : m < 5) (σ : jp_I) (τ : jp_J) : fX7_read41 (nI m) σ τ = some (jp_my m, σ, τ) := by
  unfold fX7_read41
  rw [if_neg (ni_nn (by omega)), if_neg (by rw [ni_le (by decide) (by omega)]; omega), if_pos (ni_ok (by omega) hm), ni_nat (by omega)]
theorem cellAt_nb {G : gG} (hG : gOk G) {c m : Nat} (hc : c < 36) (hm : m < 5) : (if (nI (c % 6) + jp_mx m < 0 ∨ nI G.1 ≤ nI (c % 6) + jp_mx m) ∨ (nI (c / 6) + jp_my m < 0 ∨ nI G.2.1 ≤ nI (c / 6) + jp_my m) then (-1 : Int32) else nI (c % 6) + jp_mx m + 6 * (nI (c / 6) + jp_my m)) = enc ((nb c m).filter (inG G)) := by
  obtain ⟨h1, h2, h3, h4⟩ := id hG
  cases q : nb c m with
  | some d =>
    obtain ⟨hd, e1, e2⟩ := nb_some hc hm q
    rw [e1, e2, cellAt_in hG hd]
    cases e : inG G d <;> simp [Option.filter, e, enc]
  | none =>
    rw [if_pos]
    · rfl
    · rcases nb_none hc hm q with (e | e) | e | e
      · exact Or.inl (Or.inl (by rw [e]; decide))
      · exact Or.inl (Or.inr (by rw [e, show (6 : Int32) = nI 6 from rfl, ni_le (by omega) (by decide)]; exact h2))
      · exact Or.inr (Or.inl (by rw [e]; decide))
      · exact Or.inr (Or.inr (by rw [e, show (6 : Int32) = nI 6 from rfl, ni_le (by omega) (by decide)]; exact h4))
theorem inG_lt {G : gG} {c : Nat} (h : inG G c = true) : c < 36 := by
  simp only [inG, Bool.and_eq_true, decide_eq_true_eq] at h
  exact h.1
theorem opn_lt {G : gG} {c : Nat} (h : opn G c = true) : c < 36 := by
  simp only [opn, Bool.and_eq_true] at h
  exact inG_lt h.1
theorem mvc_opn {G : gG} {c m d : Nat} (h : mvc G c m = some d) : opn G d = true := by
  unfold mvc at h
  cases q : nb c m with
  | none => rw [q] at h; cases h
  | some x =>
    rw [q] at h
    simp only [Option.filter] at h
    split at h
    · cases h; assumption
    · cases h
theorem enc_none {o : Option Nat} (h : ∀ d, o = some d → d < 36) : enc o = -1 ↔ o = none := by
  cases o with
  | none => simp [enc]
  | some d => simp [enc, ni_neg (show d < 2147483648 by have := h d rfl; omega)]
theorem s_target {G : gG} {σ : jp_I} (τ : jp_J) (h : scX G σ) {c m : Nat} (hc : c < 36) (hm : m < 5) : fX0_target (nI c) (nI m) σ τ = some (enc (tgt G c m), σ, τ) := by
  have hG := h.1
  unfold fX0_target
  rw [s_rd40 hm, Option.bind_some]
  dsimp only
  rw [s_rd41 hm, Option.bind_some]
  dsimp only
  rw [(ni_co hc).1, (ni_co hc).2, s_cellAt τ h, cellAt_nb hG hc hm, Option.bind_some]
  dsimp only
  rw [s_cellAt τ h, cellAt_in hG hc, Option.bind_some]
  dsimp only
  by_cases q : inG G c = true
  · rw [if_pos q, if_neg (ni_neg (by omega)), s_isWall τ h hc, Option.bind_some]
    dsimp only
    by_cases w : G.2.2 c = true
    · have ho : opn G c = false := by simp [opn, w]
      rw [w, if_neg (by decide)]
      unfold bX0_target_59 bX0_target_60
      rw [if_pos rfl]
      simp [tgt, ho, enc]
    · have w : G.2.2 c = false := by simpa using w
      have ho : opn G c = true := by simp [opn, w, q]
      rw [w, if_pos (by decide)]
      unfold bX0_target_60
      rw [if_neg (by decide)]
      unfold tgt
      rw [if_pos ho]
      unfold mvc
      cases e : nb c m with
      | none => simp [enc]
      | some d =>
        have hd := (nb_some hc hm e).1
        by_cases i : inG G d = true
        · have e1 : Option.filter (inG G) (some d) = some d := by simp [Option.filter, i]
          rw [e1]
          show (if nI d = -1 then _ else _) = _
          rw [if_neg (ni_neg (by omega))]
          show ((fX0_isWall (nI d) σ τ).bind _) = _
          rw [s_isWall τ h hd, Option.bind_some]
          dsimp only
          cases w2 : G.2.2 d with
          | true => simp [bI, Option.filter, opn, w2, enc]
          | false => simp [bI, Option.filter, opn, w2, enc, i]
        · have e1 : Option.filter (inG G) (some d) = none := by simp [Option.filter, i]
          have e2 : Option.filter (opn G) (some d) = none := by simp [Option.filter, opn, i]
          rw [e1, e2]
          show (if (-1 : Int32) = -1 then _ else _) = _
          rw [if_pos rfl]
          rfl
  · rw [if_neg q, if_pos rfl]
    have ho : opn G c = false := by simp [opn, q]
    unfold bX0_target_59 bX0_target_60
    rw [if_pos rfl]
    simp [tgt, ho, enc]
