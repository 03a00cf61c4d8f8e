-- the floor: its chart, its walls
theorem scX_congr {G : gG} {σ σ' : jp_I} (h : scX G σ) (h2 : σ' 2 = σ 2) (h5 : σ' 5 = σ 5) : scX G σ' := by
  obtain ⟨a, b, c, d⟩ := h
  exact ⟨a, by rw [h2]; exact b, by rw [h2]; exact c, fun k hk => by rw [h5]; exact d k hk⟩
def chF (G : gG) (f : Nat → Int32) : Nat → Int32 := fun k => if k < 180 then enc (tgt G (k / 5) (k % 5)) else f k
theorem s_chart {G : gG} {σ : jp_I} (τ : jp_J) (h : scX G σ) : fX0_chart σ τ = some (0, jp_row σ 6 (chF G (σ 6)), τ) := by
  apply sp_some
  unfold fX0_chart
  have hsc : ∀ f, scX G (jp_row σ 6 f) := fun f => scX_congr h (jp_row_n _ _ (by decide)) (jp_row_n _ _ (by decide))
  refine sp_bind (P := fun e σ' τ' => e = .inl () ∧ σ' = jp_row σ 6 (chF G (σ 6)) ∧ τ' = τ) ?_ ?_
  · refine sp_for (fun c σ' τ' => σ' = jp_row σ 6 (fun k => if k < 5 * c then enc (tgt G (k / 5) (k % 5)) else σ 6 k) ∧ τ' = τ) 0 36 (by decide) (by decide) ⟨?_, rfl⟩ ?_ ?_
    · simp only [Nat.mul_zero, Nat.not_lt_zero, if_false]
      exact (jp_row_self σ 6).symm
    · rintro c σ' τ' - hc ⟨rfl, rfl⟩
      dsimp only
      unfold sX0_chart_2
      rw [show (36 : Int32) = nI 36 from rfl, if_neg (by rw [ni_le (by decide) (by omega)]; omega)]
      refine sp_bind (P := fun e σ' τ'' => e = .inl () ∧ σ' = jp_row σ 6 (fun k => if k < 5 * (c + 1) then enc (tgt G (k / 5) (k % 5)) else σ 6 k) ∧ τ'' = τ') ?_ ?_
      · refine sp_for (fun m σ' τ'' => σ' = jp_row σ 6 (fun k => if k < 5 * c + m then enc (tgt G (k / 5) (k % 5)) else σ 6 k) ∧ τ'' = τ') 0 5 (by decide) (by decide) ⟨rfl, rfl⟩ ?_ ?_
        · rintro m σ' τ'' - hm ⟨rfl, rfl⟩
          dsimp only
          unfold sX0_chart_10
          rw [show (5 : Int32) = nI 5 from rfl, if_neg (by rw [ni_le (by decide) (by omega)]; omega), s_target τ'' (hsc _) hc hm, Option.bind_some]
          dsimp only
          rw [ni_mul, ni_add, s_write 6 _ _ _ (by decide) (show c * 5 + m < 180 by omega), Option.bind_some]
          dsimp only
          refine sp_ret ⟨by rw [← ni_add]; rfl, ?_, rfl⟩
          rw [jp_up_row, jp_row_row, jp_row_s]
          congr 1
          funext j
          by_cases h1 : j = c * 5 + m
          · subst h1
            rw [if_pos rfl, if_pos (by omega), show (c * 5 + m) / 5 = c by omega, show (c * 5 + m) % 5 = m by omega]
          · rw [if_neg h1]
            by_cases h2 : j < 5 * c + m
            · rw [if_pos h2, if_pos (by omega)]
            · rw [if_neg h2, if_neg (by omega)]
        · rintro σ' τ'' ⟨rfl, rfl⟩
          dsimp only
          unfold sX0_chart_10
          rw [if_pos (by decide)]
          exact sp_ret ⟨rfl, rfl, rfl⟩
      · rintro e σ' τ'' ⟨rfl, rfl, rfl⟩
        exact sp_ret ⟨by rw [← ni_add]; rfl, rfl, rfl⟩
    · rintro σ' τ' ⟨rfl, rfl⟩
      dsimp only
      unfold sX0_chart_2
      rw [if_pos (by decide)]
      exact sp_ret ⟨rfl, rfl, rfl⟩
  · rintro e σ' τ' ⟨rfl, rfl, rfl⟩
    exact sp_ret ⟨rfl, rfl, rfl⟩
theorem chX_row {G : gG} {σ : jp_I} (f : Nat → Int32) : chX G (jp_row σ 6 (chF G f)) := by
  intro c m hc hm
  rw [jp_row_s]
  unfold chF
  rw [if_pos (by omega), show (c * 5 + m) / 5 = c by omega, show (c * 5 + m) % 5 = m by omega]
theorem chX_congr {G : gG} {σ σ' : jp_I} (h : chX G σ) (h6 : σ' 6 = σ 6) : chX G σ' := fun c m hc hm => by rw [h6]; exact h c m hc hm
theorem s_moved {G : gG} {σ : jp_I} (τ : jp_J) (h : chX G σ) {c m : Nat} (hc : c < 36) (hm : m < 5) : fX0_moved (nI c) (nI m) σ τ = some (enc (tgt G c m), σ, τ) := by
  unfold fX0_moved
  rw [if_neg (ni_neg (by omega)), show (5 : Int32) = nI 5 from rfl, ni_mul, ni_add, s_readi 6 σ τ (by decide) (show c * 5 + m < 180 by omega), Option.bind_some, h c m hc hm]
theorem s_movedn (m : Int32) (σ : jp_I) (τ : jp_J) : fX0_moved (-1) m σ τ = some (-1, σ, τ) := by
  unfold fX0_moved
  rw [if_pos rfl]
/-- the floor cleared -/
theorem s_clear {w h : Nat} (hw : 1 ≤ w ∧ w ≤ 6) (hh : 1 ≤ h ∧ h ≤ 6) (σ : jp_I) (τ : jp_J) : sp (fX0_clear (nI w) (nI h) σ τ) (fun r σ' τ' => τ' = τ ∧ scX (w, h, fun _ => false) σ' ∧ chX (w, h, fun _ => false) σ' ∧ σ' 2 6 = 0 ∧ ∀ i, i ≠ 2 → i ≠ 5 → i ≠ 6 → σ' i = σ i) := by
  unfold fX0_clear
  rw [s_fill 5 _ _ _ (by decide), Option.bind_some]
  dsimp only
  have hsc : scX (w, h, fun _ => false) (jp_row (jp_up (jp_up (jp_up σ 2 4 (nI w)) 2 5 (nI h)) 2 6 0) 5 (fun j => if j < 36 then 0 else (jp_up (jp_up (jp_up σ 2 4 (nI w)) 2 5 (nI h)) 2 6 0) 5 j)) := by
    refine ⟨⟨hw.1, hw.2, hh.1, hh.2⟩, ?_, ?_, fun c hc => ?_⟩
    · rw [jp_row_n _ _ (by decide), jp_up_ne _ _ _ (by decide), jp_up_ne _ _ _ (by decide), jp_up_eq]
    · rw [jp_row_n _ _ (by decide), jp_up_ne _ _ _ (by decide), jp_up_eq]
    · rw [jp_row_s, if_pos hc]; rfl
  rw [s_chart τ hsc, Option.bind_some]
  dsimp only
  refine sp_ret ⟨rfl, scX_congr hsc (jp_row_n _ _ (by decide)) (jp_row_n _ _ (by decide)), chX_row _, ?_, ?_⟩
  · rw [jp_row_n _ _ (by decide), jp_row_n _ _ (by decide), jp_up_eq]
  · intro i h2 h5 h6
    rw [jp_row_n _ _ h6, jp_row_n _ _ h5, jp_up_n _ _ h2, jp_up_n _ _ h2, jp_up_n _ _ h2]
theorem bI_isb (b : Bool) : jp_isb (bI b) = true := by cases b <;> rfl
theorem bI_inj {a b : Bool} : bI a = bI b ↔ a = b := by cases a <;> cases b <;> decide
def gSet (G : gG) (c : Nat) (b : Bool) : gG := (G.1, G.2.1, fun d => if d = c then b else G.2.2 d)
/-- a wall put up or taken away -/
theorem s_build {G : gG} {σ : jp_I} (τ : jp_J) (h : scX G σ) (hch : chX G σ) {c : Nat} (hc : c < 36) (b : Bool) : sp (fX0_build (nI c) (bI b) σ τ) (fun r σ' τ' => r = bI (G.2.2 c) ∧ τ' = τ ∧ scX (gSet G c b) σ' ∧ chX (gSet G c b) σ' ∧ σ' 2 6 = (if G.2.2 c = b then σ 2 6 else if b then σ 2 6 + 1 else σ 2 6 + -1) ∧ ∀ i, i ≠ 2 → i ≠ 5 → i ≠ 6 → σ' i = σ i) := by
  unfold fX0_build
  rw [s_isWall τ h hc, Option.bind_some]
  dsimp only
  by_cases e : G.2.2 c = b
  · rw [if_pos (by rw [e]), if_pos (bI_isb _)]
    have hg : gSet G c b = G := by
      unfold gSet
      have : (fun d => if d = c then b else G.2.2 d) = G.2.2 := by
        funext d
        by_cases q : d = c
        · rw [if_pos q, q, e]
        · rw [if_neg q]
      rw [this]
    exact sp_ret ⟨rfl, rfl, by rw [hg]; exact h, by rw [hg]; exact hch, by rw [if_pos e], fun i _ _ _ => rfl⟩
  · rw [if_neg (by rw [bI_inj]; exact e)]
    have fin : ∀ (k : Int32) (v : Int32), v = bI b → sp (bX0_build_42 (bI (G.2.2 c)) ((jp_up σ 5 c v) 2 6) k (jp_up σ 5 c v) τ) (fun r σ' τ' => r = bI (G.2.2 c) ∧ τ' = τ ∧ scX (gSet G c b) σ' ∧ chX (gSet G c b) σ' ∧ σ' 2 6 = σ 2 6 + k ∧ ∀ i, i ≠ 2 → i ≠ 5 → i ≠ 6 → σ' i = σ i) := by
      intro k v hv
      unfold bX0_build_42
      have hsc : scX (gSet G c b) (jp_up (jp_up σ 5 c v) 2 6 ((jp_up σ 5 c v) 2 6 + k)) := by
        obtain ⟨a1, a2, a3, a4⟩ := h
        refine ⟨a1, ?_, ?_, fun d hd => ?_⟩
        · rw [jp_up_ne _ _ _ (by decide), jp_up_n _ _ (by decide)]; exact a2
        · rw [jp_up_ne _ _ _ (by decide), jp_up_n _ _ (by decide)]; exact a3
        · rw [jp_up_n _ _ (by decide)]
          show _ = bI (if d = c then b else G.2.2 d)
          by_cases q : d = c
          · subst q
            rw [jp_up_eq, if_pos rfl, hv]
          · rw [jp_up_ne _ _ _ q, if_neg q]; exact a4 d hd
      rw [s_chart τ hsc, Option.bind_some]
      dsimp only
      rw [if_pos (bI_isb _)]
      refine sp_ret ⟨rfl, rfl, scX_congr hsc (jp_row_n _ _ (by decide)) (jp_row_n _ _ (by decide)), chX_row _, ?_, ?_⟩
      · rw [jp_row_n _ _ (by decide), jp_up_eq, jp_up_n _ _ (by decide)]
      · intro i h2 h5 h6
        rw [jp_row_n _ _ h6, jp_up_n _ _ h2, jp_up_n _ _ h5]
    cases b with
    | false =>
      rw [if_pos (show bI false = 0 from rfl)]
      unfold bX0_build_25
      rw [s_write 5 _ _ _ (by decide) hc, Option.bind_some]
      dsimp only
      rw [if_pos (show bI false = 0 from rfl)]
      refine sp_mono (fin (-1) 0 rfl) ?_
      rintro r σ' τ' ⟨a1, a2, a3, a4, a5, a6⟩
      exact ⟨a1, a2, a3, a4, by rw [if_neg e]; exact a5, a6⟩
    | true =>
      rw [if_neg (by decide)]
      unfold bX0_build_25
      rw [s_write 5 _ _ _ (by decide) hc, Option.bind_some]
      dsimp only
      rw [if_neg (by decide)]
      refine sp_mono (fin 1 1 rfl) ?_
      rintro r σ' τ' ⟨a1, a2, a3, a4, a5, a6⟩
      exact ⟨a1, a2, a3, a4, by rw [if_neg e]; exact a5, a6⟩
