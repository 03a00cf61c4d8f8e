-- solve by priorities, the start, the whole
theorem RX_pl2 {R nc : Nat} {G : gG} {st en : Nat → Option Nat} {bar : Bool} {sd sd' : Int64} {pl pl' : plT} {σ σ' : jp_I} {τ τ' : jp_J} (h : RX R nc G st en bar sd pl σ τ) (hf : ∀ i, i < 7 → σ' i = σ i) (h13 : R ≤ 2 → σ' 13 1 = nI R) (h14 : 3 ≤ R → σ' 14 0 = nI R) (ht : τ' 9 1 = sd') (hp : plX R nc pl' σ') : RX R nc G st en bar sd' pl' σ' τ' := by
  obtain ⟨x0, x1, x2, x3, x4, x5, x6, x7, x8, x9, x10, x11⟩ := h
  exact ⟨by rw [hf 0 (by decide)]; exact x0, by rw [hf 1 (by decide)]; exact x1, scX_congr x2 (hf 2 (by decide)) (hf 5 (by decide)), chX_congr x3 (hf 6 (by decide)), by rw [hf 2 (by decide)]; exact x4, fun r hr => by rw [hf 3 (by decide)]; exact x5 r hr, fun r hr => by rw [hf 4 (by decide)]; exact x6 r hr, by rw [hf 1 (by decide)]; exact x7, ht, hp, h13, h14⟩
theorem sol_P {R nc : Nat} (hR : 3 ≤ R ∧ R ≤ 4) (hnc : nc = 41 * R) {p1 : Int32} (q0 : ¬ p1 < 0) (q5 : p1 ≤ 5) : solG R nc (fX4_make R nc p1) (fX8_byPriorities p1) := by
  intro G st en bar sd pl σ τ hA hX hc
  obtain ⟨P, hP1, rfl⟩ := i_nat q0
  have hP : P ≤ 5 := by
    rw [show (5 : Int32) = nI 5 from rfl] at q5
    exact (ni_le hP1 (by decide)).mp q5
  obtain ⟨a1, a2, a3, a4, a5, a6, a7, a8, a9⟩ := hA
  obtain ⟨a, ha, rfl⟩ := sd_n64 a7 a8
  have hs : ∀ r, r < R → st r = some ((st r).getD 0) := fun r hr => by
    obtain ⟨s, e, h1, -⟩ := hc r hr
    rw [h1]
    rfl
  have he : ∀ r, r < R → en r = some ((en r).getD 0) := fun r hr => by
    obtain ⟨s, e, -, h1⟩ := hc r hr
    rw [h1]
    rfl
  have hT : ptT R G (fun r => (st r).getD 0) (fun r => (en r).getD 0) := ⟨fun r hr => ⟨a3 r _ hr (hs r hr), a4 r _ hr (he r hr)⟩, fun r q hr hq z => a5 r q _ hr hq (hs r hr) (by rw [hs q hq]; exact congrArg some z.symm), fun r q hr hq z => a6 r q _ hr hq (he r hr) (by rw [he q hq]; exact congrArg some z.symm)⟩
  have hR4 : 1 ≤ R ∧ R ≤ 4 := ⟨by omega, hR.2⟩
  have hX0 := RX_drop hX
  obtain ⟨x0, x1, x2, x3, x4, x5, x6, x7, x8, x9, x10, x11⟩ := id hX0
  have hC : txC R G bar (fun r => (st r).getD 0) (fun r => (en r).getD 0) (jp_up (jp_up σ 11 3 (-1)) 11 2 0) := ⟨x11 hR.1, x3, x7, x1, fun r hr => by rw [x5 r hr, hs r hr]; rfl, fun r hr => by rw [x6 r hr, he r hr]; rfl⟩
  refine ⟨bst R G bar (fun r => (st r).getD 0) (fun r => (en r).getD 0) a P, n64 (sdq R a P), bst_ok hT hR4 P, (n64_sd (sdq_lt ha P)).1, (n64_sd (sdq_lt ha P)).2, ?_, ?_⟩
  · refine sp_mono (s_makeP hT hR4 hnc hC x9 ha x8 hP) ?_
    rintro _ σ' τ' ⟨f1, f2, f3, f4, f5⟩
    refine ⟨fun i hi => by rw [f1 i (by omega) (by omega) (by omega) (by omega) (by omega) (by omega) (by omega), jp_up_n _ _ (by omega), jp_up_n _ _ (by omega)], f3 20 (by decide), RX_pl2 hX0 (fun i hi => f1 i (by omega) (by omega) (by omega) (by omega) (by omega) (by omega) (by omega)) (fun q => absurd q (by omega)) (fun q => by rw [f2]; exact x11 q) f4 f5, ?_⟩
    cases hb : bst R G bar (fun r => (st r).getD 0) (fun r => (en r).getD 0) a P with
    | none => exact f5.2.1 hb
    | some w =>
      obtain ⟨c, t, f⟩ := w
      exact (f5.2.2 c t f hb).1
  · intro σ1 τ1 hM
    exact m_byP hT hR hs he hM ha hP
theorem op_solveP {R nc L j : Nat} {xs : Nat → Int32} (hL : L ≤ 2049) (hj : j + 4 ≤ L) (hR : 3 ≤ R ∧ R ≤ 4) (hnc : nc = 41 * R) {σ : jp_I} {τ : jp_J} (h : Iv R nc σ τ) : spc (fC_solveP R nc L xs (nI j) σ τ) (Iv R nc) := op_solveP' hL hj hR.1 (fun q0 q5 => sol_P hR hnc q0 q5) h
-- the start
theorem spc_bind2 {x : Option (jp_I × jp_J)} {k : jp_I × jp_J → Option (jp_I × jp_J)} {P Q : jp_I → jp_J → Prop} (h : spc x P) (hk : ∀ σ τ, P σ τ → spc (k (σ, τ)) Q) : spc (x.bind k) Q := by
  obtain ⟨σ, τ, rfl, hp⟩ := h
  exact hk σ τ hp
theorem spc_mono {x : Option (jp_I × jp_J)} {P Q : jp_I → jp_J → Prop} (h : spc x P) (hk : ∀ σ τ, P σ τ → Q σ τ) : spc x Q := by
  obtain ⟨σ, τ, e, hp⟩ := h
  exact ⟨σ, τ, e, hk σ τ hp⟩
theorem jz_n {σ : jp_I} {id i : Nat} (h : i ≠ id) : jp_z σ id i = σ i := by simp [jp_z, h]
theorem jzl_n {τ : jp_J} {id i : Nat} (h : i ≠ id) : jp_zl τ id i = τ i := by simp [jp_zl, h]
theorem jlen_ni {a M : Nat} (h : a < 2147483648) (hM : a ≤ M) : jp_len (nI a) a M = true := by
  simp only [jp_len, Bool.and_eq_true, Bool.not_eq_true', decide_eq_false_iff_not, decide_eq_true_eq]
  exact ⟨ni_nn h, ni_nat h, hM⟩
/-- how many robots -/
theorem clamp (p1 : Int32) : ∃ R, R ≤ 4 ∧ (if 0 < (if p1 < 4 then p1 else 4 : Int32) then (if p1 < 4 then p1 else 4 : Int32) else 0 : Int32) = nI R ∧ (0 ≤ p1 → p1 ≤ 4 → p1 = nI R) ∧ (0 ≤ p1 → ¬ p1 ≤ 4 → R = 4) ∧ (¬ 0 ≤ p1 → R = 0) := by
  by_cases h : p1 < 0
  · have h1 : ¬ 0 ≤ p1 := by rw [Int32.not_le]; exact h
    have h4 : p1 < 4 := by
      rw [Int32.lt_iff_toInt_lt] at h ⊢
      rw [show (0 : Int32).toInt = 0 from by decide] at h
      rw [show (4 : Int32).toInt = 4 from by decide]
      omega
    refine ⟨0, by decide, ?_, fun q => absurd q h1, fun q => absurd q h1, fun _ => rfl⟩
    rw [if_pos h4, if_neg]
    · rfl
    · rw [Int32.not_lt]
      rw [Int32.le_iff_toInt_le]
      rw [Int32.lt_iff_toInt_lt] at h
      omega
  · obtain ⟨a, ha, rfl⟩ := i_nat h
    have h0 : (0 : Int32) ≤ nI a := ni_ge0 ha
    by_cases h4 : a < 4
    · refine ⟨a, by omega, ?_, fun _ _ => rfl, fun _ q => absurd ((ni_le ha (by decide)).mpr (show a ≤ 4 by omega)) q, fun q => absurd h0 q⟩
      rw [if_pos (show nI a < 4 from (ni_lt ha (by decide)).mpr h4)]
      by_cases z : a = 0
      · subst z; rfl
      · rw [if_pos (show (0 : Int32) < nI a from (ni_lt (a := 0) (by decide) ha).mpr (by omega))]
    · refine ⟨4, by decide, ?_, fun _ q => ?_, fun _ _ => rfl, fun q => absurd h0 q⟩
      · rw [if_neg (show ¬ nI a < 4 from fun q => h4 ((ni_lt ha (by decide)).mp q))]
        rfl
      · have := (ni_le ha (show 4 < 2147483648 by decide)).mp q
        rw [show a = 4 by omega]
def g11 : gG := (1, 1, fun _ => false)
theorem s_init5 {R : Nat} (hR : R ≤ 4) (σ : jp_I) (τ : jp_J) : spc (fX5_init R (nI R) σ τ) (fun σ' τ' => σ' 1 4 = 1 ∧ σ' 1 0 = nI R ∧ σ' 0 = σ 0) := by
  unfold fX5_init fX0_init
  rw [Option.bind_some]
  dsimp only
  refine spc_ok (jlen_ni (by omega) hR) (spc_ok (jlen_ni (by omega) hR) ?_)
  refine spc_ret ⟨?_, ?_, ?_⟩
  · rw [jz_n (by decide), jz_n (by decide), jp_up_ne _ _ _ (by decide), jp_up_eq]
  · rw [jz_n (by decide), jz_n (by decide), jp_up_eq]
  · rw [jz_n (by decide), jz_n (by decide), jp_up_n _ _ (by decide), jp_up_n _ _ (by decide), jz_n (by decide), jz_n (by decide), jz_n (by decide), jz_n (by decide), jz_n (by decide)]
/-- what holds after the class's start -/
def PI (R : Nat) (σ : jp_I) (τ : jp_J) : Prop := σ 0 0 = nI R ∧ σ 1 0 = nI R ∧ scX g11 σ ∧ chX g11 σ ∧ σ 2 6 = 0 ∧ (∀ r, r < R → σ 3 r = -1) ∧ (∀ r, r < R → σ 4 r = -1) ∧ σ 1 4 = 1 ∧ τ 9 1 = 1
theorem PI_f {R : Nat} {σ σ' : jp_I} {τ τ' : jp_J} (h : PI R σ τ) (hf : ∀ i, i < 9 → σ' i = σ i) (ht : τ' 9 = τ 9) : PI R σ' τ' := by
  obtain ⟨a1, a2, a3, a4, a5, a6, a7, a8, a9⟩ := h
  exact ⟨by rw [hf 0 (by decide)]; exact a1, by rw [hf 1 (by decide)]; exact a2, scX_congr a3 (hf 2 (by decide)) (hf 5 (by decide)), chX_congr a4 (hf 6 (by decide)), by rw [hf 2 (by decide)]; exact a5, fun r hr => by rw [hf 3 (by decide)]; exact a6 r hr, fun r hr => by rw [hf 4 (by decide)]; exact a7 r hr, by rw [hf 1 (by decide)]; exact a8, by rw [ht]; exact a9⟩
theorem PI_RX {R nc : Nat} {σ : jp_I} {τ : jp_J} (h : PI R σ τ) (h11 : σ 11 0 = nI R) (h3 : σ 11 3 = -1) (h13 : R ≤ 2 → σ 13 1 = nI R) (h14 : 3 ≤ R → σ 14 0 = nI R) : RX R nc g11 (fun _ => none) (fun _ => none) true 1 none σ τ := by
  obtain ⟨a1, a2, a3, a4, a5, a6, a7, a8, a9⟩ := h
  exact ⟨a1, a2, a3, a4, by rw [a5]; show _ = nI (wc (fun _ => false) 36); rw [wc_none]; rfl, a6, a7, a8, a9, ⟨h11, fun _ => h3, fun c t f q => by cases q⟩, h13, h14⟩
theorem s_init56 {R : Nat} (hR : R ≤ 4) {p1 : Int32} (hp : (if 0 < (if p1 < 4 then p1 else 4 : Int32) then (if p1 < 4 then p1 else 4 : Int32) else 0 : Int32) = nI R) {k : jp_I × jp_J → Option (jp_I × jp_J)} {Q : jp_I → jp_J → Prop} (σ : jp_I) (τ : jp_J) (hk : ∀ σ' τ', PI R σ' τ' → spc (k (σ', τ')) Q) :
    spc ((fX5_init R ((jp_z (jp_up σ 0 0 (if 0 < (if p1 < 4 then p1 else 4 : Int32) then (if p1 < 4 then p1 else 4 : Int32) else 0 : Int32)) 1) 0 0) (jp_z (jp_up σ 0 0 (if 0 < (if p1 < 4 then p1 else 4 : Int32) then (if p1 < 4 then p1 else 4 : Int32) else 0 : Int32)) 1) (jp_zl τ 1)).bind fun (σ_5, τ_5) => (fX5_renew R 1 1 σ_5 τ_5).bind fun (_, σ_6, τ_6) => (fX6_init R ((jp_z σ_6 9) 0 0) (jp_z σ_6 9) (jp_zl τ_6 9)).bind k) Q := by
  rw [hp]
  have h00 : (jp_z (jp_up σ 0 0 (nI R)) 1) 0 0 = nI R := by rw [jz_n (by decide), jp_up_eq]
  rw [h00]
  refine spc_bind2 (s_init5 hR _ _) ?_
  rintro σ0 τ0 ⟨i6, i7, i8⟩
  dsimp only
  refine spc_bind (s_renew (w := 1) (h := 1) hR (by decide) (by decide) _ _) ?_
  rintro _ σ1 τ1 ⟨rfl, f1, f2, f3, f4, f5, f9⟩
  dsimp only
  have f9' := f9 1 (by decide) (by decide) (by decide) (by decide) (by decide)
  have f6 : σ1 1 4 = 1 := by rw [f9']; exact i6
  have f7 : σ1 1 0 = nI R := by rw [f9']; exact i7
  have f8 := (f9 0 (by decide) (by decide) (by decide) (by decide) (by decide)).trans i8
  have h0 : (jp_z σ1 9) 0 0 = nI R := by rw [jz_n (by decide), f8]; exact h00
  rw [h0]
  unfold fX6_init
  rw [if_pos (jlen_ni (by omega) hR), Option.bind_some]
  have g : ∀ i, i < 9 → (jp_z (jp_z σ1 9) 10) i = σ1 i := fun i hi => by rw [jz_n (by omega), jz_n (by omega)]
  refine hk _ _ ⟨by rw [g 0 (by decide), f8]; exact h00, by rw [g 1 (by decide)]; exact f7, scX_congr f1 (g 2 (by decide)) (g 5 (by decide)), chX_congr f2 (g 6 (by decide)), by rw [g 2 (by decide)]; exact f3, fun r hr => by rw [g 3 (by decide)]; exact f4 r hr, fun r hr => by rw [g 4 (by decide)]; exact f5 r hr, by rw [g 1 (by decide)]; exact f6, by rw [jp_upl_eq]⟩
def jsR (R : Nat) : Nat := if R = 0 then 1 else if R = 1 then 36 else 1296
theorem jsR_c {R : Nat} (hR : R ≤ 2) : 1 ≤ jsR R ∧ jsR R ≤ 1296 := by
  rcases (show R = 0 ∨ R = 1 ∨ R = 2 by omega) with rfl | rfl | rfl <;> decide
theorem s_jst {R : Nat} (hR : R ≤ 2) (σ : jp_I) (τ : jp_J) : fX7_jointStates (nI R) σ τ = some (nI (jsR R), σ, τ) := by
  rcases (show R = 0 ∨ R = 1 ∨ R = 2 by omega) with rfl | rfl | rfl <;> rfl
theorem s_mst {R : Nat} (hR : R ≤ 4) (σ : jp_I) (τ : jp_J) : fX7_mostSteps (nI R) σ τ = some (nI (if 3 ≤ R then 40 else jsR R - 1), σ, τ) := by
  rcases (show R = 0 ∨ R = 1 ∨ R = 2 ∨ R = 3 ∨ R = 4 by omega) with rfl | rfl | rfl | rfl | rfl <;> rfl
theorem s_init2 {R nc ms : Nat} (hR : R ≤ 4) (h : nc = R * (ms + 1)) (hn : nc ≤ 2592) (hms : ms < 10000) (σ : jp_I) (τ : jp_J) : fX2_init nc (nI R) (nI ms) σ τ = some (jp_z (jp_up (jp_up σ 11 3 (-1)) 11 0 (nI R)) 12, τ) := by
  unfold fX2_init
  rw [show nI ms + 1 = nI (ms + 1) from ni_add ms 1, ni_mul, ← h, if_pos (jlen_ni (by omega) hn)]
theorem s_init2T {R nc ms : Nat} (hR : R ≤ 4) (h : nc = R * (ms + 1)) (hn : nc ≤ 2592) (hms : ms < 10000) (σ : jp_I) (τ : jp_J) : fX2_initT nc (nI R) (nI ms) σ τ = some (jp_z (jp_up (jp_up σ 14 3 (-1)) 14 0 (nI R)) 15, τ) := by
  unfold fX2_initT
  rw [show nI ms + 1 = nI (ms + 1) from ni_add ms 1, ni_mul, ← h, if_pos (jlen_ni (by omega) hn)]
theorem s_initJ {R : Nat} (hR : R ≤ 2) {p1 : Int32} (hp : (if 0 < (if p1 < 4 then p1 else 4 : Int32) then (if p1 < 4 then p1 else 4 : Int32) else 0 : Int32) = nI R) (σ : jp_I) (τ : jp_J) : spc (fX7_initJ R (jsR R) (R * jsR R) p1 σ τ) (RX R (R * jsR R) g11 (fun _ => none) (fun _ => none) true 1 none) := by
  unfold fX7_initJ
  refine s_init56 (by omega) hp σ τ ?_
  intro σ1 τ1 hI
  dsimp only
  have hjs := jsR_c hR
  have hm : R * jsR R ≤ 2592 := by
    have := Nat.mul_le_mul hR hjs.2
    omega
  rw [if_neg (by rw [hI.1]; exact fun q => by have := (ni_lt (show 2 < 2147483648 by decide) (show R < 2147483648 by omega)).mp q; omega)]
  unfold fX1_init
  have h10 : (jp_z σ1 13) 1 0 = nI R := by rw [jz_n (by decide)]; exact hI.2.1
  rw [h10, jp_up_eq, s_jst hR, Option.bind_some]
  dsimp only
  rw [if_pos (jlen_ni (by omega) hjs.2), jz_n (show 13 ≠ 14 by decide), jp_up_eq, s_jst hR, Option.bind_some]
  dsimp only
  rw [if_pos (jlen_ni (by omega) hjs.2), Option.bind_some]
  dsimp only
  have e0 : (jp_z (jp_z (jp_z (jp_up (jp_z σ1 13) 13 1 (nI R)) 14) 15) 11) 0 0 = nI R := by rw [jz_n (by decide), jz_n (by decide), jz_n (by decide), jp_up_n _ _ (by decide), jz_n (by decide)]; exact hI.1
  rw [e0, s_mst (by omega), Option.bind_some]
  dsimp only
  rw [if_neg (show ¬ 3 ≤ R by omega), s_init2 (by omega) (by rw [show jsR R - 1 + 1 = jsR R by omega]) hm (by omega), Option.bind_some]
  dsimp only
  refine spc_ret (PI_RX (PI_f hI (fun i hi => ?_) ?_) ?_ ?_ (fun _ => ?_) (fun q => absurd q (by omega)))
  · rw [jz_n (by omega), jp_up_n _ _ (by omega), jp_up_n _ _ (by omega), jz_n (by omega), jz_n (by omega), jz_n (by omega), jp_up_n _ _ (by omega), jz_n (by omega)]
  · rw [jzl_n (by decide), jzl_n (by decide)]
  · rw [jz_n (by decide), jp_up_eq]
  · rw [jz_n (by decide), jp_up_ne _ _ _ (by decide), jp_up_eq]
  · rw [jz_n (by decide), jp_up_n _ _ (by decide), jp_up_n _ _ (by decide), jz_n (by decide), jz_n (by decide), jz_n (by decide), jp_up_eq]
theorem s_initP {R : Nat} (hR : 3 ≤ R ∧ R ≤ 4) {p1 : Int32} (hp : (if 0 < (if p1 < 4 then p1 else 4 : Int32) then (if p1 < 4 then p1 else 4 : Int32) else 0 : Int32) = nI R) (σ : jp_I) (τ : jp_J) : spc (fX7_initP R (41 * R) p1 σ τ) (RX R (41 * R) g11 (fun _ => none) (fun _ => none) true 1 none) := by
  unfold fX7_initP
  refine s_init56 (by omega) hp σ τ ?_
  intro σ1 τ1 hI
  dsimp only
  rw [if_pos (by rw [hI.1]; exact (ni_lt (show 2 < 2147483648 by decide) (show R < 2147483648 by omega)).mpr (by omega))]
  unfold fX4_init
  have h10 : (jp_z (jp_z (jp_z (jp_z σ1 13) 16) 17) 14) 1 0 = nI R := by rw [jz_n (by decide), jz_n (by decide), jz_n (by decide), jz_n (by decide)]; exact hI.2.1
  rw [h10, s_mst (by omega), Option.bind_some]
  dsimp only
  rw [if_pos hR.1, s_init2T (R := R) (ms := 40) (by omega) (by omega) (by omega) (by decide), Option.bind_some, Option.bind_some]
  dsimp only
  have e0 : (jp_z (jp_z (jp_up (jp_up (jp_z (jp_z (jp_z (jp_z σ1 13) 16) 17) 14) 14 3 (-1)) 14 0 (nI R)) 15) 11) 0 0 = nI R := by rw [jz_n (by decide), jz_n (by decide), jp_up_n _ _ (by decide), jp_up_n _ _ (by decide), jz_n (by decide), jz_n (by decide), jz_n (by decide), jz_n (by decide)]; exact hI.1
  rw [e0, s_mst (by omega), Option.bind_some]
  dsimp only
  rw [if_pos hR.1, s_init2 (R := R) (ms := 40) (by omega) (by omega) (by omega) (by decide), Option.bind_some]
  dsimp only
  refine spc_ret (PI_RX (PI_f hI (fun i hi => ?_) ?_) ?_ ?_ (fun q => absurd q (by omega)) (fun _ => ?_))
  · rw [jz_n (by omega), jp_up_n _ _ (by omega), jp_up_n _ _ (by omega), jz_n (by omega), jz_n (by omega), jp_up_n _ _ (by omega), jp_up_n _ _ (by omega), jz_n (by omega), jz_n (by omega), jz_n (by omega), jz_n (by omega)]
  · rw [jzl_n (by decide), jzl_n (by decide), jzl_n (by decide)]
  · rw [jz_n (by decide), jp_up_eq]
  · rw [jz_n (by decide), jp_up_ne _ _ _ (by decide), jp_up_eq]
  · rw [jz_n (by decide), jp_up_n _ _ (by decide), jp_up_n _ _ (by decide), jz_n (by decide), jz_n (by decide), jp_up_eq]
theorem m_init {R : Nat} (hR : R ≤ 4) {p1 : Int32} (c1 : 0 ≤ p1 → p1 ≤ 4 → p1 = nI R) (c2 : 0 ≤ p1 → ¬ p1 ≤ 4 → R = 4) (c3 : ¬ 0 ≤ p1 → R = 0) (σ : jp_I) (τ : jp_J) : spc (fX8_init p1 σ τ) (fun σ' τ' => (∀ i, i < 20 → σ' i = σ i) ∧ τ' 9 = τ 9 ∧ RM R g11 (fun _ => none) (fun _ => none) true 1 none σ' τ') := by
  have fin : ∀ (v : Int32) (Y : jp_I), v = nI R → (∀ i, i < 20 → Y i = σ i) → Y 20 7 = 1 → spc ((fX8_fresh 1 1 (jp_up Y 20 1 v) (jp_upl τ 20 8 1)).bind fun (a_37, σ_37, τ_37) => some (σ_37, τ_37)) (fun σ' τ' => (∀ i, i < 20 → σ' i = σ i) ∧ τ' 9 = τ 9 ∧ RM R g11 (fun _ => none) (fun _ => none) true 1 none σ' τ') := by
    intro v Y hv hY h7
    refine spc_bind (m_fresh (w := 1) (h := 1) _ _) ?_
    rintro _ σ' τ' ⟨rfl, f1, f2, f3, f4, f5, f6, f7, f8⟩
    dsimp only
    refine spc_ret ⟨fun i hi => by rw [f8 i (by omega) (by omega) (by omega) (by omega), jp_up_n _ _ (by omega)]; exact hY i hi, jp_upl_n _ _ (by decide), by rw [f4 1 (by decide) (by decide) (by decide), jp_up_eq]; exact hv, ⟨⟨by decide, by decide, by decide, by decide⟩, f1, f2, fun c hc => f5 c hc⟩, fun r hr => f6 r (by omega), fun r hr => f7 r (by omega), by rw [f4 7 (by decide) (by decide) (by decide), jp_up_ne _ _ _ (by decide)]; exact h7, by rw [jp_upl_eq], fun _ => f3, fun c t f q => by cases q⟩
  unfold fX8_init
  have hY : ∀ i, i < 20 → (jp_z (jp_z (jp_z (jp_z (jp_up (jp_up (jp_up (jp_up (jp_up (jp_z (jp_z (jp_z (jp_up (jp_up (jp_up σ 20 0 0) 20 2 1) 20 3 1) 21) 22) 23) 20 7 1) 20 9 0) 20 10 0) 20 11 (-1)) 20 12 0) 24) 25) 26) 27) i = σ i := fun i hi => by
    rw [jz_n (by omega), jz_n (by omega), jz_n (by omega), jz_n (by omega), jp_up_n _ _ (by omega), jp_up_n _ _ (by omega), jp_up_n _ _ (by omega), jp_up_n _ _ (by omega), jp_up_n _ _ (by omega), jz_n (by omega), jz_n (by omega), jz_n (by omega), jp_up_n _ _ (by omega), jp_up_n _ _ (by omega), jp_up_n _ _ (by omega)]
  have h7 : (jp_z (jp_z (jp_z (jp_z (jp_up (jp_up (jp_up (jp_up (jp_up (jp_z (jp_z (jp_z (jp_up (jp_up (jp_up σ 20 0 0) 20 2 1) 20 3 1) 21) 22) 23) 20 7 1) 20 9 0) 20 10 0) 20 11 (-1)) 20 12 0) 24) 25) 26) 27) 20 7 = 1 := by
    rw [jz_n (by decide), jz_n (by decide), jz_n (by decide), jz_n (by decide), jp_up_ne _ _ _ (by decide), jp_up_ne _ _ _ (by decide), jp_up_ne _ _ _ (by decide), jp_up_ne _ _ _ (by decide), jp_up_eq]
  refine spc_if (fun z => ?_) (fun z => ?_)
  · refine spc_if (fun w => ?_) (fun w => ?_)
    · exact fin _ _ (c1 z w) hY h7
    · exact fin _ _ (by rw [c2 z w]; rfl) hY h7
  · exact fin _ _ (by rw [c3 z]; rfl) hY h7
theorem AO_0 {R nc : Nat} (hR : R ≤ 4) (hnc : nc < 100000) : AO R nc g11 (fun _ => none) (fun _ => none) 1 none := ⟨hR, hnc, fun r c _ q => (by cases q), fun r c _ q => (by cases q), fun r s c _ _ q => (by cases q), fun r s c _ _ q => (by cases q), by decide, by decide, plOk_none R⟩
theorem rd_J {R nc nl L j : Nat} {xs : Nat → Int32} (hL : L ≤ 2049) (hj : j + 4 ≤ L) (hR : R ≤ 2) (hn : jNL R nl nc) {σ : jp_I} {τ : jp_J} (h : Iv R nc σ τ) : spc (fRoundJ R nc nl L xs (nI j) σ τ) (Iv R nc) := by
  unfold fRoundJ
  refine spc_ok (ni_ok (by omega) (by omega)) ?_
  refine spc_if (fun _ => op_grid hL hj h) (fun _ => spc_if (fun _ => op_wall hL hj h) (fun _ => spc_if (fun _ => op_start hL hj h) (fun _ => spc_if (fun _ => op_end hL hj h) (fun _ => ?_))))
  refine spc_if (fun _ => op_swap hL hj h) (fun _ => spc_if (fun _ => op_seed hL hj h) (fun _ => spc_if (fun _ => op_solveJ hL hj hR hn h) (fun _ => spc_if (fun _ => op_exact hL hj h) (fun _ => ?_))))
  refine spc_if (fun _ => op_at hL hj h) (fun _ => spc_if (fun _ => op_last hL hj h) (fun _ => spc_if (fun _ => op_alone hL hj h) (fun _ => spc_if (fun _ => op_bound hL hj h) (fun _ => ?_))))
  exact spc_if (fun _ => op_share hL hj h) (fun _ => spc_if (fun _ => op_count hL hj h) (fun _ => spc_ret h))
theorem rd_P {R nc L j : Nat} {xs : Nat → Int32} (hL : L ≤ 2049) (hj : j + 4 ≤ L) (hR : 3 ≤ R ∧ R ≤ 4) (hnc : nc = 41 * R) {σ : jp_I} {τ : jp_J} (h : Iv R nc σ τ) : spc (fRoundP R nc L xs (nI j) σ τ) (Iv R nc) := by
  unfold fRoundP
  refine spc_ok (ni_ok (by omega) (by omega)) ?_
  refine spc_if (fun _ => op_grid hL hj h) (fun _ => spc_if (fun _ => op_wall hL hj h) (fun _ => spc_if (fun _ => op_start hL hj h) (fun _ => spc_if (fun _ => op_end hL hj h) (fun _ => ?_))))
  refine spc_if (fun _ => op_swap hL hj h) (fun _ => spc_if (fun _ => op_seed hL hj h) (fun _ => spc_if (fun _ => op_solveP hL hj hR hnc h) (fun _ => spc_if (fun _ => op_exact hL hj h) (fun _ => ?_))))
  refine spc_if (fun _ => op_at hL hj h) (fun _ => spc_if (fun _ => op_last hL hj h) (fun _ => spc_if (fun _ => op_alone hL hj h) (fun _ => spc_if (fun _ => op_bound hL hj h) (fun _ => ?_))))
  exact spc_if (fun _ => op_share hL hj h) (fun _ => spc_if (fun _ => op_count hL hj h) (fun _ => spc_ret h))
