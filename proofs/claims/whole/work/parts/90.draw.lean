-- the drawn orders
def n64 (a : Nat) : Int64 := Int64.ofNat a
theorem n6_add (a b : Nat) : n64 a + n64 b = n64 (a + b) := (Int64.ofNat_add a b).symm
theorem n6_mul (a b : Nat) : n64 a * n64 b = n64 (a * b) := (Int64.ofNat_mul a b).symm
theorem n6_toInt {a : Nat} (h : a < 9223372036854775808) : (n64 a).toInt = (a : Int) := by
  unfold n64
  rw [Int64.toInt_ofNat_of_lt h]
theorem n6_sub {a b : Nat} (h : b ≤ a) : n64 a - n64 b = n64 (a - b) := by
  have h1 : n64 a = n64 (a - b) + n64 b := by rw [n6_add, Nat.sub_add_cancel h]
  rw [h1, Int64.add_sub_cancel]
theorem n6_div {a b : Nat} (ha : a < 9223372036854775808) (hb : b < 9223372036854775808) : n64 a / n64 b = n64 (a / b) := by
  apply Int64.toInt_inj.mp
  rw [Int64.toInt_div, n6_toInt ha, n6_toInt hb, n6_toInt (Nat.lt_of_le_of_lt (Nat.div_le_self a b) ha), Int.tdiv_eq_ediv_of_nonneg (by omega)]
  have h1 : ((a : Int) / (b : Int)) = ((a / b : Nat) : Int) := by omega
  have h2 := Nat.div_le_self a b
  rw [h1]
  generalize a / b = k at h2
  rw [Int.bmod_eq_of_le (by omega) (by omega)]
theorem n6_mod {a b : Nat} (ha : a < 9223372036854775808) (hb : b < 9223372036854775808) : n64 a - n64 a / n64 b * n64 b = n64 (a % b) := by
  rw [n6_div ha hb, n6_mul, n6_sub (Nat.div_mul_le_self a b)]
  congr 1
  have := Nat.div_add_mod a b
  rw [Nat.mul_comm] at this
  omega
def lcgN (a : Nat) : Nat := (a * 1103515245 + 12345) % 2147483648
theorem lcgN_lt (a : Nat) : lcgN a < 2147483648 := Nat.mod_lt _ (by decide)
theorem lcgE {a : Nat} (h : a < 2147483648) : ((n64 a) * 1103515245 + 12345) - ((n64 a) * 1103515245 + 12345) / 2147483648 * 2147483648 = n64 (lcgN a) := by
  rw [show (1103515245 : Int64) = n64 1103515245 from rfl, show (12345 : Int64) = n64 12345 from rfl, show (2147483648 : Int64) = n64 2147483648 from rfl, n6_mul, n6_add, n6_mod (by omega) (by decide)]
  rfl
theorem n6_of32 {x : Nat} (h : x < 2147483648) : (nI x).toInt64 = n64 x := by
  apply Int64.toInt_inj.mp
  rw [Int32.toInt_toInt64, ni_toInt h, n6_toInt (by omega)]
theorem n6_to32 {x : Nat} (h : x < 2147483648) : (n64 x).toInt32 = nI x := by
  apply Int32.toInt_inj.mp
  rw [Int64.toInt_toInt32, n6_toInt (by omega), ni_toInt h]
  rw [Int.bmod_eq_of_le (by omega) (by omega)]
def jdN (b i : Nat) : Nat := b / 65536 % (i + 1)
theorem jdE {b i : Nat} (hb : b < 2147483648) (hi : i < 1000) : (n64 b / 65536 - n64 b / 65536 / (nI i + 1).toInt64 * (nI i + 1).toInt64).toInt32 = nI (jdN b i) := by
  rw [show (1 : Int32) = nI 1 from rfl, ni_add, n6_of32 (by omega), show (65536 : Int64) = n64 65536 from rfl, n6_div (by omega) (by decide), n6_mod (by omega) (by omega)]
  have h1 : b / 65536 % (i + 1) < i + 1 := Nat.mod_lt _ (by omega)
  rw [n6_to32 (by omega)]
  rfl
theorem jdN_le (b i : Nat) : jdN b i ≤ i := by
  have h1 : b / 65536 % (i + 1) < i + 1 := Nat.mod_lt _ (by omega)
  unfold jdN
  omega
theorem jdZ {i : Nat} (hi : i < 1000) : ¬ (nI i + 1).toInt64 = 0 := by
  rw [show (1 : Int32) = nI 1 from rfl, ni_add, n6_of32 (by omega)]
  intro q
  have := congrArg Int64.toInt q
  rw [n6_toInt (by omega), show (0 : Int64).toInt = 0 from by decide] at this
  omega
theorem sd_n64 {sd : Int64} (h0 : 0 ≤ sd) (h1 : sd < 2147483648) : ∃ a, a < 2147483648 ∧ sd = n64 a := by
  rw [Int64.le_iff_toInt_le] at h0
  rw [Int64.lt_iff_toInt_lt] at h1
  rw [show (0 : Int64).toInt = 0 from by decide] at h0
  rw [show (2147483648 : Int64).toInt = 2147483648 from by decide] at h1
  refine ⟨sd.toInt.toNat, by omega, ?_⟩
  apply Int64.toInt_inj.mp
  rw [n6_toInt (by omega)]
  omega
theorem n64_sd {a : Nat} (h : a < 2147483648) : 0 ≤ n64 a ∧ n64 a < 2147483648 := by
  rw [Int64.le_iff_toInt_le, Int64.lt_iff_toInt_lt, n6_toInt (by omega), show (0 : Int64).toInt = 0 from by decide, show (2147483648 : Int64).toInt = 2147483648 from by decide]
  omega
def tr (i j k : Nat) : Nat := if k = j then i else if k = i then j else k
theorem tr_tr (i j k : Nat) : tr i j (tr i j k) = k := by
  unfold tr
  by_cases a : k = j
  · rw [if_pos a]
    by_cases b : i = j
    · rw [if_pos b]; omega
    · rw [if_neg b, if_pos rfl]; exact a.symm
  · rw [if_neg a]
    by_cases b : k = i
    · rw [if_pos b, if_pos rfl]; exact b.symm
    · rw [if_neg b, if_neg a, if_neg b]
theorem tr_lt {R i j k : Nat} (hi : i < R) (hj : j < R) (hk : k < R) : tr i j k < R := by
  unfold tr
  split
  · exact hi
  · split
    · exact hj
    · exact hk
def swp (o : Nat → Nat) (i j : Nat) : Nat → Nat := fun k => o (tr i j k)
theorem ptR_swp {R i j : Nat} {o : Nat → Nat} (h : ptR R o) (hi : i < R) (hj : j < R) : ptR R (swp o i j) := by
  refine ⟨fun k hk => h.1 _ (tr_lt hi hj hk), fun k l hk hl q => ?_, fun r hr => ?_⟩
  · have := h.2.1 _ _ (tr_lt hi hj hk) (tr_lt hi hj hl) q
    rw [← tr_tr i j k, this, tr_tr]
  · obtain ⟨k, hk, e⟩ := h.2.2 r hr
    exact ⟨tr i j k, tr_lt hi hj hk, by show o (tr i j (tr i j k)) = r; rw [tr_tr]; exact e⟩
theorem ptR_id (R : Nat) : ptR R (fun k => k) := ⟨fun k h => h, fun k l _ _ h => h, fun r h => ⟨r, h, rfl⟩⟩
/-- after d of the draw's steps: the seed and the order -/
def dw (a : Nat) : Nat → Nat × (Nat → Nat)
  | 0 => (a, fun k => k)
  | d + 1 => (lcgN (dw a d).1, swp (dw a d).2 (d + 1) (jdN (lcgN (dw a d).1) (d + 1)))
theorem dw_lt {a : Nat} (h : a < 2147483648) : ∀ d, (dw a d).1 < 2147483648
  | 0 => h
  | d + 1 => lcgN_lt _
theorem dw_ptR {a R : Nat} : ∀ d, d < R → ptR R (dw a d).2
  | 0, _ => ptR_id R
  | d + 1, h => ptR_swp (dw_ptR d (by omega)) h (by have := jdN_le (lcgN (dw a d).1) (d + 1); omega)
def sdq (R a : Nat) : Nat → Nat
  | 0 => a
  | p + 1 => (dw (sdq R a p) (R - 1)).1
theorem sdq_lt {R a : Nat} (h : a < 2147483648) : ∀ p, sdq R a p < 2147483648
  | 0 => h
  | p + 1 => dw_lt (sdq_lt h p) _
def ord (R a : Nat) : Nat → Nat → Nat
  | 0 => fun k => k
  | p + 1 => (dw (sdq R a p) (R - 1)).2
theorem ord_ptR {R a : Nat} (hR : 1 ≤ R) : ∀ p, ptR R (ord R a p)
  | 0 => ptR_id R
  | p + 1 => dw_ptR _ (by omega)
def bst (R : Nat) (G : gG) (bar : Bool) (s e : Nat → Nat) (a : Nat) : Nat → plT
  | 0 => ptry R G bar s e (fun k => k)
  | p + 1 => pbet (bst R G bar s e a p) (ptry R G bar s e (ord R a (p + 1)))
-- the class's order
theorem s_reset {R : Nat} (hR : R ≤ 4) (σ : jp_I) (τ : jp_J) : sp (fX6_reset R σ τ) (fun _ σ' τ' => τ' = τ ∧ (∀ i, i ≠ 10 → σ' i = σ i) ∧ ∀ k, k < R → σ' 10 k = nI k) := by
  unfold fX6_reset
  refine sp_bind (P := fun e σ' τ' => e = .inl () ∧ τ' = τ ∧ (∀ i, i ≠ 10 → σ' i = σ i) ∧ ∀ k, k < R → σ' 10 k = nI k) ?_ ?_
  · refine sp_for (fun x σ' τ' => τ' = τ ∧ (∀ i, i ≠ 10 → σ' i = σ i) ∧ ∀ k, k < x → σ' 10 k = nI k) 0 R (Nat.zero_le _) (by omega) ⟨rfl, fun _ _ => rfl, fun k h => absurd h (Nat.not_lt_zero _)⟩ ?_ ?_
    · rintro x σ1 τ1 - hx ⟨rfl, f1, f2⟩
      dsimp only
      unfold sX6_reset_2
      rw [if_neg (by rw [ni_le (by omega) (by omega)]; omega), if_pos (ni_ok (by omega) hx), ni_nat (by omega)]
      refine sp_ret ⟨by rw [← ni_add]; rfl, rfl, fun i hi => by rw [jp_up_n _ _ hi]; exact f1 i hi, fun k hk => ?_⟩
      by_cases q : k = x
      · subst q; rw [jp_up_eq]
      · rw [jp_up_ne _ _ _ q]; exact f2 k (by omega)
    · rintro σ1 τ1 ⟨rfl, f1, f2⟩
      dsimp only
      unfold sX6_reset_2
      rw [if_pos (by rw [ni_le (by omega) (by omega)]; omega)]
      exact sp_ret ⟨rfl, rfl, f1, f2⟩
  · rintro e σ1 τ1 ⟨rfl, f⟩
    exact sp_ret f
theorem s_exchange {R x j : Nat} (hR : R ≤ 4) (hx : x < R) (hj : j < R) (σ : jp_I) (τ : jp_J) : fX6_exchange R (nI x) (nI j) σ τ = some (0, jp_up (jp_up σ 10 x (σ 10 j)) 10 j (σ 10 x), τ) := by
  unfold fX6_exchange
  rw [s_readi 10 σ τ (by omega) hx, Option.bind_some]
  dsimp only
  rw [s_readi 10 σ τ (by omega) hj, Option.bind_some]
  dsimp only
  rw [s_write 10 _ σ τ (by omega) hx, Option.bind_some]
  dsimp only
  rw [s_write 10 _ _ τ (by omega) hj, Option.bind_some]
theorem swp_row {id x j : Nat} {o : Nat → Nat} {σ : jp_I} {N : Nat} (h : ∀ k, k < N → σ id k = nI (o k)) (hx : x < N) (hj : j < N) : ∀ k, k < N → (jp_up (jp_up σ id x (σ id j)) id j (σ id x)) id k = nI (swp o x j k) := by
  intro k hk
  unfold swp tr
  by_cases a : k = j
  · subst a
    rw [jp_up_eq, if_pos rfl]
    exact h x hx
  · rw [jp_up_ne _ _ _ a, if_neg a]
    by_cases b : k = x
    · subst b
      rw [jp_up_eq, if_pos rfl]
      exact h j hj
    · rw [jp_up_ne _ _ _ b, if_neg b]
      exact h k hk
theorem s_draw {R a : Nat} (hR : 1 ≤ R ∧ R ≤ 4) (ha : a < 2147483648) {σ : jp_I} {τ : jp_J} (ht : τ 9 1 = n64 a) : sp (fX6_draw R σ τ) (fun _ σ' τ' => (∀ i, i ≠ 10 → σ' i = σ i) ∧ (∀ i, i ≠ 9 → τ' i = τ i) ∧ τ' 9 1 = n64 (dw a (R - 1)).1 ∧ ∀ k, k < R → σ' 10 k = nI ((dw a (R - 1)).2 k)) := by
  unfold fX6_draw
  refine sp_bind (s_reset hR.2 σ τ) ?_
  rintro _ σ0 τ0 ⟨rfl, g1, g2⟩
  dsimp only
  refine sp_bind (P := fun e σ' τ' => e = .inl () ∧ (∀ i, i ≠ 10 → σ' i = σ i) ∧ (∀ i, i ≠ 9 → τ' i = τ0 i) ∧ τ' 9 1 = n64 (dw a (R - 1)).1 ∧ ∀ k, k < R → σ' 10 k = nI ((dw a (R - 1)).2 k)) ?_ ?_
  · refine sp_for (fun x σ' τ' => (∀ i, i ≠ 10 → σ' i = σ i) ∧ (∀ i, i ≠ 9 → τ' i = τ0 i) ∧ τ' 9 1 = n64 (dw a (x - 1)).1 ∧ ∀ k, k < R → σ' 10 k = nI ((dw a (x - 1)).2 k)) 1 R hR.1 (by omega) ⟨g1, fun _ _ => rfl, ht, g2⟩ ?_ ?_
    · rintro x σ1 τ1 hx1 hx ⟨f1, f2, f3, f4⟩
      obtain ⟨d, rfl⟩ : ∃ d, x = d + 1 := ⟨x - 1, by omega⟩
      rw [Nat.add_sub_cancel] at f3 f4
      dsimp only
      unfold sX6_draw_6
      have hj : jdN (lcgN (dw a d).1) (d + 1) < R := by have := jdN_le (lcgN (dw a d).1) (d + 1); omega
      rw [if_neg (by rw [ni_le (by omega) (by omega)]; omega), if_neg (jdZ (by omega)), f3, lcgE (dw_lt ha d), jp_upl_eq, jdE (lcgN_lt _) (by omega), s_exchange hR.2 hx hj, Option.bind_some]
      dsimp only
      refine sp_ret ⟨ni_add (d + 1) 1, fun i hi => by rw [jp_up_n _ _ hi, jp_up_n _ _ hi]; exact f1 i hi, fun i hi => by rw [jp_upl_n _ _ hi]; exact f2 i hi, by rw [jp_upl_eq]; rfl, ?_⟩
      exact swp_row f4 hx hj
    · rintro σ1 τ1 ⟨f1, f2, f3, f4⟩
      dsimp only
      unfold sX6_draw_6
      rw [if_pos (by rw [ni_le (by omega) (by omega)]; omega)]
      exact sp_ret ⟨rfl, f1, f2, f3, f4⟩
  · rintro e σ1 τ1 ⟨rfl, f⟩
    exact sp_ret f
-- the reference's order
theorem m_order {x1 x2 : Int32} (σ : jp_I) (τ : jp_J) : sp (jp_loop (fun q : (Int32) × jp_I × jp_J => sX8_byPriorities_19 x1 x2 q.1 q.2.1 q.2.2) jp_F (0, σ, τ)) (fun e σ' τ' => e = .inl () ∧ τ' = τ ∧ (∀ i, i ≠ 26 → σ' i = σ i) ∧ ∀ k, k < 4 → σ' 26 k = nI k) := by
  refine sp_for (fun x σ' τ' => τ' = τ ∧ (∀ i, i ≠ 26 → σ' i = σ i) ∧ ∀ k, k < x → σ' 26 k = nI k) 0 4 (Nat.zero_le _) (by omega) ⟨rfl, fun _ _ => rfl, fun k h => absurd h (Nat.not_lt_zero _)⟩ ?_ ?_
  · rintro x σ1 τ1 - hx ⟨rfl, f1, f2⟩
    dsimp only
    unfold sX8_byPriorities_19
    rw [show (4 : Int32) = nI 4 from rfl, if_neg (by rw [ni_le (by omega) (by omega)]; omega), if_pos (ni_ok (by omega) hx), ni_nat (by omega)]
    refine sp_ret ⟨by rw [← ni_add]; rfl, rfl, fun i hi => by rw [jp_up_n _ _ hi]; exact f1 i hi, fun k hk => ?_⟩
    by_cases q : k = x
    · subst q; rw [jp_up_eq]
    · rw [jp_up_ne _ _ _ q]; exact f2 k (by omega)
  · rintro σ1 τ1 ⟨rfl, f1, f2⟩
    dsimp only
    unfold sX8_byPriorities_19
    rw [if_pos (by decide)]
    exact sp_ret ⟨rfl, rfl, f1, f2⟩
theorem m_draw {R a : Nat} (hR : 1 ≤ R ∧ R ≤ 4) (ha : a < 2147483648) {σ : jp_I} {τ : jp_J} (h20 : σ 20 1 = nI R) (ho : ∀ k, k < 4 → σ 26 k = nI k) (ht : τ 20 8 = n64 a) : sp (fX8_draw σ τ) (fun _ σ' τ' => (∀ i, i ≠ 26 → σ' i = σ i) ∧ (∀ i, i ≠ 20 → τ' i = τ i) ∧ τ' 20 8 = n64 (dw a (R - 1)).1 ∧ ∀ k, k < R → σ' 26 k = nI ((dw a (R - 1)).2 k)) := by
  unfold fX8_draw
  refine sp_bind (P := fun e σ' τ' => e = .inl () ∧ (∀ i, i ≠ 26 → σ' i = σ i) ∧ (∀ i, i ≠ 20 → τ' i = τ i) ∧ τ' 20 8 = n64 (dw a (R - 1)).1 ∧ ∀ k, k < R → σ' 26 k = nI ((dw a (R - 1)).2 k)) ?_ ?_
  · refine sp_for (fun x σ' τ' => (∀ i, i ≠ 26 → σ' i = σ i) ∧ (∀ i, i ≠ 20 → τ' i = τ i) ∧ τ' 20 8 = n64 (dw a (x - 1)).1 ∧ ∀ k, k < R → σ' 26 k = nI ((dw a (x - 1)).2 k)) 1 R hR.1 (by omega) ⟨fun _ _ => rfl, fun _ _ => rfl, ht, fun k hk => ho k (by omega)⟩ ?_ ?_
    · rintro x σ1 τ1 hx1 hx ⟨f1, f2, f3, f4⟩
      obtain ⟨d, rfl⟩ : ∃ d, x = d + 1 := ⟨x - 1, by omega⟩
      rw [Nat.add_sub_cancel] at f3 f4
      dsimp only
      unfold sX8_draw_2
      have hj : jdN (lcgN (dw a d).1) (d + 1) < R := by have := jdN_le (lcgN (dw a d).1) (d + 1); omega
      have h1 : σ1 20 1 = nI R := by rw [f1 20 (by decide)]; exact h20
      rw [h1, if_neg (by rw [ni_le (by omega) (by omega)]; omega), if_neg (jdZ (by omega)), f3, lcgE (dw_lt ha d), jp_upl_eq, jdE (lcgN_lt _) (by omega), if_pos (ni_ok (by omega) (by omega)), if_pos (ni_ok (by omega) (by omega)), if_pos (ni_ok (by omega) (by omega)), if_pos (ni_ok (by omega) (by omega)), ni_nat (by omega), ni_nat (by omega)]
      refine sp_ret ⟨ni_add (d + 1) 1, fun i hi => by rw [jp_up_n _ _ hi, jp_up_n _ _ hi]; exact f1 i hi, fun i hi => by rw [jp_upl_n _ _ hi]; exact f2 i hi, by rw [jp_upl_eq]; rfl, ?_⟩
      exact swp_row f4 hx hj
    · rintro σ1 τ1 ⟨f1, f2, f3, f4⟩
      dsimp only
      unfold sX8_draw_2
      have h1 : σ1 20 1 = nI R := by rw [f1 20 (by decide)]; exact h20
      rw [h1, if_pos (by rw [ni_le (by omega) (by omega)]; omega)]
      exact sp_ret ⟨rfl, f1, f2, f3, f4⟩
  · rintro e σ1 τ1 ⟨rfl, f⟩
    exact sp_ret f
