-- the class's joint search: level by level
section JX
variable {R nc nl : Nat} {G : gG} {bar : Bool} {E : jS} {σ : jp_I}
def jkn (R : Nat) (G : gG) (bar : Bool) (E : jS) (L : Nat → Option Nat) (lv : Nat) : Prop := ∀ s v, jval R G s → (L (jix s) = some v ↔ (lst R G bar E v s ∧ v < lv))
/-- the levels: o and w part the states reached into those of lv - 3 and less, of lv - 2, of lv - 1 -/
def jlv (R : Nat) (G : gG) (bar : Bool) (E : jS) (lv o w cnt : Nat) (L : Nat → Option Nat) (q : Nat → Nat) : Prop :=
  ∃ (S : Nat → jS) (lev : Nat → Nat), (∀ i, i < cnt → q i = jix (S i) ∧ jval R G (S i) ∧ L (q i) = some (lev i)) ∧ jkn R G bar E L lv ∧ o ≤ w ∧ w ≤ cnt ∧ (∀ i, i < o → lev i + 3 ≤ lv) ∧ (∀ i, o ≤ i → i < w → lev i + 2 = lv) ∧ (∀ i, w ≤ i → i < cnt → lev i + 1 = lv) ∧ lv ≤ o + w + 1 ∧ 1 ≤ lv
theorem jkn_all {L : Nat → Option Nat} {q : Nat → Nat} {lv o w cnt : Nat} (h : jlv R G bar E lv o w cnt L q) (hI : ∀ x, L x ≠ none → ∃ i, i < cnt ∧ q i = x) (ho : cnt ≤ o) : ∀ v s, jval R G s → lst R G bar E v s → v < lv := by
  obtain ⟨S, lev, h1, h2, h3, h4, h5, h6, h7, h8, h9⟩ := h
  intro v
  induction v using Nat.strongRecOn with
  | _ v ih =>
    intro s hs hl
    refine Nat.lt_of_not_le fun hle => ?_
    have hne : s ≠ E := by
      rintro rfl
      have := lst_uniq hl lst_E
      omega
    obtain ⟨s', u, g1, g2, g3, g4⟩ := lst_next hl hne
    have hs' := jst_val hs g1
    have hu := ih u (by omega) s' hs' g2
    have hk := (h2 s' u hs').mpr ⟨g2, hu⟩
    obtain ⟨i, hi, hq⟩ := hI (jix s') (by rw [hk]; exact fun z => by cases z)
    have hlev : lev i = u := by
      have := (h1 i hi).2.2
      rw [hq, hk] at this
      cases this; rfl
    have := h5 i (by omega)
    have := pay_le (E := E) s s'
    omega
theorem s_measure (τ : jp_J) (h : jxC R G bar E σ) (hR : 1 ≤ R ∧ R ≤ 2) (hn : jnl R nl) (hE : jval R G E) {s0 : jS} (hs0 : jval R G s0) :
    sp (fX1_measure R nc nl (nI (jix s0)) (nI (jix E)) σ τ) (fun _ σ' τ' => τ' = τ ∧ jfr σ σ' ∧ ∃ (L : Nat → Option Nat) (lv : Nat), (∀ x, x < nl → σ' 14 x = enc (L x)) ∧ (∀ x v, L x = some v → v < 10000) ∧ jkn R G bar E L lv ∧ ∀ v, lst R G bar E v s0 → v < lv) := by
  have he := jval_lt hE
  have hnl := jnl_lt hn
  have hxE := jix_lt hE hn
  have hx0 := jix_lt hs0 hn
  unfold fX1_measure
  refine sp_seq (s_fill 14 _ _ _ (by omega)) ?_
  dsimp only
  have hfr0 : jfr σ (jp_up (jp_row σ 14 (fun j => if j < nl then -1 else σ 14 j)) 13 4 0) := ⟨fun i a b c => by rw [jp_up_n _ _ a, jp_row_n _ _ b], fun k hk => by rw [jp_up_ne _ _ _ hk, jp_row_n _ _ (by decide)]⟩
  have hI0 : stI nl 0 (fun _ => none) (fun _ => 0) (jp_up (jp_row σ 14 (fun j => if j < nl then -1 else σ 14 j)) 13 4 0) := by
    refine ⟨fun x hx => ?_, fun i hi => absurd hi (Nat.not_lt_zero _), fun x hx => absurd rfl hx, wc_none nl, jp_up_eq _ _ _ _, fun x v q => by cases q⟩
    rw [jp_up_n _ _ (by decide), jp_row_s, if_pos hx]; rfl
  refine sp_bind (s_reach (P := fun x => x = jix E) (v := 0) τ (by omega) hI0 hxE (by decide) rfl) ?_
  rintro r σ1 τ1 ⟨rfl, hf1, cnt1, L1, q1, hI1, hA1, hk1⟩
  dsimp only
  have hLE : L1 (jix E) = some 0 := (hA1.2.2.2.1 (jix E) rfl hk1).1
  have hLx : ∀ x v, L1 x = some v → v = 0 ∧ x = jix E := fun x v hv => by
    obtain ⟨a, b⟩ := hA1.2.2.2.1 x rfl (by rw [hv]; exact fun z => by cases z)
    rw [hv] at a
    cases a
    exact ⟨rfl, b⟩
  have hJ1 : jlv R G bar E 1 0 0 cnt1 L1 q1 := by
    refine ⟨fun _ => E, fun _ => 0, fun i hi => ?_, fun s v hs => ?_, Nat.le_refl _, Nat.zero_le _, fun i hi => absurd hi (Nat.not_lt_zero _), fun i _ hi => absurd hi (Nat.not_lt_zero _), fun _ _ _ => rfl, by decide, by decide⟩
    · have hne := (hI1.2.1 i hi).2.2
      cases e : L1 (q1 i) with
      | none => exact absurd e hne
      | some v =>
        obtain ⟨a, b⟩ := hLx _ v e
        exact ⟨b, hE, by rw [a]⟩
    · constructor
      · intro hv
        obtain ⟨a, b⟩ := hLx _ v hv
        have := jix_inj (opn_lt hs.1) (opn_lt hE.1) b
        rw [this, a]
        exact ⟨lst_E, by decide⟩
      · rintro ⟨a, b⟩
        have hv : v = 0 := by omega
        rw [hv] at a
        rw [lst_0 a, hv]
        exact hLE
  refine sp_bind (P := fun e σ' τ' => τ' = τ1 ∧ jfr σ σ' ∧ ∃ (L : Nat → Option Nat) (lv : Nat), (∀ x, x < nl → σ' 14 x = enc (L x)) ∧ (∀ x v, L x = some v → v < 10000) ∧ jkn R G bar E L lv ∧ ∀ v, lst R G bar E v s0 → v < lv) ?_ ?_
  · refine sp_loopF (fun v σ' τ' m => ∃ (lv o w cnt : Nat) (L : Nat → Option Nat) (q : Nat → Nat), v = (nI o, nI w, nI lv) ∧ m = 2 * nl + 2 - lv ∧ lv ≤ 2 * nl + 1 ∧ τ' = τ1 ∧ jfr σ σ' ∧ stI nl cnt L q σ' ∧ jlv R G bar E lv o w cnt L q) (2 * nl + 1) ⟨1, 0, 0, cnt1, L1, q1, rfl, by omega, by omega, rfl, jfr_tr hfr0 hf1, hI1, hJ1⟩ (by omega) ?_
    rintro v σ2 τ2 m ⟨lv, o, w, cnt, L, q, rfl, rfl, hlv, rfl, hf2, hI2, hJ2⟩
    dsimp only
    unfold sX1_measure_27
    obtain ⟨S, lev, g1, g2, g3, g4, g5, g6, g7, g8, g9⟩ := id hJ2
    have hcl : cnt ≤ nl := by rw [← hI2.2.2.2.1]; exact wc_le _ _
    have hIx : ∀ x, L x ≠ none → ∃ i, i < cnt ∧ q i = x := fun x hx => (hI2.2.2.1 x hx).2
    have fin : cnt ≤ o → sp (some ((Sum.inr (Sum.inl ()) : Sum (Int32 × Int32 × Int32) (Sum Unit Int32)), σ2, τ2)) (sp_R (fun (v : Int32 × Int32 × Int32) σ' τ' m => ∃ (lv o w cnt : Nat) (L : Nat → Option Nat) (q : Nat → Nat), v = (nI o, nI w, nI lv) ∧ m = 2 * nl + 2 - lv ∧ lv ≤ 2 * nl + 1 ∧ τ' = τ2 ∧ jfr σ σ' ∧ stI nl cnt L q σ' ∧ jlv R G bar E lv o w cnt L q) (2 * nl + 2 - lv) (fun e σ' τ' => τ' = τ2 ∧ jfr σ σ' ∧ ∃ (L : Nat → Option Nat) (lv : Nat), (∀ x, x < nl → σ' 14 x = enc (L x)) ∧ (∀ x v, L x = some v → v < 10000) ∧ jkn R G bar E L lv ∧ ∀ v, lst R G bar E v s0 → v < lv)) := fun ho =>
      sp_ret ⟨rfl, hf2, L, lv, hI2.1, hI2.2.2.2.2.2, g2, fun v hv => jkn_all hJ2 hIx ho v s0 hs0 hv⟩
    rw [show (2 : Int32) = nI 2 from rfl, ni_mul]
    refine sp_if (fun z => ?_) (fun z => ?_)
    · rw [ni_lt (by omega) (by omega)] at z
      exact fin (by omega)
    · rw [ni_lt (by omega) (by omega)] at z
      rw [hI2.2.2.2.2.1]
      refine sp_if (fun y => ?_) (fun y => ?_)
      · rw [ni_le (by omega) (by omega)] at y
        exact fin y
      · rw [ni_le (by omega) (by omega)] at y
        refine sp_seq (s_readi 14 σ2 τ2 (by omega) hx0) ?_
        dsimp only
        rw [hI2.1 _ hx0]
        cases e : L (jix s0) with
        | some v0 =>
          have hv0 := hI2.2.2.2.2.2 _ v0 e
          rw [if_neg (show ¬ enc (some v0) = -1 from ni_neg (by omega))]
          have hk := (g2 s0 v0 hs0).mp e
          refine sp_ret ⟨rfl, hf2, L, lv, hI2.1, hI2.2.2.2.2.2, g2, fun v hv => ?_⟩
          rw [lst_uniq hv hk.1]
          exact hk.2
        | none =>
          rw [if_pos (show enc none = -1 from rfl), hI2.2.2.2.2.1]
          have hC2 := jxC_fr h hf2
          refine sp_bind (s_reachAll τ2 hC2 hR hn he hI2 (show lv < 10000 by omega) (show o ≤ cnt by omega) g4 S (fun i hi => ⟨(g1 i hi).1, (g1 i hi).2.1⟩)) ?_
          rintro r σ4 τ4 ⟨rfl, rfl, hf4, cnt4, L4, q4, hI4, hA4, hD4⟩
          dsimp only
          rw [show nI lv + 1 = nI (lv + 1) from by rw [← ni_add]; rfl]
          -- what is known now
          have kept : ∀ x, L x ≠ none → L4 x = L x := fun x hx => hA4.2.2.1 x hx
          have step1 : ∀ s, jval R G s → L (jix s) = none → ∀ (s' : jS) (u : Nat), jst R G bar s s' → lst R G bar E u s' → pay E s s' + u = lv → lst R G bar E lv s := by
            intro s hs hL s' u hst hu hp
            have hcs := cst_step (E := E) hst hu.1
            rw [hp] at hcs
            refine ⟨hcs, fun x hx => ?_⟩
            obtain ⟨y, hy, hly⟩ := cst_lst hx
            refine Nat.le_of_not_lt fun hlt => ?_
            have := (g2 s y hs).mpr ⟨hly, by omega⟩
            rw [hL] at this
            cases this
          have fwd : ∀ s v, jval R G s → L4 (jix s) = some v → lst R G bar E v s ∧ v < lv + 1 := by
            intro s v hs hv
            by_cases z0 : L (jix s) = none
            · obtain ⟨a1, k, hk1, hk2, s', i, j, hi, hj, hmv, hpay, hxe⟩ := hA4.2.2.2.1 (jix s) z0 (by rw [hv]; exact fun w => by cases w)
              rw [hv] at a1
              cases a1
              have hvS := (g1 k hk2).2.1
              have hs' := jmv_val hvS hmv
              have hss := jix_inj (opn_lt hs.1) (opn_lt hs'.1) hxe
              subst hss
              have hlk := (g2 (S k) (lev k) hvS).mp (by rw [← (g1 k hk2).1]; exact (g1 k hk2).2.2)
              by_cases z2 : k < w
              · rw [if_pos z2] at hpay
                have := g6 k hk1 z2
                exact ⟨step1 s hs z0 (S k) (lev k) (jst_back hvS ⟨i, j, hi, hj, hmv⟩) hlk.1 (by omega), by omega⟩
              · rw [if_neg z2] at hpay
                have := g7 k (by omega) hk2
                exact ⟨step1 s hs z0 (S k) (lev k) (jst_back hvS ⟨i, j, hi, hj, hmv⟩) hlk.1 (by omega), by omega⟩
            · rw [kept _ z0] at hv
              have := (g2 s v hs).mp hv
              exact ⟨this.1, by omega⟩
          have back : ∀ s v, jval R G s → lst R G bar E v s → v < lv + 1 → L4 (jix s) = some v := by
            intro s v hs hl hlt
            by_cases zv : v < lv
            · have := (g2 s v hs).mpr ⟨hl, zv⟩
              rw [kept _ (by rw [this]; exact fun w => by cases w)]
              exact this
            · have hv : v = lv := by omega
              have hne : s ≠ E := by
                rintro rfl
                have := lst_uniq hl lst_E
                omega
              obtain ⟨s', u, a1, a2, a3, a4⟩ := lst_next hl hne
              have hs' := jst_val hs a1
              have hp := pay_le (E := E) s s'
              have hk := (g2 s' u hs').mpr ⟨a2, by omega⟩
              obtain ⟨i, hi, hq⟩ := hIx (jix s') (by rw [hk]; exact fun w => by cases w)
              have hlev : lev i = u := by
                have := (g1 i hi).2.2
                rw [hq, hk] at this
                cases this; rfl
              have hSi : S i = s' := by
                have := (g1 i hi).1
                rw [hq] at this
                exact (jix_inj (opn_lt hs'.1) (opn_lt (g1 i hi).2.1.1) this).symm
              obtain ⟨m1, m2, hm1, hm2, hmv⟩ := jst_back hs a1
              have hio : o ≤ i := by
                refine Nat.le_of_not_lt fun hlt2 => ?_
                have := g5 i hlt2; omega
              have hnn : L4 (jix s) ≠ none := by
                refine hD4 i (jix s) hio hi ⟨s, m1, m2, hm1, hm2, by rw [hSi]; exact hmv, ?_, rfl⟩
                rw [hSi]
                by_cases z2 : i < w
                · rw [if_pos z2]
                  have := g6 i hio z2
                  omega
                · rw [if_neg z2]
                  have := g7 i (by omega) hi
                  omega
              cases e4 : L4 (jix s) with
              | none => exact absurd e4 hnn
              | some v' =>
                have := (fwd s v' hs e4).1
                rw [lst_uniq this hl]
          have hc34 : cnt ≤ cnt4 := hA4.1
          -- the states in the new order
          have hS4 : ∀ i, ∃ s, i < cnt4 → q4 i = jix s ∧ jval R G s ∧ (i < cnt → s = S i) := by
            intro i
            by_cases hi : i < cnt
            · refine ⟨S i, fun _ => ⟨by rw [hA4.2.1 i hi]; exact (g1 i hi).1, (g1 i hi).2.1, fun _ => rfl⟩⟩
            · by_cases hi4 : i < cnt4
              · have hnew := hA4.2.2.2.2 i (by omega) hi4
                by_cases z0 : L (q4 i) = none
                · obtain ⟨-, k, hk1, hk2, s', a, b, ha, hb, hmv, -, hxe⟩ := hA4.2.2.2.1 (q4 i) z0 (by rw [hnew]; exact fun w => by cases w)
                  exact ⟨s', fun _ => ⟨hxe, jmv_val (g1 k hk2).2.1 hmv, fun w => absurd w hi⟩⟩
                · obtain ⟨k, hk1, hk2⟩ := hIx _ z0
                  exact ⟨S k, fun _ => ⟨by rw [← hk2]; exact (g1 k hk1).1, (g1 k hk1).2.1, fun w => absurd w hi⟩⟩
              · exact ⟨S i, fun w => absurd w hi4⟩
          obtain ⟨S4, hS4⟩ : ∃ S4 : Nat → jS, ∀ i, i < cnt4 → q4 i = jix (S4 i) ∧ jval R G (S4 i) ∧ (i < cnt → S4 i = S i) := ⟨fun i => (hS4 i).choose, fun i => (hS4 i).choose_spec⟩
          refine sp_ret ⟨2 * nl + 2 - (lv + 1), by omega, lv + 1, w, cnt, cnt4, L4, q4, rfl, rfl, by omega, rfl, jfr_tr hf2 hf4, hI4, ?_⟩
          refine ⟨S4, fun i => if i < cnt then lev i else lv, fun i hi => ⟨(hS4 i hi).1, (hS4 i hi).2.1, ?_⟩, fun s v hs => ⟨fwd s v hs, fun a => back s v hs a.1 a.2⟩, g4, hc34, fun i hi => ?_, fun i h1 h2 => ?_, fun i h1 h2 => ?_, by omega, by omega⟩
          · dsimp only
            by_cases z0 : i < cnt
            · rw [if_pos z0, hA4.2.1 i z0, kept _ (by rw [(g1 i z0).2.2]; exact fun w => by cases w)]
              exact (g1 i z0).2.2
            · rw [if_neg z0]
              exact hA4.2.2.2.2 i (by omega) hi
          · dsimp only
            rw [if_pos (by omega)]
            by_cases z0 : i < o
            · have := g5 i z0; omega
            · have := g6 i (by omega) hi; omega
          · dsimp only
            rw [if_pos h2]
            have := g7 i h1 h2
            omega
          · dsimp only
            rw [if_neg (by omega)]
  · rintro e σ2 τ2 ⟨rfl, g⟩
    cases e with
    | inl u => exact sp_ret ⟨rfl, g⟩
    | inr r => exact sp_ret ⟨rfl, g⟩
end JX
