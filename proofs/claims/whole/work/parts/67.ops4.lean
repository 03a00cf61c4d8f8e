-- wall, start, end
theorem enc_eq {o : Option Nat} {c : Nat} (ho : ∀ d, o = some d → d < 36) (hc : c < 36) : enc o = nI c ↔ o = some c := by
  cases o with
  | none => exact ⟨fun q => absurd q.symm (ni_neg (by omega)), fun q => by cases q⟩
  | some d =>
    have hd := ho d rfl
    constructor
    · intro q
      have := (ni_inj (show d < 2147483648 by omega) (show c < 2147483648 by omega)).mp q
      rw [this]
    · intro q; cases q; rfl
abbrev outC (G : gG) (x y : Int32) : Prop := (x < 0 ∨ nI G.1 ≤ x) ∨ (y < 0 ∨ nI G.2.1 ≤ y)
theorem cell_co {G : gG} (hG : gOk G) {x y : Int32} (h : ¬ outC G x y) : ∃ c, c < 36 ∧ inG G c = true ∧ x + 6 * y = nI c ∧ 6 * y + x = nI c := by
  obtain ⟨h1, h2, h3, h4⟩ := hG
  have hx : ¬ x < 0 := fun q => h (Or.inl (Or.inl q))
  have hy : ¬ y < 0 := fun q => h (Or.inr (Or.inl q))
  obtain ⟨a, ha, rfl⟩ := i_lt (N := G.1) hx (by rw [← Int32.not_le]; exact fun q => h (Or.inl (Or.inr q))) (by omega)
  obtain ⟨b, hb, rfl⟩ := i_lt (N := G.2.1) hy (by rw [← Int32.not_le]; exact fun q => h (Or.inr (Or.inr q))) (by omega)
  refine ⟨a + 6 * b, by omega, ?_, ?_, ?_⟩
  · simp only [inG, Bool.and_eq_true, decide_eq_true_eq]
    omega
  · rw [show (6 : Int32) = nI 6 from rfl, ni_mul, ni_add]
  · rw [show (6 : Int32) = nI 6 from rfl, ni_mul, ni_add, Nat.add_comm]
theorem s_cellIn {G : gG} {σ : jp_I} (τ : jp_J) (h : scX G σ) {x y : Int32} {c : Nat} (ho : ¬ outC G x y) (e : x + 6 * y = nI c) : fX0_cellAt x y σ τ = some (nI c, σ, τ) := by
  rw [s_cellAt τ h, if_neg ho, e]
theorem s_cellOut {G : gG} {σ : jp_I} (τ : jp_J) (h : scX G σ) {x y : Int32} (ho : outC G x y) : fX0_cellAt x y σ τ = some (-1, σ, τ) := by
  rw [s_cellAt τ h, if_pos ho]
theorem s_ownerOf (row : Nat) {N : Nat} (hN : N < 2147483648) (x : Int32) (σ : jp_I) (τ : jp_J) : sp (fX7_ownerOf row N x σ τ) (fun r σ' τ' => σ' = σ ∧ τ' = τ ∧ ((r = -1 ∧ ∀ k, k < N → σ row k ≠ x) ∨ ∃ k, k < N ∧ r = nI k ∧ σ row k = x)) := by
  unfold fX7_ownerOf
  refine sp_bind (P := fun e σ' τ' => σ' = σ ∧ τ' = τ ∧ ((e = .inl () ∧ ∀ k, k < N → σ row k ≠ x) ∨ ∃ k, k < N ∧ e = .inr (nI k) ∧ σ row k = x)) ?_ ?_
  · refine sp_for (fun i σ' τ' => σ' = σ ∧ τ' = τ ∧ ∀ k, k < i → σ row k ≠ x) 0 N (Nat.zero_le _) hN ⟨rfl, rfl, fun k hk => absurd hk (Nat.not_lt_zero _)⟩ ?_ ?_
    · rintro i σ' τ' - hi ⟨rfl, rfl, h⟩
      dsimp only
      unfold sX7_ownerOf_2
      rw [if_neg (by rw [ni_le hN (by omega)]; omega), if_pos (ni_ok (by omega) hi), ni_nat (by omega)]
      refine sp_if (fun q => ?_) (fun q => ?_)
      · exact sp_ret ⟨rfl, rfl, Or.inr ⟨i, hi, rfl, q⟩⟩
      · refine sp_ret ⟨by rw [← ni_add]; rfl, rfl, rfl, fun k hk => ?_⟩
        by_cases z : k = i
        · rw [z]; exact q
        · exact h k (by omega)
    · rintro σ' τ' ⟨rfl, rfl, h⟩
      dsimp only
      unfold sX7_ownerOf_2
      rw [if_pos (by rw [ni_le hN hN]; omega)]
      exact sp_ret ⟨rfl, rfl, Or.inl ⟨rfl, h⟩⟩
  · rintro e σ' τ' ⟨rfl, rfl, ⟨rfl, h⟩ | ⟨k, hk, rfl, h⟩⟩
    · exact sp_ret ⟨rfl, rfl, Or.inl ⟨rfl, h⟩⟩
    · exact sp_ret ⟨rfl, rfl, Or.inr ⟨k, hk, rfl, h⟩⟩
theorem m_used {R : Nat} (hR : R ≤ 4) (x : Int32) (σ : jp_I) (τ : jp_J) (h1 : σ 20 1 = nI R) : sp (fX8_used x σ τ) (fun r σ' τ' => σ' = σ ∧ τ' = τ ∧ ((r = 0 ∧ ∀ k, k < R → σ 22 k ≠ x ∧ σ 23 k ≠ x) ∨ (r = 1 ∧ ∃ k, k < R ∧ (σ 22 k = x ∨ σ 23 k = x)))) := by
  unfold fX8_used
  refine sp_bind (P := fun e σ' τ' => σ' = σ ∧ τ' = τ ∧ ((e = .inl () ∧ ∀ k, k < R → σ 22 k ≠ x ∧ σ 23 k ≠ x) ∨ (e = .inr 1 ∧ ∃ k, k < R ∧ (σ 22 k = x ∨ σ 23 k = x)))) ?_ ?_
  · refine sp_for (fun i σ' τ' => σ' = σ ∧ τ' = τ ∧ ∀ k, k < i → σ 22 k ≠ x ∧ σ 23 k ≠ x) 0 R (Nat.zero_le _) (by omega) ⟨rfl, rfl, fun k hk => absurd hk (Nat.not_lt_zero _)⟩ ?_ ?_
    · rintro i σ' τ' - hi ⟨rfl, rfl, h⟩
      dsimp only
      unfold sX8_used_2
      rw [h1, if_neg (by rw [ni_le (by omega) (by omega)]; omega), if_pos (ni_ok (by omega) (by omega)), ni_nat (by omega)]
      refine sp_if (fun q => ?_) (fun q => ?_)
      · exact sp_ret ⟨rfl, rfl, Or.inr ⟨rfl, i, hi, Or.inl q⟩⟩
      · rw [if_pos (ni_ok (by omega) (by omega))]
        refine sp_if (fun q2 => ?_) (fun q2 => ?_)
        · exact sp_ret ⟨rfl, rfl, Or.inr ⟨rfl, i, hi, Or.inr q2⟩⟩
        · refine sp_ret ⟨by rw [← ni_add]; rfl, rfl, rfl, fun k hk => ?_⟩
          by_cases z : k = i
          · rw [z]; exact ⟨q, q2⟩
          · exact h k (by omega)
    · rintro σ' τ' ⟨rfl, rfl, h⟩
      dsimp only
      unfold sX8_used_2
      rw [h1, if_pos (by rw [ni_le (by omega) (by omega)]; omega)]
      exact sp_ret ⟨rfl, rfl, Or.inl ⟨rfl, h⟩⟩
  · rintro e σ' τ' ⟨rfl, rfl, ⟨rfl, h⟩ | ⟨rfl, h⟩⟩
    · exact sp_ret ⟨rfl, rfl, Or.inl ⟨rfl, h⟩⟩
    · exact sp_ret ⟨rfl, rfl, Or.inr ⟨rfl, h⟩⟩
theorem opn_set {G : gG} {c d : Nat} {b : Bool} (h : opn G d = true) (hd : d ≠ c) : opn (gSet G c b) d = true := by
  simp only [opn, inG, gSet, Bool.and_eq_true] at h ⊢
  rw [if_neg hd]
  exact h
theorem wallN {f : Nat → Bool} {c : Nat} (hc : c < 36) (b : Bool) : (if f c = b then nI (wc f 36) else if b then nI (wc f 36) + 1 else nI (wc f 36) + -1) = nI (wc (fun d => if d = c then b else f d) 36) := by
  have h := wc_set f c b 36
  simp only [hc, true_and] at h
  have hl := wc_le f 36
  cases hb : b <;> cases hf : f c <;> simp only [hb, hf, if_true, if_false, Bool.false_eq_true] at h ⊢
  · congr 1
    omega
  · try rw [if_neg (by decide)]
    have e : wc f 36 = wc (fun d => if d = c then false else f d) 36 + 1 := by omega
    rw [e, ← ni_add]
    show _ + nI 1 + -1 = _
    have : ∀ x : Int32, x + nI 1 + -1 = x := fun x => by
      rw [Int32.add_assoc, show nI 1 + -1 = 0 from by decide, Int32.add_zero]
    exact this _
  · have e : wc (fun d => if d = c then true else f d) 36 = wc f 36 + 1 := by omega
    rw [e, ← ni_add]; rfl
  · congr 1
    omega
theorem op_wall {R nc L j : Nat} {xs : Nat → Int32} (hL : L ≤ 2049) (hj : j + 4 ≤ L) {σ : jp_I} {τ : jp_J} (h : Iv R nc σ τ) : spc (fC_wall R nc L xs (nI j) σ τ) (Iv R nc) := by
  obtain ⟨G, st, en, bar, sd, pl, hA, hX, hM⟩ := h
  have hA0 := hA
  have hX0 := hX
  have hM0 := hM
  obtain ⟨hR, hnc, ha3, ha4, ha5, ha6, ha7, ha8, ha9⟩ := hA
  obtain ⟨x0, x1, x2, x3, x4, x5, x6, x7, x8, x9, x10, x11⟩ := hX
  obtain ⟨m0, m1, m2, m3, m4, m5, m6⟩ := hM
  unfold fC_wall
  rw [show nI j + 1 = nI j + nI 1 from rfl, show nI j + 2 = nI j + nI 2 from rfl, show nI j + 3 = nI j + nI 3 from rfl, (jq_idx hj hL (by decide)).2, (jq_idx hj hL (by decide)).2, (jq_idx hj hL (by decide)).2]
  refine spc_ok (jq_idx hj hL (by decide)).1 (spc_ok (jq_idx hj hL (by decide)).1 (spc_ok (jq_idx hj hL (by decide)).1 ?_))
  generalize xs (j + 1) = p1
  generalize xs (j + 2) = p2
  have key : ∀ b : Bool, spc ((fL_wall R nc p1 p2 (bI b) σ τ).bind fun x => match x with
      | (a_4, σ_4, τ_4) => (fX8_wall p1 p2 (bI b) σ_4 τ_4).bind fun x => match x with
        | (a_5, σ_5, τ_5) => (fX8_thrown σ_5 τ_5).bind fun x => match x with
          | (a_6, σ_6, τ_6) => if a_6 = a_4 then (if a_4 = 0 then (if a_5 = 0 then (if (lg_cmp (τ_6 30 (0 : Int32).toNatClampNeg) 0) = 0 then some (σ_6, τ_6) else none) else (if (lg_cmp (τ_6 30 (0 : Int32).toNatClampNeg) 1) = 0 then some (σ_6, τ_6) else none)) else some (σ_6, τ_6)) else none) (Iv R nc) := by
    intro b
    have hs36 : ∀ r, r < R → ∀ d, st r = some d → d < 36 := fun r hr d q => opn_lt (ha3 r d hr q)
    have he36 : ∀ r, r < R → ∀ d, en r = some d → d < 36 := fun r hr d q => opn_lt (ha4 r d hr q)
    by_cases o : outC G p1 p2
    · refine op_z (m := fun σ τ => fX8_wall p1 p2 (bI b) σ τ) (PX := fun k σ1 τ1 => k = 1 ∧ σ1 = σ ∧ τ1 = τ) ?_ ?_
      · unfold fL_wall fX7_wall
        rw [s_cellOut τ x2 o]
        exact sp_ret ⟨rfl, rfl, rfl⟩
      · rintro k σ1 τ1 ⟨rfl, rfl, rfl⟩
        unfold fX8_wall
        refine sp_seq (m_noCell τ1 m1) ?_
        dsimp only
        rw [if_pos o, if_neg (by decide)]
        unfold bX8_wall_32
        rw [jp_up_eq, if_neg (by decide)]
        exact sp_ret ⟨jp_up_eq _ _ _ _, fun q => absurd q (by decide), G, st, en, bar, sd, pl, hA0, RX_thr hX0 1, RM_thr hM0 1⟩
    · obtain ⟨c, hc, hin, e1, e2⟩ := cell_co x2.1 o
      by_cases u : ∃ r, r < R ∧ (st r = some c ∨ en r = some c)
      · refine op_z (m := fun σ τ => fX8_wall p1 p2 (bI b) σ τ) (PX := fun k σ1 τ1 => k = 2 ∧ σ1 = σ ∧ τ1 = τ) ?_ ?_
        · unfold fL_wall fX7_wall bX7_wall_62
          rw [s_cellIn τ x2 o e1]
          refine sp_bind (P := fun o' σ' τ' => o' = .inr 1 ∧ σ' = σ ∧ τ' = τ) ?_ ?_
          · rw [Option.bind_some]
            dsimp only
            rw [if_neg (ni_neg (by omega))]
            refine sp_bind (s_ownerOf 3 (by omega) (nI c) σ τ) ?_
            rintro a σ1 τ1 ⟨rfl, rfl, ⟨rfl, n1⟩ | ⟨k, hk, rfl, n1⟩⟩
            · dsimp only
              rw [if_pos rfl]
              refine sp_bind (s_ownerOf 4 (by omega) (nI c) σ1 τ1) ?_
              rintro a σ2 τ2 ⟨rfl, rfl, ⟨rfl, n2⟩ | ⟨k, hk, rfl, n2⟩⟩
              · obtain ⟨r, hr, q | q⟩ := u
                · exact absurd (by rw [x5 r hr, q]; rfl) (n1 r hr)
                · exact absurd (by rw [x6 r hr, q]; rfl) (n2 r hr)
              · dsimp only
                rw [if_neg (ni_neg (by omega))]
                exact sp_ret ⟨rfl, rfl, rfl⟩
            · dsimp only
              rw [if_neg (ni_neg (by omega))]
              exact sp_ret ⟨rfl, rfl, rfl⟩
          · rintro o' σ1 τ1 ⟨rfl, rfl, rfl⟩
            exact sp_ret ⟨rfl, rfl, rfl⟩
        · rintro k σ1 τ1 ⟨rfl, rfl, rfl⟩
          unfold fX8_wall
          refine sp_seq (m_noCell τ1 m1) ?_
          dsimp only
          rw [if_neg o, if_pos rfl, e2]
          refine sp_bind (m_used hR (nI c) σ1 τ1 m0) ?_
          rintro a σ2 τ2 ⟨rfl, rfl, ⟨rfl, n1⟩ | ⟨rfl, n1⟩⟩
          · obtain ⟨r, hr, q | q⟩ := u
            · exact absurd (by rw [m2 r hr, q]; rfl) (n1 r hr).1
            · exact absurd (by rw [m3 r hr, q]; rfl) (n1 r hr).2
          · dsimp only
            rw [if_neg (by decide)]
            unfold bX8_wall_32
            rw [jp_up_eq, if_neg (by decide)]
            exact sp_ret ⟨jp_up_eq _ _ _ _, fun q => absurd q (by decide), G, st, en, bar, sd, pl, hA0, RX_thr hX0 2, RM_thr hM0 2⟩
      · have hA1 : AO R nc (gSet G c b) st en sd pl := by
          refine ⟨hR, hnc, fun r d hr q => opn_set (ha3 r d hr q) ?_, fun r d hr q => opn_set (ha4 r d hr q) ?_, ha5, ha6, ha7, ha8, ha9⟩
          · rintro rfl; exact u ⟨r, hr, Or.inl q⟩
          · rintro rfl; exact u ⟨r, hr, Or.inr q⟩
        refine op_z (m := fun σ τ => fX8_wall p1 p2 (bI b) σ τ) (PX := fun k σ1 τ1 => k = 0 ∧ (∀ i, 20 ≤ i → σ1 i = σ i) ∧ τ1 = jp_upl τ 30 0 (if G.2.2 c then 1 else 0) ∧ RX R nc (gSet G c b) st en bar sd pl σ1 τ1) ?_ ?_
        · unfold fL_wall fX7_wall
          rw [s_cellIn τ x2 o e1]
          refine sp_bind (P := fun o' σ1 τ1 => o' = .inl (bI (G.2.2 c)) ∧ (∀ i, 20 ≤ i → σ1 i = σ i) ∧ τ1 = τ ∧ RX R nc (gSet G c b) st en bar sd pl σ1 τ1) ?_ ?_
          · rw [Option.bind_some]
            dsimp only
            rw [if_neg (ni_neg (by omega))]
            refine sp_bind (s_ownerOf 3 (by omega) (nI c) σ τ) ?_
            rintro a σ1 τ1 ⟨rfl, rfl, ⟨rfl, n1⟩ | ⟨k, hk, rfl, n1⟩⟩
            · dsimp only
              rw [if_pos rfl]
              refine sp_bind (s_ownerOf 4 (by omega) (nI c) σ1 τ1) ?_
              rintro a σ2 τ2 ⟨rfl, rfl, ⟨rfl, n2⟩ | ⟨k, hk, rfl, n2⟩⟩
              · dsimp only
                rw [if_pos rfl]
                refine sp_bind (s_build τ2 x2 x3 hc b) ?_
                rintro a σ3 τ3 ⟨rfl, rfl, b1, b2, b3, b4⟩
                dsimp only
                rw [if_pos (bI_isb _)]
                refine sp_ret ⟨rfl, fun i hi => b4 i (by omega) (by omega) (by omega), rfl, ?_⟩
                have ne : ∀ i, i ≠ 2 → i ≠ 5 → i ≠ 6 → σ3 i = σ2 i := b4
                refine ⟨by rw [ne 0 (by decide) (by decide) (by decide)]; exact x0, by rw [ne 1 (by decide) (by decide) (by decide)]; exact x1, b1, b2, ?_, fun r hr => by rw [ne 3 (by decide) (by decide) (by decide)]; exact x5 r hr, fun r hr => by rw [ne 4 (by decide) (by decide) (by decide)]; exact x6 r hr, by rw [ne 1 (by decide) (by decide) (by decide)]; exact x7, x8, ?_, fun q => by rw [ne 13 (by decide) (by decide) (by decide)]; exact x10 q, fun q => by rw [ne 14 (by decide) (by decide) (by decide)]; exact x11 q⟩
                · rw [b3, x4]
                  exact wallN hc b
                · unfold plX
                  rw [ne 11 (by decide) (by decide) (by decide), ne 12 (by decide) (by decide) (by decide)]
                  exact x9
              · rw [x6 k hk, enc_eq (he36 k hk) hc] at n2
                exact absurd ⟨k, hk, Or.inr n2⟩ u
            · rw [x5 k hk, enc_eq (hs36 k hk) hc] at n1
              exact absurd ⟨k, hk, Or.inl n1⟩ u
          · rintro o' σ1 τ1 ⟨rfl, b1, rfl, b2⟩
            dsimp only
            have hfin : ∀ v : Int64, RX R nc (gSet G c b) st en bar sd pl σ1 (jp_upl τ1 30 0 v) := fun v => RX_congr b2 (fun _ _ => rfl) (jp_upl_n _ _ (by decide))
            cases G.2.2 c
            · rw [if_pos (show bI false = 0 from rfl), jp_c30]
              exact sp_ret ⟨rfl, b1, rfl, hfin _⟩
            · rw [if_neg (by decide), jp_c30]
              exact sp_ret ⟨rfl, b1, rfl, hfin _⟩
        · rintro k σ1 τ1 ⟨rfl, b1, rfl, b2⟩
          have m1' : scM G σ1 := scM_congr m1 (by rw [b1 20 (by decide)]) (by rw [b1 20 (by decide)]) (b1 21 (by decide))
          unfold fX8_wall
          refine sp_seq (m_noCell _ m1') ?_
          dsimp only
          rw [if_neg o, if_pos rfl, e2]
          refine sp_bind (m_used hR (nI c) σ1 _ (by rw [b1 20 (by decide)]; exact m0)) ?_
          rintro a σ2 τ2 ⟨rfl, rfl, ⟨rfl, n1⟩ | ⟨rfl, k, hk, n1⟩⟩
          · dsimp only
            rw [if_pos rfl]
            unfold bX8_wall_32
            rw [jp_up_eq, if_pos rfl, e2, if_pos (ni_ok (by omega) hc), if_pos (ni_ok (by omega) hc), if_pos (bI_isb _), ni_nat (by omega), jp_up_n _ _ (by decide), m1'.2.2.2 c hc, if_pos (bI_isb _)]
            refine sp_ret ⟨by rw [jp_up_n _ _ (by decide), jp_up_eq], fun _ => ?_, gSet G c b, st, en, bar, sd, pl, hA1, RX_congr b2 (fun i hi => by rw [jp_up_n _ _ (by omega), jp_up_n _ _ (by omega)]) rfl, ?_⟩
            · rw [jp_c30, jp_upl_eq]
              cases G.2.2 c <;> rfl
            · have n20 : ∀ k, k ≠ 0 → (jp_up (jp_up σ2 20 0 0) 21 c (bI b)) 20 k = σ 20 k := fun k hk => by rw [jp_up_n _ _ (by decide), jp_up_ne _ _ _ hk, b1 20 (by decide)]
              have ne : ∀ i, 22 ≤ i → (jp_up (jp_up σ2 20 0 0) 21 c (bI b)) i = σ i := fun i hi => by rw [jp_up_n _ _ (by omega), jp_up_n _ _ (by omega), b1 i (by omega)]
              refine ⟨by rw [n20 1 (by decide)]; exact m0, ⟨m1.1, by rw [n20 2 (by decide)]; exact m1.2.1, by rw [n20 3 (by decide)]; exact m1.2.2.1, fun d hd => ?_⟩, fun r hr => by rw [ne 22 (by decide)]; exact m2 r hr, fun r hr => by rw [ne 23 (by decide)]; exact m3 r hr, by rw [n20 7 (by decide)]; exact m4, by rw [jp_upl_n _ _ (by decide)]; exact m5, ?_⟩
              · show _ = bI (if d = c then b else G.2.2 d)
                by_cases z : d = c
                · subst z
                  rw [jp_up_eq, if_pos rfl]
                · rw [jp_up_ne _ _ _ z, jp_up_n _ _ (by decide), if_neg z]
                  exact m1'.2.2.2 d hd
              · unfold plM
                rw [n20 9 (by decide), n20 10 (by decide), n20 11 (by decide), n20 12 (by decide), ne 24 (by decide)]
                exact m6
          · rw [b1 22 (by decide), b1 23 (by decide), m2 k hk, m3 k hk, enc_eq (hs36 k hk) hc, enc_eq (he36 k hk) hc] at n1
            exact absurd ⟨k, hk, n1⟩ u
  exact spc_if (fun _ => key false) (fun _ => key true)
