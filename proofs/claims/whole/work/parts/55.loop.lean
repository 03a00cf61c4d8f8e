-- the law's loop
theorem jq_head (L j : Nat) (hL : L ≤ 2049) (hj : j ≤ 5000) : nI L - 4 < nI j ↔ L < j + 4 := by
  unfold nI
  rw [Int32.lt_iff_toInt_lt, Int32.toInt_sub]
  have h1 : (Int32.ofNat L).toInt = L := by rw [Int32.toInt_ofNat_of_lt (by omega)]
  have h2 : (Int32.ofNat j).toInt = j := by rw [Int32.toInt_ofNat_of_lt (by omega)]
  have h4 : (4 : Int32).toInt = 4 := by decide
  rw [h1, h2, h4, Int.bmod_eq_of_le (by omega) (by omega)]
  omega
theorem jq_inc (j : Nat) : nI j + Int32.ofInt 4 = nI (j + 4) := by
  unfold nI
  rw [Int32.ofNat_add]
  rfl
theorem jq_loop {p : Program} {l : Launch} {e : Jvm.Env} {s : State} {m : MethodId} {args : Array Value} {below : List Frame} {meth : Method} {c : Code} {Q : State → Prop} {Γ : jp_G} {Z : Nat → Option jp_Sh} {b L : Nat} {xs : Nat → Int32} (B : jp_B Γ p s m args meth c RL cL_law 7 (some .boolean)) (hX : va_X b L xs s s.heap) (hbl : b < s.heap.size) (hbA : ¬ jp_A Γ b) (hL : L ≤ 2049)
    {fR : Int32 → jp_I → jp_J → Option (jp_I × jp_J)} {Inv : jp_I → jp_J → Prop} (hstep : ∀ (j : Nat) (σ : jp_I) (τ : jp_J), 1 ≤ j → j + 4 ≤ L → Inv σ τ → ∃ (σ' : jp_I) (τ' : jp_J), fR (nI j) σ τ = some (σ', τ') ∧ Inv σ' τ')
    (hround : ∀ (i : Int32) (cells slots : Nat) (σ σ' : jp_I) (τ τ' : jp_J), cells + 3 ≤ room_1.cells → slots + 18 ≤ room_1.slots → fR i σ τ = some (σ', τ') → jp_atc p l e room_1 s m args below meth c Q 7 Γ Z (cells + 3) (slots + 18) 884 [(0, .ref b), (1, .ref (Γ.2.2.1 0)), (2, .ref (Γ.2.2.1 20)), (3, .ref (Γ.2.2.1 30)), (4, .int i)] [] σ' τ' → jp_atc p l e room_1 s m args below meth c Q 7 Γ Z cells slots 42 [(0, .ref b), (1, .ref (Γ.2.2.1 0)), (2, .ref (Γ.2.2.1 20)), (3, .ref (Γ.2.2.1 30)), (4, .int i)] [] σ τ)
    (kend : ∀ (cells slots : Nat) (H : Heap) (locs : List Loc) (ls : Array Slot), cells ≤ room_1.cells → slots ≤ room_1.slots → va_S (jp_A Γ) s.heap H locs → W p l e room_1 s m args below meth c H locs cells slots Q (F0 m 890 ls [])) :
    ∀ (k j cells slots : Nat) (σ : jp_I) (τ : jp_J), 1 ≤ j → j ≤ 4000 → L ≤ j + 4 * k → cells + 3 * k ≤ room_1.cells → slots + 18 * k ≤ room_1.slots → Inv σ τ → jp_atc p l e room_1 s m args below meth c Q 7 Γ Z cells slots 33 [(0, .ref b), (1, .ref (Γ.2.2.1 0)), (2, .ref (Γ.2.2.1 20)), (3, .ref (Γ.2.2.1 30)), (4, .int (nI j))] [] σ τ := by
  obtain ⟨hx, hb, hml, hown, hts, hr, hlk, hE⟩ := id B
  intro k
  induction k with
  | zero =>
    intro j cells slots σ τ h1 hj hLj hc hs hI H locs ls hP hS hl
    refine lv_iload hx hb dL_law_33 (lv_at hl 4 rfl) ?_
    refine lv_aload_n hx hb dL_law_35 rfl (lv_at hl 0 rfl) ?_
    refine jq_slen B hX hbl hbA hS dL_law_36 ?_
    refine lv_iconst (v := 4) hx hb dL_law_37 (by decide) ?_
    refine lv_isub hx hb dL_law_38 ?_
    refine lv_icmp_gt (tgt := 890) hx hb dL_law_39 (by decide) (fun c0 => ?_) (fun c0 => ?_)
    · exact kend cells slots H locs ls (by omega) (by omega) hS
    · exact absurd ((jq_head L j hL (by omega)).mpr (by omega)) c0
  | succ k ih =>
    intro j cells slots σ τ h1 hj hLj hc hs hI H locs ls hP hS hl
    refine lv_iload hx hb dL_law_33 (lv_at hl 4 rfl) ?_
    refine lv_aload_n hx hb dL_law_35 rfl (lv_at hl 0 rfl) ?_
    refine jq_slen B hX hbl hbA hS dL_law_36 ?_
    refine lv_iconst (v := 4) hx hb dL_law_37 (by decide) ?_
    refine lv_isub hx hb dL_law_38 ?_
    refine lv_icmp_gt (tgt := 890) hx hb dL_law_39 (by decide) (fun c0 => ?_) (fun c0 => ?_)
    · exact kend cells slots H locs ls (by omega) (by omega) hS
    · have hjL : j + 4 ≤ L := by
        refine Nat.le_of_not_lt fun q => c0 ((jq_head L j hL (by omega)).mpr ?_)
        omega
      obtain ⟨σ', τ', hf, hI'⟩ := hstep j σ τ h1 hjL hI
      refine hround (nI j) cells slots σ σ' τ τ' (by omega) (by omega) hf ?_ H locs ls hP hS hl
      intro H locs ls hP hS hl
      refine lv_iinc (v := nI (j + 4)) (lv' := [(4, .int (nI (j + 4))), (0, .ref b), (1, .ref (Γ.2.2.1 0)), (2, .ref (Γ.2.2.1 20)), (3, .ref (Γ.2.2.1 30))]) hx hb dL_law_884 hl (k := 4) rfl (jq_inc j) (by decide) rfl (fun ls hl => ?_)
      refine lv_goto (tgt := 33) hx hb dL_law_887 (by decide) ?_
      exact ih (j + 4) (cells + 3) (slots + 18) σ' τ' (by omega) (by omega) (by omega) (by omega) (by omega) hI' H locs ls hP hS (lv_sub hl [1, 2, 3, 4, 0] rfl)
