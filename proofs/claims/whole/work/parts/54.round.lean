def fRoundJ (n : Nat) (nc : Nat) (nl : Nat) (L : Nat) (xs : Nat → Int32) (i : Int32) (σ : jp_I) (τ : jp_J) : Option (jp_I × jp_J) :=
  if jp_ok i L = true then if xs i.toNatClampNeg &&& 15 = 0 then (fC_grid n nc L xs i σ τ) else (if xs i.toNatClampNeg &&& 15 = 1 then (fC_wall n nc L xs i σ τ) else (if xs i.toNatClampNeg &&& 15 = 2 then (fC_start n nc L xs i σ τ) else (if xs i.toNatClampNeg &&& 15 = 3 then (fC_end n nc L xs i σ τ) else (if xs i.toNatClampNeg &&& 15 = 4 then (fC_swap n nc L xs i σ τ) else (if xs i.toNatClampNeg &&& 15 = 5 then (fC_seed n nc L xs i σ τ) else (if xs i.toNatClampNeg &&& 15 = 6 then (fC_solveJ n nc nl L xs i σ τ) else (if xs i.toNatClampNeg &&& 15 = 7 then (fC_exact n nc L xs i σ τ) else (if xs i.toNatClampNeg &&& 15 = 8 then (fC_at n nc L xs i σ τ) else (if xs i.toNatClampNeg &&& 15 = 9 then (fC_last n nc L xs i σ τ) else (if xs i.toNatClampNeg &&& 15 = 10 then (fC_alone n nc L xs i σ τ) else (if xs i.toNatClampNeg &&& 15 = 11 then (fC_bound n nc L xs i σ τ) else (if xs i.toNatClampNeg &&& 15 = 12 then (fC_share n nc L xs i σ τ) else (if xs i.toNatClampNeg &&& 15 = 13 then (fC_count n nc L xs i σ τ) else (some (σ, τ))))))))))))))) else none
set_option maxHeartbeats 4000000 in
set_option maxRecDepth 20000 in
theorem wRoundJ {p : Program} {l : Launch} {e : Jvm.Env} {s : State} {m : MethodId} {args : Array Value} {below : List Frame} {meth : Method} {c : Code} {Q : State → Prop} {Γ : jp_G} {Z : Nat → Option jp_Sh} {cells slots b L : Nat} {xs : Nat → Int32} {n : Nat} {nc : Nat} {nl : Nat} (B : jp_B Γ p s m args meth c RL cL_law 7 (some .boolean)) (hX0 : jp_hC Z n nc) (hX1 : jp_hJ Z n nc nl) (hM : jp_hM Z) (hO : Z 30 = some (3, 1, [])) (hst : l.stackTraces = false) (hX : va_X b L xs s s.heap) (hbl : b < s.heap.size) (hbA : ¬ jp_A Γ b) (hc0 : cells + 3 ≤ room_1.cells) (hs0 : slots + 18 ≤ room_1.slots) {i : Int32} {σ σ' : jp_I} {τ τ' : jp_J} (hf : fRoundJ n nc nl L xs i σ τ = some (σ', τ'))
    (kk : jp_atc p l e room_1 s m args below meth c Q 7 Γ Z (cells + 3) (slots + 18) 884 [(0, .ref b), (1, .ref (Γ.2.2.1 0)), (2, .ref (Γ.2.2.1 20)), (3, .ref (Γ.2.2.1 30)), (4, .int i)] [] σ' τ') : jp_atc p l e room_1 s m args below meth c Q 7 Γ Z cells slots 42 [(0, .ref b), (1, .ref (Γ.2.2.1 0)), (2, .ref (Γ.2.2.1 20)), (3, .ref (Γ.2.2.1 30)), (4, .int i)] [] σ τ := by
  obtain ⟨hx, hb, hml, hown, hts, hr, hlk, hE⟩ := id B
  unfold fRoundJ at hf
  intro H locs ls hP hS hl
  obtain ⟨g_1, hf⟩ := jp_if hf
  refine lv_aload_n hx hb dL_law_42 rfl (lv_at hl 0 rfl) ?_
  refine lv_iload hx hb dL_law_43 (lv_at hl 4 rfl) ?_
  refine jq_sld B hX hbl hbA hS (jp_ok_vp g_1) dL_law_45 ?_
  refine lv_bipush (v := 15) hx hb dL_law_46 (by decide) ?_
  refine lv_iand hx hb dL_law_48 ?_
  generalize xs i.toNatClampNeg &&& 15 = w at hf ⊢
  by_cases c_0 : w = 0
  · rw [if_pos c_0] at hf
    refine lv_tableIn (tgt := 120) hx hb dL_law_49 (by rw [c_0]; decide) (by rw [c_0]; decide) (by rw [c_0]; rfl) (by decide) ?_
    exact wC_grid B hX0 hM hO hst hX hbl hbA hc0 hs0 hf kk H locs ls hP hS hl
  · rw [if_neg c_0] at hf
    by_cases c_1 : w = 1
    · rw [if_pos c_1] at hf
      refine lv_tableIn (tgt := 168) hx hb dL_law_49 (by rw [c_1]; decide) (by rw [c_1]; decide) (by rw [c_1]; rfl) (by decide) ?_
      exact wC_wall B hX0 hM hO hst hX hbl hbA hc0 hs0 hf kk H locs ls hP hS hl
    · rw [if_neg c_1] at hf
      by_cases c_2 : w = 2
      · rw [if_pos c_2] at hf
        refine lv_tableIn (tgt := 271) hx hb dL_law_49 (by rw [c_2]; decide) (by rw [c_2]; decide) (by rw [c_2]; rfl) (by decide) ?_
        exact wC_start B hX0 hM hO hst hX hbl hbA hc0 hs0 hf kk H locs ls hP hS hl
      · rw [if_neg c_2] at hf
        by_cases c_3 : w = 3
        · rw [if_pos c_3] at hf
          refine lv_tableIn (tgt := 358) hx hb dL_law_49 (by rw [c_3]; decide) (by rw [c_3]; decide) (by rw [c_3]; rfl) (by decide) ?_
          exact wC_end B hX0 hM hO hst hX hbl hbA hc0 hs0 hf kk H locs ls hP hS hl
        · rw [if_neg c_3] at hf
          by_cases c_4 : w = 4
          · rw [if_pos c_4] at hf
            refine lv_tableIn (tgt := 445) hx hb dL_law_49 (by rw [c_4]; decide) (by rw [c_4]; decide) (by rw [c_4]; rfl) (by decide) ?_
            exact wC_swap B hX0 hM hO hst hX hbl hbA hc0 hs0 hf kk H locs ls hP hS hl
          · rw [if_neg c_4] at hf
            by_cases c_5 : w = 5
            · rw [if_pos c_5] at hf
              refine lv_tableIn (tgt := 486) hx hb dL_law_49 (by rw [c_5]; decide) (by rw [c_5]; decide) (by rw [c_5]; rfl) (by decide) ?_
              exact wC_seed B hX0 hM hO hst hX hbl hbA hc0 hs0 hf kk H locs ls hP hS hl
            · rw [if_neg c_5] at hf
              by_cases c_6 : w = 6
              · rw [if_pos c_6] at hf
                refine lv_tableIn (tgt := 522) hx hb dL_law_49 (by rw [c_6]; decide) (by rw [c_6]; decide) (by rw [c_6]; rfl) (by decide) ?_
                exact wC_solveJ B hX0 hX1 hM hO hst hX hbl hbA hc0 hs0 hf kk H locs ls hP hS hl
              · rw [if_neg c_6] at hf
                by_cases c_7 : w = 7
                · rw [if_pos c_7] at hf
                  refine lv_tableIn (tgt := 578) hx hb dL_law_49 (by rw [c_7]; decide) (by rw [c_7]; decide) (by rw [c_7]; rfl) (by decide) ?_
                  exact wC_exact B hX0 hM hO hst hX hbl hbA hc0 hs0 hf kk H locs ls hP hS hl
                · rw [if_neg c_7] at hf
                  by_cases c_8 : w = 8
                  · rw [if_pos c_8] at hf
                    refine lv_tableIn (tgt := 591) hx hb dL_law_49 (by rw [c_8]; decide) (by rw [c_8]; decide) (by rw [c_8]; rfl) (by decide) ?_
                    exact wC_at B hX0 hM hO hst hX hbl hbA hc0 hs0 hf kk H locs ls hP hS hl
                  · rw [if_neg c_8] at hf
                    by_cases c_9 : w = 9
                    · rw [if_pos c_9] at hf
                      refine lv_tableIn (tgt := 671) hx hb dL_law_49 (by rw [c_9]; decide) (by rw [c_9]; decide) (by rw [c_9]; rfl) (by decide) ?_
                      exact wC_last B hX0 hM hO hst hX hbl hbA hc0 hs0 hf kk H locs ls hP hS hl
                    · rw [if_neg c_9] at hf
                      by_cases c_10 : w = 10
                      · rw [if_pos c_10] at hf
                        refine lv_tableIn (tgt := 715) hx hb dL_law_49 (by rw [c_10]; decide) (by rw [c_10]; decide) (by rw [c_10]; rfl) (by decide) ?_
                        exact wC_alone B hX0 hM hO hst hX hbl hbA hc0 hs0 hf kk H locs ls hP hS hl
                      · rw [if_neg c_10] at hf
                        by_cases c_11 : w = 11
                        · rw [if_pos c_11] at hf
                          refine lv_tableIn (tgt := 771) hx hb dL_law_49 (by rw [c_11]; decide) (by rw [c_11]; decide) (by rw [c_11]; rfl) (by decide) ?_
                          exact wC_bound B hX0 hM hO hst hX hbl hbA hc0 hs0 hf kk H locs ls hP hS hl
                        · rw [if_neg c_11] at hf
                          by_cases c_12 : w = 12
                          · rw [if_pos c_12] at hf
                            refine lv_tableIn (tgt := 815) hx hb dL_law_49 (by rw [c_12]; decide) (by rw [c_12]; decide) (by rw [c_12]; rfl) (by decide) ?_
                            exact wC_share B hX0 hM hO hst hX hbl hbA hc0 hs0 hf kk H locs ls hP hS hl
                          · rw [if_neg c_12] at hf
                            by_cases c_13 : w = 13
                            · rw [if_pos c_13] at hf
                              refine lv_tableIn (tgt := 859) hx hb dL_law_49 (by rw [c_13]; decide) (by rw [c_13]; decide) (by rw [c_13]; rfl) (by decide) ?_
                              exact wC_count B hX0 hM hO hst hX hbl hbA hc0 hs0 hf kk H locs ls hP hS hl
                            · rw [if_neg c_13] at hf
                              refine lv_tableOut (tgt := 884) hx hb dL_law_49 (jp_out w [0, 1, 2, 3, 4, 5, 6, 7, 8, 9, 10, 11, 12, 13] 0 13 (by decide) (by simp only [List.forall_mem_cons]; exact ⟨c_0, c_1, c_2, c_3, c_4, c_5, c_6, c_7, c_8, c_9, c_10, c_11, c_12, c_13, fun _ h => by cases h⟩)) (by decide) ?_
                              obtain ⟨rfl, rfl⟩ := jp_injK hf
                              refine W.widen (Nat.le_add_right cells 3) (Nat.le_add_right slots 18) ?_
                              exact kk H locs ls hP hS hl
def fRoundP (n : Nat) (nc : Nat) (L : Nat) (xs : Nat → Int32) (i : Int32) (σ : jp_I) (τ : jp_J) : Option (jp_I × jp_J) :=
  if jp_ok i L = true then if xs i.toNatClampNeg &&& 15 = 0 then (fC_grid n nc L xs i σ τ) else (if xs i.toNatClampNeg &&& 15 = 1 then (fC_wall n nc L xs i σ τ) else (if xs i.toNatClampNeg &&& 15 = 2 then (fC_start n nc L xs i σ τ) else (if xs i.toNatClampNeg &&& 15 = 3 then (fC_end n nc L xs i σ τ) else (if xs i.toNatClampNeg &&& 15 = 4 then (fC_swap n nc L xs i σ τ) else (if xs i.toNatClampNeg &&& 15 = 5 then (fC_seed n nc L xs i σ τ) else (if xs i.toNatClampNeg &&& 15 = 6 then (fC_solveP n nc L xs i σ τ) else (if xs i.toNatClampNeg &&& 15 = 7 then (fC_exact n nc L xs i σ τ) else (if xs i.toNatClampNeg &&& 15 = 8 then (fC_at n nc L xs i σ τ) else (if xs i.toNatClampNeg &&& 15 = 9 then (fC_last n nc L xs i σ τ) else (if xs i.toNatClampNeg &&& 15 = 10 then (fC_alone n nc L xs i σ τ) else (if xs i.toNatClampNeg &&& 15 = 11 then (fC_bound n nc L xs i σ τ) else (if xs i.toNatClampNeg &&& 15 = 12 then (fC_share n nc L xs i σ τ) else (if xs i.toNatClampNeg &&& 15 = 13 then (fC_count n nc L xs i σ τ) else (some (σ, τ))))))))))))))) else none
set_option maxHeartbeats 4000000 in
set_option maxRecDepth 20000 in
theorem wRoundP {p : Program} {l : Launch} {e : Jvm.Env} {s : State} {m : MethodId} {args : Array Value} {below : List Frame} {meth : Method} {c : Code} {Q : State → Prop} {Γ : jp_G} {Z : Nat → Option jp_Sh} {cells slots b L : Nat} {xs : Nat → Int32} {n : Nat} {nc : Nat} (B : jp_B Γ p s m args meth c RL cL_law 7 (some .boolean)) (hX0 : jp_hC Z n nc) (hX1 : jp_hP Z n nc) (hM : jp_hM Z) (hO : Z 30 = some (3, 1, [])) (hst : l.stackTraces = false) (hX : va_X b L xs s s.heap) (hbl : b < s.heap.size) (hbA : ¬ jp_A Γ b) (hc0 : cells + 3 ≤ room_1.cells) (hs0 : slots + 18 ≤ room_1.slots) {i : Int32} {σ σ' : jp_I} {τ τ' : jp_J} (hf : fRoundP n nc L xs i σ τ = some (σ', τ'))
    (kk : jp_atc p l e room_1 s m args below meth c Q 7 Γ Z (cells + 3) (slots + 18) 884 [(0, .ref b), (1, .ref (Γ.2.2.1 0)), (2, .ref (Γ.2.2.1 20)), (3, .ref (Γ.2.2.1 30)), (4, .int i)] [] σ' τ') : jp_atc p l e room_1 s m args below meth c Q 7 Γ Z cells slots 42 [(0, .ref b), (1, .ref (Γ.2.2.1 0)), (2, .ref (Γ.2.2.1 20)), (3, .ref (Γ.2.2.1 30)), (4, .int i)] [] σ τ := by
  obtain ⟨hx, hb, hml, hown, hts, hr, hlk, hE⟩ := id B
  unfold fRoundP at hf
  intro H locs ls hP hS hl
  obtain ⟨g_1, hf⟩ := jp_if hf
  refine lv_aload_n hx hb dL_law_42 rfl (lv_at hl 0 rfl) ?_
  refine lv_iload hx hb dL_law_43 (lv_at hl 4 rfl) ?_
  refine jq_sld B hX hbl hbA hS (jp_ok_vp g_1) dL_law_45 ?_
  refine lv_bipush (v := 15) hx hb dL_law_46 (by decide) ?_
  refine lv_iand hx hb dL_law_48 ?_
  generalize xs i.toNatClampNeg &&& 15 = w at hf ⊢
  by_cases c_0 : w = 0
  · rw [if_pos c_0] at hf
    refine lv_tableIn (tgt := 120) hx hb dL_law_49 (by rw [c_0]; decide) (by rw [c_0]; decide) (by rw [c_0]; rfl) (by decide) ?_
    exact wC_grid B hX0 hM hO hst hX hbl hbA hc0 hs0 hf kk H locs ls hP hS hl
  · rw [if_neg c_0] at hf
    by_cases c_1 : w = 1
    · rw [if_pos c_1] at hf
      refine lv_tableIn (tgt := 168) hx hb dL_law_49 (by rw [c_1]; decide) (by rw [c_1]; decide) (by rw [c_1]; rfl) (by decide) ?_
      exact wC_wall B hX0 hM hO hst hX hbl hbA hc0 hs0 hf kk H locs ls hP hS hl
    · rw [if_neg c_1] at hf
      by_cases c_2 : w = 2
      · rw [if_pos c_2] at hf
        refine lv_tableIn (tgt := 271) hx hb dL_law_49 (by rw [c_2]; decide) (by rw [c_2]; decide) (by rw [c_2]; rfl) (by decide) ?_
        exact wC_start B hX0 hM hO hst hX hbl hbA hc0 hs0 hf kk H locs ls hP hS hl
      · rw [if_neg c_2] at hf
        by_cases c_3 : w = 3
        · rw [if_pos c_3] at hf
          refine lv_tableIn (tgt := 358) hx hb dL_law_49 (by rw [c_3]; decide) (by rw [c_3]; decide) (by rw [c_3]; rfl) (by decide) ?_
          exact wC_end B hX0 hM hO hst hX hbl hbA hc0 hs0 hf kk H locs ls hP hS hl
        · rw [if_neg c_3] at hf
          by_cases c_4 : w = 4
          · rw [if_pos c_4] at hf
            refine lv_tableIn (tgt := 445) hx hb dL_law_49 (by rw [c_4]; decide) (by rw [c_4]; decide) (by rw [c_4]; rfl) (by decide) ?_
            exact wC_swap B hX0 hM hO hst hX hbl hbA hc0 hs0 hf kk H locs ls hP hS hl
          · rw [if_neg c_4] at hf
            by_cases c_5 : w = 5
            · rw [if_pos c_5] at hf
              refine lv_tableIn (tgt := 486) hx hb dL_law_49 (by rw [c_5]; decide) (by rw [c_5]; decide) (by rw [c_5]; rfl) (by decide) ?_
              exact wC_seed B hX0 hM hO hst hX hbl hbA hc0 hs0 hf kk H locs ls hP hS hl
            · rw [if_neg c_5] at hf
              by_cases c_6 : w = 6
              · rw [if_pos c_6] at hf
                refine lv_tableIn (tgt := 522) hx hb dL_law_49 (by rw [c_6]; decide) (by rw [c_6]; decide) (by rw [c_6]; rfl) (by decide) ?_
                exact wC_solveP B hX0 hX1 hM hO hst hX hbl hbA hc0 hs0 hf kk H locs ls hP hS hl
              · rw [if_neg c_6] at hf
                by_cases c_7 : w = 7
                · rw [if_pos c_7] at hf
                  refine lv_tableIn (tgt := 578) hx hb dL_law_49 (by rw [c_7]; decide) (by rw [c_7]; decide) (by rw [c_7]; rfl) (by decide) ?_
                  exact wC_exact B hX0 hM hO hst hX hbl hbA hc0 hs0 hf kk H locs ls hP hS hl
                · rw [if_neg c_7] at hf
                  by_cases c_8 : w = 8
                  · rw [if_pos c_8] at hf
                    refine lv_tableIn (tgt := 591) hx hb dL_law_49 (by rw [c_8]; decide) (by rw [c_8]; decide) (by rw [c_8]; rfl) (by decide) ?_
                    exact wC_at B hX0 hM hO hst hX hbl hbA hc0 hs0 hf kk H locs ls hP hS hl
                  · rw [if_neg c_8] at hf
                    by_cases c_9 : w = 9
                    · rw [if_pos c_9] at hf
                      refine lv_tableIn (tgt := 671) hx hb dL_law_49 (by rw [c_9]; decide) (by rw [c_9]; decide) (by rw [c_9]; rfl) (by decide) ?_
                      exact wC_last B hX0 hM hO hst hX hbl hbA hc0 hs0 hf kk H locs ls hP hS hl
                    · rw [if_neg c_9] at hf
                      by_cases c_10 : w = 10
                      · rw [if_pos c_10] at hf
                        refine lv_tableIn (tgt := 715) hx hb dL_law_49 (by rw [c_10]; decide) (by rw [c_10]; decide) (by rw [c_10]; rfl) (by decide) ?_
                        exact wC_alone B hX0 hM hO hst hX hbl hbA hc0 hs0 hf kk H locs ls hP hS hl
                      · rw [if_neg c_10] at hf
                        by_cases c_11 : w = 11
                        · rw [if_pos c_11] at hf
                          refine lv_tableIn (tgt := 771) hx hb dL_law_49 (by rw [c_11]; decide) (by rw [c_11]; decide) (by rw [c_11]; rfl) (by decide) ?_
                          exact wC_bound B hX0 hM hO hst hX hbl hbA hc0 hs0 hf kk H locs ls hP hS hl
                        · rw [if_neg c_11] at hf
                          by_cases c_12 : w = 12
                          · rw [if_pos c_12] at hf
                            refine lv_tableIn (tgt := 815) hx hb dL_law_49 (by rw [c_12]; decide) (by rw [c_12]; decide) (by rw [c_12]; rfl) (by decide) ?_
                            exact wC_share B hX0 hM hO hst hX hbl hbA hc0 hs0 hf kk H locs ls hP hS hl
                          · rw [if_neg c_12] at hf
                            by_cases c_13 : w = 13
                            · rw [if_pos c_13] at hf
                              refine lv_tableIn (tgt := 859) hx hb dL_law_49 (by rw [c_13]; decide) (by rw [c_13]; decide) (by rw [c_13]; rfl) (by decide) ?_
                              exact wC_count B hX0 hM hO hst hX hbl hbA hc0 hs0 hf kk H locs ls hP hS hl
                            · rw [if_neg c_13] at hf
                              refine lv_tableOut (tgt := 884) hx hb dL_law_49 (jp_out w [0, 1, 2, 3, 4, 5, 6, 7, 8, 9, 10, 11, 12, 13] 0 13 (by decide) (by simp only [List.forall_mem_cons]; exact ⟨c_0, c_1, c_2, c_3, c_4, c_5, c_6, c_7, c_8, c_9, c_10, c_11, c_12, c_13, fun _ h => by cases h⟩)) (by decide) ?_
                              obtain ⟨rfl, rfl⟩ := jp_injK hf
                              refine W.widen (Nat.le_add_right cells 3) (Nat.le_add_right slots 18) ?_
                              exact kk H locs ls hP hS hl
