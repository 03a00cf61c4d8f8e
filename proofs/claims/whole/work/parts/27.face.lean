-- X7_swap
section
variable {p : Program} {l : Launch} {e : Jvm.Env} {s : State} {m : MethodId} {args : Array Value} {below : List Frame} {meth : Method} {c : Code} {Γ : jp_G} {Z : Nat → Option jp_Sh} {r0 : Int32} {σ0 : jp_I} {τ0 : jp_J}
def fX7_swap (n : Nat) (nc : Nat) (p1 : Int32) (σ : jp_I) (τ : jp_J) : Option (Int32 × jp_I × jp_J) :=
  if jp_isb p1 = true then if jp_isb (σ 1 4) = true then some (σ 1 4, jp_up σ 1 4 p1, τ) else none else none
set_option maxHeartbeats 4000000 in
set_option maxRecDepth 20000 in
theorem ctX7_swap {l : Launch} {Γ : jp_G} {Z : Nat → Option jp_Sh} {n : Nat} {nc : Nat} (hX0 : jp_hC Z n nc) {p1 : Int32} {σ σ0 : jp_I} {τ τ0 : jp_J} {r0 : Int32} (hf : fX7_swap n nc p1 σ τ = some (r0, σ0, τ0)) : jp_M l yX7_swap cX7_swap 3 (some .boolean) 0 0 Γ Z σ τ [.ref (Γ.2.2.1 0), .int p1] (some (.int r0)) σ0 τ0 := by
  refine jp_mk (lv := [(0, .ref (Γ.2.2.1 0)), (1, .int p1)]) (by decide) (Nat.le_of_ble_eq_true rfl) rfl fun p e s m args below meth c B => ?_
  obtain ⟨hx, hb, hml, hown, hts, hr, hlk, hE⟩ := id B
  unfold fX7_swap at hf
  intro H locs ls hP hS hl
  refine lv_aload_n hx hb dX7_swap_0 rfl (lv_at hl 0 rfl) ?_
  refine jp_getr (k := 1) B hP hX0.1 rfl rfl (by decide) jp_fX7 rfl mw_28 dX7_swap_1 ?_
  refine jp_getiN (k := 4) B hP hX0.2.1.1 rfl rfl (by decide) jp_fX5 rfl nw_153 dX7_swap_4 ?_
  refine lv_istore_n (lv' := [(2, .int (σ 1 4)), (0, .ref (Γ.2.2.1 0)), (1, .int p1)]) hx hb dX7_swap_7 rfl hl (by decide) rfl (fun ls hl => ?_)
  refine lv_aload_n hx hb dX7_swap_8 rfl (lv_at hl 1 rfl) ?_
  refine jp_getr (k := 1) B hP hX0.1 rfl rfl (by decide) jp_fX7 rfl mw_28 dX7_swap_9 ?_
  refine lv_iload_n hx hb dX7_swap_12 rfl (lv_at hl 2 rfl) ?_
  obtain ⟨g_1, hf⟩ := jp_if hf
  refine jp_putiN (k := 4) (ty := .boolean) B hP hS hX0.2.1.1 rfl rfl (by decide) jp_fX5 tyX5 tyX5_ok nmX5 rfl nw_153 rfl (by decide +kernel) (jp_isb_n g_1) (jp_isb_f g_1) dX7_swap_13 (fun H locs hP hS => ?_)
  refine lv_iload_n hx hb dX7_swap_16 rfl (lv_at hl 0 rfl) ?_
  obtain ⟨g_2, hf⟩ := jp_if hf
  exact jp_endz B hP hS g_2 dX7_swap_17 (jp_inj hf)
end
-- X7_exact
section
variable {p : Program} {l : Launch} {e : Jvm.Env} {s : State} {m : MethodId} {args : Array Value} {below : List Frame} {meth : Method} {c : Code} {Γ : jp_G} {Z : Nat → Option jp_Sh} {r0 : Int32} {σ0 : jp_I} {τ0 : jp_J}
def fX7_exact (n : Nat) (nc : Nat) (σ : jp_I) (τ : jp_J) : Option (Int32 × jp_I × jp_J) :=
  if 2 < (σ 0 0) then (some (0, σ, τ)) else ((fX2_isMade 11 12 nc σ τ).bind fun (a_2, σ_2, τ_2) => if a_2 = 0 then (some (0, σ_2, τ_2)) else (some (1, σ_2, τ_2)))
set_option maxHeartbeats 4000000 in
set_option maxRecDepth 20000 in
theorem ctX7_exact {l : Launch} {Γ : jp_G} {Z : Nat → Option jp_Sh} {n : Nat} {nc : Nat} (hX0 : jp_hC Z n nc) {σ σ0 : jp_I} {τ τ0 : jp_J} {r0 : Int32} (hf : fX7_exact n nc σ τ = some (r0, σ0, τ0)) : jp_M l yX7_exact cX7_exact 1 (some .boolean) 1 20 Γ Z σ τ [.ref (Γ.2.2.1 0)] (some (.int r0)) σ0 τ0 := by
  refine jp_mk (lv := [(0, .ref (Γ.2.2.1 0))]) (by decide) (Nat.le_of_ble_eq_true rfl) rfl fun p e s m args below meth c B => ?_
  obtain ⟨hx, hb, hml, hown, hts, hr, hlk, hE⟩ := id B
  unfold fX7_exact at hf
  intro H locs ls hP hS hl
  refine lv_aload_n hx hb dX7_exact_0 rfl (lv_at hl 0 rfl) ?_
  refine jp_geti (k := 0) B hP hX0.1 rfl rfl (by decide) jp_fX7 rfl mw_24 dX7_exact_1 ?_
  refine lv_iconst (v := 2) hx hb dX7_exact_4 (by decide) ?_
  refine lv_icmp_gt (tgt := 22) hx hb dX7_exact_5 (by decide) (fun c_1 => ?_) (fun c_1 => ?_)
  · rw [if_pos c_1] at hf
    refine lv_iconst (v := 0) hx hb dX7_exact_22 (by decide) ?_
    exact jp_endz B hP hS (by decide) dX7_exact_23 (jp_inj hf)
  · rw [if_neg c_1] at hf
    refine lv_aload_n hx hb dX7_exact_8 rfl (lv_at hl 0 rfl) ?_
    refine jp_getr (k := 4) B hP hX0.1 rfl rfl (by decide) jp_fX7 rfl mw_43 dX7_exact_9 ?_
    obtain ⟨⟨a_2, σ_2, τ_2⟩, h_2, hf⟩ := jp_bind hf
    dsimp only at hf
    refine jp_callVN (rest := []) B hP hS hl (ctX2_isMade ⟨hX0.2.2.2.1, hX0.2.2.2.2⟩ h_2) hX0.2.2.2.1 rfl mw_321 nw_329 mw_319 mw_320 mw_42 ddX2_isMade ⟨Nat.le_of_ble_eq_true rfl, Nat.le_of_ble_eq_true rfl⟩ ⟨Nat.zero_le _, Nat.zero_le _⟩ rfl (Nat.le_of_ble_eq_true rfl) dX7_exact_12 (fun H locs hP hS => ?_)
    refine lv_if_eq (tgt := 22) hx hb dX7_exact_15 (by decide) (fun c_3 => ?_) (fun c_3 => ?_)
    · rw [if_pos c_3] at hf
      refine lv_iconst (v := 0) hx hb dX7_exact_22 (by decide) ?_
      exact jp_endz B hP hS (by decide) dX7_exact_23 (jp_inj hf)
    · rw [if_neg c_3] at hf
      refine lv_iconst (v := 1) hx hb dX7_exact_18 (by decide) ?_
      refine lv_goto (tgt := 23) hx hb dX7_exact_19 (by decide) ?_
      exact jp_endz B hP hS (by decide) dX7_exact_23 (jp_inj hf)
end
-- X7_count
section
variable {p : Program} {l : Launch} {e : Jvm.Env} {s : State} {m : MethodId} {args : Array Value} {below : List Frame} {meth : Method} {c : Code} {Γ : jp_G} {Z : Nat → Option jp_Sh} {r0 : Int32} {σ0 : jp_I} {τ0 : jp_J}
def fX7_count (n : Nat) (nc : Nat) (p1 : Int32) (σ : jp_I) (τ : jp_J) : Option (Int32 × jp_I × jp_J) :=
  if p1 = 0 then (some (σ 0 0, σ, τ)) else (if p1 = 1 then (some (σ 2 4, σ, τ)) else (if p1 = 2 then (some (σ 2 5, σ, τ)) else (if p1 = 3 then (some (σ 2 6, σ, τ)) else (if p1 = 4 then (some (σ 11 3, σ, τ)) else (some ((-1), σ, τ))))))
set_option maxHeartbeats 4000000 in
set_option maxRecDepth 20000 in
theorem ctX7_count {l : Launch} {Γ : jp_G} {Z : Nat → Option jp_Sh} {n : Nat} {nc : Nat} (hX0 : jp_hC Z n nc) {p1 : Int32} {σ σ0 : jp_I} {τ τ0 : jp_J} {r0 : Int32} (hf : fX7_count n nc p1 σ τ = some (r0, σ0, τ0)) : jp_M l yX7_count cX7_count 2 (some .int) 0 0 Γ Z σ τ [.ref (Γ.2.2.1 0), .int p1] (some (.int r0)) σ0 τ0 := by
  refine jp_mk (lv := [(0, .ref (Γ.2.2.1 0)), (1, .int p1)]) (by decide) (Nat.le_of_ble_eq_true rfl) rfl fun p e s m args below meth c B => ?_
  obtain ⟨hx, hb, hml, hown, hts, hr, hlk, hE⟩ := id B
  unfold fX7_count at hf
  intro H locs ls hP hS hl
  refine lv_iload_n hx hb dX7_count_0 rfl (lv_at hl 1 rfl) ?_
  by_cases c_1 : p1 = 0
  · rw [if_pos c_1] at hf
    refine lv_tableIn (tgt := 36) hx hb dX7_count_1 (by rw [c_1]; decide) (by rw [c_1]; decide) (by rw [c_1]; rfl) (by decide) ?_
    refine lv_aload_n hx hb dX7_count_36 rfl (lv_at hl 0 rfl) ?_
    refine jp_geti (k := 0) B hP hX0.1 rfl rfl (by decide) jp_fX7 rfl mw_24 dX7_count_37 ?_
    exact jp_endi B hP hS dX7_count_40 (jp_inj hf)
  · rw [if_neg c_1] at hf
    by_cases c_2 : p1 = 1
    · rw [if_pos c_2] at hf
      refine lv_tableIn (tgt := 41) hx hb dX7_count_1 (by rw [c_2]; decide) (by rw [c_2]; decide) (by rw [c_2]; rfl) (by decide) ?_
      refine lv_aload_n hx hb dX7_count_41 rfl (lv_at hl 0 rfl) ?_
      refine jp_getr (k := 1) B hP hX0.1 rfl rfl (by decide) jp_fX7 rfl mw_28 dX7_count_42 ?_
      refine jp_getrN (k := 1) B hP hX0.2.1.1 rfl rfl (by decide) jp_fX5 rfl nw_141 dX7_count_45 ?_
      refine jp_getiN (k := 4) B hP hX0.2.1.2.2.2.1 rfl rfl (by decide) jp_fX0 rfl nw_116 dX7_count_48 ?_
      exact jp_endi B hP hS dX7_count_51 (jp_inj hf)
    · rw [if_neg c_2] at hf
      by_cases c_3 : p1 = 2
      · rw [if_pos c_3] at hf
        refine lv_tableIn (tgt := 52) hx hb dX7_count_1 (by rw [c_3]; decide) (by rw [c_3]; decide) (by rw [c_3]; rfl) (by decide) ?_
        refine lv_aload_n hx hb dX7_count_52 rfl (lv_at hl 0 rfl) ?_
        refine jp_getr (k := 1) B hP hX0.1 rfl rfl (by decide) jp_fX7 rfl mw_28 dX7_count_53 ?_
        refine jp_getrN (k := 1) B hP hX0.2.1.1 rfl rfl (by decide) jp_fX5 rfl nw_141 dX7_count_56 ?_
        refine jp_getiN (k := 5) B hP hX0.2.1.2.2.2.1 rfl rfl (by decide) jp_fX0 rfl nw_118 dX7_count_59 ?_
        exact jp_endi B hP hS dX7_count_62 (jp_inj hf)
      · rw [if_neg c_3] at hf
        by_cases c_4 : p1 = 3
        · rw [if_pos c_4] at hf
          refine lv_tableIn (tgt := 63) hx hb dX7_count_1 (by rw [c_4]; decide) (by rw [c_4]; decide) (by rw [c_4]; rfl) (by decide) ?_
          refine lv_aload_n hx hb dX7_count_63 rfl (lv_at hl 0 rfl) ?_
          refine jp_getr (k := 1) B hP hX0.1 rfl rfl (by decide) jp_fX7 rfl mw_28 dX7_count_64 ?_
          refine jp_getrN (k := 1) B hP hX0.2.1.1 rfl rfl (by decide) jp_fX5 rfl nw_141 dX7_count_67 ?_
          refine jp_getiN (k := 6) B hP hX0.2.1.2.2.2.1 rfl rfl (by decide) jp_fX0 rfl nw_120 dX7_count_70 ?_
          exact jp_endi B hP hS dX7_count_73 (jp_inj hf)
        · rw [if_neg c_4] at hf
          by_cases c_5 : p1 = 4
          · rw [if_pos c_5] at hf
            refine lv_tableIn (tgt := 74) hx hb dX7_count_1 (by rw [c_5]; decide) (by rw [c_5]; decide) (by rw [c_5]; rfl) (by decide) ?_
            refine lv_aload_n hx hb dX7_count_74 rfl (lv_at hl 0 rfl) ?_
            refine jp_getr (k := 4) B hP hX0.1 rfl rfl (by decide) jp_fX7 rfl mw_43 dX7_count_75 ?_
            refine jp_getiN (k := 3) B hP hX0.2.2.2.1 rfl rfl (by decide) jp_fX2 rfl nw_276 dX7_count_78 ?_
            exact jp_endi B hP hS dX7_count_81 (jp_inj hf)
          · rw [if_neg c_5] at hf
            refine lv_tableOut (tgt := 82) hx hb dX7_count_1 (jp_out p1 [0, 1, 2, 3, 4] 0 4 (by decide) (by simp only [List.forall_mem_cons]; exact ⟨c_1, c_2, c_3, c_4, c_5, fun _ h => by cases h⟩)) (by decide) ?_
            refine lv_iconst (v := -1) hx hb dX7_count_82 (by decide) ?_
            exact jp_endi B hP hS dX7_count_83 (jp_inj hf)
end
