-- X1_placeOf
section
variable {p : Program} {l : Launch} {e : Jvm.Env} {s : State} {m : MethodId} {args : Array Value} {below : List Frame} {meth : Method} {c : Code} {Γ : jp_G} {Z : Nat → Option jp_Sh} {r0 : Int32} {σ0 : jp_I} {τ0 : jp_J}
def fX1_placeOf (n : Nat) (nc : Nat) (nl : Nat) (row : Nat) (N : Nat) (p2 : Int32) (σ : jp_I) (τ : jp_J) : Option (Int32 × jp_I × jp_J) :=
  if (σ 13 1) ≤ p2 then (some (0, σ, τ)) else ((fX7_read row N p2 σ τ).bind fun (a_2, σ_2, τ_2) => some (a_2, σ_2, τ_2))
set_option maxHeartbeats 4000000 in
set_option maxRecDepth 20000 in
theorem ctX1_placeOf {l : Launch} {Γ : jp_G} {Z : Nat → Option jp_Sh} {n : Nat} {nc : Nat} {nl : Nat} {row : Nat} {N : Nat} (hX0 : jp_hJ Z n nc nl) (hX1 : jp_hA Z row N) {p2 : Int32} {σ σ0 : jp_I} {τ τ0 : jp_J} {r0 : Int32} (hf : fX1_placeOf n nc nl row N p2 σ τ = some (r0, σ0, τ0)) : jp_M l yX1_placeOf cX1_placeOf 3 (some .int) 1 21 Γ Z σ τ [.ref (Γ.2.2.1 13), .ref (Γ.2.2.1 row), .int p2] (some (.int r0)) σ0 τ0 := by
  refine jp_mk (lv := [(0, .ref (Γ.2.2.1 13)), (1, .ref (Γ.2.2.1 row)), (2, .int p2)]) (by decide) (Nat.le_of_ble_eq_true rfl) rfl fun p e s m args below meth c B => ?_
  obtain ⟨hx, hb, hml, hown, hts, hr, hlk, hE⟩ := id B
  unfold fX1_placeOf at hf
  intro H locs ls hP hS hl
  refine lv_iload_n hx hb dX1_placeOf_0 rfl (lv_at hl 2 rfl) ?_
  refine lv_aload_n hx hb dX1_placeOf_1 rfl (lv_at hl 0 rfl) ?_
  refine jp_geti (k := 1) B hP hX0.1 rfl rfl (by decide) jp_fX1 rfl mw_106 dX1_placeOf_2 ?_
  refine lv_icmp_ge (tgt := 16) hx hb dX1_placeOf_5 (by decide) (fun c_1 => ?_) (fun c_1 => ?_)
  · rw [if_pos c_1] at hf
    refine lv_iconst (v := 0) hx hb dX1_placeOf_16 (by decide) ?_
    exact jp_endi B hP hS dX1_placeOf_17 (jp_inj hf)
  · rw [if_neg c_1] at hf
    refine lv_aload_n hx hb dX1_placeOf_8 rfl (lv_at hl 1 rfl) ?_
    refine lv_iload_n hx hb dX1_placeOf_9 rfl (lv_at hl 2 rfl) ?_
    obtain ⟨⟨a_2, σ_2, τ_2⟩, h_2, hf⟩ := jp_bind hf
    dsimp only at hf
    refine jp_callSN (rest := []) B hP hS hl (ctX7_read hX1 h_2) mw_85 nw_541 mw_84 mw_2 ddX7_read ⟨Nat.le_of_ble_eq_true rfl, Nat.le_of_ble_eq_true rfl⟩ ⟨Nat.zero_le _, Nat.zero_le _⟩ rfl (Nat.le_of_ble_eq_true rfl) dX1_placeOf_10 (fun H locs hP hS => ?_)
    refine lv_goto (tgt := 17) hx hb dX1_placeOf_13 (by decide) ?_
    exact jp_endi B hP hS dX1_placeOf_17 (jp_inj hf)
end
-- X1_reach
section
variable {p : Program} {l : Launch} {e : Jvm.Env} {s : State} {m : MethodId} {args : Array Value} {below : List Frame} {meth : Method} {c : Code} {Γ : jp_G} {Z : Nat → Option jp_Sh} {r0 : Int32} {σ0 : jp_I} {τ0 : jp_J}
def fX1_reach (n : Nat) (nc : Nat) (nl : Nat) (p1 : Int32) (p2 : Int32) (σ : jp_I) (τ : jp_J) : Option (Int32 × jp_I × jp_J) :=
  (fX7_read 14 nl p1 σ τ).bind fun (a_1, σ_1, τ_1) => if a_1 = (-1) then ((fX7_write 14 nl p1 p2 σ_1 τ_1).bind fun (a_3, σ_3, τ_3) => (fX7_write 15 nl (σ_3 13 4) p1 σ_3 τ_3).bind fun (a_4, σ_4, τ_4) => some (0, jp_up σ_4 13 4 ((σ_4 13 4) + 1), τ_4)) else (some (0, σ_1, τ_1))
set_option maxHeartbeats 4000000 in
set_option maxRecDepth 20000 in
theorem ctX1_reach {l : Launch} {Γ : jp_G} {Z : Nat → Option jp_Sh} {n : Nat} {nc : Nat} {nl : Nat} (hX0 : jp_hJ Z n nc nl) {p1 : Int32} {p2 : Int32} {σ σ0 : jp_I} {τ τ0 : jp_J} {r0 : Int32} (hf : fX1_reach n nc nl p1 p2 σ τ = some (r0, σ0, τ0)) : jp_M l yX1_reach cX1_reach 3 none 1 22 Γ Z σ τ [.ref (Γ.2.2.1 13), .int p1, .int p2] none σ0 τ0 := by
  refine jp_mk (lv := [(0, .ref (Γ.2.2.1 13)), (1, .int p1), (2, .int p2)]) (by decide) (Nat.le_of_ble_eq_true rfl) rfl fun p e s m args below meth c B => ?_
  obtain ⟨hx, hb, hml, hown, hts, hr, hlk, hE⟩ := id B
  unfold fX1_reach at hf
  intro H locs ls hP hS hl
  refine lv_aload_n hx hb dX1_reach_0 rfl (lv_at hl 0 rfl) ?_
  refine jp_getr (k := 2) B hP hX0.1 rfl rfl (by decide) jp_fX1 rfl mw_107 dX1_reach_1 ?_
  refine lv_iload_n hx hb dX1_reach_4 rfl (lv_at hl 1 rfl) ?_
  obtain ⟨⟨a_1, σ_1, τ_1⟩, h_1, hf⟩ := jp_bind hf
  dsimp only at hf
  refine jp_callSN (rest := []) B hP hS hl (ctX7_read hX0.2.1 h_1) mw_85 nw_541 mw_84 mw_2 ddX7_read ⟨Nat.le_of_ble_eq_true rfl, Nat.le_of_ble_eq_true rfl⟩ ⟨Nat.zero_le _, Nat.zero_le _⟩ rfl (Nat.le_of_ble_eq_true rfl) dX1_reach_5 (fun H locs hP hS => ?_)
  refine lv_iconst (v := -1) hx hb dX1_reach_8 (by decide) ?_
  refine lv_icmp_ne (tgt := 43) hx hb dX1_reach_9 (by decide) (fun c_2 => ?_) (fun c_2 => ?_)
  · rw [if_neg c_2] at hf
    exact jp_endv B hP hS dX1_reach_43 (jp_inj hf)
  · rw [if_pos c_2] at hf
    refine lv_aload_n hx hb dX1_reach_12 rfl (lv_at hl 0 rfl) ?_
    refine jp_getr (k := 2) B hP hX0.1 rfl rfl (by decide) jp_fX1 rfl mw_107 dX1_reach_13 ?_
    refine lv_iload_n hx hb dX1_reach_16 rfl (lv_at hl 1 rfl) ?_
    refine lv_iload_n hx hb dX1_reach_17 rfl (lv_at hl 2 rfl) ?_
    obtain ⟨⟨a_3, σ_3, τ_3⟩, h_3, hf⟩ := jp_bind hf
    dsimp only at hf
    refine jp_callSN (rest := []) B hP hS hl (ctX7_write hX0.2.1 h_3) mw_95 nw_551 mw_94 mw_2 ddX7_write ⟨Nat.le_of_ble_eq_true rfl, Nat.le_of_ble_eq_true rfl⟩ ⟨Nat.zero_le _, Nat.zero_le _⟩ rfl (Nat.le_of_ble_eq_true rfl) dX1_reach_18 (fun H locs hP hS => ?_)
    refine lv_aload_n hx hb dX1_reach_21 rfl (lv_at hl 0 rfl) ?_
    refine jp_getr (k := 3) B hP hX0.1 rfl rfl (by decide) jp_fX1 rfl mw_108 dX1_reach_22 ?_
    refine lv_aload_n hx hb dX1_reach_25 rfl (lv_at hl 0 rfl) ?_
    refine jp_geti (k := 4) B hP hX0.1 rfl rfl (by decide) jp_fX1 rfl mw_292 dX1_reach_26 ?_
    refine lv_iload_n hx hb dX1_reach_29 rfl (lv_at hl 1 rfl) ?_
    obtain ⟨⟨a_4, σ_4, τ_4⟩, h_4, hf⟩ := jp_bind hf
    dsimp only at hf
    refine jp_callSN (rest := []) B hP hS hl (ctX7_write hX0.2.2.1 h_4) mw_95 nw_551 mw_94 mw_2 ddX7_write ⟨Nat.le_of_ble_eq_true rfl, Nat.le_of_ble_eq_true rfl⟩ ⟨Nat.zero_le _, Nat.zero_le _⟩ rfl (Nat.le_of_ble_eq_true rfl) dX1_reach_30 (fun H locs hP hS => ?_)
    refine lv_aload_n hx hb dX1_reach_33 rfl (lv_at hl 0 rfl) ?_
    refine lv_dup hx hb dX1_reach_34 rfl ?_
    refine jp_geti (k := 4) B hP hX0.1 rfl rfl (by decide) jp_fX1 rfl mw_292 dX1_reach_35 ?_
    refine lv_iconst (v := 1) hx hb dX1_reach_38 (by decide) ?_
    refine lv_iadd hx hb dX1_reach_39 ?_
    refine jp_puti (k := 4) (ty := .int) B hP hS hX0.1 rfl rfl (by decide) jp_fX1 tyX1 tyX1_ok nmX1 rfl mw_292 rfl (by decide +kernel) rfl rfl dX1_reach_40 (fun H locs hP hS => ?_)
    exact jp_endv B hP hS dX1_reach_43 (jp_inj hf)
end
-- X1_next
section
variable {p : Program} {l : Launch} {e : Jvm.Env} {s : State} {m : MethodId} {args : Array Value} {below : List Frame} {meth : Method} {c : Code} {Γ : jp_G} {Z : Nat → Option jp_Sh} {r0 : Int32} {σ0 : jp_I} {τ0 : jp_J}
def fX1_next (n : Nat) (nc : Nat) (nl : Nat) (p1 : Int32) (p2 : Int32) (p3 : Int32) (σ : jp_I) (τ : jp_J) : Option (Int32 × jp_I × jp_J) :=
  if (σ 13 1) ≤ p1 then (if p3 = 0 then (some (p2, σ, τ)) else (some ((-1), σ, τ))) else ((fX0_moved p2 p3 σ τ).bind fun (a_3, σ_3, τ_3) => some (a_3, σ_3, τ_3))
set_option maxHeartbeats 4000000 in
set_option maxRecDepth 20000 in
theorem ctX1_next {l : Launch} {Γ : jp_G} {Z : Nat → Option jp_Sh} {n : Nat} {nc : Nat} {nl : Nat} (hX0 : jp_hJ Z n nc nl) {p1 : Int32} {p2 : Int32} {p3 : Int32} {σ σ0 : jp_I} {τ τ0 : jp_J} {r0 : Int32} (hf : fX1_next n nc nl p1 p2 p3 σ τ = some (r0, σ0, τ0)) : jp_M l yX1_next cX1_next 4 (some .int) 2 43 Γ Z σ τ [.ref (Γ.2.2.1 13), .int p1, .int p2, .int p3] (some (.int r0)) σ0 τ0 := by
  refine jp_mk (lv := [(0, .ref (Γ.2.2.1 13)), (1, .int p1), (2, .int p2), (3, .int p3)]) (by decide) (Nat.le_of_ble_eq_true rfl) rfl fun p e s m args below meth c B => ?_
  obtain ⟨hx, hb, hml, hown, hts, hr, hlk, hE⟩ := id B
  unfold fX1_next at hf
  intro H locs ls hP hS hl
  refine lv_iload_n hx hb dX1_next_0 rfl (lv_at hl 1 rfl) ?_
  refine lv_aload_n hx hb dX1_next_1 rfl (lv_at hl 0 rfl) ?_
  refine jp_geti (k := 1) B hP hX0.1 rfl rfl (by decide) jp_fX1 rfl mw_106 dX1_next_2 ?_
  refine lv_icmp_ge (tgt := 21) hx hb dX1_next_5 (by decide) (fun c_1 => ?_) (fun c_1 => ?_)
  · rw [if_pos c_1] at hf
    refine lv_iload_n hx hb dX1_next_21 rfl (lv_at hl 3 rfl) ?_
    refine lv_if_ne (tgt := 29) hx hb dX1_next_22 (by decide) (fun c_2 => ?_) (fun c_2 => ?_)
    · rw [if_neg c_2] at hf
      refine lv_iconst (v := -1) hx hb dX1_next_29 (by decide) ?_
      exact jp_endi B hP hS dX1_next_30 (jp_inj hf)
    · rw [if_pos c_2] at hf
      refine lv_iload_n hx hb dX1_next_25 rfl (lv_at hl 2 rfl) ?_
      refine lv_goto (tgt := 30) hx hb dX1_next_26 (by decide) ?_
      exact jp_endi B hP hS dX1_next_30 (jp_inj hf)
  · rw [if_neg c_1] at hf
    refine lv_aload_n hx hb dX1_next_8 rfl (lv_at hl 0 rfl) ?_
    refine jp_getr (k := 0) B hP hX0.1 rfl rfl (by decide) jp_fX1 rfl mw_105 dX1_next_9 ?_
    refine jp_getrN (k := 1) B hP hX0.2.2.2.1.1 rfl rfl (by decide) jp_fX5 rfl nw_143 dX1_next_12 ?_
    refine lv_iload_n hx hb dX1_next_15 rfl (lv_at hl 2 rfl) ?_
    refine lv_iload_n hx hb dX1_next_16 rfl (lv_at hl 3 rfl) ?_
    obtain ⟨⟨a_3, σ_3, τ_3⟩, h_3, hf⟩ := jp_bind hf
    dsimp only at hf
    refine jp_callVN (rest := []) B hP hS hl (ctX0_moved ⟨hX0.2.2.2.1.2.2.2.1, hX0.2.2.2.1.2.2.2.2.1, hX0.2.2.2.1.2.2.2.2.2.1, hX0.2.2.2.1.2.2.2.2.2.2.1, hX0.2.2.2.1.2.2.2.2.2.2.2⟩ h_3) hX0.2.2.2.1.2.2.2.1 rfl mw_308 nw_560 mw_306 mw_307 mw_49 ddX0_moved ⟨Nat.le_of_ble_eq_true rfl, Nat.le_of_ble_eq_true rfl⟩ ⟨Nat.zero_le _, Nat.zero_le _⟩ rfl (Nat.le_of_ble_eq_true rfl) dX1_next_17 (fun H locs hP hS => ?_)
    exact jp_endi B hP hS dX1_next_20 (jp_inj hf)
end
-- X1_stepCost
section
variable {p : Program} {l : Launch} {e : Jvm.Env} {s : State} {m : MethodId} {args : Array Value} {below : List Frame} {meth : Method} {c : Code} {Γ : jp_G} {Z : Nat → Option jp_Sh} {r0 : Int32} {σ0 : jp_I} {τ0 : jp_J}
def fX1_stepCost (n : Nat) (nc : Nat) (nl : Nat) (p1 : Int32) (p2 : Int32) (p3 : Int32) (p4 : Int32) (σ : jp_I) (τ : jp_J) : Option (Int32 × jp_I × jp_J) :=
  (fX7_ownCost p1 p3 (σ 13 5) σ τ).bind fun (a_1, σ_1, τ_1) => (fX7_ownCost p2 p4 (σ_1 13 6) σ_1 τ_1).bind fun (a_2, σ_2, τ_2) => some (a_1 + a_2, σ_2, τ_2)
set_option maxHeartbeats 4000000 in
set_option maxRecDepth 20000 in
theorem ctX1_stepCost {l : Launch} {Γ : jp_G} {Z : Nat → Option jp_Sh} {n : Nat} {nc : Nat} {nl : Nat} (hX0 : jp_hJ Z n nc nl) {p1 : Int32} {p2 : Int32} {p3 : Int32} {p4 : Int32} {σ σ0 : jp_I} {τ τ0 : jp_J} {r0 : Int32} (hf : fX1_stepCost n nc nl p1 p2 p3 p4 σ τ = some (r0, σ0, τ0)) : jp_M l yX1_stepCost cX1_stepCost 5 (some .int) 1 22 Γ Z σ τ [.ref (Γ.2.2.1 13), .int p1, .int p2, .int p3, .int p4] (some (.int r0)) σ0 τ0 := by
  refine jp_mk (lv := [(0, .ref (Γ.2.2.1 13)), (1, .int p1), (2, .int p2), (3, .int p3), (4, .int p4)]) (by decide) (Nat.le_of_ble_eq_true rfl) rfl fun p e s m args below meth c B => ?_
  obtain ⟨hx, hb, hml, hown, hts, hr, hlk, hE⟩ := id B
  unfold fX1_stepCost at hf
  intro H locs ls hP hS hl
  refine lv_iload_n hx hb dX1_stepCost_0 rfl (lv_at hl 1 rfl) ?_
  refine lv_iload_n hx hb dX1_stepCost_1 rfl (lv_at hl 3 rfl) ?_
  refine lv_aload_n hx hb dX1_stepCost_2 rfl (lv_at hl 0 rfl) ?_
  refine jp_geti (k := 5) B hP hX0.1 rfl rfl (by decide) jp_fX1 rfl mw_282 dX1_stepCost_3 ?_
  obtain ⟨⟨a_1, σ_1, τ_1⟩, h_1, hf⟩ := jp_bind hf
  dsimp only at hf
  refine jp_callSN (rest := []) B hP hS hl (ctX7_ownCost h_1) mw_314 nw_568 mw_313 mw_2 ddX7_ownCost ⟨Nat.le_of_ble_eq_true rfl, Nat.le_of_ble_eq_true rfl⟩ ⟨Nat.zero_le _, Nat.zero_le _⟩ rfl (Nat.le_of_ble_eq_true rfl) dX1_stepCost_6 (fun H locs hP hS => ?_)
  refine lv_iload_n hx hb dX1_stepCost_9 rfl (lv_at hl 2 rfl) ?_
  refine lv_iload hx hb dX1_stepCost_10 (lv_at hl 4 rfl) ?_
  refine lv_aload_n hx hb dX1_stepCost_12 rfl (lv_at hl 0 rfl) ?_
  refine jp_geti (k := 6) B hP hX0.1 rfl rfl (by decide) jp_fX1 rfl mw_283 dX1_stepCost_13 ?_
  obtain ⟨⟨a_2, σ_2, τ_2⟩, h_2, hf⟩ := jp_bind hf
  dsimp only at hf
  refine jp_callSN (rest := [.int a_1]) B hP hS hl (ctX7_ownCost h_2) mw_314 nw_568 mw_313 mw_2 ddX7_ownCost ⟨Nat.le_of_ble_eq_true rfl, Nat.le_of_ble_eq_true rfl⟩ ⟨Nat.zero_le _, Nat.zero_le _⟩ rfl (Nat.le_of_ble_eq_true rfl) dX1_stepCost_16 (fun H locs hP hS => ?_)
  refine lv_iadd hx hb dX1_stepCost_19 ?_
  exact jp_endi B hP hS dX1_stepCost_20 (jp_inj hf)
end
-- X1_fits
section
variable {p : Program} {l : Launch} {e : Jvm.Env} {s : State} {m : MethodId} {args : Array Value} {below : List Frame} {meth : Method} {c : Code} {Γ : jp_G} {Z : Nat → Option jp_Sh} {r0 : Int32} {σ0 : jp_I} {τ0 : jp_J}
def bX1_fits_26 (n : Nat) (nc : Nat) (nl : Nat) (x3 : Int32) (x4 : Int32) (y0 : Int32) (σ : jp_I) (τ : jp_J) : Option (Int32 × jp_I × jp_J) :=
  if (σ 13 1) < 2 then (some (1, σ, τ)) else (if x3 = x4 then (some (0, σ, τ)) else (if y0 = 0 then (some (1, σ, τ)) else (some (0, σ, τ))))
set_option maxHeartbeats 4000000 in
set_option maxRecDepth 20000 in
theorem wbX1_fits_26 (B : jp_B Γ p s m args meth c RX1 cX1_fits 6 (some .boolean)) {n : Nat} {nc : Nat} {nl : Nat} (hX0 : jp_hJ Z n nc nl) {x3 : Int32} {x4 : Int32} {y0 : Int32} {σ : jp_I} {τ : jp_J} (hf : bX1_fits_26 n nc nl x3 x4 y0 σ τ = some (r0, σ0, τ0)) : jp_at p l e (jp_R 0 0) s m args below meth c (MQ below (jp_Q Γ Z (some (.int r0)) σ0 τ0) args s 0 0 (jp_A Γ)) 6 Γ Z 26 [(0, .ref (Γ.2.2.1 13)), (3, .int x3), (4, .int x4)] [.int y0] σ τ := by
  obtain ⟨hx, hb, hml, hown, hts, hr, hlk, hE⟩ := id B
  unfold bX1_fits_26 at hf
  intro H locs ls hP hS hl
  refine lv_istore (lv' := [(5, .int y0), (0, .ref (Γ.2.2.1 13)), (3, .int x3), (4, .int x4)]) hx hb dX1_fits_26 hl (by decide) rfl (fun ls hl => ?_)
  refine lv_aload_n hx hb dX1_fits_28 rfl (lv_at hl 1 rfl) ?_
  refine jp_geti (k := 1) B hP hX0.1 rfl rfl (by decide) jp_fX1 rfl mw_106 dX1_fits_29 ?_
  refine lv_iconst (v := 2) hx hb dX1_fits_32 (by decide) ?_
  refine lv_icmp_lt (tgt := 47) hx hb dX1_fits_33 (by decide) (fun c_1 => ?_) (fun c_1 => ?_)
  · rw [if_pos c_1] at hf
    refine lv_iconst (v := 1) hx hb dX1_fits_47 (by decide) ?_
    refine lv_goto (tgt := 52) hx hb dX1_fits_48 (by decide) ?_
    exact jp_endz B hP hS (by decide) dX1_fits_52 (jp_inj hf)
  · rw [if_neg c_1] at hf
    refine lv_iload_n hx hb dX1_fits_36 rfl (lv_at hl 2 rfl) ?_
    refine lv_iload hx hb dX1_fits_37 (lv_at hl 3 rfl) ?_
    refine lv_icmp_eq (tgt := 51) hx hb dX1_fits_39 (by decide) (fun c_2 => ?_) (fun c_2 => ?_)
    · rw [if_pos c_2] at hf
      refine lv_iconst (v := 0) hx hb dX1_fits_51 (by decide) ?_
      exact jp_endz B hP hS (by decide) dX1_fits_52 (jp_inj hf)
    · rw [if_neg c_2] at hf
      refine lv_iload hx hb dX1_fits_42 (lv_at hl 0 rfl) ?_
      refine lv_if_ne (tgt := 51) hx hb dX1_fits_44 (by decide) (fun c_3 => ?_) (fun c_3 => ?_)
      · rw [if_neg c_3] at hf
        refine lv_iconst (v := 0) hx hb dX1_fits_51 (by decide) ?_
        exact jp_endz B hP hS (by decide) dX1_fits_52 (jp_inj hf)
      · rw [if_pos c_3] at hf
        refine lv_iconst (v := 1) hx hb dX1_fits_47 (by decide) ?_
        refine lv_goto (tgt := 52) hx hb dX1_fits_48 (by decide) ?_
        exact jp_endz B hP hS (by decide) dX1_fits_52 (jp_inj hf)
def bX1_fits_25 (n : Nat) (nc : Nat) (nl : Nat) (x3 : Int32) (x4 : Int32) (σ : jp_I) (τ : jp_J) : Option (Int32 × jp_I × jp_J) :=
  bX1_fits_26 n nc nl x3 x4 0 σ τ
set_option maxHeartbeats 4000000 in
set_option maxRecDepth 20000 in
theorem wbX1_fits_25 (B : jp_B Γ p s m args meth c RX1 cX1_fits 6 (some .boolean)) {n : Nat} {nc : Nat} {nl : Nat} (hX0 : jp_hJ Z n nc nl) {x3 : Int32} {x4 : Int32} {σ : jp_I} {τ : jp_J} (hf : bX1_fits_25 n nc nl x3 x4 σ τ = some (r0, σ0, τ0)) : jp_at p l e (jp_R 0 0) s m args below meth c (MQ below (jp_Q Γ Z (some (.int r0)) σ0 τ0) args s 0 0 (jp_A Γ)) 6 Γ Z 25 [(0, .ref (Γ.2.2.1 13)), (3, .int x3), (4, .int x4)] [] σ τ := by
  obtain ⟨hx, hb, hml, hown, hts, hr, hlk, hE⟩ := id B
  unfold bX1_fits_25 at hf
  intro H locs ls hP hS hl
  refine lv_iconst (v := 0) hx hb dX1_fits_25 (by decide) ?_
  exact wbX1_fits_26 B hX0 hf H locs ls hP hS (lv_sub hl [0, 1, 2] rfl)
def fX1_fits (n : Nat) (nc : Nat) (nl : Nat) (p1 : Int32) (p2 : Int32) (p3 : Int32) (p4 : Int32) (σ : jp_I) (τ : jp_J) : Option (Int32 × jp_I × jp_J) :=
  if (σ 1 4) = 0 then (bX1_fits_25 n nc nl p3 p4 σ τ) else (if p3 = p2 then (if p4 = p1 then (bX1_fits_26 n nc nl p3 p4 1 σ τ) else (bX1_fits_25 n nc nl p3 p4 σ τ)) else (bX1_fits_25 n nc nl p3 p4 σ τ))
set_option maxHeartbeats 4000000 in
set_option maxRecDepth 20000 in
theorem ctX1_fits {l : Launch} {Γ : jp_G} {Z : Nat → Option jp_Sh} {n : Nat} {nc : Nat} {nl : Nat} (hX0 : jp_hJ Z n nc nl) {p1 : Int32} {p2 : Int32} {p3 : Int32} {p4 : Int32} {σ σ0 : jp_I} {τ τ0 : jp_J} {r0 : Int32} (hf : fX1_fits n nc nl p1 p2 p3 p4 σ τ = some (r0, σ0, τ0)) : jp_M l yX1_fits cX1_fits 6 (some .boolean) 0 0 Γ Z σ τ [.ref (Γ.2.2.1 13), .int p1, .int p2, .int p3, .int p4] (some (.int r0)) σ0 τ0 := by
  refine jp_mk (lv := [(0, .ref (Γ.2.2.1 13)), (1, .int p1), (2, .int p2), (3, .int p3), (4, .int p4)]) (by decide) (Nat.le_of_ble_eq_true rfl) rfl fun p e s m args below meth c B => ?_
  obtain ⟨hx, hb, hml, hown, hts, hr, hlk, hE⟩ := id B
  unfold fX1_fits at hf
  intro H locs ls hP hS hl
  refine lv_aload_n hx hb dX1_fits_0 rfl (lv_at hl 0 rfl) ?_
  refine jp_getr (k := 0) B hP hX0.1 rfl rfl (by decide) jp_fX1 rfl mw_105 dX1_fits_1 ?_
  refine jp_getiN (k := 4) B hP hX0.2.2.2.1.1 rfl rfl (by decide) jp_fX5 rfl nw_155 dX1_fits_4 ?_
  refine lv_if_eq (tgt := 25) hx hb dX1_fits_7 (by decide) (fun c_1 => ?_) (fun c_1 => ?_)
  · rw [if_pos c_1] at hf
    exact wbX1_fits_25 B hX0 hf H locs ls hP hS (lv_sub hl [0, 3, 4] rfl)
  · rw [if_neg c_1] at hf
    refine lv_iload_n hx hb dX1_fits_10 rfl (lv_at hl 3 rfl) ?_
    refine lv_iload_n hx hb dX1_fits_11 rfl (lv_at hl 2 rfl) ?_
    refine lv_icmp_ne (tgt := 25) hx hb dX1_fits_12 (by decide) (fun c_2 => ?_) (fun c_2 => ?_)
    · rw [if_neg c_2] at hf
      exact wbX1_fits_25 B hX0 hf H locs ls hP hS (lv_sub hl [0, 3, 4] rfl)
    · rw [if_pos c_2] at hf
      refine lv_iload hx hb dX1_fits_15 (lv_at hl 4 rfl) ?_
      refine lv_iload_n hx hb dX1_fits_17 rfl (lv_at hl 1 rfl) ?_
      refine lv_icmp_ne (tgt := 25) hx hb dX1_fits_18 (by decide) (fun c_3 => ?_) (fun c_3 => ?_)
      · rw [if_neg c_3] at hf
        exact wbX1_fits_25 B hX0 hf H locs ls hP hS (lv_sub hl [0, 3, 4] rfl)
      · rw [if_pos c_3] at hf
        refine lv_iconst (v := 1) hx hb dX1_fits_21 (by decide) ?_
        refine lv_goto (tgt := 26) hx hb dX1_fits_22 (by decide) ?_
        exact wbX1_fits_26 B hX0 hf H locs ls hP hS (lv_sub hl [0, 3, 4] rfl)
end
-- X1_reachBefore
section
variable {p : Program} {l : Launch} {e : Jvm.Env} {s : State} {m : MethodId} {args : Array Value} {below : List Frame} {meth : Method} {c : Code} {Γ : jp_G} {Z : Nat → Option jp_Sh} {r0 : Int32} {σ0 : jp_I} {τ0 : jp_J}
def bX1_reachBefore_108_in35 (n : Nat) (nc : Nat) (nl : Nat) (x2 : Int32) (x3 : Int32) (x4 : Int32) (x5 : Int32) (x6 : Int32) (x7 : Int32) (x8 : Int32) (σ : jp_I) (τ : jp_J) : Option (Sum (Int32) (Sum (Unit) Int32) × jp_I × jp_J) :=
  some (.inl (x8 + 1), σ, τ)
set_option maxHeartbeats 4000000 in
set_option maxRecDepth 20000 in
theorem wbX1_reachBefore_108_in35 (B : jp_B Γ p s m args meth c RX1 cX1_reachBefore 10 none) {n : Nat} {nc : Nat} {nl : Nat} (hX0 : jp_hJ Z n nc nl) {x2 : Int32} {x3 : Int32} {x4 : Int32} {x5 : Int32} {x6 : Int32} {x7 : Int32} {x8 : Int32} {σ : jp_I} {τ : jp_J} {q : Sum (Int32) (Sum (Unit) Int32) × jp_I × jp_J} (hf : bX1_reachBefore_108_in35 n nc nl x2 x3 x4 x5 x6 x7 x8 σ τ = some q) (kb : ∀ v : Int32, q.1 = .inl v → jp_at p l e (jp_R 3 66) s m args below meth c (MQ below (jp_Q Γ Z none σ0 τ0) args s 0 0 (jp_A Γ)) 10 Γ Z 35 [(0, .ref (Γ.2.2.1 13)), (2, .int x2), (3, .int x3), (4, .int x4), (5, .int x5), (6, .int x6), (7, .int x7), (8, .int v)] [] q.2.1 q.2.2) (kx : ∀ v : Unit, q.1 = .inr (.inl v) → jp_at p l e (jp_R 3 66) s m args below meth c (MQ below (jp_Q Γ Z none σ0 τ0) args s 0 0 (jp_A Γ)) 10 Γ Z 114 [(0, .ref (Γ.2.2.1 13)), (2, .int x2), (3, .int x3), (4, .int x4), (5, .int x5), (6, .int x6)] [] q.2.1 q.2.2) (kr : ∀ v : Int32, q.1 = .inr (.inr v) → r0 = v ∧ σ0 = q.2.1 ∧ τ0 = q.2.2) : jp_at p l e (jp_R 3 66) s m args below meth c (MQ below (jp_Q Γ Z none σ0 τ0) args s 0 0 (jp_A Γ)) 10 Γ Z 108 [(0, .ref (Γ.2.2.1 13)), (2, .int x2), (3, .int x3), (4, .int x4), (5, .int x5), (6, .int x6), (7, .int x7), (8, .int x8)] [] σ τ := by
  obtain ⟨hx, hb, hml, hown, hts, hr, hlk, hE⟩ := id B
  unfold bX1_reachBefore_108_in35 at hf
  intro H locs ls hP hS hl
  refine lv_iinc (v := x8 + 1) (lv' := [(8, .int (x8 + 1)), (0, .ref (Γ.2.2.1 13)), (2, .int x2), (3, .int x3), (4, .int x4), (5, .int x5), (6, .int x6), (7, .int x7)]) hx hb dX1_reachBefore_108 hl (k := 7) rfl rfl (by decide) rfl (fun ls hl => ?_)
  refine lv_goto (tgt := 35) hx hb dX1_reachBefore_111 (by decide) ?_
  obtain rfl := Option.some.inj hf
  exact kb _ rfl H locs ls hP hS (lv_sub hl [1, 2, 3, 4, 5, 6, 7, 0] rfl)
def sX1_reachBefore_35 (n : Nat) (nc : Nat) (nl : Nat) (x2 : Int32) (x3 : Int32) (x4 : Int32) (x5 : Int32) (x6 : Int32) (x7 : Int32) (x8 : Int32) (σ : jp_I) (τ : jp_J) : Option (Sum (Int32) (Sum (Unit) Int32) × jp_I × jp_J) :=
  if 5 ≤ x8 then (some (.inr (.inl ()), σ, τ)) else (if x7 = (-1) then (some (.inr (.inl ()), σ, τ)) else ((fX1_next n nc nl 1 x5 x8 σ τ).bind fun (a_3, σ_3, τ_3) => if a_3 = (-1) then (bX1_reachBefore_108_in35 n nc nl x2 x3 x4 x5 x6 x7 x8 σ_3 τ_3) else ((fX1_stepCost n nc nl x7 a_3 x4 x5 σ_3 τ_3).bind fun (a_5, σ_5, τ_5) => if a_5 = x2 then ((fX1_fits n nc nl x4 x5 x7 a_3 σ_5 τ_5).bind fun (a_7, σ_7, τ_7) => if a_7 = 0 then (bX1_reachBefore_108_in35 n nc nl x2 x3 x4 x5 x6 x7 x8 σ_7 τ_7) else ((fX1_reach n nc nl (x7 + (36 * a_3)) x3 σ_7 τ_7).bind fun (a_9, σ_9, τ_9) => bX1_reachBefore_108_in35 n nc nl x2 x3 x4 x5 x6 x7 x8 σ_9 τ_9)) else (bX1_reachBefore_108_in35 n nc nl x2 x3 x4 x5 x6 x7 x8 σ_5 τ_5))))
set_option maxHeartbeats 4000000 in
set_option maxRecDepth 20000 in
theorem wsX1_reachBefore_35 (B : jp_B Γ p s m args meth c RX1 cX1_reachBefore 10 none) {n : Nat} {nc : Nat} {nl : Nat} (hX0 : jp_hJ Z n nc nl) {x2 : Int32} {x3 : Int32} {x4 : Int32} {x5 : Int32} {x6 : Int32} {x7 : Int32} {x8 : Int32} {σ : jp_I} {τ : jp_J} {q : Sum (Int32) (Sum (Unit) Int32) × jp_I × jp_J} (hf : sX1_reachBefore_35 n nc nl x2 x3 x4 x5 x6 x7 x8 σ τ = some q) (kb : ∀ v : Int32, q.1 = .inl v → jp_at p l e (jp_R 3 66) s m args below meth c (MQ below (jp_Q Γ Z none σ0 τ0) args s 0 0 (jp_A Γ)) 10 Γ Z 35 [(0, .ref (Γ.2.2.1 13)), (2, .int x2), (3, .int x3), (4, .int x4), (5, .int x5), (6, .int x6), (7, .int x7), (8, .int v)] [] q.2.1 q.2.2) (kx : ∀ v : Unit, q.1 = .inr (.inl v) → jp_at p l e (jp_R 3 66) s m args below meth c (MQ below (jp_Q Γ Z none σ0 τ0) args s 0 0 (jp_A Γ)) 10 Γ Z 114 [(0, .ref (Γ.2.2.1 13)), (2, .int x2), (3, .int x3), (4, .int x4), (5, .int x5), (6, .int x6)] [] q.2.1 q.2.2) (kr : ∀ v : Int32, q.1 = .inr (.inr v) → r0 = v ∧ σ0 = q.2.1 ∧ τ0 = q.2.2) : jp_at p l e (jp_R 3 66) s m args below meth c (MQ below (jp_Q Γ Z none σ0 τ0) args s 0 0 (jp_A Γ)) 10 Γ Z 35 [(0, .ref (Γ.2.2.1 13)), (2, .int x2), (3, .int x3), (4, .int x4), (5, .int x5), (6, .int x6), (7, .int x7), (8, .int x8)] [] σ τ := by
  obtain ⟨hx, hb, hml, hown, hts, hr, hlk, hE⟩ := id B
  unfold sX1_reachBefore_35 at hf
  intro H locs ls hP hS hl
  refine lv_iload hx hb dX1_reachBefore_35 (lv_at hl 7 rfl) ?_
  refine lv_iconst (v := 5) hx hb dX1_reachBefore_37 (by decide) ?_
  refine lv_icmp_ge (tgt := 114) hx hb dX1_reachBefore_38 (by decide) (fun c_1 => ?_) (fun c_1 => ?_)
  · rw [if_pos c_1] at hf
    obtain rfl := Option.some.inj hf
    exact kx _ rfl H locs ls hP hS (lv_sub hl [0, 1, 2, 3, 4, 5] rfl)
  · rw [if_neg c_1] at hf
    refine lv_iload hx hb dX1_reachBefore_41 (lv_at hl 6 rfl) ?_
    refine lv_iconst (v := -1) hx hb dX1_reachBefore_43 (by decide) ?_
    refine lv_icmp_eq (tgt := 114) hx hb dX1_reachBefore_44 (by decide) (fun c_2 => ?_) (fun c_2 => ?_)
    · rw [if_pos c_2] at hf
      obtain rfl := Option.some.inj hf
      exact kx _ rfl H locs ls hP hS (lv_sub hl [0, 1, 2, 3, 4, 5] rfl)
    · rw [if_neg c_2] at hf
      refine lv_aload_n hx hb dX1_reachBefore_47 rfl (lv_at hl 0 rfl) ?_
      refine lv_iconst (v := 1) hx hb dX1_reachBefore_48 (by decide) ?_
      refine lv_iload hx hb dX1_reachBefore_49 (lv_at hl 4 rfl) ?_
      refine lv_iload hx hb dX1_reachBefore_51 (lv_at hl 7 rfl) ?_
      obtain ⟨⟨a_3, σ_3, τ_3⟩, h_3, hf⟩ := jp_bind hf
      dsimp only at hf
      refine jp_callV (rest := []) B hP hS hl (ctX1_next ⟨hX0.1, hX0.2.1, hX0.2.2.1, ⟨hX0.2.2.2.1.1, hX0.2.2.2.1.2.1, hX0.2.2.2.1.2.2.1, ⟨hX0.2.2.2.1.2.2.2.1, hX0.2.2.2.1.2.2.2.2.1, hX0.2.2.2.1.2.2.2.2.2.1, hX0.2.2.2.1.2.2.2.2.2.2.1, hX0.2.2.2.1.2.2.2.2.2.2.2⟩⟩, ⟨hX0.2.2.2.2.1, hX0.2.2.2.2.2⟩⟩ h_3) hX0.1 rfl mw_305 mw_302 mw_303 mw_304 mw_35 ddX1_next ⟨Nat.le_of_ble_eq_true rfl, Nat.le_of_ble_eq_true rfl⟩ ⟨Nat.zero_le _, Nat.zero_le _⟩ rfl (Nat.le_of_ble_eq_true rfl) dX1_reachBefore_53 (fun H locs hP hS => ?_)
      refine lv_istore (lv' := [(9, .int a_3), (0, .ref (Γ.2.2.1 13)), (2, .int x2), (3, .int x3), (4, .int x4), (5, .int x5), (6, .int x6), (7, .int x7), (8, .int x8)]) hx hb dX1_reachBefore_56 hl (by decide) rfl (fun ls hl => ?_)
      refine lv_iload hx hb dX1_reachBefore_58 (lv_at hl 0 rfl) ?_
      refine lv_iconst (v := -1) hx hb dX1_reachBefore_60 (by decide) ?_
      refine lv_icmp_eq (tgt := 108) hx hb dX1_reachBefore_61 (by decide) (fun c_4 => ?_) (fun c_4 => ?_)
      · rw [if_pos c_4] at hf
        exact wbX1_reachBefore_108_in35 B hX0 hf kb kx kr H locs ls hP hS (lv_sub hl [1, 2, 3, 4, 5, 6, 7, 8] rfl)
      · rw [if_neg c_4] at hf
        refine lv_aload_n hx hb dX1_reachBefore_64 rfl (lv_at hl 1 rfl) ?_
        refine lv_iload hx hb dX1_reachBefore_65 (lv_at hl 7 rfl) ?_
        refine lv_iload hx hb dX1_reachBefore_67 (lv_at hl 0 rfl) ?_
        refine lv_iload hx hb dX1_reachBefore_69 (lv_at hl 4 rfl) ?_
        refine lv_iload hx hb dX1_reachBefore_71 (lv_at hl 5 rfl) ?_
        obtain ⟨⟨a_5, σ_5, τ_5⟩, h_5, hf⟩ := jp_bind hf
        dsimp only at hf
        refine jp_callV (rest := []) B hP hS hl (ctX1_stepCost ⟨hX0.1, hX0.2.1, hX0.2.2.1, ⟨hX0.2.2.2.1.1, hX0.2.2.2.1.2.1, hX0.2.2.2.1.2.2.1, ⟨hX0.2.2.2.1.2.2.2.1, hX0.2.2.2.1.2.2.2.2.1, hX0.2.2.2.1.2.2.2.2.2.1, hX0.2.2.2.1.2.2.2.2.2.2.1, hX0.2.2.2.1.2.2.2.2.2.2.2⟩⟩, ⟨hX0.2.2.2.2.1, hX0.2.2.2.2.2⟩⟩ h_5) hX0.1 rfl mw_312 mw_309 mw_310 mw_311 mw_35 ddX1_stepCost ⟨Nat.le_of_ble_eq_true rfl, Nat.le_of_ble_eq_true rfl⟩ ⟨Nat.zero_le _, Nat.zero_le _⟩ rfl (Nat.le_of_ble_eq_true rfl) dX1_reachBefore_73 (fun H locs hP hS => ?_)
        refine lv_iload_n hx hb dX1_reachBefore_76 rfl (lv_at hl 2 rfl) ?_
        refine lv_icmp_ne (tgt := 108) hx hb dX1_reachBefore_77 (by decide) (fun c_6 => ?_) (fun c_6 => ?_)
        · rw [if_neg c_6] at hf
          exact wbX1_reachBefore_108_in35 B hX0 hf kb kx kr H locs ls hP hS (lv_sub hl [1, 2, 3, 4, 5, 6, 7, 8] rfl)
        · rw [if_pos c_6] at hf
          refine lv_aload_n hx hb dX1_reachBefore_80 rfl (lv_at hl 1 rfl) ?_
          refine lv_iload hx hb dX1_reachBefore_81 (lv_at hl 4 rfl) ?_
          refine lv_iload hx hb dX1_reachBefore_83 (lv_at hl 5 rfl) ?_
          refine lv_iload hx hb dX1_reachBefore_85 (lv_at hl 7 rfl) ?_
          refine lv_iload hx hb dX1_reachBefore_87 (lv_at hl 0 rfl) ?_
          obtain ⟨⟨a_7, σ_7, τ_7⟩, h_7, hf⟩ := jp_bind hf
          dsimp only at hf
          refine jp_callV (rest := []) B hP hS hl (ctX1_fits ⟨hX0.1, hX0.2.1, hX0.2.2.1, ⟨hX0.2.2.2.1.1, hX0.2.2.2.1.2.1, hX0.2.2.2.1.2.2.1, ⟨hX0.2.2.2.1.2.2.2.1, hX0.2.2.2.1.2.2.2.2.1, hX0.2.2.2.1.2.2.2.2.2.1, hX0.2.2.2.1.2.2.2.2.2.2.1, hX0.2.2.2.1.2.2.2.2.2.2.2⟩⟩, ⟨hX0.2.2.2.2.1, hX0.2.2.2.2.2⟩⟩ h_7) hX0.1 rfl mw_318 mw_315 mw_316 mw_317 mw_35 ddX1_fits ⟨Nat.le_of_ble_eq_true rfl, Nat.le_of_ble_eq_true rfl⟩ ⟨Nat.zero_le _, Nat.zero_le _⟩ rfl (Nat.le_of_ble_eq_true rfl) dX1_reachBefore_89 (fun H locs hP hS => ?_)
          refine lv_if_eq (tgt := 108) hx hb dX1_reachBefore_92 (by decide) (fun c_8 => ?_) (fun c_8 => ?_)
          · rw [if_pos c_8] at hf
            exact wbX1_reachBefore_108_in35 B hX0 hf kb kx kr H locs ls hP hS (lv_sub hl [1, 2, 3, 4, 5, 6, 7, 8] rfl)
          · rw [if_neg c_8] at hf
            refine lv_aload_n hx hb dX1_reachBefore_95 rfl (lv_at hl 1 rfl) ?_
            refine lv_iload hx hb dX1_reachBefore_96 (lv_at hl 7 rfl) ?_
            refine lv_bipush (v := 36) hx hb dX1_reachBefore_98 (by decide) ?_
            refine lv_iload hx hb dX1_reachBefore_100 (lv_at hl 0 rfl) ?_
            refine lv_imul hx hb dX1_reachBefore_102 ?_
            refine lv_iadd hx hb dX1_reachBefore_103 ?_
            refine lv_iload_n hx hb dX1_reachBefore_104 rfl (lv_at hl 3 rfl) ?_
            obtain ⟨⟨a_9, σ_9, τ_9⟩, h_9, hf⟩ := jp_bind hf
            dsimp only at hf
            refine jp_callV (rest := []) B hP hS hl (ctX1_reach ⟨hX0.1, hX0.2.1, hX0.2.2.1, ⟨hX0.2.2.2.1.1, hX0.2.2.2.1.2.1, hX0.2.2.2.1.2.2.1, ⟨hX0.2.2.2.1.2.2.2.1, hX0.2.2.2.1.2.2.2.2.1, hX0.2.2.2.1.2.2.2.2.2.1, hX0.2.2.2.1.2.2.2.2.2.2.1, hX0.2.2.2.1.2.2.2.2.2.2.2⟩⟩, ⟨hX0.2.2.2.2.1, hX0.2.2.2.2.2⟩⟩ h_9) hX0.1 rfl mw_297 mw_294 mw_295 mw_296 mw_35 ddX1_reach ⟨Nat.le_of_ble_eq_true rfl, Nat.le_of_ble_eq_true rfl⟩ ⟨Nat.zero_le _, Nat.zero_le _⟩ rfl (Nat.le_of_ble_eq_true rfl) dX1_reachBefore_105 (fun H locs hP hS => ?_)
            exact wbX1_reachBefore_108_in35 B hX0 hf kb kx kr H locs ls hP hS (lv_sub hl [1, 2, 3, 4, 5, 6, 7, 8] rfl)
set_option maxHeartbeats 4000000 in
theorem lX1_reachBefore_35 (B : jp_B Γ p s m args meth c RX1 cX1_reachBefore 10 none) {n : Nat} {nc : Nat} {nl : Nat} (hX0 : jp_hJ Z n nc nl) {x2 : Int32} {x3 : Int32} {x4 : Int32} {x5 : Int32} {x6 : Int32} {x7 : Int32} {e1 : Sum (Unit) Int32} {σ1 : jp_I} {τ1 : jp_J} (kx : ∀ v : Unit, e1 = .inl v → jp_at p l e (jp_R 3 66) s m args below meth c (MQ below (jp_Q Γ Z none σ0 τ0) args s 0 0 (jp_A Γ)) 10 Γ Z 114 [(0, .ref (Γ.2.2.1 13)), (2, .int x2), (3, .int x3), (4, .int x4), (5, .int x5), (6, .int x6)] [] σ1 τ1) (kr : ∀ v : Int32, e1 = .inr v → r0 = v ∧ σ0 = σ1 ∧ τ0 = τ1) : ∀ (k : Nat) (v : Int32) (σ : jp_I) (τ : jp_J), jp_loop (fun q : (Int32) × jp_I × jp_J => sX1_reachBefore_35 n nc nl x2 x3 x4 x5 x6 x7 q.1 q.2.1 q.2.2) k (v, σ, τ) = some (e1, σ1, τ1) → jp_at p l e (jp_R 3 66) s m args below meth c (MQ below (jp_Q Γ Z none σ0 τ0) args s 0 0 (jp_A Γ)) 10 Γ Z 35 [(0, .ref (Γ.2.2.1 13)), (2, .int x2), (3, .int x3), (4, .int x4), (5, .int x5), (6, .int x6), (7, .int x7), (8, .int v)] [] σ τ := by
  refine jp_loopI (P := fun (v : Int32) (σ : jp_I) (τ : jp_J) => jp_at p l e (jp_R 3 66) s m args below meth c (MQ below (jp_Q Γ Z none σ0 τ0) args s 0 0 (jp_A Γ)) 10 Γ Z 35 [(0, .ref (Γ.2.2.1 13)), (2, .int x2), (3, .int x3), (4, .int x4), (5, .int x5), (6, .int x6), (7, .int x7), (8, .int v)] [] σ τ) (fun v σ τ q hq hbk hen => ?_)
  exact wsX1_reachBefore_35 B hX0 hq (fun v' hv => hbk v' hv) (fun x hv => by obtain ⟨h1, h2, h3⟩ := hen _ hv; rw [h2, h3]; exact kx x h1.symm) (fun r hv => by obtain ⟨h1, h2, h3⟩ := hen _ hv; rw [h2, h3]; exact kr r h1.symm)
def bX1_reachBefore_114_in15 (n : Nat) (nc : Nat) (nl : Nat) (x2 : Int32) (x3 : Int32) (x4 : Int32) (x5 : Int32) (x6 : Int32) (σ : jp_I) (τ : jp_J) : Option (Sum (Int32) (Sum (Unit) Int32) × jp_I × jp_J) :=
  some (.inl (x6 + 1), σ, τ)
set_option maxHeartbeats 4000000 in
set_option maxRecDepth 20000 in
theorem wbX1_reachBefore_114_in15 (B : jp_B Γ p s m args meth c RX1 cX1_reachBefore 10 none) {n : Nat} {nc : Nat} {nl : Nat} (hX0 : jp_hJ Z n nc nl) {x2 : Int32} {x3 : Int32} {x4 : Int32} {x5 : Int32} {x6 : Int32} {σ : jp_I} {τ : jp_J} {q : Sum (Int32) (Sum (Unit) Int32) × jp_I × jp_J} (hf : bX1_reachBefore_114_in15 n nc nl x2 x3 x4 x5 x6 σ τ = some q) (kb : ∀ v : Int32, q.1 = .inl v → jp_at p l e (jp_R 3 66) s m args below meth c (MQ below (jp_Q Γ Z none σ0 τ0) args s 0 0 (jp_A Γ)) 10 Γ Z 15 [(0, .ref (Γ.2.2.1 13)), (2, .int x2), (3, .int x3), (4, .int x4), (5, .int x5), (6, .int v)] [] q.2.1 q.2.2) (kx : ∀ v : Unit, q.1 = .inr (.inl v) → jp_at p l e (jp_R 3 66) s m args below meth c (MQ below (jp_Q Γ Z none σ0 τ0) args s 0 0 (jp_A Γ)) 10 Γ Z 120 [] [] q.2.1 q.2.2) (kr : ∀ v : Int32, q.1 = .inr (.inr v) → r0 = v ∧ σ0 = q.2.1 ∧ τ0 = q.2.2) : jp_at p l e (jp_R 3 66) s m args below meth c (MQ below (jp_Q Γ Z none σ0 τ0) args s 0 0 (jp_A Γ)) 10 Γ Z 114 [(0, .ref (Γ.2.2.1 13)), (2, .int x2), (3, .int x3), (4, .int x4), (5, .int x5), (6, .int x6)] [] σ τ := by
  obtain ⟨hx, hb, hml, hown, hts, hr, hlk, hE⟩ := id B
  unfold bX1_reachBefore_114_in15 at hf
  intro H locs ls hP hS hl
  refine lv_iinc (v := x6 + 1) (lv' := [(6, .int (x6 + 1)), (0, .ref (Γ.2.2.1 13)), (2, .int x2), (3, .int x3), (4, .int x4), (5, .int x5)]) hx hb dX1_reachBefore_114 hl (k := 5) rfl rfl (by decide) rfl (fun ls hl => ?_)
  refine lv_goto (tgt := 15) hx hb dX1_reachBefore_117 (by decide) ?_
  obtain rfl := Option.some.inj hf
  exact kb _ rfl H locs ls hP hS (lv_sub hl [1, 2, 3, 4, 5, 0] rfl)
def sX1_reachBefore_15 (n : Nat) (nc : Nat) (nl : Nat) (x2 : Int32) (x3 : Int32) (x4 : Int32) (x5 : Int32) (x6 : Int32) (σ : jp_I) (τ : jp_J) : Option (Sum (Int32) (Sum (Unit) Int32) × jp_I × jp_J) :=
  if 5 ≤ x6 then (some (.inr (.inl ()), σ, τ)) else ((fX1_next n nc nl 0 x4 x6 σ τ).bind fun (a_2, σ_2, τ_2) => (jp_loop (fun q : (Int32) × jp_I × jp_J => sX1_reachBefore_35 n nc nl x2 x3 x4 x5 x6 a_2 q.1 q.2.1 q.2.2) jp_F (0, σ_2, τ_2)).bind fun (e_3, σ_3, τ_3) => match e_3 with
    | .inl _ => (bX1_reachBefore_114_in15 n nc nl x2 x3 x4 x5 x6 σ_3 τ_3)
    | .inr r_3 => some (.inr (.inr r_3), σ_3, τ_3))
set_option maxHeartbeats 4000000 in
set_option maxRecDepth 20000 in
theorem wsX1_reachBefore_15 (B : jp_B Γ p s m args meth c RX1 cX1_reachBefore 10 none) {n : Nat} {nc : Nat} {nl : Nat} (hX0 : jp_hJ Z n nc nl) {x2 : Int32} {x3 : Int32} {x4 : Int32} {x5 : Int32} {x6 : Int32} {σ : jp_I} {τ : jp_J} {q : Sum (Int32) (Sum (Unit) Int32) × jp_I × jp_J} (hf : sX1_reachBefore_15 n nc nl x2 x3 x4 x5 x6 σ τ = some q) (kb : ∀ v : Int32, q.1 = .inl v → jp_at p l e (jp_R 3 66) s m args below meth c (MQ below (jp_Q Γ Z none σ0 τ0) args s 0 0 (jp_A Γ)) 10 Γ Z 15 [(0, .ref (Γ.2.2.1 13)), (2, .int x2), (3, .int x3), (4, .int x4), (5, .int x5), (6, .int v)] [] q.2.1 q.2.2) (kx : ∀ v : Unit, q.1 = .inr (.inl v) → jp_at p l e (jp_R 3 66) s m args below meth c (MQ below (jp_Q Γ Z none σ0 τ0) args s 0 0 (jp_A Γ)) 10 Γ Z 120 [] [] q.2.1 q.2.2) (kr : ∀ v : Int32, q.1 = .inr (.inr v) → r0 = v ∧ σ0 = q.2.1 ∧ τ0 = q.2.2) : jp_at p l e (jp_R 3 66) s m args below meth c (MQ below (jp_Q Γ Z none σ0 τ0) args s 0 0 (jp_A Γ)) 10 Γ Z 15 [(0, .ref (Γ.2.2.1 13)), (2, .int x2), (3, .int x3), (4, .int x4), (5, .int x5), (6, .int x6)] [] σ τ := by
  obtain ⟨hx, hb, hml, hown, hts, hr, hlk, hE⟩ := id B
  unfold sX1_reachBefore_15 at hf
  intro H locs ls hP hS hl
  refine lv_iload hx hb dX1_reachBefore_15 (lv_at hl 5 rfl) ?_
  refine lv_iconst (v := 5) hx hb dX1_reachBefore_17 (by decide) ?_
  refine lv_icmp_ge (tgt := 120) hx hb dX1_reachBefore_18 (by decide) (fun c_1 => ?_) (fun c_1 => ?_)
  · rw [if_pos c_1] at hf
    obtain rfl := Option.some.inj hf
    exact kx _ rfl H locs ls hP hS (lv_sub hl [] rfl)
  · rw [if_neg c_1] at hf
    refine lv_aload_n hx hb dX1_reachBefore_21 rfl (lv_at hl 0 rfl) ?_
    refine lv_iconst (v := 0) hx hb dX1_reachBefore_22 (by decide) ?_
    refine lv_iload hx hb dX1_reachBefore_23 (lv_at hl 3 rfl) ?_
    refine lv_iload hx hb dX1_reachBefore_25 (lv_at hl 5 rfl) ?_
    obtain ⟨⟨a_2, σ_2, τ_2⟩, h_2, hf⟩ := jp_bind hf
    dsimp only at hf
    refine jp_callV (rest := []) B hP hS hl (ctX1_next ⟨hX0.1, hX0.2.1, hX0.2.2.1, ⟨hX0.2.2.2.1.1, hX0.2.2.2.1.2.1, hX0.2.2.2.1.2.2.1, ⟨hX0.2.2.2.1.2.2.2.1, hX0.2.2.2.1.2.2.2.2.1, hX0.2.2.2.1.2.2.2.2.2.1, hX0.2.2.2.1.2.2.2.2.2.2.1, hX0.2.2.2.1.2.2.2.2.2.2.2⟩⟩, ⟨hX0.2.2.2.2.1, hX0.2.2.2.2.2⟩⟩ h_2) hX0.1 rfl mw_305 mw_302 mw_303 mw_304 mw_35 ddX1_next ⟨Nat.le_of_ble_eq_true rfl, Nat.le_of_ble_eq_true rfl⟩ ⟨Nat.zero_le _, Nat.zero_le _⟩ rfl (Nat.le_of_ble_eq_true rfl) dX1_reachBefore_27 (fun H locs hP hS => ?_)
    refine lv_istore (lv' := [(7, .int a_2), (0, .ref (Γ.2.2.1 13)), (2, .int x2), (3, .int x3), (4, .int x4), (5, .int x5), (6, .int x6)]) hx hb dX1_reachBefore_30 hl (by decide) rfl (fun ls hl => ?_)
    refine lv_iconst (v := 0) hx hb dX1_reachBefore_32 (by decide) ?_
    refine lv_istore (lv' := [(8, .int 0), (7, .int a_2), (0, .ref (Γ.2.2.1 13)), (2, .int x2), (3, .int x3), (4, .int x4), (5, .int x5), (6, .int x6)]) hx hb dX1_reachBefore_33 hl (by decide) rfl (fun ls hl => ?_)
    obtain ⟨⟨e_3, σ_3, τ_3⟩, h_3, hf⟩ := jp_bind hf
    refine lX1_reachBefore_35 (r0 := r0) B hX0 (x2 := x2) (x3 := x3) (x4 := x4) (x5 := x5) (x6 := x6) (x7 := a_2) (fun v_3 k_3 => ?_) (fun r_3 k_3 => ?_) _ _ _ _ h_3 H locs ls hP hS (lv_sub hl [2, 3, 4, 5, 6, 7, 1, 0] rfl)
    · subst k_3
      dsimp only at hf
      intro H locs ls hP hS hl
      exact wbX1_reachBefore_114_in15 B hX0 hf kb kx kr H locs ls hP hS (lv_sub hl [0, 1, 2, 3, 4, 5] rfl)
    · subst k_3
      dsimp only at hf
      obtain rfl := Option.some.inj hf
      exact kr _ rfl
set_option maxHeartbeats 4000000 in
theorem lX1_reachBefore_15 (B : jp_B Γ p s m args meth c RX1 cX1_reachBefore 10 none) {n : Nat} {nc : Nat} {nl : Nat} (hX0 : jp_hJ Z n nc nl) {x2 : Int32} {x3 : Int32} {x4 : Int32} {x5 : Int32} {e1 : Sum (Unit) Int32} {σ1 : jp_I} {τ1 : jp_J} (kx : ∀ v : Unit, e1 = .inl v → jp_at p l e (jp_R 3 66) s m args below meth c (MQ below (jp_Q Γ Z none σ0 τ0) args s 0 0 (jp_A Γ)) 10 Γ Z 120 [] [] σ1 τ1) (kr : ∀ v : Int32, e1 = .inr v → r0 = v ∧ σ0 = σ1 ∧ τ0 = τ1) : ∀ (k : Nat) (v : Int32) (σ : jp_I) (τ : jp_J), jp_loop (fun q : (Int32) × jp_I × jp_J => sX1_reachBefore_15 n nc nl x2 x3 x4 x5 q.1 q.2.1 q.2.2) k (v, σ, τ) = some (e1, σ1, τ1) → jp_at p l e (jp_R 3 66) s m args below meth c (MQ below (jp_Q Γ Z none σ0 τ0) args s 0 0 (jp_A Γ)) 10 Γ Z 15 [(0, .ref (Γ.2.2.1 13)), (2, .int x2), (3, .int x3), (4, .int x4), (5, .int x5), (6, .int v)] [] σ τ := by
  refine jp_loopI (P := fun (v : Int32) (σ : jp_I) (τ : jp_J) => jp_at p l e (jp_R 3 66) s m args below meth c (MQ below (jp_Q Γ Z none σ0 τ0) args s 0 0 (jp_A Γ)) 10 Γ Z 15 [(0, .ref (Γ.2.2.1 13)), (2, .int x2), (3, .int x3), (4, .int x4), (5, .int x5), (6, .int v)] [] σ τ) (fun v σ τ q hq hbk hen => ?_)
  exact wsX1_reachBefore_15 B hX0 hq (fun v' hv => hbk v' hv) (fun x hv => by obtain ⟨h1, h2, h3⟩ := hen _ hv; rw [h2, h3]; exact kx x h1.symm) (fun r hv => by obtain ⟨h1, h2, h3⟩ := hen _ hv; rw [h2, h3]; exact kr r h1.symm)
def fX1_reachBefore (n : Nat) (nc : Nat) (nl : Nat) (p1 : Int32) (p2 : Int32) (p3 : Int32) (σ : jp_I) (τ : jp_J) : Option (Int32 × jp_I × jp_J) :=
  (jp_loop (fun q : (Int32) × jp_I × jp_J => sX1_reachBefore_15 n nc nl p2 p3 (p1 - p1 / 36 * 36) (p1 / 36) q.1 q.2.1 q.2.2) jp_F (0, σ, τ)).bind fun (e_1, σ_1, τ_1) => match e_1 with
    | .inl _ => (some (0, σ_1, τ_1))
    | .inr r_1 => some (r_1, σ_1, τ_1)
set_option maxHeartbeats 4000000 in
set_option maxRecDepth 20000 in
theorem ctX1_reachBefore {l : Launch} {Γ : jp_G} {Z : Nat → Option jp_Sh} {n : Nat} {nc : Nat} {nl : Nat} (hX0 : jp_hJ Z n nc nl) {p1 : Int32} {p2 : Int32} {p3 : Int32} {σ σ0 : jp_I} {τ τ0 : jp_J} {r0 : Int32} (hf : fX1_reachBefore n nc nl p1 p2 p3 σ τ = some (r0, σ0, τ0)) : jp_M l yX1_reachBefore cX1_reachBefore 10 none 3 66 Γ Z σ τ [.ref (Γ.2.2.1 13), .int p1, .int p2, .int p3] none σ0 τ0 := by
  refine jp_mk (lv := [(0, .ref (Γ.2.2.1 13)), (1, .int p1), (2, .int p2), (3, .int p3)]) (by decide) (Nat.le_of_ble_eq_true rfl) rfl fun p e s m args below meth c B => ?_
  obtain ⟨hx, hb, hml, hown, hts, hr, hlk, hE⟩ := id B
  unfold fX1_reachBefore at hf
  intro H locs ls hP hS hl
  refine lv_iload_n hx hb dX1_reachBefore_0 rfl (lv_at hl 1 rfl) ?_
  refine lv_bipush (v := 36) hx hb dX1_reachBefore_1 (by decide) ?_
  refine lv_irem hx hb dX1_reachBefore_3 (by decide) ?_
  refine lv_istore (lv' := [(4, .int (p1 - p1 / 36 * 36)), (0, .ref (Γ.2.2.1 13)), (1, .int p1), (2, .int p2), (3, .int p3)]) hx hb dX1_reachBefore_4 hl (by decide) rfl (fun ls hl => ?_)
  refine lv_iload_n hx hb dX1_reachBefore_6 rfl (lv_at hl 2 rfl) ?_
  refine lv_bipush (v := 36) hx hb dX1_reachBefore_7 (by decide) ?_
  refine lv_idiv hx hb dX1_reachBefore_9 (by decide) ?_
  refine lv_istore (lv' := [(5, .int (p1 / 36)), (4, .int (p1 - p1 / 36 * 36)), (0, .ref (Γ.2.2.1 13)), (1, .int p1), (2, .int p2), (3, .int p3)]) hx hb dX1_reachBefore_10 hl (by decide) rfl (fun ls hl => ?_)
  refine lv_iconst (v := 0) hx hb dX1_reachBefore_12 (by decide) ?_
  refine lv_istore (lv' := [(6, .int 0), (5, .int (p1 / 36)), (4, .int (p1 - p1 / 36 * 36)), (0, .ref (Γ.2.2.1 13)), (1, .int p1), (2, .int p2), (3, .int p3)]) hx hb dX1_reachBefore_13 hl (by decide) rfl (fun ls hl => ?_)
  obtain ⟨⟨e_1, σ_1, τ_1⟩, h_1, hf⟩ := jp_bind hf
  refine lX1_reachBefore_15 (r0 := r0) B hX0 (x2 := p2) (x3 := p3) (x4 := (p1 - p1 / 36 * 36)) (x5 := (p1 / 36)) (fun v_1 k_1 => ?_) (fun r_1 k_1 => ?_) _ _ _ _ h_1 H locs ls hP hS (lv_sub hl [3, 5, 6, 2, 1, 0] rfl)
  · subst k_1
    dsimp only at hf
    intro H locs ls hP hS hl
    exact jp_endv B hP hS dX1_reachBefore_120 (jp_inj hf)
  · subst k_1
    dsimp only at hf
    exact jp_inj hf
end
-- X1_measure
section
variable {p : Program} {l : Launch} {e : Jvm.Env} {s : State} {m : MethodId} {args : Array Value} {below : List Frame} {meth : Method} {c : Code} {Γ : jp_G} {Z : Nat → Option jp_Sh} {r0 : Int32} {σ0 : jp_I} {τ0 : jp_J}
def bX1_measure_98_in69 (n : Nat) (nc : Nat) (nl : Nat) (x1 : Int32) (x4 : Int32) (x5 : Int32) (x6 : Int32) (x7 : Int32) (y1 : Int32) (y2 : Int32) (σ : jp_I) (τ : jp_J) : Option (Sum (Int32) (Sum (Unit) Int32) × jp_I × jp_J) :=
  (fX1_reachBefore n nc nl y1 y2 x5 σ τ).bind fun (a_1, σ_1, τ_1) => some (.inl (x7 + 1), σ_1, τ_1)
set_option maxHeartbeats 4000000 in
set_option maxRecDepth 20000 in
theorem wbX1_measure_98_in69 (B : jp_B Γ p s m args meth c RX1 cX1_measure 8 none) {n : Nat} {nc : Nat} {nl : Nat} (hX0 : jp_hJ Z n nc nl) {x1 : Int32} {x4 : Int32} {x5 : Int32} {x6 : Int32} {x7 : Int32} {y1 : Int32} {y2 : Int32} {σ : jp_I} {τ : jp_J} {q : Sum (Int32) (Sum (Unit) Int32) × jp_I × jp_J} (hf : bX1_measure_98_in69 n nc nl x1 x4 x5 x6 x7 y1 y2 σ τ = some q) (kb : ∀ v : Int32, q.1 = .inl v → jp_at p l e (jp_R 4 95) s m args below meth c (MQ below (jp_Q Γ Z none σ0 τ0) args s 0 0 (jp_A Γ)) 8 Γ Z 69 [(0, .ref (Γ.2.2.1 13)), (1, .int x1), (4, .int x4), (5, .int x5), (6, .int x6), (7, .int v)] [] q.2.1 q.2.2) (kx : ∀ v : Unit, q.1 = .inr (.inl v) → jp_at p l e (jp_R 4 95) s m args below meth c (MQ below (jp_Q Γ Z none σ0 τ0) args s 0 0 (jp_A Γ)) 8 Γ Z 109 [(0, .ref (Γ.2.2.1 13)), (1, .int x1), (4, .int x4), (5, .int x5), (6, .int x6)] [] q.2.1 q.2.2) (kr : ∀ v : Int32, q.1 = .inr (.inr v) → r0 = v ∧ σ0 = q.2.1 ∧ τ0 = q.2.2) : jp_at p l e (jp_R 4 95) s m args below meth c (MQ below (jp_Q Γ Z none σ0 τ0) args s 0 0 (jp_A Γ)) 8 Γ Z 98 [(0, .ref (Γ.2.2.1 13)), (1, .int x1), (4, .int x4), (5, .int x5), (6, .int x6), (7, .int x7)] [.int y2, .int y1, .ref (Γ.2.2.1 13)] σ τ := by
  obtain ⟨hx, hb, hml, hown, hts, hr, hlk, hE⟩ := id B
  unfold bX1_measure_98_in69 at hf
  intro H locs ls hP hS hl
  refine lv_iload hx hb dX1_measure_98 (lv_at hl 3 rfl) ?_
  obtain ⟨⟨a_1, σ_1, τ_1⟩, h_1, hf⟩ := jp_bind hf
  dsimp only at hf
  refine jp_callV (rest := []) B hP hS hl (ctX1_reachBefore ⟨hX0.1, hX0.2.1, hX0.2.2.1, ⟨hX0.2.2.2.1.1, hX0.2.2.2.1.2.1, hX0.2.2.2.1.2.2.1, ⟨hX0.2.2.2.1.2.2.2.1, hX0.2.2.2.1.2.2.2.2.1, hX0.2.2.2.1.2.2.2.2.2.1, hX0.2.2.2.1.2.2.2.2.2.2.1, hX0.2.2.2.1.2.2.2.2.2.2.2⟩⟩, ⟨hX0.2.2.2.2.1, hX0.2.2.2.2.2⟩⟩ h_1) hX0.1 rfl mw_301 mw_298 mw_299 mw_300 mw_35 ddX1_reachBefore ⟨Nat.le_of_ble_eq_true rfl, Nat.le_of_ble_eq_true rfl⟩ ⟨Nat.zero_le _, Nat.zero_le _⟩ rfl (Nat.le_of_ble_eq_true rfl) dX1_measure_100 (fun H locs hP hS => ?_)
  refine lv_iinc (v := x7 + 1) (lv' := [(7, .int (x7 + 1)), (0, .ref (Γ.2.2.1 13)), (1, .int x1), (4, .int x4), (5, .int x5), (6, .int x6)]) hx hb dX1_measure_103 hl (k := 5) rfl rfl (by decide) rfl (fun ls hl => ?_)
  refine lv_goto (tgt := 69) hx hb dX1_measure_106 (by decide) ?_
  obtain rfl := Option.some.inj hf
  exact kb _ rfl H locs ls hP hS (lv_sub hl [1, 2, 3, 4, 5, 0] rfl)
def sX1_measure_69 (n : Nat) (nc : Nat) (nl : Nat) (x1 : Int32) (x4 : Int32) (x5 : Int32) (x6 : Int32) (x7 : Int32) (σ : jp_I) (τ : jp_J) : Option (Sum (Int32) (Sum (Unit) Int32) × jp_I × jp_J) :=
  if x6 ≤ x7 then (some (.inr (.inl ()), σ, τ)) else ((fX7_read 15 nl x7 σ τ).bind fun (a_2, σ_2, τ_2) => if x4 ≤ x7 then (bX1_measure_98_in69 n nc nl x1 x4 x5 x6 x7 a_2 1 σ_2 τ_2) else (bX1_measure_98_in69 n nc nl x1 x4 x5 x6 x7 a_2 2 σ_2 τ_2))
set_option maxHeartbeats 4000000 in
set_option maxRecDepth 20000 in
theorem wsX1_measure_69 (B : jp_B Γ p s m args meth c RX1 cX1_measure 8 none) {n : Nat} {nc : Nat} {nl : Nat} (hX0 : jp_hJ Z n nc nl) {x1 : Int32} {x4 : Int32} {x5 : Int32} {x6 : Int32} {x7 : Int32} {σ : jp_I} {τ : jp_J} {q : Sum (Int32) (Sum (Unit) Int32) × jp_I × jp_J} (hf : sX1_measure_69 n nc nl x1 x4 x5 x6 x7 σ τ = some q) (kb : ∀ v : Int32, q.1 = .inl v → jp_at p l e (jp_R 4 95) s m args below meth c (MQ below (jp_Q Γ Z none σ0 τ0) args s 0 0 (jp_A Γ)) 8 Γ Z 69 [(0, .ref (Γ.2.2.1 13)), (1, .int x1), (4, .int x4), (5, .int x5), (6, .int x6), (7, .int v)] [] q.2.1 q.2.2) (kx : ∀ v : Unit, q.1 = .inr (.inl v) → jp_at p l e (jp_R 4 95) s m args below meth c (MQ below (jp_Q Γ Z none σ0 τ0) args s 0 0 (jp_A Γ)) 8 Γ Z 109 [(0, .ref (Γ.2.2.1 13)), (1, .int x1), (4, .int x4), (5, .int x5), (6, .int x6)] [] q.2.1 q.2.2) (kr : ∀ v : Int32, q.1 = .inr (.inr v) → r0 = v ∧ σ0 = q.2.1 ∧ τ0 = q.2.2) : jp_at p l e (jp_R 4 95) s m args below meth c (MQ below (jp_Q Γ Z none σ0 τ0) args s 0 0 (jp_A Γ)) 8 Γ Z 69 [(0, .ref (Γ.2.2.1 13)), (1, .int x1), (4, .int x4), (5, .int x5), (6, .int x6), (7, .int x7)] [] σ τ := by
  obtain ⟨hx, hb, hml, hown, hts, hr, hlk, hE⟩ := id B
  unfold sX1_measure_69 at hf
  intro H locs ls hP hS hl
  refine lv_iload hx hb dX1_measure_69 (lv_at hl 5 rfl) ?_
  refine lv_iload hx hb dX1_measure_71 (lv_at hl 4 rfl) ?_
  refine lv_icmp_ge (tgt := 109) hx hb dX1_measure_73 (by decide) (fun c_1 => ?_) (fun c_1 => ?_)
  · rw [if_pos c_1] at hf
    obtain rfl := Option.some.inj hf
    exact kx _ rfl H locs ls hP hS (lv_sub hl [0, 1, 2, 3, 4] rfl)
  · rw [if_neg c_1] at hf
    refine lv_aload_n hx hb dX1_measure_76 rfl (lv_at hl 0 rfl) ?_
    refine lv_aload_n hx hb dX1_measure_77 rfl (lv_at hl 0 rfl) ?_
    refine jp_getr (k := 3) B hP hX0.1 rfl rfl (by decide) jp_fX1 rfl mw_108 dX1_measure_78 ?_
    refine lv_iload hx hb dX1_measure_81 (lv_at hl 5 rfl) ?_
    obtain ⟨⟨a_2, σ_2, τ_2⟩, h_2, hf⟩ := jp_bind hf
    dsimp only at hf
    refine jp_callSN (rest := [.ref (Γ.2.2.1 13)]) B hP hS hl (ctX7_read hX0.2.2.1 h_2) mw_85 nw_541 mw_84 mw_2 ddX7_read ⟨Nat.le_of_ble_eq_true rfl, Nat.le_of_ble_eq_true rfl⟩ ⟨Nat.zero_le _, Nat.zero_le _⟩ rfl (Nat.le_of_ble_eq_true rfl) dX1_measure_83 (fun H locs hP hS => ?_)
    refine lv_iload hx hb dX1_measure_86 (lv_at hl 5 rfl) ?_
    refine lv_iload hx hb dX1_measure_88 (lv_at hl 2 rfl) ?_
    refine lv_icmp_ge (tgt := 97) hx hb dX1_measure_90 (by decide) (fun c_3 => ?_) (fun c_3 => ?_)
    · rw [if_pos c_3] at hf
      refine lv_iconst (v := 1) hx hb dX1_measure_97 (by decide) ?_
      exact wbX1_measure_98_in69 B hX0 hf kb kx kr H locs ls hP hS (lv_sub hl [0, 1, 2, 3, 4, 5] rfl)
    · rw [if_neg c_3] at hf
      refine lv_iconst (v := 2) hx hb dX1_measure_93 (by decide) ?_
      refine lv_goto (tgt := 98) hx hb dX1_measure_94 (by decide) ?_
      exact wbX1_measure_98_in69 B hX0 hf kb kx kr H locs ls hP hS (lv_sub hl [0, 1, 2, 3, 4, 5] rfl)
set_option maxHeartbeats 4000000 in
theorem lX1_measure_69 (B : jp_B Γ p s m args meth c RX1 cX1_measure 8 none) {n : Nat} {nc : Nat} {nl : Nat} (hX0 : jp_hJ Z n nc nl) {x1 : Int32} {x4 : Int32} {x5 : Int32} {x6 : Int32} {e1 : Sum (Unit) Int32} {σ1 : jp_I} {τ1 : jp_J} (kx : ∀ v : Unit, e1 = .inl v → jp_at p l e (jp_R 4 95) s m args below meth c (MQ below (jp_Q Γ Z none σ0 τ0) args s 0 0 (jp_A Γ)) 8 Γ Z 109 [(0, .ref (Γ.2.2.1 13)), (1, .int x1), (4, .int x4), (5, .int x5), (6, .int x6)] [] σ1 τ1) (kr : ∀ v : Int32, e1 = .inr v → r0 = v ∧ σ0 = σ1 ∧ τ0 = τ1) : ∀ (k : Nat) (v : Int32) (σ : jp_I) (τ : jp_J), jp_loop (fun q : (Int32) × jp_I × jp_J => sX1_measure_69 n nc nl x1 x4 x5 x6 q.1 q.2.1 q.2.2) k (v, σ, τ) = some (e1, σ1, τ1) → jp_at p l e (jp_R 4 95) s m args below meth c (MQ below (jp_Q Γ Z none σ0 τ0) args s 0 0 (jp_A Γ)) 8 Γ Z 69 [(0, .ref (Γ.2.2.1 13)), (1, .int x1), (4, .int x4), (5, .int x5), (6, .int x6), (7, .int v)] [] σ τ := by
  refine jp_loopI (P := fun (v : Int32) (σ : jp_I) (τ : jp_J) => jp_at p l e (jp_R 4 95) s m args below meth c (MQ below (jp_Q Γ Z none σ0 τ0) args s 0 0 (jp_A Γ)) 8 Γ Z 69 [(0, .ref (Γ.2.2.1 13)), (1, .int x1), (4, .int x4), (5, .int x5), (6, .int x6), (7, .int v)] [] σ τ) (fun v σ τ q hq hbk hen => ?_)
  exact wsX1_measure_69 B hX0 hq (fun v' hv => hbk v' hv) (fun x hv => by obtain ⟨h1, h2, h3⟩ := hen _ hv; rw [h2, h3]; exact kx x h1.symm) (fun r hv => by obtain ⟨h1, h2, h3⟩ := hen _ hv; rw [h2, h3]; exact kr r h1.symm)
def sX1_measure_27 (n : Nat) (nc : Nat) (nl : Nat) (x1 : Int32) (x3 : Int32) (x4 : Int32) (x5 : Int32) (σ : jp_I) (τ : jp_J) : Option (Sum (Int32 × Int32 × Int32) (Sum (Unit) Int32) × jp_I × jp_J) :=
  if (2 * (nI nl)) < x5 then (some (.inr (.inl ()), σ, τ)) else (if (σ 13 4) ≤ x3 then (some (.inr (.inl ()), σ, τ)) else ((fX7_read 14 nl x1 σ τ).bind fun (a_3, σ_3, τ_3) => if a_3 = (-1) then ((jp_loop (fun q : (Int32) × jp_I × jp_J => sX1_measure_69 n nc nl x1 x4 x5 (σ_3 13 4) q.1 q.2.1 q.2.2) jp_F (x3, σ_3, τ_3)).bind fun (e_5, σ_5, τ_5) => match e_5 with
    | .inl _ => (some (.inl (x4, σ_3 13 4, x5 + 1), σ_5, τ_5))
    | .inr r_5 => some (.inr (.inr r_5), σ_5, τ_5)) else (some (.inr (.inr 0), σ_3, τ_3))))
set_option maxHeartbeats 4000000 in
set_option maxRecDepth 20000 in
theorem wsX1_measure_27 (B : jp_B Γ p s m args meth c RX1 cX1_measure 8 none) {n : Nat} {nc : Nat} {nl : Nat} (hX0 : jp_hJ Z n nc nl) {x1 : Int32} {x3 : Int32} {x4 : Int32} {x5 : Int32} {σ : jp_I} {τ : jp_J} {q : Sum (Int32 × Int32 × Int32) (Sum (Unit) Int32) × jp_I × jp_J} (hf : sX1_measure_27 n nc nl x1 x3 x4 x5 σ τ = some q) (kb : ∀ v : Int32 × Int32 × Int32, q.1 = .inl v → jp_at p l e (jp_R 4 95) s m args below meth c (MQ below (jp_Q Γ Z none σ0 τ0) args s 0 0 (jp_A Γ)) 8 Γ Z 27 [(0, .ref (Γ.2.2.1 13)), (1, .int x1), (3, .int v.1), (4, .int v.2.1), (5, .int v.2.2)] [] q.2.1 q.2.2) (kx : ∀ v : Unit, q.1 = .inr (.inl v) → jp_at p l e (jp_R 4 95) s m args below meth c (MQ below (jp_Q Γ Z none σ0 τ0) args s 0 0 (jp_A Γ)) 8 Γ Z 122 [] [] q.2.1 q.2.2) (kr : ∀ v : Int32, q.1 = .inr (.inr v) → r0 = v ∧ σ0 = q.2.1 ∧ τ0 = q.2.2) : jp_at p l e (jp_R 4 95) s m args below meth c (MQ below (jp_Q Γ Z none σ0 τ0) args s 0 0 (jp_A Γ)) 8 Γ Z 27 [(0, .ref (Γ.2.2.1 13)), (1, .int x1), (3, .int x3), (4, .int x4), (5, .int x5)] [] σ τ := by
  obtain ⟨hx, hb, hml, hown, hts, hr, hlk, hE⟩ := id B
  unfold sX1_measure_27 at hf
  intro H locs ls hP hS hl
  refine lv_iload hx hb dX1_measure_27 (lv_at hl 4 rfl) ?_
  refine lv_iconst (v := 2) hx hb dX1_measure_29 (by decide) ?_
  refine lv_aload_n hx hb dX1_measure_30 rfl (lv_at hl 0 rfl) ?_
  refine jp_getr (k := 2) B hP hX0.1 rfl rfl (by decide) jp_fX1 rfl mw_107 dX1_measure_31 ?_
  refine jp_alen B hP hX0.2.1 dX1_measure_34 ?_
  refine lv_imul hx hb dX1_measure_35 ?_
  refine lv_icmp_gt (tgt := 122) hx hb dX1_measure_36 (by decide) (fun c_1 => ?_) (fun c_1 => ?_)
  · rw [if_pos c_1] at hf
    obtain rfl := Option.some.inj hf
    exact kx _ rfl H locs ls hP hS (lv_sub hl [] rfl)
  · rw [if_neg c_1] at hf
    refine lv_iload_n hx hb dX1_measure_39 rfl (lv_at hl 2 rfl) ?_
    refine lv_aload_n hx hb dX1_measure_40 rfl (lv_at hl 0 rfl) ?_
    refine jp_geti (k := 4) B hP hX0.1 rfl rfl (by decide) jp_fX1 rfl mw_292 dX1_measure_41 ?_
    refine lv_icmp_ge (tgt := 122) hx hb dX1_measure_44 (by decide) (fun c_2 => ?_) (fun c_2 => ?_)
    · rw [if_pos c_2] at hf
      obtain rfl := Option.some.inj hf
      exact kx _ rfl H locs ls hP hS (lv_sub hl [] rfl)
    · rw [if_neg c_2] at hf
      refine lv_aload_n hx hb dX1_measure_47 rfl (lv_at hl 0 rfl) ?_
      refine jp_getr (k := 2) B hP hX0.1 rfl rfl (by decide) jp_fX1 rfl mw_107 dX1_measure_48 ?_
      refine lv_iload_n hx hb dX1_measure_51 rfl (lv_at hl 1 rfl) ?_
      obtain ⟨⟨a_3, σ_3, τ_3⟩, h_3, hf⟩ := jp_bind hf
      dsimp only at hf
      refine jp_callSN (rest := []) B hP hS hl (ctX7_read hX0.2.1 h_3) mw_85 nw_541 mw_84 mw_2 ddX7_read ⟨Nat.le_of_ble_eq_true rfl, Nat.le_of_ble_eq_true rfl⟩ ⟨Nat.zero_le _, Nat.zero_le _⟩ rfl (Nat.le_of_ble_eq_true rfl) dX1_measure_52 (fun H locs hP hS => ?_)
      refine lv_iconst (v := -1) hx hb dX1_measure_55 (by decide) ?_
      refine lv_icmp_eq (tgt := 60) hx hb dX1_measure_56 (by decide) (fun c_4 => ?_) (fun c_4 => ?_)
      · rw [if_pos c_4] at hf
        refine lv_aload_n hx hb dX1_measure_60 rfl (lv_at hl 0 rfl) ?_
        refine jp_geti (k := 4) B hP hX0.1 rfl rfl (by decide) jp_fX1 rfl mw_292 dX1_measure_61 ?_
        refine lv_istore (lv' := [(6, .int (σ_3 13 4)), (0, .ref (Γ.2.2.1 13)), (1, .int x1), (3, .int x3), (4, .int x4), (5, .int x5)]) hx hb dX1_measure_64 hl (by decide) rfl (fun ls hl => ?_)
        refine lv_iload_n hx hb dX1_measure_66 rfl (lv_at hl 3 rfl) ?_
        refine lv_istore (lv' := [(7, .int x3), (6, .int (σ_3 13 4)), (0, .ref (Γ.2.2.1 13)), (1, .int x1), (3, .int x3), (4, .int x4), (5, .int x5)]) hx hb dX1_measure_67 hl (by decide) rfl (fun ls hl => ?_)
        obtain ⟨⟨e_5, σ_5, τ_5⟩, h_5, hf⟩ := jp_bind hf
        refine lX1_measure_69 (r0 := r0) B hX0 (x1 := x1) (x4 := x4) (x5 := x5) (x6 := (σ_3 13 4)) (fun v_5 k_5 => ?_) (fun r_5 k_5 => ?_) _ _ _ _ h_5 H locs ls hP hS (lv_sub hl [2, 3, 5, 6, 1, 0] rfl)
        · subst k_5
          dsimp only at hf
          intro H locs ls hP hS hl
          refine lv_iload hx hb dX1_measure_109 (lv_at hl 2 rfl) ?_
          refine lv_istore_n (lv' := [(3, .int x4), (0, .ref (Γ.2.2.1 13)), (1, .int x1), (4, .int x4), (5, .int x5), (6, .int (σ_3 13 4))]) hx hb dX1_measure_111 rfl hl (by decide) rfl (fun ls hl => ?_)
          refine lv_iload hx hb dX1_measure_112 (lv_at hl 5 rfl) ?_
          refine lv_istore (lv' := [(4, .int (σ_3 13 4)), (3, .int x4), (0, .ref (Γ.2.2.1 13)), (1, .int x1), (5, .int x5), (6, .int (σ_3 13 4))]) hx hb dX1_measure_114 hl (by decide) rfl (fun ls hl => ?_)
          refine lv_iinc (v := x5 + 1) (lv' := [(5, .int (x5 + 1)), (4, .int (σ_3 13 4)), (3, .int x4), (0, .ref (Γ.2.2.1 13)), (1, .int x1), (6, .int (σ_3 13 4))]) hx hb dX1_measure_116 hl (k := 4) rfl rfl (by decide) rfl (fun ls hl => ?_)
          refine lv_goto (tgt := 27) hx hb dX1_measure_119 (by decide) ?_
          obtain rfl := Option.some.inj hf
          exact kb _ rfl H locs ls hP hS (lv_sub hl [3, 4, 2, 1, 0] rfl)
        · subst k_5
          dsimp only at hf
          obtain rfl := Option.some.inj hf
          exact kr _ rfl
      · rw [if_neg c_4] at hf
        obtain rfl := Option.some.inj hf
        exact jp_endv B hP hS dX1_measure_59 (kr _ rfl)
set_option maxHeartbeats 4000000 in
theorem lX1_measure_27 (B : jp_B Γ p s m args meth c RX1 cX1_measure 8 none) {n : Nat} {nc : Nat} {nl : Nat} (hX0 : jp_hJ Z n nc nl) {x1 : Int32} {e1 : Sum (Unit) Int32} {σ1 : jp_I} {τ1 : jp_J} (kx : ∀ v : Unit, e1 = .inl v → jp_at p l e (jp_R 4 95) s m args below meth c (MQ below (jp_Q Γ Z none σ0 τ0) args s 0 0 (jp_A Γ)) 8 Γ Z 122 [] [] σ1 τ1) (kr : ∀ v : Int32, e1 = .inr v → r0 = v ∧ σ0 = σ1 ∧ τ0 = τ1) : ∀ (k : Nat) (v : Int32 × Int32 × Int32) (σ : jp_I) (τ : jp_J), jp_loop (fun q : (Int32 × Int32 × Int32) × jp_I × jp_J => sX1_measure_27 n nc nl x1 q.1.1 q.1.2.1 q.1.2.2 q.2.1 q.2.2) k (v, σ, τ) = some (e1, σ1, τ1) → jp_at p l e (jp_R 4 95) s m args below meth c (MQ below (jp_Q Γ Z none σ0 τ0) args s 0 0 (jp_A Γ)) 8 Γ Z 27 [(0, .ref (Γ.2.2.1 13)), (1, .int x1), (3, .int v.1), (4, .int v.2.1), (5, .int v.2.2)] [] σ τ := by
  refine jp_loopI (P := fun (v : Int32 × Int32 × Int32) (σ : jp_I) (τ : jp_J) => jp_at p l e (jp_R 4 95) s m args below meth c (MQ below (jp_Q Γ Z none σ0 τ0) args s 0 0 (jp_A Γ)) 8 Γ Z 27 [(0, .ref (Γ.2.2.1 13)), (1, .int x1), (3, .int v.1), (4, .int v.2.1), (5, .int v.2.2)] [] σ τ) (fun v σ τ q hq hbk hen => ?_)
  exact wsX1_measure_27 B hX0 hq (fun v' hv => hbk v' hv) (fun x hv => by obtain ⟨h1, h2, h3⟩ := hen _ hv; rw [h2, h3]; exact kx x h1.symm) (fun r hv => by obtain ⟨h1, h2, h3⟩ := hen _ hv; rw [h2, h3]; exact kr r h1.symm)
def fX1_measure (n : Nat) (nc : Nat) (nl : Nat) (p1 : Int32) (p2 : Int32) (σ : jp_I) (τ : jp_J) : Option (Int32 × jp_I × jp_J) :=
  (fJ7_fill_53178 14 nl (-1) σ τ).bind fun (a_1, σ_1, τ_1) => (fX1_reach n nc nl p2 0 (jp_up σ_1 13 4 0) τ_1).bind fun (a_2, σ_2, τ_2) => (jp_loop (fun q : (Int32 × Int32 × Int32) × jp_I × jp_J => sX1_measure_27 n nc nl p1 q.1.1 q.1.2.1 q.1.2.2 q.2.1 q.2.2) jp_F ((0, 0, 1), σ_2, τ_2)).bind fun (e_3, σ_3, τ_3) => match e_3 with
    | .inl _ => (some (0, σ_3, τ_3))
    | .inr r_3 => some (r_3, σ_3, τ_3)
set_option maxHeartbeats 4000000 in
set_option maxRecDepth 20000 in
theorem ctX1_measure {l : Launch} {Γ : jp_G} {Z : Nat → Option jp_Sh} {n : Nat} {nc : Nat} {nl : Nat} (hX0 : jp_hJ Z n nc nl) {p1 : Int32} {p2 : Int32} {σ σ0 : jp_I} {τ τ0 : jp_J} {r0 : Int32} (hf : fX1_measure n nc nl p1 p2 σ τ = some (r0, σ0, τ0)) : jp_M l yX1_measure cX1_measure 8 none 4 95 Γ Z σ τ [.ref (Γ.2.2.1 13), .int p1, .int p2] none σ0 τ0 := by
  refine jp_mk (lv := [(0, .ref (Γ.2.2.1 13)), (1, .int p1), (2, .int p2)]) (by decide) (Nat.le_of_ble_eq_true rfl) rfl fun p e s m args below meth c B => ?_
  obtain ⟨hx, hb, hml, hown, hts, hr, hlk, hE⟩ := id B
  unfold fX1_measure at hf
  intro H locs ls hP hS hl
  refine lv_aload_n hx hb dX1_measure_0 rfl (lv_at hl 0 rfl) ?_
  refine jp_getr (k := 2) B hP hX0.1 rfl rfl (by decide) jp_fX1 rfl mw_107 dX1_measure_1 ?_
  refine lv_iconst (v := -1) hx hb dX1_measure_4 (by decide) ?_
  obtain ⟨⟨a_1, σ_1, τ_1⟩, h_1, hf⟩ := jp_bind hf
  dsimp only at hf
  refine jp_callS (rest := []) B hP hS hl (ctJ7_fill_53178 hX0.2.1 h_1) mw_75 mw_293 mw_73 mw_74 ddJ7_fill_53178 ⟨Nat.le_of_ble_eq_true rfl, Nat.le_of_ble_eq_true rfl⟩ ⟨Nat.zero_le _, Nat.zero_le _⟩ rfl (Nat.le_of_ble_eq_true rfl) dX1_measure_5 (fun H locs hP hS => ?_)
  refine lv_aload_n hx hb dX1_measure_8 rfl (lv_at hl 0 rfl) ?_
  refine lv_iconst (v := 0) hx hb dX1_measure_9 (by decide) ?_
  refine jp_puti (k := 4) (ty := .int) B hP hS hX0.1 rfl rfl (by decide) jp_fX1 tyX1 tyX1_ok nmX1 rfl mw_292 rfl (by decide +kernel) rfl rfl dX1_measure_10 (fun H locs hP hS => ?_)
  refine lv_aload_n hx hb dX1_measure_13 rfl (lv_at hl 0 rfl) ?_
  refine lv_iload_n hx hb dX1_measure_14 rfl (lv_at hl 2 rfl) ?_
  refine lv_iconst (v := 0) hx hb dX1_measure_15 (by decide) ?_
  obtain ⟨⟨a_2, σ_2, τ_2⟩, h_2, hf⟩ := jp_bind hf
  dsimp only at hf
  refine jp_callV (rest := []) B hP hS hl (ctX1_reach ⟨hX0.1, hX0.2.1, hX0.2.2.1, ⟨hX0.2.2.2.1.1, hX0.2.2.2.1.2.1, hX0.2.2.2.1.2.2.1, ⟨hX0.2.2.2.1.2.2.2.1, hX0.2.2.2.1.2.2.2.2.1, hX0.2.2.2.1.2.2.2.2.2.1, hX0.2.2.2.1.2.2.2.2.2.2.1, hX0.2.2.2.1.2.2.2.2.2.2.2⟩⟩, ⟨hX0.2.2.2.2.1, hX0.2.2.2.2.2⟩⟩ h_2) hX0.1 rfl mw_297 mw_294 mw_295 mw_296 mw_35 ddX1_reach ⟨Nat.le_of_ble_eq_true rfl, Nat.le_of_ble_eq_true rfl⟩ ⟨Nat.zero_le _, Nat.zero_le _⟩ rfl (Nat.le_of_ble_eq_true rfl) dX1_measure_16 (fun H locs hP hS => ?_)
  refine lv_iconst (v := 0) hx hb dX1_measure_19 (by decide) ?_
  refine lv_istore_n (lv' := [(3, .int 0), (0, .ref (Γ.2.2.1 13)), (1, .int p1), (2, .int p2)]) hx hb dX1_measure_20 rfl hl (by decide) rfl (fun ls hl => ?_)
  refine lv_iconst (v := 0) hx hb dX1_measure_21 (by decide) ?_
  refine lv_istore (lv' := [(4, .int 0), (3, .int 0), (0, .ref (Γ.2.2.1 13)), (1, .int p1), (2, .int p2)]) hx hb dX1_measure_22 hl (by decide) rfl (fun ls hl => ?_)
  refine lv_iconst (v := 1) hx hb dX1_measure_24 (by decide) ?_
  refine lv_istore (lv' := [(5, .int 1), (4, .int 0), (3, .int 0), (0, .ref (Γ.2.2.1 13)), (1, .int p1), (2, .int p2)]) hx hb dX1_measure_25 hl (by decide) rfl (fun ls hl => ?_)
  obtain ⟨⟨e_3, σ_3, τ_3⟩, h_3, hf⟩ := jp_bind hf
  refine lX1_measure_27 (r0 := r0) B hX0 (x1 := p1) (fun v_3 k_3 => ?_) (fun r_3 k_3 => ?_) _ _ _ _ h_3 H locs ls hP hS (lv_sub hl [3, 4, 2, 1, 0] rfl)
  · subst k_3
    dsimp only at hf
    intro H locs ls hP hS hl
    exact jp_endv B hP hS dX1_measure_122 (jp_inj hf)
  · subst k_3
    dsimp only at hf
    exact jp_inj hf
end
-- X1_keeps
section
variable {p : Program} {l : Launch} {e : Jvm.Env} {s : State} {m : MethodId} {args : Array Value} {below : List Frame} {meth : Method} {c : Code} {Γ : jp_G} {Z : Nat → Option jp_Sh} {r0 : Int32} {σ0 : jp_I} {τ0 : jp_J}
def fX1_keeps (n : Nat) (nc : Nat) (nl : Nat) (p1 : Int32) (p2 : Int32) (p3 : Int32) (σ : jp_I) (τ : jp_J) : Option (Int32 × jp_I × jp_J) :=
  (fX7_read 14 nl (p2 + (36 * p3)) σ τ).bind fun (a_1, σ_1, τ_1) => if a_1 = (-1) then (some (0, σ_1, τ_1)) else ((fX1_stepCost n nc nl (p1 - p1 / 36 * 36) (p1 / 36) p2 p3 σ_1 τ_1).bind fun (a_3, σ_3, τ_3) => (fX7_read 14 nl p1 σ_3 τ_3).bind fun (a_4, σ_4, τ_4) => if (a_1 + a_3) = a_4 then (some (1, σ_4, τ_4)) else (some (0, σ_4, τ_4)))
set_option maxHeartbeats 4000000 in
set_option maxRecDepth 20000 in
theorem ctX1_keeps {l : Launch} {Γ : jp_G} {Z : Nat → Option jp_Sh} {n : Nat} {nc : Nat} {nl : Nat} (hX0 : jp_hJ Z n nc nl) {p1 : Int32} {p2 : Int32} {p3 : Int32} {σ σ0 : jp_I} {τ τ0 : jp_J} {r0 : Int32} (hf : fX1_keeps n nc nl p1 p2 p3 σ τ = some (r0, σ0, τ0)) : jp_M l yX1_keeps cX1_keeps 5 (some .boolean) 2 46 Γ Z σ τ [.ref (Γ.2.2.1 13), .int p1, .int p2, .int p3] (some (.int r0)) σ0 τ0 := by
  refine jp_mk (lv := [(0, .ref (Γ.2.2.1 13)), (1, .int p1), (2, .int p2), (3, .int p3)]) (by decide) (Nat.le_of_ble_eq_true rfl) rfl fun p e s m args below meth c B => ?_
  obtain ⟨hx, hb, hml, hown, hts, hr, hlk, hE⟩ := id B
  unfold fX1_keeps at hf
  intro H locs ls hP hS hl
  refine lv_aload_n hx hb dX1_keeps_0 rfl (lv_at hl 0 rfl) ?_
  refine jp_getr (k := 2) B hP hX0.1 rfl rfl (by decide) jp_fX1 rfl mw_107 dX1_keeps_1 ?_
  refine lv_iload_n hx hb dX1_keeps_4 rfl (lv_at hl 2 rfl) ?_
  refine lv_bipush (v := 36) hx hb dX1_keeps_5 (by decide) ?_
  refine lv_iload_n hx hb dX1_keeps_7 rfl (lv_at hl 3 rfl) ?_
  refine lv_imul hx hb dX1_keeps_8 ?_
  refine lv_iadd hx hb dX1_keeps_9 ?_
  obtain ⟨⟨a_1, σ_1, τ_1⟩, h_1, hf⟩ := jp_bind hf
  dsimp only at hf
  refine jp_callSN (rest := []) B hP hS hl (ctX7_read hX0.2.1 h_1) mw_85 nw_541 mw_84 mw_2 ddX7_read ⟨Nat.le_of_ble_eq_true rfl, Nat.le_of_ble_eq_true rfl⟩ ⟨Nat.zero_le _, Nat.zero_le _⟩ rfl (Nat.le_of_ble_eq_true rfl) dX1_keeps_10 (fun H locs hP hS => ?_)
  refine lv_istore (lv' := [(4, .int a_1), (0, .ref (Γ.2.2.1 13)), (1, .int p1), (2, .int p2), (3, .int p3)]) hx hb dX1_keeps_13 hl (by decide) rfl (fun ls hl => ?_)
  refine lv_iload hx hb dX1_keeps_15 (lv_at hl 0 rfl) ?_
  refine lv_iconst (v := -1) hx hb dX1_keeps_17 (by decide) ?_
  refine lv_icmp_eq (tgt := 53) hx hb dX1_keeps_18 (by decide) (fun c_2 => ?_) (fun c_2 => ?_)
  · rw [if_pos c_2] at hf
    refine lv_iconst (v := 0) hx hb dX1_keeps_53 (by decide) ?_
    exact jp_endz B hP hS (by decide) dX1_keeps_54 (jp_inj hf)
  · rw [if_neg c_2] at hf
    refine lv_iload hx hb dX1_keeps_21 (lv_at hl 0 rfl) ?_
    refine lv_aload_n hx hb dX1_keeps_23 rfl (lv_at hl 1 rfl) ?_
    refine lv_iload_n hx hb dX1_keeps_24 rfl (lv_at hl 2 rfl) ?_
    refine lv_bipush (v := 36) hx hb dX1_keeps_25 (by decide) ?_
    refine lv_irem hx hb dX1_keeps_27 (by decide) ?_
    refine lv_iload_n hx hb dX1_keeps_28 rfl (lv_at hl 2 rfl) ?_
    refine lv_bipush (v := 36) hx hb dX1_keeps_29 (by decide) ?_
    refine lv_idiv hx hb dX1_keeps_31 (by decide) ?_
    refine lv_iload_n hx hb dX1_keeps_32 rfl (lv_at hl 3 rfl) ?_
    refine lv_iload_n hx hb dX1_keeps_33 rfl (lv_at hl 4 rfl) ?_
    obtain ⟨⟨a_3, σ_3, τ_3⟩, h_3, hf⟩ := jp_bind hf
    dsimp only at hf
    refine jp_callV (rest := [.int a_1]) B hP hS hl (ctX1_stepCost ⟨hX0.1, hX0.2.1, hX0.2.2.1, ⟨hX0.2.2.2.1.1, hX0.2.2.2.1.2.1, hX0.2.2.2.1.2.2.1, ⟨hX0.2.2.2.1.2.2.2.1, hX0.2.2.2.1.2.2.2.2.1, hX0.2.2.2.1.2.2.2.2.2.1, hX0.2.2.2.1.2.2.2.2.2.2.1, hX0.2.2.2.1.2.2.2.2.2.2.2⟩⟩, ⟨hX0.2.2.2.2.1, hX0.2.2.2.2.2⟩⟩ h_3) hX0.1 rfl mw_312 mw_309 mw_310 mw_311 mw_35 ddX1_stepCost ⟨Nat.le_of_ble_eq_true rfl, Nat.le_of_ble_eq_true rfl⟩ ⟨Nat.zero_le _, Nat.zero_le _⟩ rfl (Nat.le_of_ble_eq_true rfl) dX1_keeps_34 (fun H locs hP hS => ?_)
    refine lv_iadd hx hb dX1_keeps_37 ?_
    refine lv_aload_n hx hb dX1_keeps_38 rfl (lv_at hl 1 rfl) ?_
    refine jp_getr (k := 2) B hP hX0.1 rfl rfl (by decide) jp_fX1 rfl mw_107 dX1_keeps_39 ?_
    refine lv_iload_n hx hb dX1_keeps_42 rfl (lv_at hl 2 rfl) ?_
    obtain ⟨⟨a_4, σ_4, τ_4⟩, h_4, hf⟩ := jp_bind hf
    dsimp only at hf
    refine jp_callSN (rest := [.int (a_1 + a_3)]) B hP hS hl (ctX7_read hX0.2.1 h_4) mw_85 nw_541 mw_84 mw_2 ddX7_read ⟨Nat.le_of_ble_eq_true rfl, Nat.le_of_ble_eq_true rfl⟩ ⟨Nat.zero_le _, Nat.zero_le _⟩ rfl (Nat.le_of_ble_eq_true rfl) dX1_keeps_43 (fun H locs hP hS => ?_)
    refine lv_icmp_ne (tgt := 53) hx hb dX1_keeps_46 (by decide) (fun c_5 => ?_) (fun c_5 => ?_)
    · rw [if_neg c_5] at hf
      refine lv_iconst (v := 0) hx hb dX1_keeps_53 (by decide) ?_
      exact jp_endz B hP hS (by decide) dX1_keeps_54 (jp_inj hf)
    · rw [if_pos c_5] at hf
      refine lv_iconst (v := 1) hx hb dX1_keeps_49 (by decide) ?_
      refine lv_goto (tgt := 54) hx hb dX1_keeps_50 (by decide) ?_
      exact jp_endz B hP hS (by decide) dX1_keeps_54 (jp_inj hf)
end
-- X1_follow
section
variable {p : Program} {l : Launch} {e : Jvm.Env} {s : State} {m : MethodId} {args : Array Value} {below : List Frame} {meth : Method} {c : Code} {Γ : jp_G} {Z : Nat → Option jp_Sh} {r0 : Int32} {σ0 : jp_I} {τ0 : jp_J}
def bX1_follow_94_in32 (n : Nat) (nc : Nat) (nl : Nat) (x1 : Int32) (x2 : Int32) (x3 : Int32) (x4 : Int32) (x5 : Int32) (x6 : Int32) (σ : jp_I) (τ : jp_J) : Option (Sum (Int32) (Sum (Unit) Int32) × jp_I × jp_J) :=
  some (.inl (x6 + 1), σ, τ)
set_option maxHeartbeats 4000000 in
set_option maxRecDepth 20000 in
theorem wbX1_follow_94_in32 (B : jp_B Γ p s m args meth c RX1 cX1_follow 8 (some .int)) {n : Nat} {nc : Nat} {nl : Nat} (hX0 : jp_hJ Z n nc nl) {x1 : Int32} {x2 : Int32} {x3 : Int32} {x4 : Int32} {x5 : Int32} {x6 : Int32} {σ : jp_I} {τ : jp_J} {q : Sum (Int32) (Sum (Unit) Int32) × jp_I × jp_J} (hf : bX1_follow_94_in32 n nc nl x1 x2 x3 x4 x5 x6 σ τ = some q) (kb : ∀ v : Int32, q.1 = .inl v → jp_at p l e (jp_R 3 70) s m args below meth c (MQ below (jp_Q Γ Z (some (.int r0)) σ0 τ0) args s 0 0 (jp_A Γ)) 8 Γ Z 32 [(0, .ref (Γ.2.2.1 13)), (1, .int x1), (2, .int x2), (3, .int x3), (4, .int x4), (5, .int x5), (6, .int v)] [] q.2.1 q.2.2) (kx : ∀ v : Unit, q.1 = .inr (.inl v) → jp_at p l e (jp_R 3 70) s m args below meth c (MQ below (jp_Q Γ Z (some (.int r0)) σ0 τ0) args s 0 0 (jp_A Γ)) 8 Γ Z 100 [(0, .ref (Γ.2.2.1 13)), (1, .int x1), (2, .int x2), (3, .int x3), (4, .int x4)] [] q.2.1 q.2.2) (kr : ∀ v : Int32, q.1 = .inr (.inr v) → r0 = v ∧ σ0 = q.2.1 ∧ τ0 = q.2.2) : jp_at p l e (jp_R 3 70) s m args below meth c (MQ below (jp_Q Γ Z (some (.int r0)) σ0 τ0) args s 0 0 (jp_A Γ)) 8 Γ Z 94 [(0, .ref (Γ.2.2.1 13)), (1, .int x1), (2, .int x2), (3, .int x3), (4, .int x4), (5, .int x5), (6, .int x6)] [] σ τ := by
  obtain ⟨hx, hb, hml, hown, hts, hr, hlk, hE⟩ := id B
  unfold bX1_follow_94_in32 at hf
  intro H locs ls hP hS hl
  refine lv_iinc (v := x6 + 1) (lv' := [(6, .int (x6 + 1)), (0, .ref (Γ.2.2.1 13)), (1, .int x1), (2, .int x2), (3, .int x3), (4, .int x4), (5, .int x5)]) hx hb dX1_follow_94 hl (k := 6) rfl rfl (by decide) rfl (fun ls hl => ?_)
  refine lv_goto (tgt := 32) hx hb dX1_follow_97 (by decide) ?_
  obtain rfl := Option.some.inj hf
  exact kb _ rfl H locs ls hP hS (lv_sub hl [1, 2, 3, 4, 5, 6, 0] rfl)
def sX1_follow_32 (n : Nat) (nc : Nat) (nl : Nat) (x1 : Int32) (x2 : Int32) (x3 : Int32) (x4 : Int32) (x5 : Int32) (x6 : Int32) (σ : jp_I) (τ : jp_J) : Option (Sum (Int32) (Sum (Unit) Int32) × jp_I × jp_J) :=
  if 5 ≤ x6 then (some (.inr (.inl ()), σ, τ)) else (if x5 = (-1) then (some (.inr (.inl ()), σ, τ)) else ((fX1_next n nc nl 1 x3 x6 σ τ).bind fun (a_3, σ_3, τ_3) => if a_3 = (-1) then (bX1_follow_94_in32 n nc nl x1 x2 x3 x4 x5 x6 σ_3 τ_3) else ((fX1_fits n nc nl x2 x3 x5 a_3 σ_3 τ_3).bind fun (a_5, σ_5, τ_5) => if a_5 = 0 then (bX1_follow_94_in32 n nc nl x1 x2 x3 x4 x5 x6 σ_5 τ_5) else ((fX1_keeps n nc nl x1 x5 a_3 σ_5 τ_5).bind fun (a_7, σ_7, τ_7) => if a_7 = 0 then (bX1_follow_94_in32 n nc nl x1 x2 x3 x4 x5 x6 σ_7 τ_7) else (some (.inr (.inr (x5 + (36 * a_3))), σ_7, τ_7))))))
set_option maxHeartbeats 4000000 in
set_option maxRecDepth 20000 in
theorem wsX1_follow_32 (B : jp_B Γ p s m args meth c RX1 cX1_follow 8 (some .int)) {n : Nat} {nc : Nat} {nl : Nat} (hX0 : jp_hJ Z n nc nl) {x1 : Int32} {x2 : Int32} {x3 : Int32} {x4 : Int32} {x5 : Int32} {x6 : Int32} {σ : jp_I} {τ : jp_J} {q : Sum (Int32) (Sum (Unit) Int32) × jp_I × jp_J} (hf : sX1_follow_32 n nc nl x1 x2 x3 x4 x5 x6 σ τ = some q) (kb : ∀ v : Int32, q.1 = .inl v → jp_at p l e (jp_R 3 70) s m args below meth c (MQ below (jp_Q Γ Z (some (.int r0)) σ0 τ0) args s 0 0 (jp_A Γ)) 8 Γ Z 32 [(0, .ref (Γ.2.2.1 13)), (1, .int x1), (2, .int x2), (3, .int x3), (4, .int x4), (5, .int x5), (6, .int v)] [] q.2.1 q.2.2) (kx : ∀ v : Unit, q.1 = .inr (.inl v) → jp_at p l e (jp_R 3 70) s m args below meth c (MQ below (jp_Q Γ Z (some (.int r0)) σ0 τ0) args s 0 0 (jp_A Γ)) 8 Γ Z 100 [(0, .ref (Γ.2.2.1 13)), (1, .int x1), (2, .int x2), (3, .int x3), (4, .int x4)] [] q.2.1 q.2.2) (kr : ∀ v : Int32, q.1 = .inr (.inr v) → r0 = v ∧ σ0 = q.2.1 ∧ τ0 = q.2.2) : jp_at p l e (jp_R 3 70) s m args below meth c (MQ below (jp_Q Γ Z (some (.int r0)) σ0 τ0) args s 0 0 (jp_A Γ)) 8 Γ Z 32 [(0, .ref (Γ.2.2.1 13)), (1, .int x1), (2, .int x2), (3, .int x3), (4, .int x4), (5, .int x5), (6, .int x6)] [] σ τ := by
  obtain ⟨hx, hb, hml, hown, hts, hr, hlk, hE⟩ := id B
  unfold sX1_follow_32 at hf
  intro H locs ls hP hS hl
  refine lv_iload hx hb dX1_follow_32 (lv_at hl 6 rfl) ?_
  refine lv_iconst (v := 5) hx hb dX1_follow_34 (by decide) ?_
  refine lv_icmp_ge (tgt := 100) hx hb dX1_follow_35 (by decide) (fun c_1 => ?_) (fun c_1 => ?_)
  · rw [if_pos c_1] at hf
    obtain rfl := Option.some.inj hf
    exact kx _ rfl H locs ls hP hS (lv_sub hl [0, 1, 2, 3, 4] rfl)
  · rw [if_neg c_1] at hf
    refine lv_iload hx hb dX1_follow_38 (lv_at hl 5 rfl) ?_
    refine lv_iconst (v := -1) hx hb dX1_follow_40 (by decide) ?_
    refine lv_icmp_eq (tgt := 100) hx hb dX1_follow_41 (by decide) (fun c_2 => ?_) (fun c_2 => ?_)
    · rw [if_pos c_2] at hf
      obtain rfl := Option.some.inj hf
      exact kx _ rfl H locs ls hP hS (lv_sub hl [0, 1, 2, 3, 4] rfl)
    · rw [if_neg c_2] at hf
      refine lv_aload_n hx hb dX1_follow_44 rfl (lv_at hl 0 rfl) ?_
      refine lv_iconst (v := 1) hx hb dX1_follow_45 (by decide) ?_
      refine lv_iload_n hx hb dX1_follow_46 rfl (lv_at hl 3 rfl) ?_
      refine lv_iload hx hb dX1_follow_47 (lv_at hl 6 rfl) ?_
      obtain ⟨⟨a_3, σ_3, τ_3⟩, h_3, hf⟩ := jp_bind hf
      dsimp only at hf
      refine jp_callV (rest := []) B hP hS hl (ctX1_next ⟨hX0.1, hX0.2.1, hX0.2.2.1, ⟨hX0.2.2.2.1.1, hX0.2.2.2.1.2.1, hX0.2.2.2.1.2.2.1, ⟨hX0.2.2.2.1.2.2.2.1, hX0.2.2.2.1.2.2.2.2.1, hX0.2.2.2.1.2.2.2.2.2.1, hX0.2.2.2.1.2.2.2.2.2.2.1, hX0.2.2.2.1.2.2.2.2.2.2.2⟩⟩, ⟨hX0.2.2.2.2.1, hX0.2.2.2.2.2⟩⟩ h_3) hX0.1 rfl mw_305 mw_302 mw_303 mw_304 mw_35 ddX1_next ⟨Nat.le_of_ble_eq_true rfl, Nat.le_of_ble_eq_true rfl⟩ ⟨Nat.zero_le _, Nat.zero_le _⟩ rfl (Nat.le_of_ble_eq_true rfl) dX1_follow_49 (fun H locs hP hS => ?_)
      refine lv_istore (lv' := [(7, .int a_3), (0, .ref (Γ.2.2.1 13)), (1, .int x1), (2, .int x2), (3, .int x3), (4, .int x4), (5, .int x5), (6, .int x6)]) hx hb dX1_follow_52 hl (by decide) rfl (fun ls hl => ?_)
      refine lv_iload hx hb dX1_follow_54 (lv_at hl 0 rfl) ?_
      refine lv_iconst (v := -1) hx hb dX1_follow_56 (by decide) ?_
      refine lv_icmp_eq (tgt := 94) hx hb dX1_follow_57 (by decide) (fun c_4 => ?_) (fun c_4 => ?_)
      · rw [if_pos c_4] at hf
        exact wbX1_follow_94_in32 B hX0 hf kb kx kr H locs ls hP hS (lv_sub hl [1, 2, 3, 4, 5, 6, 7] rfl)
      · rw [if_neg c_4] at hf
        refine lv_aload_n hx hb dX1_follow_60 rfl (lv_at hl 1 rfl) ?_
        refine lv_iload_n hx hb dX1_follow_61 rfl (lv_at hl 3 rfl) ?_
        refine lv_iload_n hx hb dX1_follow_62 rfl (lv_at hl 4 rfl) ?_
        refine lv_iload hx hb dX1_follow_63 (lv_at hl 6 rfl) ?_
        refine lv_iload hx hb dX1_follow_65 (lv_at hl 0 rfl) ?_
        obtain ⟨⟨a_5, σ_5, τ_5⟩, h_5, hf⟩ := jp_bind hf
        dsimp only at hf
        refine jp_callV (rest := []) B hP hS hl (ctX1_fits ⟨hX0.1, hX0.2.1, hX0.2.2.1, ⟨hX0.2.2.2.1.1, hX0.2.2.2.1.2.1, hX0.2.2.2.1.2.2.1, ⟨hX0.2.2.2.1.2.2.2.1, hX0.2.2.2.1.2.2.2.2.1, hX0.2.2.2.1.2.2.2.2.2.1, hX0.2.2.2.1.2.2.2.2.2.2.1, hX0.2.2.2.1.2.2.2.2.2.2.2⟩⟩, ⟨hX0.2.2.2.2.1, hX0.2.2.2.2.2⟩⟩ h_5) hX0.1 rfl mw_318 mw_315 mw_316 mw_317 mw_35 ddX1_fits ⟨Nat.le_of_ble_eq_true rfl, Nat.le_of_ble_eq_true rfl⟩ ⟨Nat.zero_le _, Nat.zero_le _⟩ rfl (Nat.le_of_ble_eq_true rfl) dX1_follow_67 (fun H locs hP hS => ?_)
        refine lv_if_eq (tgt := 94) hx hb dX1_follow_70 (by decide) (fun c_6 => ?_) (fun c_6 => ?_)
        · rw [if_pos c_6] at hf
          exact wbX1_follow_94_in32 B hX0 hf kb kx kr H locs ls hP hS (lv_sub hl [1, 2, 3, 4, 5, 6, 7] rfl)
        · rw [if_neg c_6] at hf
          refine lv_aload_n hx hb dX1_follow_73 rfl (lv_at hl 1 rfl) ?_
          refine lv_iload_n hx hb dX1_follow_74 rfl (lv_at hl 2 rfl) ?_
          refine lv_iload hx hb dX1_follow_75 (lv_at hl 6 rfl) ?_
          refine lv_iload hx hb dX1_follow_77 (lv_at hl 0 rfl) ?_
          obtain ⟨⟨a_7, σ_7, τ_7⟩, h_7, hf⟩ := jp_bind hf
          dsimp only at hf
          refine jp_callV (rest := []) B hP hS hl (ctX1_keeps ⟨hX0.1, hX0.2.1, hX0.2.2.1, ⟨hX0.2.2.2.1.1, hX0.2.2.2.1.2.1, hX0.2.2.2.1.2.2.1, ⟨hX0.2.2.2.1.2.2.2.1, hX0.2.2.2.1.2.2.2.2.1, hX0.2.2.2.1.2.2.2.2.2.1, hX0.2.2.2.1.2.2.2.2.2.2.1, hX0.2.2.2.1.2.2.2.2.2.2.2⟩⟩, ⟨hX0.2.2.2.2.1, hX0.2.2.2.2.2⟩⟩ h_7) hX0.1 rfl mw_340 mw_337 mw_338 mw_339 mw_35 ddX1_keeps ⟨Nat.le_of_ble_eq_true rfl, Nat.le_of_ble_eq_true rfl⟩ ⟨Nat.zero_le _, Nat.zero_le _⟩ rfl (Nat.le_of_ble_eq_true rfl) dX1_follow_79 (fun H locs hP hS => ?_)
          refine lv_if_eq (tgt := 94) hx hb dX1_follow_82 (by decide) (fun c_8 => ?_) (fun c_8 => ?_)
          · rw [if_pos c_8] at hf
            exact wbX1_follow_94_in32 B hX0 hf kb kx kr H locs ls hP hS (lv_sub hl [1, 2, 3, 4, 5, 6, 7] rfl)
          · rw [if_neg c_8] at hf
            refine lv_iload hx hb dX1_follow_85 (lv_at hl 6 rfl) ?_
            refine lv_bipush (v := 36) hx hb dX1_follow_87 (by decide) ?_
            refine lv_iload hx hb dX1_follow_89 (lv_at hl 0 rfl) ?_
            refine lv_imul hx hb dX1_follow_91 ?_
            refine lv_iadd hx hb dX1_follow_92 ?_
            obtain rfl := Option.some.inj hf
            exact jp_endi B hP hS dX1_follow_93 (kr _ rfl)
set_option maxHeartbeats 4000000 in
theorem lX1_follow_32 (B : jp_B Γ p s m args meth c RX1 cX1_follow 8 (some .int)) {n : Nat} {nc : Nat} {nl : Nat} (hX0 : jp_hJ Z n nc nl) {x1 : Int32} {x2 : Int32} {x3 : Int32} {x4 : Int32} {x5 : Int32} {e1 : Sum (Unit) Int32} {σ1 : jp_I} {τ1 : jp_J} (kx : ∀ v : Unit, e1 = .inl v → jp_at p l e (jp_R 3 70) s m args below meth c (MQ below (jp_Q Γ Z (some (.int r0)) σ0 τ0) args s 0 0 (jp_A Γ)) 8 Γ Z 100 [(0, .ref (Γ.2.2.1 13)), (1, .int x1), (2, .int x2), (3, .int x3), (4, .int x4)] [] σ1 τ1) (kr : ∀ v : Int32, e1 = .inr v → r0 = v ∧ σ0 = σ1 ∧ τ0 = τ1) : ∀ (k : Nat) (v : Int32) (σ : jp_I) (τ : jp_J), jp_loop (fun q : (Int32) × jp_I × jp_J => sX1_follow_32 n nc nl x1 x2 x3 x4 x5 q.1 q.2.1 q.2.2) k (v, σ, τ) = some (e1, σ1, τ1) → jp_at p l e (jp_R 3 70) s m args below meth c (MQ below (jp_Q Γ Z (some (.int r0)) σ0 τ0) args s 0 0 (jp_A Γ)) 8 Γ Z 32 [(0, .ref (Γ.2.2.1 13)), (1, .int x1), (2, .int x2), (3, .int x3), (4, .int x4), (5, .int x5), (6, .int v)] [] σ τ := by
  refine jp_loopI (P := fun (v : Int32) (σ : jp_I) (τ : jp_J) => jp_at p l e (jp_R 3 70) s m args below meth c (MQ below (jp_Q Γ Z (some (.int r0)) σ0 τ0) args s 0 0 (jp_A Γ)) 8 Γ Z 32 [(0, .ref (Γ.2.2.1 13)), (1, .int x1), (2, .int x2), (3, .int x3), (4, .int x4), (5, .int x5), (6, .int v)] [] σ τ) (fun v σ τ q hq hbk hen => ?_)
  exact wsX1_follow_32 B hX0 hq (fun v' hv => hbk v' hv) (fun x hv => by obtain ⟨h1, h2, h3⟩ := hen _ hv; rw [h2, h3]; exact kx x h1.symm) (fun r hv => by obtain ⟨h1, h2, h3⟩ := hen _ hv; rw [h2, h3]; exact kr r h1.symm)
def bX1_follow_100_in13 (n : Nat) (nc : Nat) (nl : Nat) (x1 : Int32) (x2 : Int32) (x3 : Int32) (x4 : Int32) (σ : jp_I) (τ : jp_J) : Option (Sum (Int32) (Sum (Unit) Int32) × jp_I × jp_J) :=
  some (.inl (x4 + 1), σ, τ)
set_option maxHeartbeats 4000000 in
set_option maxRecDepth 20000 in
theorem wbX1_follow_100_in13 (B : jp_B Γ p s m args meth c RX1 cX1_follow 8 (some .int)) {n : Nat} {nc : Nat} {nl : Nat} (hX0 : jp_hJ Z n nc nl) {x1 : Int32} {x2 : Int32} {x3 : Int32} {x4 : Int32} {σ : jp_I} {τ : jp_J} {q : Sum (Int32) (Sum (Unit) Int32) × jp_I × jp_J} (hf : bX1_follow_100_in13 n nc nl x1 x2 x3 x4 σ τ = some q) (kb : ∀ v : Int32, q.1 = .inl v → jp_at p l e (jp_R 3 70) s m args below meth c (MQ below (jp_Q Γ Z (some (.int r0)) σ0 τ0) args s 0 0 (jp_A Γ)) 8 Γ Z 13 [(0, .ref (Γ.2.2.1 13)), (1, .int x1), (2, .int x2), (3, .int x3), (4, .int v)] [] q.2.1 q.2.2) (kx : ∀ v : Unit, q.1 = .inr (.inl v) → jp_at p l e (jp_R 3 70) s m args below meth c (MQ below (jp_Q Γ Z (some (.int r0)) σ0 τ0) args s 0 0 (jp_A Γ)) 8 Γ Z 106 [(1, .int x1)] [] q.2.1 q.2.2) (kr : ∀ v : Int32, q.1 = .inr (.inr v) → r0 = v ∧ σ0 = q.2.1 ∧ τ0 = q.2.2) : jp_at p l e (jp_R 3 70) s m args below meth c (MQ below (jp_Q Γ Z (some (.int r0)) σ0 τ0) args s 0 0 (jp_A Γ)) 8 Γ Z 100 [(0, .ref (Γ.2.2.1 13)), (1, .int x1), (2, .int x2), (3, .int x3), (4, .int x4)] [] σ τ := by
  obtain ⟨hx, hb, hml, hown, hts, hr, hlk, hE⟩ := id B
  unfold bX1_follow_100_in13 at hf
  intro H locs ls hP hS hl
  refine lv_iinc (v := x4 + 1) (lv' := [(4, .int (x4 + 1)), (0, .ref (Γ.2.2.1 13)), (1, .int x1), (2, .int x2), (3, .int x3)]) hx hb dX1_follow_100 hl (k := 4) rfl rfl (by decide) rfl (fun ls hl => ?_)
  refine lv_goto (tgt := 13) hx hb dX1_follow_103 (by decide) ?_
  obtain rfl := Option.some.inj hf
  exact kb _ rfl H locs ls hP hS (lv_sub hl [1, 2, 3, 4, 0] rfl)
def sX1_follow_13 (n : Nat) (nc : Nat) (nl : Nat) (x1 : Int32) (x2 : Int32) (x3 : Int32) (x4 : Int32) (σ : jp_I) (τ : jp_J) : Option (Sum (Int32) (Sum (Unit) Int32) × jp_I × jp_J) :=
  if 5 ≤ x4 then (some (.inr (.inl ()), σ, τ)) else ((fX1_next n nc nl 0 x2 x4 σ τ).bind fun (a_2, σ_2, τ_2) => (jp_loop (fun q : (Int32) × jp_I × jp_J => sX1_follow_32 n nc nl x1 x2 x3 x4 a_2 q.1 q.2.1 q.2.2) jp_F (0, σ_2, τ_2)).bind fun (e_3, σ_3, τ_3) => match e_3 with
    | .inl _ => (bX1_follow_100_in13 n nc nl x1 x2 x3 x4 σ_3 τ_3)
    | .inr r_3 => some (.inr (.inr r_3), σ_3, τ_3))
set_option maxHeartbeats 4000000 in
set_option maxRecDepth 20000 in
theorem wsX1_follow_13 (B : jp_B Γ p s m args meth c RX1 cX1_follow 8 (some .int)) {n : Nat} {nc : Nat} {nl : Nat} (hX0 : jp_hJ Z n nc nl) {x1 : Int32} {x2 : Int32} {x3 : Int32} {x4 : Int32} {σ : jp_I} {τ : jp_J} {q : Sum (Int32) (Sum (Unit) Int32) × jp_I × jp_J} (hf : sX1_follow_13 n nc nl x1 x2 x3 x4 σ τ = some q) (kb : ∀ v : Int32, q.1 = .inl v → jp_at p l e (jp_R 3 70) s m args below meth c (MQ below (jp_Q Γ Z (some (.int r0)) σ0 τ0) args s 0 0 (jp_A Γ)) 8 Γ Z 13 [(0, .ref (Γ.2.2.1 13)), (1, .int x1), (2, .int x2), (3, .int x3), (4, .int v)] [] q.2.1 q.2.2) (kx : ∀ v : Unit, q.1 = .inr (.inl v) → jp_at p l e (jp_R 3 70) s m args below meth c (MQ below (jp_Q Γ Z (some (.int r0)) σ0 τ0) args s 0 0 (jp_A Γ)) 8 Γ Z 106 [(1, .int x1)] [] q.2.1 q.2.2) (kr : ∀ v : Int32, q.1 = .inr (.inr v) → r0 = v ∧ σ0 = q.2.1 ∧ τ0 = q.2.2) : jp_at p l e (jp_R 3 70) s m args below meth c (MQ below (jp_Q Γ Z (some (.int r0)) σ0 τ0) args s 0 0 (jp_A Γ)) 8 Γ Z 13 [(0, .ref (Γ.2.2.1 13)), (1, .int x1), (2, .int x2), (3, .int x3), (4, .int x4)] [] σ τ := by
  obtain ⟨hx, hb, hml, hown, hts, hr, hlk, hE⟩ := id B
  unfold sX1_follow_13 at hf
  intro H locs ls hP hS hl
  refine lv_iload hx hb dX1_follow_13 (lv_at hl 4 rfl) ?_
  refine lv_iconst (v := 5) hx hb dX1_follow_15 (by decide) ?_
  refine lv_icmp_ge (tgt := 106) hx hb dX1_follow_16 (by decide) (fun c_1 => ?_) (fun c_1 => ?_)
  · rw [if_pos c_1] at hf
    obtain rfl := Option.some.inj hf
    exact kx _ rfl H locs ls hP hS (lv_sub hl [1] rfl)
  · rw [if_neg c_1] at hf
    refine lv_aload_n hx hb dX1_follow_19 rfl (lv_at hl 0 rfl) ?_
    refine lv_iconst (v := 0) hx hb dX1_follow_20 (by decide) ?_
    refine lv_iload_n hx hb dX1_follow_21 rfl (lv_at hl 2 rfl) ?_
    refine lv_iload hx hb dX1_follow_22 (lv_at hl 4 rfl) ?_
    obtain ⟨⟨a_2, σ_2, τ_2⟩, h_2, hf⟩ := jp_bind hf
    dsimp only at hf
    refine jp_callV (rest := []) B hP hS hl (ctX1_next ⟨hX0.1, hX0.2.1, hX0.2.2.1, ⟨hX0.2.2.2.1.1, hX0.2.2.2.1.2.1, hX0.2.2.2.1.2.2.1, ⟨hX0.2.2.2.1.2.2.2.1, hX0.2.2.2.1.2.2.2.2.1, hX0.2.2.2.1.2.2.2.2.2.1, hX0.2.2.2.1.2.2.2.2.2.2.1, hX0.2.2.2.1.2.2.2.2.2.2.2⟩⟩, ⟨hX0.2.2.2.2.1, hX0.2.2.2.2.2⟩⟩ h_2) hX0.1 rfl mw_305 mw_302 mw_303 mw_304 mw_35 ddX1_next ⟨Nat.le_of_ble_eq_true rfl, Nat.le_of_ble_eq_true rfl⟩ ⟨Nat.zero_le _, Nat.zero_le _⟩ rfl (Nat.le_of_ble_eq_true rfl) dX1_follow_24 (fun H locs hP hS => ?_)
    refine lv_istore (lv' := [(5, .int a_2), (0, .ref (Γ.2.2.1 13)), (1, .int x1), (2, .int x2), (3, .int x3), (4, .int x4)]) hx hb dX1_follow_27 hl (by decide) rfl (fun ls hl => ?_)
    refine lv_iconst (v := 0) hx hb dX1_follow_29 (by decide) ?_
    refine lv_istore (lv' := [(6, .int 0), (5, .int a_2), (0, .ref (Γ.2.2.1 13)), (1, .int x1), (2, .int x2), (3, .int x3), (4, .int x4)]) hx hb dX1_follow_30 hl (by decide) rfl (fun ls hl => ?_)
    obtain ⟨⟨e_3, σ_3, τ_3⟩, h_3, hf⟩ := jp_bind hf
    refine lX1_follow_32 (r0 := r0) B hX0 (x1 := x1) (x2 := x2) (x3 := x3) (x4 := x4) (x5 := a_2) (fun v_3 k_3 => ?_) (fun r_3 k_3 => ?_) _ _ _ _ h_3 H locs ls hP hS (lv_sub hl [2, 3, 4, 5, 6, 1, 0] rfl)
    · subst k_3
      dsimp only at hf
      intro H locs ls hP hS hl
      exact wbX1_follow_100_in13 B hX0 hf kb kx kr H locs ls hP hS (lv_sub hl [0, 1, 2, 3, 4] rfl)
    · subst k_3
      dsimp only at hf
      obtain rfl := Option.some.inj hf
      exact kr _ rfl
set_option maxHeartbeats 4000000 in
theorem lX1_follow_13 (B : jp_B Γ p s m args meth c RX1 cX1_follow 8 (some .int)) {n : Nat} {nc : Nat} {nl : Nat} (hX0 : jp_hJ Z n nc nl) {x1 : Int32} {x2 : Int32} {x3 : Int32} {e1 : Sum (Unit) Int32} {σ1 : jp_I} {τ1 : jp_J} (kx : ∀ v : Unit, e1 = .inl v → jp_at p l e (jp_R 3 70) s m args below meth c (MQ below (jp_Q Γ Z (some (.int r0)) σ0 τ0) args s 0 0 (jp_A Γ)) 8 Γ Z 106 [(1, .int x1)] [] σ1 τ1) (kr : ∀ v : Int32, e1 = .inr v → r0 = v ∧ σ0 = σ1 ∧ τ0 = τ1) : ∀ (k : Nat) (v : Int32) (σ : jp_I) (τ : jp_J), jp_loop (fun q : (Int32) × jp_I × jp_J => sX1_follow_13 n nc nl x1 x2 x3 q.1 q.2.1 q.2.2) k (v, σ, τ) = some (e1, σ1, τ1) → jp_at p l e (jp_R 3 70) s m args below meth c (MQ below (jp_Q Γ Z (some (.int r0)) σ0 τ0) args s 0 0 (jp_A Γ)) 8 Γ Z 13 [(0, .ref (Γ.2.2.1 13)), (1, .int x1), (2, .int x2), (3, .int x3), (4, .int v)] [] σ τ := by
  refine jp_loopI (P := fun (v : Int32) (σ : jp_I) (τ : jp_J) => jp_at p l e (jp_R 3 70) s m args below meth c (MQ below (jp_Q Γ Z (some (.int r0)) σ0 τ0) args s 0 0 (jp_A Γ)) 8 Γ Z 13 [(0, .ref (Γ.2.2.1 13)), (1, .int x1), (2, .int x2), (3, .int x3), (4, .int v)] [] σ τ) (fun v σ τ q hq hbk hen => ?_)
  exact wsX1_follow_13 B hX0 hq (fun v' hv => hbk v' hv) (fun x hv => by obtain ⟨h1, h2, h3⟩ := hen _ hv; rw [h2, h3]; exact kx x h1.symm) (fun r hv => by obtain ⟨h1, h2, h3⟩ := hen _ hv; rw [h2, h3]; exact kr r h1.symm)
def fX1_follow (n : Nat) (nc : Nat) (nl : Nat) (p1 : Int32) (σ : jp_I) (τ : jp_J) : Option (Int32 × jp_I × jp_J) :=
  (jp_loop (fun q : (Int32) × jp_I × jp_J => sX1_follow_13 n nc nl p1 (p1 - p1 / 36 * 36) (p1 / 36) q.1 q.2.1 q.2.2) jp_F (0, σ, τ)).bind fun (e_1, σ_1, τ_1) => match e_1 with
    | .inl _ => (some (p1, σ_1, τ_1))
    | .inr r_1 => some (r_1, σ_1, τ_1)
set_option maxHeartbeats 4000000 in
set_option maxRecDepth 20000 in
theorem ctX1_follow {l : Launch} {Γ : jp_G} {Z : Nat → Option jp_Sh} {n : Nat} {nc : Nat} {nl : Nat} (hX0 : jp_hJ Z n nc nl) {p1 : Int32} {σ σ0 : jp_I} {τ τ0 : jp_J} {r0 : Int32} (hf : fX1_follow n nc nl p1 σ τ = some (r0, σ0, τ0)) : jp_M l yX1_follow cX1_follow 8 (some .int) 3 70 Γ Z σ τ [.ref (Γ.2.2.1 13), .int p1] (some (.int r0)) σ0 τ0 := by
  refine jp_mk (lv := [(0, .ref (Γ.2.2.1 13)), (1, .int p1)]) (by decide) (Nat.le_of_ble_eq_true rfl) rfl fun p e s m args below meth c B => ?_
  obtain ⟨hx, hb, hml, hown, hts, hr, hlk, hE⟩ := id B
  unfold fX1_follow at hf
  intro H locs ls hP hS hl
  refine lv_iload_n hx hb dX1_follow_0 rfl (lv_at hl 1 rfl) ?_
  refine lv_bipush (v := 36) hx hb dX1_follow_1 (by decide) ?_
  refine lv_irem hx hb dX1_follow_3 (by decide) ?_
  refine lv_istore_n (lv' := [(2, .int (p1 - p1 / 36 * 36)), (0, .ref (Γ.2.2.1 13)), (1, .int p1)]) hx hb dX1_follow_4 rfl hl (by decide) rfl (fun ls hl => ?_)
  refine lv_iload_n hx hb dX1_follow_5 rfl (lv_at hl 2 rfl) ?_
  refine lv_bipush (v := 36) hx hb dX1_follow_6 (by decide) ?_
  refine lv_idiv hx hb dX1_follow_8 (by decide) ?_
  refine lv_istore_n (lv' := [(3, .int (p1 / 36)), (2, .int (p1 - p1 / 36 * 36)), (0, .ref (Γ.2.2.1 13)), (1, .int p1)]) hx hb dX1_follow_9 rfl hl (by decide) rfl (fun ls hl => ?_)
  refine lv_iconst (v := 0) hx hb dX1_follow_10 (by decide) ?_
  refine lv_istore (lv' := [(4, .int 0), (3, .int (p1 / 36)), (2, .int (p1 - p1 / 36 * 36)), (0, .ref (Γ.2.2.1 13)), (1, .int p1)]) hx hb dX1_follow_11 hl (by decide) rfl (fun ls hl => ?_)
  obtain ⟨⟨e_1, σ_1, τ_1⟩, h_1, hf⟩ := jp_bind hf
  refine lX1_follow_13 (r0 := r0) B hX0 (x1 := p1) (x2 := (p1 - p1 / 36 * 36)) (x3 := (p1 / 36)) (fun v_1 k_1 => ?_) (fun r_1 k_1 => ?_) _ _ _ _ h_1 H locs ls hP hS (lv_sub hl [3, 4, 2, 1, 0] rfl)
  · subst k_1
    dsimp only at hf
    intro H locs ls hP hS hl
    refine lv_iload_n hx hb dX1_follow_106 rfl (lv_at hl 0 rfl) ?_
    exact jp_endi B hP hS dX1_follow_107 (jp_inj hf)
  · subst k_1
    dsimp only at hf
    exact jp_inj hf
end
-- X1_note
section
variable {p : Program} {l : Launch} {e : Jvm.Env} {s : State} {m : MethodId} {args : Array Value} {below : List Frame} {meth : Method} {c : Code} {Γ : jp_G} {Z : Nat → Option jp_Sh} {r0 : Int32} {σ0 : jp_I} {τ0 : jp_J}
def bX1_note_17 (n : Nat) (nc : Nat) (nl : Nat) (x2 : Int32) (x3 : Int32) (σ : jp_I) (τ : jp_J) : Option (Int32 × jp_I × jp_J) :=
  if (σ 13 1) ≤ 1 then (some (0, σ, τ)) else ((fX2_put 11 12 nc 1 x2 (x3 / 36) σ τ).bind fun (a_2, σ_2, τ_2) => some (0, σ_2, τ_2))
set_option maxHeartbeats 4000000 in
set_option maxRecDepth 20000 in
theorem wbX1_note_17 (B : jp_B Γ p s m args meth c RX1 cX1_note 4 none) {n : Nat} {nc : Nat} {nl : Nat} (hX0 : jp_hJ Z n nc nl) {x2 : Int32} {x3 : Int32} {σ : jp_I} {τ : jp_J} (hf : bX1_note_17 n nc nl x2 x3 σ τ = some (r0, σ0, τ0)) : jp_at p l e (jp_R 2 45) s m args below meth c (MQ below (jp_Q Γ Z none σ0 τ0) args s 0 0 (jp_A Γ)) 4 Γ Z 17 [(0, .ref (Γ.2.2.1 13)), (1, .ref (Γ.2.2.1 11)), (2, .int x2), (3, .int x3)] [] σ τ := by
  obtain ⟨hx, hb, hml, hown, hts, hr, hlk, hE⟩ := id B
  unfold bX1_note_17 at hf
  intro H locs ls hP hS hl
  refine lv_aload_n hx hb dX1_note_17 rfl (lv_at hl 0 rfl) ?_
  refine jp_geti (k := 1) B hP hX0.1 rfl rfl (by decide) jp_fX1 rfl mw_106 dX1_note_18 ?_
  refine lv_iconst (v := 1) hx hb dX1_note_21 (by decide) ?_
  refine lv_icmp_le (tgt := 35) hx hb dX1_note_22 (by decide) (fun c_1 => ?_) (fun c_1 => ?_)
  · rw [if_pos c_1] at hf
    exact jp_endv B hP hS dX1_note_35 (jp_inj hf)
  · rw [if_neg c_1] at hf
    refine lv_aload_n hx hb dX1_note_25 rfl (lv_at hl 1 rfl) ?_
    refine lv_iconst (v := 1) hx hb dX1_note_26 (by decide) ?_
    refine lv_iload_n hx hb dX1_note_27 rfl (lv_at hl 2 rfl) ?_
    refine lv_iload_n hx hb dX1_note_28 rfl (lv_at hl 3 rfl) ?_
    refine lv_bipush (v := 36) hx hb dX1_note_29 (by decide) ?_
    refine lv_idiv hx hb dX1_note_31 (by decide) ?_
    obtain ⟨⟨a_2, σ_2, τ_2⟩, h_2, hf⟩ := jp_bind hf
    dsimp only at hf
    refine jp_callVN (rest := []) B hP hS hl (ctX2_put ⟨hX0.2.2.2.2.1, hX0.2.2.2.2.2⟩ h_2) hX0.2.2.2.2.1 rfl mw_332 nw_584 mw_330 mw_331 mw_42 ddX2_put ⟨Nat.le_of_ble_eq_true rfl, Nat.le_of_ble_eq_true rfl⟩ ⟨Nat.zero_le _, Nat.zero_le _⟩ rfl (Nat.le_of_ble_eq_true rfl) dX1_note_32 (fun H locs hP hS => ?_)
    exact jp_endv B hP hS dX1_note_35 (jp_inj hf)
def fX1_note (n : Nat) (nc : Nat) (nl : Nat) (p2 : Int32) (p3 : Int32) (σ : jp_I) (τ : jp_J) : Option (Int32 × jp_I × jp_J) :=
  if (σ 13 1) ≤ 0 then (bX1_note_17 n nc nl p2 p3 σ τ) else ((fX2_put 11 12 nc 0 p2 (p3 - p3 / 36 * 36) σ τ).bind fun (a_2, σ_2, τ_2) => bX1_note_17 n nc nl p2 p3 σ_2 τ_2)
set_option maxHeartbeats 4000000 in
set_option maxRecDepth 20000 in
theorem ctX1_note {l : Launch} {Γ : jp_G} {Z : Nat → Option jp_Sh} {n : Nat} {nc : Nat} {nl : Nat} (hX0 : jp_hJ Z n nc nl) {p2 : Int32} {p3 : Int32} {σ σ0 : jp_I} {τ τ0 : jp_J} {r0 : Int32} (hf : fX1_note n nc nl p2 p3 σ τ = some (r0, σ0, τ0)) : jp_M l yX1_note cX1_note 4 none 2 45 Γ Z σ τ [.ref (Γ.2.2.1 13), .ref (Γ.2.2.1 11), .int p2, .int p3] none σ0 τ0 := by
  refine jp_mk (lv := [(0, .ref (Γ.2.2.1 13)), (1, .ref (Γ.2.2.1 11)), (2, .int p2), (3, .int p3)]) (by decide) (Nat.le_of_ble_eq_true rfl) rfl fun p e s m args below meth c B => ?_
  obtain ⟨hx, hb, hml, hown, hts, hr, hlk, hE⟩ := id B
  unfold fX1_note at hf
  intro H locs ls hP hS hl
  refine lv_aload_n hx hb dX1_note_0 rfl (lv_at hl 0 rfl) ?_
  refine jp_geti (k := 1) B hP hX0.1 rfl rfl (by decide) jp_fX1 rfl mw_106 dX1_note_1 ?_
  refine lv_if_le (tgt := 17) hx hb dX1_note_4 (by decide) (fun c_1 => ?_) (fun c_1 => ?_)
  · rw [if_pos c_1] at hf
    exact wbX1_note_17 B hX0 hf H locs ls hP hS (lv_sub hl [0, 1, 2, 3] rfl)
  · rw [if_neg c_1] at hf
    refine lv_aload_n hx hb dX1_note_7 rfl (lv_at hl 1 rfl) ?_
    refine lv_iconst (v := 0) hx hb dX1_note_8 (by decide) ?_
    refine lv_iload_n hx hb dX1_note_9 rfl (lv_at hl 2 rfl) ?_
    refine lv_iload_n hx hb dX1_note_10 rfl (lv_at hl 3 rfl) ?_
    refine lv_bipush (v := 36) hx hb dX1_note_11 (by decide) ?_
    refine lv_irem hx hb dX1_note_13 (by decide) ?_
    obtain ⟨⟨a_2, σ_2, τ_2⟩, h_2, hf⟩ := jp_bind hf
    dsimp only at hf
    refine jp_callVN (rest := []) B hP hS hl (ctX2_put ⟨hX0.2.2.2.2.1, hX0.2.2.2.2.2⟩ h_2) hX0.2.2.2.2.1 rfl mw_332 nw_584 mw_330 mw_331 mw_42 ddX2_put ⟨Nat.le_of_ble_eq_true rfl, Nat.le_of_ble_eq_true rfl⟩ ⟨Nat.zero_le _, Nat.zero_le _⟩ rfl (Nat.le_of_ble_eq_true rfl) dX1_note_14 (fun H locs hP hS => ?_)
    exact wbX1_note_17 B hX0 hf H locs ls hP hS (lv_sub hl [0, 1, 2, 3] rfl)
end
-- X1_walk
section
variable {p : Program} {l : Launch} {e : Jvm.Env} {s : State} {m : MethodId} {args : Array Value} {below : List Frame} {meth : Method} {c : Code} {Γ : jp_G} {Z : Nat → Option jp_Sh} {r0 : Int32} {σ0 : jp_I} {τ0 : jp_J}
def sX1_walk_12 (n : Nat) (nc : Nat) (nl : Nat) (x3 : Int32) (x4 : Int32) (σ : jp_I) (τ : jp_J) : Option (Sum (Int32 × Int32) (Sum (Int32) Int32) × jp_I × jp_J) :=
  (fX7_mostSteps (σ 13 1) σ τ).bind fun (a_1, σ_1, τ_1) => if a_1 ≤ x4 then (some (.inr (.inl x4), σ_1, τ_1)) else ((fX7_read 14 nl x3 σ_1 τ_1).bind fun (a_3, σ_3, τ_3) => if a_3 ≤ 0 then (some (.inr (.inl x4), σ_3, τ_3)) else ((fX1_follow n nc nl x3 σ_3 τ_3).bind fun (a_5, σ_5, τ_5) => (fX1_note n nc nl (x4 + 1) a_5 σ_5 τ_5).bind fun (a_6, σ_6, τ_6) => some (.inl (a_5, x4 + 1), σ_6, τ_6)))
set_option maxHeartbeats 4000000 in
set_option maxRecDepth 20000 in
theorem wsX1_walk_12 (B : jp_B Γ p s m args meth c RX1 cX1_walk 5 (some .int)) {n : Nat} {nc : Nat} {nl : Nat} (hX0 : jp_hJ Z n nc nl) {x3 : Int32} {x4 : Int32} {σ : jp_I} {τ : jp_J} {q : Sum (Int32 × Int32) (Sum (Int32) Int32) × jp_I × jp_J} (hf : sX1_walk_12 n nc nl x3 x4 σ τ = some q) (kb : ∀ v : Int32 × Int32, q.1 = .inl v → jp_at p l e (jp_R 4 97) s m args below meth c (MQ below (jp_Q Γ Z (some (.int r0)) σ0 τ0) args s 0 0 (jp_A Γ)) 5 Γ Z 12 [(0, .ref (Γ.2.2.1 13)), (1, .ref (Γ.2.2.1 11)), (3, .int v.1), (4, .int v.2)] [] q.2.1 q.2.2) (kx : ∀ v : Int32, q.1 = .inr (.inl v) → jp_at p l e (jp_R 4 97) s m args below meth c (MQ below (jp_Q Γ Z (some (.int r0)) σ0 τ0) args s 0 0 (jp_A Γ)) 5 Γ Z 55 [(4, .int v)] [] q.2.1 q.2.2) (kr : ∀ v : Int32, q.1 = .inr (.inr v) → r0 = v ∧ σ0 = q.2.1 ∧ τ0 = q.2.2) : jp_at p l e (jp_R 4 97) s m args below meth c (MQ below (jp_Q Γ Z (some (.int r0)) σ0 τ0) args s 0 0 (jp_A Γ)) 5 Γ Z 12 [(0, .ref (Γ.2.2.1 13)), (1, .ref (Γ.2.2.1 11)), (3, .int x3), (4, .int x4)] [] σ τ := by
  obtain ⟨hx, hb, hml, hown, hts, hr, hlk, hE⟩ := id B
  unfold sX1_walk_12 at hf
  intro H locs ls hP hS hl
  refine lv_iload hx hb dX1_walk_12 (lv_at hl 3 rfl) ?_
  refine lv_aload_n hx hb dX1_walk_14 rfl (lv_at hl 0 rfl) ?_
  refine jp_geti (k := 1) B hP hX0.1 rfl rfl (by decide) jp_fX1 rfl mw_106 dX1_walk_15 ?_
  obtain ⟨⟨a_1, σ_1, τ_1⟩, h_1, hf⟩ := jp_bind hf
  dsimp only at hf
  refine jp_callSN (rest := [.int x4]) B hP hS hl (ctX7_mostSteps h_1) mw_121 nw_589 mw_120 mw_2 ddX7_mostSteps ⟨Nat.le_of_ble_eq_true rfl, Nat.le_of_ble_eq_true rfl⟩ ⟨Nat.zero_le _, Nat.zero_le _⟩ rfl (Nat.le_of_ble_eq_true rfl) dX1_walk_18 (fun H locs hP hS => ?_)
  refine lv_icmp_ge (tgt := 55) hx hb dX1_walk_21 (by decide) (fun c_2 => ?_) (fun c_2 => ?_)
  · rw [if_pos c_2] at hf
    obtain rfl := Option.some.inj hf
    exact kx _ rfl H locs ls hP hS (lv_sub hl [3] rfl)
  · rw [if_neg c_2] at hf
    refine lv_aload_n hx hb dX1_walk_24 rfl (lv_at hl 0 rfl) ?_
    refine jp_getr (k := 2) B hP hX0.1 rfl rfl (by decide) jp_fX1 rfl mw_107 dX1_walk_25 ?_
    refine lv_iload_n hx hb dX1_walk_28 rfl (lv_at hl 2 rfl) ?_
    obtain ⟨⟨a_3, σ_3, τ_3⟩, h_3, hf⟩ := jp_bind hf
    dsimp only at hf
    refine jp_callSN (rest := []) B hP hS hl (ctX7_read hX0.2.1 h_3) mw_85 nw_541 mw_84 mw_2 ddX7_read ⟨Nat.le_of_ble_eq_true rfl, Nat.le_of_ble_eq_true rfl⟩ ⟨Nat.zero_le _, Nat.zero_le _⟩ rfl (Nat.le_of_ble_eq_true rfl) dX1_walk_29 (fun H locs hP hS => ?_)
    refine lv_if_le (tgt := 55) hx hb dX1_walk_32 (by decide) (fun c_4 => ?_) (fun c_4 => ?_)
    · rw [if_pos c_4] at hf
      obtain rfl := Option.some.inj hf
      exact kx _ rfl H locs ls hP hS (lv_sub hl [3] rfl)
    · rw [if_neg c_4] at hf
      refine lv_aload_n hx hb dX1_walk_35 rfl (lv_at hl 0 rfl) ?_
      refine lv_iload_n hx hb dX1_walk_36 rfl (lv_at hl 2 rfl) ?_
      obtain ⟨⟨a_5, σ_5, τ_5⟩, h_5, hf⟩ := jp_bind hf
      dsimp only at hf
      refine jp_callV (rest := []) B hP hS hl (ctX1_follow ⟨hX0.1, hX0.2.1, hX0.2.2.1, ⟨hX0.2.2.2.1.1, hX0.2.2.2.1.2.1, hX0.2.2.2.1.2.2.1, ⟨hX0.2.2.2.1.2.2.2.1, hX0.2.2.2.1.2.2.2.2.1, hX0.2.2.2.1.2.2.2.2.2.1, hX0.2.2.2.1.2.2.2.2.2.2.1, hX0.2.2.2.1.2.2.2.2.2.2.2⟩⟩, ⟨hX0.2.2.2.2.1, hX0.2.2.2.2.2⟩⟩ h_5) hX0.1 rfl mw_336 mw_333 mw_334 mw_335 mw_35 ddX1_follow ⟨Nat.le_of_ble_eq_true rfl, Nat.le_of_ble_eq_true rfl⟩ ⟨Nat.zero_le _, Nat.zero_le _⟩ rfl (Nat.le_of_ble_eq_true rfl) dX1_walk_37 (fun H locs hP hS => ?_)
      refine lv_istore_n (lv' := [(3, .int a_5), (0, .ref (Γ.2.2.1 13)), (1, .ref (Γ.2.2.1 11)), (4, .int x4)]) hx hb dX1_walk_40 rfl hl (by decide) rfl (fun ls hl => ?_)
      refine lv_iinc (v := x4 + 1) (lv' := [(4, .int (x4 + 1)), (3, .int a_5), (0, .ref (Γ.2.2.1 13)), (1, .ref (Γ.2.2.1 11))]) hx hb dX1_walk_41 hl (k := 3) rfl rfl (by decide) rfl (fun ls hl => ?_)
      refine lv_aload_n hx hb dX1_walk_44 rfl (lv_at hl 2 rfl) ?_
      refine lv_aload_n hx hb dX1_walk_45 rfl (lv_at hl 3 rfl) ?_
      refine lv_iload hx hb dX1_walk_46 (lv_at hl 0 rfl) ?_
      refine lv_iload_n hx hb dX1_walk_48 rfl (lv_at hl 1 rfl) ?_
      obtain ⟨⟨a_6, σ_6, τ_6⟩, h_6, hf⟩ := jp_bind hf
      dsimp only at hf
      refine jp_callV (rest := []) B hP hS hl (ctX1_note ⟨hX0.1, hX0.2.1, hX0.2.2.1, ⟨hX0.2.2.2.1.1, hX0.2.2.2.1.2.1, hX0.2.2.2.1.2.2.1, ⟨hX0.2.2.2.1.2.2.2.1, hX0.2.2.2.1.2.2.2.2.1, hX0.2.2.2.1.2.2.2.2.2.1, hX0.2.2.2.1.2.2.2.2.2.2.1, hX0.2.2.2.1.2.2.2.2.2.2.2⟩⟩, ⟨hX0.2.2.2.2.1, hX0.2.2.2.2.2⟩⟩ h_6) hX0.1 rfl mw_329 mw_326 mw_327 mw_328 mw_35 ddX1_note ⟨Nat.le_of_ble_eq_true rfl, Nat.le_of_ble_eq_true rfl⟩ ⟨Nat.zero_le _, Nat.zero_le _⟩ rfl (Nat.le_of_ble_eq_true rfl) dX1_walk_49 (fun H locs hP hS => ?_)
      refine lv_goto (tgt := 12) hx hb dX1_walk_52 (by decide) ?_
      obtain rfl := Option.some.inj hf
      exact kb _ rfl H locs ls hP hS (lv_sub hl [2, 3, 1, 0] rfl)
set_option maxHeartbeats 4000000 in
theorem lX1_walk_12 (B : jp_B Γ p s m args meth c RX1 cX1_walk 5 (some .int)) {n : Nat} {nc : Nat} {nl : Nat} (hX0 : jp_hJ Z n nc nl) {e1 : Sum (Int32) Int32} {σ1 : jp_I} {τ1 : jp_J} (kx : ∀ v : Int32, e1 = .inl v → jp_at p l e (jp_R 4 97) s m args below meth c (MQ below (jp_Q Γ Z (some (.int r0)) σ0 τ0) args s 0 0 (jp_A Γ)) 5 Γ Z 55 [(4, .int v)] [] σ1 τ1) (kr : ∀ v : Int32, e1 = .inr v → r0 = v ∧ σ0 = σ1 ∧ τ0 = τ1) : ∀ (k : Nat) (v : Int32 × Int32) (σ : jp_I) (τ : jp_J), jp_loop (fun q : (Int32 × Int32) × jp_I × jp_J => sX1_walk_12 n nc nl q.1.1 q.1.2 q.2.1 q.2.2) k (v, σ, τ) = some (e1, σ1, τ1) → jp_at p l e (jp_R 4 97) s m args below meth c (MQ below (jp_Q Γ Z (some (.int r0)) σ0 τ0) args s 0 0 (jp_A Γ)) 5 Γ Z 12 [(0, .ref (Γ.2.2.1 13)), (1, .ref (Γ.2.2.1 11)), (3, .int v.1), (4, .int v.2)] [] σ τ := by
  refine jp_loopI (P := fun (v : Int32 × Int32) (σ : jp_I) (τ : jp_J) => jp_at p l e (jp_R 4 97) s m args below meth c (MQ below (jp_Q Γ Z (some (.int r0)) σ0 τ0) args s 0 0 (jp_A Γ)) 5 Γ Z 12 [(0, .ref (Γ.2.2.1 13)), (1, .ref (Γ.2.2.1 11)), (3, .int v.1), (4, .int v.2)] [] σ τ) (fun v σ τ q hq hbk hen => ?_)
  exact wsX1_walk_12 B hX0 hq (fun v' hv => hbk v' hv) (fun x hv => by obtain ⟨h1, h2, h3⟩ := hen _ hv; rw [h2, h3]; exact kx x h1.symm) (fun r hv => by obtain ⟨h1, h2, h3⟩ := hen _ hv; rw [h2, h3]; exact kr r h1.symm)
def fX1_walk (n : Nat) (nc : Nat) (nl : Nat) (p2 : Int32) (σ : jp_I) (τ : jp_J) : Option (Int32 × jp_I × jp_J) :=
  (fX1_note n nc nl 0 p2 σ τ).bind fun (a_1, σ_1, τ_1) => (jp_loop (fun q : (Int32 × Int32) × jp_I × jp_J => sX1_walk_12 n nc nl q.1.1 q.1.2 q.2.1 q.2.2) jp_F ((p2, 0), σ_1, τ_1)).bind fun (e_2, σ_2, τ_2) => match e_2 with
    | .inl v_2 => (some (v_2, σ_2, τ_2))
    | .inr r_2 => some (r_2, σ_2, τ_2)
set_option maxHeartbeats 4000000 in
set_option maxRecDepth 20000 in
theorem ctX1_walk {l : Launch} {Γ : jp_G} {Z : Nat → Option jp_Sh} {n : Nat} {nc : Nat} {nl : Nat} (hX0 : jp_hJ Z n nc nl) {p2 : Int32} {σ σ0 : jp_I} {τ τ0 : jp_J} {r0 : Int32} (hf : fX1_walk n nc nl p2 σ τ = some (r0, σ0, τ0)) : jp_M l yX1_walk cX1_walk 5 (some .int) 4 97 Γ Z σ τ [.ref (Γ.2.2.1 13), .ref (Γ.2.2.1 11), .int p2] (some (.int r0)) σ0 τ0 := by
  refine jp_mk (lv := [(0, .ref (Γ.2.2.1 13)), (1, .ref (Γ.2.2.1 11)), (2, .int p2)]) (by decide) (Nat.le_of_ble_eq_true rfl) rfl fun p e s m args below meth c B => ?_
  obtain ⟨hx, hb, hml, hown, hts, hr, hlk, hE⟩ := id B
  unfold fX1_walk at hf
  intro H locs ls hP hS hl
  refine lv_iload_n hx hb dX1_walk_0 rfl (lv_at hl 2 rfl) ?_
  refine lv_istore_n (lv' := [(3, .int p2), (0, .ref (Γ.2.2.1 13)), (1, .ref (Γ.2.2.1 11)), (2, .int p2)]) hx hb dX1_walk_1 rfl hl (by decide) rfl (fun ls hl => ?_)
  refine lv_iconst (v := 0) hx hb dX1_walk_2 (by decide) ?_
  refine lv_istore (lv' := [(4, .int 0), (3, .int p2), (0, .ref (Γ.2.2.1 13)), (1, .ref (Γ.2.2.1 11)), (2, .int p2)]) hx hb dX1_walk_3 hl (by decide) rfl (fun ls hl => ?_)
  refine lv_aload_n hx hb dX1_walk_5 rfl (lv_at hl 2 rfl) ?_
  refine lv_aload_n hx hb dX1_walk_6 rfl (lv_at hl 3 rfl) ?_
  refine lv_iconst (v := 0) hx hb dX1_walk_7 (by decide) ?_
  refine lv_iload_n hx hb dX1_walk_8 rfl (lv_at hl 1 rfl) ?_
  obtain ⟨⟨a_1, σ_1, τ_1⟩, h_1, hf⟩ := jp_bind hf
  dsimp only at hf
  refine jp_callV (rest := []) B hP hS hl (ctX1_note ⟨hX0.1, hX0.2.1, hX0.2.2.1, ⟨hX0.2.2.2.1.1, hX0.2.2.2.1.2.1, hX0.2.2.2.1.2.2.1, ⟨hX0.2.2.2.1.2.2.2.1, hX0.2.2.2.1.2.2.2.2.1, hX0.2.2.2.1.2.2.2.2.2.1, hX0.2.2.2.1.2.2.2.2.2.2.1, hX0.2.2.2.1.2.2.2.2.2.2.2⟩⟩, ⟨hX0.2.2.2.2.1, hX0.2.2.2.2.2⟩⟩ h_1) hX0.1 rfl mw_329 mw_326 mw_327 mw_328 mw_35 ddX1_note ⟨Nat.le_of_ble_eq_true rfl, Nat.le_of_ble_eq_true rfl⟩ ⟨Nat.zero_le _, Nat.zero_le _⟩ rfl (Nat.le_of_ble_eq_true rfl) dX1_walk_9 (fun H locs hP hS => ?_)
  obtain ⟨⟨e_2, σ_2, τ_2⟩, h_2, hf⟩ := jp_bind hf
  refine lX1_walk_12 (r0 := r0) B hX0 (fun v_2 k_2 => ?_) (fun r_2 k_2 => ?_) _ _ _ _ h_2 H locs ls hP hS (lv_sub hl [2, 3, 1, 0] rfl)
  · subst k_2
    dsimp only at hf
    intro H locs ls hP hS hl
    refine lv_iload hx hb dX1_walk_55 (lv_at hl 0 rfl) ?_
    exact jp_endi B hP hS dX1_walk_57 (jp_inj hf)
  · subst k_2
    dsimp only at hf
    exact jp_inj hf
end
-- X1_make
section
variable {p : Program} {l : Launch} {e : Jvm.Env} {s : State} {m : MethodId} {args : Array Value} {below : List Frame} {meth : Method} {c : Code} {Γ : jp_G} {Z : Nat → Option jp_Sh} {r0 : Int32} {σ0 : jp_I} {τ0 : jp_J}
def fX1_make (n : Nat) (nc : Nat) (nl : Nat) (p2 : Int32) (σ : jp_I) (τ : jp_J) : Option (Int32 × jp_I × jp_J) :=
  (fX1_placeOf n nc nl 4 n 0 σ τ).bind fun (a_1, σ_1, τ_1) => (fX1_placeOf n nc nl 4 n 1 (jp_up σ_1 13 5 a_1) τ_1).bind fun (a_2, σ_2, τ_2) => (fX1_placeOf n nc nl 3 n 0 (jp_up σ_2 13 6 a_2) τ_2).bind fun (a_3, σ_3, τ_3) => (fX1_placeOf n nc nl 3 n 1 σ_3 τ_3).bind fun (a_4, σ_4, τ_4) => (fX1_measure n nc nl (a_3 + (36 * a_4)) ((σ_4 13 5) + (36 * (σ_4 13 6))) σ_4 τ_4).bind fun (a_5, σ_5, τ_5) => (fX7_read 14 nl (a_3 + (36 * a_4)) σ_5 τ_5).bind fun (a_6, σ_6, τ_6) => (fX2_isMade 11 12 nc (jp_up σ_6 11 3 a_6) τ_6).bind fun (a_7, σ_7, τ_7) => if a_7 = 0 then (some (0, σ_7, τ_7)) else ((fX1_walk n nc nl (a_3 + (36 * a_4)) σ_7 τ_7).bind fun (a_9, σ_9, τ_9) => some (0, jp_up σ_9 11 2 a_9, τ_9))
set_option maxHeartbeats 4000000 in
set_option maxRecDepth 20000 in
theorem ctX1_make {l : Launch} {Γ : jp_G} {Z : Nat → Option jp_Sh} {n : Nat} {nc : Nat} {nl : Nat} (hX0 : jp_hJ Z n nc nl) {p2 : Int32} {σ σ0 : jp_I} {τ τ0 : jp_J} {r0 : Int32} (hf : fX1_make n nc nl p2 σ τ = some (r0, σ0, τ0)) : jp_M l yX1_make cX1_make 4 none 5 122 Γ Z σ τ [.ref (Γ.2.2.1 13), .ref (Γ.2.2.1 11), .int p2] none σ0 τ0 := by
  refine jp_mk (lv := [(0, .ref (Γ.2.2.1 13)), (1, .ref (Γ.2.2.1 11)), (2, .int p2)]) (by decide) (Nat.le_of_ble_eq_true rfl) rfl fun p e s m args below meth c B => ?_
  obtain ⟨hx, hb, hml, hown, hts, hr, hlk, hE⟩ := id B
  unfold fX1_make at hf
  intro H locs ls hP hS hl
  refine lv_aload_n hx hb dX1_make_0 rfl (lv_at hl 0 rfl) ?_
  refine lv_aload_n hx hb dX1_make_1 rfl (lv_at hl 0 rfl) ?_
  refine lv_aload_n hx hb dX1_make_2 rfl (lv_at hl 0 rfl) ?_
  refine jp_getr (k := 0) B hP hX0.1 rfl rfl (by decide) jp_fX1 rfl mw_105 dX1_make_3 ?_
  refine jp_getrN (k := 3) B hP hX0.2.2.2.1.1 rfl rfl (by decide) jp_fX5 rfl nw_149 dX1_make_6 ?_
  refine lv_iconst (v := 0) hx hb dX1_make_9 (by decide) ?_
  obtain ⟨⟨a_1, σ_1, τ_1⟩, h_1, hf⟩ := jp_bind hf
  dsimp only at hf
  refine jp_callV (rest := [.ref (Γ.2.2.1 13)]) B hP hS hl (ctX1_placeOf ⟨hX0.1, hX0.2.1, hX0.2.2.1, ⟨hX0.2.2.2.1.1, hX0.2.2.2.1.2.1, hX0.2.2.2.1.2.2.1, ⟨hX0.2.2.2.1.2.2.2.1, hX0.2.2.2.1.2.2.2.2.1, hX0.2.2.2.1.2.2.2.2.2.1, hX0.2.2.2.1.2.2.2.2.2.2.1, hX0.2.2.2.1.2.2.2.2.2.2.2⟩⟩, ⟨hX0.2.2.2.2.1, hX0.2.2.2.2.2⟩⟩ hX0.2.2.2.1.2.2.1 h_1) hX0.1 rfl mw_287 mw_284 mw_285 mw_286 mw_35 ddX1_placeOf ⟨Nat.le_of_ble_eq_true rfl, Nat.le_of_ble_eq_true rfl⟩ ⟨Nat.zero_le _, Nat.zero_le _⟩ rfl (Nat.le_of_ble_eq_true rfl) dX1_make_10 (fun H locs hP hS => ?_)
  refine jp_puti (k := 5) (ty := .int) B hP hS hX0.1 rfl rfl (by decide) jp_fX1 tyX1 tyX1_ok nmX1 rfl mw_282 rfl (by decide +kernel) rfl rfl dX1_make_13 (fun H locs hP hS => ?_)
  refine lv_aload_n hx hb dX1_make_16 rfl (lv_at hl 0 rfl) ?_
  refine lv_aload_n hx hb dX1_make_17 rfl (lv_at hl 0 rfl) ?_
  refine lv_aload_n hx hb dX1_make_18 rfl (lv_at hl 0 rfl) ?_
  refine jp_getr (k := 0) B hP hX0.1 rfl rfl (by decide) jp_fX1 rfl mw_105 dX1_make_19 ?_
  refine jp_getrN (k := 3) B hP hX0.2.2.2.1.1 rfl rfl (by decide) jp_fX5 rfl nw_149 dX1_make_22 ?_
  refine lv_iconst (v := 1) hx hb dX1_make_25 (by decide) ?_
  obtain ⟨⟨a_2, σ_2, τ_2⟩, h_2, hf⟩ := jp_bind hf
  dsimp only at hf
  refine jp_callV (rest := [.ref (Γ.2.2.1 13)]) B hP hS hl (ctX1_placeOf ⟨hX0.1, hX0.2.1, hX0.2.2.1, ⟨hX0.2.2.2.1.1, hX0.2.2.2.1.2.1, hX0.2.2.2.1.2.2.1, ⟨hX0.2.2.2.1.2.2.2.1, hX0.2.2.2.1.2.2.2.2.1, hX0.2.2.2.1.2.2.2.2.2.1, hX0.2.2.2.1.2.2.2.2.2.2.1, hX0.2.2.2.1.2.2.2.2.2.2.2⟩⟩, ⟨hX0.2.2.2.2.1, hX0.2.2.2.2.2⟩⟩ hX0.2.2.2.1.2.2.1 h_2) hX0.1 rfl mw_287 mw_284 mw_285 mw_286 mw_35 ddX1_placeOf ⟨Nat.le_of_ble_eq_true rfl, Nat.le_of_ble_eq_true rfl⟩ ⟨Nat.zero_le _, Nat.zero_le _⟩ rfl (Nat.le_of_ble_eq_true rfl) dX1_make_26 (fun H locs hP hS => ?_)
  refine jp_puti (k := 6) (ty := .int) B hP hS hX0.1 rfl rfl (by decide) jp_fX1 tyX1 tyX1_ok nmX1 rfl mw_283 rfl (by decide +kernel) rfl rfl dX1_make_29 (fun H locs hP hS => ?_)
  refine lv_aload_n hx hb dX1_make_32 rfl (lv_at hl 0 rfl) ?_
  refine lv_aload_n hx hb dX1_make_33 rfl (lv_at hl 0 rfl) ?_
  refine jp_getr (k := 0) B hP hX0.1 rfl rfl (by decide) jp_fX1 rfl mw_105 dX1_make_34 ?_
  refine jp_getrN (k := 2) B hP hX0.2.2.2.1.1 rfl rfl (by decide) jp_fX5 rfl nw_145 dX1_make_37 ?_
  refine lv_iconst (v := 0) hx hb dX1_make_40 (by decide) ?_
  obtain ⟨⟨a_3, σ_3, τ_3⟩, h_3, hf⟩ := jp_bind hf
  dsimp only at hf
  refine jp_callV (rest := []) B hP hS hl (ctX1_placeOf ⟨hX0.1, hX0.2.1, hX0.2.2.1, ⟨hX0.2.2.2.1.1, hX0.2.2.2.1.2.1, hX0.2.2.2.1.2.2.1, ⟨hX0.2.2.2.1.2.2.2.1, hX0.2.2.2.1.2.2.2.2.1, hX0.2.2.2.1.2.2.2.2.2.1, hX0.2.2.2.1.2.2.2.2.2.2.1, hX0.2.2.2.1.2.2.2.2.2.2.2⟩⟩, ⟨hX0.2.2.2.2.1, hX0.2.2.2.2.2⟩⟩ hX0.2.2.2.1.2.1 h_3) hX0.1 rfl mw_287 mw_284 mw_285 mw_286 mw_35 ddX1_placeOf ⟨Nat.le_of_ble_eq_true rfl, Nat.le_of_ble_eq_true rfl⟩ ⟨Nat.zero_le _, Nat.zero_le _⟩ rfl (Nat.le_of_ble_eq_true rfl) dX1_make_41 (fun H locs hP hS => ?_)
  refine lv_bipush (v := 36) hx hb dX1_make_44 (by decide) ?_
  refine lv_aload_n hx hb dX1_make_46 rfl (lv_at hl 0 rfl) ?_
  refine lv_aload_n hx hb dX1_make_47 rfl (lv_at hl 0 rfl) ?_
  refine jp_getr (k := 0) B hP hX0.1 rfl rfl (by decide) jp_fX1 rfl mw_105 dX1_make_48 ?_
  refine jp_getrN (k := 2) B hP hX0.2.2.2.1.1 rfl rfl (by decide) jp_fX5 rfl nw_145 dX1_make_51 ?_
  refine lv_iconst (v := 1) hx hb dX1_make_54 (by decide) ?_
  obtain ⟨⟨a_4, σ_4, τ_4⟩, h_4, hf⟩ := jp_bind hf
  dsimp only at hf
  refine jp_callV (rest := [.int 36, .int a_3]) B hP hS hl (ctX1_placeOf ⟨hX0.1, hX0.2.1, hX0.2.2.1, ⟨hX0.2.2.2.1.1, hX0.2.2.2.1.2.1, hX0.2.2.2.1.2.2.1, ⟨hX0.2.2.2.1.2.2.2.1, hX0.2.2.2.1.2.2.2.2.1, hX0.2.2.2.1.2.2.2.2.2.1, hX0.2.2.2.1.2.2.2.2.2.2.1, hX0.2.2.2.1.2.2.2.2.2.2.2⟩⟩, ⟨hX0.2.2.2.2.1, hX0.2.2.2.2.2⟩⟩ hX0.2.2.2.1.2.1 h_4) hX0.1 rfl mw_287 mw_284 mw_285 mw_286 mw_35 ddX1_placeOf ⟨Nat.le_of_ble_eq_true rfl, Nat.le_of_ble_eq_true rfl⟩ ⟨Nat.zero_le _, Nat.zero_le _⟩ rfl (Nat.le_of_ble_eq_true rfl) dX1_make_55 (fun H locs hP hS => ?_)
  refine lv_imul hx hb dX1_make_58 ?_
  refine lv_iadd hx hb dX1_make_59 ?_
  refine lv_istore_n (lv' := [(3, .int (a_3 + (36 * a_4))), (0, .ref (Γ.2.2.1 13)), (1, .ref (Γ.2.2.1 11)), (2, .int p2)]) hx hb dX1_make_60 rfl hl (by decide) rfl (fun ls hl => ?_)
  refine lv_aload_n hx hb dX1_make_61 rfl (lv_at hl 1 rfl) ?_
  refine lv_iload_n hx hb dX1_make_62 rfl (lv_at hl 0 rfl) ?_
  refine lv_aload_n hx hb dX1_make_63 rfl (lv_at hl 1 rfl) ?_
  refine jp_geti (k := 5) B hP hX0.1 rfl rfl (by decide) jp_fX1 rfl mw_282 dX1_make_64 ?_
  refine lv_bipush (v := 36) hx hb dX1_make_67 (by decide) ?_
  refine lv_aload_n hx hb dX1_make_69 rfl (lv_at hl 1 rfl) ?_
  refine jp_geti (k := 6) B hP hX0.1 rfl rfl (by decide) jp_fX1 rfl mw_283 dX1_make_70 ?_
  refine lv_imul hx hb dX1_make_73 ?_
  refine lv_iadd hx hb dX1_make_74 ?_
  obtain ⟨⟨a_5, σ_5, τ_5⟩, h_5, hf⟩ := jp_bind hf
  dsimp only at hf
  refine jp_callV (rest := []) B hP hS hl (ctX1_measure ⟨hX0.1, hX0.2.1, hX0.2.2.1, ⟨hX0.2.2.2.1.1, hX0.2.2.2.1.2.1, hX0.2.2.2.1.2.2.1, ⟨hX0.2.2.2.1.2.2.2.1, hX0.2.2.2.1.2.2.2.2.1, hX0.2.2.2.1.2.2.2.2.2.1, hX0.2.2.2.1.2.2.2.2.2.2.1, hX0.2.2.2.1.2.2.2.2.2.2.2⟩⟩, ⟨hX0.2.2.2.2.1, hX0.2.2.2.2.2⟩⟩ h_5) hX0.1 rfl mw_291 mw_288 mw_289 mw_290 mw_35 ddX1_measure ⟨Nat.le_of_ble_eq_true rfl, Nat.le_of_ble_eq_true rfl⟩ ⟨Nat.zero_le _, Nat.zero_le _⟩ rfl (Nat.le_of_ble_eq_true rfl) dX1_make_75 (fun H locs hP hS => ?_)
  refine lv_aload_n hx hb dX1_make_78 rfl (lv_at hl 2 rfl) ?_
  refine lv_aload_n hx hb dX1_make_79 rfl (lv_at hl 1 rfl) ?_
  refine jp_getr (k := 2) B hP hX0.1 rfl rfl (by decide) jp_fX1 rfl mw_107 dX1_make_80 ?_
  refine lv_iload_n hx hb dX1_make_83 rfl (lv_at hl 0 rfl) ?_
  obtain ⟨⟨a_6, σ_6, τ_6⟩, h_6, hf⟩ := jp_bind hf
  dsimp only at hf
  refine jp_callSN (rest := [.ref (Γ.2.2.1 11)]) B hP hS hl (ctX7_read hX0.2.1 h_6) mw_85 nw_541 mw_84 mw_2 ddX7_read ⟨Nat.le_of_ble_eq_true rfl, Nat.le_of_ble_eq_true rfl⟩ ⟨Nat.zero_le _, Nat.zero_le _⟩ rfl (Nat.le_of_ble_eq_true rfl) dX1_make_84 (fun H locs hP hS => ?_)
  refine jp_putiN (k := 3) (ty := .int) B hP hS hX0.2.2.2.2.1 rfl rfl (by decide) jp_fX2 tyX2 tyX2_ok nmX2 rfl nw_275 rfl (by decide +kernel) rfl rfl dX1_make_87 (fun H locs hP hS => ?_)
  refine lv_aload_n hx hb dX1_make_90 rfl (lv_at hl 2 rfl) ?_
  obtain ⟨⟨a_7, σ_7, τ_7⟩, h_7, hf⟩ := jp_bind hf
  dsimp only at hf
  refine jp_callVN (rest := []) B hP hS hl (ctX2_isMade ⟨hX0.2.2.2.2.1, hX0.2.2.2.2.2⟩ h_7) hX0.2.2.2.2.1 rfl mw_321 nw_575 mw_319 mw_320 mw_42 ddX2_isMade ⟨Nat.le_of_ble_eq_true rfl, Nat.le_of_ble_eq_true rfl⟩ ⟨Nat.zero_le _, Nat.zero_le _⟩ rfl (Nat.le_of_ble_eq_true rfl) dX1_make_91 (fun H locs hP hS => ?_)
  refine lv_if_eq (tgt := 107) hx hb dX1_make_94 (by decide) (fun c_8 => ?_) (fun c_8 => ?_)
  · rw [if_pos c_8] at hf
    exact jp_endv B hP hS dX1_make_107 (jp_inj hf)
  · rw [if_neg c_8] at hf
    refine lv_aload_n hx hb dX1_make_97 rfl (lv_at hl 2 rfl) ?_
    refine lv_aload_n hx hb dX1_make_98 rfl (lv_at hl 1 rfl) ?_
    refine lv_aload_n hx hb dX1_make_99 rfl (lv_at hl 2 rfl) ?_
    refine lv_iload_n hx hb dX1_make_100 rfl (lv_at hl 0 rfl) ?_
    obtain ⟨⟨a_9, σ_9, τ_9⟩, h_9, hf⟩ := jp_bind hf
    dsimp only at hf
    refine jp_callV (rest := [.ref (Γ.2.2.1 11)]) B hP hS hl (ctX1_walk ⟨hX0.1, hX0.2.1, hX0.2.2.1, ⟨hX0.2.2.2.1.1, hX0.2.2.2.1.2.1, hX0.2.2.2.1.2.2.1, ⟨hX0.2.2.2.1.2.2.2.1, hX0.2.2.2.1.2.2.2.2.1, hX0.2.2.2.1.2.2.2.2.2.1, hX0.2.2.2.1.2.2.2.2.2.2.1, hX0.2.2.2.1.2.2.2.2.2.2.2⟩⟩, ⟨hX0.2.2.2.2.1, hX0.2.2.2.2.2⟩⟩ h_9) hX0.1 rfl mw_325 mw_322 mw_323 mw_324 mw_35 ddX1_walk ⟨Nat.le_of_ble_eq_true rfl, Nat.le_of_ble_eq_true rfl⟩ ⟨Nat.zero_le _, Nat.zero_le _⟩ rfl (Nat.le_of_ble_eq_true rfl) dX1_make_101 (fun H locs hP hS => ?_)
    refine jp_putiN (k := 2) (ty := .int) B hP hS hX0.2.2.2.2.1 rfl rfl (by decide) jp_fX2 tyX2 tyX2_ok nmX2 rfl nw_269 rfl (by decide +kernel) rfl rfl dX1_make_104 (fun H locs hP hS => ?_)
    exact jp_endv B hP hS dX1_make_107 (jp_inj hf)
end
