-- X5_renew
section
variable {p : Program} {l : Launch} {e : Jvm.Env} {s : State} {m : MethodId} {args : Array Value} {below : List Frame} {meth : Method} {c : Code} {Γ : jp_G} {Z : Nat → Option jp_Sh} {r0 : Int32} {σ0 : jp_I} {τ0 : jp_J}
def fX5_renew (n : Nat) (p1 : Int32) (p2 : Int32) (σ : jp_I) (τ : jp_J) : Option (Int32 × jp_I × jp_J) :=
  (fX0_clear p1 p2 σ τ).bind fun (a_1, σ_1, τ_1) => (fJ7_fill_53178 3 n (-1) σ_1 τ_1).bind fun (a_2, σ_2, τ_2) => (fJ7_fill_53178 4 n (-1) σ_2 τ_2).bind fun (a_3, σ_3, τ_3) => some (0, σ_3, τ_3)
set_option maxHeartbeats 4000000 in
set_option maxRecDepth 20000 in
theorem ctX5_renew {l : Launch} {Γ : jp_G} {Z : Nat → Option jp_Sh} {n : Nat} (hX0 : jp_hS Z n) {p1 : Int32} {p2 : Int32} {σ σ0 : jp_I} {τ τ0 : jp_J} {r0 : Int32} (hf : fX5_renew n p1 p2 σ τ = some (r0, σ0, τ0)) : jp_M l yX5_renew cX5_renew 3 none 5 112 Γ Z σ τ [.ref (Γ.2.2.1 1), .int p1, .int p2] none σ0 τ0 := by
  refine jp_mk (lv := [(0, .ref (Γ.2.2.1 1)), (1, .int p1), (2, .int p2)]) (by decide) (Nat.le_of_ble_eq_true rfl) rfl fun p e s m args below meth c B => ?_
  obtain ⟨hx, hb, hml, hown, hts, hr, hlk, hE⟩ := id B
  unfold fX5_renew at hf
  intro H locs ls hP hS hl
  refine lv_aload_n hx hb dX5_renew_0 rfl (lv_at hl 0 rfl) ?_
  refine jp_getr (k := 1) B hP hX0.1 rfl rfl (by decide) jp_fX5 rfl mw_50 dX5_renew_1 ?_
  refine lv_iload_n hx hb dX5_renew_4 rfl (lv_at hl 1 rfl) ?_
  refine lv_iload_n hx hb dX5_renew_5 rfl (lv_at hl 2 rfl) ?_
  obtain ⟨⟨a_1, σ_1, τ_1⟩, h_1, hf⟩ := jp_bind hf
  dsimp only at hf
  refine jp_callVN (rest := []) B hP hS hl (ctX0_clear ⟨hX0.2.2.2.1, hX0.2.2.2.2.1, hX0.2.2.2.2.2.1, hX0.2.2.2.2.2.2.1, hX0.2.2.2.2.2.2.2⟩ h_1) hX0.2.2.2.1 rfl mw_68 nw_171 mw_66 mw_67 mw_49 ddX0_clear ⟨Nat.le_of_ble_eq_true rfl, Nat.le_of_ble_eq_true rfl⟩ ⟨Nat.zero_le _, Nat.zero_le _⟩ rfl (Nat.le_of_ble_eq_true rfl) dX5_renew_6 (fun H locs hP hS => ?_)
  refine lv_aload_n hx hb dX5_renew_9 rfl (lv_at hl 0 rfl) ?_
  refine jp_getr (k := 2) B hP hX0.1 rfl rfl (by decide) jp_fX5 rfl mw_54 dX5_renew_10 ?_
  refine lv_iconst (v := -1) hx hb dX5_renew_13 (by decide) ?_
  obtain ⟨⟨a_2, σ_2, τ_2⟩, h_2, hf⟩ := jp_bind hf
  dsimp only at hf
  refine jp_callS (rest := []) B hP hS hl (ctJ7_fill_53178 hX0.2.1 h_2) mw_75 mw_96 mw_73 mw_74 ddJ7_fill_53178 ⟨Nat.le_of_ble_eq_true rfl, Nat.le_of_ble_eq_true rfl⟩ ⟨Nat.zero_le _, Nat.zero_le _⟩ rfl (Nat.le_of_ble_eq_true rfl) dX5_renew_14 (fun H locs hP hS => ?_)
  refine lv_aload_n hx hb dX5_renew_17 rfl (lv_at hl 0 rfl) ?_
  refine jp_getr (k := 3) B hP hX0.1 rfl rfl (by decide) jp_fX5 rfl mw_55 dX5_renew_18 ?_
  refine lv_iconst (v := -1) hx hb dX5_renew_21 (by decide) ?_
  obtain ⟨⟨a_3, σ_3, τ_3⟩, h_3, hf⟩ := jp_bind hf
  dsimp only at hf
  refine jp_callS (rest := []) B hP hS hl (ctJ7_fill_53178 hX0.2.2.1 h_3) mw_75 mw_96 mw_73 mw_74 ddJ7_fill_53178 ⟨Nat.le_of_ble_eq_true rfl, Nat.le_of_ble_eq_true rfl⟩ ⟨Nat.zero_le _, Nat.zero_le _⟩ rfl (Nat.le_of_ble_eq_true rfl) dX5_renew_22 (fun H locs hP hS => ?_)
  exact jp_endv B hP hS dX5_renew_25 (jp_inj hf)
end
-- X5_isComplete
section
variable {p : Program} {l : Launch} {e : Jvm.Env} {s : State} {m : MethodId} {args : Array Value} {below : List Frame} {meth : Method} {c : Code} {Γ : jp_G} {Z : Nat → Option jp_Sh} {r0 : Int32} {σ0 : jp_I} {τ0 : jp_J}
def fX5_isComplete (n : Nat) (p1 : Int32) (σ : jp_I) (τ : jp_J) : Option (Int32 × jp_I × jp_J) :=
  (fX7_read 3 n p1 σ τ).bind fun (a_1, σ_1, τ_1) => if a_1 = (-1) then (some (0, σ_1, τ_1)) else ((fX7_read 4 n p1 σ_1 τ_1).bind fun (a_3, σ_3, τ_3) => if a_3 = (-1) then (some (0, σ_3, τ_3)) else (some (1, σ_3, τ_3)))
set_option maxHeartbeats 4000000 in
set_option maxRecDepth 20000 in
theorem ctX5_isComplete {l : Launch} {Γ : jp_G} {Z : Nat → Option jp_Sh} {n : Nat} (hX0 : jp_hS Z n) {p1 : Int32} {σ σ0 : jp_I} {τ τ0 : jp_J} {r0 : Int32} (hf : fX5_isComplete n p1 σ τ = some (r0, σ0, τ0)) : jp_M l yX5_isComplete cX5_isComplete 2 (some .boolean) 1 21 Γ Z σ τ [.ref (Γ.2.2.1 1), .int p1] (some (.int r0)) σ0 τ0 := by
  refine jp_mk (lv := [(0, .ref (Γ.2.2.1 1)), (1, .int p1)]) (by decide) (Nat.le_of_ble_eq_true rfl) rfl fun p e s m args below meth c B => ?_
  obtain ⟨hx, hb, hml, hown, hts, hr, hlk, hE⟩ := id B
  unfold fX5_isComplete at hf
  intro H locs ls hP hS hl
  refine lv_aload_n hx hb dX5_isComplete_0 rfl (lv_at hl 0 rfl) ?_
  refine jp_getr (k := 2) B hP hX0.1 rfl rfl (by decide) jp_fX5 rfl mw_54 dX5_isComplete_1 ?_
  refine lv_iload_n hx hb dX5_isComplete_4 rfl (lv_at hl 1 rfl) ?_
  obtain ⟨⟨a_1, σ_1, τ_1⟩, h_1, hf⟩ := jp_bind hf
  dsimp only at hf
  refine jp_callSN (rest := []) B hP hS hl (ctX7_read hX0.2.1 h_1) mw_85 nw_525 mw_84 mw_2 ddX7_read ⟨Nat.le_of_ble_eq_true rfl, Nat.le_of_ble_eq_true rfl⟩ ⟨Nat.zero_le _, Nat.zero_le _⟩ rfl (Nat.le_of_ble_eq_true rfl) dX5_isComplete_5 (fun H locs hP hS => ?_)
  refine lv_iconst (v := -1) hx hb dX5_isComplete_8 (by decide) ?_
  refine lv_icmp_eq (tgt := 28) hx hb dX5_isComplete_9 (by decide) (fun c_2 => ?_) (fun c_2 => ?_)
  · rw [if_pos c_2] at hf
    refine lv_iconst (v := 0) hx hb dX5_isComplete_28 (by decide) ?_
    exact jp_endz B hP hS (by decide) dX5_isComplete_29 (jp_inj hf)
  · rw [if_neg c_2] at hf
    refine lv_aload_n hx hb dX5_isComplete_12 rfl (lv_at hl 0 rfl) ?_
    refine jp_getr (k := 3) B hP hX0.1 rfl rfl (by decide) jp_fX5 rfl mw_55 dX5_isComplete_13 ?_
    refine lv_iload_n hx hb dX5_isComplete_16 rfl (lv_at hl 1 rfl) ?_
    obtain ⟨⟨a_3, σ_3, τ_3⟩, h_3, hf⟩ := jp_bind hf
    dsimp only at hf
    refine jp_callSN (rest := []) B hP hS hl (ctX7_read hX0.2.2.1 h_3) mw_85 nw_525 mw_84 mw_2 ddX7_read ⟨Nat.le_of_ble_eq_true rfl, Nat.le_of_ble_eq_true rfl⟩ ⟨Nat.zero_le _, Nat.zero_le _⟩ rfl (Nat.le_of_ble_eq_true rfl) dX5_isComplete_17 (fun H locs hP hS => ?_)
    refine lv_iconst (v := -1) hx hb dX5_isComplete_20 (by decide) ?_
    refine lv_icmp_eq (tgt := 28) hx hb dX5_isComplete_21 (by decide) (fun c_4 => ?_) (fun c_4 => ?_)
    · rw [if_pos c_4] at hf
      refine lv_iconst (v := 0) hx hb dX5_isComplete_28 (by decide) ?_
      exact jp_endz B hP hS (by decide) dX5_isComplete_29 (jp_inj hf)
    · rw [if_neg c_4] at hf
      refine lv_iconst (v := 1) hx hb dX5_isComplete_24 (by decide) ?_
      refine lv_goto (tgt := 29) hx hb dX5_isComplete_25 (by decide) ?_
      exact jp_endz B hP hS (by decide) dX5_isComplete_29 (jp_inj hf)
end
-- X5_way
section
variable {p : Program} {l : Launch} {e : Jvm.Env} {s : State} {m : MethodId} {args : Array Value} {below : List Frame} {meth : Method} {c : Code} {Γ : jp_G} {Z : Nat → Option jp_Sh} {r0 : Int32} {σ0 : jp_I} {τ0 : jp_J}
def fX5_way (n : Nat) (p1 : Int32) (σ : jp_I) (τ : jp_J) : Option (Int32 × jp_I × jp_J) :=
  (fX7_read 3 n p1 σ τ).bind fun (a_1, σ_1, τ_1) => (fX7_read 4 n p1 σ_1 τ_1).bind fun (a_2, σ_2, τ_2) => (fX0_movesBetween a_1 a_2 σ_2 τ_2).bind fun (a_3, σ_3, τ_3) => some (a_3, σ_3, τ_3)
set_option maxHeartbeats 4000000 in
set_option maxRecDepth 20000 in
theorem ctX5_way {l : Launch} {Γ : jp_G} {Z : Nat → Option jp_Sh} {n : Nat} (hX0 : jp_hS Z n) {p1 : Int32} {σ σ0 : jp_I} {τ τ0 : jp_J} {r0 : Int32} (hf : fX5_way n p1 σ τ = some (r0, σ0, τ0)) : jp_M l yX5_way cX5_way 2 (some .int) 4 92 Γ Z σ τ [.ref (Γ.2.2.1 1), .int p1] (some (.int r0)) σ0 τ0 := by
  refine jp_mk (lv := [(0, .ref (Γ.2.2.1 1)), (1, .int p1)]) (by decide) (Nat.le_of_ble_eq_true rfl) rfl fun p e s m args below meth c B => ?_
  obtain ⟨hx, hb, hml, hown, hts, hr, hlk, hE⟩ := id B
  unfold fX5_way at hf
  intro H locs ls hP hS hl
  refine lv_aload_n hx hb dX5_way_0 rfl (lv_at hl 0 rfl) ?_
  refine jp_getr (k := 1) B hP hX0.1 rfl rfl (by decide) jp_fX5 rfl mw_50 dX5_way_1 ?_
  refine lv_aload_n hx hb dX5_way_4 rfl (lv_at hl 0 rfl) ?_
  refine jp_getr (k := 2) B hP hX0.1 rfl rfl (by decide) jp_fX5 rfl mw_54 dX5_way_5 ?_
  refine lv_iload_n hx hb dX5_way_8 rfl (lv_at hl 1 rfl) ?_
  obtain ⟨⟨a_1, σ_1, τ_1⟩, h_1, hf⟩ := jp_bind hf
  dsimp only at hf
  refine jp_callSN (rest := [.ref (Γ.2.2.1 2)]) B hP hS hl (ctX7_read hX0.2.1 h_1) mw_85 nw_525 mw_84 mw_2 ddX7_read ⟨Nat.le_of_ble_eq_true rfl, Nat.le_of_ble_eq_true rfl⟩ ⟨Nat.zero_le _, Nat.zero_le _⟩ rfl (Nat.le_of_ble_eq_true rfl) dX5_way_9 (fun H locs hP hS => ?_)
  refine lv_aload_n hx hb dX5_way_12 rfl (lv_at hl 0 rfl) ?_
  refine jp_getr (k := 3) B hP hX0.1 rfl rfl (by decide) jp_fX5 rfl mw_55 dX5_way_13 ?_
  refine lv_iload_n hx hb dX5_way_16 rfl (lv_at hl 1 rfl) ?_
  obtain ⟨⟨a_2, σ_2, τ_2⟩, h_2, hf⟩ := jp_bind hf
  dsimp only at hf
  refine jp_callSN (rest := [.int a_1, .ref (Γ.2.2.1 2)]) B hP hS hl (ctX7_read hX0.2.2.1 h_2) mw_85 nw_525 mw_84 mw_2 ddX7_read ⟨Nat.le_of_ble_eq_true rfl, Nat.le_of_ble_eq_true rfl⟩ ⟨Nat.zero_le _, Nat.zero_le _⟩ rfl (Nat.le_of_ble_eq_true rfl) dX5_way_17 (fun H locs hP hS => ?_)
  obtain ⟨⟨a_3, σ_3, τ_3⟩, h_3, hf⟩ := jp_bind hf
  dsimp only at hf
  refine jp_callVN (rest := []) B hP hS hl (ctX0_movesBetween ⟨hX0.2.2.2.1, hX0.2.2.2.2.1, hX0.2.2.2.2.2.1, hX0.2.2.2.2.2.2.1, hX0.2.2.2.2.2.2.2⟩ h_3) hX0.2.2.2.1 rfl mw_516 nw_709 mw_514 mw_515 mw_49 ddX0_movesBetween ⟨Nat.le_of_ble_eq_true rfl, Nat.le_of_ble_eq_true rfl⟩ ⟨Nat.zero_le _, Nat.zero_le _⟩ rfl (Nat.le_of_ble_eq_true rfl) dX5_way_20 (fun H locs hP hS => ?_)
  exact jp_endi B hP hS dX5_way_23 (jp_inj hf)
end
-- X5_allWays
section
variable {p : Program} {l : Launch} {e : Jvm.Env} {s : State} {m : MethodId} {args : Array Value} {below : List Frame} {meth : Method} {c : Code} {Γ : jp_G} {Z : Nat → Option jp_Sh} {r0 : Int32} {σ0 : jp_I} {τ0 : jp_J}
def sX5_allWays_4 (n : Nat) (x1 : Int32) (x2 : Int32) (σ : jp_I) (τ : jp_J) : Option (Sum (Int32 × Int32) (Sum (Int32) Int32) × jp_I × jp_J) :=
  if (σ 1 0) ≤ x2 then (some (.inr (.inl x1), σ, τ)) else ((fX5_way n x2 σ τ).bind fun (a_2, σ_2, τ_2) => if a_2 = (-1) then (some (.inr (.inr (-1)), σ_2, τ_2)) else (some (.inl (x1 + a_2, x2 + 1), σ_2, τ_2)))
set_option maxHeartbeats 4000000 in
set_option maxRecDepth 20000 in
theorem wsX5_allWays_4 (B : jp_B Γ p s m args meth c RX5 cX5_allWays 4 (some .int)) {n : Nat} (hX0 : jp_hS Z n) {x1 : Int32} {x2 : Int32} {σ : jp_I} {τ : jp_J} {q : Sum (Int32 × Int32) (Sum (Int32) Int32) × jp_I × jp_J} (hf : sX5_allWays_4 n x1 x2 σ τ = some q) (kb : ∀ v : Int32 × Int32, q.1 = .inl v → jp_at p l e (jp_R 5 113) s m args below meth c (MQ below (jp_Q Γ Z (some (.int r0)) σ0 τ0) args s 0 0 (jp_A Γ)) 4 Γ Z 4 [(0, .ref (Γ.2.2.1 1)), (1, .int v.1), (2, .int v.2)] [] q.2.1 q.2.2) (kx : ∀ v : Int32, q.1 = .inr (.inl v) → jp_at p l e (jp_R 5 113) s m args below meth c (MQ below (jp_Q Γ Z (some (.int r0)) σ0 τ0) args s 0 0 (jp_A Γ)) 4 Γ Z 35 [(1, .int v)] [] q.2.1 q.2.2) (kr : ∀ v : Int32, q.1 = .inr (.inr v) → r0 = v ∧ σ0 = q.2.1 ∧ τ0 = q.2.2) : jp_at p l e (jp_R 5 113) s m args below meth c (MQ below (jp_Q Γ Z (some (.int r0)) σ0 τ0) args s 0 0 (jp_A Γ)) 4 Γ Z 4 [(0, .ref (Γ.2.2.1 1)), (1, .int x1), (2, .int x2)] [] σ τ := by
  obtain ⟨hx, hb, hml, hown, hts, hr, hlk, hE⟩ := id B
  unfold sX5_allWays_4 at hf
  intro H locs ls hP hS hl
  refine lv_iload_n hx hb dX5_allWays_4 rfl (lv_at hl 2 rfl) ?_
  refine lv_aload_n hx hb dX5_allWays_5 rfl (lv_at hl 0 rfl) ?_
  refine jp_geti (k := 0) B hP hX0.1 rfl rfl (by decide) jp_fX5 rfl mw_52 dX5_allWays_6 ?_
  refine lv_icmp_ge (tgt := 35) hx hb dX5_allWays_9 (by decide) (fun c_1 => ?_) (fun c_1 => ?_)
  · rw [if_pos c_1] at hf
    obtain rfl := Option.some.inj hf
    exact kx _ rfl H locs ls hP hS (lv_sub hl [1] rfl)
  · rw [if_neg c_1] at hf
    refine lv_aload_n hx hb dX5_allWays_12 rfl (lv_at hl 0 rfl) ?_
    refine lv_iload_n hx hb dX5_allWays_13 rfl (lv_at hl 2 rfl) ?_
    obtain ⟨⟨a_2, σ_2, τ_2⟩, h_2, hf⟩ := jp_bind hf
    dsimp only at hf
    refine jp_callV (rest := []) B hP hS hl (ctX5_way ⟨hX0.1, hX0.2.1, hX0.2.2.1, ⟨hX0.2.2.2.1, hX0.2.2.2.2.1, hX0.2.2.2.2.2.1, hX0.2.2.2.2.2.2.1, hX0.2.2.2.2.2.2.2⟩⟩ h_2) hX0.1 rfl mw_513 mw_540 mw_511 mw_512 mw_27 ddX5_way ⟨Nat.le_of_ble_eq_true rfl, Nat.le_of_ble_eq_true rfl⟩ ⟨Nat.zero_le _, Nat.zero_le _⟩ rfl (Nat.le_of_ble_eq_true rfl) dX5_allWays_14 (fun H locs hP hS => ?_)
    refine lv_istore_n (lv' := [(3, .int a_2), (0, .ref (Γ.2.2.1 1)), (1, .int x1), (2, .int x2)]) hx hb dX5_allWays_17 rfl hl (by decide) rfl (fun ls hl => ?_)
    refine lv_iload_n hx hb dX5_allWays_18 rfl (lv_at hl 0 rfl) ?_
    refine lv_iconst (v := -1) hx hb dX5_allWays_19 (by decide) ?_
    refine lv_icmp_ne (tgt := 25) hx hb dX5_allWays_20 (by decide) (fun c_3 => ?_) (fun c_3 => ?_)
    · rw [if_neg c_3] at hf
      refine lv_iload_n hx hb dX5_allWays_25 rfl (lv_at hl 2 rfl) ?_
      refine lv_iload_n hx hb dX5_allWays_26 rfl (lv_at hl 0 rfl) ?_
      refine lv_iadd hx hb dX5_allWays_27 ?_
      refine lv_istore_n (lv' := [(1, .int (x1 + a_2)), (3, .int a_2), (0, .ref (Γ.2.2.1 1)), (2, .int x2)]) hx hb dX5_allWays_28 rfl hl (by decide) rfl (fun ls hl => ?_)
      refine lv_iinc (v := x2 + 1) (lv' := [(2, .int (x2 + 1)), (1, .int (x1 + a_2)), (3, .int a_2), (0, .ref (Γ.2.2.1 1))]) hx hb dX5_allWays_29 hl (k := 3) rfl rfl (by decide) rfl (fun ls hl => ?_)
      refine lv_goto (tgt := 4) hx hb dX5_allWays_32 (by decide) ?_
      obtain rfl := Option.some.inj hf
      exact kb _ rfl H locs ls hP hS (lv_sub hl [3, 1, 0] rfl)
    · rw [if_pos c_3] at hf
      refine lv_iconst (v := -1) hx hb dX5_allWays_23 (by decide) ?_
      obtain rfl := Option.some.inj hf
      exact jp_endi B hP hS dX5_allWays_24 (kr _ rfl)
set_option maxHeartbeats 4000000 in
theorem lX5_allWays_4 (B : jp_B Γ p s m args meth c RX5 cX5_allWays 4 (some .int)) {n : Nat} (hX0 : jp_hS Z n) {e1 : Sum (Int32) Int32} {σ1 : jp_I} {τ1 : jp_J} (kx : ∀ v : Int32, e1 = .inl v → jp_at p l e (jp_R 5 113) s m args below meth c (MQ below (jp_Q Γ Z (some (.int r0)) σ0 τ0) args s 0 0 (jp_A Γ)) 4 Γ Z 35 [(1, .int v)] [] σ1 τ1) (kr : ∀ v : Int32, e1 = .inr v → r0 = v ∧ σ0 = σ1 ∧ τ0 = τ1) : ∀ (k : Nat) (v : Int32 × Int32) (σ : jp_I) (τ : jp_J), jp_loop (fun q : (Int32 × Int32) × jp_I × jp_J => sX5_allWays_4 n q.1.1 q.1.2 q.2.1 q.2.2) k (v, σ, τ) = some (e1, σ1, τ1) → jp_at p l e (jp_R 5 113) s m args below meth c (MQ below (jp_Q Γ Z (some (.int r0)) σ0 τ0) args s 0 0 (jp_A Γ)) 4 Γ Z 4 [(0, .ref (Γ.2.2.1 1)), (1, .int v.1), (2, .int v.2)] [] σ τ := by
  refine jp_loopI (P := fun (v : Int32 × Int32) (σ : jp_I) (τ : jp_J) => jp_at p l e (jp_R 5 113) s m args below meth c (MQ below (jp_Q Γ Z (some (.int r0)) σ0 τ0) args s 0 0 (jp_A Γ)) 4 Γ Z 4 [(0, .ref (Γ.2.2.1 1)), (1, .int v.1), (2, .int v.2)] [] σ τ) (fun v σ τ q hq hbk hen => ?_)
  exact wsX5_allWays_4 B hX0 hq (fun v' hv => hbk v' hv) (fun x hv => by obtain ⟨h1, h2, h3⟩ := hen _ hv; rw [h2, h3]; exact kx x h1.symm) (fun r hv => by obtain ⟨h1, h2, h3⟩ := hen _ hv; rw [h2, h3]; exact kr r h1.symm)
def fX5_allWays (n : Nat) (σ : jp_I) (τ : jp_J) : Option (Int32 × jp_I × jp_J) :=
  (jp_loop (fun q : (Int32 × Int32) × jp_I × jp_J => sX5_allWays_4 n q.1.1 q.1.2 q.2.1 q.2.2) jp_F ((0, 0), σ, τ)).bind fun (e_1, σ_1, τ_1) => match e_1 with
    | .inl v_1 => (some (v_1, σ_1, τ_1))
    | .inr r_1 => some (r_1, σ_1, τ_1)
set_option maxHeartbeats 4000000 in
set_option maxRecDepth 20000 in
theorem ctX5_allWays {l : Launch} {Γ : jp_G} {Z : Nat → Option jp_Sh} {n : Nat} (hX0 : jp_hS Z n) {σ σ0 : jp_I} {τ τ0 : jp_J} {r0 : Int32} (hf : fX5_allWays n σ τ = some (r0, σ0, τ0)) : jp_M l yX5_allWays cX5_allWays 4 (some .int) 5 113 Γ Z σ τ [.ref (Γ.2.2.1 1)] (some (.int r0)) σ0 τ0 := by
  refine jp_mk (lv := [(0, .ref (Γ.2.2.1 1))]) (by decide) (Nat.le_of_ble_eq_true rfl) rfl fun p e s m args below meth c B => ?_
  obtain ⟨hx, hb, hml, hown, hts, hr, hlk, hE⟩ := id B
  unfold fX5_allWays at hf
  intro H locs ls hP hS hl
  refine lv_iconst (v := 0) hx hb dX5_allWays_0 (by decide) ?_
  refine lv_istore_n (lv' := [(1, .int 0), (0, .ref (Γ.2.2.1 1))]) hx hb dX5_allWays_1 rfl hl (by decide) rfl (fun ls hl => ?_)
  refine lv_iconst (v := 0) hx hb dX5_allWays_2 (by decide) ?_
  refine lv_istore_n (lv' := [(2, .int 0), (1, .int 0), (0, .ref (Γ.2.2.1 1))]) hx hb dX5_allWays_3 rfl hl (by decide) rfl (fun ls hl => ?_)
  obtain ⟨⟨e_1, σ_1, τ_1⟩, h_1, hf⟩ := jp_bind hf
  refine lX5_allWays_4 (r0 := r0) B hX0 (fun v_1 k_1 => ?_) (fun r_1 k_1 => ?_) _ _ _ _ h_1 H locs ls hP hS (lv_sub hl [2, 1, 0] rfl)
  · subst k_1
    dsimp only at hf
    intro H locs ls hP hS hl
    refine lv_iload_n hx hb dX5_allWays_35 rfl (lv_at hl 0 rfl) ?_
    exact jp_endi B hP hS dX5_allWays_36 (jp_inj hf)
  · subst k_1
    dsimp only at hf
    exact jp_inj hf
end
