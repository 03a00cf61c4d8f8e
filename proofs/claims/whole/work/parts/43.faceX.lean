-- X7_needRobot
section
variable {p : Program} {l : Launch} {e : Jvm.Env} {s : State} {m : MethodId} {args : Array Value} {below : List Frame} {meth : Method} {c : Code} {Γ : jp_G} {Z : Nat → Option jp_Sh} {r0 : (Sum Int32 Nat)} {σ0 : jp_I} {τ0 : jp_J}
def bX7_needRobot_12 (n : Nat) (nc : Nat) (σ : jp_I) (τ : jp_J) : Option ((Sum Int32 Nat) × jp_I × jp_J) :=
  some (.inr 0, σ, τ)
set_option maxHeartbeats 4000000 in
set_option maxRecDepth 20000 in
theorem wbX7_needRobot_12 (B : jp_B Γ p s m args meth c RX7 cX7_needRobot 2 none) {n : Nat} {nc : Nat} (hX0 : jp_hC Z n nc) (hst : l.stackTraces = false) (hT : ∀ x ∈ c.exceptionTable.toList, False) {σ : jp_I} {τ : jp_J} (hf : bX7_needRobot_12 n nc σ τ = some (r0, σ0, τ0)) : jp_atc p l e (jp_RX 6 82 1 6) s m args below meth c (vx_MQ below (jp_XQ Γ Z none r0 σ0 τ0) (jp_XX Γ Z r0 σ0 τ0) args s 1 6 (jp_A Γ)) 2 Γ Z 0 0 12 [] [] σ τ := by
  obtain ⟨hx, hb, hml, hown, hts, hr, hlk, hE⟩ := id B
  unfold bX7_needRobot_12 at hf
  intro H locs ls hP hS hl
  exact jp_throw 0 (by decide) B hT hst hP hS hl (text := "no such robot") (sid := 53) (by decide) dX7_needRobot_12 dX7_needRobot_15 dX7_needRobot_16 dX7_needRobot_18 dX7_needRobot_21 (Nat.le_of_ble_eq_true rfl) (Nat.le_of_ble_eq_true rfl) (Nat.le_of_ble_eq_true rfl) (Nat.le_of_ble_eq_true rfl) (Nat.le_of_ble_eq_true rfl) (Nat.le_of_ble_eq_true rfl) (jp_injX hf)
def fX7_needRobot (n : Nat) (nc : Nat) (p1 : Int32) (σ : jp_I) (τ : jp_J) : Option ((Sum Int32 Nat) × jp_I × jp_J) :=
  if p1 < 0 then (bX7_needRobot_12 n nc σ τ) else (if p1 < (σ 0 0) then (some (.inl 0, σ, τ)) else (bX7_needRobot_12 n nc σ τ))
set_option maxHeartbeats 4000000 in
set_option maxRecDepth 20000 in
theorem ctX7_needRobot {l : Launch} {Γ : jp_G} {Z : Nat → Option jp_Sh} {n : Nat} {nc : Nat} (hX0 : jp_hC Z n nc) (hst : l.stackTraces = false) {p1 : Int32} {σ σ0 : jp_I} {τ τ0 : jp_J} {r0 : (Sum Int32 Nat)} (hf : fX7_needRobot n nc p1 σ τ = some (r0, σ0, τ0)) : jp_X l yX7_needRobot cX7_needRobot 2 none 6 82 1 6 Γ Z σ τ [.ref (Γ.2.2.1 0), .int p1] r0 σ0 τ0 := by
  refine jp_mkX (lv := [(0, .ref (Γ.2.2.1 0)), (1, .int p1)]) (by decide) (Nat.le_of_ble_eq_true rfl) rfl fun p e s m args below meth c B hT => ?_
  obtain ⟨hx, hb, hml, hown, hts, hr, hlk, hE⟩ := id B
  unfold fX7_needRobot at hf
  intro H locs ls hP hS hl
  refine lv_iload_n hx hb dX7_needRobot_0 rfl (lv_at hl 1 rfl) ?_
  refine lv_if_lt (tgt := 12) hx hb dX7_needRobot_1 (by decide) (fun c_1 => ?_) (fun c_1 => ?_)
  · rw [if_pos c_1] at hf
    exact wbX7_needRobot_12 B hX0 hst hT hf H locs ls hP hS (lv_sub hl [] rfl)
  · rw [if_neg c_1] at hf
    refine lv_iload_n hx hb dX7_needRobot_4 rfl (lv_at hl 1 rfl) ?_
    refine lv_aload_n hx hb dX7_needRobot_5 rfl (lv_at hl 0 rfl) ?_
    refine jp_geti (k := 0) B hP hX0.1 rfl rfl (by decide) jp_fX7 rfl mw_24 dX7_needRobot_6 ?_
    refine lv_icmp_lt (tgt := 22) hx hb dX7_needRobot_9 (by decide) (fun c_2 => ?_) (fun c_2 => ?_)
    · rw [if_pos c_2] at hf
      exact jp_endvX B hP hS (Nat.le_of_ble_eq_true rfl) (Nat.le_of_ble_eq_true rfl) dX7_needRobot_22 (jp_injX hf)
    · rw [if_neg c_2] at hf
      exact wbX7_needRobot_12 B hX0 hst hT hf H locs ls hP hS (lv_sub hl [] rfl)
end
-- X7_needComplete
section
variable {p : Program} {l : Launch} {e : Jvm.Env} {s : State} {m : MethodId} {args : Array Value} {below : List Frame} {meth : Method} {c : Code} {Γ : jp_G} {Z : Nat → Option jp_Sh} {r0 : (Sum Int32 Nat)} {σ0 : jp_I} {τ0 : jp_J}
def sX7_needComplete_2 (n : Nat) (nc : Nat) (x1 : Int32) (σ : jp_I) (τ : jp_J) : Option (Sum (Int32) (Sum (Unit) (Sum Int32 Nat)) × jp_I × jp_J) :=
  if (σ 0 0) ≤ x1 then (some (.inr (.inl ()), σ, τ)) else ((fX5_isComplete n x1 σ τ).bind fun (a_2, σ_2, τ_2) => if a_2 = 0 then (some (.inr (.inr (.inr 1)), σ_2, τ_2)) else (some (.inl (x1 + 1), σ_2, τ_2)))
set_option maxHeartbeats 4000000 in
set_option maxRecDepth 20000 in
theorem wsX7_needComplete_2 (B : jp_B Γ p s m args meth c RX7 cX7_needComplete 2 none) {n : Nat} {nc : Nat} (hX0 : jp_hC Z n nc) (hst : l.stackTraces = false) (hT : ∀ x ∈ c.exceptionTable.toList, False) {x1 : Int32} {σ : jp_I} {τ : jp_J} {q : Sum (Int32) (Sum (Unit) (Sum Int32 Nat)) × jp_I × jp_J} (hf : sX7_needComplete_2 n nc x1 σ τ = some q) (kb : ∀ v : Int32, q.1 = .inl v → jp_atc p l e (jp_RX 6 82 1 6) s m args below meth c (vx_MQ below (jp_XQ Γ Z none r0 σ0 τ0) (jp_XX Γ Z r0 σ0 τ0) args s 1 6 (jp_A Γ)) 2 Γ Z 0 0 2 [(0, .ref (Γ.2.2.1 0)), (1, .int v)] [] q.2.1 q.2.2) (kx : ∀ v : Unit, q.1 = .inr (.inl v) → jp_atc p l e (jp_RX 6 82 1 6) s m args below meth c (vx_MQ below (jp_XQ Γ Z none r0 σ0 τ0) (jp_XX Γ Z r0 σ0 τ0) args s 1 6 (jp_A Γ)) 2 Γ Z 0 0 37 [] [] q.2.1 q.2.2) (kr : ∀ v : (Sum Int32 Nat), q.1 = .inr (.inr v) → r0 = v ∧ σ0 = q.2.1 ∧ τ0 = q.2.2) : jp_atc p l e (jp_RX 6 82 1 6) s m args below meth c (vx_MQ below (jp_XQ Γ Z none r0 σ0 τ0) (jp_XX Γ Z r0 σ0 τ0) args s 1 6 (jp_A Γ)) 2 Γ Z 0 0 2 [(0, .ref (Γ.2.2.1 0)), (1, .int x1)] [] σ τ := by
  obtain ⟨hx, hb, hml, hown, hts, hr, hlk, hE⟩ := id B
  unfold sX7_needComplete_2 at hf
  intro H locs ls hP hS hl
  refine lv_iload_n hx hb dX7_needComplete_2 rfl (lv_at hl 1 rfl) ?_
  refine lv_aload_n hx hb dX7_needComplete_3 rfl (lv_at hl 0 rfl) ?_
  refine jp_geti (k := 0) B hP hX0.1 rfl rfl (by decide) jp_fX7 rfl mw_24 dX7_needComplete_4 ?_
  refine lv_icmp_ge (tgt := 37) hx hb dX7_needComplete_7 (by decide) (fun c_1 => ?_) (fun c_1 => ?_)
  · rw [if_pos c_1] at hf
    obtain rfl := Option.some.inj hf
    exact kx _ rfl H locs ls hP hS (lv_sub hl [] rfl)
  · rw [if_neg c_1] at hf
    refine lv_aload_n hx hb dX7_needComplete_10 rfl (lv_at hl 0 rfl) ?_
    refine jp_getr (k := 1) B hP hX0.1 rfl rfl (by decide) jp_fX7 rfl mw_28 dX7_needComplete_11 ?_
    refine lv_iload_n hx hb dX7_needComplete_14 rfl (lv_at hl 1 rfl) ?_
    obtain ⟨⟨a_2, σ_2, τ_2⟩, h_2, hf⟩ := jp_bind hf
    dsimp only at hf
    refine jp_callVN (rest := []) B hP hS hl (ctX5_isComplete ⟨hX0.2.1.1, hX0.2.1.2.1, hX0.2.1.2.2.1, ⟨hX0.2.1.2.2.2.1, hX0.2.1.2.2.2.2.1, hX0.2.1.2.2.2.2.2.1, hX0.2.1.2.2.2.2.2.2.1, hX0.2.1.2.2.2.2.2.2.2⟩⟩ h_2) hX0.2.1.1 rfl mw_277 nw_521 mw_275 mw_276 mw_27 ddX5_isComplete ⟨Nat.le_of_ble_eq_true rfl, Nat.le_of_ble_eq_true rfl⟩ ⟨Nat.le_of_ble_eq_true rfl, Nat.le_of_ble_eq_true rfl⟩ rfl (Nat.le_of_ble_eq_true rfl) dX7_needComplete_15 (fun H locs hP hS => ?_)
    refine lv_if_ne (tgt := 31) hx hb dX7_needComplete_18 (by decide) (fun c_3 => ?_) (fun c_3 => ?_)
    · rw [if_neg c_3] at hf
      refine lv_iinc (v := x1 + 1) (lv' := [(1, .int (x1 + 1)), (0, .ref (Γ.2.2.1 0))]) hx hb dX7_needComplete_31 hl (k := 1) rfl rfl (by decide) rfl (fun ls hl => ?_)
      refine lv_goto (tgt := 2) hx hb dX7_needComplete_34 (by decide) ?_
      obtain rfl := Option.some.inj hf
      exact kb _ rfl H locs ls hP hS (lv_sub hl [1, 0] rfl)
    · rw [if_pos c_3] at hf
      obtain rfl := Option.some.inj hf
      exact jp_throw 1 (by decide) B hT hst hP hS hl (text := "a robot is without start or end") (sid := 57) (by decide) dX7_needComplete_21 dX7_needComplete_24 dX7_needComplete_25 dX7_needComplete_27 dX7_needComplete_30 (Nat.le_of_ble_eq_true rfl) (Nat.le_of_ble_eq_true rfl) (Nat.le_of_ble_eq_true rfl) (Nat.le_of_ble_eq_true rfl) (Nat.le_of_ble_eq_true rfl) (Nat.le_of_ble_eq_true rfl) (kr _ rfl)
set_option maxHeartbeats 4000000 in
theorem lX7_needComplete_2 (B : jp_B Γ p s m args meth c RX7 cX7_needComplete 2 none) {n : Nat} {nc : Nat} (hX0 : jp_hC Z n nc) (hst : l.stackTraces = false) (hT : ∀ x ∈ c.exceptionTable.toList, False) {e1 : Sum (Unit) (Sum Int32 Nat)} {σ1 : jp_I} {τ1 : jp_J} (kx : ∀ v : Unit, e1 = .inl v → jp_atc p l e (jp_RX 6 82 1 6) s m args below meth c (vx_MQ below (jp_XQ Γ Z none r0 σ0 τ0) (jp_XX Γ Z r0 σ0 τ0) args s 1 6 (jp_A Γ)) 2 Γ Z 0 0 37 [] [] σ1 τ1) (kr : ∀ v : (Sum Int32 Nat), e1 = .inr v → r0 = v ∧ σ0 = σ1 ∧ τ0 = τ1) : ∀ (k : Nat) (v : Int32) (σ : jp_I) (τ : jp_J), jp_loop (fun q : (Int32) × jp_I × jp_J => sX7_needComplete_2 n nc q.1 q.2.1 q.2.2) k (v, σ, τ) = some (e1, σ1, τ1) → jp_atc p l e (jp_RX 6 82 1 6) s m args below meth c (vx_MQ below (jp_XQ Γ Z none r0 σ0 τ0) (jp_XX Γ Z r0 σ0 τ0) args s 1 6 (jp_A Γ)) 2 Γ Z 0 0 2 [(0, .ref (Γ.2.2.1 0)), (1, .int v)] [] σ τ := by
  refine jp_loopI (P := fun (v : Int32) (σ : jp_I) (τ : jp_J) => jp_atc p l e (jp_RX 6 82 1 6) s m args below meth c (vx_MQ below (jp_XQ Γ Z none r0 σ0 τ0) (jp_XX Γ Z r0 σ0 τ0) args s 1 6 (jp_A Γ)) 2 Γ Z 0 0 2 [(0, .ref (Γ.2.2.1 0)), (1, .int v)] [] σ τ) (fun v σ τ q hq hbk hen => ?_)
  exact wsX7_needComplete_2 B hX0 hst hT hq (fun v' hv => hbk v' hv) (fun x hv => by obtain ⟨h1, h2, h3⟩ := hen _ hv; rw [h2, h3]; exact kx x h1.symm) (fun r hv => by obtain ⟨h1, h2, h3⟩ := hen _ hv; rw [h2, h3]; exact kr r h1.symm)
def fX7_needComplete (n : Nat) (nc : Nat) (σ : jp_I) (τ : jp_J) : Option ((Sum Int32 Nat) × jp_I × jp_J) :=
  (jp_loop (fun q : (Int32) × jp_I × jp_J => sX7_needComplete_2 n nc q.1 q.2.1 q.2.2) jp_F (0, σ, τ)).bind fun (e_1, σ_1, τ_1) => match e_1 with
    | .inl _ => (some (.inl 0, σ_1, τ_1))
    | .inr r_1 => some (r_1, σ_1, τ_1)
set_option maxHeartbeats 4000000 in
set_option maxRecDepth 20000 in
theorem ctX7_needComplete {l : Launch} {Γ : jp_G} {Z : Nat → Option jp_Sh} {n : Nat} {nc : Nat} (hX0 : jp_hC Z n nc) (hst : l.stackTraces = false) {σ σ0 : jp_I} {τ τ0 : jp_J} {r0 : (Sum Int32 Nat)} (hf : fX7_needComplete n nc σ τ = some (r0, σ0, τ0)) : jp_X l yX7_needComplete cX7_needComplete 2 none 6 82 1 6 Γ Z σ τ [.ref (Γ.2.2.1 0)] r0 σ0 τ0 := by
  refine jp_mkX (lv := [(0, .ref (Γ.2.2.1 0))]) (by decide) (Nat.le_of_ble_eq_true rfl) rfl fun p e s m args below meth c B hT => ?_
  obtain ⟨hx, hb, hml, hown, hts, hr, hlk, hE⟩ := id B
  unfold fX7_needComplete at hf
  intro H locs ls hP hS hl
  refine lv_iconst (v := 0) hx hb dX7_needComplete_0 (by decide) ?_
  refine lv_istore_n (lv' := [(1, .int 0), (0, .ref (Γ.2.2.1 0))]) hx hb dX7_needComplete_1 rfl hl (by decide) rfl (fun ls hl => ?_)
  obtain ⟨⟨e_1, σ_1, τ_1⟩, h_1, hf⟩ := jp_bind hf
  refine lX7_needComplete_2 (r0 := r0) B hX0 hst hT (fun v_1 k_1 => ?_) (fun r_1 k_1 => ?_) _ _ _ _ h_1 H locs ls hP hS (lv_sub hl [1, 0] rfl)
  · subst k_1
    dsimp only at hf
    intro H locs ls hP hS hl
    exact jp_endvX B hP hS (Nat.le_of_ble_eq_true rfl) (Nat.le_of_ble_eq_true rfl) dX7_needComplete_37 (jp_injX hf)
  · subst k_1
    dsimp only at hf
    exact jp_injX hf
end
-- X7_needPlan
section
variable {p : Program} {l : Launch} {e : Jvm.Env} {s : State} {m : MethodId} {args : Array Value} {below : List Frame} {meth : Method} {c : Code} {Γ : jp_G} {Z : Nat → Option jp_Sh} {r0 : (Sum Int32 Nat)} {σ0 : jp_I} {τ0 : jp_J}
def fX7_needPlan (n : Nat) (nc : Nat) (σ : jp_I) (τ : jp_J) : Option ((Sum Int32 Nat) × jp_I × jp_J) :=
  (fX2_isMade 11 12 nc σ τ).bind fun (a_1, σ_1, τ_1) => if a_1 = 0 then (some (.inr 1, σ_1, τ_1)) else (some (.inl 0, σ_1, τ_1))
set_option maxHeartbeats 4000000 in
set_option maxRecDepth 20000 in
theorem ctX7_needPlan {l : Launch} {Γ : jp_G} {Z : Nat → Option jp_Sh} {n : Nat} {nc : Nat} (hX0 : jp_hC Z n nc) (hst : l.stackTraces = false) {σ σ0 : jp_I} {τ τ0 : jp_J} {r0 : (Sum Int32 Nat)} (hf : fX7_needPlan n nc σ τ = some (r0, σ0, τ0)) : jp_X l yX7_needPlan cX7_needPlan 1 none 6 82 1 6 Γ Z σ τ [.ref (Γ.2.2.1 0)] r0 σ0 τ0 := by
  refine jp_mkX (lv := [(0, .ref (Γ.2.2.1 0))]) (by decide) (Nat.le_of_ble_eq_true rfl) rfl fun p e s m args below meth c B hT => ?_
  obtain ⟨hx, hb, hml, hown, hts, hr, hlk, hE⟩ := id B
  unfold fX7_needPlan at hf
  intro H locs ls hP hS hl
  refine lv_aload_n hx hb dX7_needPlan_0 rfl (lv_at hl 0 rfl) ?_
  refine jp_getr (k := 4) B hP hX0.1 rfl rfl (by decide) jp_fX7 rfl mw_43 dX7_needPlan_1 ?_
  obtain ⟨⟨a_1, σ_1, τ_1⟩, h_1, hf⟩ := jp_bind hf
  dsimp only at hf
  refine jp_callVN (rest := []) B hP hS hl (ctX2_isMade ⟨hX0.2.2.2.1, hX0.2.2.2.2⟩ h_1) hX0.2.2.2.1 rfl mw_321 nw_329 mw_319 mw_320 mw_42 ddX2_isMade ⟨Nat.le_of_ble_eq_true rfl, Nat.le_of_ble_eq_true rfl⟩ ⟨Nat.le_of_ble_eq_true rfl, Nat.le_of_ble_eq_true rfl⟩ rfl (Nat.le_of_ble_eq_true rfl) dX7_needPlan_4 (fun H locs hP hS => ?_)
  refine lv_if_ne (tgt := 20) hx hb dX7_needPlan_7 (by decide) (fun c_2 => ?_) (fun c_2 => ?_)
  · rw [if_neg c_2] at hf
    exact jp_endvX B hP hS (Nat.le_of_ble_eq_true rfl) (Nat.le_of_ble_eq_true rfl) dX7_needPlan_20 (jp_injX hf)
  · rw [if_pos c_2] at hf
    exact jp_throw 1 (by decide) B hT hst hP hS hl (text := "there is no plan") (sid := 59) (by decide) dX7_needPlan_10 dX7_needPlan_13 dX7_needPlan_14 dX7_needPlan_16 dX7_needPlan_19 (Nat.le_of_ble_eq_true rfl) (Nat.le_of_ble_eq_true rfl) (Nat.le_of_ble_eq_true rfl) (Nat.le_of_ble_eq_true rfl) (Nat.le_of_ble_eq_true rfl) (Nat.le_of_ble_eq_true rfl) (jp_injX hf)
end
-- X7_settle
section
variable {p : Program} {l : Launch} {e : Jvm.Env} {s : State} {m : MethodId} {args : Array Value} {below : List Frame} {meth : Method} {c : Code} {Γ : jp_G} {Z : Nat → Option jp_Sh} {r0 : (Sum Int32 Nat)} {σ0 : jp_I} {τ0 : jp_J}
def bX7_settle_83 (n : Nat) (nc : Nat) (row : Nat) (N : Nat) (x2 : Int32) (x5 : Int32) (σ : jp_I) (τ : jp_J) : Option ((Sum Int32 Nat) × jp_I × jp_J) :=
  (fX7_write row N x2 x5 σ τ).bind fun (a_1, σ_1, τ_1) => some (.inl 1, σ_1, τ_1)
set_option maxHeartbeats 4000000 in
set_option maxRecDepth 20000 in
theorem wbX7_settle_83 (B : jp_B Γ p s m args meth c RX7 cX7_settle 7 (some .boolean)) {n : Nat} {nc : Nat} {row : Nat} {N : Nat} (hX0 : jp_hC Z n nc) (hX1 : jp_hA Z row N) (hst : l.stackTraces = false) (hT : ∀ x ∈ c.exceptionTable.toList, False) {x2 : Int32} {x5 : Int32} {σ : jp_I} {τ : jp_J} (hf : bX7_settle_83 n nc row N x2 x5 σ τ = some (r0, σ0, τ0)) : jp_atc p l e (jp_RX 7 103 2 12) s m args below meth c (vx_MQ below (jp_XQ Γ Z (some .boolean) r0 σ0 τ0) (jp_XX Γ Z r0 σ0 τ0) args s 2 12 (jp_A Γ)) 7 Γ Z 1 6 83 [(1, .ref (Γ.2.2.1 row)), (2, .int x2), (5, .int x5)] [] σ τ := by
  obtain ⟨hx, hb, hml, hown, hts, hr, hlk, hE⟩ := id B
  unfold bX7_settle_83 at hf
  intro H locs ls hP hS hl
  refine lv_aload_n hx hb dX7_settle_83 rfl (lv_at hl 0 rfl) ?_
  refine lv_iload_n hx hb dX7_settle_84 rfl (lv_at hl 1 rfl) ?_
  refine lv_iload hx hb dX7_settle_85 (lv_at hl 2 rfl) ?_
  obtain ⟨⟨a_1, σ_1, τ_1⟩, h_1, hf⟩ := jp_bind hf
  dsimp only at hf
  refine jp_callS (rest := []) B hP hS hl (ctX7_write hX1 h_1) mw_95 mw_225 mw_94 mw_2 ddX7_write ⟨Nat.le_of_ble_eq_true rfl, Nat.le_of_ble_eq_true rfl⟩ ⟨Nat.le_of_ble_eq_true rfl, Nat.le_of_ble_eq_true rfl⟩ rfl (Nat.le_of_ble_eq_true rfl) dX7_settle_87 (fun H locs hP hS => ?_)
  refine lv_iconst (v := 1) hx hb dX7_settle_90 (by decide) ?_
  exact jp_endzX B hP hS (Nat.le_of_ble_eq_true rfl) (Nat.le_of_ble_eq_true rfl) (by decide) dX7_settle_91 (jp_injX hf)
def fX7_settle (n : Nat) (nc : Nat) (row : Nat) (N : Nat) (p2 : Int32) (p3 : Int32) (p4 : Int32) (σ : jp_I) (τ : jp_J) : Option ((Sum Int32 Nat) × jp_I × jp_J) :=
  (fX7_needRobot n nc p2 σ τ).bind fun (o_1, σ_1, τ_1) => match o_1 with
    | .inl _a_1 => ((fX0_cellAt p3 p4 σ_1 τ_1).bind fun (a_2, σ_2, τ_2) => if a_2 = (-1) then (some (.inr 0, σ_2, τ_2)) else ((fX0_isWall a_2 σ_2 τ_2).bind fun (a_4, σ_4, τ_4) => if a_4 = 0 then ((fX7_ownerOf row N a_2 σ_4 τ_4).bind fun (a_6, σ_6, τ_6) => if a_6 = (-1) then (bX7_settle_83 n nc row N p2 a_2 σ_6 τ_6) else (if a_6 = p2 then (bX7_settle_83 n nc row N p2 a_2 σ_6 τ_6) else (some (.inl 0, σ_6, τ_6)))) else (some (.inr 1, σ_4, τ_4))))
    | .inr k_1 => some (.inr k_1, σ_1, τ_1)
set_option maxHeartbeats 4000000 in
set_option maxRecDepth 20000 in
theorem ctX7_settle {l : Launch} {Γ : jp_G} {Z : Nat → Option jp_Sh} {n : Nat} {nc : Nat} {row : Nat} {N : Nat} (hX0 : jp_hC Z n nc) (hX1 : jp_hA Z row N) (hst : l.stackTraces = false) {p2 : Int32} {p3 : Int32} {p4 : Int32} {σ σ0 : jp_I} {τ τ0 : jp_J} {r0 : (Sum Int32 Nat)} (hf : fX7_settle n nc row N p2 p3 p4 σ τ = some (r0, σ0, τ0)) : jp_X l yX7_settle cX7_settle 7 (some .boolean) 7 103 2 12 Γ Z σ τ [.ref (Γ.2.2.1 0), .ref (Γ.2.2.1 row), .int p2, .int p3, .int p4] r0 σ0 τ0 := by
  refine jp_mkX (lv := [(0, .ref (Γ.2.2.1 0)), (1, .ref (Γ.2.2.1 row)), (2, .int p2), (3, .int p3), (4, .int p4)]) (by decide) (Nat.le_of_ble_eq_true rfl) rfl fun p e s m args below meth c B hT => ?_
  obtain ⟨hx, hb, hml, hown, hts, hr, hlk, hE⟩ := id B
  unfold fX7_settle at hf
  intro H locs ls hP hS hl
  refine lv_aload_n hx hb dX7_settle_0 rfl (lv_at hl 0 rfl) ?_
  refine lv_iload_n hx hb dX7_settle_1 rfl (lv_at hl 2 rfl) ?_
  obtain ⟨⟨o_1, σ_1, τ_1⟩, h_1, hf⟩ := jp_bind hf
  dsimp only at hf
  refine jp_callVX (rest := []) B hT hP hS hl (ctX7_needRobot ⟨hX0.1, ⟨hX0.2.1.1, hX0.2.1.2.1, hX0.2.1.2.2.1, ⟨hX0.2.1.2.2.2.1, hX0.2.1.2.2.2.2.1, hX0.2.1.2.2.2.2.2.1, hX0.2.1.2.2.2.2.2.2.1, hX0.2.1.2.2.2.2.2.2.2⟩⟩, ⟨hX0.2.2.1.1, hX0.2.2.1.2⟩, ⟨hX0.2.2.2.1, hX0.2.2.2.2⟩⟩ hst h_1) hX0.1 rfl mw_224 mw_221 mw_222 mw_223 mw_2 ddX7_needRobot ⟨Nat.le_of_ble_eq_true rfl, Nat.le_of_ble_eq_true rfl⟩ ⟨Nat.le_of_ble_eq_true rfl, Nat.le_of_ble_eq_true rfl⟩ ⟨Nat.le_of_ble_eq_true rfl, Nat.le_of_ble_eq_true rfl⟩ rfl (Nat.le_of_ble_eq_true rfl) dX7_settle_2 (fun k_1 e_1 => ?_) (fun a_1 e_1 H locs hP hS => ?_)
  · subst e_1
    dsimp only at hf
    exact jp_injX hf
  · subst e_1
    dsimp only at hf
    refine lv_aload_n hx hb dX7_settle_5 rfl (lv_at hl 0 rfl) ?_
    refine jp_getr (k := 1) B hP hX0.1 rfl rfl (by decide) jp_fX7 rfl mw_28 dX7_settle_6 ?_
    refine jp_getrN (k := 1) B hP hX0.2.1.1 rfl rfl (by decide) jp_fX5 rfl nw_141 dX7_settle_9 ?_
    refine lv_iload_n hx hb dX7_settle_12 rfl (lv_at hl 3 rfl) ?_
    refine lv_iload hx hb dX7_settle_13 (lv_at hl 4 rfl) ?_
    obtain ⟨⟨a_2, σ_2, τ_2⟩, h_2, hf⟩ := jp_bind hf
    dsimp only at hf
    refine jp_callVN (rest := []) B hP hS hl (ctX0_cellAt ⟨hX0.2.1.2.2.2.1, hX0.2.1.2.2.2.2.1, hX0.2.1.2.2.2.2.2.1, hX0.2.1.2.2.2.2.2.2.1, hX0.2.1.2.2.2.2.2.2.2⟩ h_2) hX0.2.1.2.2.2.1 rfl mw_89 nw_430 mw_87 mw_88 mw_49 ddX0_cellAt ⟨Nat.le_of_ble_eq_true rfl, Nat.le_of_ble_eq_true rfl⟩ ⟨Nat.le_of_ble_eq_true rfl, Nat.le_of_ble_eq_true rfl⟩ rfl (Nat.le_of_ble_eq_true rfl) dX7_settle_15 (fun H locs hP hS => ?_)
    refine lv_istore (lv' := [(5, .int a_2), (0, .ref (Γ.2.2.1 0)), (1, .ref (Γ.2.2.1 row)), (2, .int p2), (3, .int p3), (4, .int p4)]) hx hb dX7_settle_18 hl (by decide) rfl (fun ls hl => ?_)
    refine lv_iload hx hb dX7_settle_20 (lv_at hl 0 rfl) ?_
    refine lv_iconst (v := -1) hx hb dX7_settle_22 (by decide) ?_
    refine lv_icmp_ne (tgt := 36) hx hb dX7_settle_23 (by decide) (fun c_3 => ?_) (fun c_3 => ?_)
    · rw [if_neg c_3] at hf
      refine lv_aload_n hx hb dX7_settle_36 rfl (lv_at hl 1 rfl) ?_
      refine jp_getr (k := 1) B hP hX0.1 rfl rfl (by decide) jp_fX7 rfl mw_28 dX7_settle_37 ?_
      refine jp_getrN (k := 1) B hP hX0.2.1.1 rfl rfl (by decide) jp_fX5 rfl nw_141 dX7_settle_40 ?_
      refine lv_iload hx hb dX7_settle_43 (lv_at hl 0 rfl) ?_
      obtain ⟨⟨a_4, σ_4, τ_4⟩, h_4, hf⟩ := jp_bind hf
      dsimp only at hf
      refine jp_callVN (rest := []) B hP hS hl (ctX0_isWall ⟨hX0.2.1.2.2.2.1, hX0.2.1.2.2.2.2.1, hX0.2.1.2.2.2.2.2.1, hX0.2.1.2.2.2.2.2.2.1, hX0.2.1.2.2.2.2.2.2.2⟩ h_4) hX0.2.1.2.2.2.1 rfl mw_93 nw_491 mw_91 mw_92 mw_49 ddX0_isWall ⟨Nat.le_of_ble_eq_true rfl, Nat.le_of_ble_eq_true rfl⟩ ⟨Nat.le_of_ble_eq_true rfl, Nat.le_of_ble_eq_true rfl⟩ rfl (Nat.le_of_ble_eq_true rfl) dX7_settle_45 (fun H locs hP hS => ?_)
      refine lv_if_eq (tgt := 61) hx hb dX7_settle_48 (by decide) (fun c_5 => ?_) (fun c_5 => ?_)
      · rw [if_pos c_5] at hf
        refine lv_aload_n hx hb dX7_settle_61 rfl (lv_at hl 2 rfl) ?_
        refine lv_iload hx hb dX7_settle_62 (lv_at hl 0 rfl) ?_
        obtain ⟨⟨a_6, σ_6, τ_6⟩, h_6, hf⟩ := jp_bind hf
        dsimp only at hf
        refine jp_callS (rest := []) B hP hS hl (ctX7_ownerOf hX1 h_6) mw_194 mw_192 mw_193 mw_2 ddX7_ownerOf ⟨Nat.le_of_ble_eq_true rfl, Nat.le_of_ble_eq_true rfl⟩ ⟨Nat.le_of_ble_eq_true rfl, Nat.le_of_ble_eq_true rfl⟩ rfl (Nat.le_of_ble_eq_true rfl) dX7_settle_64 (fun H locs hP hS => ?_)
        refine lv_istore (lv' := [(6, .int a_6), (5, .int a_2), (0, .ref (Γ.2.2.1 0)), (1, .ref (Γ.2.2.1 row)), (2, .int p2), (3, .int p3), (4, .int p4)]) hx hb dX7_settle_67 hl (by decide) rfl (fun ls hl => ?_)
        refine lv_iload hx hb dX7_settle_69 (lv_at hl 0 rfl) ?_
        refine lv_iconst (v := -1) hx hb dX7_settle_71 (by decide) ?_
        refine lv_icmp_eq (tgt := 83) hx hb dX7_settle_72 (by decide) (fun c_7 => ?_) (fun c_7 => ?_)
        · rw [if_pos c_7] at hf
          exact wbX7_settle_83 B hX0 hX1 hst hT hf H locs ls hP hS (lv_sub hl [3, 4, 1] rfl)
        · rw [if_neg c_7] at hf
          refine lv_iload hx hb dX7_settle_75 (lv_at hl 0 rfl) ?_
          refine lv_iload_n hx hb dX7_settle_77 rfl (lv_at hl 4 rfl) ?_
          refine lv_icmp_eq (tgt := 83) hx hb dX7_settle_78 (by decide) (fun c_8 => ?_) (fun c_8 => ?_)
          · rw [if_pos c_8] at hf
            exact wbX7_settle_83 B hX0 hX1 hst hT hf H locs ls hP hS (lv_sub hl [3, 4, 1] rfl)
          · rw [if_neg c_8] at hf
            refine lv_iconst (v := 0) hx hb dX7_settle_81 (by decide) ?_
            exact jp_endzX B hP hS (Nat.le_of_ble_eq_true rfl) (Nat.le_of_ble_eq_true rfl) (by decide) dX7_settle_82 (jp_injX hf)
      · rw [if_neg c_5] at hf
        exact jp_throw 1 (by decide) B hT hst hP hS hl (text := "a wall is there") (sid := 54) (by decide) dX7_settle_51 dX7_settle_54 dX7_settle_55 dX7_settle_57 dX7_settle_60 (Nat.le_of_ble_eq_true rfl) (Nat.le_of_ble_eq_true rfl) (Nat.le_of_ble_eq_true rfl) (Nat.le_of_ble_eq_true rfl) (Nat.le_of_ble_eq_true rfl) (Nat.le_of_ble_eq_true rfl) (jp_injX hf)
    · rw [if_pos c_3] at hf
      exact jp_throw 0 (by decide) B hT hst hP hS hl (text := "no such cell") (sid := 51) (by decide) dX7_settle_26 dX7_settle_29 dX7_settle_30 dX7_settle_32 dX7_settle_35 (Nat.le_of_ble_eq_true rfl) (Nat.le_of_ble_eq_true rfl) (Nat.le_of_ble_eq_true rfl) (Nat.le_of_ble_eq_true rfl) (Nat.le_of_ble_eq_true rfl) (Nat.le_of_ble_eq_true rfl) (jp_injX hf)
end
-- X7_grid
section
variable {p : Program} {l : Launch} {e : Jvm.Env} {s : State} {m : MethodId} {args : Array Value} {below : List Frame} {meth : Method} {c : Code} {Γ : jp_G} {Z : Nat → Option jp_Sh} {r0 : (Sum Int32 Nat)} {σ0 : jp_I} {τ0 : jp_J}
def bX7_grid_22 (n : Nat) (nc : Nat) (σ : jp_I) (τ : jp_J) : Option ((Sum Int32 Nat) × jp_I × jp_J) :=
  some (.inr 0, σ, τ)
set_option maxHeartbeats 4000000 in
set_option maxRecDepth 20000 in
theorem wbX7_grid_22 (B : jp_B Γ p s m args meth c RX7 cX7_grid 3 none) {n : Nat} {nc : Nat} (hX0 : jp_hC Z n nc) (hst : l.stackTraces = false) (hT : ∀ x ∈ c.exceptionTable.toList, False) {σ : jp_I} {τ : jp_J} (hf : bX7_grid_22 n nc σ τ = some (r0, σ0, τ0)) : jp_atc p l e (jp_RX 6 134 1 6) s m args below meth c (vx_MQ below (jp_XQ Γ Z none r0 σ0 τ0) (jp_XX Γ Z r0 σ0 τ0) args s 1 6 (jp_A Γ)) 3 Γ Z 0 0 22 [] [] σ τ := by
  obtain ⟨hx, hb, hml, hown, hts, hr, hlk, hE⟩ := id B
  unfold bX7_grid_22 at hf
  intro H locs ls hP hS hl
  exact jp_throw 0 (by decide) B hT hst hP hS hl (text := "a grid's sides are 1 .. 6") (sid := 50) (by decide) dX7_grid_22 dX7_grid_25 dX7_grid_26 dX7_grid_28 dX7_grid_31 (Nat.le_of_ble_eq_true rfl) (Nat.le_of_ble_eq_true rfl) (Nat.le_of_ble_eq_true rfl) (Nat.le_of_ble_eq_true rfl) (Nat.le_of_ble_eq_true rfl) (Nat.le_of_ble_eq_true rfl) (jp_injX hf)
def fX7_grid (n : Nat) (nc : Nat) (p1 : Int32) (p2 : Int32) (σ : jp_I) (τ : jp_J) : Option ((Sum Int32 Nat) × jp_I × jp_J) :=
  if p1 < 1 then (bX7_grid_22 n nc σ τ) else (if 6 < p1 then (bX7_grid_22 n nc σ τ) else (if p2 < 1 then (bX7_grid_22 n nc σ τ) else (if p2 ≤ 6 then ((fX5_renew n p1 p2 σ τ).bind fun (a_5, σ_5, τ_5) => (fX2_drop 11 12 nc σ_5 τ_5).bind fun (a_6, σ_6, τ_6) => some (.inl 0, σ_6, τ_6)) else (bX7_grid_22 n nc σ τ))))
set_option maxHeartbeats 4000000 in
set_option maxRecDepth 20000 in
theorem ctX7_grid {l : Launch} {Γ : jp_G} {Z : Nat → Option jp_Sh} {n : Nat} {nc : Nat} (hX0 : jp_hC Z n nc) (hst : l.stackTraces = false) {p1 : Int32} {p2 : Int32} {σ σ0 : jp_I} {τ τ0 : jp_J} {r0 : (Sum Int32 Nat)} (hf : fX7_grid n nc p1 p2 σ τ = some (r0, σ0, τ0)) : jp_X l yX7_grid cX7_grid 3 none 6 134 1 6 Γ Z σ τ [.ref (Γ.2.2.1 0), .int p1, .int p2] r0 σ0 τ0 := by
  refine jp_mkX (lv := [(0, .ref (Γ.2.2.1 0)), (1, .int p1), (2, .int p2)]) (by decide) (Nat.le_of_ble_eq_true rfl) rfl fun p e s m args below meth c B hT => ?_
  obtain ⟨hx, hb, hml, hown, hts, hr, hlk, hE⟩ := id B
  unfold fX7_grid at hf
  intro H locs ls hP hS hl
  refine lv_iload_n hx hb dX7_grid_0 rfl (lv_at hl 1 rfl) ?_
  refine lv_iconst (v := 1) hx hb dX7_grid_1 (by decide) ?_
  refine lv_icmp_lt (tgt := 22) hx hb dX7_grid_2 (by decide) (fun c_1 => ?_) (fun c_1 => ?_)
  · rw [if_pos c_1] at hf
    exact wbX7_grid_22 B hX0 hst hT hf H locs ls hP hS (lv_sub hl [] rfl)
  · rw [if_neg c_1] at hf
    refine lv_iload_n hx hb dX7_grid_5 rfl (lv_at hl 1 rfl) ?_
    refine lv_bipush (v := 6) hx hb dX7_grid_6 (by decide) ?_
    refine lv_icmp_gt (tgt := 22) hx hb dX7_grid_8 (by decide) (fun c_2 => ?_) (fun c_2 => ?_)
    · rw [if_pos c_2] at hf
      exact wbX7_grid_22 B hX0 hst hT hf H locs ls hP hS (lv_sub hl [] rfl)
    · rw [if_neg c_2] at hf
      refine lv_iload_n hx hb dX7_grid_11 rfl (lv_at hl 2 rfl) ?_
      refine lv_iconst (v := 1) hx hb dX7_grid_12 (by decide) ?_
      refine lv_icmp_lt (tgt := 22) hx hb dX7_grid_13 (by decide) (fun c_3 => ?_) (fun c_3 => ?_)
      · rw [if_pos c_3] at hf
        exact wbX7_grid_22 B hX0 hst hT hf H locs ls hP hS (lv_sub hl [] rfl)
      · rw [if_neg c_3] at hf
        refine lv_iload_n hx hb dX7_grid_16 rfl (lv_at hl 2 rfl) ?_
        refine lv_bipush (v := 6) hx hb dX7_grid_17 (by decide) ?_
        refine lv_icmp_le (tgt := 32) hx hb dX7_grid_19 (by decide) (fun c_4 => ?_) (fun c_4 => ?_)
        · rw [if_pos c_4] at hf
          refine lv_aload_n hx hb dX7_grid_32 rfl (lv_at hl 0 rfl) ?_
          refine jp_getr (k := 1) B hP hX0.1 rfl rfl (by decide) jp_fX7 rfl mw_28 dX7_grid_33 ?_
          refine lv_iload_n hx hb dX7_grid_36 rfl (lv_at hl 1 rfl) ?_
          refine lv_iload_n hx hb dX7_grid_37 rfl (lv_at hl 2 rfl) ?_
          obtain ⟨⟨a_5, σ_5, τ_5⟩, h_5, hf⟩ := jp_bind hf
          dsimp only at hf
          refine jp_callVN (rest := []) B hP hS hl (ctX5_renew ⟨hX0.2.1.1, hX0.2.1.2.1, hX0.2.1.2.2.1, ⟨hX0.2.1.2.2.2.1, hX0.2.1.2.2.2.2.1, hX0.2.1.2.2.2.2.2.1, hX0.2.1.2.2.2.2.2.2.1, hX0.2.1.2.2.2.2.2.2.2⟩⟩ h_5) hX0.2.1.1 rfl mw_65 nw_167 mw_63 mw_64 mw_27 ddX5_renew ⟨Nat.le_of_ble_eq_true rfl, Nat.le_of_ble_eq_true rfl⟩ ⟨Nat.le_of_ble_eq_true rfl, Nat.le_of_ble_eq_true rfl⟩ rfl (Nat.le_of_ble_eq_true rfl) dX7_grid_38 (fun H locs hP hS => ?_)
          refine lv_aload_n hx hb dX7_grid_41 rfl (lv_at hl 0 rfl) ?_
          refine jp_getr (k := 4) B hP hX0.1 rfl rfl (by decide) jp_fX7 rfl mw_43 dX7_grid_42 ?_
          obtain ⟨⟨a_6, σ_6, τ_6⟩, h_6, hf⟩ := jp_bind hf
          dsimp only at hf
          refine jp_callVN (rest := []) B hP hS hl (ctX2_drop ⟨hX0.2.2.2.1, hX0.2.2.2.2⟩ h_6) hX0.2.2.2.1 rfl mw_168 nw_417 mw_166 mw_167 mw_42 ddX2_drop ⟨Nat.le_of_ble_eq_true rfl, Nat.le_of_ble_eq_true rfl⟩ ⟨Nat.le_of_ble_eq_true rfl, Nat.le_of_ble_eq_true rfl⟩ rfl (Nat.le_of_ble_eq_true rfl) dX7_grid_45 (fun H locs hP hS => ?_)
          exact jp_endvX B hP hS (Nat.le_of_ble_eq_true rfl) (Nat.le_of_ble_eq_true rfl) dX7_grid_48 (jp_injX hf)
        · rw [if_neg c_4] at hf
          exact wbX7_grid_22 B hX0 hst hT hf H locs ls hP hS (lv_sub hl [] rfl)
end
-- X7_wall
section
variable {p : Program} {l : Launch} {e : Jvm.Env} {s : State} {m : MethodId} {args : Array Value} {below : List Frame} {meth : Method} {c : Code} {Γ : jp_G} {Z : Nat → Option jp_Sh} {r0 : (Sum Int32 Nat)} {σ0 : jp_I} {τ0 : jp_J}
def bX7_wall_62 (n : Nat) (nc : Nat) (σ : jp_I) (τ : jp_J) : Option ((Sum Int32 Nat) × jp_I × jp_J) :=
  some (.inr 1, σ, τ)
set_option maxHeartbeats 4000000 in
set_option maxRecDepth 20000 in
theorem wbX7_wall_62 (B : jp_B Γ p s m args meth c RX7 cX7_wall 5 (some .boolean)) {n : Nat} {nc : Nat} (hX0 : jp_hC Z n nc) (hst : l.stackTraces = false) (hT : ∀ x ∈ c.exceptionTable.toList, False) {σ : jp_I} {τ : jp_J} (hf : bX7_wall_62 n nc σ τ = some (r0, σ0, τ0)) : jp_atc p l e (jp_RX 7 113 1 6) s m args below meth c (vx_MQ below (jp_XQ Γ Z (some .boolean) r0 σ0 τ0) (jp_XX Γ Z r0 σ0 τ0) args s 1 6 (jp_A Γ)) 5 Γ Z 0 0 62 [] [] σ τ := by
  obtain ⟨hx, hb, hml, hown, hts, hr, hlk, hE⟩ := id B
  unfold bX7_wall_62 at hf
  intro H locs ls hP hS hl
  exact jp_throw 1 (by decide) B hT hst hP hS hl (text := "a start or an end is there") (sid := 52) (by decide) dX7_wall_62 dX7_wall_65 dX7_wall_66 dX7_wall_68 dX7_wall_71 (Nat.le_of_ble_eq_true rfl) (Nat.le_of_ble_eq_true rfl) (Nat.le_of_ble_eq_true rfl) (Nat.le_of_ble_eq_true rfl) (Nat.le_of_ble_eq_true rfl) (Nat.le_of_ble_eq_true rfl) (jp_injX hf)
def fX7_wall (n : Nat) (nc : Nat) (p1 : Int32) (p2 : Int32) (p3 : Int32) (σ : jp_I) (τ : jp_J) : Option ((Sum Int32 Nat) × jp_I × jp_J) :=
  (fX0_cellAt p1 p2 σ τ).bind fun (a_1, σ_1, τ_1) => if a_1 = (-1) then (some (.inr 2, σ_1, τ_1)) else ((fX7_ownerOf 3 n a_1 σ_1 τ_1).bind fun (a_3, σ_3, τ_3) => if a_3 = (-1) then ((fX7_ownerOf 4 n a_1 σ_3 τ_3).bind fun (a_5, σ_5, τ_5) => if a_5 = (-1) then ((fX0_build a_1 p3 σ_5 τ_5).bind fun (a_7, σ_7, τ_7) => if jp_isb a_7 = true then some (.inl a_7, σ_7, τ_7) else none) else (bX7_wall_62 n nc σ_5 τ_5)) else (bX7_wall_62 n nc σ_3 τ_3))
set_option maxHeartbeats 4000000 in
set_option maxRecDepth 20000 in
theorem ctX7_wall {l : Launch} {Γ : jp_G} {Z : Nat → Option jp_Sh} {n : Nat} {nc : Nat} (hX0 : jp_hC Z n nc) (hst : l.stackTraces = false) {p1 : Int32} {p2 : Int32} {p3 : Int32} {σ σ0 : jp_I} {τ τ0 : jp_J} {r0 : (Sum Int32 Nat)} (hf : fX7_wall n nc p1 p2 p3 σ τ = some (r0, σ0, τ0)) : jp_X l yX7_wall cX7_wall 5 (some .boolean) 7 113 1 6 Γ Z σ τ [.ref (Γ.2.2.1 0), .int p1, .int p2, .int p3] r0 σ0 τ0 := by
  refine jp_mkX (lv := [(0, .ref (Γ.2.2.1 0)), (1, .int p1), (2, .int p2), (3, .int p3)]) (by decide) (Nat.le_of_ble_eq_true rfl) rfl fun p e s m args below meth c B hT => ?_
  obtain ⟨hx, hb, hml, hown, hts, hr, hlk, hE⟩ := id B
  unfold fX7_wall at hf
  intro H locs ls hP hS hl
  refine lv_aload_n hx hb dX7_wall_0 rfl (lv_at hl 0 rfl) ?_
  refine jp_getr (k := 1) B hP hX0.1 rfl rfl (by decide) jp_fX7 rfl mw_28 dX7_wall_1 ?_
  refine jp_getrN (k := 1) B hP hX0.2.1.1 rfl rfl (by decide) jp_fX5 rfl nw_141 dX7_wall_4 ?_
  refine lv_iload_n hx hb dX7_wall_7 rfl (lv_at hl 1 rfl) ?_
  refine lv_iload_n hx hb dX7_wall_8 rfl (lv_at hl 2 rfl) ?_
  obtain ⟨⟨a_1, σ_1, τ_1⟩, h_1, hf⟩ := jp_bind hf
  dsimp only at hf
  refine jp_callVN (rest := []) B hP hS hl (ctX0_cellAt ⟨hX0.2.1.2.2.2.1, hX0.2.1.2.2.2.2.1, hX0.2.1.2.2.2.2.2.1, hX0.2.1.2.2.2.2.2.2.1, hX0.2.1.2.2.2.2.2.2.2⟩ h_1) hX0.2.1.2.2.2.1 rfl mw_89 nw_430 mw_87 mw_88 mw_49 ddX0_cellAt ⟨Nat.le_of_ble_eq_true rfl, Nat.le_of_ble_eq_true rfl⟩ ⟨Nat.le_of_ble_eq_true rfl, Nat.le_of_ble_eq_true rfl⟩ rfl (Nat.le_of_ble_eq_true rfl) dX7_wall_9 (fun H locs hP hS => ?_)
  refine lv_istore (lv' := [(4, .int a_1), (0, .ref (Γ.2.2.1 0)), (1, .int p1), (2, .int p2), (3, .int p3)]) hx hb dX7_wall_12 hl (by decide) rfl (fun ls hl => ?_)
  refine lv_iload hx hb dX7_wall_14 (lv_at hl 0 rfl) ?_
  refine lv_iconst (v := -1) hx hb dX7_wall_16 (by decide) ?_
  refine lv_icmp_ne (tgt := 30) hx hb dX7_wall_17 (by decide) (fun c_2 => ?_) (fun c_2 => ?_)
  · rw [if_neg c_2] at hf
    refine lv_aload_n hx hb dX7_wall_30 rfl (lv_at hl 1 rfl) ?_
    refine jp_getr (k := 1) B hP hX0.1 rfl rfl (by decide) jp_fX7 rfl mw_28 dX7_wall_31 ?_
    refine jp_getrN (k := 2) B hP hX0.2.1.1 rfl rfl (by decide) jp_fX5 rfl nw_146 dX7_wall_34 ?_
    refine lv_iload hx hb dX7_wall_37 (lv_at hl 0 rfl) ?_
    obtain ⟨⟨a_3, σ_3, τ_3⟩, h_3, hf⟩ := jp_bind hf
    dsimp only at hf
    refine jp_callS (rest := []) B hP hS hl (ctX7_ownerOf hX0.2.1.2.1 h_3) mw_194 mw_192 mw_193 mw_2 ddX7_ownerOf ⟨Nat.le_of_ble_eq_true rfl, Nat.le_of_ble_eq_true rfl⟩ ⟨Nat.le_of_ble_eq_true rfl, Nat.le_of_ble_eq_true rfl⟩ rfl (Nat.le_of_ble_eq_true rfl) dX7_wall_39 (fun H locs hP hS => ?_)
    refine lv_iconst (v := -1) hx hb dX7_wall_42 (by decide) ?_
    refine lv_icmp_ne (tgt := 62) hx hb dX7_wall_43 (by decide) (fun c_4 => ?_) (fun c_4 => ?_)
    · rw [if_neg c_4] at hf
      exact wbX7_wall_62 B hX0 hst hT hf H locs ls hP hS (lv_sub hl [] rfl)
    · rw [if_pos c_4] at hf
      refine lv_aload_n hx hb dX7_wall_46 rfl (lv_at hl 1 rfl) ?_
      refine jp_getr (k := 1) B hP hX0.1 rfl rfl (by decide) jp_fX7 rfl mw_28 dX7_wall_47 ?_
      refine jp_getrN (k := 3) B hP hX0.2.1.1 rfl rfl (by decide) jp_fX5 rfl nw_150 dX7_wall_50 ?_
      refine lv_iload hx hb dX7_wall_53 (lv_at hl 0 rfl) ?_
      obtain ⟨⟨a_5, σ_5, τ_5⟩, h_5, hf⟩ := jp_bind hf
      dsimp only at hf
      refine jp_callS (rest := []) B hP hS hl (ctX7_ownerOf hX0.2.1.2.2.1 h_5) mw_194 mw_192 mw_193 mw_2 ddX7_ownerOf ⟨Nat.le_of_ble_eq_true rfl, Nat.le_of_ble_eq_true rfl⟩ ⟨Nat.le_of_ble_eq_true rfl, Nat.le_of_ble_eq_true rfl⟩ rfl (Nat.le_of_ble_eq_true rfl) dX7_wall_55 (fun H locs hP hS => ?_)
      refine lv_iconst (v := -1) hx hb dX7_wall_58 (by decide) ?_
      refine lv_icmp_eq (tgt := 72) hx hb dX7_wall_59 (by decide) (fun c_6 => ?_) (fun c_6 => ?_)
      · rw [if_pos c_6] at hf
        refine lv_aload_n hx hb dX7_wall_72 rfl (lv_at hl 1 rfl) ?_
        refine jp_getr (k := 1) B hP hX0.1 rfl rfl (by decide) jp_fX7 rfl mw_28 dX7_wall_73 ?_
        refine jp_getrN (k := 1) B hP hX0.2.1.1 rfl rfl (by decide) jp_fX5 rfl nw_141 dX7_wall_76 ?_
        refine lv_iload hx hb dX7_wall_79 (lv_at hl 0 rfl) ?_
        refine lv_iload_n hx hb dX7_wall_81 rfl (lv_at hl 4 rfl) ?_
        obtain ⟨⟨a_7, σ_7, τ_7⟩, h_7, hf⟩ := jp_bind hf
        dsimp only at hf
        refine jp_callVN (rest := []) B hP hS hl (ctX0_build ⟨hX0.2.1.2.2.2.1, hX0.2.1.2.2.2.2.1, hX0.2.1.2.2.2.2.2.1, hX0.2.1.2.2.2.2.2.2.1, hX0.2.1.2.2.2.2.2.2.2⟩ h_7) hX0.2.1.2.2.2.1 rfl mw_197 nw_471 mw_195 mw_196 mw_49 ddX0_build ⟨Nat.le_of_ble_eq_true rfl, Nat.le_of_ble_eq_true rfl⟩ ⟨Nat.le_of_ble_eq_true rfl, Nat.le_of_ble_eq_true rfl⟩ rfl (Nat.le_of_ble_eq_true rfl) dX7_wall_82 (fun H locs hP hS => ?_)
        obtain ⟨g_8, hf⟩ := jp_if hf
        exact jp_endzX B hP hS (Nat.le_of_ble_eq_true rfl) (Nat.le_of_ble_eq_true rfl) g_8 dX7_wall_85 (jp_injX hf)
      · rw [if_neg c_6] at hf
        exact wbX7_wall_62 B hX0 hst hT hf H locs ls hP hS (lv_sub hl [] rfl)
  · rw [if_pos c_2] at hf
    exact jp_throw 2 (by decide) B hT hst hP hS hl (text := "no such cell") (sid := 51) (by decide) dX7_wall_20 dX7_wall_23 dX7_wall_24 dX7_wall_26 dX7_wall_29 (Nat.le_of_ble_eq_true rfl) (Nat.le_of_ble_eq_true rfl) (Nat.le_of_ble_eq_true rfl) (Nat.le_of_ble_eq_true rfl) (Nat.le_of_ble_eq_true rfl) (Nat.le_of_ble_eq_true rfl) (jp_injX hf)
end
-- X7_seed
section
variable {p : Program} {l : Launch} {e : Jvm.Env} {s : State} {m : MethodId} {args : Array Value} {below : List Frame} {meth : Method} {c : Code} {Γ : jp_G} {Z : Nat → Option jp_Sh} {r0 : (Sum Int32 Nat)} {σ0 : jp_I} {τ0 : jp_J}
def fX7_seed (n : Nat) (nc : Nat) (p1 : Int32) (σ : jp_I) (τ : jp_J) : Option ((Sum Int32 Nat) × jp_I × jp_J) :=
  if 0 ≤ p1 then (some (.inl 0, σ, jp_upl τ 9 1 p1.toInt64)) else (some (.inr 0, σ, τ))
set_option maxHeartbeats 4000000 in
set_option maxRecDepth 20000 in
theorem ctX7_seed {l : Launch} {Γ : jp_G} {Z : Nat → Option jp_Sh} {n : Nat} {nc : Nat} (hX0 : jp_hC Z n nc) (hst : l.stackTraces = false) {p1 : Int32} {σ σ0 : jp_I} {τ τ0 : jp_J} {r0 : (Sum Int32 Nat)} (hf : fX7_seed n nc p1 σ τ = some (r0, σ0, τ0)) : jp_X l yX7_seed cX7_seed 2 none 6 82 1 6 Γ Z σ τ [.ref (Γ.2.2.1 0), .int p1] r0 σ0 τ0 := by
  refine jp_mkX (lv := [(0, .ref (Γ.2.2.1 0)), (1, .int p1)]) (by decide) (Nat.le_of_ble_eq_true rfl) rfl fun p e s m args below meth c B hT => ?_
  obtain ⟨hx, hb, hml, hown, hts, hr, hlk, hE⟩ := id B
  unfold fX7_seed at hf
  intro H locs ls hP hS hl
  refine lv_iload_n hx hb dX7_seed_0 rfl (lv_at hl 1 rfl) ?_
  refine lv_if_ge (tgt := 14) hx hb dX7_seed_1 (by decide) (fun c_1 => ?_) (fun c_1 => ?_)
  · rw [if_pos c_1] at hf
    refine lv_aload_n hx hb dX7_seed_14 rfl (lv_at hl 0 rfl) ?_
    refine jp_getr (k := 2) B hP hX0.1 rfl rfl (by decide) jp_fX7 rfl mw_32 dX7_seed_15 ?_
    refine lv_iload_n hx hb dX7_seed_18 rfl (lv_at hl 1 rfl) ?_
    refine lv_i2l hx hb dX7_seed_19 rfl ?_
    refine jp_putlN (k := 1) B hP hS hX0.2.2.1.1 rfl rfl (by decide) jp_fX6 tyX6 tyX6_ok nmX6 rfl nw_214 rfl (by decide +kernel) dX7_seed_20 (fun H locs hP hS => ?_)
    exact jp_endvX B hP hS (Nat.le_of_ble_eq_true rfl) (Nat.le_of_ble_eq_true rfl) dX7_seed_23 (jp_injX hf)
  · rw [if_neg c_1] at hf
    exact jp_throw 0 (by decide) B hT hst hP hS hl (text := "a seed is 0 at least") (sid := 55) (by decide) dX7_seed_4 dX7_seed_7 dX7_seed_8 dX7_seed_10 dX7_seed_13 (Nat.le_of_ble_eq_true rfl) (Nat.le_of_ble_eq_true rfl) (Nat.le_of_ble_eq_true rfl) (Nat.le_of_ble_eq_true rfl) (Nat.le_of_ble_eq_true rfl) (Nat.le_of_ble_eq_true rfl) (jp_injX hf)
end
-- X7_start
section
variable {p : Program} {l : Launch} {e : Jvm.Env} {s : State} {m : MethodId} {args : Array Value} {below : List Frame} {meth : Method} {c : Code} {Γ : jp_G} {Z : Nat → Option jp_Sh} {r0 : (Sum Int32 Nat)} {σ0 : jp_I} {τ0 : jp_J}
def fX7_start (n : Nat) (nc : Nat) (p1 : Int32) (p2 : Int32) (p3 : Int32) (σ : jp_I) (τ : jp_J) : Option ((Sum Int32 Nat) × jp_I × jp_J) :=
  (fX7_settle n nc 3 n p1 p2 p3 σ τ).bind fun (o_1, σ_1, τ_1) => match o_1 with
    | .inl a_1 => (if jp_isb a_1 = true then some (.inl a_1, σ_1, τ_1) else none)
    | .inr k_1 => some (.inr k_1, σ_1, τ_1)
set_option maxHeartbeats 4000000 in
set_option maxRecDepth 20000 in
theorem ctX7_start {l : Launch} {Γ : jp_G} {Z : Nat → Option jp_Sh} {n : Nat} {nc : Nat} (hX0 : jp_hC Z n nc) (hst : l.stackTraces = false) {p1 : Int32} {p2 : Int32} {p3 : Int32} {σ σ0 : jp_I} {τ τ0 : jp_J} {r0 : (Sum Int32 Nat)} (hf : fX7_start n nc p1 p2 p3 σ τ = some (r0, σ0, τ0)) : jp_X l yX7_start cX7_start 4 (some .boolean) 8 129 2 12 Γ Z σ τ [.ref (Γ.2.2.1 0), .int p1, .int p2, .int p3] r0 σ0 τ0 := by
  refine jp_mkX (lv := [(0, .ref (Γ.2.2.1 0)), (1, .int p1), (2, .int p2), (3, .int p3)]) (by decide) (Nat.le_of_ble_eq_true rfl) rfl fun p e s m args below meth c B hT => ?_
  obtain ⟨hx, hb, hml, hown, hts, hr, hlk, hE⟩ := id B
  unfold fX7_start at hf
  intro H locs ls hP hS hl
  refine lv_aload_n hx hb dX7_start_0 rfl (lv_at hl 0 rfl) ?_
  refine lv_aload_n hx hb dX7_start_1 rfl (lv_at hl 0 rfl) ?_
  refine jp_getr (k := 1) B hP hX0.1 rfl rfl (by decide) jp_fX7 rfl mw_28 dX7_start_2 ?_
  refine jp_getrN (k := 2) B hP hX0.2.1.1 rfl rfl (by decide) jp_fX5 rfl nw_146 dX7_start_5 ?_
  refine lv_iload_n hx hb dX7_start_8 rfl (lv_at hl 1 rfl) ?_
  refine lv_iload_n hx hb dX7_start_9 rfl (lv_at hl 2 rfl) ?_
  refine lv_iload_n hx hb dX7_start_10 rfl (lv_at hl 3 rfl) ?_
  obtain ⟨⟨o_1, σ_1, τ_1⟩, h_1, hf⟩ := jp_bind hf
  dsimp only at hf
  refine jp_callVX (rest := []) B hT hP hS hl (ctX7_settle ⟨hX0.1, ⟨hX0.2.1.1, hX0.2.1.2.1, hX0.2.1.2.2.1, ⟨hX0.2.1.2.2.2.1, hX0.2.1.2.2.2.2.1, hX0.2.1.2.2.2.2.2.1, hX0.2.1.2.2.2.2.2.2.1, hX0.2.1.2.2.2.2.2.2.2⟩⟩, ⟨hX0.2.2.1.1, hX0.2.2.1.2⟩, ⟨hX0.2.2.2.1, hX0.2.2.2.2⟩⟩ hX0.2.1.2.1 hst h_1) hX0.1 rfl mw_220 mw_217 mw_218 mw_219 mw_2 ddX7_settle ⟨Nat.le_of_ble_eq_true rfl, Nat.le_of_ble_eq_true rfl⟩ ⟨Nat.le_of_ble_eq_true rfl, Nat.le_of_ble_eq_true rfl⟩ ⟨Nat.le_of_ble_eq_true rfl, Nat.le_of_ble_eq_true rfl⟩ rfl (Nat.le_of_ble_eq_true rfl) dX7_start_11 (fun k_1 e_1 => ?_) (fun a_1 e_1 H locs hP hS => ?_)
  · subst e_1
    dsimp only at hf
    exact jp_injX hf
  · subst e_1
    dsimp only at hf
    obtain ⟨g_2, hf⟩ := jp_if hf
    exact jp_endzX B hP hS (Nat.le_of_ble_eq_true rfl) (Nat.le_of_ble_eq_true rfl) g_2 dX7_start_14 (jp_injX hf)
end
-- X7_end
section
variable {p : Program} {l : Launch} {e : Jvm.Env} {s : State} {m : MethodId} {args : Array Value} {below : List Frame} {meth : Method} {c : Code} {Γ : jp_G} {Z : Nat → Option jp_Sh} {r0 : (Sum Int32 Nat)} {σ0 : jp_I} {τ0 : jp_J}
def fX7_end (n : Nat) (nc : Nat) (p1 : Int32) (p2 : Int32) (p3 : Int32) (σ : jp_I) (τ : jp_J) : Option ((Sum Int32 Nat) × jp_I × jp_J) :=
  (fX7_settle n nc 4 n p1 p2 p3 σ τ).bind fun (o_1, σ_1, τ_1) => match o_1 with
    | .inl a_1 => (if jp_isb a_1 = true then some (.inl a_1, σ_1, τ_1) else none)
    | .inr k_1 => some (.inr k_1, σ_1, τ_1)
set_option maxHeartbeats 4000000 in
set_option maxRecDepth 20000 in
theorem ctX7_end {l : Launch} {Γ : jp_G} {Z : Nat → Option jp_Sh} {n : Nat} {nc : Nat} (hX0 : jp_hC Z n nc) (hst : l.stackTraces = false) {p1 : Int32} {p2 : Int32} {p3 : Int32} {σ σ0 : jp_I} {τ τ0 : jp_J} {r0 : (Sum Int32 Nat)} (hf : fX7_end n nc p1 p2 p3 σ τ = some (r0, σ0, τ0)) : jp_X l yX7_end cX7_end 4 (some .boolean) 8 129 2 12 Γ Z σ τ [.ref (Γ.2.2.1 0), .int p1, .int p2, .int p3] r0 σ0 τ0 := by
  refine jp_mkX (lv := [(0, .ref (Γ.2.2.1 0)), (1, .int p1), (2, .int p2), (3, .int p3)]) (by decide) (Nat.le_of_ble_eq_true rfl) rfl fun p e s m args below meth c B hT => ?_
  obtain ⟨hx, hb, hml, hown, hts, hr, hlk, hE⟩ := id B
  unfold fX7_end at hf
  intro H locs ls hP hS hl
  refine lv_aload_n hx hb dX7_end_0 rfl (lv_at hl 0 rfl) ?_
  refine lv_aload_n hx hb dX7_end_1 rfl (lv_at hl 0 rfl) ?_
  refine jp_getr (k := 1) B hP hX0.1 rfl rfl (by decide) jp_fX7 rfl mw_28 dX7_end_2 ?_
  refine jp_getrN (k := 3) B hP hX0.2.1.1 rfl rfl (by decide) jp_fX5 rfl nw_150 dX7_end_5 ?_
  refine lv_iload_n hx hb dX7_end_8 rfl (lv_at hl 1 rfl) ?_
  refine lv_iload_n hx hb dX7_end_9 rfl (lv_at hl 2 rfl) ?_
  refine lv_iload_n hx hb dX7_end_10 rfl (lv_at hl 3 rfl) ?_
  obtain ⟨⟨o_1, σ_1, τ_1⟩, h_1, hf⟩ := jp_bind hf
  dsimp only at hf
  refine jp_callVX (rest := []) B hT hP hS hl (ctX7_settle ⟨hX0.1, ⟨hX0.2.1.1, hX0.2.1.2.1, hX0.2.1.2.2.1, ⟨hX0.2.1.2.2.2.1, hX0.2.1.2.2.2.2.1, hX0.2.1.2.2.2.2.2.1, hX0.2.1.2.2.2.2.2.2.1, hX0.2.1.2.2.2.2.2.2.2⟩⟩, ⟨hX0.2.2.1.1, hX0.2.2.1.2⟩, ⟨hX0.2.2.2.1, hX0.2.2.2.2⟩⟩ hX0.2.1.2.2.1 hst h_1) hX0.1 rfl mw_220 mw_217 mw_218 mw_219 mw_2 ddX7_settle ⟨Nat.le_of_ble_eq_true rfl, Nat.le_of_ble_eq_true rfl⟩ ⟨Nat.le_of_ble_eq_true rfl, Nat.le_of_ble_eq_true rfl⟩ ⟨Nat.le_of_ble_eq_true rfl, Nat.le_of_ble_eq_true rfl⟩ rfl (Nat.le_of_ble_eq_true rfl) dX7_end_11 (fun k_1 e_1 => ?_) (fun a_1 e_1 H locs hP hS => ?_)
  · subst e_1
    dsimp only at hf
    exact jp_injX hf
  · subst e_1
    dsimp only at hf
    obtain ⟨g_2, hf⟩ := jp_if hf
    exact jp_endzX B hP hS (Nat.le_of_ble_eq_true rfl) (Nat.le_of_ble_eq_true rfl) g_2 dX7_end_14 (jp_injX hf)
end
-- X7_at
section
variable {p : Program} {l : Launch} {e : Jvm.Env} {s : State} {m : MethodId} {args : Array Value} {below : List Frame} {meth : Method} {c : Code} {Γ : jp_G} {Z : Nat → Option jp_Sh} {r0 : (Sum Int32 Nat)} {σ0 : jp_I} {τ0 : jp_J}
def bX7_at_18 (n : Nat) (nc : Nat) (σ : jp_I) (τ : jp_J) : Option ((Sum Int32 Nat) × jp_I × jp_J) :=
  some (.inr 0, σ, τ)
set_option maxHeartbeats 4000000 in
set_option maxRecDepth 20000 in
theorem wbX7_at_18 (B : jp_B Γ p s m args meth c RX7 cX7_at 5 (some .int)) {n : Nat} {nc : Nat} (hX0 : jp_hC Z n nc) (hst : l.stackTraces = false) (hT : ∀ x ∈ c.exceptionTable.toList, False) {σ : jp_I} {τ : jp_J} (hf : bX7_at_18 n nc σ τ = some (r0, σ0, τ0)) : jp_atc p l e (jp_RX 7 103 2 12) s m args below meth c (vx_MQ below (jp_XQ Γ Z (some .int) r0 σ0 τ0) (jp_XX Γ Z r0 σ0 τ0) args s 2 12 (jp_A Γ)) 5 Γ Z 1 6 18 [] [] σ τ := by
  obtain ⟨hx, hb, hml, hown, hts, hr, hlk, hE⟩ := id B
  unfold bX7_at_18 at hf
  intro H locs ls hP hS hl
  exact jp_throw 0 (by decide) B hT hst hP hS hl (text := "t is 0 at least, axis 0 or 1") (sid := 58) (by decide) dX7_at_18 dX7_at_21 dX7_at_22 dX7_at_24 dX7_at_27 (Nat.le_of_ble_eq_true rfl) (Nat.le_of_ble_eq_true rfl) (Nat.le_of_ble_eq_true rfl) (Nat.le_of_ble_eq_true rfl) (Nat.le_of_ble_eq_true rfl) (Nat.le_of_ble_eq_true rfl) (jp_injX hf)
def fX7_at (n : Nat) (nc : Nat) (p1 : Int32) (p2 : Int32) (p3 : Int32) (σ : jp_I) (τ : jp_J) : Option ((Sum Int32 Nat) × jp_I × jp_J) :=
  (fX7_needRobot n nc p1 σ τ).bind fun (o_1, σ_1, τ_1) => match o_1 with
    | .inl _a_1 => (if p2 < 0 then (bX7_at_18 n nc σ_1 τ_1) else (if p3 < 0 then (bX7_at_18 n nc σ_1 τ_1) else (if p3 ≤ 1 then ((fX7_needPlan n nc σ_1 τ_1).bind fun (o_5, σ_5, τ_5) => match o_5 with
    | .inl _a_5 => ((fX2_cellOf 11 12 nc p1 (if (σ_5 11 2) < p2 then (σ_5 11 2) else p2) σ_5 τ_5).bind fun (a_6, σ_6, τ_6) => if p3 = 0 then (some (.inl (a_6 - a_6 / 6 * 6), σ_6, τ_6)) else (some (.inl (a_6 / 6), σ_6, τ_6)))
    | .inr k_5 => some (.inr k_5, σ_5, τ_5)) else (bX7_at_18 n nc σ_1 τ_1))))
    | .inr k_1 => some (.inr k_1, σ_1, τ_1)
set_option maxHeartbeats 4000000 in
set_option maxRecDepth 20000 in
theorem ctX7_at {l : Launch} {Γ : jp_G} {Z : Nat → Option jp_Sh} {n : Nat} {nc : Nat} (hX0 : jp_hC Z n nc) (hst : l.stackTraces = false) {p1 : Int32} {p2 : Int32} {p3 : Int32} {σ σ0 : jp_I} {τ τ0 : jp_J} {r0 : (Sum Int32 Nat)} (hf : fX7_at n nc p1 p2 p3 σ τ = some (r0, σ0, τ0)) : jp_X l yX7_at cX7_at 5 (some .int) 7 103 2 12 Γ Z σ τ [.ref (Γ.2.2.1 0), .int p1, .int p2, .int p3] r0 σ0 τ0 := by
  refine jp_mkX (lv := [(0, .ref (Γ.2.2.1 0)), (1, .int p1), (2, .int p2), (3, .int p3)]) (by decide) (Nat.le_of_ble_eq_true rfl) rfl fun p e s m args below meth c B hT => ?_
  obtain ⟨hx, hb, hml, hown, hts, hr, hlk, hE⟩ := id B
  unfold fX7_at at hf
  intro H locs ls hP hS hl
  refine lv_aload_n hx hb dX7_at_0 rfl (lv_at hl 0 rfl) ?_
  refine lv_iload_n hx hb dX7_at_1 rfl (lv_at hl 1 rfl) ?_
  obtain ⟨⟨o_1, σ_1, τ_1⟩, h_1, hf⟩ := jp_bind hf
  dsimp only at hf
  refine jp_callVX (rest := []) B hT hP hS hl (ctX7_needRobot ⟨hX0.1, ⟨hX0.2.1.1, hX0.2.1.2.1, hX0.2.1.2.2.1, ⟨hX0.2.1.2.2.2.1, hX0.2.1.2.2.2.2.1, hX0.2.1.2.2.2.2.2.1, hX0.2.1.2.2.2.2.2.2.1, hX0.2.1.2.2.2.2.2.2.2⟩⟩, ⟨hX0.2.2.1.1, hX0.2.2.1.2⟩, ⟨hX0.2.2.2.1, hX0.2.2.2.2⟩⟩ hst h_1) hX0.1 rfl mw_224 mw_221 mw_222 mw_223 mw_2 ddX7_needRobot ⟨Nat.le_of_ble_eq_true rfl, Nat.le_of_ble_eq_true rfl⟩ ⟨Nat.le_of_ble_eq_true rfl, Nat.le_of_ble_eq_true rfl⟩ ⟨Nat.le_of_ble_eq_true rfl, Nat.le_of_ble_eq_true rfl⟩ rfl (Nat.le_of_ble_eq_true rfl) dX7_at_2 (fun k_1 e_1 => ?_) (fun a_1 e_1 H locs hP hS => ?_)
  · subst e_1
    dsimp only at hf
    exact jp_injX hf
  · subst e_1
    dsimp only at hf
    refine lv_iload_n hx hb dX7_at_5 rfl (lv_at hl 2 rfl) ?_
    refine lv_if_lt (tgt := 18) hx hb dX7_at_6 (by decide) (fun c_2 => ?_) (fun c_2 => ?_)
    · rw [if_pos c_2] at hf
      exact wbX7_at_18 B hX0 hst hT hf H locs ls hP hS (lv_sub hl [] rfl)
    · rw [if_neg c_2] at hf
      refine lv_iload_n hx hb dX7_at_9 rfl (lv_at hl 3 rfl) ?_
      refine lv_if_lt (tgt := 18) hx hb dX7_at_10 (by decide) (fun c_3 => ?_) (fun c_3 => ?_)
      · rw [if_pos c_3] at hf
        exact wbX7_at_18 B hX0 hst hT hf H locs ls hP hS (lv_sub hl [] rfl)
      · rw [if_neg c_3] at hf
        refine lv_iload_n hx hb dX7_at_13 rfl (lv_at hl 3 rfl) ?_
        refine lv_iconst (v := 1) hx hb dX7_at_14 (by decide) ?_
        refine lv_icmp_le (tgt := 28) hx hb dX7_at_15 (by decide) (fun c_4 => ?_) (fun c_4 => ?_)
        · rw [if_pos c_4] at hf
          refine lv_aload_n hx hb dX7_at_28 rfl (lv_at hl 0 rfl) ?_
          obtain ⟨⟨o_5, σ_5, τ_5⟩, h_5, hf⟩ := jp_bind hf
          dsimp only at hf
          refine jp_callVX (rest := []) B hT hP hS hl (ctX7_needPlan ⟨hX0.1, ⟨hX0.2.1.1, hX0.2.1.2.1, hX0.2.1.2.2.1, ⟨hX0.2.1.2.2.2.1, hX0.2.1.2.2.2.2.1, hX0.2.1.2.2.2.2.2.1, hX0.2.1.2.2.2.2.2.2.1, hX0.2.1.2.2.2.2.2.2.2⟩⟩, ⟨hX0.2.2.1.1, hX0.2.2.1.2⟩, ⟨hX0.2.2.2.1, hX0.2.2.2.2⟩⟩ hst h_5) hX0.1 rfl mw_488 mw_485 mw_486 mw_487 mw_2 ddX7_needPlan ⟨Nat.le_of_ble_eq_true rfl, Nat.le_of_ble_eq_true rfl⟩ ⟨Nat.le_of_ble_eq_true rfl, Nat.le_of_ble_eq_true rfl⟩ ⟨Nat.le_of_ble_eq_true rfl, Nat.le_of_ble_eq_true rfl⟩ rfl (Nat.le_of_ble_eq_true rfl) dX7_at_29 (fun k_5 e_5 => ?_) (fun a_5 e_5 H locs hP hS => ?_)
          · subst e_5
            dsimp only at hf
            exact jp_injX hf
          · subst e_5
            dsimp only at hf
            refine lv_aload_n hx hb dX7_at_32 rfl (lv_at hl 0 rfl) ?_
            refine jp_getr (k := 4) B hP hX0.1 rfl rfl (by decide) jp_fX7 rfl mw_43 dX7_at_33 ?_
            refine lv_iload_n hx hb dX7_at_36 rfl (lv_at hl 1 rfl) ?_
            refine lv_iload_n hx hb dX7_at_37 rfl (lv_at hl 2 rfl) ?_
            refine lv_aload_n hx hb dX7_at_38 rfl (lv_at hl 0 rfl) ?_
            refine jp_getr (k := 4) B hP hX0.1 rfl rfl (by decide) jp_fX7 rfl mw_43 dX7_at_39 ?_
            refine jp_getiN (k := 2) B hP hX0.2.2.2.1 rfl rfl (by decide) jp_fX2 rfl nw_272 dX7_at_42 ?_
            refine va_mmin (rest := [.int p1, .ref (Γ.2.2.1 11)]) hx hb (hml.trans hl.1.symm) hown (hts _ mw_17) (hts _ mw_18) (hts _ mw_19) (hts _ mw_20) (by exact Nat.le_of_ble_eq_true rfl) (by exact Nat.le_of_ble_eq_true rfl) (by exact Nat.le_of_ble_eq_true rfl) (by exact Nat.le_of_ble_eq_true rfl) dX7_at_45 ?_
            obtain ⟨⟨a_6, σ_6, τ_6⟩, h_6, hf⟩ := jp_bind hf
            dsimp only at hf
            refine jp_callVN (rest := []) B hP hS hl (ctX2_cellOf ⟨hX0.2.2.2.1, hX0.2.2.2.2⟩ h_6) hX0.2.2.2.1 rfl mw_390 nw_689 mw_388 mw_389 mw_42 ddX2_cellOf ⟨Nat.le_of_ble_eq_true rfl, Nat.le_of_ble_eq_true rfl⟩ ⟨Nat.le_of_ble_eq_true rfl, Nat.le_of_ble_eq_true rfl⟩ rfl (Nat.le_of_ble_eq_true rfl) dX7_at_48 (fun H locs hP hS => ?_)
            refine lv_istore (lv' := [(4, .int a_6), (0, .ref (Γ.2.2.1 0)), (1, .int p1), (2, .int p2), (3, .int p3)]) hx hb dX7_at_51 hl (by decide) rfl (fun ls hl => ?_)
            refine lv_iload_n hx hb dX7_at_53 rfl (lv_at hl 4 rfl) ?_
            refine lv_if_ne (tgt := 65) hx hb dX7_at_54 (by decide) (fun c_7 => ?_) (fun c_7 => ?_)
            · rw [if_neg c_7] at hf
              refine lv_iload hx hb dX7_at_65 (lv_at hl 0 rfl) ?_
              refine lv_bipush (v := 6) hx hb dX7_at_67 (by decide) ?_
              refine lv_idiv hx hb dX7_at_69 (by decide) ?_
              exact jp_endiX B hP hS (Nat.le_of_ble_eq_true rfl) (Nat.le_of_ble_eq_true rfl) dX7_at_70 (jp_injX hf)
            · rw [if_pos c_7] at hf
              refine lv_iload hx hb dX7_at_57 (lv_at hl 0 rfl) ?_
              refine lv_bipush (v := 6) hx hb dX7_at_59 (by decide) ?_
              refine lv_irem hx hb dX7_at_61 (by decide) ?_
              refine lv_goto (tgt := 70) hx hb dX7_at_62 (by decide) ?_
              exact jp_endiX B hP hS (Nat.le_of_ble_eq_true rfl) (Nat.le_of_ble_eq_true rfl) dX7_at_70 (jp_injX hf)
        · rw [if_neg c_4] at hf
          exact wbX7_at_18 B hX0 hst hT hf H locs ls hP hS (lv_sub hl [] rfl)
end
-- X7_last
section
variable {p : Program} {l : Launch} {e : Jvm.Env} {s : State} {m : MethodId} {args : Array Value} {below : List Frame} {meth : Method} {c : Code} {Γ : jp_G} {Z : Nat → Option jp_Sh} {r0 : (Sum Int32 Nat)} {σ0 : jp_I} {τ0 : jp_J}
def fX7_last (n : Nat) (nc : Nat) (σ : jp_I) (τ : jp_J) : Option ((Sum Int32 Nat) × jp_I × jp_J) :=
  (fX7_needPlan n nc σ τ).bind fun (o_1, σ_1, τ_1) => match o_1 with
    | .inl _a_1 => (some (.inl (σ_1 11 2), σ_1, τ_1))
    | .inr k_1 => some (.inr k_1, σ_1, τ_1)
set_option maxHeartbeats 4000000 in
set_option maxRecDepth 20000 in
theorem ctX7_last {l : Launch} {Γ : jp_G} {Z : Nat → Option jp_Sh} {n : Nat} {nc : Nat} (hX0 : jp_hC Z n nc) (hst : l.stackTraces = false) {σ σ0 : jp_I} {τ τ0 : jp_J} {r0 : (Sum Int32 Nat)} (hf : fX7_last n nc σ τ = some (r0, σ0, τ0)) : jp_X l yX7_last cX7_last 1 (some .int) 7 102 1 6 Γ Z σ τ [.ref (Γ.2.2.1 0)] r0 σ0 τ0 := by
  refine jp_mkX (lv := [(0, .ref (Γ.2.2.1 0))]) (by decide) (Nat.le_of_ble_eq_true rfl) rfl fun p e s m args below meth c B hT => ?_
  obtain ⟨hx, hb, hml, hown, hts, hr, hlk, hE⟩ := id B
  unfold fX7_last at hf
  intro H locs ls hP hS hl
  refine lv_aload_n hx hb dX7_last_0 rfl (lv_at hl 0 rfl) ?_
  obtain ⟨⟨o_1, σ_1, τ_1⟩, h_1, hf⟩ := jp_bind hf
  dsimp only at hf
  refine jp_callVX (rest := []) B hT hP hS hl (ctX7_needPlan ⟨hX0.1, ⟨hX0.2.1.1, hX0.2.1.2.1, hX0.2.1.2.2.1, ⟨hX0.2.1.2.2.2.1, hX0.2.1.2.2.2.2.1, hX0.2.1.2.2.2.2.2.1, hX0.2.1.2.2.2.2.2.2.1, hX0.2.1.2.2.2.2.2.2.2⟩⟩, ⟨hX0.2.2.1.1, hX0.2.2.1.2⟩, ⟨hX0.2.2.2.1, hX0.2.2.2.2⟩⟩ hst h_1) hX0.1 rfl mw_488 mw_485 mw_486 mw_487 mw_2 ddX7_needPlan ⟨Nat.le_of_ble_eq_true rfl, Nat.le_of_ble_eq_true rfl⟩ ⟨Nat.le_of_ble_eq_true rfl, Nat.le_of_ble_eq_true rfl⟩ ⟨Nat.le_of_ble_eq_true rfl, Nat.le_of_ble_eq_true rfl⟩ rfl (Nat.le_of_ble_eq_true rfl) dX7_last_1 (fun k_1 e_1 => ?_) (fun a_1 e_1 H locs hP hS => ?_)
  · subst e_1
    dsimp only at hf
    exact jp_injX hf
  · subst e_1
    dsimp only at hf
    refine lv_aload_n hx hb dX7_last_4 rfl (lv_at hl 0 rfl) ?_
    refine jp_getr (k := 4) B hP hX0.1 rfl rfl (by decide) jp_fX7 rfl mw_43 dX7_last_5 ?_
    refine jp_getiN (k := 2) B hP hX0.2.2.2.1 rfl rfl (by decide) jp_fX2 rfl nw_272 dX7_last_8 ?_
    exact jp_endiX B hP hS (Nat.le_of_ble_eq_true rfl) (Nat.le_of_ble_eq_true rfl) dX7_last_11 (jp_injX hf)
end
-- X7_alone
section
variable {p : Program} {l : Launch} {e : Jvm.Env} {s : State} {m : MethodId} {args : Array Value} {below : List Frame} {meth : Method} {c : Code} {Γ : jp_G} {Z : Nat → Option jp_Sh} {r0 : (Sum Int32 Nat)} {σ0 : jp_I} {τ0 : jp_J}
def fX7_alone (n : Nat) (nc : Nat) (p1 : Int32) (σ : jp_I) (τ : jp_J) : Option ((Sum Int32 Nat) × jp_I × jp_J) :=
  (fX7_needRobot n nc p1 σ τ).bind fun (o_1, σ_1, τ_1) => match o_1 with
    | .inl _a_1 => ((fX5_isComplete n p1 σ_1 τ_1).bind fun (a_2, σ_2, τ_2) => if a_2 = 0 then (some (.inr 1, σ_2, τ_2)) else ((fX5_way n p1 σ_2 τ_2).bind fun (a_4, σ_4, τ_4) => some (.inl a_4, σ_4, τ_4)))
    | .inr k_1 => some (.inr k_1, σ_1, τ_1)
set_option maxHeartbeats 4000000 in
set_option maxRecDepth 20000 in
theorem ctX7_alone {l : Launch} {Γ : jp_G} {Z : Nat → Option jp_Sh} {n : Nat} {nc : Nat} (hX0 : jp_hC Z n nc) (hst : l.stackTraces = false) {p1 : Int32} {σ σ0 : jp_I} {τ τ0 : jp_J} {r0 : (Sum Int32 Nat)} (hf : fX7_alone n nc p1 σ τ = some (r0, σ0, τ0)) : jp_X l yX7_alone cX7_alone 2 (some .int) 7 113 2 12 Γ Z σ τ [.ref (Γ.2.2.1 0), .int p1] r0 σ0 τ0 := by
  refine jp_mkX (lv := [(0, .ref (Γ.2.2.1 0)), (1, .int p1)]) (by decide) (Nat.le_of_ble_eq_true rfl) rfl fun p e s m args below meth c B hT => ?_
  obtain ⟨hx, hb, hml, hown, hts, hr, hlk, hE⟩ := id B
  unfold fX7_alone at hf
  intro H locs ls hP hS hl
  refine lv_aload_n hx hb dX7_alone_0 rfl (lv_at hl 0 rfl) ?_
  refine lv_iload_n hx hb dX7_alone_1 rfl (lv_at hl 1 rfl) ?_
  obtain ⟨⟨o_1, σ_1, τ_1⟩, h_1, hf⟩ := jp_bind hf
  dsimp only at hf
  refine jp_callVX (rest := []) B hT hP hS hl (ctX7_needRobot ⟨hX0.1, ⟨hX0.2.1.1, hX0.2.1.2.1, hX0.2.1.2.2.1, ⟨hX0.2.1.2.2.2.1, hX0.2.1.2.2.2.2.1, hX0.2.1.2.2.2.2.2.1, hX0.2.1.2.2.2.2.2.2.1, hX0.2.1.2.2.2.2.2.2.2⟩⟩, ⟨hX0.2.2.1.1, hX0.2.2.1.2⟩, ⟨hX0.2.2.2.1, hX0.2.2.2.2⟩⟩ hst h_1) hX0.1 rfl mw_224 mw_221 mw_222 mw_223 mw_2 ddX7_needRobot ⟨Nat.le_of_ble_eq_true rfl, Nat.le_of_ble_eq_true rfl⟩ ⟨Nat.le_of_ble_eq_true rfl, Nat.le_of_ble_eq_true rfl⟩ ⟨Nat.le_of_ble_eq_true rfl, Nat.le_of_ble_eq_true rfl⟩ rfl (Nat.le_of_ble_eq_true rfl) dX7_alone_2 (fun k_1 e_1 => ?_) (fun a_1 e_1 H locs hP hS => ?_)
  · subst e_1
    dsimp only at hf
    exact jp_injX hf
  · subst e_1
    dsimp only at hf
    refine lv_aload_n hx hb dX7_alone_5 rfl (lv_at hl 0 rfl) ?_
    refine jp_getr (k := 1) B hP hX0.1 rfl rfl (by decide) jp_fX7 rfl mw_28 dX7_alone_6 ?_
    refine lv_iload_n hx hb dX7_alone_9 rfl (lv_at hl 1 rfl) ?_
    obtain ⟨⟨a_2, σ_2, τ_2⟩, h_2, hf⟩ := jp_bind hf
    dsimp only at hf
    refine jp_callVN (rest := []) B hP hS hl (ctX5_isComplete ⟨hX0.2.1.1, hX0.2.1.2.1, hX0.2.1.2.2.1, ⟨hX0.2.1.2.2.2.1, hX0.2.1.2.2.2.2.1, hX0.2.1.2.2.2.2.2.1, hX0.2.1.2.2.2.2.2.2.1, hX0.2.1.2.2.2.2.2.2.2⟩⟩ h_2) hX0.2.1.1 rfl mw_277 nw_521 mw_275 mw_276 mw_27 ddX5_isComplete ⟨Nat.le_of_ble_eq_true rfl, Nat.le_of_ble_eq_true rfl⟩ ⟨Nat.le_of_ble_eq_true rfl, Nat.le_of_ble_eq_true rfl⟩ rfl (Nat.le_of_ble_eq_true rfl) dX7_alone_10 (fun H locs hP hS => ?_)
    refine lv_if_ne (tgt := 26) hx hb dX7_alone_13 (by decide) (fun c_3 => ?_) (fun c_3 => ?_)
    · rw [if_neg c_3] at hf
      refine lv_aload_n hx hb dX7_alone_26 rfl (lv_at hl 0 rfl) ?_
      refine jp_getr (k := 1) B hP hX0.1 rfl rfl (by decide) jp_fX7 rfl mw_28 dX7_alone_27 ?_
      refine lv_iload_n hx hb dX7_alone_30 rfl (lv_at hl 1 rfl) ?_
      obtain ⟨⟨a_4, σ_4, τ_4⟩, h_4, hf⟩ := jp_bind hf
      dsimp only at hf
      refine jp_callVN (rest := []) B hP hS hl (ctX5_way ⟨hX0.2.1.1, hX0.2.1.2.1, hX0.2.1.2.2.1, ⟨hX0.2.1.2.2.2.1, hX0.2.1.2.2.2.2.1, hX0.2.1.2.2.2.2.2.1, hX0.2.1.2.2.2.2.2.2.1, hX0.2.1.2.2.2.2.2.2.2⟩⟩ h_4) hX0.2.1.1 rfl mw_513 nw_705 mw_511 mw_512 mw_27 ddX5_way ⟨Nat.le_of_ble_eq_true rfl, Nat.le_of_ble_eq_true rfl⟩ ⟨Nat.le_of_ble_eq_true rfl, Nat.le_of_ble_eq_true rfl⟩ rfl (Nat.le_of_ble_eq_true rfl) dX7_alone_31 (fun H locs hP hS => ?_)
      exact jp_endiX B hP hS (Nat.le_of_ble_eq_true rfl) (Nat.le_of_ble_eq_true rfl) dX7_alone_34 (jp_injX hf)
    · rw [if_pos c_3] at hf
      exact jp_throw 1 (by decide) B hT hst hP hS hl (text := "the robot has no start or no end") (sid := 60) (by decide) dX7_alone_16 dX7_alone_19 dX7_alone_20 dX7_alone_22 dX7_alone_25 (Nat.le_of_ble_eq_true rfl) (Nat.le_of_ble_eq_true rfl) (Nat.le_of_ble_eq_true rfl) (Nat.le_of_ble_eq_true rfl) (Nat.le_of_ble_eq_true rfl) (Nat.le_of_ble_eq_true rfl) (jp_injX hf)
end
-- X7_bound
section
variable {p : Program} {l : Launch} {e : Jvm.Env} {s : State} {m : MethodId} {args : Array Value} {below : List Frame} {meth : Method} {c : Code} {Γ : jp_G} {Z : Nat → Option jp_Sh} {r0 : (Sum Int32 Nat)} {σ0 : jp_I} {τ0 : jp_J}
def fX7_bound (n : Nat) (nc : Nat) (σ : jp_I) (τ : jp_J) : Option ((Sum Int32 Nat) × jp_I × jp_J) :=
  (fX7_needComplete n nc σ τ).bind fun (o_1, σ_1, τ_1) => match o_1 with
    | .inl _a_1 => ((fX5_allWays n σ_1 τ_1).bind fun (a_2, σ_2, τ_2) => some (.inl a_2, σ_2, τ_2))
    | .inr k_1 => some (.inr k_1, σ_1, τ_1)
set_option maxHeartbeats 4000000 in
set_option maxRecDepth 20000 in
theorem ctX7_bound {l : Launch} {Γ : jp_G} {Z : Nat → Option jp_Sh} {n : Nat} {nc : Nat} (hX0 : jp_hC Z n nc) (hst : l.stackTraces = false) {σ σ0 : jp_I} {τ τ0 : jp_J} {r0 : (Sum Int32 Nat)} (hf : fX7_bound n nc σ τ = some (r0, σ0, τ0)) : jp_X l yX7_bound cX7_bound 1 (some .int) 7 136 1 6 Γ Z σ τ [.ref (Γ.2.2.1 0)] r0 σ0 τ0 := by
  refine jp_mkX (lv := [(0, .ref (Γ.2.2.1 0))]) (by decide) (Nat.le_of_ble_eq_true rfl) rfl fun p e s m args below meth c B hT => ?_
  obtain ⟨hx, hb, hml, hown, hts, hr, hlk, hE⟩ := id B
  unfold fX7_bound at hf
  intro H locs ls hP hS hl
  refine lv_aload_n hx hb dX7_bound_0 rfl (lv_at hl 0 rfl) ?_
  obtain ⟨⟨o_1, σ_1, τ_1⟩, h_1, hf⟩ := jp_bind hf
  dsimp only at hf
  refine jp_callVX (rest := []) B hT hP hS hl (ctX7_needComplete ⟨hX0.1, ⟨hX0.2.1.1, hX0.2.1.2.1, hX0.2.1.2.2.1, ⟨hX0.2.1.2.2.2.1, hX0.2.1.2.2.2.2.1, hX0.2.1.2.2.2.2.2.1, hX0.2.1.2.2.2.2.2.2.1, hX0.2.1.2.2.2.2.2.2.2⟩⟩, ⟨hX0.2.2.1.1, hX0.2.2.1.2⟩, ⟨hX0.2.2.2.1, hX0.2.2.2.2⟩⟩ hst h_1) hX0.1 rfl mw_274 mw_271 mw_272 mw_273 mw_2 ddX7_needComplete ⟨Nat.le_of_ble_eq_true rfl, Nat.le_of_ble_eq_true rfl⟩ ⟨Nat.le_of_ble_eq_true rfl, Nat.le_of_ble_eq_true rfl⟩ ⟨Nat.le_of_ble_eq_true rfl, Nat.le_of_ble_eq_true rfl⟩ rfl (Nat.le_of_ble_eq_true rfl) dX7_bound_1 (fun k_1 e_1 => ?_) (fun a_1 e_1 H locs hP hS => ?_)
  · subst e_1
    dsimp only at hf
    exact jp_injX hf
  · subst e_1
    dsimp only at hf
    refine lv_aload_n hx hb dX7_bound_4 rfl (lv_at hl 0 rfl) ?_
    refine jp_getr (k := 1) B hP hX0.1 rfl rfl (by decide) jp_fX7 rfl mw_28 dX7_bound_5 ?_
    obtain ⟨⟨a_2, σ_2, τ_2⟩, h_2, hf⟩ := jp_bind hf
    dsimp only at hf
    refine jp_callVN (rest := []) B hP hS hl (ctX5_allWays ⟨hX0.2.1.1, hX0.2.1.2.1, hX0.2.1.2.2.1, ⟨hX0.2.1.2.2.2.1, hX0.2.1.2.2.2.2.1, hX0.2.1.2.2.2.2.2.1, hX0.2.1.2.2.2.2.2.2.1, hX0.2.1.2.2.2.2.2.2.2⟩⟩ h_2) hX0.2.1.1 rfl mw_539 nw_725 mw_537 mw_538 mw_27 ddX5_allWays ⟨Nat.le_of_ble_eq_true rfl, Nat.le_of_ble_eq_true rfl⟩ ⟨Nat.le_of_ble_eq_true rfl, Nat.le_of_ble_eq_true rfl⟩ rfl (Nat.le_of_ble_eq_true rfl) dX7_bound_8 (fun H locs hP hS => ?_)
    exact jp_endiX B hP hS (Nat.le_of_ble_eq_true rfl) (Nat.le_of_ble_eq_true rfl) dX7_bound_11 (jp_injX hf)
end
-- X7_share
section
variable {p : Program} {l : Launch} {e : Jvm.Env} {s : State} {m : MethodId} {args : Array Value} {below : List Frame} {meth : Method} {c : Code} {Γ : jp_G} {Z : Nat → Option jp_Sh} {r0 : (Sum Int32 Nat)} {σ0 : jp_I} {τ0 : jp_J}
def fX7_share (n : Nat) (nc : Nat) (σ : jp_I) (τ : jp_J) : Option ((Sum Int32 Nat) × jp_I × jp_J) :=
  (fX7_needPlan n nc σ τ).bind fun (o_1, σ_1, τ_1) => match o_1 with
    | .inl _a_1 => ((fX7_needComplete n nc σ_1 τ_1).bind fun (o_2, σ_2, τ_2) => match o_2 with
    | .inl _a_2 => (if (σ_2 11 3) = 0 then (some (.inr 3, σ_2, τ_2)) else ((fX5_allWays n σ_2 τ_2).bind fun (a_4, σ_4, τ_4) => if (σ_2 11 3) = 0 then none else some (.inl ((100 * a_4) / (σ_2 11 3)), σ_4, τ_4)))
    | .inr k_2 => some (.inr k_2, σ_2, τ_2))
    | .inr k_1 => some (.inr k_1, σ_1, τ_1)
set_option maxHeartbeats 4000000 in
set_option maxRecDepth 20000 in
theorem ctX7_share {l : Launch} {Γ : jp_G} {Z : Nat → Option jp_Sh} {n : Nat} {nc : Nat} (hX0 : jp_hC Z n nc) (hst : l.stackTraces = false) {σ σ0 : jp_I} {τ τ0 : jp_J} {r0 : (Sum Int32 Nat)} (hf : fX7_share n nc σ τ = some (r0, σ0, τ0)) : jp_X l yX7_share cX7_share 2 (some .int) 7 136 3 18 Γ Z σ τ [.ref (Γ.2.2.1 0)] r0 σ0 τ0 := by
  refine jp_mkX (lv := [(0, .ref (Γ.2.2.1 0))]) (by decide) (Nat.le_of_ble_eq_true rfl) rfl fun p e s m args below meth c B hT => ?_
  obtain ⟨hx, hb, hml, hown, hts, hr, hlk, hE⟩ := id B
  unfold fX7_share at hf
  intro H locs ls hP hS hl
  refine lv_aload_n hx hb dX7_share_0 rfl (lv_at hl 0 rfl) ?_
  obtain ⟨⟨o_1, σ_1, τ_1⟩, h_1, hf⟩ := jp_bind hf
  dsimp only at hf
  refine jp_callVX (rest := []) B hT hP hS hl (ctX7_needPlan ⟨hX0.1, ⟨hX0.2.1.1, hX0.2.1.2.1, hX0.2.1.2.2.1, ⟨hX0.2.1.2.2.2.1, hX0.2.1.2.2.2.2.1, hX0.2.1.2.2.2.2.2.1, hX0.2.1.2.2.2.2.2.2.1, hX0.2.1.2.2.2.2.2.2.2⟩⟩, ⟨hX0.2.2.1.1, hX0.2.2.1.2⟩, ⟨hX0.2.2.2.1, hX0.2.2.2.2⟩⟩ hst h_1) hX0.1 rfl mw_488 mw_485 mw_486 mw_487 mw_2 ddX7_needPlan ⟨Nat.le_of_ble_eq_true rfl, Nat.le_of_ble_eq_true rfl⟩ ⟨Nat.le_of_ble_eq_true rfl, Nat.le_of_ble_eq_true rfl⟩ ⟨Nat.le_of_ble_eq_true rfl, Nat.le_of_ble_eq_true rfl⟩ rfl (Nat.le_of_ble_eq_true rfl) dX7_share_1 (fun k_1 e_1 => ?_) (fun a_1 e_1 H locs hP hS => ?_)
  · subst e_1
    dsimp only at hf
    exact jp_injX hf
  · subst e_1
    dsimp only at hf
    refine lv_aload_n hx hb dX7_share_4 rfl (lv_at hl 0 rfl) ?_
    obtain ⟨⟨o_2, σ_2, τ_2⟩, h_2, hf⟩ := jp_bind hf
    dsimp only at hf
    refine jp_callVX (rest := []) B hT hP hS hl (ctX7_needComplete ⟨hX0.1, ⟨hX0.2.1.1, hX0.2.1.2.1, hX0.2.1.2.2.1, ⟨hX0.2.1.2.2.2.1, hX0.2.1.2.2.2.2.1, hX0.2.1.2.2.2.2.2.1, hX0.2.1.2.2.2.2.2.2.1, hX0.2.1.2.2.2.2.2.2.2⟩⟩, ⟨hX0.2.2.1.1, hX0.2.2.1.2⟩, ⟨hX0.2.2.2.1, hX0.2.2.2.2⟩⟩ hst h_2) hX0.1 rfl mw_274 mw_271 mw_272 mw_273 mw_2 ddX7_needComplete ⟨Nat.le_of_ble_eq_true rfl, Nat.le_of_ble_eq_true rfl⟩ ⟨Nat.le_of_ble_eq_true rfl, Nat.le_of_ble_eq_true rfl⟩ ⟨Nat.le_of_ble_eq_true rfl, Nat.le_of_ble_eq_true rfl⟩ rfl (Nat.le_of_ble_eq_true rfl) dX7_share_5 (fun k_2 e_2 => ?_) (fun a_2 e_2 H locs hP hS => ?_)
    · subst e_2
      dsimp only at hf
      exact jp_injX hf
    · subst e_2
      dsimp only at hf
      refine lv_aload_n hx hb dX7_share_8 rfl (lv_at hl 0 rfl) ?_
      refine jp_getr (k := 4) B hP hX0.1 rfl rfl (by decide) jp_fX7 rfl mw_43 dX7_share_9 ?_
      refine jp_getiN (k := 3) B hP hX0.2.2.2.1 rfl rfl (by decide) jp_fX2 rfl nw_276 dX7_share_12 ?_
      refine lv_istore_n (lv' := [(1, .int (σ_2 11 3)), (0, .ref (Γ.2.2.1 0))]) hx hb dX7_share_15 rfl hl (by decide) rfl (fun ls hl => ?_)
      refine lv_iload_n hx hb dX7_share_16 rfl (lv_at hl 0 rfl) ?_
      refine lv_if_ne (tgt := 30) hx hb dX7_share_17 (by decide) (fun c_3 => ?_) (fun c_3 => ?_)
      · rw [if_neg c_3] at hf
        refine lv_bipush (v := 100) hx hb dX7_share_30 (by decide) ?_
        refine lv_aload_n hx hb dX7_share_32 rfl (lv_at hl 1 rfl) ?_
        refine jp_getr (k := 1) B hP hX0.1 rfl rfl (by decide) jp_fX7 rfl mw_28 dX7_share_33 ?_
        obtain ⟨⟨a_4, σ_4, τ_4⟩, h_4, hf⟩ := jp_bind hf
        dsimp only at hf
        refine jp_callVN (rest := [.int 100]) B hP hS hl (ctX5_allWays ⟨hX0.2.1.1, hX0.2.1.2.1, hX0.2.1.2.2.1, ⟨hX0.2.1.2.2.2.1, hX0.2.1.2.2.2.2.1, hX0.2.1.2.2.2.2.2.1, hX0.2.1.2.2.2.2.2.2.1, hX0.2.1.2.2.2.2.2.2.2⟩⟩ h_4) hX0.2.1.1 rfl mw_539 nw_725 mw_537 mw_538 mw_27 ddX5_allWays ⟨Nat.le_of_ble_eq_true rfl, Nat.le_of_ble_eq_true rfl⟩ ⟨Nat.le_of_ble_eq_true rfl, Nat.le_of_ble_eq_true rfl⟩ rfl (Nat.le_of_ble_eq_true rfl) dX7_share_36 (fun H locs hP hS => ?_)
        refine lv_imul hx hb dX7_share_39 ?_
        refine lv_iload_n hx hb dX7_share_40 rfl (lv_at hl 0 rfl) ?_
        obtain ⟨g_5, hf⟩ := jp_nz hf
        refine lv_idiv hx hb dX7_share_41 g_5 ?_
        exact jp_endiX B hP hS (Nat.le_of_ble_eq_true rfl) (Nat.le_of_ble_eq_true rfl) dX7_share_42 (jp_injX hf)
      · rw [if_pos c_3] at hf
        exact jp_throw 3 (by decide) B hT hst hP hS hl (text := "the plan's cost is 0") (sid := 61) (by decide) dX7_share_20 dX7_share_23 dX7_share_24 dX7_share_26 dX7_share_29 (Nat.le_of_ble_eq_true rfl) (Nat.le_of_ble_eq_true rfl) (Nat.le_of_ble_eq_true rfl) (Nat.le_of_ble_eq_true rfl) (Nat.le_of_ble_eq_true rfl) (Nat.le_of_ble_eq_true rfl) (jp_injX hf)
end
-- X7_solveJ
section
variable {p : Program} {l : Launch} {e : Jvm.Env} {s : State} {m : MethodId} {args : Array Value} {below : List Frame} {meth : Method} {c : Code} {Γ : jp_G} {Z : Nat → Option jp_Sh} {r0 : (Sum Int32 Nat)} {σ0 : jp_I} {τ0 : jp_J}
def bX7_solveJ_9 (n : Nat) (nc : Nat) (nl : Nat) (σ : jp_I) (τ : jp_J) : Option ((Sum Int32 Nat) × jp_I × jp_J) :=
  some (.inr 0, σ, τ)
set_option maxHeartbeats 4000000 in
set_option maxRecDepth 20000 in
theorem wbX7_solveJ_9 (B : jp_B Γ p s m args meth c RX7 cX7_solve 2 (some .int)) {n : Nat} {nc : Nat} {nl : Nat} (hX0 : jp_hC Z n nc) (hX1 : jp_hJ Z n nc nl) (hst : l.stackTraces = false) (hT : ∀ x ∈ c.exceptionTable.toList, False) {σ : jp_I} {τ : jp_J} (hf : bX7_solveJ_9 n nc nl σ τ = some (r0, σ0, τ0)) : jp_atc p l e (jp_RX 7 145 1 6) s m args below meth c (vx_MQ below (jp_XQ Γ Z (some .int) r0 σ0 τ0) (jp_XX Γ Z r0 σ0 τ0) args s 1 6 (jp_A Γ)) 2 Γ Z 0 0 9 [] [] σ τ := by
  obtain ⟨hx, hb, hml, hown, hts, hr, hlk, hE⟩ := id B
  unfold bX7_solveJ_9 at hf
  intro H locs ls hP hS hl
  exact jp_throw 0 (by decide) B hT hst hP hS hl (text := "restarts are 0 .. 5") (sid := 56) (by decide) dX7_solve_9 dX7_solve_12 dX7_solve_13 dX7_solve_15 dX7_solve_18 (Nat.le_of_ble_eq_true rfl) (Nat.le_of_ble_eq_true rfl) (Nat.le_of_ble_eq_true rfl) (Nat.le_of_ble_eq_true rfl) (Nat.le_of_ble_eq_true rfl) (Nat.le_of_ble_eq_true rfl) (jp_injX hf)
def fX7_solveJ (n : Nat) (nc : Nat) (nl : Nat) (p1 : Int32) (σ : jp_I) (τ : jp_J) : Option ((Sum Int32 Nat) × jp_I × jp_J) :=
  if p1 < 0 then (bX7_solveJ_9 n nc nl σ τ) else (if p1 ≤ 5 then ((fX7_needComplete n nc σ τ).bind fun (o_3, σ_3, τ_3) => match o_3 with
    | .inl _a_3 => ((fX2_drop 11 12 nc σ_3 τ_3).bind fun (a_4, σ_4, τ_4) => (fX1_make n nc nl p1 σ_4 τ_4).bind fun (a_5, σ_5, τ_5) => some (.inl (σ_5 11 3), σ_5, τ_5))
    | .inr k_3 => some (.inr k_3, σ_3, τ_3)) else (bX7_solveJ_9 n nc nl σ τ))
set_option maxHeartbeats 4000000 in
set_option maxRecDepth 20000 in
theorem ctX7_solveJ {l : Launch} {Γ : jp_G} {Z : Nat → Option jp_Sh} {n : Nat} {nc : Nat} {nl : Nat} (hX0 : jp_hC Z n nc) (hX1 : jp_hJ Z n nc nl) (hst : l.stackTraces = false) {p1 : Int32} {σ σ0 : jp_I} {τ τ0 : jp_J} {r0 : (Sum Int32 Nat)} (hf : fX7_solveJ n nc nl p1 σ τ = some (r0, σ0, τ0)) : jp_X l yX7_solve cX7_solve 2 (some .int) 7 145 1 6 Γ Z σ τ [.ref (Γ.2.2.1 0), .int p1] r0 σ0 τ0 := by
  refine jp_mkX (lv := [(0, .ref (Γ.2.2.1 0)), (1, .int p1)]) (by decide) (Nat.le_of_ble_eq_true rfl) rfl fun p e s m args below meth c B hT => ?_
  obtain ⟨hx, hb, hml, hown, hts, hr, hlk, hE⟩ := id B
  unfold fX7_solveJ at hf
  intro H locs ls hP hS hl
  refine lv_iload_n hx hb dX7_solve_0 rfl (lv_at hl 1 rfl) ?_
  refine lv_if_lt (tgt := 9) hx hb dX7_solve_1 (by decide) (fun c_1 => ?_) (fun c_1 => ?_)
  · rw [if_pos c_1] at hf
    exact wbX7_solveJ_9 B hX0 hX1 hst hT hf H locs ls hP hS (lv_sub hl [] rfl)
  · rw [if_neg c_1] at hf
    refine lv_iload_n hx hb dX7_solve_4 rfl (lv_at hl 1 rfl) ?_
    refine lv_iconst (v := 5) hx hb dX7_solve_5 (by decide) ?_
    refine lv_icmp_le (tgt := 19) hx hb dX7_solve_6 (by decide) (fun c_2 => ?_) (fun c_2 => ?_)
    · rw [if_pos c_2] at hf
      refine lv_aload_n hx hb dX7_solve_19 rfl (lv_at hl 0 rfl) ?_
      obtain ⟨⟨o_3, σ_3, τ_3⟩, h_3, hf⟩ := jp_bind hf
      dsimp only at hf
      refine jp_callVX (rest := []) B hT hP hS hl (ctX7_needComplete ⟨hX0.1, ⟨hX0.2.1.1, hX0.2.1.2.1, hX0.2.1.2.2.1, ⟨hX0.2.1.2.2.2.1, hX0.2.1.2.2.2.2.1, hX0.2.1.2.2.2.2.2.1, hX0.2.1.2.2.2.2.2.2.1, hX0.2.1.2.2.2.2.2.2.2⟩⟩, ⟨hX0.2.2.1.1, hX0.2.2.1.2⟩, ⟨hX0.2.2.2.1, hX0.2.2.2.2⟩⟩ hst h_3) hX0.1 rfl mw_274 mw_271 mw_272 mw_273 mw_2 ddX7_needComplete ⟨Nat.le_of_ble_eq_true rfl, Nat.le_of_ble_eq_true rfl⟩ ⟨Nat.le_of_ble_eq_true rfl, Nat.le_of_ble_eq_true rfl⟩ ⟨Nat.le_of_ble_eq_true rfl, Nat.le_of_ble_eq_true rfl⟩ rfl (Nat.le_of_ble_eq_true rfl) dX7_solve_20 (fun k_3 e_3 => ?_) (fun a_3 e_3 H locs hP hS => ?_)
      · subst e_3
        dsimp only at hf
        exact jp_injX hf
      · subst e_3
        dsimp only at hf
        refine lv_aload_n hx hb dX7_solve_23 rfl (lv_at hl 0 rfl) ?_
        refine jp_getr (k := 4) B hP hX0.1 rfl rfl (by decide) jp_fX7 rfl mw_43 dX7_solve_24 ?_
        obtain ⟨⟨a_4, σ_4, τ_4⟩, h_4, hf⟩ := jp_bind hf
        dsimp only at hf
        refine jp_callVN (rest := []) B hP hS hl (ctX2_drop ⟨hX0.2.2.2.1, hX0.2.2.2.2⟩ h_4) hX0.2.2.2.1 rfl mw_168 nw_417 mw_166 mw_167 mw_42 ddX2_drop ⟨Nat.le_of_ble_eq_true rfl, Nat.le_of_ble_eq_true rfl⟩ ⟨Nat.le_of_ble_eq_true rfl, Nat.le_of_ble_eq_true rfl⟩ rfl (Nat.le_of_ble_eq_true rfl) dX7_solve_27 (fun H locs hP hS => ?_)
        refine lv_aload_n hx hb dX7_solve_30 rfl (lv_at hl 0 rfl) ?_
        refine jp_getr (k := 3) B hP hX0.1 rfl rfl (by decide) jp_fX7 rfl mw_39 dX7_solve_31 ?_
        refine lv_aload_n hx hb dX7_solve_34 rfl (lv_at hl 0 rfl) ?_
        refine jp_getr (k := 4) B hP hX0.1 rfl rfl (by decide) jp_fX7 rfl mw_43 dX7_solve_35 ?_
        refine lv_iload_n hx hb dX7_solve_38 rfl (lv_at hl 1 rfl) ?_
        obtain ⟨⟨a_5, σ_5, τ_5⟩, h_5, hf⟩ := jp_bind hf
        dsimp only at hf
        refine jp_callF (rest := []) B hP hS hl (ctX1_make ⟨hX1.1, hX1.2.1, hX1.2.2.1, ⟨hX0.2.1.1, hX0.2.1.2.1, hX0.2.1.2.2.1, ⟨hX0.2.1.2.2.2.1, hX0.2.1.2.2.2.2.1, hX0.2.1.2.2.2.2.2.1, hX0.2.1.2.2.2.2.2.2.1, hX0.2.1.2.2.2.2.2.2.2⟩⟩, ⟨hX0.2.2.2.1, hX0.2.2.2.2⟩⟩ h_5) hX1.1 rfl mw_281 mw_278 mw_280 mw_279 mw_35 hE.2.2.2.2.2.2.2.2.2.1 ddPlanner ⟨Nat.le_of_ble_eq_true rfl, Nat.le_of_ble_eq_true rfl⟩ ⟨Nat.le_of_ble_eq_true rfl, Nat.le_of_ble_eq_true rfl⟩ rfl (Nat.le_of_ble_eq_true rfl) dX7_solve_39 (fun H locs hP hS => ?_)
        refine lv_aload_n hx hb dX7_solve_44 rfl (lv_at hl 0 rfl) ?_
        refine jp_getr (k := 4) B hP hX0.1 rfl rfl (by decide) jp_fX7 rfl mw_43 dX7_solve_45 ?_
        refine jp_getiN (k := 3) B hP hX0.2.2.2.1 rfl rfl (by decide) jp_fX2 rfl nw_276 dX7_solve_48 ?_
        exact jp_endiX B hP hS (Nat.le_of_ble_eq_true rfl) (Nat.le_of_ble_eq_true rfl) dX7_solve_51 (jp_injX hf)
    · rw [if_neg c_2] at hf
      exact wbX7_solveJ_9 B hX0 hX1 hst hT hf H locs ls hP hS (lv_sub hl [] rfl)
end
-- X7_solveP
section
variable {p : Program} {l : Launch} {e : Jvm.Env} {s : State} {m : MethodId} {args : Array Value} {below : List Frame} {meth : Method} {c : Code} {Γ : jp_G} {Z : Nat → Option jp_Sh} {r0 : (Sum Int32 Nat)} {σ0 : jp_I} {τ0 : jp_J}
def bX7_solveP_9 (n : Nat) (nc : Nat) (σ : jp_I) (τ : jp_J) : Option ((Sum Int32 Nat) × jp_I × jp_J) :=
  some (.inr 0, σ, τ)
set_option maxHeartbeats 4000000 in
set_option maxRecDepth 20000 in
theorem wbX7_solveP_9 (B : jp_B Γ p s m args meth c RX7 cX7_solve 2 (some .int)) {n : Nat} {nc : Nat} (hX0 : jp_hC Z n nc) (hX1 : jp_hP Z n nc) (hst : l.stackTraces = false) (hT : ∀ x ∈ c.exceptionTable.toList, False) {σ : jp_I} {τ : jp_J} (hf : bX7_solveP_9 n nc σ τ = some (r0, σ0, τ0)) : jp_atc p l e (jp_RX 7 149 1 6) s m args below meth c (vx_MQ below (jp_XQ Γ Z (some .int) r0 σ0 τ0) (jp_XX Γ Z r0 σ0 τ0) args s 1 6 (jp_A Γ)) 2 Γ Z 0 0 9 [] [] σ τ := by
  obtain ⟨hx, hb, hml, hown, hts, hr, hlk, hE⟩ := id B
  unfold bX7_solveP_9 at hf
  intro H locs ls hP hS hl
  exact jp_throw 0 (by decide) B hT hst hP hS hl (text := "restarts are 0 .. 5") (sid := 56) (by decide) dX7_solve_9 dX7_solve_12 dX7_solve_13 dX7_solve_15 dX7_solve_18 (Nat.le_of_ble_eq_true rfl) (Nat.le_of_ble_eq_true rfl) (Nat.le_of_ble_eq_true rfl) (Nat.le_of_ble_eq_true rfl) (Nat.le_of_ble_eq_true rfl) (Nat.le_of_ble_eq_true rfl) (jp_injX hf)
def fX7_solveP (n : Nat) (nc : Nat) (p1 : Int32) (σ : jp_I) (τ : jp_J) : Option ((Sum Int32 Nat) × jp_I × jp_J) :=
  if p1 < 0 then (bX7_solveP_9 n nc σ τ) else (if p1 ≤ 5 then ((fX7_needComplete n nc σ τ).bind fun (o_3, σ_3, τ_3) => match o_3 with
    | .inl _a_3 => ((fX2_drop 11 12 nc σ_3 τ_3).bind fun (a_4, σ_4, τ_4) => (fX4_make n nc p1 σ_4 τ_4).bind fun (a_5, σ_5, τ_5) => some (.inl (σ_5 11 3), σ_5, τ_5))
    | .inr k_3 => some (.inr k_3, σ_3, τ_3)) else (bX7_solveP_9 n nc σ τ))
set_option maxHeartbeats 4000000 in
set_option maxRecDepth 20000 in
theorem ctX7_solveP {l : Launch} {Γ : jp_G} {Z : Nat → Option jp_Sh} {n : Nat} {nc : Nat} (hX0 : jp_hC Z n nc) (hX1 : jp_hP Z n nc) (hst : l.stackTraces = false) {p1 : Int32} {σ σ0 : jp_I} {τ τ0 : jp_J} {r0 : (Sum Int32 Nat)} (hf : fX7_solveP n nc p1 σ τ = some (r0, σ0, τ0)) : jp_X l yX7_solve cX7_solve 2 (some .int) 7 149 1 6 Γ Z σ τ [.ref (Γ.2.2.1 0), .int p1] r0 σ0 τ0 := by
  refine jp_mkX (lv := [(0, .ref (Γ.2.2.1 0)), (1, .int p1)]) (by decide) (Nat.le_of_ble_eq_true rfl) rfl fun p e s m args below meth c B hT => ?_
  obtain ⟨hx, hb, hml, hown, hts, hr, hlk, hE⟩ := id B
  unfold fX7_solveP at hf
  intro H locs ls hP hS hl
  refine lv_iload_n hx hb dX7_solve_0 rfl (lv_at hl 1 rfl) ?_
  refine lv_if_lt (tgt := 9) hx hb dX7_solve_1 (by decide) (fun c_1 => ?_) (fun c_1 => ?_)
  · rw [if_pos c_1] at hf
    exact wbX7_solveP_9 B hX0 hX1 hst hT hf H locs ls hP hS (lv_sub hl [] rfl)
  · rw [if_neg c_1] at hf
    refine lv_iload_n hx hb dX7_solve_4 rfl (lv_at hl 1 rfl) ?_
    refine lv_iconst (v := 5) hx hb dX7_solve_5 (by decide) ?_
    refine lv_icmp_le (tgt := 19) hx hb dX7_solve_6 (by decide) (fun c_2 => ?_) (fun c_2 => ?_)
    · rw [if_pos c_2] at hf
      refine lv_aload_n hx hb dX7_solve_19 rfl (lv_at hl 0 rfl) ?_
      obtain ⟨⟨o_3, σ_3, τ_3⟩, h_3, hf⟩ := jp_bind hf
      dsimp only at hf
      refine jp_callVX (rest := []) B hT hP hS hl (ctX7_needComplete ⟨hX0.1, ⟨hX0.2.1.1, hX0.2.1.2.1, hX0.2.1.2.2.1, ⟨hX0.2.1.2.2.2.1, hX0.2.1.2.2.2.2.1, hX0.2.1.2.2.2.2.2.1, hX0.2.1.2.2.2.2.2.2.1, hX0.2.1.2.2.2.2.2.2.2⟩⟩, ⟨hX0.2.2.1.1, hX0.2.2.1.2⟩, ⟨hX0.2.2.2.1, hX0.2.2.2.2⟩⟩ hst h_3) hX0.1 rfl mw_274 mw_271 mw_272 mw_273 mw_2 ddX7_needComplete ⟨Nat.le_of_ble_eq_true rfl, Nat.le_of_ble_eq_true rfl⟩ ⟨Nat.le_of_ble_eq_true rfl, Nat.le_of_ble_eq_true rfl⟩ ⟨Nat.le_of_ble_eq_true rfl, Nat.le_of_ble_eq_true rfl⟩ rfl (Nat.le_of_ble_eq_true rfl) dX7_solve_20 (fun k_3 e_3 => ?_) (fun a_3 e_3 H locs hP hS => ?_)
      · subst e_3
        dsimp only at hf
        exact jp_injX hf
      · subst e_3
        dsimp only at hf
        refine lv_aload_n hx hb dX7_solve_23 rfl (lv_at hl 0 rfl) ?_
        refine jp_getr (k := 4) B hP hX0.1 rfl rfl (by decide) jp_fX7 rfl mw_43 dX7_solve_24 ?_
        obtain ⟨⟨a_4, σ_4, τ_4⟩, h_4, hf⟩ := jp_bind hf
        dsimp only at hf
        refine jp_callVN (rest := []) B hP hS hl (ctX2_drop ⟨hX0.2.2.2.1, hX0.2.2.2.2⟩ h_4) hX0.2.2.2.1 rfl mw_168 nw_417 mw_166 mw_167 mw_42 ddX2_drop ⟨Nat.le_of_ble_eq_true rfl, Nat.le_of_ble_eq_true rfl⟩ ⟨Nat.le_of_ble_eq_true rfl, Nat.le_of_ble_eq_true rfl⟩ rfl (Nat.le_of_ble_eq_true rfl) dX7_solve_27 (fun H locs hP hS => ?_)
        refine lv_aload_n hx hb dX7_solve_30 rfl (lv_at hl 0 rfl) ?_
        refine jp_getr (k := 3) B hP hX0.1 rfl rfl (by decide) jp_fX7 rfl mw_39 dX7_solve_31 ?_
        refine lv_aload_n hx hb dX7_solve_34 rfl (lv_at hl 0 rfl) ?_
        refine jp_getr (k := 4) B hP hX0.1 rfl rfl (by decide) jp_fX7 rfl mw_43 dX7_solve_35 ?_
        refine lv_iload_n hx hb dX7_solve_38 rfl (lv_at hl 1 rfl) ?_
        obtain ⟨⟨a_5, σ_5, τ_5⟩, h_5, hf⟩ := jp_bind hf
        dsimp only at hf
        refine jp_callF (rest := []) B hP hS hl (ctX4_make ⟨hX1.1, hX1.2.1, hX1.2.2.1, ⟨hX0.2.1.1, hX0.2.1.2.1, hX0.2.1.2.2.1, ⟨hX0.2.1.2.2.2.1, hX0.2.1.2.2.2.2.1, hX0.2.1.2.2.2.2.2.1, hX0.2.1.2.2.2.2.2.2.1, hX0.2.1.2.2.2.2.2.2.2⟩⟩, ⟨hX0.2.2.1.1, hX0.2.2.1.2⟩, ⟨hX0.2.2.2.1, hX0.2.2.2.2⟩, ⟨hX1.2.2.2.2.2.2.1, hX1.2.2.2.2.2.2.2⟩⟩ h_5) hX1.1 rfl mw_343 mw_278 mw_342 mw_341 mw_38 hE.2.2.2.2.2.2.2.2.2.2 ddPlanner ⟨Nat.le_of_ble_eq_true rfl, Nat.le_of_ble_eq_true rfl⟩ ⟨Nat.le_of_ble_eq_true rfl, Nat.le_of_ble_eq_true rfl⟩ rfl (Nat.le_of_ble_eq_true rfl) dX7_solve_39 (fun H locs hP hS => ?_)
        refine lv_aload_n hx hb dX7_solve_44 rfl (lv_at hl 0 rfl) ?_
        refine jp_getr (k := 4) B hP hX0.1 rfl rfl (by decide) jp_fX7 rfl mw_43 dX7_solve_45 ?_
        refine jp_getiN (k := 3) B hP hX0.2.2.2.1 rfl rfl (by decide) jp_fX2 rfl nw_276 dX7_solve_48 ?_
        exact jp_endiX B hP hS (Nat.le_of_ble_eq_true rfl) (Nat.le_of_ble_eq_true rfl) dX7_solve_51 (jp_injX hf)
    · rw [if_neg c_2] at hf
      exact wbX7_solveP_9 B hX0 hX1 hst hT hf H locs ls hP hS (lv_sub hl [] rfl)
end
