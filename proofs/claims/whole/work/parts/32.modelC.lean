-- X8_fresh
section
variable {p : Program} {l : Launch} {e : Jvm.Env} {s : State} {m : MethodId} {args : Array Value} {below : List Frame} {meth : Method} {c : Code} {Γ : jp_G} {Z : Nat → Option jp_Sh} {r0 : Int32} {σ0 : jp_I} {τ0 : jp_J}
def sX8_fresh_12 (x3 : Int32) (σ : jp_I) (τ : jp_J) : Option (Sum (Int32) (Sum (Unit) Int32) × jp_I × jp_J) :=
  if 36 ≤ x3 then (some (.inr (.inl ()), σ, τ)) else (if jp_ok x3 36 = true then some (.inl (x3 + 1), jp_up σ 21 x3.toNatClampNeg 0, τ) else none)
set_option maxHeartbeats 4000000 in
set_option maxRecDepth 20000 in
theorem wsX8_fresh_12 (B : jp_B Γ p s m args meth c RX8 cX8_fresh 4 none) (hX0 : jp_hM Z) {x3 : Int32} {σ : jp_I} {τ : jp_J} {q : Sum (Int32) (Sum (Unit) Int32) × jp_I × jp_J} (hf : sX8_fresh_12 x3 σ τ = some q) (kb : ∀ v : Int32, q.1 = .inl v → jp_at p l e (jp_R 0 0) s m args below meth c (MQ below (jp_Q Γ Z none σ0 τ0) args s 0 0 (jp_A Γ)) 4 Γ Z 12 [(0, .ref (Γ.2.2.1 20)), (3, .int v)] [] q.2.1 q.2.2) (kx : ∀ v : Unit, q.1 = .inr (.inl v) → jp_at p l e (jp_R 0 0) s m args below meth c (MQ below (jp_Q Γ Z none σ0 τ0) args s 0 0 (jp_A Γ)) 4 Γ Z 31 [(0, .ref (Γ.2.2.1 20))] [] q.2.1 q.2.2) (kr : ∀ v : Int32, q.1 = .inr (.inr v) → r0 = v ∧ σ0 = q.2.1 ∧ τ0 = q.2.2) : jp_at p l e (jp_R 0 0) s m args below meth c (MQ below (jp_Q Γ Z none σ0 τ0) args s 0 0 (jp_A Γ)) 4 Γ Z 12 [(0, .ref (Γ.2.2.1 20)), (3, .int x3)] [] σ τ := by
  obtain ⟨hx, hb, hml, hown, hts, hr, hlk, hE⟩ := id B
  unfold sX8_fresh_12 at hf
  intro H locs ls hP hS hl
  refine lv_iload_n hx hb dX8_fresh_12 rfl (lv_at hl 1 rfl) ?_
  refine lv_bipush (v := 36) hx hb dX8_fresh_13 (by decide) ?_
  refine lv_icmp_ge (tgt := 31) hx hb dX8_fresh_15 (by decide) (fun c_1 => ?_) (fun c_1 => ?_)
  · rw [if_pos c_1] at hf
    obtain rfl := Option.some.inj hf
    exact kx _ rfl H locs ls hP hS (lv_sub hl [0] rfl)
  · rw [if_neg c_1] at hf
    refine lv_aload_n hx hb dX8_fresh_18 rfl (lv_at hl 0 rfl) ?_
    refine jp_getr (k := 4) B hP hX0.1 rfl rfl (by decide) jp_fX8 rfl mw_138 dX8_fresh_19 ?_
    refine lv_iload_n hx hb dX8_fresh_22 rfl (lv_at hl 1 rfl) ?_
    refine lv_iconst (v := 0) hx hb dX8_fresh_23 (by decide) ?_
    obtain ⟨g_2, hf⟩ := jp_if hf
    refine jp_zast B hP hS hX0.2.1 (jp_ok_vp g_2) rfl dX8_fresh_24 (fun H locs hP hS => ?_)
    refine lv_iinc (v := x3 + 1) (lv' := [(3, .int (x3 + 1)), (0, .ref (Γ.2.2.1 20))]) hx hb dX8_fresh_25 hl (k := 1) rfl rfl (by decide) rfl (fun ls hl => ?_)
    refine lv_goto (tgt := 12) hx hb dX8_fresh_28 (by decide) ?_
    obtain rfl := Option.some.inj hf
    exact kb _ rfl H locs ls hP hS (lv_sub hl [1, 0] rfl)
set_option maxHeartbeats 4000000 in
theorem lX8_fresh_12 (B : jp_B Γ p s m args meth c RX8 cX8_fresh 4 none) (hX0 : jp_hM Z) {e1 : Sum (Unit) Int32} {σ1 : jp_I} {τ1 : jp_J} (kx : ∀ v : Unit, e1 = .inl v → jp_at p l e (jp_R 0 0) s m args below meth c (MQ below (jp_Q Γ Z none σ0 τ0) args s 0 0 (jp_A Γ)) 4 Γ Z 31 [(0, .ref (Γ.2.2.1 20))] [] σ1 τ1) (kr : ∀ v : Int32, e1 = .inr v → r0 = v ∧ σ0 = σ1 ∧ τ0 = τ1) : ∀ (k : Nat) (v : Int32) (σ : jp_I) (τ : jp_J), jp_loop (fun q : (Int32) × jp_I × jp_J => sX8_fresh_12 q.1 q.2.1 q.2.2) k (v, σ, τ) = some (e1, σ1, τ1) → jp_at p l e (jp_R 0 0) s m args below meth c (MQ below (jp_Q Γ Z none σ0 τ0) args s 0 0 (jp_A Γ)) 4 Γ Z 12 [(0, .ref (Γ.2.2.1 20)), (3, .int v)] [] σ τ := by
  refine jp_loopI (P := fun (v : Int32) (σ : jp_I) (τ : jp_J) => jp_at p l e (jp_R 0 0) s m args below meth c (MQ below (jp_Q Γ Z none σ0 τ0) args s 0 0 (jp_A Γ)) 4 Γ Z 12 [(0, .ref (Γ.2.2.1 20)), (3, .int v)] [] σ τ) (fun v σ τ q hq hbk hen => ?_)
  exact wsX8_fresh_12 B hX0 hq (fun v' hv => hbk v' hv) (fun x hv => by obtain ⟨h1, h2, h3⟩ := hen _ hv; rw [h2, h3]; exact kx x h1.symm) (fun r hv => by obtain ⟨h1, h2, h3⟩ := hen _ hv; rw [h2, h3]; exact kr r h1.symm)
def sX8_fresh_33 (x3 : Int32) (σ : jp_I) (τ : jp_J) : Option (Sum (Int32) (Sum (Unit) Int32) × jp_I × jp_J) :=
  if 4 ≤ x3 then (some (.inr (.inl ()), σ, τ)) else (if jp_ok x3 4 = true then if jp_ok x3 4 = true then some (.inl (x3 + 1), jp_up (jp_up σ 22 x3.toNatClampNeg (-1)) 23 x3.toNatClampNeg (-1), τ) else none else none)
set_option maxHeartbeats 4000000 in
set_option maxRecDepth 20000 in
theorem wsX8_fresh_33 (B : jp_B Γ p s m args meth c RX8 cX8_fresh 4 none) (hX0 : jp_hM Z) {x3 : Int32} {σ : jp_I} {τ : jp_J} {q : Sum (Int32) (Sum (Unit) Int32) × jp_I × jp_J} (hf : sX8_fresh_33 x3 σ τ = some q) (kb : ∀ v : Int32, q.1 = .inl v → jp_at p l e (jp_R 0 0) s m args below meth c (MQ below (jp_Q Γ Z none σ0 τ0) args s 0 0 (jp_A Γ)) 4 Γ Z 33 [(0, .ref (Γ.2.2.1 20)), (3, .int v)] [] q.2.1 q.2.2) (kx : ∀ v : Unit, q.1 = .inr (.inl v) → jp_at p l e (jp_R 0 0) s m args below meth c (MQ below (jp_Q Γ Z none σ0 τ0) args s 0 0 (jp_A Γ)) 4 Γ Z 58 [(0, .ref (Γ.2.2.1 20))] [] q.2.1 q.2.2) (kr : ∀ v : Int32, q.1 = .inr (.inr v) → r0 = v ∧ σ0 = q.2.1 ∧ τ0 = q.2.2) : jp_at p l e (jp_R 0 0) s m args below meth c (MQ below (jp_Q Γ Z none σ0 τ0) args s 0 0 (jp_A Γ)) 4 Γ Z 33 [(0, .ref (Γ.2.2.1 20)), (3, .int x3)] [] σ τ := by
  obtain ⟨hx, hb, hml, hown, hts, hr, hlk, hE⟩ := id B
  unfold sX8_fresh_33 at hf
  intro H locs ls hP hS hl
  refine lv_iload_n hx hb dX8_fresh_33 rfl (lv_at hl 1 rfl) ?_
  refine lv_iconst (v := 4) hx hb dX8_fresh_34 (by decide) ?_
  refine lv_icmp_ge (tgt := 58) hx hb dX8_fresh_35 (by decide) (fun c_1 => ?_) (fun c_1 => ?_)
  · rw [if_pos c_1] at hf
    obtain rfl := Option.some.inj hf
    exact kx _ rfl H locs ls hP hS (lv_sub hl [0] rfl)
  · rw [if_neg c_1] at hf
    refine lv_aload_n hx hb dX8_fresh_38 rfl (lv_at hl 0 rfl) ?_
    refine jp_getr (k := 5) B hP hX0.1 rfl rfl (by decide) jp_fX8 rfl mw_139 dX8_fresh_39 ?_
    refine lv_iload_n hx hb dX8_fresh_42 rfl (lv_at hl 1 rfl) ?_
    refine lv_iconst (v := -1) hx hb dX8_fresh_43 (by decide) ?_
    obtain ⟨g_2, hf⟩ := jp_if hf
    refine jp_iast B hP hS hX0.2.2.1 (jp_ok_vp g_2) dX8_fresh_44 (fun H locs hP hS => ?_)
    refine lv_aload_n hx hb dX8_fresh_45 rfl (lv_at hl 0 rfl) ?_
    refine jp_getr (k := 6) B hP hX0.1 rfl rfl (by decide) jp_fX8 rfl mw_140 dX8_fresh_46 ?_
    refine lv_iload_n hx hb dX8_fresh_49 rfl (lv_at hl 1 rfl) ?_
    refine lv_iconst (v := -1) hx hb dX8_fresh_50 (by decide) ?_
    obtain ⟨g_3, hf⟩ := jp_if hf
    refine jp_iast B hP hS hX0.2.2.2.1 (jp_ok_vp g_3) dX8_fresh_51 (fun H locs hP hS => ?_)
    refine lv_iinc (v := x3 + 1) (lv' := [(3, .int (x3 + 1)), (0, .ref (Γ.2.2.1 20))]) hx hb dX8_fresh_52 hl (k := 1) rfl rfl (by decide) rfl (fun ls hl => ?_)
    refine lv_goto (tgt := 33) hx hb dX8_fresh_55 (by decide) ?_
    obtain rfl := Option.some.inj hf
    exact kb _ rfl H locs ls hP hS (lv_sub hl [1, 0] rfl)
set_option maxHeartbeats 4000000 in
theorem lX8_fresh_33 (B : jp_B Γ p s m args meth c RX8 cX8_fresh 4 none) (hX0 : jp_hM Z) {e1 : Sum (Unit) Int32} {σ1 : jp_I} {τ1 : jp_J} (kx : ∀ v : Unit, e1 = .inl v → jp_at p l e (jp_R 0 0) s m args below meth c (MQ below (jp_Q Γ Z none σ0 τ0) args s 0 0 (jp_A Γ)) 4 Γ Z 58 [(0, .ref (Γ.2.2.1 20))] [] σ1 τ1) (kr : ∀ v : Int32, e1 = .inr v → r0 = v ∧ σ0 = σ1 ∧ τ0 = τ1) : ∀ (k : Nat) (v : Int32) (σ : jp_I) (τ : jp_J), jp_loop (fun q : (Int32) × jp_I × jp_J => sX8_fresh_33 q.1 q.2.1 q.2.2) k (v, σ, τ) = some (e1, σ1, τ1) → jp_at p l e (jp_R 0 0) s m args below meth c (MQ below (jp_Q Γ Z none σ0 τ0) args s 0 0 (jp_A Γ)) 4 Γ Z 33 [(0, .ref (Γ.2.2.1 20)), (3, .int v)] [] σ τ := by
  refine jp_loopI (P := fun (v : Int32) (σ : jp_I) (τ : jp_J) => jp_at p l e (jp_R 0 0) s m args below meth c (MQ below (jp_Q Γ Z none σ0 τ0) args s 0 0 (jp_A Γ)) 4 Γ Z 33 [(0, .ref (Γ.2.2.1 20)), (3, .int v)] [] σ τ) (fun v σ τ q hq hbk hen => ?_)
  exact wsX8_fresh_33 B hX0 hq (fun v' hv => hbk v' hv) (fun x hv => by obtain ⟨h1, h2, h3⟩ := hen _ hv; rw [h2, h3]; exact kx x h1.symm) (fun r hv => by obtain ⟨h1, h2, h3⟩ := hen _ hv; rw [h2, h3]; exact kr r h1.symm)
def fX8_fresh (p1 : Int32) (p2 : Int32) (σ : jp_I) (τ : jp_J) : Option (Int32 × jp_I × jp_J) :=
  (jp_loop (fun q : (Int32) × jp_I × jp_J => sX8_fresh_12 q.1 q.2.1 q.2.2) jp_F (0, jp_up (jp_up σ 20 2 p1) 20 3 p2, τ)).bind fun (e_1, σ_1, τ_1) => match e_1 with
    | .inl _ => ((jp_loop (fun q : (Int32) × jp_I × jp_J => sX8_fresh_33 q.1 q.2.1 q.2.2) jp_F (0, σ_1, τ_1)).bind fun (e_2, σ_2, τ_2) => match e_2 with
    | .inl _ => (some (0, jp_up σ_2 20 9 0, τ_2))
    | .inr r_2 => some (r_2, σ_2, τ_2))
    | .inr r_1 => some (r_1, σ_1, τ_1)
set_option maxHeartbeats 4000000 in
set_option maxRecDepth 20000 in
theorem ctX8_fresh {l : Launch} {Γ : jp_G} {Z : Nat → Option jp_Sh} (hX0 : jp_hM Z) {p1 : Int32} {p2 : Int32} {σ σ0 : jp_I} {τ τ0 : jp_J} {r0 : Int32} (hf : fX8_fresh p1 p2 σ τ = some (r0, σ0, τ0)) : jp_M l yX8_fresh cX8_fresh 4 none 0 0 Γ Z σ τ [.ref (Γ.2.2.1 20), .int p1, .int p2] none σ0 τ0 := by
  refine jp_mk (lv := [(0, .ref (Γ.2.2.1 20)), (1, .int p1), (2, .int p2)]) (by decide) (Nat.le_of_ble_eq_true rfl) rfl fun p e s m args below meth c B => ?_
  obtain ⟨hx, hb, hml, hown, hts, hr, hlk, hE⟩ := id B
  unfold fX8_fresh at hf
  intro H locs ls hP hS hl
  refine lv_aload_n hx hb dX8_fresh_0 rfl (lv_at hl 0 rfl) ?_
  refine lv_iload_n hx hb dX8_fresh_1 rfl (lv_at hl 1 rfl) ?_
  refine jp_puti (k := 2) (ty := .int) B hP hS hX0.1 rfl rfl (by decide) jp_fX8 tyX8 tyX8_ok nmX8 rfl mw_135 rfl (by decide +kernel) rfl rfl dX8_fresh_2 (fun H locs hP hS => ?_)
  refine lv_aload_n hx hb dX8_fresh_5 rfl (lv_at hl 0 rfl) ?_
  refine lv_iload_n hx hb dX8_fresh_6 rfl (lv_at hl 2 rfl) ?_
  refine jp_puti (k := 3) (ty := .int) B hP hS hX0.1 rfl rfl (by decide) jp_fX8 tyX8 tyX8_ok nmX8 rfl mw_136 rfl (by decide +kernel) rfl rfl dX8_fresh_7 (fun H locs hP hS => ?_)
  refine lv_iconst (v := 0) hx hb dX8_fresh_10 (by decide) ?_
  refine lv_istore_n (lv' := [(3, .int 0), (0, .ref (Γ.2.2.1 20)), (1, .int p1), (2, .int p2)]) hx hb dX8_fresh_11 rfl hl (by decide) rfl (fun ls hl => ?_)
  obtain ⟨⟨e_1, σ_1, τ_1⟩, h_1, hf⟩ := jp_bind hf
  refine lX8_fresh_12 (r0 := r0) B hX0 (fun v_1 k_1 => ?_) (fun r_1 k_1 => ?_) _ _ _ _ h_1 H locs ls hP hS (lv_sub hl [1, 0] rfl)
  · subst k_1
    dsimp only at hf
    intro H locs ls hP hS hl
    refine lv_iconst (v := 0) hx hb dX8_fresh_31 (by decide) ?_
    refine lv_istore_n (lv' := [(3, .int 0), (0, .ref (Γ.2.2.1 20))]) hx hb dX8_fresh_32 rfl hl (by decide) rfl (fun ls hl => ?_)
    obtain ⟨⟨e_2, σ_2, τ_2⟩, h_2, hf⟩ := jp_bind hf
    refine lX8_fresh_33 (r0 := r0) B hX0 (fun v_2 k_2 => ?_) (fun r_2 k_2 => ?_) _ _ _ _ h_2 H locs ls hP hS (lv_sub hl [1, 0] rfl)
    · subst k_2
      dsimp only at hf
      intro H locs ls hP hS hl
      refine lv_aload_n hx hb dX8_fresh_58 rfl (lv_at hl 0 rfl) ?_
      refine lv_iconst (v := 0) hx hb dX8_fresh_59 (by decide) ?_
      refine jp_puti (k := 9) (ty := .boolean) B hP hS hX0.1 rfl rfl (by decide) jp_fX8 tyX8 tyX8_ok nmX8 rfl mw_143 rfl (by decide +kernel) (jp_isb_n (by decide)) (jp_isb_f (by decide)) dX8_fresh_60 (fun H locs hP hS => ?_)
      exact jp_endv B hP hS dX8_fresh_63 (jp_inj hf)
    · subst k_2
      dsimp only at hf
      exact jp_inj hf
  · subst k_1
    dsimp only at hf
    exact jp_inj hf
end
-- X8_thrown
section
variable {p : Program} {l : Launch} {e : Jvm.Env} {s : State} {m : MethodId} {args : Array Value} {below : List Frame} {meth : Method} {c : Code} {Γ : jp_G} {Z : Nat → Option jp_Sh} {r0 : Int32} {σ0 : jp_I} {τ0 : jp_J}
def fX8_thrown (σ : jp_I) (τ : jp_J) : Option (Int32 × jp_I × jp_J) :=
  some (σ 20 0, σ, τ)
set_option maxHeartbeats 4000000 in
set_option maxRecDepth 20000 in
theorem ctX8_thrown {l : Launch} {Γ : jp_G} {Z : Nat → Option jp_Sh} (hX0 : jp_hM Z) {σ σ0 : jp_I} {τ τ0 : jp_J} {r0 : Int32} (hf : fX8_thrown σ τ = some (r0, σ0, τ0)) : jp_M l yX8_thrown cX8_thrown 1 (some .int) 0 0 Γ Z σ τ [.ref (Γ.2.2.1 20)] (some (.int r0)) σ0 τ0 := by
  refine jp_mk (lv := [(0, .ref (Γ.2.2.1 20))]) (by decide) (Nat.le_of_ble_eq_true rfl) rfl fun p e s m args below meth c B => ?_
  obtain ⟨hx, hb, hml, hown, hts, hr, hlk, hE⟩ := id B
  unfold fX8_thrown at hf
  intro H locs ls hP hS hl
  refine lv_aload_n hx hb dX8_thrown_0 rfl (lv_at hl 0 rfl) ?_
  refine jp_geti (k := 0) B hP hX0.1 rfl rfl (by decide) jp_fX8 rfl mw_134 dX8_thrown_1 ?_
  exact jp_endi B hP hS dX8_thrown_4 (jp_inj hf)
end
-- X8_used
section
variable {p : Program} {l : Launch} {e : Jvm.Env} {s : State} {m : MethodId} {args : Array Value} {below : List Frame} {meth : Method} {c : Code} {Γ : jp_G} {Z : Nat → Option jp_Sh} {r0 : Int32} {σ0 : jp_I} {τ0 : jp_J}
def sX8_used_2 (x1 : Int32) (x2 : Int32) (σ : jp_I) (τ : jp_J) : Option (Sum (Int32) (Sum (Unit) Int32) × jp_I × jp_J) :=
  if (σ 20 1) ≤ x2 then (some (.inr (.inl ()), σ, τ)) else (if jp_ok x2 4 = true then if (σ 22 x2.toNatClampNeg) = x1 then (some (.inr (.inr 1), σ, τ)) else (if jp_ok x2 4 = true then if (σ 23 x2.toNatClampNeg) = x1 then (some (.inr (.inr 1), σ, τ)) else (some (.inl (x2 + 1), σ, τ)) else none) else none)
set_option maxHeartbeats 4000000 in
set_option maxRecDepth 20000 in
theorem wsX8_used_2 (B : jp_B Γ p s m args meth c RX8 cX8_used 3 (some .boolean)) (hX0 : jp_hM Z) {x1 : Int32} {x2 : Int32} {σ : jp_I} {τ : jp_J} {q : Sum (Int32) (Sum (Unit) Int32) × jp_I × jp_J} (hf : sX8_used_2 x1 x2 σ τ = some q) (kb : ∀ v : Int32, q.1 = .inl v → jp_at p l e (jp_R 0 0) s m args below meth c (MQ below (jp_Q Γ Z (some (.int r0)) σ0 τ0) args s 0 0 (jp_A Γ)) 3 Γ Z 2 [(0, .ref (Γ.2.2.1 20)), (1, .int x1), (2, .int v)] [] q.2.1 q.2.2) (kx : ∀ v : Unit, q.1 = .inr (.inl v) → jp_at p l e (jp_R 0 0) s m args below meth c (MQ below (jp_Q Γ Z (some (.int r0)) σ0 τ0) args s 0 0 (jp_A Γ)) 3 Γ Z 38 [] [] q.2.1 q.2.2) (kr : ∀ v : Int32, q.1 = .inr (.inr v) → r0 = v ∧ σ0 = q.2.1 ∧ τ0 = q.2.2) : jp_at p l e (jp_R 0 0) s m args below meth c (MQ below (jp_Q Γ Z (some (.int r0)) σ0 τ0) args s 0 0 (jp_A Γ)) 3 Γ Z 2 [(0, .ref (Γ.2.2.1 20)), (1, .int x1), (2, .int x2)] [] σ τ := by
  obtain ⟨hx, hb, hml, hown, hts, hr, hlk, hE⟩ := id B
  unfold sX8_used_2 at hf
  intro H locs ls hP hS hl
  refine lv_iload_n hx hb dX8_used_2 rfl (lv_at hl 2 rfl) ?_
  refine lv_aload_n hx hb dX8_used_3 rfl (lv_at hl 0 rfl) ?_
  refine jp_geti (k := 1) B hP hX0.1 rfl rfl (by decide) jp_fX8 rfl mw_151 dX8_used_4 ?_
  refine lv_icmp_ge (tgt := 38) hx hb dX8_used_7 (by decide) (fun c_1 => ?_) (fun c_1 => ?_)
  · rw [if_pos c_1] at hf
    obtain rfl := Option.some.inj hf
    exact kx _ rfl H locs ls hP hS (lv_sub hl [] rfl)
  · rw [if_neg c_1] at hf
    refine lv_aload_n hx hb dX8_used_10 rfl (lv_at hl 0 rfl) ?_
    refine jp_getr (k := 5) B hP hX0.1 rfl rfl (by decide) jp_fX8 rfl mw_139 dX8_used_11 ?_
    refine lv_iload_n hx hb dX8_used_14 rfl (lv_at hl 2 rfl) ?_
    obtain ⟨g_2, hf⟩ := jp_if hf
    refine jp_iald B hP hX0.2.2.1 (jp_ok_vp g_2) dX8_used_15 ?_
    refine lv_iload_n hx hb dX8_used_16 rfl (lv_at hl 1 rfl) ?_
    refine lv_icmp_eq (tgt := 30) hx hb dX8_used_17 (by decide) (fun c_3 => ?_) (fun c_3 => ?_)
    · rw [if_pos c_3] at hf
      refine lv_iconst (v := 1) hx hb dX8_used_30 (by decide) ?_
      obtain rfl := Option.some.inj hf
      exact jp_endz B hP hS (by decide) dX8_used_31 (kr _ rfl)
    · rw [if_neg c_3] at hf
      refine lv_aload_n hx hb dX8_used_20 rfl (lv_at hl 0 rfl) ?_
      refine jp_getr (k := 6) B hP hX0.1 rfl rfl (by decide) jp_fX8 rfl mw_140 dX8_used_21 ?_
      refine lv_iload_n hx hb dX8_used_24 rfl (lv_at hl 2 rfl) ?_
      obtain ⟨g_4, hf⟩ := jp_if hf
      refine jp_iald B hP hX0.2.2.2.1 (jp_ok_vp g_4) dX8_used_25 ?_
      refine lv_iload_n hx hb dX8_used_26 rfl (lv_at hl 1 rfl) ?_
      refine lv_icmp_ne (tgt := 32) hx hb dX8_used_27 (by decide) (fun c_5 => ?_) (fun c_5 => ?_)
      · rw [if_neg c_5] at hf
        refine lv_iinc (v := x2 + 1) (lv' := [(2, .int (x2 + 1)), (0, .ref (Γ.2.2.1 20)), (1, .int x1)]) hx hb dX8_used_32 hl (k := 2) rfl rfl (by decide) rfl (fun ls hl => ?_)
        refine lv_goto (tgt := 2) hx hb dX8_used_35 (by decide) ?_
        obtain rfl := Option.some.inj hf
        exact kb _ rfl H locs ls hP hS (lv_sub hl [1, 2, 0] rfl)
      · rw [if_pos c_5] at hf
        refine lv_iconst (v := 1) hx hb dX8_used_30 (by decide) ?_
        obtain rfl := Option.some.inj hf
        exact jp_endz B hP hS (by decide) dX8_used_31 (kr _ rfl)
set_option maxHeartbeats 4000000 in
theorem lX8_used_2 (B : jp_B Γ p s m args meth c RX8 cX8_used 3 (some .boolean)) (hX0 : jp_hM Z) {x1 : Int32} {e1 : Sum (Unit) Int32} {σ1 : jp_I} {τ1 : jp_J} (kx : ∀ v : Unit, e1 = .inl v → jp_at p l e (jp_R 0 0) s m args below meth c (MQ below (jp_Q Γ Z (some (.int r0)) σ0 τ0) args s 0 0 (jp_A Γ)) 3 Γ Z 38 [] [] σ1 τ1) (kr : ∀ v : Int32, e1 = .inr v → r0 = v ∧ σ0 = σ1 ∧ τ0 = τ1) : ∀ (k : Nat) (v : Int32) (σ : jp_I) (τ : jp_J), jp_loop (fun q : (Int32) × jp_I × jp_J => sX8_used_2 x1 q.1 q.2.1 q.2.2) k (v, σ, τ) = some (e1, σ1, τ1) → jp_at p l e (jp_R 0 0) s m args below meth c (MQ below (jp_Q Γ Z (some (.int r0)) σ0 τ0) args s 0 0 (jp_A Γ)) 3 Γ Z 2 [(0, .ref (Γ.2.2.1 20)), (1, .int x1), (2, .int v)] [] σ τ := by
  refine jp_loopI (P := fun (v : Int32) (σ : jp_I) (τ : jp_J) => jp_at p l e (jp_R 0 0) s m args below meth c (MQ below (jp_Q Γ Z (some (.int r0)) σ0 τ0) args s 0 0 (jp_A Γ)) 3 Γ Z 2 [(0, .ref (Γ.2.2.1 20)), (1, .int x1), (2, .int v)] [] σ τ) (fun v σ τ q hq hbk hen => ?_)
  exact wsX8_used_2 B hX0 hq (fun v' hv => hbk v' hv) (fun x hv => by obtain ⟨h1, h2, h3⟩ := hen _ hv; rw [h2, h3]; exact kx x h1.symm) (fun r hv => by obtain ⟨h1, h2, h3⟩ := hen _ hv; rw [h2, h3]; exact kr r h1.symm)
def fX8_used (p1 : Int32) (σ : jp_I) (τ : jp_J) : Option (Int32 × jp_I × jp_J) :=
  (jp_loop (fun q : (Int32) × jp_I × jp_J => sX8_used_2 p1 q.1 q.2.1 q.2.2) jp_F (0, σ, τ)).bind fun (e_1, σ_1, τ_1) => match e_1 with
    | .inl _ => (some (0, σ_1, τ_1))
    | .inr r_1 => some (r_1, σ_1, τ_1)
set_option maxHeartbeats 4000000 in
set_option maxRecDepth 20000 in
theorem ctX8_used {l : Launch} {Γ : jp_G} {Z : Nat → Option jp_Sh} (hX0 : jp_hM Z) {p1 : Int32} {σ σ0 : jp_I} {τ τ0 : jp_J} {r0 : Int32} (hf : fX8_used p1 σ τ = some (r0, σ0, τ0)) : jp_M l yX8_used cX8_used 3 (some .boolean) 0 0 Γ Z σ τ [.ref (Γ.2.2.1 20), .int p1] (some (.int r0)) σ0 τ0 := by
  refine jp_mk (lv := [(0, .ref (Γ.2.2.1 20)), (1, .int p1)]) (by decide) (Nat.le_of_ble_eq_true rfl) rfl fun p e s m args below meth c B => ?_
  obtain ⟨hx, hb, hml, hown, hts, hr, hlk, hE⟩ := id B
  unfold fX8_used at hf
  intro H locs ls hP hS hl
  refine lv_iconst (v := 0) hx hb dX8_used_0 (by decide) ?_
  refine lv_istore_n (lv' := [(2, .int 0), (0, .ref (Γ.2.2.1 20)), (1, .int p1)]) hx hb dX8_used_1 rfl hl (by decide) rfl (fun ls hl => ?_)
  obtain ⟨⟨e_1, σ_1, τ_1⟩, h_1, hf⟩ := jp_bind hf
  refine lX8_used_2 (r0 := r0) B hX0 (x1 := p1) (fun v_1 k_1 => ?_) (fun r_1 k_1 => ?_) _ _ _ _ h_1 H locs ls hP hS (lv_sub hl [1, 2, 0] rfl)
  · subst k_1
    dsimp only at hf
    intro H locs ls hP hS hl
    refine lv_iconst (v := 0) hx hb dX8_used_38 (by decide) ?_
    exact jp_endz B hP hS (by decide) dX8_used_39 (jp_inj hf)
  · subst k_1
    dsimp only at hf
    exact jp_inj hf
end
-- X8_grid
section
variable {p : Program} {l : Launch} {e : Jvm.Env} {s : State} {m : MethodId} {args : Array Value} {below : List Frame} {meth : Method} {c : Code} {Γ : jp_G} {Z : Nat → Option jp_Sh} {r0 : Int32} {σ0 : jp_I} {τ0 : jp_J}
def bX8_grid_28 (x1 : Int32) (x2 : Int32) (y1 : Int32) (σ : jp_I) (τ : jp_J) : Option (Int32 × jp_I × jp_J) :=
  if ((jp_up σ 20 0 y1) 20 0) = 0 then ((fX8_fresh x1 x2 (jp_up σ 20 0 y1) τ).bind fun (a_2, σ_2, τ_2) => some (0, σ_2, τ_2)) else (some (0, jp_up σ 20 0 y1, τ))
set_option maxHeartbeats 4000000 in
set_option maxRecDepth 20000 in
theorem wbX8_grid_28 (B : jp_B Γ p s m args meth c RX8 cX8_grid 3 none) (hX0 : jp_hM Z) {x1 : Int32} {x2 : Int32} {y1 : Int32} {σ : jp_I} {τ : jp_J} (hf : bX8_grid_28 x1 x2 y1 σ τ = some (r0, σ0, τ0)) : jp_at p l e (jp_R 1 23) s m args below meth c (MQ below (jp_Q Γ Z none σ0 τ0) args s 0 0 (jp_A Γ)) 3 Γ Z 28 [(0, .ref (Γ.2.2.1 20)), (1, .int x1), (2, .int x2)] [.int y1, .ref (Γ.2.2.1 20)] σ τ := by
  obtain ⟨hx, hb, hml, hown, hts, hr, hlk, hE⟩ := id B
  unfold bX8_grid_28 at hf
  intro H locs ls hP hS hl
  refine jp_puti (k := 0) (ty := .int) B hP hS hX0.1 rfl rfl (by decide) jp_fX8 tyX8 tyX8_ok nmX8 rfl mw_134 rfl (by decide +kernel) rfl rfl dX8_grid_28 (fun H locs hP hS => ?_)
  refine lv_aload_n hx hb dX8_grid_31 rfl (lv_at hl 0 rfl) ?_
  refine jp_geti (k := 0) B hP hX0.1 rfl rfl (by decide) jp_fX8 rfl mw_134 dX8_grid_32 ?_
  refine lv_if_ne (tgt := 44) hx hb dX8_grid_35 (by decide) (fun c_1 => ?_) (fun c_1 => ?_)
  · rw [if_neg c_1] at hf
    exact jp_endv B hP hS dX8_grid_44 (jp_inj hf)
  · rw [if_pos c_1] at hf
    refine lv_aload_n hx hb dX8_grid_38 rfl (lv_at hl 0 rfl) ?_
    refine lv_iload_n hx hb dX8_grid_39 rfl (lv_at hl 1 rfl) ?_
    refine lv_iload_n hx hb dX8_grid_40 rfl (lv_at hl 2 rfl) ?_
    obtain ⟨⟨a_2, σ_2, τ_2⟩, h_2, hf⟩ := jp_bind hf
    dsimp only at hf
    refine jp_callV (rest := []) B hP hS hl (ctX8_fresh ⟨hX0.1, hX0.2.1, hX0.2.2.1, hX0.2.2.2.1, hX0.2.2.2.2.1, hX0.2.2.2.2.2.1, hX0.2.2.2.2.2.2.1, hX0.2.2.2.2.2.2.2⟩ h_2) hX0.1 rfl mw_155 mw_152 mw_153 mw_154 mw_5 ddX8_fresh ⟨Nat.le_of_ble_eq_true rfl, Nat.le_of_ble_eq_true rfl⟩ ⟨Nat.zero_le _, Nat.zero_le _⟩ rfl (Nat.le_of_ble_eq_true rfl) dX8_grid_41 (fun H locs hP hS => ?_)
    exact jp_endv B hP hS dX8_grid_44 (jp_inj hf)
def bX8_grid_23 (x1 : Int32) (x2 : Int32) (σ : jp_I) (τ : jp_J) : Option (Int32 × jp_I × jp_J) :=
  bX8_grid_28 x1 x2 1 σ τ
set_option maxHeartbeats 4000000 in
set_option maxRecDepth 20000 in
theorem wbX8_grid_23 (B : jp_B Γ p s m args meth c RX8 cX8_grid 3 none) (hX0 : jp_hM Z) {x1 : Int32} {x2 : Int32} {σ : jp_I} {τ : jp_J} (hf : bX8_grid_23 x1 x2 σ τ = some (r0, σ0, τ0)) : jp_at p l e (jp_R 1 23) s m args below meth c (MQ below (jp_Q Γ Z none σ0 τ0) args s 0 0 (jp_A Γ)) 3 Γ Z 23 [(0, .ref (Γ.2.2.1 20)), (1, .int x1), (2, .int x2)] [.ref (Γ.2.2.1 20)] σ τ := by
  obtain ⟨hx, hb, hml, hown, hts, hr, hlk, hE⟩ := id B
  unfold bX8_grid_23 at hf
  intro H locs ls hP hS hl
  refine lv_iconst (v := 1) hx hb dX8_grid_23 (by decide) ?_
  refine lv_goto (tgt := 28) hx hb dX8_grid_24 (by decide) ?_
  exact wbX8_grid_28 B hX0 hf H locs ls hP hS (lv_sub hl [0, 1, 2] rfl)
def fX8_grid (p1 : Int32) (p2 : Int32) (σ : jp_I) (τ : jp_J) : Option (Int32 × jp_I × jp_J) :=
  if p1 < 1 then (bX8_grid_23 p1 p2 σ τ) else (if 6 < p1 then (bX8_grid_23 p1 p2 σ τ) else (if p2 < 1 then (bX8_grid_23 p1 p2 σ τ) else (if p2 ≤ 6 then (bX8_grid_28 p1 p2 0 σ τ) else (bX8_grid_23 p1 p2 σ τ))))
set_option maxHeartbeats 4000000 in
set_option maxRecDepth 20000 in
theorem ctX8_grid {l : Launch} {Γ : jp_G} {Z : Nat → Option jp_Sh} (hX0 : jp_hM Z) {p1 : Int32} {p2 : Int32} {σ σ0 : jp_I} {τ τ0 : jp_J} {r0 : Int32} (hf : fX8_grid p1 p2 σ τ = some (r0, σ0, τ0)) : jp_M l yX8_grid cX8_grid 3 none 1 23 Γ Z σ τ [.ref (Γ.2.2.1 20), .int p1, .int p2] none σ0 τ0 := by
  refine jp_mk (lv := [(0, .ref (Γ.2.2.1 20)), (1, .int p1), (2, .int p2)]) (by decide) (Nat.le_of_ble_eq_true rfl) rfl fun p e s m args below meth c B => ?_
  obtain ⟨hx, hb, hml, hown, hts, hr, hlk, hE⟩ := id B
  unfold fX8_grid at hf
  intro H locs ls hP hS hl
  refine lv_aload_n hx hb dX8_grid_0 rfl (lv_at hl 0 rfl) ?_
  refine lv_iload_n hx hb dX8_grid_1 rfl (lv_at hl 1 rfl) ?_
  refine lv_iconst (v := 1) hx hb dX8_grid_2 (by decide) ?_
  refine lv_icmp_lt (tgt := 23) hx hb dX8_grid_3 (by decide) (fun c_1 => ?_) (fun c_1 => ?_)
  · rw [if_pos c_1] at hf
    exact wbX8_grid_23 B hX0 hf H locs ls hP hS (lv_sub hl [0, 1, 2] rfl)
  · rw [if_neg c_1] at hf
    refine lv_iload_n hx hb dX8_grid_6 rfl (lv_at hl 1 rfl) ?_
    refine lv_bipush (v := 6) hx hb dX8_grid_7 (by decide) ?_
    refine lv_icmp_gt (tgt := 23) hx hb dX8_grid_9 (by decide) (fun c_2 => ?_) (fun c_2 => ?_)
    · rw [if_pos c_2] at hf
      exact wbX8_grid_23 B hX0 hf H locs ls hP hS (lv_sub hl [0, 1, 2] rfl)
    · rw [if_neg c_2] at hf
      refine lv_iload_n hx hb dX8_grid_12 rfl (lv_at hl 2 rfl) ?_
      refine lv_iconst (v := 1) hx hb dX8_grid_13 (by decide) ?_
      refine lv_icmp_lt (tgt := 23) hx hb dX8_grid_14 (by decide) (fun c_3 => ?_) (fun c_3 => ?_)
      · rw [if_pos c_3] at hf
        exact wbX8_grid_23 B hX0 hf H locs ls hP hS (lv_sub hl [0, 1, 2] rfl)
      · rw [if_neg c_3] at hf
        refine lv_iload_n hx hb dX8_grid_17 rfl (lv_at hl 2 rfl) ?_
        refine lv_bipush (v := 6) hx hb dX8_grid_18 (by decide) ?_
        refine lv_icmp_le (tgt := 27) hx hb dX8_grid_20 (by decide) (fun c_4 => ?_) (fun c_4 => ?_)
        · rw [if_pos c_4] at hf
          refine lv_iconst (v := 0) hx hb dX8_grid_27 (by decide) ?_
          exact wbX8_grid_28 B hX0 hf H locs ls hP hS (lv_sub hl [0, 1, 2] rfl)
        · rw [if_neg c_4] at hf
          exact wbX8_grid_23 B hX0 hf H locs ls hP hS (lv_sub hl [0, 1, 2] rfl)
end
-- X8_wall
section
variable {p : Program} {l : Launch} {e : Jvm.Env} {s : State} {m : MethodId} {args : Array Value} {below : List Frame} {meth : Method} {c : Code} {Γ : jp_G} {Z : Nat → Option jp_Sh} {r0 : Int32} {σ0 : jp_I} {τ0 : jp_J}
def bX8_wall_32 (x1 : Int32) (x2 : Int32) (x3 : Int32) (y1 : Int32) (σ : jp_I) (τ : jp_J) : Option (Int32 × jp_I × jp_J) :=
  if ((jp_up σ 20 0 y1) 20 0) = 0 then (if jp_ok ((6 * x2) + x1) 36 = true then if jp_ok ((6 * x2) + x1) 36 = true then if jp_isb x3 = true then if jp_isb ((jp_up σ 20 0 y1) 21 ((6 * x2) + x1).toNatClampNeg) = true then some ((jp_up σ 20 0 y1) 21 ((6 * x2) + x1).toNatClampNeg, jp_up (jp_up σ 20 0 y1) 21 ((6 * x2) + x1).toNatClampNeg x3, τ) else none else none else none else none) else (some (0, jp_up σ 20 0 y1, τ))
set_option maxHeartbeats 4000000 in
set_option maxRecDepth 20000 in
theorem wbX8_wall_32 (B : jp_B Γ p s m args meth c RX8 cX8_wall 5 (some .boolean)) (hX0 : jp_hM Z) {x1 : Int32} {x2 : Int32} {x3 : Int32} {y1 : Int32} {σ : jp_I} {τ : jp_J} (hf : bX8_wall_32 x1 x2 x3 y1 σ τ = some (r0, σ0, τ0)) : jp_at p l e (jp_R 1 22) s m args below meth c (MQ below (jp_Q Γ Z (some (.int r0)) σ0 τ0) args s 0 0 (jp_A Γ)) 5 Γ Z 32 [(0, .ref (Γ.2.2.1 20)), (1, .int x1), (2, .int x2), (3, .int x3)] [.int y1, .ref (Γ.2.2.1 20)] σ τ := by
  obtain ⟨hx, hb, hml, hown, hts, hr, hlk, hE⟩ := id B
  unfold bX8_wall_32 at hf
  intro H locs ls hP hS hl
  refine jp_puti (k := 0) (ty := .int) B hP hS hX0.1 rfl rfl (by decide) jp_fX8 tyX8 tyX8_ok nmX8 rfl mw_134 rfl (by decide +kernel) rfl rfl dX8_wall_32 (fun H locs hP hS => ?_)
  refine lv_aload_n hx hb dX8_wall_35 rfl (lv_at hl 0 rfl) ?_
  refine jp_geti (k := 0) B hP hX0.1 rfl rfl (by decide) jp_fX8 rfl mw_134 dX8_wall_36 ?_
  refine lv_if_eq (tgt := 44) hx hb dX8_wall_39 (by decide) (fun c_1 => ?_) (fun c_1 => ?_)
  · rw [if_pos c_1] at hf
    refine lv_aload_n hx hb dX8_wall_44 rfl (lv_at hl 0 rfl) ?_
    refine jp_getr (k := 4) B hP hX0.1 rfl rfl (by decide) jp_fX8 rfl mw_138 dX8_wall_45 ?_
    refine lv_bipush (v := 6) hx hb dX8_wall_48 (by decide) ?_
    refine lv_iload_n hx hb dX8_wall_50 rfl (lv_at hl 2 rfl) ?_
    refine lv_imul hx hb dX8_wall_51 ?_
    refine lv_iload_n hx hb dX8_wall_52 rfl (lv_at hl 1 rfl) ?_
    refine lv_iadd hx hb dX8_wall_53 ?_
    obtain ⟨g_2, hf⟩ := jp_if hf
    refine jp_zald B hP hX0.2.1 (jp_ok_vp g_2) dX8_wall_54 ?_
    refine lv_istore (lv' := [(4, .int ((jp_up σ 20 0 y1) 21 ((6 * x2) + x1).toNatClampNeg)), (0, .ref (Γ.2.2.1 20)), (1, .int x1), (2, .int x2), (3, .int x3)]) hx hb dX8_wall_55 hl (by decide) rfl (fun ls hl => ?_)
    refine lv_aload_n hx hb dX8_wall_57 rfl (lv_at hl 1 rfl) ?_
    refine jp_getr (k := 4) B hP hX0.1 rfl rfl (by decide) jp_fX8 rfl mw_138 dX8_wall_58 ?_
    refine lv_bipush (v := 6) hx hb dX8_wall_61 (by decide) ?_
    refine lv_iload_n hx hb dX8_wall_63 rfl (lv_at hl 3 rfl) ?_
    refine lv_imul hx hb dX8_wall_64 ?_
    refine lv_iload_n hx hb dX8_wall_65 rfl (lv_at hl 2 rfl) ?_
    refine lv_iadd hx hb dX8_wall_66 ?_
    refine lv_iload_n hx hb dX8_wall_67 rfl (lv_at hl 4 rfl) ?_
    obtain ⟨g_3, hf⟩ := jp_if hf
    obtain ⟨g_4, hf⟩ := jp_if hf
    refine jp_zast B hP hS hX0.2.1 (jp_ok_vp g_3) (jp_isb_v g_4) dX8_wall_68 (fun H locs hP hS => ?_)
    refine lv_iload hx hb dX8_wall_69 (lv_at hl 0 rfl) ?_
    obtain ⟨g_5, hf⟩ := jp_if hf
    exact jp_endz B hP hS g_5 dX8_wall_71 (jp_inj hf)
  · rw [if_neg c_1] at hf
    refine lv_iconst (v := 0) hx hb dX8_wall_42 (by decide) ?_
    exact jp_endz B hP hS (by decide) dX8_wall_43 (jp_inj hf)
def fX8_wall (p1 : Int32) (p2 : Int32) (p3 : Int32) (σ : jp_I) (τ : jp_J) : Option (Int32 × jp_I × jp_J) :=
  (fX8_noCell p1 p2 σ τ).bind fun (a_1, σ_1, τ_1) => if a_1 = 0 then ((fX8_used ((6 * p2) + p1) σ_1 τ_1).bind fun (a_3, σ_3, τ_3) => if a_3 = 0 then (bX8_wall_32 p1 p2 p3 0 σ_3 τ_3) else (bX8_wall_32 p1 p2 p3 2 σ_3 τ_3)) else (bX8_wall_32 p1 p2 p3 1 σ_1 τ_1)
set_option maxHeartbeats 4000000 in
set_option maxRecDepth 20000 in
theorem ctX8_wall {l : Launch} {Γ : jp_G} {Z : Nat → Option jp_Sh} (hX0 : jp_hM Z) {p1 : Int32} {p2 : Int32} {p3 : Int32} {σ σ0 : jp_I} {τ τ0 : jp_J} {r0 : Int32} (hf : fX8_wall p1 p2 p3 σ τ = some (r0, σ0, τ0)) : jp_M l yX8_wall cX8_wall 5 (some .boolean) 1 22 Γ Z σ τ [.ref (Γ.2.2.1 20), .int p1, .int p2, .int p3] (some (.int r0)) σ0 τ0 := by
  refine jp_mk (lv := [(0, .ref (Γ.2.2.1 20)), (1, .int p1), (2, .int p2), (3, .int p3)]) (by decide) (Nat.le_of_ble_eq_true rfl) rfl fun p e s m args below meth c B => ?_
  obtain ⟨hx, hb, hml, hown, hts, hr, hlk, hE⟩ := id B
  unfold fX8_wall at hf
  intro H locs ls hP hS hl
  refine lv_aload_n hx hb dX8_wall_0 rfl (lv_at hl 0 rfl) ?_
  refine lv_aload_n hx hb dX8_wall_1 rfl (lv_at hl 0 rfl) ?_
  refine lv_iload_n hx hb dX8_wall_2 rfl (lv_at hl 1 rfl) ?_
  refine lv_iload_n hx hb dX8_wall_3 rfl (lv_at hl 2 rfl) ?_
  obtain ⟨⟨a_1, σ_1, τ_1⟩, h_1, hf⟩ := jp_bind hf
  dsimp only at hf
  refine jp_callV (rest := [.ref (Γ.2.2.1 20)]) B hP hS hl (ctX8_noCell ⟨hX0.1, hX0.2.1, hX0.2.2.1, hX0.2.2.2.1, hX0.2.2.2.2.1, hX0.2.2.2.2.2.1, hX0.2.2.2.2.2.2.1, hX0.2.2.2.2.2.2.2⟩ h_1) hX0.1 rfl mw_205 mw_202 mw_203 mw_204 mw_5 ddX8_noCell ⟨Nat.le_of_ble_eq_true rfl, Nat.le_of_ble_eq_true rfl⟩ ⟨Nat.zero_le _, Nat.zero_le _⟩ rfl (Nat.le_of_ble_eq_true rfl) dX8_wall_4 (fun H locs hP hS => ?_)
  refine lv_if_eq (tgt := 14) hx hb dX8_wall_7 (by decide) (fun c_2 => ?_) (fun c_2 => ?_)
  · rw [if_pos c_2] at hf
    refine lv_aload_n hx hb dX8_wall_14 rfl (lv_at hl 0 rfl) ?_
    refine lv_bipush (v := 6) hx hb dX8_wall_15 (by decide) ?_
    refine lv_iload_n hx hb dX8_wall_17 rfl (lv_at hl 2 rfl) ?_
    refine lv_imul hx hb dX8_wall_18 ?_
    refine lv_iload_n hx hb dX8_wall_19 rfl (lv_at hl 1 rfl) ?_
    refine lv_iadd hx hb dX8_wall_20 ?_
    obtain ⟨⟨a_3, σ_3, τ_3⟩, h_3, hf⟩ := jp_bind hf
    dsimp only at hf
    refine jp_callV (rest := [.ref (Γ.2.2.1 20)]) B hP hS hl (ctX8_used ⟨hX0.1, hX0.2.1, hX0.2.2.1, hX0.2.2.2.1, hX0.2.2.2.2.1, hX0.2.2.2.2.2.1, hX0.2.2.2.2.2.2.1, hX0.2.2.2.2.2.2.2⟩ h_3) hX0.1 rfl mw_209 mw_206 mw_207 mw_208 mw_5 ddX8_used ⟨Nat.le_of_ble_eq_true rfl, Nat.le_of_ble_eq_true rfl⟩ ⟨Nat.zero_le _, Nat.zero_le _⟩ rfl (Nat.le_of_ble_eq_true rfl) dX8_wall_21 (fun H locs hP hS => ?_)
    refine lv_if_eq (tgt := 31) hx hb dX8_wall_24 (by decide) (fun c_4 => ?_) (fun c_4 => ?_)
    · rw [if_pos c_4] at hf
      refine lv_iconst (v := 0) hx hb dX8_wall_31 (by decide) ?_
      exact wbX8_wall_32 B hX0 hf H locs ls hP hS (lv_sub hl [0, 1, 2, 3] rfl)
    · rw [if_neg c_4] at hf
      refine lv_iconst (v := 2) hx hb dX8_wall_27 (by decide) ?_
      refine lv_goto (tgt := 32) hx hb dX8_wall_28 (by decide) ?_
      exact wbX8_wall_32 B hX0 hf H locs ls hP hS (lv_sub hl [0, 1, 2, 3] rfl)
  · rw [if_neg c_2] at hf
    refine lv_iconst (v := 1) hx hb dX8_wall_10 (by decide) ?_
    refine lv_goto (tgt := 32) hx hb dX8_wall_11 (by decide) ?_
    exact wbX8_wall_32 B hX0 hf H locs ls hP hS (lv_sub hl [0, 1, 2, 3] rfl)
end
-- X8_put
section
variable {p : Program} {l : Launch} {e : Jvm.Env} {s : State} {m : MethodId} {args : Array Value} {below : List Frame} {meth : Method} {c : Code} {Γ : jp_G} {Z : Nat → Option jp_Sh} {r0 : Int32} {σ0 : jp_I} {τ0 : jp_J}
def bX8_put_105_in74 (row : Nat) (N : Nat) (x2 : Int32) (x3 : Int32) (x4 : Int32) (x6 : Int32) (σ : jp_I) (τ : jp_J) : Option (Sum (Int32) (Sum (Unit) Int32) × jp_I × jp_J) :=
  some (.inl (x6 + 1), σ, τ)
set_option maxHeartbeats 4000000 in
set_option maxRecDepth 20000 in
theorem wbX8_put_105_in74 (B : jp_B Γ p s m args meth c RX8 cX8_put 7 (some .boolean)) {row : Nat} {N : Nat} (hX0 : jp_hM Z) (hX1 : jp_hA Z row N) {x2 : Int32} {x3 : Int32} {x4 : Int32} {x6 : Int32} {σ : jp_I} {τ : jp_J} {q : Sum (Int32) (Sum (Unit) Int32) × jp_I × jp_J} (hf : bX8_put_105_in74 row N x2 x3 x4 x6 σ τ = some q) (kb : ∀ v : Int32, q.1 = .inl v → jp_at p l e (jp_R 1 22) s m args below meth c (MQ below (jp_Q Γ Z (some (.int r0)) σ0 τ0) args s 0 0 (jp_A Γ)) 7 Γ Z 74 [(0, .ref (Γ.2.2.1 20)), (1, .ref (Γ.2.2.1 row)), (2, .int x2), (3, .int x3), (4, .int x4), (6, .int v)] [] q.2.1 q.2.2) (kx : ∀ v : Unit, q.1 = .inr (.inl v) → jp_at p l e (jp_R 1 22) s m args below meth c (MQ below (jp_Q Γ Z (some (.int r0)) σ0 τ0) args s 0 0 (jp_A Γ)) 7 Γ Z 111 [(1, .ref (Γ.2.2.1 row)), (2, .int x2), (3, .int x3), (4, .int x4)] [] q.2.1 q.2.2) (kr : ∀ v : Int32, q.1 = .inr (.inr v) → r0 = v ∧ σ0 = q.2.1 ∧ τ0 = q.2.2) : jp_at p l e (jp_R 1 22) s m args below meth c (MQ below (jp_Q Γ Z (some (.int r0)) σ0 τ0) args s 0 0 (jp_A Γ)) 7 Γ Z 105 [(0, .ref (Γ.2.2.1 20)), (1, .ref (Γ.2.2.1 row)), (2, .int x2), (3, .int x3), (4, .int x4), (6, .int x6)] [] σ τ := by
  obtain ⟨hx, hb, hml, hown, hts, hr, hlk, hE⟩ := id B
  unfold bX8_put_105_in74 at hf
  intro H locs ls hP hS hl
  refine lv_iinc (v := x6 + 1) (lv' := [(6, .int (x6 + 1)), (0, .ref (Γ.2.2.1 20)), (1, .ref (Γ.2.2.1 row)), (2, .int x2), (3, .int x3), (4, .int x4)]) hx hb dX8_put_105 hl (k := 5) rfl rfl (by decide) rfl (fun ls hl => ?_)
  refine lv_goto (tgt := 74) hx hb dX8_put_108 (by decide) ?_
  obtain rfl := Option.some.inj hf
  exact kb _ rfl H locs ls hP hS (lv_sub hl [1, 2, 3, 4, 5, 0] rfl)
def sX8_put_74 (row : Nat) (N : Nat) (x2 : Int32) (x3 : Int32) (x4 : Int32) (x6 : Int32) (σ : jp_I) (τ : jp_J) : Option (Sum (Int32) (Sum (Unit) Int32) × jp_I × jp_J) :=
  if (σ 20 1) ≤ x6 then (some (.inr (.inl ()), σ, τ)) else (if x6 = x2 then (bX8_put_105_in74 row N x2 x3 x4 x6 σ τ) else (if jp_ok x6 N = true then if (σ row x6.toNatClampNeg) = ((6 * x4) + x3) then (some (.inr (.inr 0), σ, τ)) else (bX8_put_105_in74 row N x2 x3 x4 x6 σ τ) else none))
set_option maxHeartbeats 4000000 in
set_option maxRecDepth 20000 in
theorem wsX8_put_74 (B : jp_B Γ p s m args meth c RX8 cX8_put 7 (some .boolean)) {row : Nat} {N : Nat} (hX0 : jp_hM Z) (hX1 : jp_hA Z row N) {x2 : Int32} {x3 : Int32} {x4 : Int32} {x6 : Int32} {σ : jp_I} {τ : jp_J} {q : Sum (Int32) (Sum (Unit) Int32) × jp_I × jp_J} (hf : sX8_put_74 row N x2 x3 x4 x6 σ τ = some q) (kb : ∀ v : Int32, q.1 = .inl v → jp_at p l e (jp_R 1 22) s m args below meth c (MQ below (jp_Q Γ Z (some (.int r0)) σ0 τ0) args s 0 0 (jp_A Γ)) 7 Γ Z 74 [(0, .ref (Γ.2.2.1 20)), (1, .ref (Γ.2.2.1 row)), (2, .int x2), (3, .int x3), (4, .int x4), (6, .int v)] [] q.2.1 q.2.2) (kx : ∀ v : Unit, q.1 = .inr (.inl v) → jp_at p l e (jp_R 1 22) s m args below meth c (MQ below (jp_Q Γ Z (some (.int r0)) σ0 τ0) args s 0 0 (jp_A Γ)) 7 Γ Z 111 [(1, .ref (Γ.2.2.1 row)), (2, .int x2), (3, .int x3), (4, .int x4)] [] q.2.1 q.2.2) (kr : ∀ v : Int32, q.1 = .inr (.inr v) → r0 = v ∧ σ0 = q.2.1 ∧ τ0 = q.2.2) : jp_at p l e (jp_R 1 22) s m args below meth c (MQ below (jp_Q Γ Z (some (.int r0)) σ0 τ0) args s 0 0 (jp_A Γ)) 7 Γ Z 74 [(0, .ref (Γ.2.2.1 20)), (1, .ref (Γ.2.2.1 row)), (2, .int x2), (3, .int x3), (4, .int x4), (6, .int x6)] [] σ τ := by
  obtain ⟨hx, hb, hml, hown, hts, hr, hlk, hE⟩ := id B
  unfold sX8_put_74 at hf
  intro H locs ls hP hS hl
  refine lv_iload hx hb dX8_put_74 (lv_at hl 5 rfl) ?_
  refine lv_aload_n hx hb dX8_put_76 rfl (lv_at hl 0 rfl) ?_
  refine jp_geti (k := 1) B hP hX0.1 rfl rfl (by decide) jp_fX8 rfl mw_151 dX8_put_77 ?_
  refine lv_icmp_ge (tgt := 111) hx hb dX8_put_80 (by decide) (fun c_1 => ?_) (fun c_1 => ?_)
  · rw [if_pos c_1] at hf
    obtain rfl := Option.some.inj hf
    exact kx _ rfl H locs ls hP hS (lv_sub hl [1, 2, 3, 4] rfl)
  · rw [if_neg c_1] at hf
    refine lv_iload hx hb dX8_put_83 (lv_at hl 5 rfl) ?_
    refine lv_iload_n hx hb dX8_put_85 rfl (lv_at hl 2 rfl) ?_
    refine lv_icmp_eq (tgt := 105) hx hb dX8_put_86 (by decide) (fun c_2 => ?_) (fun c_2 => ?_)
    · rw [if_pos c_2] at hf
      exact wbX8_put_105_in74 B hX0 hX1 hf kb kx kr H locs ls hP hS (lv_sub hl [0, 1, 2, 3, 4, 5] rfl)
    · rw [if_neg c_2] at hf
      refine lv_aload_n hx hb dX8_put_89 rfl (lv_at hl 1 rfl) ?_
      refine lv_iload hx hb dX8_put_90 (lv_at hl 5 rfl) ?_
      obtain ⟨g_3, hf⟩ := jp_if hf
      refine jp_iald B hP hX1 (jp_ok_vp g_3) dX8_put_92 ?_
      refine lv_bipush (v := 6) hx hb dX8_put_93 (by decide) ?_
      refine lv_iload hx hb dX8_put_95 (lv_at hl 4 rfl) ?_
      refine lv_imul hx hb dX8_put_97 ?_
      refine lv_iload_n hx hb dX8_put_98 rfl (lv_at hl 3 rfl) ?_
      refine lv_iadd hx hb dX8_put_99 ?_
      refine lv_icmp_ne (tgt := 105) hx hb dX8_put_100 (by decide) (fun c_4 => ?_) (fun c_4 => ?_)
      · rw [if_neg c_4] at hf
        exact wbX8_put_105_in74 B hX0 hX1 hf kb kx kr H locs ls hP hS (lv_sub hl [0, 1, 2, 3, 4, 5] rfl)
      · rw [if_pos c_4] at hf
        refine lv_iconst (v := 0) hx hb dX8_put_103 (by decide) ?_
        obtain rfl := Option.some.inj hf
        exact jp_endz B hP hS (by decide) dX8_put_104 (kr _ rfl)
set_option maxHeartbeats 4000000 in
theorem lX8_put_74 (B : jp_B Γ p s m args meth c RX8 cX8_put 7 (some .boolean)) {row : Nat} {N : Nat} (hX0 : jp_hM Z) (hX1 : jp_hA Z row N) {x2 : Int32} {x3 : Int32} {x4 : Int32} {e1 : Sum (Unit) Int32} {σ1 : jp_I} {τ1 : jp_J} (kx : ∀ v : Unit, e1 = .inl v → jp_at p l e (jp_R 1 22) s m args below meth c (MQ below (jp_Q Γ Z (some (.int r0)) σ0 τ0) args s 0 0 (jp_A Γ)) 7 Γ Z 111 [(1, .ref (Γ.2.2.1 row)), (2, .int x2), (3, .int x3), (4, .int x4)] [] σ1 τ1) (kr : ∀ v : Int32, e1 = .inr v → r0 = v ∧ σ0 = σ1 ∧ τ0 = τ1) : ∀ (k : Nat) (v : Int32) (σ : jp_I) (τ : jp_J), jp_loop (fun q : (Int32) × jp_I × jp_J => sX8_put_74 row N x2 x3 x4 q.1 q.2.1 q.2.2) k (v, σ, τ) = some (e1, σ1, τ1) → jp_at p l e (jp_R 1 22) s m args below meth c (MQ below (jp_Q Γ Z (some (.int r0)) σ0 τ0) args s 0 0 (jp_A Γ)) 7 Γ Z 74 [(0, .ref (Γ.2.2.1 20)), (1, .ref (Γ.2.2.1 row)), (2, .int x2), (3, .int x3), (4, .int x4), (6, .int v)] [] σ τ := by
  refine jp_loopI (P := fun (v : Int32) (σ : jp_I) (τ : jp_J) => jp_at p l e (jp_R 1 22) s m args below meth c (MQ below (jp_Q Γ Z (some (.int r0)) σ0 τ0) args s 0 0 (jp_A Γ)) 7 Γ Z 74 [(0, .ref (Γ.2.2.1 20)), (1, .ref (Γ.2.2.1 row)), (2, .int x2), (3, .int x3), (4, .int x4), (6, .int v)] [] σ τ) (fun v σ τ q hq hbk hen => ?_)
  exact wsX8_put_74 B hX0 hX1 hq (fun v' hv => hbk v' hv) (fun x hv => by obtain ⟨h1, h2, h3⟩ := hen _ hv; rw [h2, h3]; exact kx x h1.symm) (fun r hv => by obtain ⟨h1, h2, h3⟩ := hen _ hv; rw [h2, h3]; exact kr r h1.symm)
def bX8_put_59 (row : Nat) (N : Nat) (x2 : Int32) (x3 : Int32) (x4 : Int32) (y1 : Int32) (σ : jp_I) (τ : jp_J) : Option (Int32 × jp_I × jp_J) :=
  if ((jp_up σ 20 0 y1) 20 0) = 0 then ((jp_loop (fun q : (Int32) × jp_I × jp_J => sX8_put_74 row N x2 x3 x4 q.1 q.2.1 q.2.2) jp_F (0, jp_up σ 20 0 y1, τ)).bind fun (e_2, σ_2, τ_2) => match e_2 with
    | .inl _ => (if jp_ok x2 N = true then some (1, jp_up σ_2 row x2.toNatClampNeg ((6 * x4) + x3), τ_2) else none)
    | .inr r_2 => some (r_2, σ_2, τ_2)) else (some (0, jp_up σ 20 0 y1, τ))
set_option maxHeartbeats 4000000 in
set_option maxRecDepth 20000 in
theorem wbX8_put_59 (B : jp_B Γ p s m args meth c RX8 cX8_put 7 (some .boolean)) {row : Nat} {N : Nat} (hX0 : jp_hM Z) (hX1 : jp_hA Z row N) {x2 : Int32} {x3 : Int32} {x4 : Int32} {y1 : Int32} {σ : jp_I} {τ : jp_J} (hf : bX8_put_59 row N x2 x3 x4 y1 σ τ = some (r0, σ0, τ0)) : jp_at p l e (jp_R 1 22) s m args below meth c (MQ below (jp_Q Γ Z (some (.int r0)) σ0 τ0) args s 0 0 (jp_A Γ)) 7 Γ Z 59 [(0, .ref (Γ.2.2.1 20)), (1, .ref (Γ.2.2.1 row)), (2, .int x2), (3, .int x3), (4, .int x4)] [.int y1, .ref (Γ.2.2.1 20)] σ τ := by
  obtain ⟨hx, hb, hml, hown, hts, hr, hlk, hE⟩ := id B
  unfold bX8_put_59 at hf
  intro H locs ls hP hS hl
  refine jp_puti (k := 0) (ty := .int) B hP hS hX0.1 rfl rfl (by decide) jp_fX8 tyX8 tyX8_ok nmX8 rfl mw_134 rfl (by decide +kernel) rfl rfl dX8_put_59 (fun H locs hP hS => ?_)
  refine lv_aload_n hx hb dX8_put_62 rfl (lv_at hl 0 rfl) ?_
  refine jp_geti (k := 0) B hP hX0.1 rfl rfl (by decide) jp_fX8 rfl mw_134 dX8_put_63 ?_
  refine lv_if_eq (tgt := 71) hx hb dX8_put_66 (by decide) (fun c_1 => ?_) (fun c_1 => ?_)
  · rw [if_pos c_1] at hf
    refine lv_iconst (v := 0) hx hb dX8_put_71 (by decide) ?_
    refine lv_istore (lv' := [(6, .int 0), (0, .ref (Γ.2.2.1 20)), (1, .ref (Γ.2.2.1 row)), (2, .int x2), (3, .int x3), (4, .int x4)]) hx hb dX8_put_72 hl (by decide) rfl (fun ls hl => ?_)
    obtain ⟨⟨e_2, σ_2, τ_2⟩, h_2, hf⟩ := jp_bind hf
    refine lX8_put_74 (r0 := r0) B hX0 hX1 (x2 := x2) (x3 := x3) (x4 := x4) (fun v_2 k_2 => ?_) (fun r_2 k_2 => ?_) _ _ _ _ h_2 H locs ls hP hS (lv_sub hl [1, 2, 3, 4, 5, 0] rfl)
    · subst k_2
      dsimp only at hf
      intro H locs ls hP hS hl
      refine lv_aload_n hx hb dX8_put_111 rfl (lv_at hl 0 rfl) ?_
      refine lv_iload_n hx hb dX8_put_112 rfl (lv_at hl 1 rfl) ?_
      refine lv_bipush (v := 6) hx hb dX8_put_113 (by decide) ?_
      refine lv_iload hx hb dX8_put_115 (lv_at hl 3 rfl) ?_
      refine lv_imul hx hb dX8_put_117 ?_
      refine lv_iload_n hx hb dX8_put_118 rfl (lv_at hl 2 rfl) ?_
      refine lv_iadd hx hb dX8_put_119 ?_
      obtain ⟨g_3, hf⟩ := jp_if hf
      refine jp_iast B hP hS hX1 (jp_ok_vp g_3) dX8_put_120 (fun H locs hP hS => ?_)
      refine lv_iconst (v := 1) hx hb dX8_put_121 (by decide) ?_
      exact jp_endz B hP hS (by decide) dX8_put_122 (jp_inj hf)
    · subst k_2
      dsimp only at hf
      exact jp_inj hf
  · rw [if_neg c_1] at hf
    refine lv_iconst (v := 0) hx hb dX8_put_69 (by decide) ?_
    exact jp_endz B hP hS (by decide) dX8_put_70 (jp_inj hf)
def bX8_put_27 (row : Nat) (N : Nat) (x2 : Int32) (x3 : Int32) (x4 : Int32) (y0 : Int32) (σ : jp_I) (τ : jp_J) : Option (Int32 × jp_I × jp_J) :=
  if y0 = 0 then (if jp_ok ((6 * x4) + x3) 36 = true then if (σ 21 ((6 * x4) + x3).toNatClampNeg) = 0 then (bX8_put_59 row N x2 x3 x4 0 σ τ) else (bX8_put_59 row N x2 x3 x4 2 σ τ) else none) else (bX8_put_59 row N x2 x3 x4 1 σ τ)
set_option maxHeartbeats 4000000 in
set_option maxRecDepth 20000 in
theorem wbX8_put_27 (B : jp_B Γ p s m args meth c RX8 cX8_put 7 (some .boolean)) {row : Nat} {N : Nat} (hX0 : jp_hM Z) (hX1 : jp_hA Z row N) {x2 : Int32} {x3 : Int32} {x4 : Int32} {y0 : Int32} {σ : jp_I} {τ : jp_J} (hf : bX8_put_27 row N x2 x3 x4 y0 σ τ = some (r0, σ0, τ0)) : jp_at p l e (jp_R 1 22) s m args below meth c (MQ below (jp_Q Γ Z (some (.int r0)) σ0 τ0) args s 0 0 (jp_A Γ)) 7 Γ Z 27 [(0, .ref (Γ.2.2.1 20)), (1, .ref (Γ.2.2.1 row)), (2, .int x2), (3, .int x3), (4, .int x4)] [.int y0] σ τ := by
  obtain ⟨hx, hb, hml, hown, hts, hr, hlk, hE⟩ := id B
  unfold bX8_put_27 at hf
  intro H locs ls hP hS hl
  refine lv_istore (lv' := [(5, .int y0), (0, .ref (Γ.2.2.1 20)), (1, .ref (Γ.2.2.1 row)), (2, .int x2), (3, .int x3), (4, .int x4)]) hx hb dX8_put_27 hl (by decide) rfl (fun ls hl => ?_)
  refine lv_aload_n hx hb dX8_put_29 rfl (lv_at hl 1 rfl) ?_
  refine lv_iload hx hb dX8_put_30 (lv_at hl 0 rfl) ?_
  refine lv_if_eq (tgt := 39) hx hb dX8_put_32 (by decide) (fun c_1 => ?_) (fun c_1 => ?_)
  · rw [if_pos c_1] at hf
    refine lv_aload_n hx hb dX8_put_39 rfl (lv_at hl 1 rfl) ?_
    refine jp_getr (k := 4) B hP hX0.1 rfl rfl (by decide) jp_fX8 rfl mw_138 dX8_put_40 ?_
    refine lv_bipush (v := 6) hx hb dX8_put_43 (by decide) ?_
    refine lv_iload hx hb dX8_put_45 (lv_at hl 5 rfl) ?_
    refine lv_imul hx hb dX8_put_47 ?_
    refine lv_iload_n hx hb dX8_put_48 rfl (lv_at hl 4 rfl) ?_
    refine lv_iadd hx hb dX8_put_49 ?_
    obtain ⟨g_2, hf⟩ := jp_if hf
    refine jp_zald B hP hX0.2.1 (jp_ok_vp g_2) dX8_put_50 ?_
    refine lv_if_eq (tgt := 58) hx hb dX8_put_51 (by decide) (fun c_3 => ?_) (fun c_3 => ?_)
    · rw [if_pos c_3] at hf
      refine lv_iconst (v := 0) hx hb dX8_put_58 (by decide) ?_
      exact wbX8_put_59 B hX0 hX1 hf H locs ls hP hS (lv_sub hl [1, 2, 3, 4, 5] rfl)
    · rw [if_neg c_3] at hf
      refine lv_iconst (v := 2) hx hb dX8_put_54 (by decide) ?_
      refine lv_goto (tgt := 59) hx hb dX8_put_55 (by decide) ?_
      exact wbX8_put_59 B hX0 hX1 hf H locs ls hP hS (lv_sub hl [1, 2, 3, 4, 5] rfl)
  · rw [if_neg c_1] at hf
    refine lv_iconst (v := 1) hx hb dX8_put_35 (by decide) ?_
    refine lv_goto (tgt := 59) hx hb dX8_put_36 (by decide) ?_
    exact wbX8_put_59 B hX0 hX1 hf H locs ls hP hS (lv_sub hl [1, 2, 3, 4, 5] rfl)
def bX8_put_22 (row : Nat) (N : Nat) (x2 : Int32) (x3 : Int32) (x4 : Int32) (σ : jp_I) (τ : jp_J) : Option (Int32 × jp_I × jp_J) :=
  bX8_put_27 row N x2 x3 x4 1 σ τ
set_option maxHeartbeats 4000000 in
set_option maxRecDepth 20000 in
theorem wbX8_put_22 (B : jp_B Γ p s m args meth c RX8 cX8_put 7 (some .boolean)) {row : Nat} {N : Nat} (hX0 : jp_hM Z) (hX1 : jp_hA Z row N) {x2 : Int32} {x3 : Int32} {x4 : Int32} {σ : jp_I} {τ : jp_J} (hf : bX8_put_22 row N x2 x3 x4 σ τ = some (r0, σ0, τ0)) : jp_at p l e (jp_R 1 22) s m args below meth c (MQ below (jp_Q Γ Z (some (.int r0)) σ0 τ0) args s 0 0 (jp_A Γ)) 7 Γ Z 22 [(0, .ref (Γ.2.2.1 20)), (1, .ref (Γ.2.2.1 row)), (2, .int x2), (3, .int x3), (4, .int x4)] [] σ τ := by
  obtain ⟨hx, hb, hml, hown, hts, hr, hlk, hE⟩ := id B
  unfold bX8_put_22 at hf
  intro H locs ls hP hS hl
  refine lv_iconst (v := 1) hx hb dX8_put_22 (by decide) ?_
  refine lv_goto (tgt := 27) hx hb dX8_put_23 (by decide) ?_
  exact wbX8_put_27 B hX0 hX1 hf H locs ls hP hS (lv_sub hl [0, 1, 2, 3, 4] rfl)
def fX8_put (row : Nat) (N : Nat) (p2 : Int32) (p3 : Int32) (p4 : Int32) (σ : jp_I) (τ : jp_J) : Option (Int32 × jp_I × jp_J) :=
  if p2 < 0 then (bX8_put_22 row N p2 p3 p4 σ τ) else (if (σ 20 1) ≤ p2 then (bX8_put_22 row N p2 p3 p4 σ τ) else ((fX8_noCell p3 p4 σ τ).bind fun (a_3, σ_3, τ_3) => if a_3 = 0 then (bX8_put_27 row N p2 p3 p4 0 σ_3 τ_3) else (bX8_put_22 row N p2 p3 p4 σ_3 τ_3)))
set_option maxHeartbeats 4000000 in
set_option maxRecDepth 20000 in
theorem ctX8_put {l : Launch} {Γ : jp_G} {Z : Nat → Option jp_Sh} {row : Nat} {N : Nat} (hX0 : jp_hM Z) (hX1 : jp_hA Z row N) {p2 : Int32} {p3 : Int32} {p4 : Int32} {σ σ0 : jp_I} {τ τ0 : jp_J} {r0 : Int32} (hf : fX8_put row N p2 p3 p4 σ τ = some (r0, σ0, τ0)) : jp_M l yX8_put cX8_put 7 (some .boolean) 1 22 Γ Z σ τ [.ref (Γ.2.2.1 20), .ref (Γ.2.2.1 row), .int p2, .int p3, .int p4] (some (.int r0)) σ0 τ0 := by
  refine jp_mk (lv := [(0, .ref (Γ.2.2.1 20)), (1, .ref (Γ.2.2.1 row)), (2, .int p2), (3, .int p3), (4, .int p4)]) (by decide) (Nat.le_of_ble_eq_true rfl) rfl fun p e s m args below meth c B => ?_
  obtain ⟨hx, hb, hml, hown, hts, hr, hlk, hE⟩ := id B
  unfold fX8_put at hf
  intro H locs ls hP hS hl
  refine lv_iload_n hx hb dX8_put_0 rfl (lv_at hl 2 rfl) ?_
  refine lv_if_lt (tgt := 22) hx hb dX8_put_1 (by decide) (fun c_1 => ?_) (fun c_1 => ?_)
  · rw [if_pos c_1] at hf
    exact wbX8_put_22 B hX0 hX1 hf H locs ls hP hS (lv_sub hl [0, 1, 2, 3, 4] rfl)
  · rw [if_neg c_1] at hf
    refine lv_iload_n hx hb dX8_put_4 rfl (lv_at hl 2 rfl) ?_
    refine lv_aload_n hx hb dX8_put_5 rfl (lv_at hl 0 rfl) ?_
    refine jp_geti (k := 1) B hP hX0.1 rfl rfl (by decide) jp_fX8 rfl mw_151 dX8_put_6 ?_
    refine lv_icmp_ge (tgt := 22) hx hb dX8_put_9 (by decide) (fun c_2 => ?_) (fun c_2 => ?_)
    · rw [if_pos c_2] at hf
      exact wbX8_put_22 B hX0 hX1 hf H locs ls hP hS (lv_sub hl [0, 1, 2, 3, 4] rfl)
    · rw [if_neg c_2] at hf
      refine lv_aload_n hx hb dX8_put_12 rfl (lv_at hl 0 rfl) ?_
      refine lv_iload_n hx hb dX8_put_13 rfl (lv_at hl 3 rfl) ?_
      refine lv_iload hx hb dX8_put_14 (lv_at hl 4 rfl) ?_
      obtain ⟨⟨a_3, σ_3, τ_3⟩, h_3, hf⟩ := jp_bind hf
      dsimp only at hf
      refine jp_callV (rest := []) B hP hS hl (ctX8_noCell ⟨hX0.1, hX0.2.1, hX0.2.2.1, hX0.2.2.2.1, hX0.2.2.2.2.1, hX0.2.2.2.2.2.1, hX0.2.2.2.2.2.2.1, hX0.2.2.2.2.2.2.2⟩ h_3) hX0.1 rfl mw_205 mw_202 mw_203 mw_204 mw_5 ddX8_noCell ⟨Nat.le_of_ble_eq_true rfl, Nat.le_of_ble_eq_true rfl⟩ ⟨Nat.zero_le _, Nat.zero_le _⟩ rfl (Nat.le_of_ble_eq_true rfl) dX8_put_16 (fun H locs hP hS => ?_)
      refine lv_if_eq (tgt := 26) hx hb dX8_put_19 (by decide) (fun c_4 => ?_) (fun c_4 => ?_)
      · rw [if_pos c_4] at hf
        refine lv_iconst (v := 0) hx hb dX8_put_26 (by decide) ?_
        exact wbX8_put_27 B hX0 hX1 hf H locs ls hP hS (lv_sub hl [0, 1, 2, 3, 4] rfl)
      · rw [if_neg c_4] at hf
        exact wbX8_put_22 B hX0 hX1 hf H locs ls hP hS (lv_sub hl [0, 1, 2, 3, 4] rfl)
end
-- X8_start
section
variable {p : Program} {l : Launch} {e : Jvm.Env} {s : State} {m : MethodId} {args : Array Value} {below : List Frame} {meth : Method} {c : Code} {Γ : jp_G} {Z : Nat → Option jp_Sh} {r0 : Int32} {σ0 : jp_I} {τ0 : jp_J}
def fX8_start (p1 : Int32) (p2 : Int32) (p3 : Int32) (σ : jp_I) (τ : jp_J) : Option (Int32 × jp_I × jp_J) :=
  (fX8_put 22 4 p1 p2 p3 σ τ).bind fun (a_1, σ_1, τ_1) => if jp_isb a_1 = true then some (a_1, σ_1, τ_1) else none
set_option maxHeartbeats 4000000 in
set_option maxRecDepth 20000 in
theorem ctX8_start {l : Launch} {Γ : jp_G} {Z : Nat → Option jp_Sh} (hX0 : jp_hM Z) {p1 : Int32} {p2 : Int32} {p3 : Int32} {σ σ0 : jp_I} {τ τ0 : jp_J} {r0 : Int32} (hf : fX8_start p1 p2 p3 σ τ = some (r0, σ0, τ0)) : jp_M l yX8_start cX8_start 4 (some .boolean) 2 48 Γ Z σ τ [.ref (Γ.2.2.1 20), .int p1, .int p2, .int p3] (some (.int r0)) σ0 τ0 := by
  refine jp_mk (lv := [(0, .ref (Γ.2.2.1 20)), (1, .int p1), (2, .int p2), (3, .int p3)]) (by decide) (Nat.le_of_ble_eq_true rfl) rfl fun p e s m args below meth c B => ?_
  obtain ⟨hx, hb, hml, hown, hts, hr, hlk, hE⟩ := id B
  unfold fX8_start at hf
  intro H locs ls hP hS hl
  refine lv_aload_n hx hb dX8_start_0 rfl (lv_at hl 0 rfl) ?_
  refine lv_aload_n hx hb dX8_start_1 rfl (lv_at hl 0 rfl) ?_
  refine jp_getr (k := 5) B hP hX0.1 rfl rfl (by decide) jp_fX8 rfl mw_139 dX8_start_2 ?_
  refine lv_iload_n hx hb dX8_start_5 rfl (lv_at hl 1 rfl) ?_
  refine lv_iload_n hx hb dX8_start_6 rfl (lv_at hl 2 rfl) ?_
  refine lv_iload_n hx hb dX8_start_7 rfl (lv_at hl 3 rfl) ?_
  obtain ⟨⟨a_1, σ_1, τ_1⟩, h_1, hf⟩ := jp_bind hf
  dsimp only at hf
  refine jp_callV (rest := []) B hP hS hl (ctX8_put ⟨hX0.1, hX0.2.1, hX0.2.2.1, hX0.2.2.2.1, hX0.2.2.2.2.1, hX0.2.2.2.2.2.1, hX0.2.2.2.2.2.2.1, hX0.2.2.2.2.2.2.2⟩ hX0.2.2.1 h_1) hX0.1 rfl mw_233 mw_230 mw_231 mw_232 mw_5 ddX8_put ⟨Nat.le_of_ble_eq_true rfl, Nat.le_of_ble_eq_true rfl⟩ ⟨Nat.zero_le _, Nat.zero_le _⟩ rfl (Nat.le_of_ble_eq_true rfl) dX8_start_8 (fun H locs hP hS => ?_)
  obtain ⟨g_2, hf⟩ := jp_if hf
  exact jp_endz B hP hS g_2 dX8_start_11 (jp_inj hf)
end
-- X8_end
section
variable {p : Program} {l : Launch} {e : Jvm.Env} {s : State} {m : MethodId} {args : Array Value} {below : List Frame} {meth : Method} {c : Code} {Γ : jp_G} {Z : Nat → Option jp_Sh} {r0 : Int32} {σ0 : jp_I} {τ0 : jp_J}
def fX8_end (p1 : Int32) (p2 : Int32) (p3 : Int32) (σ : jp_I) (τ : jp_J) : Option (Int32 × jp_I × jp_J) :=
  (fX8_put 23 4 p1 p2 p3 σ τ).bind fun (a_1, σ_1, τ_1) => if jp_isb a_1 = true then some (a_1, σ_1, τ_1) else none
set_option maxHeartbeats 4000000 in
set_option maxRecDepth 20000 in
theorem ctX8_end {l : Launch} {Γ : jp_G} {Z : Nat → Option jp_Sh} (hX0 : jp_hM Z) {p1 : Int32} {p2 : Int32} {p3 : Int32} {σ σ0 : jp_I} {τ τ0 : jp_J} {r0 : Int32} (hf : fX8_end p1 p2 p3 σ τ = some (r0, σ0, τ0)) : jp_M l yX8_end cX8_end 4 (some .boolean) 2 48 Γ Z σ τ [.ref (Γ.2.2.1 20), .int p1, .int p2, .int p3] (some (.int r0)) σ0 τ0 := by
  refine jp_mk (lv := [(0, .ref (Γ.2.2.1 20)), (1, .int p1), (2, .int p2), (3, .int p3)]) (by decide) (Nat.le_of_ble_eq_true rfl) rfl fun p e s m args below meth c B => ?_
  obtain ⟨hx, hb, hml, hown, hts, hr, hlk, hE⟩ := id B
  unfold fX8_end at hf
  intro H locs ls hP hS hl
  refine lv_aload_n hx hb dX8_end_0 rfl (lv_at hl 0 rfl) ?_
  refine lv_aload_n hx hb dX8_end_1 rfl (lv_at hl 0 rfl) ?_
  refine jp_getr (k := 6) B hP hX0.1 rfl rfl (by decide) jp_fX8 rfl mw_140 dX8_end_2 ?_
  refine lv_iload_n hx hb dX8_end_5 rfl (lv_at hl 1 rfl) ?_
  refine lv_iload_n hx hb dX8_end_6 rfl (lv_at hl 2 rfl) ?_
  refine lv_iload_n hx hb dX8_end_7 rfl (lv_at hl 3 rfl) ?_
  obtain ⟨⟨a_1, σ_1, τ_1⟩, h_1, hf⟩ := jp_bind hf
  dsimp only at hf
  refine jp_callV (rest := []) B hP hS hl (ctX8_put ⟨hX0.1, hX0.2.1, hX0.2.2.1, hX0.2.2.2.1, hX0.2.2.2.2.1, hX0.2.2.2.2.2.1, hX0.2.2.2.2.2.2.1, hX0.2.2.2.2.2.2.2⟩ hX0.2.2.2.1 h_1) hX0.1 rfl mw_233 mw_230 mw_231 mw_232 mw_5 ddX8_put ⟨Nat.le_of_ble_eq_true rfl, Nat.le_of_ble_eq_true rfl⟩ ⟨Nat.zero_le _, Nat.zero_le _⟩ rfl (Nat.le_of_ble_eq_true rfl) dX8_end_8 (fun H locs hP hS => ?_)
  obtain ⟨g_2, hf⟩ := jp_if hf
  exact jp_endz B hP hS g_2 dX8_end_11 (jp_inj hf)
end
-- X8_swap
section
variable {p : Program} {l : Launch} {e : Jvm.Env} {s : State} {m : MethodId} {args : Array Value} {below : List Frame} {meth : Method} {c : Code} {Γ : jp_G} {Z : Nat → Option jp_Sh} {r0 : Int32} {σ0 : jp_I} {τ0 : jp_J}
def fX8_swap (p1 : Int32) (σ : jp_I) (τ : jp_J) : Option (Int32 × jp_I × jp_J) :=
  if jp_isb p1 = true then if jp_isb ((jp_up σ 20 0 0) 20 7) = true then some ((jp_up σ 20 0 0) 20 7, jp_up (jp_up σ 20 0 0) 20 7 p1, τ) else none else none
set_option maxHeartbeats 4000000 in
set_option maxRecDepth 20000 in
theorem ctX8_swap {l : Launch} {Γ : jp_G} {Z : Nat → Option jp_Sh} (hX0 : jp_hM Z) {p1 : Int32} {σ σ0 : jp_I} {τ τ0 : jp_J} {r0 : Int32} (hf : fX8_swap p1 σ τ = some (r0, σ0, τ0)) : jp_M l yX8_swap cX8_swap 3 (some .boolean) 0 0 Γ Z σ τ [.ref (Γ.2.2.1 20), .int p1] (some (.int r0)) σ0 τ0 := by
  refine jp_mk (lv := [(0, .ref (Γ.2.2.1 20)), (1, .int p1)]) (by decide) (Nat.le_of_ble_eq_true rfl) rfl fun p e s m args below meth c B => ?_
  obtain ⟨hx, hb, hml, hown, hts, hr, hlk, hE⟩ := id B
  unfold fX8_swap at hf
  intro H locs ls hP hS hl
  refine lv_aload_n hx hb dX8_swap_0 rfl (lv_at hl 0 rfl) ?_
  refine lv_iconst (v := 0) hx hb dX8_swap_1 (by decide) ?_
  refine jp_puti (k := 0) (ty := .int) B hP hS hX0.1 rfl rfl (by decide) jp_fX8 tyX8 tyX8_ok nmX8 rfl mw_134 rfl (by decide +kernel) rfl rfl dX8_swap_2 (fun H locs hP hS => ?_)
  refine lv_aload_n hx hb dX8_swap_5 rfl (lv_at hl 0 rfl) ?_
  refine jp_geti (k := 7) B hP hX0.1 rfl rfl (by decide) jp_fX8 rfl mw_141 dX8_swap_6 ?_
  refine lv_istore_n (lv' := [(2, .int ((jp_up σ 20 0 0) 20 7)), (0, .ref (Γ.2.2.1 20)), (1, .int p1)]) hx hb dX8_swap_9 rfl hl (by decide) rfl (fun ls hl => ?_)
  refine lv_aload_n hx hb dX8_swap_10 rfl (lv_at hl 1 rfl) ?_
  refine lv_iload_n hx hb dX8_swap_11 rfl (lv_at hl 2 rfl) ?_
  obtain ⟨g_1, hf⟩ := jp_if hf
  refine jp_puti (k := 7) (ty := .boolean) B hP hS hX0.1 rfl rfl (by decide) jp_fX8 tyX8 tyX8_ok nmX8 rfl mw_141 rfl (by decide +kernel) (jp_isb_n g_1) (jp_isb_f g_1) dX8_swap_12 (fun H locs hP hS => ?_)
  refine lv_iload_n hx hb dX8_swap_15 rfl (lv_at hl 0 rfl) ?_
  obtain ⟨g_2, hf⟩ := jp_if hf
  exact jp_endz B hP hS g_2 dX8_swap_16 (jp_inj hf)
end
-- X8_seed
section
variable {p : Program} {l : Launch} {e : Jvm.Env} {s : State} {m : MethodId} {args : Array Value} {below : List Frame} {meth : Method} {c : Code} {Γ : jp_G} {Z : Nat → Option jp_Sh} {r0 : Int32} {σ0 : jp_I} {τ0 : jp_J}
def bX8_seed_10 (x1 : Int32) (y1 : Int32) (σ : jp_I) (τ : jp_J) : Option (Int32 × jp_I × jp_J) :=
  if ((jp_up σ 20 0 y1) 20 0) = 0 then (some (0, jp_up σ 20 0 y1, jp_upl τ 20 8 x1.toInt64)) else (some (0, jp_up σ 20 0 y1, τ))
set_option maxHeartbeats 4000000 in
set_option maxRecDepth 20000 in
theorem wbX8_seed_10 (B : jp_B Γ p s m args meth c RX8 cX8_seed 2 none) (hX0 : jp_hM Z) {x1 : Int32} {y1 : Int32} {σ : jp_I} {τ : jp_J} (hf : bX8_seed_10 x1 y1 σ τ = some (r0, σ0, τ0)) : jp_at p l e (jp_R 0 0) s m args below meth c (MQ below (jp_Q Γ Z none σ0 τ0) args s 0 0 (jp_A Γ)) 2 Γ Z 10 [(0, .ref (Γ.2.2.1 20)), (1, .int x1)] [.int y1, .ref (Γ.2.2.1 20)] σ τ := by
  obtain ⟨hx, hb, hml, hown, hts, hr, hlk, hE⟩ := id B
  unfold bX8_seed_10 at hf
  intro H locs ls hP hS hl
  refine jp_puti (k := 0) (ty := .int) B hP hS hX0.1 rfl rfl (by decide) jp_fX8 tyX8 tyX8_ok nmX8 rfl mw_134 rfl (by decide +kernel) rfl rfl dX8_seed_10 (fun H locs hP hS => ?_)
  refine lv_aload_n hx hb dX8_seed_13 rfl (lv_at hl 0 rfl) ?_
  refine jp_geti (k := 0) B hP hX0.1 rfl rfl (by decide) jp_fX8 rfl mw_134 dX8_seed_14 ?_
  refine lv_if_ne (tgt := 26) hx hb dX8_seed_17 (by decide) (fun c_1 => ?_) (fun c_1 => ?_)
  · rw [if_neg c_1] at hf
    exact jp_endv B hP hS dX8_seed_26 (jp_inj hf)
  · rw [if_pos c_1] at hf
    refine lv_aload_n hx hb dX8_seed_20 rfl (lv_at hl 0 rfl) ?_
    refine lv_iload_n hx hb dX8_seed_21 rfl (lv_at hl 1 rfl) ?_
    refine lv_i2l hx hb dX8_seed_22 rfl ?_
    refine jp_putl (k := 8) B hP hS hX0.1 rfl rfl (by decide) jp_fX8 tyX8 tyX8_ok nmX8 rfl mw_142 rfl (by decide +kernel) dX8_seed_23 (fun H locs hP hS => ?_)
    exact jp_endv B hP hS dX8_seed_26 (jp_inj hf)
def fX8_seed (p1 : Int32) (σ : jp_I) (τ : jp_J) : Option (Int32 × jp_I × jp_J) :=
  if 0 ≤ p1 then (bX8_seed_10 p1 0 σ τ) else (bX8_seed_10 p1 1 σ τ)
set_option maxHeartbeats 4000000 in
set_option maxRecDepth 20000 in
theorem ctX8_seed {l : Launch} {Γ : jp_G} {Z : Nat → Option jp_Sh} (hX0 : jp_hM Z) {p1 : Int32} {σ σ0 : jp_I} {τ τ0 : jp_J} {r0 : Int32} (hf : fX8_seed p1 σ τ = some (r0, σ0, τ0)) : jp_M l yX8_seed cX8_seed 2 none 0 0 Γ Z σ τ [.ref (Γ.2.2.1 20), .int p1] none σ0 τ0 := by
  refine jp_mk (lv := [(0, .ref (Γ.2.2.1 20)), (1, .int p1)]) (by decide) (Nat.le_of_ble_eq_true rfl) rfl fun p e s m args below meth c B => ?_
  obtain ⟨hx, hb, hml, hown, hts, hr, hlk, hE⟩ := id B
  unfold fX8_seed at hf
  intro H locs ls hP hS hl
  refine lv_aload_n hx hb dX8_seed_0 rfl (lv_at hl 0 rfl) ?_
  refine lv_iload_n hx hb dX8_seed_1 rfl (lv_at hl 1 rfl) ?_
  refine lv_if_ge (tgt := 9) hx hb dX8_seed_2 (by decide) (fun c_1 => ?_) (fun c_1 => ?_)
  · rw [if_pos c_1] at hf
    refine lv_iconst (v := 0) hx hb dX8_seed_9 (by decide) ?_
    exact wbX8_seed_10 B hX0 hf H locs ls hP hS (lv_sub hl [0, 1] rfl)
  · rw [if_neg c_1] at hf
    refine lv_iconst (v := 1) hx hb dX8_seed_5 (by decide) ?_
    refine lv_goto (tgt := 10) hx hb dX8_seed_6 (by decide) ?_
    exact wbX8_seed_10 B hX0 hf H locs ls hP hS (lv_sub hl [0, 1] rfl)
end
-- X8_solve
section
variable {p : Program} {l : Launch} {e : Jvm.Env} {s : State} {m : MethodId} {args : Array Value} {below : List Frame} {meth : Method} {c : Code} {Γ : jp_G} {Z : Nat → Option jp_Sh} {r0 : Int32} {σ0 : jp_I} {τ0 : jp_J}
def bX8_solve_58 (σ : jp_I) (τ : jp_J) : Option (Int32 × jp_I × jp_J) :=
  if (σ 20 9) = 0 then (some ((-1), σ, τ)) else (some (σ 20 11, σ, τ))
set_option maxHeartbeats 4000000 in
set_option maxRecDepth 20000 in
theorem wbX8_solve_58 (B : jp_B Γ p s m args meth c RX8 cX8_solve 2 (some .int)) (hX0 : jp_hM Z) {σ : jp_I} {τ : jp_J} (hf : bX8_solve_58 σ τ = some (r0, σ0, τ0)) : jp_at p l e (jp_R 6 144) s m args below meth c (MQ below (jp_Q Γ Z (some (.int r0)) σ0 τ0) args s 0 0 (jp_A Γ)) 2 Γ Z 58 [(0, .ref (Γ.2.2.1 20))] [] σ τ := by
  obtain ⟨hx, hb, hml, hown, hts, hr, hlk, hE⟩ := id B
  unfold bX8_solve_58 at hf
  intro H locs ls hP hS hl
  refine lv_aload_n hx hb dX8_solve_58 rfl (lv_at hl 0 rfl) ?_
  refine jp_geti (k := 9) B hP hX0.1 rfl rfl (by decide) jp_fX8 rfl mw_143 dX8_solve_59 ?_
  refine lv_if_eq (tgt := 72) hx hb dX8_solve_62 (by decide) (fun c_1 => ?_) (fun c_1 => ?_)
  · rw [if_pos c_1] at hf
    refine lv_iconst (v := -1) hx hb dX8_solve_72 (by decide) ?_
    exact jp_endi B hP hS dX8_solve_73 (jp_inj hf)
  · rw [if_neg c_1] at hf
    refine lv_aload_n hx hb dX8_solve_65 rfl (lv_at hl 0 rfl) ?_
    refine jp_geti (k := 11) B hP hX0.1 rfl rfl (by decide) jp_fX8 rfl mw_145 dX8_solve_66 ?_
    refine lv_goto (tgt := 73) hx hb dX8_solve_69 (by decide) ?_
    exact jp_endi B hP hS dX8_solve_73 (jp_inj hf)
def bX8_solve_26 (x1 : Int32) (y1 : Int32) (σ : jp_I) (τ : jp_J) : Option (Int32 × jp_I × jp_J) :=
  if ((jp_up σ 20 0 y1) 20 0) = 0 then (if 3 ≤ ((jp_up σ 20 0 y1) 20 1) then ((fX8_byPriorities x1 (jp_up σ 20 0 y1) τ).bind fun (a_3, σ_3, τ_3) => bX8_solve_58 σ_3 τ_3) else ((fX8_jointly (jp_up σ 20 0 y1) τ).bind fun (a_4, σ_4, τ_4) => bX8_solve_58 σ_4 τ_4)) else (some (0, jp_up σ 20 0 y1, τ))
set_option maxHeartbeats 4000000 in
set_option maxRecDepth 20000 in
theorem wbX8_solve_26 (B : jp_B Γ p s m args meth c RX8 cX8_solve 2 (some .int)) (hX0 : jp_hM Z) {x1 : Int32} {y1 : Int32} {σ : jp_I} {τ : jp_J} (hf : bX8_solve_26 x1 y1 σ τ = some (r0, σ0, τ0)) : jp_at p l e (jp_R 6 144) s m args below meth c (MQ below (jp_Q Γ Z (some (.int r0)) σ0 τ0) args s 0 0 (jp_A Γ)) 2 Γ Z 26 [(0, .ref (Γ.2.2.1 20)), (1, .int x1)] [.int y1, .ref (Γ.2.2.1 20)] σ τ := by
  obtain ⟨hx, hb, hml, hown, hts, hr, hlk, hE⟩ := id B
  unfold bX8_solve_26 at hf
  intro H locs ls hP hS hl
  refine jp_puti (k := 0) (ty := .int) B hP hS hX0.1 rfl rfl (by decide) jp_fX8 tyX8 tyX8_ok nmX8 rfl mw_134 rfl (by decide +kernel) rfl rfl dX8_solve_26 (fun H locs hP hS => ?_)
  refine lv_aload_n hx hb dX8_solve_29 rfl (lv_at hl 0 rfl) ?_
  refine jp_geti (k := 0) B hP hX0.1 rfl rfl (by decide) jp_fX8 rfl mw_134 dX8_solve_30 ?_
  refine lv_if_eq (tgt := 38) hx hb dX8_solve_33 (by decide) (fun c_1 => ?_) (fun c_1 => ?_)
  · rw [if_pos c_1] at hf
    refine lv_aload_n hx hb dX8_solve_38 rfl (lv_at hl 0 rfl) ?_
    refine jp_geti (k := 1) B hP hX0.1 rfl rfl (by decide) jp_fX8 rfl mw_151 dX8_solve_39 ?_
    refine lv_iconst (v := 3) hx hb dX8_solve_42 (by decide) ?_
    refine lv_icmp_ge (tgt := 53) hx hb dX8_solve_43 (by decide) (fun c_2 => ?_) (fun c_2 => ?_)
    · rw [if_pos c_2] at hf
      refine lv_aload_n hx hb dX8_solve_53 rfl (lv_at hl 0 rfl) ?_
      refine lv_iload_n hx hb dX8_solve_54 rfl (lv_at hl 1 rfl) ?_
      obtain ⟨⟨a_3, σ_3, τ_3⟩, h_3, hf⟩ := jp_bind hf
      dsimp only at hf
      refine jp_callV (rest := []) B hP hS hl (ctX8_byPriorities ⟨hX0.1, hX0.2.1, hX0.2.2.1, hX0.2.2.2.1, hX0.2.2.2.2.1, hX0.2.2.2.2.2.1, hX0.2.2.2.2.2.2.1, hX0.2.2.2.2.2.2.2⟩ h_3) hX0.1 rfl mw_445 mw_442 mw_443 mw_444 mw_5 ddX8_byPriorities ⟨Nat.le_of_ble_eq_true rfl, Nat.le_of_ble_eq_true rfl⟩ ⟨Nat.zero_le _, Nat.zero_le _⟩ rfl (Nat.le_of_ble_eq_true rfl) dX8_solve_55 (fun H locs hP hS => ?_)
      exact wbX8_solve_58 B hX0 hf H locs ls hP hS (lv_sub hl [0] rfl)
    · rw [if_neg c_2] at hf
      refine lv_aload_n hx hb dX8_solve_46 rfl (lv_at hl 0 rfl) ?_
      obtain ⟨⟨a_4, σ_4, τ_4⟩, h_4, hf⟩ := jp_bind hf
      dsimp only at hf
      refine jp_callV (rest := []) B hP hS hl (ctX8_jointly ⟨hX0.1, hX0.2.1, hX0.2.2.1, hX0.2.2.2.1, hX0.2.2.2.2.1, hX0.2.2.2.2.2.1, hX0.2.2.2.2.2.2.1, hX0.2.2.2.2.2.2.2⟩ h_4) hX0.1 rfl mw_413 mw_410 mw_411 mw_412 mw_5 ddX8_jointly ⟨Nat.le_of_ble_eq_true rfl, Nat.le_of_ble_eq_true rfl⟩ ⟨Nat.zero_le _, Nat.zero_le _⟩ rfl (Nat.le_of_ble_eq_true rfl) dX8_solve_47 (fun H locs hP hS => ?_)
      refine lv_goto (tgt := 58) hx hb dX8_solve_50 (by decide) ?_
      exact wbX8_solve_58 B hX0 hf H locs ls hP hS (lv_sub hl [0] rfl)
  · rw [if_neg c_1] at hf
    refine lv_iconst (v := 0) hx hb dX8_solve_36 (by decide) ?_
    exact jp_endi B hP hS dX8_solve_37 (jp_inj hf)
def bX8_solve_10 (x1 : Int32) (σ : jp_I) (τ : jp_J) : Option (Int32 × jp_I × jp_J) :=
  bX8_solve_26 x1 1 σ τ
set_option maxHeartbeats 4000000 in
set_option maxRecDepth 20000 in
theorem wbX8_solve_10 (B : jp_B Γ p s m args meth c RX8 cX8_solve 2 (some .int)) (hX0 : jp_hM Z) {x1 : Int32} {σ : jp_I} {τ : jp_J} (hf : bX8_solve_10 x1 σ τ = some (r0, σ0, τ0)) : jp_at p l e (jp_R 6 144) s m args below meth c (MQ below (jp_Q Γ Z (some (.int r0)) σ0 τ0) args s 0 0 (jp_A Γ)) 2 Γ Z 10 [(0, .ref (Γ.2.2.1 20)), (1, .int x1)] [.ref (Γ.2.2.1 20)] σ τ := by
  obtain ⟨hx, hb, hml, hown, hts, hr, hlk, hE⟩ := id B
  unfold bX8_solve_10 at hf
  intro H locs ls hP hS hl
  refine lv_iconst (v := 1) hx hb dX8_solve_10 (by decide) ?_
  refine lv_goto (tgt := 26) hx hb dX8_solve_11 (by decide) ?_
  exact wbX8_solve_26 B hX0 hf H locs ls hP hS (lv_sub hl [0, 1] rfl)
def fX8_solve (p1 : Int32) (σ : jp_I) (τ : jp_J) : Option (Int32 × jp_I × jp_J) :=
  if p1 < 0 then (bX8_solve_10 p1 σ τ) else (if p1 ≤ 5 then ((fX8_missing σ τ).bind fun (a_3, σ_3, τ_3) => if a_3 = 0 then (bX8_solve_26 p1 0 σ_3 τ_3) else (bX8_solve_26 p1 2 σ_3 τ_3)) else (bX8_solve_10 p1 σ τ))
set_option maxHeartbeats 4000000 in
set_option maxRecDepth 20000 in
theorem ctX8_solve {l : Launch} {Γ : jp_G} {Z : Nat → Option jp_Sh} (hX0 : jp_hM Z) {p1 : Int32} {σ σ0 : jp_I} {τ τ0 : jp_J} {r0 : Int32} (hf : fX8_solve p1 σ τ = some (r0, σ0, τ0)) : jp_M l yX8_solve cX8_solve 2 (some .int) 6 144 Γ Z σ τ [.ref (Γ.2.2.1 20), .int p1] (some (.int r0)) σ0 τ0 := by
  refine jp_mk (lv := [(0, .ref (Γ.2.2.1 20)), (1, .int p1)]) (by decide) (Nat.le_of_ble_eq_true rfl) rfl fun p e s m args below meth c B => ?_
  obtain ⟨hx, hb, hml, hown, hts, hr, hlk, hE⟩ := id B
  unfold fX8_solve at hf
  intro H locs ls hP hS hl
  refine lv_aload_n hx hb dX8_solve_0 rfl (lv_at hl 0 rfl) ?_
  refine lv_iload_n hx hb dX8_solve_1 rfl (lv_at hl 1 rfl) ?_
  refine lv_if_lt (tgt := 10) hx hb dX8_solve_2 (by decide) (fun c_1 => ?_) (fun c_1 => ?_)
  · rw [if_pos c_1] at hf
    exact wbX8_solve_10 B hX0 hf H locs ls hP hS (lv_sub hl [0, 1] rfl)
  · rw [if_neg c_1] at hf
    refine lv_iload_n hx hb dX8_solve_5 rfl (lv_at hl 1 rfl) ?_
    refine lv_iconst (v := 5) hx hb dX8_solve_6 (by decide) ?_
    refine lv_icmp_le (tgt := 14) hx hb dX8_solve_7 (by decide) (fun c_2 => ?_) (fun c_2 => ?_)
    · rw [if_pos c_2] at hf
      refine lv_aload_n hx hb dX8_solve_14 rfl (lv_at hl 0 rfl) ?_
      obtain ⟨⟨a_3, σ_3, τ_3⟩, h_3, hf⟩ := jp_bind hf
      dsimp only at hf
      refine jp_callV (rest := [.ref (Γ.2.2.1 20)]) B hP hS hl (ctX8_missing ⟨hX0.1, hX0.2.1, hX0.2.2.1, hX0.2.2.2.1, hX0.2.2.2.2.1, hX0.2.2.2.2.2.1, hX0.2.2.2.2.2.2.1, hX0.2.2.2.2.2.2.2⟩ h_3) hX0.1 rfl mw_409 mw_406 mw_407 mw_408 mw_5 ddX8_missing ⟨Nat.le_of_ble_eq_true rfl, Nat.le_of_ble_eq_true rfl⟩ ⟨Nat.zero_le _, Nat.zero_le _⟩ rfl (Nat.le_of_ble_eq_true rfl) dX8_solve_15 (fun H locs hP hS => ?_)
      refine lv_if_eq (tgt := 25) hx hb dX8_solve_18 (by decide) (fun c_4 => ?_) (fun c_4 => ?_)
      · rw [if_pos c_4] at hf
        refine lv_iconst (v := 0) hx hb dX8_solve_25 (by decide) ?_
        exact wbX8_solve_26 B hX0 hf H locs ls hP hS (lv_sub hl [0, 1] rfl)
      · rw [if_neg c_4] at hf
        refine lv_iconst (v := 2) hx hb dX8_solve_21 (by decide) ?_
        refine lv_goto (tgt := 26) hx hb dX8_solve_22 (by decide) ?_
        exact wbX8_solve_26 B hX0 hf H locs ls hP hS (lv_sub hl [0, 1] rfl)
    · rw [if_neg c_2] at hf
      exact wbX8_solve_10 B hX0 hf H locs ls hP hS (lv_sub hl [0, 1] rfl)
end
-- X8_exact
section
variable {p : Program} {l : Launch} {e : Jvm.Env} {s : State} {m : MethodId} {args : Array Value} {below : List Frame} {meth : Method} {c : Code} {Γ : jp_G} {Z : Nat → Option jp_Sh} {r0 : Int32} {σ0 : jp_I} {τ0 : jp_J}
def fX8_exact (σ : jp_I) (τ : jp_J) : Option (Int32 × jp_I × jp_J) :=
  if ((jp_up σ 20 0 0) 20 9) = 0 then (some (0, jp_up σ 20 0 0, τ)) else (if ((jp_up σ 20 0 0) 20 10) = 0 then (some (0, jp_up σ 20 0 0, τ)) else (some (1, jp_up σ 20 0 0, τ)))
set_option maxHeartbeats 4000000 in
set_option maxRecDepth 20000 in
theorem ctX8_exact {l : Launch} {Γ : jp_G} {Z : Nat → Option jp_Sh} (hX0 : jp_hM Z) {σ σ0 : jp_I} {τ τ0 : jp_J} {r0 : Int32} (hf : fX8_exact σ τ = some (r0, σ0, τ0)) : jp_M l yX8_exact cX8_exact 1 (some .boolean) 0 0 Γ Z σ τ [.ref (Γ.2.2.1 20)] (some (.int r0)) σ0 τ0 := by
  refine jp_mk (lv := [(0, .ref (Γ.2.2.1 20))]) (by decide) (Nat.le_of_ble_eq_true rfl) rfl fun p e s m args below meth c B => ?_
  obtain ⟨hx, hb, hml, hown, hts, hr, hlk, hE⟩ := id B
  unfold fX8_exact at hf
  intro H locs ls hP hS hl
  refine lv_aload_n hx hb dX8_exact_0 rfl (lv_at hl 0 rfl) ?_
  refine lv_iconst (v := 0) hx hb dX8_exact_1 (by decide) ?_
  refine jp_puti (k := 0) (ty := .int) B hP hS hX0.1 rfl rfl (by decide) jp_fX8 tyX8 tyX8_ok nmX8 rfl mw_134 rfl (by decide +kernel) rfl rfl dX8_exact_2 (fun H locs hP hS => ?_)
  refine lv_aload_n hx hb dX8_exact_5 rfl (lv_at hl 0 rfl) ?_
  refine jp_geti (k := 9) B hP hX0.1 rfl rfl (by decide) jp_fX8 rfl mw_143 dX8_exact_6 ?_
  refine lv_if_eq (tgt := 23) hx hb dX8_exact_9 (by decide) (fun c_1 => ?_) (fun c_1 => ?_)
  · rw [if_pos c_1] at hf
    refine lv_iconst (v := 0) hx hb dX8_exact_23 (by decide) ?_
    exact jp_endz B hP hS (by decide) dX8_exact_24 (jp_inj hf)
  · rw [if_neg c_1] at hf
    refine lv_aload_n hx hb dX8_exact_12 rfl (lv_at hl 0 rfl) ?_
    refine jp_geti (k := 10) B hP hX0.1 rfl rfl (by decide) jp_fX8 rfl mw_144 dX8_exact_13 ?_
    refine lv_if_eq (tgt := 23) hx hb dX8_exact_16 (by decide) (fun c_2 => ?_) (fun c_2 => ?_)
    · rw [if_pos c_2] at hf
      refine lv_iconst (v := 0) hx hb dX8_exact_23 (by decide) ?_
      exact jp_endz B hP hS (by decide) dX8_exact_24 (jp_inj hf)
    · rw [if_neg c_2] at hf
      refine lv_iconst (v := 1) hx hb dX8_exact_19 (by decide) ?_
      refine lv_goto (tgt := 24) hx hb dX8_exact_20 (by decide) ?_
      exact jp_endz B hP hS (by decide) dX8_exact_24 (jp_inj hf)
end
-- X8_at
section
variable {p : Program} {l : Launch} {e : Jvm.Env} {s : State} {m : MethodId} {args : Array Value} {below : List Frame} {meth : Method} {c : Code} {Γ : jp_G} {Z : Nat → Option jp_Sh} {r0 : Int32} {σ0 : jp_I} {τ0 : jp_J}
def bX8_at_79 (x3 : Int32) (y1 : Int32) (y2 : Int32) (σ : jp_I) (τ : jp_J) : Option (Int32 × jp_I × jp_J) :=
  if jp_ok (y1 + y2) 1600 = true then if x3 = 0 then (some ((σ 24 (y1 + y2).toNatClampNeg) - (σ 24 (y1 + y2).toNatClampNeg) / 6 * 6, σ, τ)) else (some ((σ 24 (y1 + y2).toNatClampNeg) / 6, σ, τ)) else none
set_option maxHeartbeats 4000000 in
set_option maxRecDepth 20000 in
theorem wbX8_at_79 (B : jp_B Γ p s m args meth c RX8 cX8_at 5 (some .int)) (hX0 : jp_hM Z) {x3 : Int32} {y1 : Int32} {y2 : Int32} {σ : jp_I} {τ : jp_J} (hf : bX8_at_79 x3 y1 y2 σ τ = some (r0, σ0, τ0)) : jp_at p l e (jp_R 0 0) s m args below meth c (MQ below (jp_Q Γ Z (some (.int r0)) σ0 τ0) args s 0 0 (jp_A Γ)) 5 Γ Z 79 [(3, .int x3)] [.int y2, .int y1, .ref (Γ.2.2.1 24)] σ τ := by
  obtain ⟨hx, hb, hml, hown, hts, hr, hlk, hE⟩ := id B
  unfold bX8_at_79 at hf
  intro H locs ls hP hS hl
  refine lv_iadd hx hb dX8_at_79 ?_
  obtain ⟨g_1, hf⟩ := jp_if hf
  refine jp_iald B hP hX0.2.2.2.2.1 (jp_ok_vp g_1) dX8_at_80 ?_
  refine lv_istore (lv' := [(4, .int (σ 24 (y1 + y2).toNatClampNeg)), (3, .int x3)]) hx hb dX8_at_81 hl (by decide) rfl (fun ls hl => ?_)
  refine lv_iload_n hx hb dX8_at_83 rfl (lv_at hl 1 rfl) ?_
  refine lv_if_ne (tgt := 95) hx hb dX8_at_84 (by decide) (fun c_2 => ?_) (fun c_2 => ?_)
  · rw [if_neg c_2] at hf
    refine lv_iload hx hb dX8_at_95 (lv_at hl 0 rfl) ?_
    refine lv_bipush (v := 6) hx hb dX8_at_97 (by decide) ?_
    refine lv_idiv hx hb dX8_at_99 (by decide) ?_
    exact jp_endi B hP hS dX8_at_100 (jp_inj hf)
  · rw [if_pos c_2] at hf
    refine lv_iload hx hb dX8_at_87 (lv_at hl 0 rfl) ?_
    refine lv_bipush (v := 6) hx hb dX8_at_89 (by decide) ?_
    refine lv_irem hx hb dX8_at_91 (by decide) ?_
    refine lv_goto (tgt := 100) hx hb dX8_at_92 (by decide) ?_
    exact jp_endi B hP hS dX8_at_100 (jp_inj hf)
def bX8_at_42 (x1 : Int32) (x2 : Int32) (x3 : Int32) (y1 : Int32) (σ : jp_I) (τ : jp_J) : Option (Int32 × jp_I × jp_J) :=
  if ((jp_up σ 20 0 y1) 20 0) = 0 then (if ((jp_up σ 20 0 y1) 20 12) ≤ x2 then (bX8_at_79 x3 (400 * x1) ((jp_up σ 20 0 y1) 20 12) (jp_up σ 20 0 y1) τ) else (bX8_at_79 x3 (400 * x1) x2 (jp_up σ 20 0 y1) τ)) else (some (0, jp_up σ 20 0 y1, τ))
set_option maxHeartbeats 4000000 in
set_option maxRecDepth 20000 in
theorem wbX8_at_42 (B : jp_B Γ p s m args meth c RX8 cX8_at 5 (some .int)) (hX0 : jp_hM Z) {x1 : Int32} {x2 : Int32} {x3 : Int32} {y1 : Int32} {σ : jp_I} {τ : jp_J} (hf : bX8_at_42 x1 x2 x3 y1 σ τ = some (r0, σ0, τ0)) : jp_at p l e (jp_R 0 0) s m args below meth c (MQ below (jp_Q Γ Z (some (.int r0)) σ0 τ0) args s 0 0 (jp_A Γ)) 5 Γ Z 42 [(0, .ref (Γ.2.2.1 20)), (1, .int x1), (2, .int x2), (3, .int x3)] [.int y1, .ref (Γ.2.2.1 20)] σ τ := by
  obtain ⟨hx, hb, hml, hown, hts, hr, hlk, hE⟩ := id B
  unfold bX8_at_42 at hf
  intro H locs ls hP hS hl
  refine jp_puti (k := 0) (ty := .int) B hP hS hX0.1 rfl rfl (by decide) jp_fX8 tyX8 tyX8_ok nmX8 rfl mw_134 rfl (by decide +kernel) rfl rfl dX8_at_42 (fun H locs hP hS => ?_)
  refine lv_aload_n hx hb dX8_at_45 rfl (lv_at hl 0 rfl) ?_
  refine jp_geti (k := 0) B hP hX0.1 rfl rfl (by decide) jp_fX8 rfl mw_134 dX8_at_46 ?_
  refine lv_if_eq (tgt := 54) hx hb dX8_at_49 (by decide) (fun c_1 => ?_) (fun c_1 => ?_)
  · rw [if_pos c_1] at hf
    refine lv_aload_n hx hb dX8_at_54 rfl (lv_at hl 0 rfl) ?_
    refine jp_getr (k := 13) B hP hX0.1 rfl rfl (by decide) jp_fX8 rfl mw_147 dX8_at_55 ?_
    refine lv_sipush (v := 400) hx hb dX8_at_58 (by decide) ?_
    refine lv_iload_n hx hb dX8_at_61 rfl (lv_at hl 1 rfl) ?_
    refine lv_imul hx hb dX8_at_62 ?_
    refine lv_iload_n hx hb dX8_at_63 rfl (lv_at hl 2 rfl) ?_
    refine lv_aload_n hx hb dX8_at_64 rfl (lv_at hl 0 rfl) ?_
    refine jp_geti (k := 12) B hP hX0.1 rfl rfl (by decide) jp_fX8 rfl mw_146 dX8_at_65 ?_
    refine lv_icmp_ge (tgt := 75) hx hb dX8_at_68 (by decide) (fun c_2 => ?_) (fun c_2 => ?_)
    · rw [if_pos c_2] at hf
      refine lv_aload_n hx hb dX8_at_75 rfl (lv_at hl 0 rfl) ?_
      refine jp_geti (k := 12) B hP hX0.1 rfl rfl (by decide) jp_fX8 rfl mw_146 dX8_at_76 ?_
      exact wbX8_at_79 B hX0 hf H locs ls hP hS (lv_sub hl [3] rfl)
    · rw [if_neg c_2] at hf
      refine lv_iload_n hx hb dX8_at_71 rfl (lv_at hl 2 rfl) ?_
      refine lv_goto (tgt := 79) hx hb dX8_at_72 (by decide) ?_
      exact wbX8_at_79 B hX0 hf H locs ls hP hS (lv_sub hl [3] rfl)
  · rw [if_neg c_1] at hf
    refine lv_iconst (v := 0) hx hb dX8_at_52 (by decide) ?_
    exact jp_endi B hP hS dX8_at_53 (jp_inj hf)
def bX8_at_26 (x1 : Int32) (x2 : Int32) (x3 : Int32) (σ : jp_I) (τ : jp_J) : Option (Int32 × jp_I × jp_J) :=
  bX8_at_42 x1 x2 x3 1 σ τ
set_option maxHeartbeats 4000000 in
set_option maxRecDepth 20000 in
theorem wbX8_at_26 (B : jp_B Γ p s m args meth c RX8 cX8_at 5 (some .int)) (hX0 : jp_hM Z) {x1 : Int32} {x2 : Int32} {x3 : Int32} {σ : jp_I} {τ : jp_J} (hf : bX8_at_26 x1 x2 x3 σ τ = some (r0, σ0, τ0)) : jp_at p l e (jp_R 0 0) s m args below meth c (MQ below (jp_Q Γ Z (some (.int r0)) σ0 τ0) args s 0 0 (jp_A Γ)) 5 Γ Z 26 [(0, .ref (Γ.2.2.1 20)), (1, .int x1), (2, .int x2), (3, .int x3)] [.ref (Γ.2.2.1 20)] σ τ := by
  obtain ⟨hx, hb, hml, hown, hts, hr, hlk, hE⟩ := id B
  unfold bX8_at_26 at hf
  intro H locs ls hP hS hl
  refine lv_iconst (v := 1) hx hb dX8_at_26 (by decide) ?_
  refine lv_goto (tgt := 42) hx hb dX8_at_27 (by decide) ?_
  exact wbX8_at_42 B hX0 hf H locs ls hP hS (lv_sub hl [0, 1, 2, 3] rfl)
def fX8_at (p1 : Int32) (p2 : Int32) (p3 : Int32) (σ : jp_I) (τ : jp_J) : Option (Int32 × jp_I × jp_J) :=
  if p1 < 0 then (bX8_at_26 p1 p2 p3 σ τ) else (if (σ 20 1) ≤ p1 then (bX8_at_26 p1 p2 p3 σ τ) else (if p2 < 0 then (bX8_at_26 p1 p2 p3 σ τ) else (if p3 < 0 then (bX8_at_26 p1 p2 p3 σ τ) else (if p3 ≤ 1 then (if (σ 20 9) = 0 then (bX8_at_42 p1 p2 p3 2 σ τ) else (bX8_at_42 p1 p2 p3 0 σ τ)) else (bX8_at_26 p1 p2 p3 σ τ)))))
set_option maxHeartbeats 4000000 in
set_option maxRecDepth 20000 in
theorem ctX8_at {l : Launch} {Γ : jp_G} {Z : Nat → Option jp_Sh} (hX0 : jp_hM Z) {p1 : Int32} {p2 : Int32} {p3 : Int32} {σ σ0 : jp_I} {τ τ0 : jp_J} {r0 : Int32} (hf : fX8_at p1 p2 p3 σ τ = some (r0, σ0, τ0)) : jp_M l yX8_at cX8_at 5 (some .int) 0 0 Γ Z σ τ [.ref (Γ.2.2.1 20), .int p1, .int p2, .int p3] (some (.int r0)) σ0 τ0 := by
  refine jp_mk (lv := [(0, .ref (Γ.2.2.1 20)), (1, .int p1), (2, .int p2), (3, .int p3)]) (by decide) (Nat.le_of_ble_eq_true rfl) rfl fun p e s m args below meth c B => ?_
  obtain ⟨hx, hb, hml, hown, hts, hr, hlk, hE⟩ := id B
  unfold fX8_at at hf
  intro H locs ls hP hS hl
  refine lv_aload_n hx hb dX8_at_0 rfl (lv_at hl 0 rfl) ?_
  refine lv_iload_n hx hb dX8_at_1 rfl (lv_at hl 1 rfl) ?_
  refine lv_if_lt (tgt := 26) hx hb dX8_at_2 (by decide) (fun c_1 => ?_) (fun c_1 => ?_)
  · rw [if_pos c_1] at hf
    exact wbX8_at_26 B hX0 hf H locs ls hP hS (lv_sub hl [0, 1, 2, 3] rfl)
  · rw [if_neg c_1] at hf
    refine lv_iload_n hx hb dX8_at_5 rfl (lv_at hl 1 rfl) ?_
    refine lv_aload_n hx hb dX8_at_6 rfl (lv_at hl 0 rfl) ?_
    refine jp_geti (k := 1) B hP hX0.1 rfl rfl (by decide) jp_fX8 rfl mw_151 dX8_at_7 ?_
    refine lv_icmp_ge (tgt := 26) hx hb dX8_at_10 (by decide) (fun c_2 => ?_) (fun c_2 => ?_)
    · rw [if_pos c_2] at hf
      exact wbX8_at_26 B hX0 hf H locs ls hP hS (lv_sub hl [0, 1, 2, 3] rfl)
    · rw [if_neg c_2] at hf
      refine lv_iload_n hx hb dX8_at_13 rfl (lv_at hl 2 rfl) ?_
      refine lv_if_lt (tgt := 26) hx hb dX8_at_14 (by decide) (fun c_3 => ?_) (fun c_3 => ?_)
      · rw [if_pos c_3] at hf
        exact wbX8_at_26 B hX0 hf H locs ls hP hS (lv_sub hl [0, 1, 2, 3] rfl)
      · rw [if_neg c_3] at hf
        refine lv_iload_n hx hb dX8_at_17 rfl (lv_at hl 3 rfl) ?_
        refine lv_if_lt (tgt := 26) hx hb dX8_at_18 (by decide) (fun c_4 => ?_) (fun c_4 => ?_)
        · rw [if_pos c_4] at hf
          exact wbX8_at_26 B hX0 hf H locs ls hP hS (lv_sub hl [0, 1, 2, 3] rfl)
        · rw [if_neg c_4] at hf
          refine lv_iload_n hx hb dX8_at_21 rfl (lv_at hl 3 rfl) ?_
          refine lv_iconst (v := 1) hx hb dX8_at_22 (by decide) ?_
          refine lv_icmp_le (tgt := 30) hx hb dX8_at_23 (by decide) (fun c_5 => ?_) (fun c_5 => ?_)
          · rw [if_pos c_5] at hf
            refine lv_aload_n hx hb dX8_at_30 rfl (lv_at hl 0 rfl) ?_
            refine jp_geti (k := 9) B hP hX0.1 rfl rfl (by decide) jp_fX8 rfl mw_143 dX8_at_31 ?_
            refine lv_if_ne (tgt := 41) hx hb dX8_at_34 (by decide) (fun c_6 => ?_) (fun c_6 => ?_)
            · rw [if_neg c_6] at hf
              refine lv_iconst (v := 0) hx hb dX8_at_41 (by decide) ?_
              exact wbX8_at_42 B hX0 hf H locs ls hP hS (lv_sub hl [0, 1, 2, 3] rfl)
            · rw [if_pos c_6] at hf
              refine lv_iconst (v := 2) hx hb dX8_at_37 (by decide) ?_
              refine lv_goto (tgt := 42) hx hb dX8_at_38 (by decide) ?_
              exact wbX8_at_42 B hX0 hf H locs ls hP hS (lv_sub hl [0, 1, 2, 3] rfl)
          · rw [if_neg c_5] at hf
            exact wbX8_at_26 B hX0 hf H locs ls hP hS (lv_sub hl [0, 1, 2, 3] rfl)
end
-- X8_last
section
variable {p : Program} {l : Launch} {e : Jvm.Env} {s : State} {m : MethodId} {args : Array Value} {below : List Frame} {meth : Method} {c : Code} {Γ : jp_G} {Z : Nat → Option jp_Sh} {r0 : Int32} {σ0 : jp_I} {τ0 : jp_J}
def bX8_last_13 (y1 : Int32) (σ : jp_I) (τ : jp_J) : Option (Int32 × jp_I × jp_J) :=
  if ((jp_up σ 20 0 y1) 20 0) = 0 then (some ((jp_up σ 20 0 y1) 20 12, jp_up σ 20 0 y1, τ)) else (some (0, jp_up σ 20 0 y1, τ))
set_option maxHeartbeats 4000000 in
set_option maxRecDepth 20000 in
theorem wbX8_last_13 (B : jp_B Γ p s m args meth c RX8 cX8_last 1 (some .int)) (hX0 : jp_hM Z) {y1 : Int32} {σ : jp_I} {τ : jp_J} (hf : bX8_last_13 y1 σ τ = some (r0, σ0, τ0)) : jp_at p l e (jp_R 0 0) s m args below meth c (MQ below (jp_Q Γ Z (some (.int r0)) σ0 τ0) args s 0 0 (jp_A Γ)) 1 Γ Z 13 [(0, .ref (Γ.2.2.1 20))] [.int y1, .ref (Γ.2.2.1 20)] σ τ := by
  obtain ⟨hx, hb, hml, hown, hts, hr, hlk, hE⟩ := id B
  unfold bX8_last_13 at hf
  intro H locs ls hP hS hl
  refine jp_puti (k := 0) (ty := .int) B hP hS hX0.1 rfl rfl (by decide) jp_fX8 tyX8 tyX8_ok nmX8 rfl mw_134 rfl (by decide +kernel) rfl rfl dX8_last_13 (fun H locs hP hS => ?_)
  refine lv_aload_n hx hb dX8_last_16 rfl (lv_at hl 0 rfl) ?_
  refine jp_geti (k := 0) B hP hX0.1 rfl rfl (by decide) jp_fX8 rfl mw_134 dX8_last_17 ?_
  refine lv_if_eq (tgt := 27) hx hb dX8_last_20 (by decide) (fun c_1 => ?_) (fun c_1 => ?_)
  · rw [if_pos c_1] at hf
    refine lv_aload_n hx hb dX8_last_27 rfl (lv_at hl 0 rfl) ?_
    refine jp_geti (k := 12) B hP hX0.1 rfl rfl (by decide) jp_fX8 rfl mw_146 dX8_last_28 ?_
    exact jp_endi B hP hS dX8_last_31 (jp_inj hf)
  · rw [if_neg c_1] at hf
    refine lv_iconst (v := 0) hx hb dX8_last_23 (by decide) ?_
    refine lv_goto (tgt := 31) hx hb dX8_last_24 (by decide) ?_
    exact jp_endi B hP hS dX8_last_31 (jp_inj hf)
def fX8_last (σ : jp_I) (τ : jp_J) : Option (Int32 × jp_I × jp_J) :=
  if (σ 20 9) = 0 then (bX8_last_13 1 σ τ) else (bX8_last_13 0 σ τ)
set_option maxHeartbeats 4000000 in
set_option maxRecDepth 20000 in
theorem ctX8_last {l : Launch} {Γ : jp_G} {Z : Nat → Option jp_Sh} (hX0 : jp_hM Z) {σ σ0 : jp_I} {τ τ0 : jp_J} {r0 : Int32} (hf : fX8_last σ τ = some (r0, σ0, τ0)) : jp_M l yX8_last cX8_last 1 (some .int) 0 0 Γ Z σ τ [.ref (Γ.2.2.1 20)] (some (.int r0)) σ0 τ0 := by
  refine jp_mk (lv := [(0, .ref (Γ.2.2.1 20))]) (by decide) (Nat.le_of_ble_eq_true rfl) rfl fun p e s m args below meth c B => ?_
  obtain ⟨hx, hb, hml, hown, hts, hr, hlk, hE⟩ := id B
  unfold fX8_last at hf
  intro H locs ls hP hS hl
  refine lv_aload_n hx hb dX8_last_0 rfl (lv_at hl 0 rfl) ?_
  refine lv_aload_n hx hb dX8_last_1 rfl (lv_at hl 0 rfl) ?_
  refine jp_geti (k := 9) B hP hX0.1 rfl rfl (by decide) jp_fX8 rfl mw_143 dX8_last_2 ?_
  refine lv_if_eq (tgt := 12) hx hb dX8_last_5 (by decide) (fun c_1 => ?_) (fun c_1 => ?_)
  · rw [if_pos c_1] at hf
    refine lv_iconst (v := 1) hx hb dX8_last_12 (by decide) ?_
    exact wbX8_last_13 B hX0 hf H locs ls hP hS (lv_sub hl [0] rfl)
  · rw [if_neg c_1] at hf
    refine lv_iconst (v := 0) hx hb dX8_last_8 (by decide) ?_
    refine lv_goto (tgt := 13) hx hb dX8_last_9 (by decide) ?_
    exact wbX8_last_13 B hX0 hf H locs ls hP hS (lv_sub hl [0] rfl)
end
-- X8_alone
section
variable {p : Program} {l : Launch} {e : Jvm.Env} {s : State} {m : MethodId} {args : Array Value} {below : List Frame} {meth : Method} {c : Code} {Γ : jp_G} {Z : Nat → Option jp_Sh} {r0 : Int32} {σ0 : jp_I} {τ0 : jp_J}
def bX8_alone_40 (x1 : Int32) (y1 : Int32) (σ : jp_I) (τ : jp_J) : Option (Int32 × jp_I × jp_J) :=
  if ((jp_up σ 20 0 y1) 20 0) = 0 then ((fX8_distance x1 (jp_up σ 20 0 y1) τ).bind fun (a_2, σ_2, τ_2) => some (a_2, σ_2, τ_2)) else (some (0, jp_up σ 20 0 y1, τ))
set_option maxHeartbeats 4000000 in
set_option maxRecDepth 20000 in
theorem wbX8_alone_40 (B : jp_B Γ p s m args meth c RX8 cX8_alone 2 (some .int)) (hX0 : jp_hM Z) {x1 : Int32} {y1 : Int32} {σ : jp_I} {τ : jp_J} (hf : bX8_alone_40 x1 y1 σ τ = some (r0, σ0, τ0)) : jp_at p l e (jp_R 3 71) s m args below meth c (MQ below (jp_Q Γ Z (some (.int r0)) σ0 τ0) args s 0 0 (jp_A Γ)) 2 Γ Z 40 [(0, .ref (Γ.2.2.1 20)), (1, .int x1)] [.int y1, .ref (Γ.2.2.1 20)] σ τ := by
  obtain ⟨hx, hb, hml, hown, hts, hr, hlk, hE⟩ := id B
  unfold bX8_alone_40 at hf
  intro H locs ls hP hS hl
  refine jp_puti (k := 0) (ty := .int) B hP hS hX0.1 rfl rfl (by decide) jp_fX8 tyX8 tyX8_ok nmX8 rfl mw_134 rfl (by decide +kernel) rfl rfl dX8_alone_40 (fun H locs hP hS => ?_)
  refine lv_aload_n hx hb dX8_alone_43 rfl (lv_at hl 0 rfl) ?_
  refine jp_geti (k := 0) B hP hX0.1 rfl rfl (by decide) jp_fX8 rfl mw_134 dX8_alone_44 ?_
  refine lv_if_eq (tgt := 54) hx hb dX8_alone_47 (by decide) (fun c_1 => ?_) (fun c_1 => ?_)
  · rw [if_pos c_1] at hf
    refine lv_aload_n hx hb dX8_alone_54 rfl (lv_at hl 0 rfl) ?_
    refine lv_iload_n hx hb dX8_alone_55 rfl (lv_at hl 1 rfl) ?_
    obtain ⟨⟨a_2, σ_2, τ_2⟩, h_2, hf⟩ := jp_bind hf
    dsimp only at hf
    refine jp_callV (rest := []) B hP hS hl (ctX8_distance ⟨hX0.1, hX0.2.1, hX0.2.2.1, hX0.2.2.2.1, hX0.2.2.2.2.1, hX0.2.2.2.2.2.1, hX0.2.2.2.2.2.2.1, hX0.2.2.2.2.2.2.2⟩ h_2) hX0.1 rfl mw_529 mw_526 mw_527 mw_528 mw_5 ddX8_distance ⟨Nat.le_of_ble_eq_true rfl, Nat.le_of_ble_eq_true rfl⟩ ⟨Nat.zero_le _, Nat.zero_le _⟩ rfl (Nat.le_of_ble_eq_true rfl) dX8_alone_56 (fun H locs hP hS => ?_)
    exact jp_endi B hP hS dX8_alone_59 (jp_inj hf)
  · rw [if_neg c_1] at hf
    refine lv_iconst (v := 0) hx hb dX8_alone_50 (by decide) ?_
    refine lv_goto (tgt := 59) hx hb dX8_alone_51 (by decide) ?_
    exact jp_endi B hP hS dX8_alone_59 (jp_inj hf)
def bX8_alone_13 (x1 : Int32) (σ : jp_I) (τ : jp_J) : Option (Int32 × jp_I × jp_J) :=
  bX8_alone_40 x1 1 σ τ
set_option maxHeartbeats 4000000 in
set_option maxRecDepth 20000 in
theorem wbX8_alone_13 (B : jp_B Γ p s m args meth c RX8 cX8_alone 2 (some .int)) (hX0 : jp_hM Z) {x1 : Int32} {σ : jp_I} {τ : jp_J} (hf : bX8_alone_13 x1 σ τ = some (r0, σ0, τ0)) : jp_at p l e (jp_R 3 71) s m args below meth c (MQ below (jp_Q Γ Z (some (.int r0)) σ0 τ0) args s 0 0 (jp_A Γ)) 2 Γ Z 13 [(0, .ref (Γ.2.2.1 20)), (1, .int x1)] [.ref (Γ.2.2.1 20)] σ τ := by
  obtain ⟨hx, hb, hml, hown, hts, hr, hlk, hE⟩ := id B
  unfold bX8_alone_13 at hf
  intro H locs ls hP hS hl
  refine lv_iconst (v := 1) hx hb dX8_alone_13 (by decide) ?_
  refine lv_goto (tgt := 40) hx hb dX8_alone_14 (by decide) ?_
  exact wbX8_alone_40 B hX0 hf H locs ls hP hS (lv_sub hl [0, 1] rfl)
def bX8_alone_35 (x1 : Int32) (σ : jp_I) (τ : jp_J) : Option (Int32 × jp_I × jp_J) :=
  bX8_alone_40 x1 2 σ τ
set_option maxHeartbeats 4000000 in
set_option maxRecDepth 20000 in
theorem wbX8_alone_35 (B : jp_B Γ p s m args meth c RX8 cX8_alone 2 (some .int)) (hX0 : jp_hM Z) {x1 : Int32} {σ : jp_I} {τ : jp_J} (hf : bX8_alone_35 x1 σ τ = some (r0, σ0, τ0)) : jp_at p l e (jp_R 3 71) s m args below meth c (MQ below (jp_Q Γ Z (some (.int r0)) σ0 τ0) args s 0 0 (jp_A Γ)) 2 Γ Z 35 [(0, .ref (Γ.2.2.1 20)), (1, .int x1)] [.ref (Γ.2.2.1 20)] σ τ := by
  obtain ⟨hx, hb, hml, hown, hts, hr, hlk, hE⟩ := id B
  unfold bX8_alone_35 at hf
  intro H locs ls hP hS hl
  refine lv_iconst (v := 2) hx hb dX8_alone_35 (by decide) ?_
  refine lv_goto (tgt := 40) hx hb dX8_alone_36 (by decide) ?_
  exact wbX8_alone_40 B hX0 hf H locs ls hP hS (lv_sub hl [0, 1] rfl)
def fX8_alone (p1 : Int32) (σ : jp_I) (τ : jp_J) : Option (Int32 × jp_I × jp_J) :=
  if p1 < 0 then (bX8_alone_13 p1 σ τ) else (if p1 < (σ 20 1) then (if jp_ok p1 4 = true then if (σ 22 p1.toNatClampNeg) < 0 then (bX8_alone_35 p1 σ τ) else (if jp_ok p1 4 = true then if 0 ≤ (σ 23 p1.toNatClampNeg) then (bX8_alone_40 p1 0 σ τ) else (bX8_alone_35 p1 σ τ) else none) else none) else (bX8_alone_13 p1 σ τ))
set_option maxHeartbeats 4000000 in
set_option maxRecDepth 20000 in
theorem ctX8_alone {l : Launch} {Γ : jp_G} {Z : Nat → Option jp_Sh} (hX0 : jp_hM Z) {p1 : Int32} {σ σ0 : jp_I} {τ τ0 : jp_J} {r0 : Int32} (hf : fX8_alone p1 σ τ = some (r0, σ0, τ0)) : jp_M l yX8_alone cX8_alone 2 (some .int) 3 71 Γ Z σ τ [.ref (Γ.2.2.1 20), .int p1] (some (.int r0)) σ0 τ0 := by
  refine jp_mk (lv := [(0, .ref (Γ.2.2.1 20)), (1, .int p1)]) (by decide) (Nat.le_of_ble_eq_true rfl) rfl fun p e s m args below meth c B => ?_
  obtain ⟨hx, hb, hml, hown, hts, hr, hlk, hE⟩ := id B
  unfold fX8_alone at hf
  intro H locs ls hP hS hl
  refine lv_aload_n hx hb dX8_alone_0 rfl (lv_at hl 0 rfl) ?_
  refine lv_iload_n hx hb dX8_alone_1 rfl (lv_at hl 1 rfl) ?_
  refine lv_if_lt (tgt := 13) hx hb dX8_alone_2 (by decide) (fun c_1 => ?_) (fun c_1 => ?_)
  · rw [if_pos c_1] at hf
    exact wbX8_alone_13 B hX0 hf H locs ls hP hS (lv_sub hl [0, 1] rfl)
  · rw [if_neg c_1] at hf
    refine lv_iload_n hx hb dX8_alone_5 rfl (lv_at hl 1 rfl) ?_
    refine lv_aload_n hx hb dX8_alone_6 rfl (lv_at hl 0 rfl) ?_
    refine jp_geti (k := 1) B hP hX0.1 rfl rfl (by decide) jp_fX8 rfl mw_151 dX8_alone_7 ?_
    refine lv_icmp_lt (tgt := 17) hx hb dX8_alone_10 (by decide) (fun c_2 => ?_) (fun c_2 => ?_)
    · rw [if_pos c_2] at hf
      refine lv_aload_n hx hb dX8_alone_17 rfl (lv_at hl 0 rfl) ?_
      refine jp_getr (k := 5) B hP hX0.1 rfl rfl (by decide) jp_fX8 rfl mw_139 dX8_alone_18 ?_
      refine lv_iload_n hx hb dX8_alone_21 rfl (lv_at hl 1 rfl) ?_
      obtain ⟨g_3, hf⟩ := jp_if hf
      refine jp_iald B hP hX0.2.2.1 (jp_ok_vp g_3) dX8_alone_22 ?_
      refine lv_if_lt (tgt := 35) hx hb dX8_alone_23 (by decide) (fun c_4 => ?_) (fun c_4 => ?_)
      · rw [if_pos c_4] at hf
        exact wbX8_alone_35 B hX0 hf H locs ls hP hS (lv_sub hl [0, 1] rfl)
      · rw [if_neg c_4] at hf
        refine lv_aload_n hx hb dX8_alone_26 rfl (lv_at hl 0 rfl) ?_
        refine jp_getr (k := 6) B hP hX0.1 rfl rfl (by decide) jp_fX8 rfl mw_140 dX8_alone_27 ?_
        refine lv_iload_n hx hb dX8_alone_30 rfl (lv_at hl 1 rfl) ?_
        obtain ⟨g_5, hf⟩ := jp_if hf
        refine jp_iald B hP hX0.2.2.2.1 (jp_ok_vp g_5) dX8_alone_31 ?_
        refine lv_if_ge (tgt := 39) hx hb dX8_alone_32 (by decide) (fun c_6 => ?_) (fun c_6 => ?_)
        · rw [if_pos c_6] at hf
          refine lv_iconst (v := 0) hx hb dX8_alone_39 (by decide) ?_
          exact wbX8_alone_40 B hX0 hf H locs ls hP hS (lv_sub hl [0, 1] rfl)
        · rw [if_neg c_6] at hf
          exact wbX8_alone_35 B hX0 hf H locs ls hP hS (lv_sub hl [0, 1] rfl)
    · rw [if_neg c_2] at hf
      exact wbX8_alone_13 B hX0 hf H locs ls hP hS (lv_sub hl [0, 1] rfl)
end
-- X8_bound
section
variable {p : Program} {l : Launch} {e : Jvm.Env} {s : State} {m : MethodId} {args : Array Value} {below : List Frame} {meth : Method} {c : Code} {Γ : jp_G} {Z : Nat → Option jp_Sh} {r0 : Int32} {σ0 : jp_I} {τ0 : jp_J}
def bX8_bound_13 (y1 : Int32) (σ : jp_I) (τ : jp_J) : Option (Int32 × jp_I × jp_J) :=
  if ((jp_up σ 20 0 y1) 20 0) = 0 then ((fX8_boundOf (jp_up σ 20 0 y1) τ).bind fun (a_2, σ_2, τ_2) => some (a_2, σ_2, τ_2)) else (some (0, jp_up σ 20 0 y1, τ))
set_option maxHeartbeats 4000000 in
set_option maxRecDepth 20000 in
theorem wbX8_bound_13 (B : jp_B Γ p s m args meth c RX8 cX8_bound 1 (some .int)) (hX0 : jp_hM Z) {y1 : Int32} {σ : jp_I} {τ : jp_J} (hf : bX8_bound_13 y1 σ τ = some (r0, σ0, τ0)) : jp_at p l e (jp_R 4 94) s m args below meth c (MQ below (jp_Q Γ Z (some (.int r0)) σ0 τ0) args s 0 0 (jp_A Γ)) 1 Γ Z 13 [(0, .ref (Γ.2.2.1 20))] [.int y1, .ref (Γ.2.2.1 20)] σ τ := by
  obtain ⟨hx, hb, hml, hown, hts, hr, hlk, hE⟩ := id B
  unfold bX8_bound_13 at hf
  intro H locs ls hP hS hl
  refine jp_puti (k := 0) (ty := .int) B hP hS hX0.1 rfl rfl (by decide) jp_fX8 tyX8 tyX8_ok nmX8 rfl mw_134 rfl (by decide +kernel) rfl rfl dX8_bound_13 (fun H locs hP hS => ?_)
  refine lv_aload_n hx hb dX8_bound_16 rfl (lv_at hl 0 rfl) ?_
  refine jp_geti (k := 0) B hP hX0.1 rfl rfl (by decide) jp_fX8 rfl mw_134 dX8_bound_17 ?_
  refine lv_if_eq (tgt := 27) hx hb dX8_bound_20 (by decide) (fun c_1 => ?_) (fun c_1 => ?_)
  · rw [if_pos c_1] at hf
    refine lv_aload_n hx hb dX8_bound_27 rfl (lv_at hl 0 rfl) ?_
    obtain ⟨⟨a_2, σ_2, τ_2⟩, h_2, hf⟩ := jp_bind hf
    dsimp only at hf
    refine jp_callV (rest := []) B hP hS hl (ctX8_boundOf ⟨hX0.1, hX0.2.1, hX0.2.2.1, hX0.2.2.2.1, hX0.2.2.2.2.1, hX0.2.2.2.2.2.1, hX0.2.2.2.2.2.2.1, hX0.2.2.2.2.2.2.2⟩ h_2) hX0.1 rfl mw_548 mw_545 mw_546 mw_547 mw_5 ddX8_boundOf ⟨Nat.le_of_ble_eq_true rfl, Nat.le_of_ble_eq_true rfl⟩ ⟨Nat.zero_le _, Nat.zero_le _⟩ rfl (Nat.le_of_ble_eq_true rfl) dX8_bound_28 (fun H locs hP hS => ?_)
    exact jp_endi B hP hS dX8_bound_31 (jp_inj hf)
  · rw [if_neg c_1] at hf
    refine lv_iconst (v := 0) hx hb dX8_bound_23 (by decide) ?_
    refine lv_goto (tgt := 31) hx hb dX8_bound_24 (by decide) ?_
    exact jp_endi B hP hS dX8_bound_31 (jp_inj hf)
def fX8_bound (σ : jp_I) (τ : jp_J) : Option (Int32 × jp_I × jp_J) :=
  (fX8_missing σ τ).bind fun (a_1, σ_1, τ_1) => if a_1 = 0 then (bX8_bound_13 0 σ_1 τ_1) else (bX8_bound_13 1 σ_1 τ_1)
set_option maxHeartbeats 4000000 in
set_option maxRecDepth 20000 in
theorem ctX8_bound {l : Launch} {Γ : jp_G} {Z : Nat → Option jp_Sh} (hX0 : jp_hM Z) {σ σ0 : jp_I} {τ τ0 : jp_J} {r0 : Int32} (hf : fX8_bound σ τ = some (r0, σ0, τ0)) : jp_M l yX8_bound cX8_bound 1 (some .int) 4 94 Γ Z σ τ [.ref (Γ.2.2.1 20)] (some (.int r0)) σ0 τ0 := by
  refine jp_mk (lv := [(0, .ref (Γ.2.2.1 20))]) (by decide) (Nat.le_of_ble_eq_true rfl) rfl fun p e s m args below meth c B => ?_
  obtain ⟨hx, hb, hml, hown, hts, hr, hlk, hE⟩ := id B
  unfold fX8_bound at hf
  intro H locs ls hP hS hl
  refine lv_aload_n hx hb dX8_bound_0 rfl (lv_at hl 0 rfl) ?_
  refine lv_aload_n hx hb dX8_bound_1 rfl (lv_at hl 0 rfl) ?_
  obtain ⟨⟨a_1, σ_1, τ_1⟩, h_1, hf⟩ := jp_bind hf
  dsimp only at hf
  refine jp_callV (rest := [.ref (Γ.2.2.1 20)]) B hP hS hl (ctX8_missing ⟨hX0.1, hX0.2.1, hX0.2.2.1, hX0.2.2.2.1, hX0.2.2.2.2.1, hX0.2.2.2.2.2.1, hX0.2.2.2.2.2.2.1, hX0.2.2.2.2.2.2.2⟩ h_1) hX0.1 rfl mw_409 mw_406 mw_407 mw_408 mw_5 ddX8_missing ⟨Nat.le_of_ble_eq_true rfl, Nat.le_of_ble_eq_true rfl⟩ ⟨Nat.zero_le _, Nat.zero_le _⟩ rfl (Nat.le_of_ble_eq_true rfl) dX8_bound_2 (fun H locs hP hS => ?_)
  refine lv_if_eq (tgt := 12) hx hb dX8_bound_5 (by decide) (fun c_2 => ?_) (fun c_2 => ?_)
  · rw [if_pos c_2] at hf
    refine lv_iconst (v := 0) hx hb dX8_bound_12 (by decide) ?_
    exact wbX8_bound_13 B hX0 hf H locs ls hP hS (lv_sub hl [0] rfl)
  · rw [if_neg c_2] at hf
    refine lv_iconst (v := 1) hx hb dX8_bound_8 (by decide) ?_
    refine lv_goto (tgt := 13) hx hb dX8_bound_9 (by decide) ?_
    exact wbX8_bound_13 B hX0 hf H locs ls hP hS (lv_sub hl [0] rfl)
end
-- X8_share
section
variable {p : Program} {l : Launch} {e : Jvm.Env} {s : State} {m : MethodId} {args : Array Value} {below : List Frame} {meth : Method} {c : Code} {Γ : jp_G} {Z : Nat → Option jp_Sh} {r0 : Int32} {σ0 : jp_I} {τ0 : jp_J}
def bX8_share_31 (y1 : Int32) (σ : jp_I) (τ : jp_J) : Option (Int32 × jp_I × jp_J) :=
  if ((jp_up σ 20 0 y1) 20 0) = 0 then ((fX8_boundOf (jp_up σ 20 0 y1) τ).bind fun (a_2, σ_2, τ_2) => if (σ_2 20 11) = 0 then none else some ((100 * a_2) / (σ_2 20 11), σ_2, τ_2)) else (some (0, jp_up σ 20 0 y1, τ))
set_option maxHeartbeats 4000000 in
set_option maxRecDepth 20000 in
theorem wbX8_share_31 (B : jp_B Γ p s m args meth c RX8 cX8_share 1 (some .int)) (hX0 : jp_hM Z) {y1 : Int32} {σ : jp_I} {τ : jp_J} (hf : bX8_share_31 y1 σ τ = some (r0, σ0, τ0)) : jp_at p l e (jp_R 4 94) s m args below meth c (MQ below (jp_Q Γ Z (some (.int r0)) σ0 τ0) args s 0 0 (jp_A Γ)) 1 Γ Z 31 [(0, .ref (Γ.2.2.1 20))] [.int y1, .ref (Γ.2.2.1 20)] σ τ := by
  obtain ⟨hx, hb, hml, hown, hts, hr, hlk, hE⟩ := id B
  unfold bX8_share_31 at hf
  intro H locs ls hP hS hl
  refine jp_puti (k := 0) (ty := .int) B hP hS hX0.1 rfl rfl (by decide) jp_fX8 tyX8 tyX8_ok nmX8 rfl mw_134 rfl (by decide +kernel) rfl rfl dX8_share_31 (fun H locs hP hS => ?_)
  refine lv_aload_n hx hb dX8_share_34 rfl (lv_at hl 0 rfl) ?_
  refine jp_geti (k := 0) B hP hX0.1 rfl rfl (by decide) jp_fX8 rfl mw_134 dX8_share_35 ?_
  refine lv_if_eq (tgt := 45) hx hb dX8_share_38 (by decide) (fun c_1 => ?_) (fun c_1 => ?_)
  · rw [if_pos c_1] at hf
    refine lv_bipush (v := 100) hx hb dX8_share_45 (by decide) ?_
    refine lv_aload_n hx hb dX8_share_47 rfl (lv_at hl 0 rfl) ?_
    obtain ⟨⟨a_2, σ_2, τ_2⟩, h_2, hf⟩ := jp_bind hf
    dsimp only at hf
    refine jp_callV (rest := [.int 100]) B hP hS hl (ctX8_boundOf ⟨hX0.1, hX0.2.1, hX0.2.2.1, hX0.2.2.2.1, hX0.2.2.2.2.1, hX0.2.2.2.2.2.1, hX0.2.2.2.2.2.2.1, hX0.2.2.2.2.2.2.2⟩ h_2) hX0.1 rfl mw_548 mw_545 mw_546 mw_547 mw_5 ddX8_boundOf ⟨Nat.le_of_ble_eq_true rfl, Nat.le_of_ble_eq_true rfl⟩ ⟨Nat.zero_le _, Nat.zero_le _⟩ rfl (Nat.le_of_ble_eq_true rfl) dX8_share_48 (fun H locs hP hS => ?_)
    refine lv_imul hx hb dX8_share_51 ?_
    refine lv_aload_n hx hb dX8_share_52 rfl (lv_at hl 0 rfl) ?_
    refine jp_geti (k := 11) B hP hX0.1 rfl rfl (by decide) jp_fX8 rfl mw_145 dX8_share_53 ?_
    obtain ⟨g_3, hf⟩ := jp_nz hf
    refine lv_idiv hx hb dX8_share_56 g_3 ?_
    exact jp_endi B hP hS dX8_share_57 (jp_inj hf)
  · rw [if_neg c_1] at hf
    refine lv_iconst (v := 0) hx hb dX8_share_41 (by decide) ?_
    refine lv_goto (tgt := 57) hx hb dX8_share_42 (by decide) ?_
    exact jp_endi B hP hS dX8_share_57 (jp_inj hf)
def bX8_share_15 (σ : jp_I) (τ : jp_J) : Option (Int32 × jp_I × jp_J) :=
  bX8_share_31 1 σ τ
set_option maxHeartbeats 4000000 in
set_option maxRecDepth 20000 in
theorem wbX8_share_15 (B : jp_B Γ p s m args meth c RX8 cX8_share 1 (some .int)) (hX0 : jp_hM Z) {σ : jp_I} {τ : jp_J} (hf : bX8_share_15 σ τ = some (r0, σ0, τ0)) : jp_at p l e (jp_R 4 94) s m args below meth c (MQ below (jp_Q Γ Z (some (.int r0)) σ0 τ0) args s 0 0 (jp_A Γ)) 1 Γ Z 15 [(0, .ref (Γ.2.2.1 20))] [.ref (Γ.2.2.1 20)] σ τ := by
  obtain ⟨hx, hb, hml, hown, hts, hr, hlk, hE⟩ := id B
  unfold bX8_share_15 at hf
  intro H locs ls hP hS hl
  refine lv_iconst (v := 1) hx hb dX8_share_15 (by decide) ?_
  refine lv_goto (tgt := 31) hx hb dX8_share_16 (by decide) ?_
  exact wbX8_share_31 B hX0 hf H locs ls hP hS (lv_sub hl [0] rfl)
def fX8_share (σ : jp_I) (τ : jp_J) : Option (Int32 × jp_I × jp_J) :=
  if (σ 20 9) = 0 then (bX8_share_15 σ τ) else ((fX8_missing σ τ).bind fun (a_2, σ_2, τ_2) => if a_2 = 0 then (if (σ_2 20 11) = 0 then (bX8_share_31 2 σ_2 τ_2) else (bX8_share_31 0 σ_2 τ_2)) else (bX8_share_15 σ_2 τ_2))
set_option maxHeartbeats 4000000 in
set_option maxRecDepth 20000 in
theorem ctX8_share {l : Launch} {Γ : jp_G} {Z : Nat → Option jp_Sh} (hX0 : jp_hM Z) {σ σ0 : jp_I} {τ τ0 : jp_J} {r0 : Int32} (hf : fX8_share σ τ = some (r0, σ0, τ0)) : jp_M l yX8_share cX8_share 1 (some .int) 4 94 Γ Z σ τ [.ref (Γ.2.2.1 20)] (some (.int r0)) σ0 τ0 := by
  refine jp_mk (lv := [(0, .ref (Γ.2.2.1 20))]) (by decide) (Nat.le_of_ble_eq_true rfl) rfl fun p e s m args below meth c B => ?_
  obtain ⟨hx, hb, hml, hown, hts, hr, hlk, hE⟩ := id B
  unfold fX8_share at hf
  intro H locs ls hP hS hl
  refine lv_aload_n hx hb dX8_share_0 rfl (lv_at hl 0 rfl) ?_
  refine lv_aload_n hx hb dX8_share_1 rfl (lv_at hl 0 rfl) ?_
  refine jp_geti (k := 9) B hP hX0.1 rfl rfl (by decide) jp_fX8 rfl mw_143 dX8_share_2 ?_
  refine lv_if_eq (tgt := 15) hx hb dX8_share_5 (by decide) (fun c_1 => ?_) (fun c_1 => ?_)
  · rw [if_pos c_1] at hf
    exact wbX8_share_15 B hX0 hf H locs ls hP hS (lv_sub hl [0] rfl)
  · rw [if_neg c_1] at hf
    refine lv_aload_n hx hb dX8_share_8 rfl (lv_at hl 0 rfl) ?_
    obtain ⟨⟨a_2, σ_2, τ_2⟩, h_2, hf⟩ := jp_bind hf
    dsimp only at hf
    refine jp_callV (rest := [.ref (Γ.2.2.1 20)]) B hP hS hl (ctX8_missing ⟨hX0.1, hX0.2.1, hX0.2.2.1, hX0.2.2.2.1, hX0.2.2.2.2.1, hX0.2.2.2.2.2.1, hX0.2.2.2.2.2.2.1, hX0.2.2.2.2.2.2.2⟩ h_2) hX0.1 rfl mw_409 mw_406 mw_407 mw_408 mw_5 ddX8_missing ⟨Nat.le_of_ble_eq_true rfl, Nat.le_of_ble_eq_true rfl⟩ ⟨Nat.zero_le _, Nat.zero_le _⟩ rfl (Nat.le_of_ble_eq_true rfl) dX8_share_9 (fun H locs hP hS => ?_)
    refine lv_if_eq (tgt := 19) hx hb dX8_share_12 (by decide) (fun c_3 => ?_) (fun c_3 => ?_)
    · rw [if_pos c_3] at hf
      refine lv_aload_n hx hb dX8_share_19 rfl (lv_at hl 0 rfl) ?_
      refine jp_geti (k := 11) B hP hX0.1 rfl rfl (by decide) jp_fX8 rfl mw_145 dX8_share_20 ?_
      refine lv_if_ne (tgt := 30) hx hb dX8_share_23 (by decide) (fun c_4 => ?_) (fun c_4 => ?_)
      · rw [if_neg c_4] at hf
        refine lv_iconst (v := 0) hx hb dX8_share_30 (by decide) ?_
        exact wbX8_share_31 B hX0 hf H locs ls hP hS (lv_sub hl [0] rfl)
      · rw [if_pos c_4] at hf
        refine lv_iconst (v := 2) hx hb dX8_share_26 (by decide) ?_
        refine lv_goto (tgt := 31) hx hb dX8_share_27 (by decide) ?_
        exact wbX8_share_31 B hX0 hf H locs ls hP hS (lv_sub hl [0] rfl)
    · rw [if_neg c_3] at hf
      exact wbX8_share_15 B hX0 hf H locs ls hP hS (lv_sub hl [0] rfl)
end
-- X8_count
section
variable {p : Program} {l : Launch} {e : Jvm.Env} {s : State} {m : MethodId} {args : Array Value} {below : List Frame} {meth : Method} {c : Code} {Γ : jp_G} {Z : Nat → Option jp_Sh} {r0 : Int32} {σ0 : jp_I} {τ0 : jp_J}
def bX8_count_30_in9 (x1 : Int32) (x3 : Int32) (y0 : Int32) (y1 : Int32) (σ : jp_I) (τ : jp_J) : Option (Sum (Int32 × Int32) (Sum (Int32) Int32) × jp_I × jp_J) :=
  some (.inl (y0 + y1, x3 + 1), σ, τ)
set_option maxHeartbeats 4000000 in
set_option maxRecDepth 20000 in
theorem wbX8_count_30_in9 (B : jp_B Γ p s m args meth c RX8 cX8_count 4 (some .int)) (hX0 : jp_hM Z) {x1 : Int32} {x3 : Int32} {y0 : Int32} {y1 : Int32} {σ : jp_I} {τ : jp_J} {q : Sum (Int32 × Int32) (Sum (Int32) Int32) × jp_I × jp_J} (hf : bX8_count_30_in9 x1 x3 y0 y1 σ τ = some q) (kb : ∀ v : Int32 × Int32, q.1 = .inl v → jp_at p l e (jp_R 0 0) s m args below meth c (MQ below (jp_Q Γ Z (some (.int r0)) σ0 τ0) args s 0 0 (jp_A Γ)) 4 Γ Z 9 [(0, .ref (Γ.2.2.1 20)), (1, .int x1), (2, .int v.1), (3, .int v.2)] [] q.2.1 q.2.2) (kx : ∀ v : Int32, q.1 = .inr (.inl v) → jp_at p l e (jp_R 0 0) s m args below meth c (MQ below (jp_Q Γ Z (some (.int r0)) σ0 τ0) args s 0 0 (jp_A Γ)) 4 Γ Z 38 [(0, .ref (Γ.2.2.1 20)), (1, .int x1), (2, .int v)] [] q.2.1 q.2.2) (kr : ∀ v : Int32, q.1 = .inr (.inr v) → r0 = v ∧ σ0 = q.2.1 ∧ τ0 = q.2.2) : jp_at p l e (jp_R 0 0) s m args below meth c (MQ below (jp_Q Γ Z (some (.int r0)) σ0 τ0) args s 0 0 (jp_A Γ)) 4 Γ Z 30 [(0, .ref (Γ.2.2.1 20)), (1, .int x1), (3, .int x3)] [.int y1, .int y0] σ τ := by
  obtain ⟨hx, hb, hml, hown, hts, hr, hlk, hE⟩ := id B
  unfold bX8_count_30_in9 at hf
  intro H locs ls hP hS hl
  refine lv_iadd hx hb dX8_count_30 ?_
  refine lv_istore_n (lv' := [(2, .int (y0 + y1)), (0, .ref (Γ.2.2.1 20)), (1, .int x1), (3, .int x3)]) hx hb dX8_count_31 rfl hl (by decide) rfl (fun ls hl => ?_)
  refine lv_iinc (v := x3 + 1) (lv' := [(3, .int (x3 + 1)), (2, .int (y0 + y1)), (0, .ref (Γ.2.2.1 20)), (1, .int x1)]) hx hb dX8_count_32 hl (k := 3) rfl rfl (by decide) rfl (fun ls hl => ?_)
  refine lv_goto (tgt := 9) hx hb dX8_count_35 (by decide) ?_
  obtain rfl := Option.some.inj hf
  exact kb _ rfl H locs ls hP hS (lv_sub hl [2, 3, 1, 0] rfl)
def sX8_count_9 (x1 : Int32) (x2 : Int32) (x3 : Int32) (σ : jp_I) (τ : jp_J) : Option (Sum (Int32 × Int32) (Sum (Int32) Int32) × jp_I × jp_J) :=
  if 36 ≤ x3 then (some (.inr (.inl x2), σ, τ)) else (if jp_ok x3 36 = true then if (σ 21 x3.toNatClampNeg) = 0 then (bX8_count_30_in9 x1 x3 x2 0 σ τ) else (bX8_count_30_in9 x1 x3 x2 1 σ τ) else none)
set_option maxHeartbeats 4000000 in
set_option maxRecDepth 20000 in
theorem wsX8_count_9 (B : jp_B Γ p s m args meth c RX8 cX8_count 4 (some .int)) (hX0 : jp_hM Z) {x1 : Int32} {x2 : Int32} {x3 : Int32} {σ : jp_I} {τ : jp_J} {q : Sum (Int32 × Int32) (Sum (Int32) Int32) × jp_I × jp_J} (hf : sX8_count_9 x1 x2 x3 σ τ = some q) (kb : ∀ v : Int32 × Int32, q.1 = .inl v → jp_at p l e (jp_R 0 0) s m args below meth c (MQ below (jp_Q Γ Z (some (.int r0)) σ0 τ0) args s 0 0 (jp_A Γ)) 4 Γ Z 9 [(0, .ref (Γ.2.2.1 20)), (1, .int x1), (2, .int v.1), (3, .int v.2)] [] q.2.1 q.2.2) (kx : ∀ v : Int32, q.1 = .inr (.inl v) → jp_at p l e (jp_R 0 0) s m args below meth c (MQ below (jp_Q Γ Z (some (.int r0)) σ0 τ0) args s 0 0 (jp_A Γ)) 4 Γ Z 38 [(0, .ref (Γ.2.2.1 20)), (1, .int x1), (2, .int v)] [] q.2.1 q.2.2) (kr : ∀ v : Int32, q.1 = .inr (.inr v) → r0 = v ∧ σ0 = q.2.1 ∧ τ0 = q.2.2) : jp_at p l e (jp_R 0 0) s m args below meth c (MQ below (jp_Q Γ Z (some (.int r0)) σ0 τ0) args s 0 0 (jp_A Γ)) 4 Γ Z 9 [(0, .ref (Γ.2.2.1 20)), (1, .int x1), (2, .int x2), (3, .int x3)] [] σ τ := by
  obtain ⟨hx, hb, hml, hown, hts, hr, hlk, hE⟩ := id B
  unfold sX8_count_9 at hf
  intro H locs ls hP hS hl
  refine lv_iload_n hx hb dX8_count_9 rfl (lv_at hl 3 rfl) ?_
  refine lv_bipush (v := 36) hx hb dX8_count_10 (by decide) ?_
  refine lv_icmp_ge (tgt := 38) hx hb dX8_count_12 (by decide) (fun c_1 => ?_) (fun c_1 => ?_)
  · rw [if_pos c_1] at hf
    obtain rfl := Option.some.inj hf
    exact kx _ rfl H locs ls hP hS (lv_sub hl [0, 1, 2] rfl)
  · rw [if_neg c_1] at hf
    refine lv_iload_n hx hb dX8_count_15 rfl (lv_at hl 2 rfl) ?_
    refine lv_aload_n hx hb dX8_count_16 rfl (lv_at hl 0 rfl) ?_
    refine jp_getr (k := 4) B hP hX0.1 rfl rfl (by decide) jp_fX8 rfl mw_138 dX8_count_17 ?_
    refine lv_iload_n hx hb dX8_count_20 rfl (lv_at hl 3 rfl) ?_
    obtain ⟨g_2, hf⟩ := jp_if hf
    refine jp_zald B hP hX0.2.1 (jp_ok_vp g_2) dX8_count_21 ?_
    refine lv_if_eq (tgt := 29) hx hb dX8_count_22 (by decide) (fun c_3 => ?_) (fun c_3 => ?_)
    · rw [if_pos c_3] at hf
      refine lv_iconst (v := 0) hx hb dX8_count_29 (by decide) ?_
      exact wbX8_count_30_in9 B hX0 hf kb kx kr H locs ls hP hS (lv_sub hl [0, 1, 3] rfl)
    · rw [if_neg c_3] at hf
      refine lv_iconst (v := 1) hx hb dX8_count_25 (by decide) ?_
      refine lv_goto (tgt := 30) hx hb dX8_count_26 (by decide) ?_
      exact wbX8_count_30_in9 B hX0 hf kb kx kr H locs ls hP hS (lv_sub hl [0, 1, 3] rfl)
set_option maxHeartbeats 4000000 in
theorem lX8_count_9 (B : jp_B Γ p s m args meth c RX8 cX8_count 4 (some .int)) (hX0 : jp_hM Z) {x1 : Int32} {e1 : Sum (Int32) Int32} {σ1 : jp_I} {τ1 : jp_J} (kx : ∀ v : Int32, e1 = .inl v → jp_at p l e (jp_R 0 0) s m args below meth c (MQ below (jp_Q Γ Z (some (.int r0)) σ0 τ0) args s 0 0 (jp_A Γ)) 4 Γ Z 38 [(0, .ref (Γ.2.2.1 20)), (1, .int x1), (2, .int v)] [] σ1 τ1) (kr : ∀ v : Int32, e1 = .inr v → r0 = v ∧ σ0 = σ1 ∧ τ0 = τ1) : ∀ (k : Nat) (v : Int32 × Int32) (σ : jp_I) (τ : jp_J), jp_loop (fun q : (Int32 × Int32) × jp_I × jp_J => sX8_count_9 x1 q.1.1 q.1.2 q.2.1 q.2.2) k (v, σ, τ) = some (e1, σ1, τ1) → jp_at p l e (jp_R 0 0) s m args below meth c (MQ below (jp_Q Γ Z (some (.int r0)) σ0 τ0) args s 0 0 (jp_A Γ)) 4 Γ Z 9 [(0, .ref (Γ.2.2.1 20)), (1, .int x1), (2, .int v.1), (3, .int v.2)] [] σ τ := by
  refine jp_loopI (P := fun (v : Int32 × Int32) (σ : jp_I) (τ : jp_J) => jp_at p l e (jp_R 0 0) s m args below meth c (MQ below (jp_Q Γ Z (some (.int r0)) σ0 τ0) args s 0 0 (jp_A Γ)) 4 Γ Z 9 [(0, .ref (Γ.2.2.1 20)), (1, .int x1), (2, .int v.1), (3, .int v.2)] [] σ τ) (fun v σ τ q hq hbk hen => ?_)
  exact wsX8_count_9 B hX0 hq (fun v' hv => hbk v' hv) (fun x hv => by obtain ⟨h1, h2, h3⟩ := hen _ hv; rw [h2, h3]; exact kx x h1.symm) (fun r hv => by obtain ⟨h1, h2, h3⟩ := hen _ hv; rw [h2, h3]; exact kr r h1.symm)
def fX8_count (p1 : Int32) (σ : jp_I) (τ : jp_J) : Option (Int32 × jp_I × jp_J) :=
  (jp_loop (fun q : (Int32 × Int32) × jp_I × jp_J => sX8_count_9 p1 q.1.1 q.1.2 q.2.1 q.2.2) jp_F ((0, 0), jp_up σ 20 0 0, τ)).bind fun (e_1, σ_1, τ_1) => match e_1 with
    | .inl v_1 => (if p1 = 0 then (some (σ_1 20 1, σ_1, τ_1)) else (if p1 = 1 then (some (σ_1 20 2, σ_1, τ_1)) else (if p1 = 2 then (some (σ_1 20 3, σ_1, τ_1)) else (if p1 = 3 then (some (v_1, σ_1, τ_1)) else (if p1 = 4 then (if (σ_1 20 9) = 0 then (some ((-1), σ_1, τ_1)) else (some (σ_1 20 11, σ_1, τ_1))) else (some ((-1), σ_1, τ_1)))))))
    | .inr r_1 => some (r_1, σ_1, τ_1)
set_option maxHeartbeats 4000000 in
set_option maxRecDepth 20000 in
theorem ctX8_count {l : Launch} {Γ : jp_G} {Z : Nat → Option jp_Sh} (hX0 : jp_hM Z) {p1 : Int32} {σ σ0 : jp_I} {τ τ0 : jp_J} {r0 : Int32} (hf : fX8_count p1 σ τ = some (r0, σ0, τ0)) : jp_M l yX8_count cX8_count 4 (some .int) 0 0 Γ Z σ τ [.ref (Γ.2.2.1 20), .int p1] (some (.int r0)) σ0 τ0 := by
  refine jp_mk (lv := [(0, .ref (Γ.2.2.1 20)), (1, .int p1)]) (by decide) (Nat.le_of_ble_eq_true rfl) rfl fun p e s m args below meth c B => ?_
  obtain ⟨hx, hb, hml, hown, hts, hr, hlk, hE⟩ := id B
  unfold fX8_count at hf
  intro H locs ls hP hS hl
  refine lv_aload_n hx hb dX8_count_0 rfl (lv_at hl 0 rfl) ?_
  refine lv_iconst (v := 0) hx hb dX8_count_1 (by decide) ?_
  refine jp_puti (k := 0) (ty := .int) B hP hS hX0.1 rfl rfl (by decide) jp_fX8 tyX8 tyX8_ok nmX8 rfl mw_134 rfl (by decide +kernel) rfl rfl dX8_count_2 (fun H locs hP hS => ?_)
  refine lv_iconst (v := 0) hx hb dX8_count_5 (by decide) ?_
  refine lv_istore_n (lv' := [(2, .int 0), (0, .ref (Γ.2.2.1 20)), (1, .int p1)]) hx hb dX8_count_6 rfl hl (by decide) rfl (fun ls hl => ?_)
  refine lv_iconst (v := 0) hx hb dX8_count_7 (by decide) ?_
  refine lv_istore_n (lv' := [(3, .int 0), (2, .int 0), (0, .ref (Γ.2.2.1 20)), (1, .int p1)]) hx hb dX8_count_8 rfl hl (by decide) rfl (fun ls hl => ?_)
  obtain ⟨⟨e_1, σ_1, τ_1⟩, h_1, hf⟩ := jp_bind hf
  refine lX8_count_9 (r0 := r0) B hX0 (x1 := p1) (fun v_1 k_1 => ?_) (fun r_1 k_1 => ?_) _ _ _ _ h_1 H locs ls hP hS (lv_sub hl [2, 3, 1, 0] rfl)
  · subst k_1
    dsimp only at hf
    intro H locs ls hP hS hl
    refine lv_iload_n hx hb dX8_count_38 rfl (lv_at hl 1 rfl) ?_
    refine lv_if_ne (tgt := 49) hx hb dX8_count_39 (by decide) (fun c_2 => ?_) (fun c_2 => ?_)
    · rw [if_neg c_2] at hf
      refine lv_iload_n hx hb dX8_count_49 rfl (lv_at hl 1 rfl) ?_
      refine lv_iconst (v := 1) hx hb dX8_count_50 (by decide) ?_
      refine lv_icmp_ne (tgt := 61) hx hb dX8_count_51 (by decide) (fun c_3 => ?_) (fun c_3 => ?_)
      · rw [if_neg c_3] at hf
        refine lv_iload_n hx hb dX8_count_61 rfl (lv_at hl 1 rfl) ?_
        refine lv_iconst (v := 2) hx hb dX8_count_62 (by decide) ?_
        refine lv_icmp_ne (tgt := 73) hx hb dX8_count_63 (by decide) (fun c_4 => ?_) (fun c_4 => ?_)
        · rw [if_neg c_4] at hf
          refine lv_iload_n hx hb dX8_count_73 rfl (lv_at hl 1 rfl) ?_
          refine lv_iconst (v := 3) hx hb dX8_count_74 (by decide) ?_
          refine lv_icmp_ne (tgt := 82) hx hb dX8_count_75 (by decide) (fun c_5 => ?_) (fun c_5 => ?_)
          · rw [if_neg c_5] at hf
            refine lv_iload_n hx hb dX8_count_82 rfl (lv_at hl 1 rfl) ?_
            refine lv_iconst (v := 4) hx hb dX8_count_83 (by decide) ?_
            refine lv_icmp_ne (tgt := 105) hx hb dX8_count_84 (by decide) (fun c_6 => ?_) (fun c_6 => ?_)
            · rw [if_neg c_6] at hf
              refine lv_iconst (v := -1) hx hb dX8_count_105 (by decide) ?_
              exact jp_endi B hP hS dX8_count_106 (jp_inj hf)
            · rw [if_pos c_6] at hf
              refine lv_aload_n hx hb dX8_count_87 rfl (lv_at hl 0 rfl) ?_
              refine jp_geti (k := 9) B hP hX0.1 rfl rfl (by decide) jp_fX8 rfl mw_143 dX8_count_88 ?_
              refine lv_if_eq (tgt := 101) hx hb dX8_count_91 (by decide) (fun c_7 => ?_) (fun c_7 => ?_)
              · rw [if_pos c_7] at hf
                refine lv_iconst (v := -1) hx hb dX8_count_101 (by decide) ?_
                refine lv_goto (tgt := 106) hx hb dX8_count_102 (by decide) ?_
                exact jp_endi B hP hS dX8_count_106 (jp_inj hf)
              · rw [if_neg c_7] at hf
                refine lv_aload_n hx hb dX8_count_94 rfl (lv_at hl 0 rfl) ?_
                refine jp_geti (k := 11) B hP hX0.1 rfl rfl (by decide) jp_fX8 rfl mw_145 dX8_count_95 ?_
                refine lv_goto (tgt := 106) hx hb dX8_count_98 (by decide) ?_
                exact jp_endi B hP hS dX8_count_106 (jp_inj hf)
          · rw [if_pos c_5] at hf
            refine lv_iload_n hx hb dX8_count_78 rfl (lv_at hl 2 rfl) ?_
            refine lv_goto (tgt := 106) hx hb dX8_count_79 (by decide) ?_
            exact jp_endi B hP hS dX8_count_106 (jp_inj hf)
        · rw [if_pos c_4] at hf
          refine lv_aload_n hx hb dX8_count_66 rfl (lv_at hl 0 rfl) ?_
          refine jp_geti (k := 3) B hP hX0.1 rfl rfl (by decide) jp_fX8 rfl mw_136 dX8_count_67 ?_
          refine lv_goto (tgt := 106) hx hb dX8_count_70 (by decide) ?_
          exact jp_endi B hP hS dX8_count_106 (jp_inj hf)
      · rw [if_pos c_3] at hf
        refine lv_aload_n hx hb dX8_count_54 rfl (lv_at hl 0 rfl) ?_
        refine jp_geti (k := 2) B hP hX0.1 rfl rfl (by decide) jp_fX8 rfl mw_135 dX8_count_55 ?_
        refine lv_goto (tgt := 106) hx hb dX8_count_58 (by decide) ?_
        exact jp_endi B hP hS dX8_count_106 (jp_inj hf)
    · rw [if_pos c_2] at hf
      refine lv_aload_n hx hb dX8_count_42 rfl (lv_at hl 0 rfl) ?_
      refine jp_geti (k := 1) B hP hX0.1 rfl rfl (by decide) jp_fX8 rfl mw_151 dX8_count_43 ?_
      refine lv_goto (tgt := 106) hx hb dX8_count_46 (by decide) ?_
      exact jp_endi B hP hS dX8_count_106 (jp_inj hf)
  · subst k_1
    dsimp only at hf
    exact jp_inj hf
end
