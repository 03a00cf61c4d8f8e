-- X8_open
section
variable {p : Program} {l : Launch} {e : Jvm.Env} {s : State} {m : MethodId} {args : Array Value} {below : List Frame} {meth : Method} {c : Code} {Γ : jp_G} {Z : Nat → Option jp_Sh} {r0 : Int32} {σ0 : jp_I} {τ0 : jp_J}
def bX8_open_80_in3 (x1 : Int32) (x2 : Int32) (x3 : Int32) (x4 : Int32) (x5 : Int32) (σ : jp_I) (τ : jp_J) : Option (Sum (Int32) (Sum (Unit) Int32) × jp_I × jp_J) :=
  some (.inl (x5 + 1), σ, τ)
set_option maxHeartbeats 4000000 in
set_option maxRecDepth 20000 in
theorem wbX8_open_80_in3 (B : jp_B Γ p s m args meth c RX8 cX8_open 8 (some .boolean)) (hX0 : jp_hM Z) {x1 : Int32} {x2 : Int32} {x3 : Int32} {x4 : Int32} {x5 : Int32} {σ : jp_I} {τ : jp_J} {q : Sum (Int32) (Sum (Unit) Int32) × jp_I × jp_J} (hf : bX8_open_80_in3 x1 x2 x3 x4 x5 σ τ = some q) (kb : ∀ v : Int32, q.1 = .inl v → jp_at p l e (jp_R 0 0) s m args below meth c (MQ below (jp_Q Γ Z (some (.int r0)) σ0 τ0) args s 0 0 (jp_A Γ)) 8 Γ Z 3 [(0, .ref (Γ.2.2.1 20)), (1, .int x1), (2, .int x2), (3, .int x3), (4, .int x4), (5, .int v)] [] q.2.1 q.2.2) (kx : ∀ v : Unit, q.1 = .inr (.inl v) → jp_at p l e (jp_R 0 0) s m args below meth c (MQ below (jp_Q Γ Z (some (.int r0)) σ0 τ0) args s 0 0 (jp_A Γ)) 8 Γ Z 86 [] [] q.2.1 q.2.2) (kr : ∀ v : Int32, q.1 = .inr (.inr v) → r0 = v ∧ σ0 = q.2.1 ∧ τ0 = q.2.2) : jp_at p l e (jp_R 0 0) s m args below meth c (MQ below (jp_Q Γ Z (some (.int r0)) σ0 τ0) args s 0 0 (jp_A Γ)) 8 Γ Z 80 [(0, .ref (Γ.2.2.1 20)), (1, .int x1), (2, .int x2), (3, .int x3), (4, .int x4), (5, .int x5)] [] σ τ := by
  obtain ⟨hx, hb, hml, hown, hts, hr, hlk, hE⟩ := id B
  unfold bX8_open_80_in3 at hf
  intro H locs ls hP hS hl
  refine lv_iinc (v := x5 + 1) (lv' := [(5, .int (x5 + 1)), (0, .ref (Γ.2.2.1 20)), (1, .int x1), (2, .int x2), (3, .int x3), (4, .int x4)]) hx hb dX8_open_80 hl (k := 5) rfl rfl (by decide) rfl (fun ls hl => ?_)
  refine lv_goto (tgt := 3) hx hb dX8_open_83 (by decide) ?_
  obtain rfl := Option.some.inj hf
  exact kb _ rfl H locs ls hP hS (lv_sub hl [1, 2, 3, 4, 5, 0] rfl)
def sX8_open_3 (x1 : Int32) (x2 : Int32) (x3 : Int32) (x4 : Int32) (x5 : Int32) (σ : jp_I) (τ : jp_J) : Option (Sum (Int32) (Sum (Unit) Int32) × jp_I × jp_J) :=
  if x1 ≤ x5 then (some (.inr (.inl ()), σ, τ)) else (if jp_ok x5 4 = true then if jp_ok ((160 * (σ 26 x5.toNatClampNeg)) + x2) 640 = true then if jp_ok x5 4 = true then if jp_ok (((160 * (σ 26 x5.toNatClampNeg)) + x2) + 1) 640 = true then if (σ 25 (((160 * (σ 26 x5.toNatClampNeg)) + x2) + 1).toNatClampNeg) = x4 then (some (.inr (.inr 0), σ, τ)) else (if (σ 20 7) = 0 then (bX8_open_80_in3 x1 x2 x3 x4 x5 σ τ) else (if (σ 25 ((160 * (σ 26 x5.toNatClampNeg)) + x2).toNatClampNeg) = x4 then (if (σ 25 (((160 * (σ 26 x5.toNatClampNeg)) + x2) + 1).toNatClampNeg) = x3 then (some (.inr (.inr 0), σ, τ)) else (bX8_open_80_in3 x1 x2 x3 x4 x5 σ τ)) else (bX8_open_80_in3 x1 x2 x3 x4 x5 σ τ))) else none else none else none else none)
set_option maxHeartbeats 4000000 in
set_option maxRecDepth 20000 in
theorem wsX8_open_3 (B : jp_B Γ p s m args meth c RX8 cX8_open 8 (some .boolean)) (hX0 : jp_hM Z) {x1 : Int32} {x2 : Int32} {x3 : Int32} {x4 : Int32} {x5 : Int32} {σ : jp_I} {τ : jp_J} {q : Sum (Int32) (Sum (Unit) Int32) × jp_I × jp_J} (hf : sX8_open_3 x1 x2 x3 x4 x5 σ τ = some q) (kb : ∀ v : Int32, q.1 = .inl v → jp_at p l e (jp_R 0 0) s m args below meth c (MQ below (jp_Q Γ Z (some (.int r0)) σ0 τ0) args s 0 0 (jp_A Γ)) 8 Γ Z 3 [(0, .ref (Γ.2.2.1 20)), (1, .int x1), (2, .int x2), (3, .int x3), (4, .int x4), (5, .int v)] [] q.2.1 q.2.2) (kx : ∀ v : Unit, q.1 = .inr (.inl v) → jp_at p l e (jp_R 0 0) s m args below meth c (MQ below (jp_Q Γ Z (some (.int r0)) σ0 τ0) args s 0 0 (jp_A Γ)) 8 Γ Z 86 [] [] q.2.1 q.2.2) (kr : ∀ v : Int32, q.1 = .inr (.inr v) → r0 = v ∧ σ0 = q.2.1 ∧ τ0 = q.2.2) : jp_at p l e (jp_R 0 0) s m args below meth c (MQ below (jp_Q Γ Z (some (.int r0)) σ0 τ0) args s 0 0 (jp_A Γ)) 8 Γ Z 3 [(0, .ref (Γ.2.2.1 20)), (1, .int x1), (2, .int x2), (3, .int x3), (4, .int x4), (5, .int x5)] [] σ τ := by
  obtain ⟨hx, hb, hml, hown, hts, hr, hlk, hE⟩ := id B
  unfold sX8_open_3 at hf
  intro H locs ls hP hS hl
  refine lv_iload hx hb dX8_open_3 (lv_at hl 5 rfl) ?_
  refine lv_iload_n hx hb dX8_open_5 rfl (lv_at hl 1 rfl) ?_
  refine lv_icmp_ge (tgt := 86) hx hb dX8_open_6 (by decide) (fun c_1 => ?_) (fun c_1 => ?_)
  · rw [if_pos c_1] at hf
    obtain rfl := Option.some.inj hf
    exact kx _ rfl H locs ls hP hS (lv_sub hl [] rfl)
  · rw [if_neg c_1] at hf
    refine lv_aload_n hx hb dX8_open_9 rfl (lv_at hl 0 rfl) ?_
    refine jp_getr (k := 14) B hP hX0.1 rfl rfl (by decide) jp_fX8 rfl mw_148 dX8_open_10 ?_
    refine lv_sipush (v := 160) hx hb dX8_open_13 (by decide) ?_
    refine lv_aload_n hx hb dX8_open_16 rfl (lv_at hl 0 rfl) ?_
    refine jp_getr (k := 15) B hP hX0.1 rfl rfl (by decide) jp_fX8 rfl mw_149 dX8_open_17 ?_
    refine lv_iload hx hb dX8_open_20 (lv_at hl 5 rfl) ?_
    obtain ⟨g_2, hf⟩ := jp_if hf
    refine jp_iald B hP hX0.2.2.2.2.2.2.1 (jp_ok_vp g_2) dX8_open_22 ?_
    refine lv_imul hx hb dX8_open_23 ?_
    refine lv_iload_n hx hb dX8_open_24 rfl (lv_at hl 2 rfl) ?_
    refine lv_iadd hx hb dX8_open_25 ?_
    obtain ⟨g_3, hf⟩ := jp_if hf
    refine jp_iald B hP hX0.2.2.2.2.2.1 (jp_ok_vp g_3) dX8_open_26 ?_
    refine lv_istore (lv' := [(6, .int (σ 25 ((160 * (σ 26 x5.toNatClampNeg)) + x2).toNatClampNeg)), (0, .ref (Γ.2.2.1 20)), (1, .int x1), (2, .int x2), (3, .int x3), (4, .int x4), (5, .int x5)]) hx hb dX8_open_27 hl (by decide) rfl (fun ls hl => ?_)
    refine lv_aload_n hx hb dX8_open_29 rfl (lv_at hl 1 rfl) ?_
    refine jp_getr (k := 14) B hP hX0.1 rfl rfl (by decide) jp_fX8 rfl mw_148 dX8_open_30 ?_
    refine lv_sipush (v := 160) hx hb dX8_open_33 (by decide) ?_
    refine lv_aload_n hx hb dX8_open_36 rfl (lv_at hl 1 rfl) ?_
    refine jp_getr (k := 15) B hP hX0.1 rfl rfl (by decide) jp_fX8 rfl mw_149 dX8_open_37 ?_
    refine lv_iload hx hb dX8_open_40 (lv_at hl 6 rfl) ?_
    obtain ⟨g_4, hf⟩ := jp_if hf
    refine jp_iald B hP hX0.2.2.2.2.2.2.1 (jp_ok_vp g_4) dX8_open_42 ?_
    refine lv_imul hx hb dX8_open_43 ?_
    refine lv_iload_n hx hb dX8_open_44 rfl (lv_at hl 3 rfl) ?_
    refine lv_iadd hx hb dX8_open_45 ?_
    refine lv_iconst (v := 1) hx hb dX8_open_46 (by decide) ?_
    refine lv_iadd hx hb dX8_open_47 ?_
    obtain ⟨g_5, hf⟩ := jp_if hf
    refine jp_iald B hP hX0.2.2.2.2.2.1 (jp_ok_vp g_5) dX8_open_48 ?_
    refine lv_istore (lv' := [(7, .int (σ 25 (((160 * (σ 26 x5.toNatClampNeg)) + x2) + 1).toNatClampNeg)), (6, .int (σ 25 ((160 * (σ 26 x5.toNatClampNeg)) + x2).toNatClampNeg)), (0, .ref (Γ.2.2.1 20)), (1, .int x1), (2, .int x2), (3, .int x3), (4, .int x4), (5, .int x5)]) hx hb dX8_open_49 hl (by decide) rfl (fun ls hl => ?_)
    refine lv_iload hx hb dX8_open_51 (lv_at hl 0 rfl) ?_
    refine lv_iload hx hb dX8_open_53 (lv_at hl 6 rfl) ?_
    refine lv_icmp_eq (tgt := 78) hx hb dX8_open_55 (by decide) (fun c_6 => ?_) (fun c_6 => ?_)
    · rw [if_pos c_6] at hf
      refine lv_iconst (v := 0) hx hb dX8_open_78 (by decide) ?_
      obtain rfl := Option.some.inj hf
      exact jp_endz B hP hS (by decide) dX8_open_79 (kr _ rfl)
    · rw [if_neg c_6] at hf
      refine lv_aload_n hx hb dX8_open_58 rfl (lv_at hl 2 rfl) ?_
      refine jp_geti (k := 7) B hP hX0.1 rfl rfl (by decide) jp_fX8 rfl mw_141 dX8_open_59 ?_
      refine lv_if_eq (tgt := 80) hx hb dX8_open_62 (by decide) (fun c_7 => ?_) (fun c_7 => ?_)
      · rw [if_pos c_7] at hf
        exact wbX8_open_80_in3 B hX0 hf kb kx kr H locs ls hP hS (lv_sub hl [2, 3, 4, 5, 6, 7] rfl)
      · rw [if_neg c_7] at hf
        refine lv_iload hx hb dX8_open_65 (lv_at hl 1 rfl) ?_
        refine lv_iload hx hb dX8_open_67 (lv_at hl 6 rfl) ?_
        refine lv_icmp_ne (tgt := 80) hx hb dX8_open_69 (by decide) (fun c_8 => ?_) (fun c_8 => ?_)
        · rw [if_neg c_8] at hf
          exact wbX8_open_80_in3 B hX0 hf kb kx kr H locs ls hP hS (lv_sub hl [2, 3, 4, 5, 6, 7] rfl)
        · rw [if_pos c_8] at hf
          refine lv_iload hx hb dX8_open_72 (lv_at hl 0 rfl) ?_
          refine lv_iload_n hx hb dX8_open_74 rfl (lv_at hl 5 rfl) ?_
          refine lv_icmp_ne (tgt := 80) hx hb dX8_open_75 (by decide) (fun c_9 => ?_) (fun c_9 => ?_)
          · rw [if_neg c_9] at hf
            exact wbX8_open_80_in3 B hX0 hf kb kx kr H locs ls hP hS (lv_sub hl [2, 3, 4, 5, 6, 7] rfl)
          · rw [if_pos c_9] at hf
            refine lv_iconst (v := 0) hx hb dX8_open_78 (by decide) ?_
            obtain rfl := Option.some.inj hf
            exact jp_endz B hP hS (by decide) dX8_open_79 (kr _ rfl)
set_option maxHeartbeats 4000000 in
theorem lX8_open_3 (B : jp_B Γ p s m args meth c RX8 cX8_open 8 (some .boolean)) (hX0 : jp_hM Z) {x1 : Int32} {x2 : Int32} {x3 : Int32} {x4 : Int32} {e1 : Sum (Unit) Int32} {σ1 : jp_I} {τ1 : jp_J} (kx : ∀ v : Unit, e1 = .inl v → jp_at p l e (jp_R 0 0) s m args below meth c (MQ below (jp_Q Γ Z (some (.int r0)) σ0 τ0) args s 0 0 (jp_A Γ)) 8 Γ Z 86 [] [] σ1 τ1) (kr : ∀ v : Int32, e1 = .inr v → r0 = v ∧ σ0 = σ1 ∧ τ0 = τ1) : ∀ (k : Nat) (v : Int32) (σ : jp_I) (τ : jp_J), jp_loop (fun q : (Int32) × jp_I × jp_J => sX8_open_3 x1 x2 x3 x4 q.1 q.2.1 q.2.2) k (v, σ, τ) = some (e1, σ1, τ1) → jp_at p l e (jp_R 0 0) s m args below meth c (MQ below (jp_Q Γ Z (some (.int r0)) σ0 τ0) args s 0 0 (jp_A Γ)) 8 Γ Z 3 [(0, .ref (Γ.2.2.1 20)), (1, .int x1), (2, .int x2), (3, .int x3), (4, .int x4), (5, .int v)] [] σ τ := by
  refine jp_loopI (P := fun (v : Int32) (σ : jp_I) (τ : jp_J) => jp_at p l e (jp_R 0 0) s m args below meth c (MQ below (jp_Q Γ Z (some (.int r0)) σ0 τ0) args s 0 0 (jp_A Γ)) 8 Γ Z 3 [(0, .ref (Γ.2.2.1 20)), (1, .int x1), (2, .int x2), (3, .int x3), (4, .int x4), (5, .int v)] [] σ τ) (fun v σ τ q hq hbk hen => ?_)
  exact wsX8_open_3 B hX0 hq (fun v' hv => hbk v' hv) (fun x hv => by obtain ⟨h1, h2, h3⟩ := hen _ hv; rw [h2, h3]; exact kx x h1.symm) (fun r hv => by obtain ⟨h1, h2, h3⟩ := hen _ hv; rw [h2, h3]; exact kr r h1.symm)
def fX8_open (p1 : Int32) (p2 : Int32) (p3 : Int32) (p4 : Int32) (σ : jp_I) (τ : jp_J) : Option (Int32 × jp_I × jp_J) :=
  (jp_loop (fun q : (Int32) × jp_I × jp_J => sX8_open_3 p1 p2 p3 p4 q.1 q.2.1 q.2.2) jp_F (0, σ, τ)).bind fun (e_1, σ_1, τ_1) => match e_1 with
    | .inl _ => (some (1, σ_1, τ_1))
    | .inr r_1 => some (r_1, σ_1, τ_1)
set_option maxHeartbeats 4000000 in
set_option maxRecDepth 20000 in
theorem ctX8_open {l : Launch} {Γ : jp_G} {Z : Nat → Option jp_Sh} (hX0 : jp_hM Z) {p1 : Int32} {p2 : Int32} {p3 : Int32} {p4 : Int32} {σ σ0 : jp_I} {τ τ0 : jp_J} {r0 : Int32} (hf : fX8_open p1 p2 p3 p4 σ τ = some (r0, σ0, τ0)) : jp_M l yX8_open cX8_open 8 (some .boolean) 0 0 Γ Z σ τ [.ref (Γ.2.2.1 20), .int p1, .int p2, .int p3, .int p4] (some (.int r0)) σ0 τ0 := by
  refine jp_mk (lv := [(0, .ref (Γ.2.2.1 20)), (1, .int p1), (2, .int p2), (3, .int p3), (4, .int p4)]) (by decide) (Nat.le_of_ble_eq_true rfl) rfl fun p e s m args below meth c B => ?_
  obtain ⟨hx, hb, hml, hown, hts, hr, hlk, hE⟩ := id B
  unfold fX8_open at hf
  intro H locs ls hP hS hl
  refine lv_iconst (v := 0) hx hb dX8_open_0 (by decide) ?_
  refine lv_istore (lv' := [(5, .int 0), (0, .ref (Γ.2.2.1 20)), (1, .int p1), (2, .int p2), (3, .int p3), (4, .int p4)]) hx hb dX8_open_1 hl (by decide) rfl (fun ls hl => ?_)
  obtain ⟨⟨e_1, σ_1, τ_1⟩, h_1, hf⟩ := jp_bind hf
  refine lX8_open_3 (r0 := r0) B hX0 (x1 := p1) (x2 := p2) (x3 := p3) (x4 := p4) (fun v_1 k_1 => ?_) (fun r_1 k_1 => ?_) _ _ _ _ h_1 H locs ls hP hS (lv_sub hl [1, 2, 3, 4, 5, 0] rfl)
  · subst k_1
    dsimp only at hf
    intro H locs ls hP hS hl
    refine lv_iconst (v := 1) hx hb dX8_open_86 (by decide) ?_
    exact jp_endz B hP hS (by decide) dX8_open_87 (jp_inj hf)
  · subst k_1
    dsimp only at hf
    exact jp_inj hf
end
-- X8_step
section
variable {p : Program} {l : Launch} {e : Jvm.Env} {s : State} {m : MethodId} {args : Array Value} {below : List Frame} {meth : Method} {c : Code} {Γ : jp_G} {Z : Nat → Option jp_Sh} {r0 : Int32} {σ0 : jp_I} {τ0 : jp_J}
def fX8_step (p1 : Int32) (p2 : Int32) (p3 : Int32) (p4 : Int32) (σ : jp_I) (τ : jp_J) : Option (Int32 × jp_I × jp_J) :=
  (fX8_outside p3 σ τ).bind fun (a_1, σ_1, τ_1) => if a_1 = 0 then ((fX8_moved p3 p4 σ_1 τ_1).bind fun (a_3, σ_3, τ_3) => if a_3 < 0 then (some (1000000, σ_3, τ_3)) else ((fX8_open p1 p2 p3 a_3 σ_3 τ_3).bind fun (a_5, σ_5, τ_5) => if a_5 = 0 then (some (1000000, σ_5, τ_5)) else (if jp_ok (((36 * p2) + 36) + a_3) 1476 = true then if (σ_5 27 (((36 * p2) + 36) + a_3).toNatClampNeg) < 1000000 then (if jp_ok p1 4 = true then if jp_ok (σ_5 26 p1.toNatClampNeg) 4 = true then (fX8_stays p3 a_3 (σ_5 23 (σ_5 26 p1.toNatClampNeg).toNatClampNeg) σ_5 τ_5).bind fun (a_11, σ_11, τ_11) => some ((σ_5 27 (((36 * p2) + 36) + a_3).toNatClampNeg) + a_11, σ_11, τ_11) else none else none) else (some (1000000, σ_5, τ_5)) else none))) else (some (1000000, σ_1, τ_1))
set_option maxHeartbeats 4000000 in
set_option maxRecDepth 20000 in
theorem ctX8_step {l : Launch} {Γ : jp_G} {Z : Nat → Option jp_Sh} (hX0 : jp_hM Z) {p1 : Int32} {p2 : Int32} {p3 : Int32} {p4 : Int32} {σ σ0 : jp_I} {τ τ0 : jp_J} {r0 : Int32} (hf : fX8_step p1 p2 p3 p4 σ τ = some (r0, σ0, τ0)) : jp_M l yX8_step cX8_step 7 (some .int) 2 46 Γ Z σ τ [.ref (Γ.2.2.1 20), .int p1, .int p2, .int p3, .int p4] (some (.int r0)) σ0 τ0 := by
  refine jp_mk (lv := [(0, .ref (Γ.2.2.1 20)), (1, .int p1), (2, .int p2), (3, .int p3), (4, .int p4)]) (by decide) (Nat.le_of_ble_eq_true rfl) rfl fun p e s m args below meth c B => ?_
  obtain ⟨hx, hb, hml, hown, hts, hr, hlk, hE⟩ := id B
  unfold fX8_step at hf
  intro H locs ls hP hS hl
  refine lv_aload_n hx hb dX8_step_0 rfl (lv_at hl 0 rfl) ?_
  refine lv_iload_n hx hb dX8_step_1 rfl (lv_at hl 3 rfl) ?_
  obtain ⟨⟨a_1, σ_1, τ_1⟩, h_1, hf⟩ := jp_bind hf
  dsimp only at hf
  refine jp_callV (rest := []) B hP hS hl (ctX8_outside ⟨hX0.1, hX0.2.1, hX0.2.2.1, hX0.2.2.2.1, hX0.2.2.2.2.1, hX0.2.2.2.2.2.1, hX0.2.2.2.2.2.2.1, hX0.2.2.2.2.2.2.2⟩ h_1) hX0.1 rfl mw_426 mw_423 mw_424 mw_425 mw_5 ddX8_outside ⟨Nat.le_of_ble_eq_true rfl, Nat.le_of_ble_eq_true rfl⟩ ⟨Nat.zero_le _, Nat.zero_le _⟩ rfl (Nat.le_of_ble_eq_true rfl) dX8_step_2 (fun H locs hP hS => ?_)
  refine lv_if_eq (tgt := 11) hx hb dX8_step_5 (by decide) (fun c_2 => ?_) (fun c_2 => ?_)
  · rw [if_pos c_2] at hf
    refine lv_aload_n hx hb dX8_step_11 rfl (lv_at hl 0 rfl) ?_
    refine lv_iload_n hx hb dX8_step_12 rfl (lv_at hl 3 rfl) ?_
    refine lv_iload hx hb dX8_step_13 (lv_at hl 4 rfl) ?_
    obtain ⟨⟨a_3, σ_3, τ_3⟩, h_3, hf⟩ := jp_bind hf
    dsimp only at hf
    refine jp_callV (rest := []) B hP hS hl (ctX8_moved ⟨hX0.1, hX0.2.1, hX0.2.2.1, hX0.2.2.2.1, hX0.2.2.2.2.1, hX0.2.2.2.2.2.1, hX0.2.2.2.2.2.2.1, hX0.2.2.2.2.2.2.2⟩ h_3) hX0.1 rfl mw_434 mw_431 mw_432 mw_433 mw_5 ddX8_moved ⟨Nat.le_of_ble_eq_true rfl, Nat.le_of_ble_eq_true rfl⟩ ⟨Nat.zero_le _, Nat.zero_le _⟩ rfl (Nat.le_of_ble_eq_true rfl) dX8_step_15 (fun H locs hP hS => ?_)
    refine lv_istore (lv' := [(5, .int a_3), (0, .ref (Γ.2.2.1 20)), (1, .int p1), (2, .int p2), (3, .int p3), (4, .int p4)]) hx hb dX8_step_18 hl (by decide) rfl (fun ls hl => ?_)
    refine lv_iload hx hb dX8_step_20 (lv_at hl 0 rfl) ?_
    refine lv_if_lt (tgt := 37) hx hb dX8_step_22 (by decide) (fun c_4 => ?_) (fun c_4 => ?_)
    · rw [if_pos c_4] at hf
      refine lv_ldc (v := 1000000) hx hb hown (hts _ mw_414) dX8_step_37 ?_
      exact jp_endi B hP hS dX8_step_39 (jp_inj hf)
    · rw [if_neg c_4] at hf
      refine lv_aload_n hx hb dX8_step_25 rfl (lv_at hl 1 rfl) ?_
      refine lv_iload_n hx hb dX8_step_26 rfl (lv_at hl 2 rfl) ?_
      refine lv_iload_n hx hb dX8_step_27 rfl (lv_at hl 3 rfl) ?_
      refine lv_iload_n hx hb dX8_step_28 rfl (lv_at hl 4 rfl) ?_
      refine lv_iload hx hb dX8_step_29 (lv_at hl 0 rfl) ?_
      obtain ⟨⟨a_5, σ_5, τ_5⟩, h_5, hf⟩ := jp_bind hf
      dsimp only at hf
      refine jp_callV (rest := []) B hP hS hl (ctX8_open ⟨hX0.1, hX0.2.1, hX0.2.2.1, hX0.2.2.2.1, hX0.2.2.2.2.1, hX0.2.2.2.2.2.1, hX0.2.2.2.2.2.2.1, hX0.2.2.2.2.2.2.2⟩ h_5) hX0.1 rfl mw_469 mw_466 mw_467 mw_468 mw_5 ddX8_open ⟨Nat.le_of_ble_eq_true rfl, Nat.le_of_ble_eq_true rfl⟩ ⟨Nat.zero_le _, Nat.zero_le _⟩ rfl (Nat.le_of_ble_eq_true rfl) dX8_step_31 (fun H locs hP hS => ?_)
      refine lv_if_ne (tgt := 40) hx hb dX8_step_34 (by decide) (fun c_6 => ?_) (fun c_6 => ?_)
      · rw [if_neg c_6] at hf
        refine lv_aload_n hx hb dX8_step_40 rfl (lv_at hl 1 rfl) ?_
        refine jp_getr (k := 16) B hP hX0.1 rfl rfl (by decide) jp_fX8 rfl mw_150 dX8_step_41 ?_
        refine lv_bipush (v := 36) hx hb dX8_step_44 (by decide) ?_
        refine lv_iload_n hx hb dX8_step_46 rfl (lv_at hl 3 rfl) ?_
        refine lv_imul hx hb dX8_step_47 ?_
        refine lv_bipush (v := 36) hx hb dX8_step_48 (by decide) ?_
        refine lv_iadd hx hb dX8_step_50 ?_
        refine lv_iload hx hb dX8_step_51 (lv_at hl 0 rfl) ?_
        refine lv_iadd hx hb dX8_step_53 ?_
        obtain ⟨g_7, hf⟩ := jp_if hf
        refine jp_iald B hP hX0.2.2.2.2.2.2.2 (jp_ok_vp g_7) dX8_step_54 ?_
        refine lv_istore (lv' := [(6, .int (σ_5 27 (((36 * p2) + 36) + a_3).toNatClampNeg)), (5, .int a_3), (0, .ref (Γ.2.2.1 20)), (1, .int p1), (2, .int p2), (3, .int p3), (4, .int p4)]) hx hb dX8_step_55 hl (by decide) rfl (fun ls hl => ?_)
        refine lv_iload hx hb dX8_step_57 (lv_at hl 0 rfl) ?_
        refine lv_ldc (v := 1000000) hx hb hown (hts _ mw_414) dX8_step_59 ?_
        refine lv_icmp_lt (tgt := 69) hx hb dX8_step_61 (by decide) (fun c_8 => ?_) (fun c_8 => ?_)
        · rw [if_pos c_8] at hf
          refine lv_iload hx hb dX8_step_69 (lv_at hl 0 rfl) ?_
          refine lv_iload_n hx hb dX8_step_71 rfl (lv_at hl 5 rfl) ?_
          refine lv_iload hx hb dX8_step_72 (lv_at hl 1 rfl) ?_
          refine lv_aload_n hx hb dX8_step_74 rfl (lv_at hl 2 rfl) ?_
          refine jp_getr (k := 6) B hP hX0.1 rfl rfl (by decide) jp_fX8 rfl mw_140 dX8_step_75 ?_
          refine lv_aload_n hx hb dX8_step_78 rfl (lv_at hl 2 rfl) ?_
          refine jp_getr (k := 15) B hP hX0.1 rfl rfl (by decide) jp_fX8 rfl mw_149 dX8_step_79 ?_
          refine lv_iload_n hx hb dX8_step_82 rfl (lv_at hl 3 rfl) ?_
          obtain ⟨g_9, hf⟩ := jp_if hf
          refine jp_iald B hP hX0.2.2.2.2.2.2.1 (jp_ok_vp g_9) dX8_step_83 ?_
          obtain ⟨g_10, hf⟩ := jp_if hf
          refine jp_iald B hP hX0.2.2.2.1 (jp_ok_vp g_10) dX8_step_84 ?_
          obtain ⟨⟨a_11, σ_11, τ_11⟩, h_11, hf⟩ := jp_bind hf
          dsimp only at hf
          refine jp_callS (rest := [.int (σ_5 27 (((36 * p2) + 36) + a_3).toNatClampNeg)]) B hP hS hl (ctX8_stays h_11) mw_437 mw_435 mw_436 mw_5 ddX8_stays ⟨Nat.le_of_ble_eq_true rfl, Nat.le_of_ble_eq_true rfl⟩ ⟨Nat.zero_le _, Nat.zero_le _⟩ rfl (Nat.le_of_ble_eq_true rfl) dX8_step_85 (fun H locs hP hS => ?_)
          refine lv_iadd hx hb dX8_step_88 ?_
          exact jp_endi B hP hS dX8_step_89 (jp_inj hf)
        · rw [if_neg c_8] at hf
          refine lv_ldc (v := 1000000) hx hb hown (hts _ mw_414) dX8_step_64 ?_
          refine lv_goto (tgt := 89) hx hb dX8_step_66 (by decide) ?_
          exact jp_endi B hP hS dX8_step_89 (jp_inj hf)
      · rw [if_pos c_6] at hf
        refine lv_ldc (v := 1000000) hx hb hown (hts _ mw_414) dX8_step_37 ?_
        exact jp_endi B hP hS dX8_step_39 (jp_inj hf)
  · rw [if_neg c_2] at hf
    refine lv_ldc (v := 1000000) hx hb hown (hts _ mw_414) dX8_step_8 ?_
    exact jp_endi B hP hS dX8_step_10 (jp_inj hf)
end
-- X8_way
section
variable {p : Program} {l : Launch} {e : Jvm.Env} {s : State} {m : MethodId} {args : Array Value} {below : List Frame} {meth : Method} {c : Code} {Γ : jp_G} {Z : Nat → Option jp_Sh} {r0 : Int32} {σ0 : jp_I} {τ0 : jp_J}
def sX8_way_9 (x1 : Int32) (x2 : Int32) (x3 : Int32) (σ : jp_I) (τ : jp_J) : Option (Sum (Int32) (Sum (Unit) Int32) × jp_I × jp_J) :=
  if x1 ≤ x3 then (some (.inr (.inl ()), σ, τ)) else (if jp_ok x3 4 = true then if jp_ok (160 * (σ 26 x3.toNatClampNeg)) 640 = true then if jp_ok x2 4 = true then if (σ 25 (160 * (σ 26 x3.toNatClampNeg)).toNatClampNeg) = (σ 22 x2.toNatClampNeg) then (some (.inr (.inr 0), σ, τ)) else (some (.inl (x3 + 1), σ, τ)) else none else none else none)
set_option maxHeartbeats 4000000 in
set_option maxRecDepth 20000 in
theorem wsX8_way_9 (B : jp_B Γ p s m args meth c RX8 cX8_way 7 (some .boolean)) (hX0 : jp_hM Z) {x1 : Int32} {x2 : Int32} {x3 : Int32} {σ : jp_I} {τ : jp_J} {q : Sum (Int32) (Sum (Unit) Int32) × jp_I × jp_J} (hf : sX8_way_9 x1 x2 x3 σ τ = some q) (kb : ∀ v : Int32, q.1 = .inl v → jp_at p l e (jp_R 3 72) s m args below meth c (MQ below (jp_Q Γ Z (some (.int r0)) σ0 τ0) args s 0 0 (jp_A Γ)) 7 Γ Z 9 [(0, .ref (Γ.2.2.1 20)), (1, .int x1), (2, .int x2), (3, .int v)] [] q.2.1 q.2.2) (kx : ∀ v : Unit, q.1 = .inr (.inl v) → jp_at p l e (jp_R 3 72) s m args below meth c (MQ below (jp_Q Γ Z (some (.int r0)) σ0 τ0) args s 0 0 (jp_A Γ)) 7 Γ Z 46 [(0, .ref (Γ.2.2.1 20)), (1, .int x1), (2, .int x2)] [] q.2.1 q.2.2) (kr : ∀ v : Int32, q.1 = .inr (.inr v) → r0 = v ∧ σ0 = q.2.1 ∧ τ0 = q.2.2) : jp_at p l e (jp_R 3 72) s m args below meth c (MQ below (jp_Q Γ Z (some (.int r0)) σ0 τ0) args s 0 0 (jp_A Γ)) 7 Γ Z 9 [(0, .ref (Γ.2.2.1 20)), (1, .int x1), (2, .int x2), (3, .int x3)] [] σ τ := by
  obtain ⟨hx, hb, hml, hown, hts, hr, hlk, hE⟩ := id B
  unfold sX8_way_9 at hf
  intro H locs ls hP hS hl
  refine lv_iload_n hx hb dX8_way_9 rfl (lv_at hl 3 rfl) ?_
  refine lv_iload_n hx hb dX8_way_10 rfl (lv_at hl 1 rfl) ?_
  refine lv_icmp_ge (tgt := 46) hx hb dX8_way_11 (by decide) (fun c_1 => ?_) (fun c_1 => ?_)
  · rw [if_pos c_1] at hf
    obtain rfl := Option.some.inj hf
    exact kx _ rfl H locs ls hP hS (lv_sub hl [0, 1, 2] rfl)
  · rw [if_neg c_1] at hf
    refine lv_aload_n hx hb dX8_way_14 rfl (lv_at hl 0 rfl) ?_
    refine jp_getr (k := 14) B hP hX0.1 rfl rfl (by decide) jp_fX8 rfl mw_148 dX8_way_15 ?_
    refine lv_sipush (v := 160) hx hb dX8_way_18 (by decide) ?_
    refine lv_aload_n hx hb dX8_way_21 rfl (lv_at hl 0 rfl) ?_
    refine jp_getr (k := 15) B hP hX0.1 rfl rfl (by decide) jp_fX8 rfl mw_149 dX8_way_22 ?_
    refine lv_iload_n hx hb dX8_way_25 rfl (lv_at hl 3 rfl) ?_
    obtain ⟨g_2, hf⟩ := jp_if hf
    refine jp_iald B hP hX0.2.2.2.2.2.2.1 (jp_ok_vp g_2) dX8_way_26 ?_
    refine lv_imul hx hb dX8_way_27 ?_
    obtain ⟨g_3, hf⟩ := jp_if hf
    refine jp_iald B hP hX0.2.2.2.2.2.1 (jp_ok_vp g_3) dX8_way_28 ?_
    refine lv_aload_n hx hb dX8_way_29 rfl (lv_at hl 0 rfl) ?_
    refine jp_getr (k := 5) B hP hX0.1 rfl rfl (by decide) jp_fX8 rfl mw_139 dX8_way_30 ?_
    refine lv_iload_n hx hb dX8_way_33 rfl (lv_at hl 2 rfl) ?_
    obtain ⟨g_4, hf⟩ := jp_if hf
    refine jp_iald B hP hX0.2.2.1 (jp_ok_vp g_4) dX8_way_34 ?_
    refine lv_icmp_ne (tgt := 40) hx hb dX8_way_35 (by decide) (fun c_5 => ?_) (fun c_5 => ?_)
    · rw [if_neg c_5] at hf
      refine lv_iinc (v := x3 + 1) (lv' := [(3, .int (x3 + 1)), (0, .ref (Γ.2.2.1 20)), (1, .int x1), (2, .int x2)]) hx hb dX8_way_40 hl (k := 3) rfl rfl (by decide) rfl (fun ls hl => ?_)
      refine lv_goto (tgt := 9) hx hb dX8_way_43 (by decide) ?_
      obtain rfl := Option.some.inj hf
      exact kb _ rfl H locs ls hP hS (lv_sub hl [1, 2, 3, 0] rfl)
    · rw [if_pos c_5] at hf
      refine lv_iconst (v := 0) hx hb dX8_way_38 (by decide) ?_
      obtain rfl := Option.some.inj hf
      exact jp_endz B hP hS (by decide) dX8_way_39 (kr _ rfl)
set_option maxHeartbeats 4000000 in
theorem lX8_way_9 (B : jp_B Γ p s m args meth c RX8 cX8_way 7 (some .boolean)) (hX0 : jp_hM Z) {x1 : Int32} {x2 : Int32} {e1 : Sum (Unit) Int32} {σ1 : jp_I} {τ1 : jp_J} (kx : ∀ v : Unit, e1 = .inl v → jp_at p l e (jp_R 3 72) s m args below meth c (MQ below (jp_Q Γ Z (some (.int r0)) σ0 τ0) args s 0 0 (jp_A Γ)) 7 Γ Z 46 [(0, .ref (Γ.2.2.1 20)), (1, .int x1), (2, .int x2)] [] σ1 τ1) (kr : ∀ v : Int32, e1 = .inr v → r0 = v ∧ σ0 = σ1 ∧ τ0 = τ1) : ∀ (k : Nat) (v : Int32) (σ : jp_I) (τ : jp_J), jp_loop (fun q : (Int32) × jp_I × jp_J => sX8_way_9 x1 x2 q.1 q.2.1 q.2.2) k (v, σ, τ) = some (e1, σ1, τ1) → jp_at p l e (jp_R 3 72) s m args below meth c (MQ below (jp_Q Γ Z (some (.int r0)) σ0 τ0) args s 0 0 (jp_A Γ)) 7 Γ Z 9 [(0, .ref (Γ.2.2.1 20)), (1, .int x1), (2, .int x2), (3, .int v)] [] σ τ := by
  refine jp_loopI (P := fun (v : Int32) (σ : jp_I) (τ : jp_J) => jp_at p l e (jp_R 3 72) s m args below meth c (MQ below (jp_Q Γ Z (some (.int r0)) σ0 τ0) args s 0 0 (jp_A Γ)) 7 Γ Z 9 [(0, .ref (Γ.2.2.1 20)), (1, .int x1), (2, .int x2), (3, .int v)] [] σ τ) (fun v σ τ q hq hbk hen => ?_)
  exact wsX8_way_9 B hX0 hq (fun v' hv => hbk v' hv) (fun x hv => by obtain ⟨h1, h2, h3⟩ := hen _ hv; rw [h2, h3]; exact kx x h1.symm) (fun r hv => by obtain ⟨h1, h2, h3⟩ := hen _ hv; rw [h2, h3]; exact kr r h1.symm)
def bX8_way_97_in56 (x1 : Int32) (x2 : Int32) (x3 : Int32) (x4 : Int32) (y1 : Int32) (y2 : Int32) (σ : jp_I) (τ : jp_J) : Option (Sum (Int32) (Sum (Unit) Int32) × jp_I × jp_J) :=
  if jp_ok y1 1476 = true then some (.inl (x4 + 1), jp_up σ 27 y1.toNatClampNeg y2, τ) else none
set_option maxHeartbeats 4000000 in
set_option maxRecDepth 20000 in
theorem wbX8_way_97_in56 (B : jp_B Γ p s m args meth c RX8 cX8_way 7 (some .boolean)) (hX0 : jp_hM Z) {x1 : Int32} {x2 : Int32} {x3 : Int32} {x4 : Int32} {y1 : Int32} {y2 : Int32} {σ : jp_I} {τ : jp_J} {q : Sum (Int32) (Sum (Unit) Int32) × jp_I × jp_J} (hf : bX8_way_97_in56 x1 x2 x3 x4 y1 y2 σ τ = some q) (kb : ∀ v : Int32, q.1 = .inl v → jp_at p l e (jp_R 3 72) s m args below meth c (MQ below (jp_Q Γ Z (some (.int r0)) σ0 τ0) args s 0 0 (jp_A Γ)) 7 Γ Z 56 [(0, .ref (Γ.2.2.1 20)), (1, .int x1), (2, .int x2), (3, .int x3), (4, .int v)] [] q.2.1 q.2.2) (kx : ∀ v : Unit, q.1 = .inr (.inl v) → jp_at p l e (jp_R 3 72) s m args below meth c (MQ below (jp_Q Γ Z (some (.int r0)) σ0 τ0) args s 0 0 (jp_A Γ)) 7 Γ Z 104 [(0, .ref (Γ.2.2.1 20)), (1, .int x1), (2, .int x2), (3, .int x3)] [] q.2.1 q.2.2) (kr : ∀ v : Int32, q.1 = .inr (.inr v) → r0 = v ∧ σ0 = q.2.1 ∧ τ0 = q.2.2) : jp_at p l e (jp_R 3 72) s m args below meth c (MQ below (jp_Q Γ Z (some (.int r0)) σ0 τ0) args s 0 0 (jp_A Γ)) 7 Γ Z 97 [(0, .ref (Γ.2.2.1 20)), (1, .int x1), (2, .int x2), (3, .int x3), (4, .int x4)] [.int y2, .int y1, .ref (Γ.2.2.1 27)] σ τ := by
  obtain ⟨hx, hb, hml, hown, hts, hr, hlk, hE⟩ := id B
  unfold bX8_way_97_in56 at hf
  intro H locs ls hP hS hl
  obtain ⟨g_1, hf⟩ := jp_if hf
  refine jp_iast B hP hS hX0.2.2.2.2.2.2.2 (jp_ok_vp g_1) dX8_way_97 (fun H locs hP hS => ?_)
  refine lv_iinc (v := x4 + 1) (lv' := [(4, .int (x4 + 1)), (0, .ref (Γ.2.2.1 20)), (1, .int x1), (2, .int x2), (3, .int x3)]) hx hb dX8_way_98 hl (k := 4) rfl rfl (by decide) rfl (fun ls hl => ?_)
  refine lv_goto (tgt := 56) hx hb dX8_way_101 (by decide) ?_
  obtain rfl := Option.some.inj hf
  exact kb _ rfl H locs ls hP hS (lv_sub hl [1, 2, 3, 4, 0] rfl)
def bX8_way_95_in56 (x1 : Int32) (x2 : Int32) (x3 : Int32) (x4 : Int32) (y1 : Int32) (σ : jp_I) (τ : jp_J) : Option (Sum (Int32) (Sum (Unit) Int32) × jp_I × jp_J) :=
  bX8_way_97_in56 x1 x2 x3 x4 y1 1000000 σ τ
set_option maxHeartbeats 4000000 in
set_option maxRecDepth 20000 in
theorem wbX8_way_95_in56 (B : jp_B Γ p s m args meth c RX8 cX8_way 7 (some .boolean)) (hX0 : jp_hM Z) {x1 : Int32} {x2 : Int32} {x3 : Int32} {x4 : Int32} {y1 : Int32} {σ : jp_I} {τ : jp_J} {q : Sum (Int32) (Sum (Unit) Int32) × jp_I × jp_J} (hf : bX8_way_95_in56 x1 x2 x3 x4 y1 σ τ = some q) (kb : ∀ v : Int32, q.1 = .inl v → jp_at p l e (jp_R 3 72) s m args below meth c (MQ below (jp_Q Γ Z (some (.int r0)) σ0 τ0) args s 0 0 (jp_A Γ)) 7 Γ Z 56 [(0, .ref (Γ.2.2.1 20)), (1, .int x1), (2, .int x2), (3, .int x3), (4, .int v)] [] q.2.1 q.2.2) (kx : ∀ v : Unit, q.1 = .inr (.inl v) → jp_at p l e (jp_R 3 72) s m args below meth c (MQ below (jp_Q Γ Z (some (.int r0)) σ0 τ0) args s 0 0 (jp_A Γ)) 7 Γ Z 104 [(0, .ref (Γ.2.2.1 20)), (1, .int x1), (2, .int x2), (3, .int x3)] [] q.2.1 q.2.2) (kr : ∀ v : Int32, q.1 = .inr (.inr v) → r0 = v ∧ σ0 = q.2.1 ∧ τ0 = q.2.2) : jp_at p l e (jp_R 3 72) s m args below meth c (MQ below (jp_Q Γ Z (some (.int r0)) σ0 τ0) args s 0 0 (jp_A Γ)) 7 Γ Z 95 [(0, .ref (Γ.2.2.1 20)), (1, .int x1), (2, .int x2), (3, .int x3), (4, .int x4)] [.int y1, .ref (Γ.2.2.1 27)] σ τ := by
  obtain ⟨hx, hb, hml, hown, hts, hr, hlk, hE⟩ := id B
  unfold bX8_way_95_in56 at hf
  intro H locs ls hP hS hl
  refine lv_ldc (v := 1000000) hx hb hown (hts _ mw_414) dX8_way_95 ?_
  exact wbX8_way_97_in56 B hX0 hf kb kx kr H locs ls hP hS (lv_sub hl [0, 1, 2, 3, 4] rfl)
def sX8_way_56 (x1 : Int32) (x2 : Int32) (x3 : Int32) (x4 : Int32) (σ : jp_I) (τ : jp_J) : Option (Sum (Int32) (Sum (Unit) Int32) × jp_I × jp_J) :=
  if 36 ≤ x4 then (some (.inr (.inl ()), σ, τ)) else (if x3 = 40 then (if jp_ok x2 4 = true then if x4 = (σ 23 x2.toNatClampNeg) then (bX8_way_97_in56 x1 x2 x3 x4 ((36 * x3) + x4) 0 σ τ) else (bX8_way_95_in56 x1 x2 x3 x4 ((36 * x3) + x4) σ τ) else none) else (bX8_way_95_in56 x1 x2 x3 x4 ((36 * x3) + x4) σ τ))
set_option maxHeartbeats 4000000 in
set_option maxRecDepth 20000 in
theorem wsX8_way_56 (B : jp_B Γ p s m args meth c RX8 cX8_way 7 (some .boolean)) (hX0 : jp_hM Z) {x1 : Int32} {x2 : Int32} {x3 : Int32} {x4 : Int32} {σ : jp_I} {τ : jp_J} {q : Sum (Int32) (Sum (Unit) Int32) × jp_I × jp_J} (hf : sX8_way_56 x1 x2 x3 x4 σ τ = some q) (kb : ∀ v : Int32, q.1 = .inl v → jp_at p l e (jp_R 3 72) s m args below meth c (MQ below (jp_Q Γ Z (some (.int r0)) σ0 τ0) args s 0 0 (jp_A Γ)) 7 Γ Z 56 [(0, .ref (Γ.2.2.1 20)), (1, .int x1), (2, .int x2), (3, .int x3), (4, .int v)] [] q.2.1 q.2.2) (kx : ∀ v : Unit, q.1 = .inr (.inl v) → jp_at p l e (jp_R 3 72) s m args below meth c (MQ below (jp_Q Γ Z (some (.int r0)) σ0 τ0) args s 0 0 (jp_A Γ)) 7 Γ Z 104 [(0, .ref (Γ.2.2.1 20)), (1, .int x1), (2, .int x2), (3, .int x3)] [] q.2.1 q.2.2) (kr : ∀ v : Int32, q.1 = .inr (.inr v) → r0 = v ∧ σ0 = q.2.1 ∧ τ0 = q.2.2) : jp_at p l e (jp_R 3 72) s m args below meth c (MQ below (jp_Q Γ Z (some (.int r0)) σ0 τ0) args s 0 0 (jp_A Γ)) 7 Γ Z 56 [(0, .ref (Γ.2.2.1 20)), (1, .int x1), (2, .int x2), (3, .int x3), (4, .int x4)] [] σ τ := by
  obtain ⟨hx, hb, hml, hown, hts, hr, hlk, hE⟩ := id B
  unfold sX8_way_56 at hf
  intro H locs ls hP hS hl
  refine lv_iload hx hb dX8_way_56 (lv_at hl 4 rfl) ?_
  refine lv_bipush (v := 36) hx hb dX8_way_58 (by decide) ?_
  refine lv_icmp_ge (tgt := 104) hx hb dX8_way_60 (by decide) (fun c_1 => ?_) (fun c_1 => ?_)
  · rw [if_pos c_1] at hf
    obtain rfl := Option.some.inj hf
    exact kx _ rfl H locs ls hP hS (lv_sub hl [0, 1, 2, 3] rfl)
  · rw [if_neg c_1] at hf
    refine lv_aload_n hx hb dX8_way_63 rfl (lv_at hl 0 rfl) ?_
    refine jp_getr (k := 16) B hP hX0.1 rfl rfl (by decide) jp_fX8 rfl mw_150 dX8_way_64 ?_
    refine lv_bipush (v := 36) hx hb dX8_way_67 (by decide) ?_
    refine lv_iload_n hx hb dX8_way_69 rfl (lv_at hl 3 rfl) ?_
    refine lv_imul hx hb dX8_way_70 ?_
    refine lv_iload hx hb dX8_way_71 (lv_at hl 4 rfl) ?_
    refine lv_iadd hx hb dX8_way_73 ?_
    refine lv_iload_n hx hb dX8_way_74 rfl (lv_at hl 3 rfl) ?_
    refine lv_bipush (v := 40) hx hb dX8_way_75 (by decide) ?_
    refine lv_icmp_ne (tgt := 95) hx hb dX8_way_77 (by decide) (fun c_2 => ?_) (fun c_2 => ?_)
    · rw [if_neg c_2] at hf
      exact wbX8_way_95_in56 B hX0 hf kb kx kr H locs ls hP hS (lv_sub hl [0, 1, 2, 3, 4] rfl)
    · rw [if_pos c_2] at hf
      refine lv_iload hx hb dX8_way_80 (lv_at hl 4 rfl) ?_
      refine lv_aload_n hx hb dX8_way_82 rfl (lv_at hl 0 rfl) ?_
      refine jp_getr (k := 6) B hP hX0.1 rfl rfl (by decide) jp_fX8 rfl mw_140 dX8_way_83 ?_
      refine lv_iload_n hx hb dX8_way_86 rfl (lv_at hl 2 rfl) ?_
      obtain ⟨g_3, hf⟩ := jp_if hf
      refine jp_iald B hP hX0.2.2.2.1 (jp_ok_vp g_3) dX8_way_87 ?_
      refine lv_icmp_ne (tgt := 95) hx hb dX8_way_88 (by decide) (fun c_4 => ?_) (fun c_4 => ?_)
      · rw [if_neg c_4] at hf
        exact wbX8_way_95_in56 B hX0 hf kb kx kr H locs ls hP hS (lv_sub hl [0, 1, 2, 3, 4] rfl)
      · rw [if_pos c_4] at hf
        refine lv_iconst (v := 0) hx hb dX8_way_91 (by decide) ?_
        refine lv_goto (tgt := 97) hx hb dX8_way_92 (by decide) ?_
        exact wbX8_way_97_in56 B hX0 hf kb kx kr H locs ls hP hS (lv_sub hl [0, 1, 2, 3, 4] rfl)
set_option maxHeartbeats 4000000 in
theorem lX8_way_56 (B : jp_B Γ p s m args meth c RX8 cX8_way 7 (some .boolean)) (hX0 : jp_hM Z) {x1 : Int32} {x2 : Int32} {x3 : Int32} {e1 : Sum (Unit) Int32} {σ1 : jp_I} {τ1 : jp_J} (kx : ∀ v : Unit, e1 = .inl v → jp_at p l e (jp_R 3 72) s m args below meth c (MQ below (jp_Q Γ Z (some (.int r0)) σ0 τ0) args s 0 0 (jp_A Γ)) 7 Γ Z 104 [(0, .ref (Γ.2.2.1 20)), (1, .int x1), (2, .int x2), (3, .int x3)] [] σ1 τ1) (kr : ∀ v : Int32, e1 = .inr v → r0 = v ∧ σ0 = σ1 ∧ τ0 = τ1) : ∀ (k : Nat) (v : Int32) (σ : jp_I) (τ : jp_J), jp_loop (fun q : (Int32) × jp_I × jp_J => sX8_way_56 x1 x2 x3 q.1 q.2.1 q.2.2) k (v, σ, τ) = some (e1, σ1, τ1) → jp_at p l e (jp_R 3 72) s m args below meth c (MQ below (jp_Q Γ Z (some (.int r0)) σ0 τ0) args s 0 0 (jp_A Γ)) 7 Γ Z 56 [(0, .ref (Γ.2.2.1 20)), (1, .int x1), (2, .int x2), (3, .int x3), (4, .int v)] [] σ τ := by
  refine jp_loopI (P := fun (v : Int32) (σ : jp_I) (τ : jp_J) => jp_at p l e (jp_R 3 72) s m args below meth c (MQ below (jp_Q Γ Z (some (.int r0)) σ0 τ0) args s 0 0 (jp_A Γ)) 7 Γ Z 56 [(0, .ref (Γ.2.2.1 20)), (1, .int x1), (2, .int x2), (3, .int x3), (4, .int v)] [] σ τ) (fun v σ τ q hq hbk hen => ?_)
  exact wsX8_way_56 B hX0 hq (fun v' hv => hbk v' hv) (fun x hv => by obtain ⟨h1, h2, h3⟩ := hen _ hv; rw [h2, h3]; exact kx x h1.symm) (fun r hv => by obtain ⟨h1, h2, h3⟩ := hen _ hv; rw [h2, h3]; exact kr r h1.symm)
def bX8_way_172_in123 (x1 : Int32) (x2 : Int32) (x3 : Int32) (x4 : Int32) (x5 : Int32) (σ : jp_I) (τ : jp_J) : Option (Sum (Int32) (Sum (Unit) Int32) × jp_I × jp_J) :=
  some (.inl (x5 + 1), σ, τ)
set_option maxHeartbeats 4000000 in
set_option maxRecDepth 20000 in
theorem wbX8_way_172_in123 (B : jp_B Γ p s m args meth c RX8 cX8_way 7 (some .boolean)) (hX0 : jp_hM Z) {x1 : Int32} {x2 : Int32} {x3 : Int32} {x4 : Int32} {x5 : Int32} {σ : jp_I} {τ : jp_J} {q : Sum (Int32) (Sum (Unit) Int32) × jp_I × jp_J} (hf : bX8_way_172_in123 x1 x2 x3 x4 x5 σ τ = some q) (kb : ∀ v : Int32, q.1 = .inl v → jp_at p l e (jp_R 3 72) s m args below meth c (MQ below (jp_Q Γ Z (some (.int r0)) σ0 τ0) args s 0 0 (jp_A Γ)) 7 Γ Z 123 [(0, .ref (Γ.2.2.1 20)), (1, .int x1), (2, .int x2), (3, .int x3), (4, .int x4), (5, .int v)] [] q.2.1 q.2.2) (kx : ∀ v : Unit, q.1 = .inr (.inl v) → jp_at p l e (jp_R 3 72) s m args below meth c (MQ below (jp_Q Γ Z (some (.int r0)) σ0 τ0) args s 0 0 (jp_A Γ)) 7 Γ Z 178 [(0, .ref (Γ.2.2.1 20)), (1, .int x1), (2, .int x2), (3, .int x3), (4, .int x4)] [] q.2.1 q.2.2) (kr : ∀ v : Int32, q.1 = .inr (.inr v) → r0 = v ∧ σ0 = q.2.1 ∧ τ0 = q.2.2) : jp_at p l e (jp_R 3 72) s m args below meth c (MQ below (jp_Q Γ Z (some (.int r0)) σ0 τ0) args s 0 0 (jp_A Γ)) 7 Γ Z 172 [(0, .ref (Γ.2.2.1 20)), (1, .int x1), (2, .int x2), (3, .int x3), (4, .int x4), (5, .int x5)] [] σ τ := by
  obtain ⟨hx, hb, hml, hown, hts, hr, hlk, hE⟩ := id B
  unfold bX8_way_172_in123 at hf
  intro H locs ls hP hS hl
  refine lv_iinc (v := x5 + 1) (lv' := [(5, .int (x5 + 1)), (0, .ref (Γ.2.2.1 20)), (1, .int x1), (2, .int x2), (3, .int x3), (4, .int x4)]) hx hb dX8_way_172 hl (k := 5) rfl rfl (by decide) rfl (fun ls hl => ?_)
  refine lv_goto (tgt := 123) hx hb dX8_way_175 (by decide) ?_
  obtain rfl := Option.some.inj hf
  exact kb _ rfl H locs ls hP hS (lv_sub hl [1, 2, 3, 4, 5, 0] rfl)
def sX8_way_123 (x1 : Int32) (x2 : Int32) (x3 : Int32) (x4 : Int32) (x5 : Int32) (σ : jp_I) (τ : jp_J) : Option (Sum (Int32) (Sum (Unit) Int32) × jp_I × jp_J) :=
  if 5 ≤ x5 then (some (.inr (.inl ()), σ, τ)) else ((fX8_step x1 x3 x4 x5 σ τ).bind fun (a_2, σ_2, τ_2) => if jp_ok ((36 * x3) + x4) 1476 = true then if (σ_2 27 ((36 * x3) + x4).toNatClampNeg) ≤ a_2 then (bX8_way_172_in123 x1 x2 x3 x4 x5 σ_2 τ_2) else (if jp_ok ((36 * x3) + x4) 1476 = true then bX8_way_172_in123 x1 x2 x3 x4 x5 (jp_up σ_2 27 ((36 * x3) + x4).toNatClampNeg a_2) τ_2 else none) else none)
set_option maxHeartbeats 4000000 in
set_option maxRecDepth 20000 in
theorem wsX8_way_123 (B : jp_B Γ p s m args meth c RX8 cX8_way 7 (some .boolean)) (hX0 : jp_hM Z) {x1 : Int32} {x2 : Int32} {x3 : Int32} {x4 : Int32} {x5 : Int32} {σ : jp_I} {τ : jp_J} {q : Sum (Int32) (Sum (Unit) Int32) × jp_I × jp_J} (hf : sX8_way_123 x1 x2 x3 x4 x5 σ τ = some q) (kb : ∀ v : Int32, q.1 = .inl v → jp_at p l e (jp_R 3 72) s m args below meth c (MQ below (jp_Q Γ Z (some (.int r0)) σ0 τ0) args s 0 0 (jp_A Γ)) 7 Γ Z 123 [(0, .ref (Γ.2.2.1 20)), (1, .int x1), (2, .int x2), (3, .int x3), (4, .int x4), (5, .int v)] [] q.2.1 q.2.2) (kx : ∀ v : Unit, q.1 = .inr (.inl v) → jp_at p l e (jp_R 3 72) s m args below meth c (MQ below (jp_Q Γ Z (some (.int r0)) σ0 τ0) args s 0 0 (jp_A Γ)) 7 Γ Z 178 [(0, .ref (Γ.2.2.1 20)), (1, .int x1), (2, .int x2), (3, .int x3), (4, .int x4)] [] q.2.1 q.2.2) (kr : ∀ v : Int32, q.1 = .inr (.inr v) → r0 = v ∧ σ0 = q.2.1 ∧ τ0 = q.2.2) : jp_at p l e (jp_R 3 72) s m args below meth c (MQ below (jp_Q Γ Z (some (.int r0)) σ0 τ0) args s 0 0 (jp_A Γ)) 7 Γ Z 123 [(0, .ref (Γ.2.2.1 20)), (1, .int x1), (2, .int x2), (3, .int x3), (4, .int x4), (5, .int x5)] [] σ τ := by
  obtain ⟨hx, hb, hml, hown, hts, hr, hlk, hE⟩ := id B
  unfold sX8_way_123 at hf
  intro H locs ls hP hS hl
  refine lv_iload hx hb dX8_way_123 (lv_at hl 5 rfl) ?_
  refine lv_iconst (v := 5) hx hb dX8_way_125 (by decide) ?_
  refine lv_icmp_ge (tgt := 178) hx hb dX8_way_126 (by decide) (fun c_1 => ?_) (fun c_1 => ?_)
  · rw [if_pos c_1] at hf
    obtain rfl := Option.some.inj hf
    exact kx _ rfl H locs ls hP hS (lv_sub hl [0, 1, 2, 3, 4] rfl)
  · rw [if_neg c_1] at hf
    refine lv_aload_n hx hb dX8_way_129 rfl (lv_at hl 0 rfl) ?_
    refine lv_iload_n hx hb dX8_way_130 rfl (lv_at hl 1 rfl) ?_
    refine lv_iload_n hx hb dX8_way_131 rfl (lv_at hl 3 rfl) ?_
    refine lv_iload hx hb dX8_way_132 (lv_at hl 4 rfl) ?_
    refine lv_iload hx hb dX8_way_134 (lv_at hl 5 rfl) ?_
    obtain ⟨⟨a_2, σ_2, τ_2⟩, h_2, hf⟩ := jp_bind hf
    dsimp only at hf
    refine jp_callV (rest := []) B hP hS hl (ctX8_step ⟨hX0.1, hX0.2.1, hX0.2.2.1, hX0.2.2.2.1, hX0.2.2.2.2.1, hX0.2.2.2.2.2.1, hX0.2.2.2.2.2.2.1, hX0.2.2.2.2.2.2.2⟩ h_2) hX0.1 rfl mw_465 mw_462 mw_463 mw_464 mw_5 ddX8_step ⟨Nat.le_of_ble_eq_true rfl, Nat.le_of_ble_eq_true rfl⟩ ⟨Nat.zero_le _, Nat.zero_le _⟩ rfl (Nat.le_of_ble_eq_true rfl) dX8_way_136 (fun H locs hP hS => ?_)
    refine lv_istore (lv' := [(6, .int a_2), (0, .ref (Γ.2.2.1 20)), (1, .int x1), (2, .int x2), (3, .int x3), (4, .int x4), (5, .int x5)]) hx hb dX8_way_139 hl (by decide) rfl (fun ls hl => ?_)
    refine lv_iload hx hb dX8_way_141 (lv_at hl 0 rfl) ?_
    refine lv_aload_n hx hb dX8_way_143 rfl (lv_at hl 1 rfl) ?_
    refine jp_getr (k := 16) B hP hX0.1 rfl rfl (by decide) jp_fX8 rfl mw_150 dX8_way_144 ?_
    refine lv_bipush (v := 36) hx hb dX8_way_147 (by decide) ?_
    refine lv_iload_n hx hb dX8_way_149 rfl (lv_at hl 4 rfl) ?_
    refine lv_imul hx hb dX8_way_150 ?_
    refine lv_iload hx hb dX8_way_151 (lv_at hl 5 rfl) ?_
    refine lv_iadd hx hb dX8_way_153 ?_
    obtain ⟨g_3, hf⟩ := jp_if hf
    refine jp_iald B hP hX0.2.2.2.2.2.2.2 (jp_ok_vp g_3) dX8_way_154 ?_
    refine lv_icmp_ge (tgt := 172) hx hb dX8_way_155 (by decide) (fun c_4 => ?_) (fun c_4 => ?_)
    · rw [if_pos c_4] at hf
      exact wbX8_way_172_in123 B hX0 hf kb kx kr H locs ls hP hS (lv_sub hl [1, 2, 3, 4, 5, 6] rfl)
    · rw [if_neg c_4] at hf
      refine lv_aload_n hx hb dX8_way_158 rfl (lv_at hl 1 rfl) ?_
      refine jp_getr (k := 16) B hP hX0.1 rfl rfl (by decide) jp_fX8 rfl mw_150 dX8_way_159 ?_
      refine lv_bipush (v := 36) hx hb dX8_way_162 (by decide) ?_
      refine lv_iload_n hx hb dX8_way_164 rfl (lv_at hl 4 rfl) ?_
      refine lv_imul hx hb dX8_way_165 ?_
      refine lv_iload hx hb dX8_way_166 (lv_at hl 5 rfl) ?_
      refine lv_iadd hx hb dX8_way_168 ?_
      refine lv_iload hx hb dX8_way_169 (lv_at hl 0 rfl) ?_
      obtain ⟨g_5, hf⟩ := jp_if hf
      refine jp_iast B hP hS hX0.2.2.2.2.2.2.2 (jp_ok_vp g_5) dX8_way_171 (fun H locs hP hS => ?_)
      exact wbX8_way_172_in123 B hX0 hf kb kx kr H locs ls hP hS (lv_sub hl [1, 2, 3, 4, 5, 6] rfl)
set_option maxHeartbeats 4000000 in
theorem lX8_way_123 (B : jp_B Γ p s m args meth c RX8 cX8_way 7 (some .boolean)) (hX0 : jp_hM Z) {x1 : Int32} {x2 : Int32} {x3 : Int32} {x4 : Int32} {e1 : Sum (Unit) Int32} {σ1 : jp_I} {τ1 : jp_J} (kx : ∀ v : Unit, e1 = .inl v → jp_at p l e (jp_R 3 72) s m args below meth c (MQ below (jp_Q Γ Z (some (.int r0)) σ0 τ0) args s 0 0 (jp_A Γ)) 7 Γ Z 178 [(0, .ref (Γ.2.2.1 20)), (1, .int x1), (2, .int x2), (3, .int x3), (4, .int x4)] [] σ1 τ1) (kr : ∀ v : Int32, e1 = .inr v → r0 = v ∧ σ0 = σ1 ∧ τ0 = τ1) : ∀ (k : Nat) (v : Int32) (σ : jp_I) (τ : jp_J), jp_loop (fun q : (Int32) × jp_I × jp_J => sX8_way_123 x1 x2 x3 x4 q.1 q.2.1 q.2.2) k (v, σ, τ) = some (e1, σ1, τ1) → jp_at p l e (jp_R 3 72) s m args below meth c (MQ below (jp_Q Γ Z (some (.int r0)) σ0 τ0) args s 0 0 (jp_A Γ)) 7 Γ Z 123 [(0, .ref (Γ.2.2.1 20)), (1, .int x1), (2, .int x2), (3, .int x3), (4, .int x4), (5, .int v)] [] σ τ := by
  refine jp_loopI (P := fun (v : Int32) (σ : jp_I) (τ : jp_J) => jp_at p l e (jp_R 3 72) s m args below meth c (MQ below (jp_Q Γ Z (some (.int r0)) σ0 τ0) args s 0 0 (jp_A Γ)) 7 Γ Z 123 [(0, .ref (Γ.2.2.1 20)), (1, .int x1), (2, .int x2), (3, .int x3), (4, .int x4), (5, .int v)] [] σ τ) (fun v σ τ q hq hbk hen => ?_)
  exact wsX8_way_123 B hX0 hq (fun v' hv => hbk v' hv) (fun x hv => by obtain ⟨h1, h2, h3⟩ := hen _ hv; rw [h2, h3]; exact kx x h1.symm) (fun r hv => by obtain ⟨h1, h2, h3⟩ := hen _ hv; rw [h2, h3]; exact kr r h1.symm)
def sX8_way_107 (x1 : Int32) (x2 : Int32) (x3 : Int32) (x4 : Int32) (σ : jp_I) (τ : jp_J) : Option (Sum (Int32) (Sum (Unit) Int32) × jp_I × jp_J) :=
  if 36 ≤ x4 then (some (.inr (.inl ()), σ, τ)) else (if 40 ≤ x3 then (some (.inr (.inl ()), σ, τ)) else ((jp_loop (fun q : (Int32) × jp_I × jp_J => sX8_way_123 x1 x2 x3 x4 q.1 q.2.1 q.2.2) jp_F (0, σ, τ)).bind fun (e_3, σ_3, τ_3) => match e_3 with
    | .inl _ => (some (.inl (x4 + 1), σ_3, τ_3))
    | .inr r_3 => some (.inr (.inr r_3), σ_3, τ_3)))
set_option maxHeartbeats 4000000 in
set_option maxRecDepth 20000 in
theorem wsX8_way_107 (B : jp_B Γ p s m args meth c RX8 cX8_way 7 (some .boolean)) (hX0 : jp_hM Z) {x1 : Int32} {x2 : Int32} {x3 : Int32} {x4 : Int32} {σ : jp_I} {τ : jp_J} {q : Sum (Int32) (Sum (Unit) Int32) × jp_I × jp_J} (hf : sX8_way_107 x1 x2 x3 x4 σ τ = some q) (kb : ∀ v : Int32, q.1 = .inl v → jp_at p l e (jp_R 3 72) s m args below meth c (MQ below (jp_Q Γ Z (some (.int r0)) σ0 τ0) args s 0 0 (jp_A Γ)) 7 Γ Z 107 [(0, .ref (Γ.2.2.1 20)), (1, .int x1), (2, .int x2), (3, .int x3), (4, .int v)] [] q.2.1 q.2.2) (kx : ∀ v : Unit, q.1 = .inr (.inl v) → jp_at p l e (jp_R 3 72) s m args below meth c (MQ below (jp_Q Γ Z (some (.int r0)) σ0 τ0) args s 0 0 (jp_A Γ)) 7 Γ Z 184 [(0, .ref (Γ.2.2.1 20)), (1, .int x1), (2, .int x2), (3, .int x3)] [] q.2.1 q.2.2) (kr : ∀ v : Int32, q.1 = .inr (.inr v) → r0 = v ∧ σ0 = q.2.1 ∧ τ0 = q.2.2) : jp_at p l e (jp_R 3 72) s m args below meth c (MQ below (jp_Q Γ Z (some (.int r0)) σ0 τ0) args s 0 0 (jp_A Γ)) 7 Γ Z 107 [(0, .ref (Γ.2.2.1 20)), (1, .int x1), (2, .int x2), (3, .int x3), (4, .int x4)] [] σ τ := by
  obtain ⟨hx, hb, hml, hown, hts, hr, hlk, hE⟩ := id B
  unfold sX8_way_107 at hf
  intro H locs ls hP hS hl
  refine lv_iload hx hb dX8_way_107 (lv_at hl 4 rfl) ?_
  refine lv_bipush (v := 36) hx hb dX8_way_109 (by decide) ?_
  refine lv_icmp_ge (tgt := 184) hx hb dX8_way_111 (by decide) (fun c_1 => ?_) (fun c_1 => ?_)
  · rw [if_pos c_1] at hf
    obtain rfl := Option.some.inj hf
    exact kx _ rfl H locs ls hP hS (lv_sub hl [0, 1, 2, 3] rfl)
  · rw [if_neg c_1] at hf
    refine lv_iload_n hx hb dX8_way_114 rfl (lv_at hl 3 rfl) ?_
    refine lv_bipush (v := 40) hx hb dX8_way_115 (by decide) ?_
    refine lv_icmp_ge (tgt := 184) hx hb dX8_way_117 (by decide) (fun c_2 => ?_) (fun c_2 => ?_)
    · rw [if_pos c_2] at hf
      obtain rfl := Option.some.inj hf
      exact kx _ rfl H locs ls hP hS (lv_sub hl [0, 1, 2, 3] rfl)
    · rw [if_neg c_2] at hf
      refine lv_iconst (v := 0) hx hb dX8_way_120 (by decide) ?_
      refine lv_istore (lv' := [(5, .int 0), (0, .ref (Γ.2.2.1 20)), (1, .int x1), (2, .int x2), (3, .int x3), (4, .int x4)]) hx hb dX8_way_121 hl (by decide) rfl (fun ls hl => ?_)
      obtain ⟨⟨e_3, σ_3, τ_3⟩, h_3, hf⟩ := jp_bind hf
      refine lX8_way_123 (r0 := r0) B hX0 (x1 := x1) (x2 := x2) (x3 := x3) (x4 := x4) (fun v_3 k_3 => ?_) (fun r_3 k_3 => ?_) _ _ _ _ h_3 H locs ls hP hS (lv_sub hl [1, 2, 3, 4, 5, 0] rfl)
      · subst k_3
        dsimp only at hf
        intro H locs ls hP hS hl
        refine lv_iinc (v := x4 + 1) (lv' := [(4, .int (x4 + 1)), (0, .ref (Γ.2.2.1 20)), (1, .int x1), (2, .int x2), (3, .int x3)]) hx hb dX8_way_178 hl (k := 4) rfl rfl (by decide) rfl (fun ls hl => ?_)
        refine lv_goto (tgt := 107) hx hb dX8_way_181 (by decide) ?_
        obtain rfl := Option.some.inj hf
        exact kb _ rfl H locs ls hP hS (lv_sub hl [1, 2, 3, 4, 0] rfl)
      · subst k_3
        dsimp only at hf
        obtain rfl := Option.some.inj hf
        exact kr _ rfl
set_option maxHeartbeats 4000000 in
theorem lX8_way_107 (B : jp_B Γ p s m args meth c RX8 cX8_way 7 (some .boolean)) (hX0 : jp_hM Z) {x1 : Int32} {x2 : Int32} {x3 : Int32} {e1 : Sum (Unit) Int32} {σ1 : jp_I} {τ1 : jp_J} (kx : ∀ v : Unit, e1 = .inl v → jp_at p l e (jp_R 3 72) s m args below meth c (MQ below (jp_Q Γ Z (some (.int r0)) σ0 τ0) args s 0 0 (jp_A Γ)) 7 Γ Z 184 [(0, .ref (Γ.2.2.1 20)), (1, .int x1), (2, .int x2), (3, .int x3)] [] σ1 τ1) (kr : ∀ v : Int32, e1 = .inr v → r0 = v ∧ σ0 = σ1 ∧ τ0 = τ1) : ∀ (k : Nat) (v : Int32) (σ : jp_I) (τ : jp_J), jp_loop (fun q : (Int32) × jp_I × jp_J => sX8_way_107 x1 x2 x3 q.1 q.2.1 q.2.2) k (v, σ, τ) = some (e1, σ1, τ1) → jp_at p l e (jp_R 3 72) s m args below meth c (MQ below (jp_Q Γ Z (some (.int r0)) σ0 τ0) args s 0 0 (jp_A Γ)) 7 Γ Z 107 [(0, .ref (Γ.2.2.1 20)), (1, .int x1), (2, .int x2), (3, .int x3), (4, .int v)] [] σ τ := by
  refine jp_loopI (P := fun (v : Int32) (σ : jp_I) (τ : jp_J) => jp_at p l e (jp_R 3 72) s m args below meth c (MQ below (jp_Q Γ Z (some (.int r0)) σ0 τ0) args s 0 0 (jp_A Γ)) 7 Γ Z 107 [(0, .ref (Γ.2.2.1 20)), (1, .int x1), (2, .int x2), (3, .int x3), (4, .int v)] [] σ τ) (fun v σ τ q hq hbk hen => ?_)
  exact wsX8_way_107 B hX0 hq (fun v' hv => hbk v' hv) (fun x hv => by obtain ⟨h1, h2, h3⟩ := hen _ hv; rw [h2, h3]; exact kx x h1.symm) (fun r hv => by obtain ⟨h1, h2, h3⟩ := hen _ hv; rw [h2, h3]; exact kr r h1.symm)
def bX8_way_184_in49 (x1 : Int32) (x2 : Int32) (x3 : Int32) (σ : jp_I) (τ : jp_J) : Option (Sum (Int32) (Sum (Unit) Int32) × jp_I × jp_J) :=
  some (.inl (x3 + (-1)), σ, τ)
set_option maxHeartbeats 4000000 in
set_option maxRecDepth 20000 in
theorem wbX8_way_184_in49 (B : jp_B Γ p s m args meth c RX8 cX8_way 7 (some .boolean)) (hX0 : jp_hM Z) {x1 : Int32} {x2 : Int32} {x3 : Int32} {σ : jp_I} {τ : jp_J} {q : Sum (Int32) (Sum (Unit) Int32) × jp_I × jp_J} (hf : bX8_way_184_in49 x1 x2 x3 σ τ = some q) (kb : ∀ v : Int32, q.1 = .inl v → jp_at p l e (jp_R 3 72) s m args below meth c (MQ below (jp_Q Γ Z (some (.int r0)) σ0 τ0) args s 0 0 (jp_A Γ)) 7 Γ Z 49 [(0, .ref (Γ.2.2.1 20)), (1, .int x1), (2, .int x2), (3, .int v)] [] q.2.1 q.2.2) (kx : ∀ v : Unit, q.1 = .inr (.inl v) → jp_at p l e (jp_R 3 72) s m args below meth c (MQ below (jp_Q Γ Z (some (.int r0)) σ0 τ0) args s 0 0 (jp_A Γ)) 7 Γ Z 190 [(0, .ref (Γ.2.2.1 20)), (1, .int x1), (2, .int x2)] [] q.2.1 q.2.2) (kr : ∀ v : Int32, q.1 = .inr (.inr v) → r0 = v ∧ σ0 = q.2.1 ∧ τ0 = q.2.2) : jp_at p l e (jp_R 3 72) s m args below meth c (MQ below (jp_Q Γ Z (some (.int r0)) σ0 τ0) args s 0 0 (jp_A Γ)) 7 Γ Z 184 [(0, .ref (Γ.2.2.1 20)), (1, .int x1), (2, .int x2), (3, .int x3)] [] σ τ := by
  obtain ⟨hx, hb, hml, hown, hts, hr, hlk, hE⟩ := id B
  unfold bX8_way_184_in49 at hf
  intro H locs ls hP hS hl
  refine lv_iinc (v := x3 + (-1)) (lv' := [(3, .int (x3 + (-1))), (0, .ref (Γ.2.2.1 20)), (1, .int x1), (2, .int x2)]) hx hb dX8_way_184 hl (k := 3) rfl rfl (by decide) rfl (fun ls hl => ?_)
  refine lv_goto (tgt := 49) hx hb dX8_way_187 (by decide) ?_
  obtain rfl := Option.some.inj hf
  exact kb _ rfl H locs ls hP hS (lv_sub hl [1, 2, 3, 0] rfl)
def sX8_way_49 (x1 : Int32) (x2 : Int32) (x3 : Int32) (σ : jp_I) (τ : jp_J) : Option (Sum (Int32) (Sum (Unit) Int32) × jp_I × jp_J) :=
  if x3 < 0 then (some (.inr (.inl ()), σ, τ)) else ((jp_loop (fun q : (Int32) × jp_I × jp_J => sX8_way_56 x1 x2 x3 q.1 q.2.1 q.2.2) jp_F (0, σ, τ)).bind fun (e_2, σ_2, τ_2) => match e_2 with
    | .inl _ => ((jp_loop (fun q : (Int32) × jp_I × jp_J => sX8_way_107 x1 x2 x3 q.1 q.2.1 q.2.2) jp_F (0, σ_2, τ_2)).bind fun (e_3, σ_3, τ_3) => match e_3 with
    | .inl _ => (bX8_way_184_in49 x1 x2 x3 σ_3 τ_3)
    | .inr r_3 => some (.inr (.inr r_3), σ_3, τ_3))
    | .inr r_2 => some (.inr (.inr r_2), σ_2, τ_2))
set_option maxHeartbeats 4000000 in
set_option maxRecDepth 20000 in
theorem wsX8_way_49 (B : jp_B Γ p s m args meth c RX8 cX8_way 7 (some .boolean)) (hX0 : jp_hM Z) {x1 : Int32} {x2 : Int32} {x3 : Int32} {σ : jp_I} {τ : jp_J} {q : Sum (Int32) (Sum (Unit) Int32) × jp_I × jp_J} (hf : sX8_way_49 x1 x2 x3 σ τ = some q) (kb : ∀ v : Int32, q.1 = .inl v → jp_at p l e (jp_R 3 72) s m args below meth c (MQ below (jp_Q Γ Z (some (.int r0)) σ0 τ0) args s 0 0 (jp_A Γ)) 7 Γ Z 49 [(0, .ref (Γ.2.2.1 20)), (1, .int x1), (2, .int x2), (3, .int v)] [] q.2.1 q.2.2) (kx : ∀ v : Unit, q.1 = .inr (.inl v) → jp_at p l e (jp_R 3 72) s m args below meth c (MQ below (jp_Q Γ Z (some (.int r0)) σ0 τ0) args s 0 0 (jp_A Γ)) 7 Γ Z 190 [(0, .ref (Γ.2.2.1 20)), (1, .int x1), (2, .int x2)] [] q.2.1 q.2.2) (kr : ∀ v : Int32, q.1 = .inr (.inr v) → r0 = v ∧ σ0 = q.2.1 ∧ τ0 = q.2.2) : jp_at p l e (jp_R 3 72) s m args below meth c (MQ below (jp_Q Γ Z (some (.int r0)) σ0 τ0) args s 0 0 (jp_A Γ)) 7 Γ Z 49 [(0, .ref (Γ.2.2.1 20)), (1, .int x1), (2, .int x2), (3, .int x3)] [] σ τ := by
  obtain ⟨hx, hb, hml, hown, hts, hr, hlk, hE⟩ := id B
  unfold sX8_way_49 at hf
  intro H locs ls hP hS hl
  refine lv_iload_n hx hb dX8_way_49 rfl (lv_at hl 3 rfl) ?_
  refine lv_if_lt (tgt := 190) hx hb dX8_way_50 (by decide) (fun c_1 => ?_) (fun c_1 => ?_)
  · rw [if_pos c_1] at hf
    obtain rfl := Option.some.inj hf
    exact kx _ rfl H locs ls hP hS (lv_sub hl [0, 1, 2] rfl)
  · rw [if_neg c_1] at hf
    refine lv_iconst (v := 0) hx hb dX8_way_53 (by decide) ?_
    refine lv_istore (lv' := [(4, .int 0), (0, .ref (Γ.2.2.1 20)), (1, .int x1), (2, .int x2), (3, .int x3)]) hx hb dX8_way_54 hl (by decide) rfl (fun ls hl => ?_)
    obtain ⟨⟨e_2, σ_2, τ_2⟩, h_2, hf⟩ := jp_bind hf
    refine lX8_way_56 (r0 := r0) B hX0 (x1 := x1) (x2 := x2) (x3 := x3) (fun v_2 k_2 => ?_) (fun r_2 k_2 => ?_) _ _ _ _ h_2 H locs ls hP hS (lv_sub hl [1, 2, 3, 4, 0] rfl)
    · subst k_2
      dsimp only at hf
      intro H locs ls hP hS hl
      refine lv_iconst (v := 0) hx hb dX8_way_104 (by decide) ?_
      refine lv_istore (lv' := [(4, .int 0), (0, .ref (Γ.2.2.1 20)), (1, .int x1), (2, .int x2), (3, .int x3)]) hx hb dX8_way_105 hl (by decide) rfl (fun ls hl => ?_)
      obtain ⟨⟨e_3, σ_3, τ_3⟩, h_3, hf⟩ := jp_bind hf
      refine lX8_way_107 (r0 := r0) B hX0 (x1 := x1) (x2 := x2) (x3 := x3) (fun v_3 k_3 => ?_) (fun r_3 k_3 => ?_) _ _ _ _ h_3 H locs ls hP hS (lv_sub hl [1, 2, 3, 4, 0] rfl)
      · subst k_3
        dsimp only at hf
        intro H locs ls hP hS hl
        exact wbX8_way_184_in49 B hX0 hf kb kx kr H locs ls hP hS (lv_sub hl [0, 1, 2, 3] rfl)
      · subst k_3
        dsimp only at hf
        obtain rfl := Option.some.inj hf
        exact kr _ rfl
    · subst k_2
      dsimp only at hf
      obtain rfl := Option.some.inj hf
      exact kr _ rfl
set_option maxHeartbeats 4000000 in
theorem lX8_way_49 (B : jp_B Γ p s m args meth c RX8 cX8_way 7 (some .boolean)) (hX0 : jp_hM Z) {x1 : Int32} {x2 : Int32} {e1 : Sum (Unit) Int32} {σ1 : jp_I} {τ1 : jp_J} (kx : ∀ v : Unit, e1 = .inl v → jp_at p l e (jp_R 3 72) s m args below meth c (MQ below (jp_Q Γ Z (some (.int r0)) σ0 τ0) args s 0 0 (jp_A Γ)) 7 Γ Z 190 [(0, .ref (Γ.2.2.1 20)), (1, .int x1), (2, .int x2)] [] σ1 τ1) (kr : ∀ v : Int32, e1 = .inr v → r0 = v ∧ σ0 = σ1 ∧ τ0 = τ1) : ∀ (k : Nat) (v : Int32) (σ : jp_I) (τ : jp_J), jp_loop (fun q : (Int32) × jp_I × jp_J => sX8_way_49 x1 x2 q.1 q.2.1 q.2.2) k (v, σ, τ) = some (e1, σ1, τ1) → jp_at p l e (jp_R 3 72) s m args below meth c (MQ below (jp_Q Γ Z (some (.int r0)) σ0 τ0) args s 0 0 (jp_A Γ)) 7 Γ Z 49 [(0, .ref (Γ.2.2.1 20)), (1, .int x1), (2, .int x2), (3, .int v)] [] σ τ := by
  refine jp_loopI (P := fun (v : Int32) (σ : jp_I) (τ : jp_J) => jp_at p l e (jp_R 3 72) s m args below meth c (MQ below (jp_Q Γ Z (some (.int r0)) σ0 τ0) args s 0 0 (jp_A Γ)) 7 Γ Z 49 [(0, .ref (Γ.2.2.1 20)), (1, .int x1), (2, .int x2), (3, .int v)] [] σ τ) (fun v σ τ q hq hbk hen => ?_)
  exact wsX8_way_49 B hX0 hq (fun v' hv => hbk v' hv) (fun x hv => by obtain ⟨h1, h2, h3⟩ := hen _ hv; rw [h2, h3]; exact kx x h1.symm) (fun r hv => by obtain ⟨h1, h2, h3⟩ := hen _ hv; rw [h2, h3]; exact kr r h1.symm)
def sX8_way_234 (x1 : Int32) (x2 : Int32) (x3 : Int32) (x4 : Int32) (x5 : Int32) (σ : jp_I) (τ : jp_J) : Option (Sum (Int32) (Sum (Int32) Int32) × jp_I × jp_J) :=
  (fX8_step x1 x4 x3 x5 σ τ).bind fun (a_1, σ_1, τ_1) => if jp_ok ((36 * x4) + x3) 1476 = true then if a_1 = (σ_1 27 ((36 * x4) + x3).toNatClampNeg) then (some (.inr (.inl x5), σ_1, τ_1)) else (some (.inl (x5 + 1), σ_1, τ_1)) else none
set_option maxHeartbeats 4000000 in
set_option maxRecDepth 20000 in
theorem wsX8_way_234 (B : jp_B Γ p s m args meth c RX8 cX8_way 7 (some .boolean)) (hX0 : jp_hM Z) {x1 : Int32} {x2 : Int32} {x3 : Int32} {x4 : Int32} {x5 : Int32} {σ : jp_I} {τ : jp_J} {q : Sum (Int32) (Sum (Int32) Int32) × jp_I × jp_J} (hf : sX8_way_234 x1 x2 x3 x4 x5 σ τ = some q) (kb : ∀ v : Int32, q.1 = .inl v → jp_at p l e (jp_R 3 72) s m args below meth c (MQ below (jp_Q Γ Z (some (.int r0)) σ0 τ0) args s 0 0 (jp_A Γ)) 7 Γ Z 234 [(0, .ref (Γ.2.2.1 20)), (1, .int x1), (2, .int x2), (3, .int x3), (4, .int x4), (5, .int v)] [] q.2.1 q.2.2) (kx : ∀ v : Int32, q.1 = .inr (.inl v) → jp_at p l e (jp_R 3 72) s m args below meth c (MQ below (jp_Q Γ Z (some (.int r0)) σ0 τ0) args s 0 0 (jp_A Γ)) 7 Γ Z 265 [(0, .ref (Γ.2.2.1 20)), (1, .int x1), (2, .int x2), (3, .int x3), (4, .int x4), (5, .int v)] [] q.2.1 q.2.2) (kr : ∀ v : Int32, q.1 = .inr (.inr v) → r0 = v ∧ σ0 = q.2.1 ∧ τ0 = q.2.2) : jp_at p l e (jp_R 3 72) s m args below meth c (MQ below (jp_Q Γ Z (some (.int r0)) σ0 τ0) args s 0 0 (jp_A Γ)) 7 Γ Z 234 [(0, .ref (Γ.2.2.1 20)), (1, .int x1), (2, .int x2), (3, .int x3), (4, .int x4), (5, .int x5)] [] σ τ := by
  obtain ⟨hx, hb, hml, hown, hts, hr, hlk, hE⟩ := id B
  unfold sX8_way_234 at hf
  intro H locs ls hP hS hl
  refine lv_aload_n hx hb dX8_way_234 rfl (lv_at hl 0 rfl) ?_
  refine lv_iload_n hx hb dX8_way_235 rfl (lv_at hl 1 rfl) ?_
  refine lv_iload hx hb dX8_way_236 (lv_at hl 4 rfl) ?_
  refine lv_iload_n hx hb dX8_way_238 rfl (lv_at hl 3 rfl) ?_
  refine lv_iload hx hb dX8_way_239 (lv_at hl 5 rfl) ?_
  obtain ⟨⟨a_1, σ_1, τ_1⟩, h_1, hf⟩ := jp_bind hf
  dsimp only at hf
  refine jp_callV (rest := []) B hP hS hl (ctX8_step ⟨hX0.1, hX0.2.1, hX0.2.2.1, hX0.2.2.2.1, hX0.2.2.2.2.1, hX0.2.2.2.2.2.1, hX0.2.2.2.2.2.2.1, hX0.2.2.2.2.2.2.2⟩ h_1) hX0.1 rfl mw_465 mw_462 mw_463 mw_464 mw_5 ddX8_step ⟨Nat.le_of_ble_eq_true rfl, Nat.le_of_ble_eq_true rfl⟩ ⟨Nat.zero_le _, Nat.zero_le _⟩ rfl (Nat.le_of_ble_eq_true rfl) dX8_way_241 (fun H locs hP hS => ?_)
  refine lv_aload_n hx hb dX8_way_244 rfl (lv_at hl 0 rfl) ?_
  refine jp_getr (k := 16) B hP hX0.1 rfl rfl (by decide) jp_fX8 rfl mw_150 dX8_way_245 ?_
  refine lv_bipush (v := 36) hx hb dX8_way_248 (by decide) ?_
  refine lv_iload hx hb dX8_way_250 (lv_at hl 4 rfl) ?_
  refine lv_imul hx hb dX8_way_252 ?_
  refine lv_iload_n hx hb dX8_way_253 rfl (lv_at hl 3 rfl) ?_
  refine lv_iadd hx hb dX8_way_254 ?_
  obtain ⟨g_2, hf⟩ := jp_if hf
  refine jp_iald B hP hX0.2.2.2.2.2.2.2 (jp_ok_vp g_2) dX8_way_255 ?_
  refine lv_icmp_eq (tgt := 265) hx hb dX8_way_256 (by decide) (fun c_3 => ?_) (fun c_3 => ?_)
  · rw [if_pos c_3] at hf
    obtain rfl := Option.some.inj hf
    exact kx _ rfl H locs ls hP hS (lv_sub hl [0, 1, 2, 3, 4, 5] rfl)
  · rw [if_neg c_3] at hf
    refine lv_iinc (v := x5 + 1) (lv' := [(5, .int (x5 + 1)), (0, .ref (Γ.2.2.1 20)), (1, .int x1), (2, .int x2), (3, .int x3), (4, .int x4)]) hx hb dX8_way_259 hl (k := 5) rfl rfl (by decide) rfl (fun ls hl => ?_)
    refine lv_goto (tgt := 234) hx hb dX8_way_262 (by decide) ?_
    obtain rfl := Option.some.inj hf
    exact kb _ rfl H locs ls hP hS (lv_sub hl [1, 2, 3, 4, 5, 0] rfl)
set_option maxHeartbeats 4000000 in
theorem lX8_way_234 (B : jp_B Γ p s m args meth c RX8 cX8_way 7 (some .boolean)) (hX0 : jp_hM Z) {x1 : Int32} {x2 : Int32} {x3 : Int32} {x4 : Int32} {e1 : Sum (Int32) Int32} {σ1 : jp_I} {τ1 : jp_J} (kx : ∀ v : Int32, e1 = .inl v → jp_at p l e (jp_R 3 72) s m args below meth c (MQ below (jp_Q Γ Z (some (.int r0)) σ0 τ0) args s 0 0 (jp_A Γ)) 7 Γ Z 265 [(0, .ref (Γ.2.2.1 20)), (1, .int x1), (2, .int x2), (3, .int x3), (4, .int x4), (5, .int v)] [] σ1 τ1) (kr : ∀ v : Int32, e1 = .inr v → r0 = v ∧ σ0 = σ1 ∧ τ0 = τ1) : ∀ (k : Nat) (v : Int32) (σ : jp_I) (τ : jp_J), jp_loop (fun q : (Int32) × jp_I × jp_J => sX8_way_234 x1 x2 x3 x4 q.1 q.2.1 q.2.2) k (v, σ, τ) = some (e1, σ1, τ1) → jp_at p l e (jp_R 3 72) s m args below meth c (MQ below (jp_Q Γ Z (some (.int r0)) σ0 τ0) args s 0 0 (jp_A Γ)) 7 Γ Z 234 [(0, .ref (Γ.2.2.1 20)), (1, .int x1), (2, .int x2), (3, .int x3), (4, .int x4), (5, .int v)] [] σ τ := by
  refine jp_loopI (P := fun (v : Int32) (σ : jp_I) (τ : jp_J) => jp_at p l e (jp_R 3 72) s m args below meth c (MQ below (jp_Q Γ Z (some (.int r0)) σ0 τ0) args s 0 0 (jp_A Γ)) 7 Γ Z 234 [(0, .ref (Γ.2.2.1 20)), (1, .int x1), (2, .int x2), (3, .int x3), (4, .int x4), (5, .int v)] [] σ τ) (fun v σ τ q hq hbk hen => ?_)
  exact wsX8_way_234 B hX0 hq (fun v' hv => hbk v' hv) (fun x hv => by obtain ⟨h1, h2, h3⟩ := hen _ hv; rw [h2, h3]; exact kx x h1.symm) (fun r hv => by obtain ⟨h1, h2, h3⟩ := hen _ hv; rw [h2, h3]; exact kr r h1.symm)
def sX8_way_224 (x1 : Int32) (x2 : Int32) (x3 : Int32) (x4 : Int32) (σ : jp_I) (τ : jp_J) : Option (Sum (Int32 × Int32) (Sum (Unit) Int32) × jp_I × jp_J) :=
  if 40 ≤ x4 then (some (.inr (.inl ()), σ, τ)) else ((jp_loop (fun q : (Int32) × jp_I × jp_J => sX8_way_234 x1 x2 x3 x4 q.1 q.2.1 q.2.2) jp_F (0, σ, τ)).bind fun (e_2, σ_2, τ_2) => match e_2 with
    | .inl v_2 => ((fX8_moved x3 v_2 σ_2 τ_2).bind fun (a_3, σ_3, τ_3) => if jp_ok (((160 * x2) + x4) + 1) 640 = true then some (.inl (a_3, x4 + 1), jp_up σ_3 25 (((160 * x2) + x4) + 1).toNatClampNeg a_3, τ_3) else none)
    | .inr r_2 => some (.inr (.inr r_2), σ_2, τ_2))
set_option maxHeartbeats 4000000 in
set_option maxRecDepth 20000 in
theorem wsX8_way_224 (B : jp_B Γ p s m args meth c RX8 cX8_way 7 (some .boolean)) (hX0 : jp_hM Z) {x1 : Int32} {x2 : Int32} {x3 : Int32} {x4 : Int32} {σ : jp_I} {τ : jp_J} {q : Sum (Int32 × Int32) (Sum (Unit) Int32) × jp_I × jp_J} (hf : sX8_way_224 x1 x2 x3 x4 σ τ = some q) (kb : ∀ v : Int32 × Int32, q.1 = .inl v → jp_at p l e (jp_R 3 72) s m args below meth c (MQ below (jp_Q Γ Z (some (.int r0)) σ0 τ0) args s 0 0 (jp_A Γ)) 7 Γ Z 224 [(0, .ref (Γ.2.2.1 20)), (1, .int x1), (2, .int x2), (3, .int v.1), (4, .int v.2)] [] q.2.1 q.2.2) (kx : ∀ v : Unit, q.1 = .inr (.inl v) → jp_at p l e (jp_R 3 72) s m args below meth c (MQ below (jp_Q Γ Z (some (.int r0)) σ0 τ0) args s 0 0 (jp_A Γ)) 7 Γ Z 295 [] [] q.2.1 q.2.2) (kr : ∀ v : Int32, q.1 = .inr (.inr v) → r0 = v ∧ σ0 = q.2.1 ∧ τ0 = q.2.2) : jp_at p l e (jp_R 3 72) s m args below meth c (MQ below (jp_Q Γ Z (some (.int r0)) σ0 τ0) args s 0 0 (jp_A Γ)) 7 Γ Z 224 [(0, .ref (Γ.2.2.1 20)), (1, .int x1), (2, .int x2), (3, .int x3), (4, .int x4)] [] σ τ := by
  obtain ⟨hx, hb, hml, hown, hts, hr, hlk, hE⟩ := id B
  unfold sX8_way_224 at hf
  intro H locs ls hP hS hl
  refine lv_iload hx hb dX8_way_224 (lv_at hl 4 rfl) ?_
  refine lv_bipush (v := 40) hx hb dX8_way_226 (by decide) ?_
  refine lv_icmp_ge (tgt := 295) hx hb dX8_way_228 (by decide) (fun c_1 => ?_) (fun c_1 => ?_)
  · rw [if_pos c_1] at hf
    obtain rfl := Option.some.inj hf
    exact kx _ rfl H locs ls hP hS (lv_sub hl [] rfl)
  · rw [if_neg c_1] at hf
    refine lv_iconst (v := 0) hx hb dX8_way_231 (by decide) ?_
    refine lv_istore (lv' := [(5, .int 0), (0, .ref (Γ.2.2.1 20)), (1, .int x1), (2, .int x2), (3, .int x3), (4, .int x4)]) hx hb dX8_way_232 hl (by decide) rfl (fun ls hl => ?_)
    obtain ⟨⟨e_2, σ_2, τ_2⟩, h_2, hf⟩ := jp_bind hf
    refine lX8_way_234 (r0 := r0) B hX0 (x1 := x1) (x2 := x2) (x3 := x3) (x4 := x4) (fun v_2 k_2 => ?_) (fun r_2 k_2 => ?_) _ _ _ _ h_2 H locs ls hP hS (lv_sub hl [1, 2, 3, 4, 5, 0] rfl)
    · subst k_2
      dsimp only at hf
      intro H locs ls hP hS hl
      refine lv_aload_n hx hb dX8_way_265 rfl (lv_at hl 0 rfl) ?_
      refine lv_iload_n hx hb dX8_way_266 rfl (lv_at hl 3 rfl) ?_
      refine lv_iload hx hb dX8_way_267 (lv_at hl 5 rfl) ?_
      obtain ⟨⟨a_3, σ_3, τ_3⟩, h_3, hf⟩ := jp_bind hf
      dsimp only at hf
      refine jp_callV (rest := []) B hP hS hl (ctX8_moved ⟨hX0.1, hX0.2.1, hX0.2.2.1, hX0.2.2.2.1, hX0.2.2.2.2.1, hX0.2.2.2.2.2.1, hX0.2.2.2.2.2.2.1, hX0.2.2.2.2.2.2.2⟩ h_3) hX0.1 rfl mw_434 mw_431 mw_432 mw_433 mw_5 ddX8_moved ⟨Nat.le_of_ble_eq_true rfl, Nat.le_of_ble_eq_true rfl⟩ ⟨Nat.zero_le _, Nat.zero_le _⟩ rfl (Nat.le_of_ble_eq_true rfl) dX8_way_269 (fun H locs hP hS => ?_)
      refine lv_istore_n (lv' := [(3, .int a_3), (0, .ref (Γ.2.2.1 20)), (1, .int x1), (2, .int x2), (4, .int x4), (5, .int v_2)]) hx hb dX8_way_272 rfl hl (by decide) rfl (fun ls hl => ?_)
      refine lv_aload_n hx hb dX8_way_273 rfl (lv_at hl 1 rfl) ?_
      refine jp_getr (k := 14) B hP hX0.1 rfl rfl (by decide) jp_fX8 rfl mw_148 dX8_way_274 ?_
      refine lv_sipush (v := 160) hx hb dX8_way_277 (by decide) ?_
      refine lv_iload_n hx hb dX8_way_280 rfl (lv_at hl 3 rfl) ?_
      refine lv_imul hx hb dX8_way_281 ?_
      refine lv_iload hx hb dX8_way_282 (lv_at hl 4 rfl) ?_
      refine lv_iadd hx hb dX8_way_284 ?_
      refine lv_iconst (v := 1) hx hb dX8_way_285 (by decide) ?_
      refine lv_iadd hx hb dX8_way_286 ?_
      refine lv_iload_n hx hb dX8_way_287 rfl (lv_at hl 0 rfl) ?_
      obtain ⟨g_4, hf⟩ := jp_if hf
      refine jp_iast B hP hS hX0.2.2.2.2.2.1 (jp_ok_vp g_4) dX8_way_288 (fun H locs hP hS => ?_)
      refine lv_iinc (v := x4 + 1) (lv' := [(4, .int (x4 + 1)), (3, .int a_3), (0, .ref (Γ.2.2.1 20)), (1, .int x1), (2, .int x2), (5, .int v_2)]) hx hb dX8_way_289 hl (k := 4) rfl rfl (by decide) rfl (fun ls hl => ?_)
      refine lv_goto (tgt := 224) hx hb dX8_way_292 (by decide) ?_
      obtain rfl := Option.some.inj hf
      exact kb _ rfl H locs ls hP hS (lv_sub hl [2, 3, 4, 1, 0] rfl)
    · subst k_2
      dsimp only at hf
      obtain rfl := Option.some.inj hf
      exact kr _ rfl
set_option maxHeartbeats 4000000 in
theorem lX8_way_224 (B : jp_B Γ p s m args meth c RX8 cX8_way 7 (some .boolean)) (hX0 : jp_hM Z) {x1 : Int32} {x2 : Int32} {e1 : Sum (Unit) Int32} {σ1 : jp_I} {τ1 : jp_J} (kx : ∀ v : Unit, e1 = .inl v → jp_at p l e (jp_R 3 72) s m args below meth c (MQ below (jp_Q Γ Z (some (.int r0)) σ0 τ0) args s 0 0 (jp_A Γ)) 7 Γ Z 295 [] [] σ1 τ1) (kr : ∀ v : Int32, e1 = .inr v → r0 = v ∧ σ0 = σ1 ∧ τ0 = τ1) : ∀ (k : Nat) (v : Int32 × Int32) (σ : jp_I) (τ : jp_J), jp_loop (fun q : (Int32 × Int32) × jp_I × jp_J => sX8_way_224 x1 x2 q.1.1 q.1.2 q.2.1 q.2.2) k (v, σ, τ) = some (e1, σ1, τ1) → jp_at p l e (jp_R 3 72) s m args below meth c (MQ below (jp_Q Γ Z (some (.int r0)) σ0 τ0) args s 0 0 (jp_A Γ)) 7 Γ Z 224 [(0, .ref (Γ.2.2.1 20)), (1, .int x1), (2, .int x2), (3, .int v.1), (4, .int v.2)] [] σ τ := by
  refine jp_loopI (P := fun (v : Int32 × Int32) (σ : jp_I) (τ : jp_J) => jp_at p l e (jp_R 3 72) s m args below meth c (MQ below (jp_Q Γ Z (some (.int r0)) σ0 τ0) args s 0 0 (jp_A Γ)) 7 Γ Z 224 [(0, .ref (Γ.2.2.1 20)), (1, .int x1), (2, .int x2), (3, .int v.1), (4, .int v.2)] [] σ τ) (fun v σ τ q hq hbk hen => ?_)
  exact wsX8_way_224 B hX0 hq (fun v' hv => hbk v' hv) (fun x hv => by obtain ⟨h1, h2, h3⟩ := hen _ hv; rw [h2, h3]; exact kx x h1.symm) (fun r hv => by obtain ⟨h1, h2, h3⟩ := hen _ hv; rw [h2, h3]; exact kr r h1.symm)
def fX8_way (p1 : Int32) (σ : jp_I) (τ : jp_J) : Option (Int32 × jp_I × jp_J) :=
  if jp_ok p1 4 = true then (jp_loop (fun q : (Int32) × jp_I × jp_J => sX8_way_9 p1 (σ 26 p1.toNatClampNeg) q.1 q.2.1 q.2.2) jp_F (0, σ, τ)).bind fun (e_2, σ_2, τ_2) => match e_2 with
    | .inl _ => ((jp_loop (fun q : (Int32) × jp_I × jp_J => sX8_way_49 p1 (σ 26 p1.toNatClampNeg) q.1 q.2.1 q.2.2) jp_F (40, σ_2, τ_2)).bind fun (e_3, σ_3, τ_3) => match e_3 with
    | .inl _ => (if jp_ok (σ 26 p1.toNatClampNeg) 4 = true then if jp_ok (σ_3 22 (σ 26 p1.toNatClampNeg).toNatClampNeg) 1476 = true then if (σ_3 27 (σ_3 22 (σ 26 p1.toNatClampNeg).toNatClampNeg).toNatClampNeg) < 1000000 then (if jp_ok (160 * (σ 26 p1.toNatClampNeg)) 640 = true then (jp_loop (fun q : (Int32 × Int32) × jp_I × jp_J => sX8_way_224 p1 (σ 26 p1.toNatClampNeg) q.1.1 q.1.2 q.2.1 q.2.2) jp_F ((σ_3 22 (σ 26 p1.toNatClampNeg).toNatClampNeg, 0), jp_up σ_3 25 (160 * (σ 26 p1.toNatClampNeg)).toNatClampNeg (σ_3 22 (σ 26 p1.toNatClampNeg).toNatClampNeg), τ_3)).bind fun (e_8, σ_8, τ_8) => match e_8 with
    | .inl _ => (some (1, σ_8, τ_8))
    | .inr r_8 => some (r_8, σ_8, τ_8) else none) else (some (0, σ_3, τ_3)) else none else none)
    | .inr r_3 => some (r_3, σ_3, τ_3))
    | .inr r_2 => some (r_2, σ_2, τ_2) else none
set_option maxHeartbeats 4000000 in
set_option maxRecDepth 20000 in
theorem ctX8_way {l : Launch} {Γ : jp_G} {Z : Nat → Option jp_Sh} (hX0 : jp_hM Z) {p1 : Int32} {σ σ0 : jp_I} {τ τ0 : jp_J} {r0 : Int32} (hf : fX8_way p1 σ τ = some (r0, σ0, τ0)) : jp_M l yX8_way cX8_way 7 (some .boolean) 3 72 Γ Z σ τ [.ref (Γ.2.2.1 20), .int p1] (some (.int r0)) σ0 τ0 := by
  refine jp_mk (lv := [(0, .ref (Γ.2.2.1 20)), (1, .int p1)]) (by decide) (Nat.le_of_ble_eq_true rfl) rfl fun p e s m args below meth c B => ?_
  obtain ⟨hx, hb, hml, hown, hts, hr, hlk, hE⟩ := id B
  unfold fX8_way at hf
  intro H locs ls hP hS hl
  refine lv_aload_n hx hb dX8_way_0 rfl (lv_at hl 0 rfl) ?_
  refine jp_getr (k := 15) B hP hX0.1 rfl rfl (by decide) jp_fX8 rfl mw_149 dX8_way_1 ?_
  refine lv_iload_n hx hb dX8_way_4 rfl (lv_at hl 1 rfl) ?_
  obtain ⟨g_1, hf⟩ := jp_if hf
  refine jp_iald B hP hX0.2.2.2.2.2.2.1 (jp_ok_vp g_1) dX8_way_5 ?_
  refine lv_istore_n (lv' := [(2, .int (σ 26 p1.toNatClampNeg)), (0, .ref (Γ.2.2.1 20)), (1, .int p1)]) hx hb dX8_way_6 rfl hl (by decide) rfl (fun ls hl => ?_)
  refine lv_iconst (v := 0) hx hb dX8_way_7 (by decide) ?_
  refine lv_istore_n (lv' := [(3, .int 0), (2, .int (σ 26 p1.toNatClampNeg)), (0, .ref (Γ.2.2.1 20)), (1, .int p1)]) hx hb dX8_way_8 rfl hl (by decide) rfl (fun ls hl => ?_)
  obtain ⟨⟨e_2, σ_2, τ_2⟩, h_2, hf⟩ := jp_bind hf
  refine lX8_way_9 (r0 := r0) B hX0 (x1 := p1) (x2 := (σ 26 p1.toNatClampNeg)) (fun v_2 k_2 => ?_) (fun r_2 k_2 => ?_) _ _ _ _ h_2 H locs ls hP hS (lv_sub hl [2, 3, 1, 0] rfl)
  · subst k_2
    dsimp only at hf
    intro H locs ls hP hS hl
    refine lv_bipush (v := 40) hx hb dX8_way_46 (by decide) ?_
    refine lv_istore_n (lv' := [(3, .int 40), (0, .ref (Γ.2.2.1 20)), (1, .int p1), (2, .int (σ 26 p1.toNatClampNeg))]) hx hb dX8_way_48 rfl hl (by decide) rfl (fun ls hl => ?_)
    obtain ⟨⟨e_3, σ_3, τ_3⟩, h_3, hf⟩ := jp_bind hf
    refine lX8_way_49 (r0 := r0) B hX0 (x1 := p1) (x2 := (σ 26 p1.toNatClampNeg)) (fun v_3 k_3 => ?_) (fun r_3 k_3 => ?_) _ _ _ _ h_3 H locs ls hP hS (lv_sub hl [1, 2, 3, 0] rfl)
    · subst k_3
      dsimp only at hf
      intro H locs ls hP hS hl
      refine lv_aload_n hx hb dX8_way_190 rfl (lv_at hl 0 rfl) ?_
      refine jp_getr (k := 5) B hP hX0.1 rfl rfl (by decide) jp_fX8 rfl mw_139 dX8_way_191 ?_
      refine lv_iload_n hx hb dX8_way_194 rfl (lv_at hl 2 rfl) ?_
      obtain ⟨g_4, hf⟩ := jp_if hf
      refine jp_iald B hP hX0.2.2.1 (jp_ok_vp g_4) dX8_way_195 ?_
      refine lv_istore_n (lv' := [(3, .int (σ_3 22 (σ 26 p1.toNatClampNeg).toNatClampNeg)), (0, .ref (Γ.2.2.1 20)), (1, .int p1), (2, .int (σ 26 p1.toNatClampNeg))]) hx hb dX8_way_196 rfl hl (by decide) rfl (fun ls hl => ?_)
      refine lv_aload_n hx hb dX8_way_197 rfl (lv_at hl 1 rfl) ?_
      refine jp_getr (k := 16) B hP hX0.1 rfl rfl (by decide) jp_fX8 rfl mw_150 dX8_way_198 ?_
      refine lv_iload_n hx hb dX8_way_201 rfl (lv_at hl 0 rfl) ?_
      obtain ⟨g_5, hf⟩ := jp_if hf
      refine jp_iald B hP hX0.2.2.2.2.2.2.2 (jp_ok_vp g_5) dX8_way_202 ?_
      refine lv_ldc (v := 1000000) hx hb hown (hts _ mw_414) dX8_way_203 ?_
      refine lv_icmp_lt (tgt := 210) hx hb dX8_way_205 (by decide) (fun c_6 => ?_) (fun c_6 => ?_)
      · rw [if_pos c_6] at hf
        refine lv_aload_n hx hb dX8_way_210 rfl (lv_at hl 1 rfl) ?_
        refine jp_getr (k := 14) B hP hX0.1 rfl rfl (by decide) jp_fX8 rfl mw_148 dX8_way_211 ?_
        refine lv_sipush (v := 160) hx hb dX8_way_214 (by decide) ?_
        refine lv_iload_n hx hb dX8_way_217 rfl (lv_at hl 3 rfl) ?_
        refine lv_imul hx hb dX8_way_218 ?_
        refine lv_iload_n hx hb dX8_way_219 rfl (lv_at hl 0 rfl) ?_
        obtain ⟨g_7, hf⟩ := jp_if hf
        refine jp_iast B hP hS hX0.2.2.2.2.2.1 (jp_ok_vp g_7) dX8_way_220 (fun H locs hP hS => ?_)
        refine lv_iconst (v := 0) hx hb dX8_way_221 (by decide) ?_
        refine lv_istore (lv' := [(4, .int 0), (3, .int (σ_3 22 (σ 26 p1.toNatClampNeg).toNatClampNeg)), (0, .ref (Γ.2.2.1 20)), (1, .int p1), (2, .int (σ 26 p1.toNatClampNeg))]) hx hb dX8_way_222 hl (by decide) rfl (fun ls hl => ?_)
        obtain ⟨⟨e_8, σ_8, τ_8⟩, h_8, hf⟩ := jp_bind hf
        refine lX8_way_224 (r0 := r0) B hX0 (x1 := p1) (x2 := (σ 26 p1.toNatClampNeg)) (fun v_8 k_8 => ?_) (fun r_8 k_8 => ?_) _ _ _ _ h_8 H locs ls hP hS (lv_sub hl [2, 3, 4, 1, 0] rfl)
        · subst k_8
          dsimp only at hf
          intro H locs ls hP hS hl
          refine lv_iconst (v := 1) hx hb dX8_way_295 (by decide) ?_
          exact jp_endz B hP hS (by decide) dX8_way_296 (jp_inj hf)
        · subst k_8
          dsimp only at hf
          exact jp_inj hf
      · rw [if_neg c_6] at hf
        refine lv_iconst (v := 0) hx hb dX8_way_208 (by decide) ?_
        exact jp_endz B hP hS (by decide) dX8_way_209 (jp_inj hf)
    · subst k_3
      dsimp only at hf
      exact jp_inj hf
  · subst k_2
    dsimp only at hf
    exact jp_inj hf
end
-- X8_ways
section
variable {p : Program} {l : Launch} {e : Jvm.Env} {s : State} {m : MethodId} {args : Array Value} {below : List Frame} {meth : Method} {c : Code} {Γ : jp_G} {Z : Nat → Option jp_Sh} {r0 : Int32} {σ0 : jp_I} {τ0 : jp_J}
def sX8_ways_4 (x1 : Int32) (x2 : Int32) (σ : jp_I) (τ : jp_J) : Option (Sum (Int32 × Int32) (Sum (Int32) Int32) × jp_I × jp_J) :=
  if (σ 20 1) ≤ x2 then (some (.inr (.inl x1), σ, τ)) else ((fX8_way x2 σ τ).bind fun (a_2, σ_2, τ_2) => if a_2 = 0 then (some (.inr (.inr (-1)), σ_2, τ_2)) else (if jp_ok x2 4 = true then if jp_ok (σ_2 26 x2.toNatClampNeg) 4 = true then if jp_ok (σ_2 22 (σ_2 26 x2.toNatClampNeg).toNatClampNeg) 1476 = true then some (.inl (x1 + (σ_2 27 (σ_2 22 (σ_2 26 x2.toNatClampNeg).toNatClampNeg).toNatClampNeg), x2 + 1), σ_2, τ_2) else none else none else none))
set_option maxHeartbeats 4000000 in
set_option maxRecDepth 20000 in
theorem wsX8_ways_4 (B : jp_B Γ p s m args meth c RX8 cX8_ways 3 (some .int)) (hX0 : jp_hM Z) {x1 : Int32} {x2 : Int32} {σ : jp_I} {τ : jp_J} {q : Sum (Int32 × Int32) (Sum (Int32) Int32) × jp_I × jp_J} (hf : sX8_ways_4 x1 x2 σ τ = some q) (kb : ∀ v : Int32 × Int32, q.1 = .inl v → jp_at p l e (jp_R 4 98) s m args below meth c (MQ below (jp_Q Γ Z (some (.int r0)) σ0 τ0) args s 0 0 (jp_A Γ)) 3 Γ Z 4 [(0, .ref (Γ.2.2.1 20)), (1, .int v.1), (2, .int v.2)] [] q.2.1 q.2.2) (kx : ∀ v : Int32, q.1 = .inr (.inl v) → jp_at p l e (jp_R 4 98) s m args below meth c (MQ below (jp_Q Γ Z (some (.int r0)) σ0 τ0) args s 0 0 (jp_A Γ)) 3 Γ Z 47 [(1, .int v)] [] q.2.1 q.2.2) (kr : ∀ v : Int32, q.1 = .inr (.inr v) → r0 = v ∧ σ0 = q.2.1 ∧ τ0 = q.2.2) : jp_at p l e (jp_R 4 98) s m args below meth c (MQ below (jp_Q Γ Z (some (.int r0)) σ0 τ0) args s 0 0 (jp_A Γ)) 3 Γ Z 4 [(0, .ref (Γ.2.2.1 20)), (1, .int x1), (2, .int x2)] [] σ τ := by
  obtain ⟨hx, hb, hml, hown, hts, hr, hlk, hE⟩ := id B
  unfold sX8_ways_4 at hf
  intro H locs ls hP hS hl
  refine lv_iload_n hx hb dX8_ways_4 rfl (lv_at hl 2 rfl) ?_
  refine lv_aload_n hx hb dX8_ways_5 rfl (lv_at hl 0 rfl) ?_
  refine jp_geti (k := 1) B hP hX0.1 rfl rfl (by decide) jp_fX8 rfl mw_151 dX8_ways_6 ?_
  refine lv_icmp_ge (tgt := 47) hx hb dX8_ways_9 (by decide) (fun c_1 => ?_) (fun c_1 => ?_)
  · rw [if_pos c_1] at hf
    obtain rfl := Option.some.inj hf
    exact kx _ rfl H locs ls hP hS (lv_sub hl [1] rfl)
  · rw [if_neg c_1] at hf
    refine lv_aload_n hx hb dX8_ways_12 rfl (lv_at hl 0 rfl) ?_
    refine lv_iload_n hx hb dX8_ways_13 rfl (lv_at hl 2 rfl) ?_
    obtain ⟨⟨a_2, σ_2, τ_2⟩, h_2, hf⟩ := jp_bind hf
    dsimp only at hf
    refine jp_callV (rest := []) B hP hS hl (ctX8_way ⟨hX0.1, hX0.2.1, hX0.2.2.1, hX0.2.2.2.1, hX0.2.2.2.2.1, hX0.2.2.2.2.2.1, hX0.2.2.2.2.2.2.1, hX0.2.2.2.2.2.2.2⟩ h_2) hX0.1 rfl mw_461 mw_458 mw_459 mw_460 mw_5 ddX8_way ⟨Nat.le_of_ble_eq_true rfl, Nat.le_of_ble_eq_true rfl⟩ ⟨Nat.zero_le _, Nat.zero_le _⟩ rfl (Nat.le_of_ble_eq_true rfl) dX8_ways_14 (fun H locs hP hS => ?_)
    refine lv_if_ne (tgt := 22) hx hb dX8_ways_17 (by decide) (fun c_3 => ?_) (fun c_3 => ?_)
    · rw [if_neg c_3] at hf
      refine lv_iload_n hx hb dX8_ways_22 rfl (lv_at hl 1 rfl) ?_
      refine lv_aload_n hx hb dX8_ways_23 rfl (lv_at hl 0 rfl) ?_
      refine jp_getr (k := 16) B hP hX0.1 rfl rfl (by decide) jp_fX8 rfl mw_150 dX8_ways_24 ?_
      refine lv_aload_n hx hb dX8_ways_27 rfl (lv_at hl 0 rfl) ?_
      refine jp_getr (k := 5) B hP hX0.1 rfl rfl (by decide) jp_fX8 rfl mw_139 dX8_ways_28 ?_
      refine lv_aload_n hx hb dX8_ways_31 rfl (lv_at hl 0 rfl) ?_
      refine jp_getr (k := 15) B hP hX0.1 rfl rfl (by decide) jp_fX8 rfl mw_149 dX8_ways_32 ?_
      refine lv_iload_n hx hb dX8_ways_35 rfl (lv_at hl 2 rfl) ?_
      obtain ⟨g_4, hf⟩ := jp_if hf
      refine jp_iald B hP hX0.2.2.2.2.2.2.1 (jp_ok_vp g_4) dX8_ways_36 ?_
      obtain ⟨g_5, hf⟩ := jp_if hf
      refine jp_iald B hP hX0.2.2.1 (jp_ok_vp g_5) dX8_ways_37 ?_
      obtain ⟨g_6, hf⟩ := jp_if hf
      refine jp_iald B hP hX0.2.2.2.2.2.2.2 (jp_ok_vp g_6) dX8_ways_38 ?_
      refine lv_iadd hx hb dX8_ways_39 ?_
      refine lv_istore_n (lv' := [(1, .int (x1 + (σ_2 27 (σ_2 22 (σ_2 26 x2.toNatClampNeg).toNatClampNeg).toNatClampNeg))), (0, .ref (Γ.2.2.1 20)), (2, .int x2)]) hx hb dX8_ways_40 rfl hl (by decide) rfl (fun ls hl => ?_)
      refine lv_iinc (v := x2 + 1) (lv' := [(2, .int (x2 + 1)), (1, .int (x1 + (σ_2 27 (σ_2 22 (σ_2 26 x2.toNatClampNeg).toNatClampNeg).toNatClampNeg))), (0, .ref (Γ.2.2.1 20))]) hx hb dX8_ways_41 hl (k := 2) rfl rfl (by decide) rfl (fun ls hl => ?_)
      refine lv_goto (tgt := 4) hx hb dX8_ways_44 (by decide) ?_
      obtain rfl := Option.some.inj hf
      exact kb _ rfl H locs ls hP hS (lv_sub hl [2, 1, 0] rfl)
    · rw [if_pos c_3] at hf
      refine lv_iconst (v := -1) hx hb dX8_ways_20 (by decide) ?_
      obtain rfl := Option.some.inj hf
      exact jp_endi B hP hS dX8_ways_21 (kr _ rfl)
set_option maxHeartbeats 4000000 in
theorem lX8_ways_4 (B : jp_B Γ p s m args meth c RX8 cX8_ways 3 (some .int)) (hX0 : jp_hM Z) {e1 : Sum (Int32) Int32} {σ1 : jp_I} {τ1 : jp_J} (kx : ∀ v : Int32, e1 = .inl v → jp_at p l e (jp_R 4 98) s m args below meth c (MQ below (jp_Q Γ Z (some (.int r0)) σ0 τ0) args s 0 0 (jp_A Γ)) 3 Γ Z 47 [(1, .int v)] [] σ1 τ1) (kr : ∀ v : Int32, e1 = .inr v → r0 = v ∧ σ0 = σ1 ∧ τ0 = τ1) : ∀ (k : Nat) (v : Int32 × Int32) (σ : jp_I) (τ : jp_J), jp_loop (fun q : (Int32 × Int32) × jp_I × jp_J => sX8_ways_4 q.1.1 q.1.2 q.2.1 q.2.2) k (v, σ, τ) = some (e1, σ1, τ1) → jp_at p l e (jp_R 4 98) s m args below meth c (MQ below (jp_Q Γ Z (some (.int r0)) σ0 τ0) args s 0 0 (jp_A Γ)) 3 Γ Z 4 [(0, .ref (Γ.2.2.1 20)), (1, .int v.1), (2, .int v.2)] [] σ τ := by
  refine jp_loopI (P := fun (v : Int32 × Int32) (σ : jp_I) (τ : jp_J) => jp_at p l e (jp_R 4 98) s m args below meth c (MQ below (jp_Q Γ Z (some (.int r0)) σ0 τ0) args s 0 0 (jp_A Γ)) 3 Γ Z 4 [(0, .ref (Γ.2.2.1 20)), (1, .int v.1), (2, .int v.2)] [] σ τ) (fun v σ τ q hq hbk hen => ?_)
  exact wsX8_ways_4 B hX0 hq (fun v' hv => hbk v' hv) (fun x hv => by obtain ⟨h1, h2, h3⟩ := hen _ hv; rw [h2, h3]; exact kx x h1.symm) (fun r hv => by obtain ⟨h1, h2, h3⟩ := hen _ hv; rw [h2, h3]; exact kr r h1.symm)
def fX8_ways (σ : jp_I) (τ : jp_J) : Option (Int32 × jp_I × jp_J) :=
  (jp_loop (fun q : (Int32 × Int32) × jp_I × jp_J => sX8_ways_4 q.1.1 q.1.2 q.2.1 q.2.2) jp_F ((0, 0), σ, τ)).bind fun (e_1, σ_1, τ_1) => match e_1 with
    | .inl v_1 => (some (v_1, σ_1, τ_1))
    | .inr r_1 => some (r_1, σ_1, τ_1)
set_option maxHeartbeats 4000000 in
set_option maxRecDepth 20000 in
theorem ctX8_ways {l : Launch} {Γ : jp_G} {Z : Nat → Option jp_Sh} (hX0 : jp_hM Z) {σ σ0 : jp_I} {τ τ0 : jp_J} {r0 : Int32} (hf : fX8_ways σ τ = some (r0, σ0, τ0)) : jp_M l yX8_ways cX8_ways 3 (some .int) 4 98 Γ Z σ τ [.ref (Γ.2.2.1 20)] (some (.int r0)) σ0 τ0 := by
  refine jp_mk (lv := [(0, .ref (Γ.2.2.1 20))]) (by decide) (Nat.le_of_ble_eq_true rfl) rfl fun p e s m args below meth c B => ?_
  obtain ⟨hx, hb, hml, hown, hts, hr, hlk, hE⟩ := id B
  unfold fX8_ways at hf
  intro H locs ls hP hS hl
  refine lv_iconst (v := 0) hx hb dX8_ways_0 (by decide) ?_
  refine lv_istore_n (lv' := [(1, .int 0), (0, .ref (Γ.2.2.1 20))]) hx hb dX8_ways_1 rfl hl (by decide) rfl (fun ls hl => ?_)
  refine lv_iconst (v := 0) hx hb dX8_ways_2 (by decide) ?_
  refine lv_istore_n (lv' := [(2, .int 0), (1, .int 0), (0, .ref (Γ.2.2.1 20))]) hx hb dX8_ways_3 rfl hl (by decide) rfl (fun ls hl => ?_)
  obtain ⟨⟨e_1, σ_1, τ_1⟩, h_1, hf⟩ := jp_bind hf
  refine lX8_ways_4 (r0 := r0) B hX0 (fun v_1 k_1 => ?_) (fun r_1 k_1 => ?_) _ _ _ _ h_1 H locs ls hP hS (lv_sub hl [2, 1, 0] rfl)
  · subst k_1
    dsimp only at hf
    intro H locs ls hP hS hl
    refine lv_iload_n hx hb dX8_ways_47 rfl (lv_at hl 0 rfl) ?_
    exact jp_endi B hP hS dX8_ways_48 (jp_inj hf)
  · subst k_1
    dsimp only at hf
    exact jp_inj hf
end
-- X8_draw
section
variable {p : Program} {l : Launch} {e : Jvm.Env} {s : State} {m : MethodId} {args : Array Value} {below : List Frame} {meth : Method} {c : Code} {Γ : jp_G} {Z : Nat → Option jp_Sh} {r0 : Int32} {σ0 : jp_I} {τ0 : jp_J}
def sX8_draw_2 (x1 : Int32) (σ : jp_I) (τ : jp_J) : Option (Sum (Int32) (Sum (Unit) Int32) × jp_I × jp_J) :=
  if (σ 20 1) ≤ x1 then (some (.inr (.inl ()), σ, τ)) else (if ((x1 + 1).toInt64) = 0 then none else if jp_ok x1 4 = true then if jp_ok (((((jp_upl τ 20 8 ((((τ 20 8) * 1103515245) + 12345) - (((τ 20 8) * 1103515245) + 12345) / 2147483648 * 2147483648)) 20 8) / 65536) - (((jp_upl τ 20 8 ((((τ 20 8) * 1103515245) + 12345) - (((τ 20 8) * 1103515245) + 12345) / 2147483648 * 2147483648)) 20 8) / 65536) / ((x1 + 1).toInt64) * ((x1 + 1).toInt64)).toInt32) 4 = true then if jp_ok x1 4 = true then if jp_ok (((((jp_upl τ 20 8 ((((τ 20 8) * 1103515245) + 12345) - (((τ 20 8) * 1103515245) + 12345) / 2147483648 * 2147483648)) 20 8) / 65536) - (((jp_upl τ 20 8 ((((τ 20 8) * 1103515245) + 12345) - (((τ 20 8) * 1103515245) + 12345) / 2147483648 * 2147483648)) 20 8) / 65536) / ((x1 + 1).toInt64) * ((x1 + 1).toInt64)).toInt32) 4 = true then some (.inl (x1 + 1), jp_up (jp_up σ 26 x1.toNatClampNeg (σ 26 (((((jp_upl τ 20 8 ((((τ 20 8) * 1103515245) + 12345) - (((τ 20 8) * 1103515245) + 12345) / 2147483648 * 2147483648)) 20 8) / 65536) - (((jp_upl τ 20 8 ((((τ 20 8) * 1103515245) + 12345) - (((τ 20 8) * 1103515245) + 12345) / 2147483648 * 2147483648)) 20 8) / 65536) / ((x1 + 1).toInt64) * ((x1 + 1).toInt64)).toInt32).toNatClampNeg)) 26 (((((jp_upl τ 20 8 ((((τ 20 8) * 1103515245) + 12345) - (((τ 20 8) * 1103515245) + 12345) / 2147483648 * 2147483648)) 20 8) / 65536) - (((jp_upl τ 20 8 ((((τ 20 8) * 1103515245) + 12345) - (((τ 20 8) * 1103515245) + 12345) / 2147483648 * 2147483648)) 20 8) / 65536) / ((x1 + 1).toInt64) * ((x1 + 1).toInt64)).toInt32).toNatClampNeg (σ 26 x1.toNatClampNeg), jp_upl τ 20 8 ((((τ 20 8) * 1103515245) + 12345) - (((τ 20 8) * 1103515245) + 12345) / 2147483648 * 2147483648)) else none else none else none else none)
set_option maxHeartbeats 4000000 in
set_option maxRecDepth 20000 in
theorem wsX8_draw_2 (B : jp_B Γ p s m args meth c RX8 cX8_draw 4 none) (hX0 : jp_hM Z) {x1 : Int32} {σ : jp_I} {τ : jp_J} {q : Sum (Int32) (Sum (Unit) Int32) × jp_I × jp_J} (hf : sX8_draw_2 x1 σ τ = some q) (kb : ∀ v : Int32, q.1 = .inl v → jp_at p l e (jp_R 0 0) s m args below meth c (MQ below (jp_Q Γ Z none σ0 τ0) args s 0 0 (jp_A Γ)) 4 Γ Z 2 [(0, .ref (Γ.2.2.1 20)), (1, .int v)] [] q.2.1 q.2.2) (kx : ∀ v : Unit, q.1 = .inr (.inl v) → jp_at p l e (jp_R 0 0) s m args below meth c (MQ below (jp_Q Γ Z none σ0 τ0) args s 0 0 (jp_A Γ)) 4 Γ Z 77 [] [] q.2.1 q.2.2) (kr : ∀ v : Int32, q.1 = .inr (.inr v) → r0 = v ∧ σ0 = q.2.1 ∧ τ0 = q.2.2) : jp_at p l e (jp_R 0 0) s m args below meth c (MQ below (jp_Q Γ Z none σ0 τ0) args s 0 0 (jp_A Γ)) 4 Γ Z 2 [(0, .ref (Γ.2.2.1 20)), (1, .int x1)] [] σ τ := by
  obtain ⟨hx, hb, hml, hown, hts, hr, hlk, hE⟩ := id B
  unfold sX8_draw_2 at hf
  intro H locs ls hP hS hl
  refine lv_iload_n hx hb dX8_draw_2 rfl (lv_at hl 1 rfl) ?_
  refine lv_aload_n hx hb dX8_draw_3 rfl (lv_at hl 0 rfl) ?_
  refine jp_geti (k := 1) B hP hX0.1 rfl rfl (by decide) jp_fX8 rfl mw_151 dX8_draw_4 ?_
  refine lv_icmp_ge (tgt := 77) hx hb dX8_draw_7 (by decide) (fun c_1 => ?_) (fun c_1 => ?_)
  · rw [if_pos c_1] at hf
    obtain rfl := Option.some.inj hf
    exact kx _ rfl H locs ls hP hS (lv_sub hl [] rfl)
  · rw [if_neg c_1] at hf
    refine lv_aload_n hx hb dX8_draw_10 rfl (lv_at hl 0 rfl) ?_
    refine lv_aload_n hx hb dX8_draw_11 rfl (lv_at hl 0 rfl) ?_
    refine jp_getl (k := 8) B hP hX0.1 rfl rfl (by decide) jp_fX8 rfl mw_142 dX8_draw_12 ?_
    refine lv_ldc2 (v := 1103515245) hx hb hown (hts _ mw_450) dX8_draw_15 ?_
    refine lv_lmul hx hb dX8_draw_18 ?_
    refine lv_ldc2 (v := 12345) hx hb hown (hts _ mw_451) dX8_draw_19 ?_
    refine lv_ladd hx hb dX8_draw_22 ?_
    refine lv_ldc2 (v := 2147483648) hx hb hown (hts _ mw_452) dX8_draw_23 ?_
    refine lv_lrem hx hb dX8_draw_26 (by decide) ?_
    refine jp_putl (k := 8) B hP hS hX0.1 rfl rfl (by decide) jp_fX8 tyX8 tyX8_ok nmX8 rfl mw_142 rfl (by decide +kernel) dX8_draw_27 (fun H locs hP hS => ?_)
    refine lv_aload_n hx hb dX8_draw_30 rfl (lv_at hl 0 rfl) ?_
    refine jp_getl (k := 8) B hP hX0.1 rfl rfl (by decide) jp_fX8 rfl mw_142 dX8_draw_31 ?_
    refine lv_ldc2 (v := 65536) hx hb hown (hts _ mw_453) dX8_draw_34 ?_
    refine lv_ldiv hx hb dX8_draw_37 (by decide) ?_
    refine lv_iload_n hx hb dX8_draw_38 rfl (lv_at hl 1 rfl) ?_
    refine lv_iconst (v := 1) hx hb dX8_draw_39 (by decide) ?_
    refine lv_iadd hx hb dX8_draw_40 ?_
    refine lv_i2l hx hb dX8_draw_41 rfl ?_
    obtain ⟨g_2, hf⟩ := jp_nzl hf
    refine lv_lrem hx hb dX8_draw_42 g_2 ?_
    refine lv_l2i hx hb dX8_draw_43 rfl ?_
    refine lv_istore_n (lv' := [(2, .int (((((jp_upl τ 20 8 ((((τ 20 8) * 1103515245) + 12345) - (((τ 20 8) * 1103515245) + 12345) / 2147483648 * 2147483648)) 20 8) / 65536) - (((jp_upl τ 20 8 ((((τ 20 8) * 1103515245) + 12345) - (((τ 20 8) * 1103515245) + 12345) / 2147483648 * 2147483648)) 20 8) / 65536) / ((x1 + 1).toInt64) * ((x1 + 1).toInt64)).toInt32)), (0, .ref (Γ.2.2.1 20)), (1, .int x1)]) hx hb dX8_draw_44 rfl hl (by decide) rfl (fun ls hl => ?_)
    refine lv_aload_n hx hb dX8_draw_45 rfl (lv_at hl 1 rfl) ?_
    refine jp_getr (k := 15) B hP hX0.1 rfl rfl (by decide) jp_fX8 rfl mw_149 dX8_draw_46 ?_
    refine lv_iload_n hx hb dX8_draw_49 rfl (lv_at hl 2 rfl) ?_
    obtain ⟨g_3, hf⟩ := jp_if hf
    refine jp_iald B hP hX0.2.2.2.2.2.2.1 (jp_ok_vp g_3) dX8_draw_50 ?_
    refine lv_istore_n (lv' := [(3, .int (σ 26 x1.toNatClampNeg)), (2, .int (((((jp_upl τ 20 8 ((((τ 20 8) * 1103515245) + 12345) - (((τ 20 8) * 1103515245) + 12345) / 2147483648 * 2147483648)) 20 8) / 65536) - (((jp_upl τ 20 8 ((((τ 20 8) * 1103515245) + 12345) - (((τ 20 8) * 1103515245) + 12345) / 2147483648 * 2147483648)) 20 8) / 65536) / ((x1 + 1).toInt64) * ((x1 + 1).toInt64)).toInt32)), (0, .ref (Γ.2.2.1 20)), (1, .int x1)]) hx hb dX8_draw_51 rfl hl (by decide) rfl (fun ls hl => ?_)
    refine lv_aload_n hx hb dX8_draw_52 rfl (lv_at hl 2 rfl) ?_
    refine jp_getr (k := 15) B hP hX0.1 rfl rfl (by decide) jp_fX8 rfl mw_149 dX8_draw_53 ?_
    refine lv_iload_n hx hb dX8_draw_56 rfl (lv_at hl 3 rfl) ?_
    refine lv_aload_n hx hb dX8_draw_57 rfl (lv_at hl 2 rfl) ?_
    refine jp_getr (k := 15) B hP hX0.1 rfl rfl (by decide) jp_fX8 rfl mw_149 dX8_draw_58 ?_
    refine lv_iload_n hx hb dX8_draw_61 rfl (lv_at hl 1 rfl) ?_
    obtain ⟨g_4, hf⟩ := jp_if hf
    refine jp_iald B hP hX0.2.2.2.2.2.2.1 (jp_ok_vp g_4) dX8_draw_62 ?_
    obtain ⟨g_5, hf⟩ := jp_if hf
    refine jp_iast B hP hS hX0.2.2.2.2.2.2.1 (jp_ok_vp g_5) dX8_draw_63 (fun H locs hP hS => ?_)
    refine lv_aload_n hx hb dX8_draw_64 rfl (lv_at hl 2 rfl) ?_
    refine jp_getr (k := 15) B hP hX0.1 rfl rfl (by decide) jp_fX8 rfl mw_149 dX8_draw_65 ?_
    refine lv_iload_n hx hb dX8_draw_68 rfl (lv_at hl 1 rfl) ?_
    refine lv_iload_n hx hb dX8_draw_69 rfl (lv_at hl 0 rfl) ?_
    obtain ⟨g_6, hf⟩ := jp_if hf
    refine jp_iast B hP hS hX0.2.2.2.2.2.2.1 (jp_ok_vp g_6) dX8_draw_70 (fun H locs hP hS => ?_)
    refine lv_iinc (v := x1 + 1) (lv' := [(1, .int (x1 + 1)), (3, .int (σ 26 x1.toNatClampNeg)), (2, .int (((((jp_upl τ 20 8 ((((τ 20 8) * 1103515245) + 12345) - (((τ 20 8) * 1103515245) + 12345) / 2147483648 * 2147483648)) 20 8) / 65536) - (((jp_upl τ 20 8 ((((τ 20 8) * 1103515245) + 12345) - (((τ 20 8) * 1103515245) + 12345) / 2147483648 * 2147483648)) 20 8) / 65536) / ((x1 + 1).toInt64) * ((x1 + 1).toInt64)).toInt32)), (0, .ref (Γ.2.2.1 20))]) hx hb dX8_draw_71 hl (k := 3) rfl rfl (by decide) rfl (fun ls hl => ?_)
    refine lv_goto (tgt := 2) hx hb dX8_draw_74 (by decide) ?_
    obtain rfl := Option.some.inj hf
    exact kb _ rfl H locs ls hP hS (lv_sub hl [3, 0] rfl)
set_option maxHeartbeats 4000000 in
theorem lX8_draw_2 (B : jp_B Γ p s m args meth c RX8 cX8_draw 4 none) (hX0 : jp_hM Z) {e1 : Sum (Unit) Int32} {σ1 : jp_I} {τ1 : jp_J} (kx : ∀ v : Unit, e1 = .inl v → jp_at p l e (jp_R 0 0) s m args below meth c (MQ below (jp_Q Γ Z none σ0 τ0) args s 0 0 (jp_A Γ)) 4 Γ Z 77 [] [] σ1 τ1) (kr : ∀ v : Int32, e1 = .inr v → r0 = v ∧ σ0 = σ1 ∧ τ0 = τ1) : ∀ (k : Nat) (v : Int32) (σ : jp_I) (τ : jp_J), jp_loop (fun q : (Int32) × jp_I × jp_J => sX8_draw_2 q.1 q.2.1 q.2.2) k (v, σ, τ) = some (e1, σ1, τ1) → jp_at p l e (jp_R 0 0) s m args below meth c (MQ below (jp_Q Γ Z none σ0 τ0) args s 0 0 (jp_A Γ)) 4 Γ Z 2 [(0, .ref (Γ.2.2.1 20)), (1, .int v)] [] σ τ := by
  refine jp_loopI (P := fun (v : Int32) (σ : jp_I) (τ : jp_J) => jp_at p l e (jp_R 0 0) s m args below meth c (MQ below (jp_Q Γ Z none σ0 τ0) args s 0 0 (jp_A Γ)) 4 Γ Z 2 [(0, .ref (Γ.2.2.1 20)), (1, .int v)] [] σ τ) (fun v σ τ q hq hbk hen => ?_)
  exact wsX8_draw_2 B hX0 hq (fun v' hv => hbk v' hv) (fun x hv => by obtain ⟨h1, h2, h3⟩ := hen _ hv; rw [h2, h3]; exact kx x h1.symm) (fun r hv => by obtain ⟨h1, h2, h3⟩ := hen _ hv; rw [h2, h3]; exact kr r h1.symm)
def fX8_draw (σ : jp_I) (τ : jp_J) : Option (Int32 × jp_I × jp_J) :=
  (jp_loop (fun q : (Int32) × jp_I × jp_J => sX8_draw_2 q.1 q.2.1 q.2.2) jp_F (1, σ, τ)).bind fun (e_1, σ_1, τ_1) => match e_1 with
    | .inl _ => (some (0, σ_1, τ_1))
    | .inr r_1 => some (r_1, σ_1, τ_1)
set_option maxHeartbeats 4000000 in
set_option maxRecDepth 20000 in
theorem ctX8_draw {l : Launch} {Γ : jp_G} {Z : Nat → Option jp_Sh} (hX0 : jp_hM Z) {σ σ0 : jp_I} {τ τ0 : jp_J} {r0 : Int32} (hf : fX8_draw σ τ = some (r0, σ0, τ0)) : jp_M l yX8_draw cX8_draw 4 none 0 0 Γ Z σ τ [.ref (Γ.2.2.1 20)] none σ0 τ0 := by
  refine jp_mk (lv := [(0, .ref (Γ.2.2.1 20))]) (by decide) (Nat.le_of_ble_eq_true rfl) rfl fun p e s m args below meth c B => ?_
  obtain ⟨hx, hb, hml, hown, hts, hr, hlk, hE⟩ := id B
  unfold fX8_draw at hf
  intro H locs ls hP hS hl
  refine lv_iconst (v := 1) hx hb dX8_draw_0 (by decide) ?_
  refine lv_istore_n (lv' := [(1, .int 1), (0, .ref (Γ.2.2.1 20))]) hx hb dX8_draw_1 rfl hl (by decide) rfl (fun ls hl => ?_)
  obtain ⟨⟨e_1, σ_1, τ_1⟩, h_1, hf⟩ := jp_bind hf
  refine lX8_draw_2 (r0 := r0) B hX0 (fun v_1 k_1 => ?_) (fun r_1 k_1 => ?_) _ _ _ _ h_1 H locs ls hP hS (lv_sub hl [1, 0] rfl)
  · subst k_1
    dsimp only at hf
    intro H locs ls hP hS hl
    exact jp_endv B hP hS dX8_draw_77 (jp_inj hf)
  · subst k_1
    dsimp only at hf
    exact jp_inj hf
end
-- X8_byPriorities
section
variable {p : Program} {l : Launch} {e : Jvm.Env} {s : State} {m : MethodId} {args : Array Value} {below : List Frame} {meth : Method} {c : Code} {Γ : jp_G} {Z : Nat → Option jp_Sh} {r0 : Int32} {σ0 : jp_I} {τ0 : jp_J}
def sX8_byPriorities_19 (x1 : Int32) (x2 : Int32) (x3 : Int32) (σ : jp_I) (τ : jp_J) : Option (Sum (Int32) (Sum (Unit) Int32) × jp_I × jp_J) :=
  if 4 ≤ x3 then (some (.inr (.inl ()), σ, τ)) else (if jp_ok x3 4 = true then some (.inl (x3 + 1), jp_up σ 26 x3.toNatClampNeg x3, τ) else none)
set_option maxHeartbeats 4000000 in
set_option maxRecDepth 20000 in
theorem wsX8_byPriorities_19 (B : jp_B Γ p s m args meth c RX8 cX8_byPriorities 5 none) (hX0 : jp_hM Z) {x1 : Int32} {x2 : Int32} {x3 : Int32} {σ : jp_I} {τ : jp_J} {q : Sum (Int32) (Sum (Unit) Int32) × jp_I × jp_J} (hf : sX8_byPriorities_19 x1 x2 x3 σ τ = some q) (kb : ∀ v : Int32, q.1 = .inl v → jp_at p l e (jp_R 5 120) s m args below meth c (MQ below (jp_Q Γ Z none σ0 τ0) args s 0 0 (jp_A Γ)) 5 Γ Z 19 [(0, .ref (Γ.2.2.1 20)), (1, .int x1), (2, .int x2), (3, .int v)] [] q.2.1 q.2.2) (kx : ∀ v : Unit, q.1 = .inr (.inl v) → jp_at p l e (jp_R 5 120) s m args below meth c (MQ below (jp_Q Γ Z none σ0 τ0) args s 0 0 (jp_A Γ)) 5 Γ Z 37 [(0, .ref (Γ.2.2.1 20)), (1, .int x1), (2, .int x2)] [] q.2.1 q.2.2) (kr : ∀ v : Int32, q.1 = .inr (.inr v) → r0 = v ∧ σ0 = q.2.1 ∧ τ0 = q.2.2) : jp_at p l e (jp_R 5 120) s m args below meth c (MQ below (jp_Q Γ Z none σ0 τ0) args s 0 0 (jp_A Γ)) 5 Γ Z 19 [(0, .ref (Γ.2.2.1 20)), (1, .int x1), (2, .int x2), (3, .int x3)] [] σ τ := by
  obtain ⟨hx, hb, hml, hown, hts, hr, hlk, hE⟩ := id B
  unfold sX8_byPriorities_19 at hf
  intro H locs ls hP hS hl
  refine lv_iload_n hx hb dX8_byPriorities_19 rfl (lv_at hl 3 rfl) ?_
  refine lv_iconst (v := 4) hx hb dX8_byPriorities_20 (by decide) ?_
  refine lv_icmp_ge (tgt := 37) hx hb dX8_byPriorities_21 (by decide) (fun c_1 => ?_) (fun c_1 => ?_)
  · rw [if_pos c_1] at hf
    obtain rfl := Option.some.inj hf
    exact kx _ rfl H locs ls hP hS (lv_sub hl [0, 1, 2] rfl)
  · rw [if_neg c_1] at hf
    refine lv_aload_n hx hb dX8_byPriorities_24 rfl (lv_at hl 0 rfl) ?_
    refine jp_getr (k := 15) B hP hX0.1 rfl rfl (by decide) jp_fX8 rfl mw_149 dX8_byPriorities_25 ?_
    refine lv_iload_n hx hb dX8_byPriorities_28 rfl (lv_at hl 3 rfl) ?_
    refine lv_iload_n hx hb dX8_byPriorities_29 rfl (lv_at hl 3 rfl) ?_
    obtain ⟨g_2, hf⟩ := jp_if hf
    refine jp_iast B hP hS hX0.2.2.2.2.2.2.1 (jp_ok_vp g_2) dX8_byPriorities_30 (fun H locs hP hS => ?_)
    refine lv_iinc (v := x3 + 1) (lv' := [(3, .int (x3 + 1)), (0, .ref (Γ.2.2.1 20)), (1, .int x1), (2, .int x2)]) hx hb dX8_byPriorities_31 hl (k := 3) rfl rfl (by decide) rfl (fun ls hl => ?_)
    refine lv_goto (tgt := 19) hx hb dX8_byPriorities_34 (by decide) ?_
    obtain rfl := Option.some.inj hf
    exact kb _ rfl H locs ls hP hS (lv_sub hl [1, 2, 3, 0] rfl)
set_option maxHeartbeats 4000000 in
theorem lX8_byPriorities_19 (B : jp_B Γ p s m args meth c RX8 cX8_byPriorities 5 none) (hX0 : jp_hM Z) {x1 : Int32} {x2 : Int32} {e1 : Sum (Unit) Int32} {σ1 : jp_I} {τ1 : jp_J} (kx : ∀ v : Unit, e1 = .inl v → jp_at p l e (jp_R 5 120) s m args below meth c (MQ below (jp_Q Γ Z none σ0 τ0) args s 0 0 (jp_A Γ)) 5 Γ Z 37 [(0, .ref (Γ.2.2.1 20)), (1, .int x1), (2, .int x2)] [] σ1 τ1) (kr : ∀ v : Int32, e1 = .inr v → r0 = v ∧ σ0 = σ1 ∧ τ0 = τ1) : ∀ (k : Nat) (v : Int32) (σ : jp_I) (τ : jp_J), jp_loop (fun q : (Int32) × jp_I × jp_J => sX8_byPriorities_19 x1 x2 q.1 q.2.1 q.2.2) k (v, σ, τ) = some (e1, σ1, τ1) → jp_at p l e (jp_R 5 120) s m args below meth c (MQ below (jp_Q Γ Z none σ0 τ0) args s 0 0 (jp_A Γ)) 5 Γ Z 19 [(0, .ref (Γ.2.2.1 20)), (1, .int x1), (2, .int x2), (3, .int v)] [] σ τ := by
  refine jp_loopI (P := fun (v : Int32) (σ : jp_I) (τ : jp_J) => jp_at p l e (jp_R 5 120) s m args below meth c (MQ below (jp_Q Γ Z none σ0 τ0) args s 0 0 (jp_A Γ)) 5 Γ Z 19 [(0, .ref (Γ.2.2.1 20)), (1, .int x1), (2, .int x2), (3, .int v)] [] σ τ) (fun v σ τ q hq hbk hen => ?_)
  exact wsX8_byPriorities_19 B hX0 hq (fun v' hv => hbk v' hv) (fun x hv => by obtain ⟨h1, h2, h3⟩ := hen _ hv; rw [h2, h3]; exact kx x h1.symm) (fun r hv => by obtain ⟨h1, h2, h3⟩ := hen _ hv; rw [h2, h3]; exact kr r h1.symm)
def bX8_byPriorities_179_in12 (x1 : Int32) (x2 : Int32) (σ : jp_I) (τ : jp_J) : Option (Sum (Int32) (Sum (Unit) Int32) × jp_I × jp_J) :=
  some (.inl (x2 + 1), σ, τ)
set_option maxHeartbeats 4000000 in
set_option maxRecDepth 20000 in
theorem wbX8_byPriorities_179_in12 (B : jp_B Γ p s m args meth c RX8 cX8_byPriorities 5 none) (hX0 : jp_hM Z) {x1 : Int32} {x2 : Int32} {σ : jp_I} {τ : jp_J} {q : Sum (Int32) (Sum (Unit) Int32) × jp_I × jp_J} (hf : bX8_byPriorities_179_in12 x1 x2 σ τ = some q) (kb : ∀ v : Int32, q.1 = .inl v → jp_at p l e (jp_R 5 120) s m args below meth c (MQ below (jp_Q Γ Z none σ0 τ0) args s 0 0 (jp_A Γ)) 5 Γ Z 12 [(0, .ref (Γ.2.2.1 20)), (1, .int x1), (2, .int v)] [] q.2.1 q.2.2) (kx : ∀ v : Unit, q.1 = .inr (.inl v) → jp_at p l e (jp_R 5 120) s m args below meth c (MQ below (jp_Q Γ Z none σ0 τ0) args s 0 0 (jp_A Γ)) 5 Γ Z 185 [(0, .ref (Γ.2.2.1 20))] [] q.2.1 q.2.2) (kr : ∀ v : Int32, q.1 = .inr (.inr v) → r0 = v ∧ σ0 = q.2.1 ∧ τ0 = q.2.2) : jp_at p l e (jp_R 5 120) s m args below meth c (MQ below (jp_Q Γ Z none σ0 τ0) args s 0 0 (jp_A Γ)) 5 Γ Z 179 [(0, .ref (Γ.2.2.1 20)), (1, .int x1), (2, .int x2)] [] σ τ := by
  obtain ⟨hx, hb, hml, hown, hts, hr, hlk, hE⟩ := id B
  unfold bX8_byPriorities_179_in12 at hf
  intro H locs ls hP hS hl
  refine lv_iinc (v := x2 + 1) (lv' := [(2, .int (x2 + 1)), (0, .ref (Γ.2.2.1 20)), (1, .int x1)]) hx hb dX8_byPriorities_179 hl (k := 2) rfl rfl (by decide) rfl (fun ls hl => ?_)
  refine lv_goto (tgt := 12) hx hb dX8_byPriorities_182 (by decide) ?_
  obtain rfl := Option.some.inj hf
  exact kb _ rfl H locs ls hP hS (lv_sub hl [1, 2, 0] rfl)
def sX8_byPriorities_82 (x1 : Int32) (x2 : Int32) (x4 : Int32) (σ : jp_I) (τ : jp_J) : Option (Sum (Int32) (Sum (Unit) Int32) × jp_I × jp_J) :=
  if 160 ≤ x4 then (some (.inr (.inl ()), σ, τ)) else (if jp_ok (((x4 / 40) * 160) + (x4 - x4 / 40 * 40)) 640 = true then if jp_ok (((x4 / 40) * 400) + (x4 - x4 / 40 * 40)) 1600 = true then some (.inl (x4 + 1), jp_up σ 24 (((x4 / 40) * 400) + (x4 - x4 / 40 * 40)).toNatClampNeg (σ 25 (((x4 / 40) * 160) + (x4 - x4 / 40 * 40)).toNatClampNeg), τ) else none else none)
set_option maxHeartbeats 4000000 in
set_option maxRecDepth 20000 in
theorem wsX8_byPriorities_82 (B : jp_B Γ p s m args meth c RX8 cX8_byPriorities 5 none) (hX0 : jp_hM Z) {x1 : Int32} {x2 : Int32} {x4 : Int32} {σ : jp_I} {τ : jp_J} {q : Sum (Int32) (Sum (Unit) Int32) × jp_I × jp_J} (hf : sX8_byPriorities_82 x1 x2 x4 σ τ = some q) (kb : ∀ v : Int32, q.1 = .inl v → jp_at p l e (jp_R 5 120) s m args below meth c (MQ below (jp_Q Γ Z none σ0 τ0) args s 0 0 (jp_A Γ)) 5 Γ Z 82 [(0, .ref (Γ.2.2.1 20)), (1, .int x1), (2, .int x2), (4, .int v)] [] q.2.1 q.2.2) (kx : ∀ v : Unit, q.1 = .inr (.inl v) → jp_at p l e (jp_R 5 120) s m args below meth c (MQ below (jp_Q Γ Z none σ0 τ0) args s 0 0 (jp_A Γ)) 5 Γ Z 136 [(0, .ref (Γ.2.2.1 20)), (1, .int x1), (2, .int x2)] [] q.2.1 q.2.2) (kr : ∀ v : Int32, q.1 = .inr (.inr v) → r0 = v ∧ σ0 = q.2.1 ∧ τ0 = q.2.2) : jp_at p l e (jp_R 5 120) s m args below meth c (MQ below (jp_Q Γ Z none σ0 τ0) args s 0 0 (jp_A Γ)) 5 Γ Z 82 [(0, .ref (Γ.2.2.1 20)), (1, .int x1), (2, .int x2), (4, .int x4)] [] σ τ := by
  obtain ⟨hx, hb, hml, hown, hts, hr, hlk, hE⟩ := id B
  unfold sX8_byPriorities_82 at hf
  intro H locs ls hP hS hl
  refine lv_iload hx hb dX8_byPriorities_82 (lv_at hl 3 rfl) ?_
  refine lv_sipush (v := 160) hx hb dX8_byPriorities_84 (by decide) ?_
  refine lv_icmp_ge (tgt := 136) hx hb dX8_byPriorities_87 (by decide) (fun c_1 => ?_) (fun c_1 => ?_)
  · rw [if_pos c_1] at hf
    obtain rfl := Option.some.inj hf
    exact kx _ rfl H locs ls hP hS (lv_sub hl [0, 1, 2] rfl)
  · rw [if_neg c_1] at hf
    refine lv_aload_n hx hb dX8_byPriorities_90 rfl (lv_at hl 0 rfl) ?_
    refine jp_getr (k := 13) B hP hX0.1 rfl rfl (by decide) jp_fX8 rfl mw_147 dX8_byPriorities_91 ?_
    refine lv_iload hx hb dX8_byPriorities_94 (lv_at hl 3 rfl) ?_
    refine lv_bipush (v := 40) hx hb dX8_byPriorities_96 (by decide) ?_
    refine lv_idiv hx hb dX8_byPriorities_98 (by decide) ?_
    refine lv_sipush (v := 400) hx hb dX8_byPriorities_99 (by decide) ?_
    refine lv_imul hx hb dX8_byPriorities_102 ?_
    refine lv_iload hx hb dX8_byPriorities_103 (lv_at hl 3 rfl) ?_
    refine lv_bipush (v := 40) hx hb dX8_byPriorities_105 (by decide) ?_
    refine lv_irem hx hb dX8_byPriorities_107 (by decide) ?_
    refine lv_iadd hx hb dX8_byPriorities_108 ?_
    refine lv_aload_n hx hb dX8_byPriorities_109 rfl (lv_at hl 0 rfl) ?_
    refine jp_getr (k := 14) B hP hX0.1 rfl rfl (by decide) jp_fX8 rfl mw_148 dX8_byPriorities_110 ?_
    refine lv_iload hx hb dX8_byPriorities_113 (lv_at hl 3 rfl) ?_
    refine lv_bipush (v := 40) hx hb dX8_byPriorities_115 (by decide) ?_
    refine lv_idiv hx hb dX8_byPriorities_117 (by decide) ?_
    refine lv_sipush (v := 160) hx hb dX8_byPriorities_118 (by decide) ?_
    refine lv_imul hx hb dX8_byPriorities_121 ?_
    refine lv_iload hx hb dX8_byPriorities_122 (lv_at hl 3 rfl) ?_
    refine lv_bipush (v := 40) hx hb dX8_byPriorities_124 (by decide) ?_
    refine lv_irem hx hb dX8_byPriorities_126 (by decide) ?_
    refine lv_iadd hx hb dX8_byPriorities_127 ?_
    obtain ⟨g_2, hf⟩ := jp_if hf
    refine jp_iald B hP hX0.2.2.2.2.2.1 (jp_ok_vp g_2) dX8_byPriorities_128 ?_
    obtain ⟨g_3, hf⟩ := jp_if hf
    refine jp_iast B hP hS hX0.2.2.2.2.1 (jp_ok_vp g_3) dX8_byPriorities_129 (fun H locs hP hS => ?_)
    refine lv_iinc (v := x4 + 1) (lv' := [(4, .int (x4 + 1)), (0, .ref (Γ.2.2.1 20)), (1, .int x1), (2, .int x2)]) hx hb dX8_byPriorities_130 hl (k := 3) rfl rfl (by decide) rfl (fun ls hl => ?_)
    refine lv_goto (tgt := 82) hx hb dX8_byPriorities_133 (by decide) ?_
    obtain rfl := Option.some.inj hf
    exact kb _ rfl H locs ls hP hS (lv_sub hl [1, 2, 3, 0] rfl)
set_option maxHeartbeats 4000000 in
theorem lX8_byPriorities_82 (B : jp_B Γ p s m args meth c RX8 cX8_byPriorities 5 none) (hX0 : jp_hM Z) {x1 : Int32} {x2 : Int32} {e1 : Sum (Unit) Int32} {σ1 : jp_I} {τ1 : jp_J} (kx : ∀ v : Unit, e1 = .inl v → jp_at p l e (jp_R 5 120) s m args below meth c (MQ below (jp_Q Γ Z none σ0 τ0) args s 0 0 (jp_A Γ)) 5 Γ Z 136 [(0, .ref (Γ.2.2.1 20)), (1, .int x1), (2, .int x2)] [] σ1 τ1) (kr : ∀ v : Int32, e1 = .inr v → r0 = v ∧ σ0 = σ1 ∧ τ0 = τ1) : ∀ (k : Nat) (v : Int32) (σ : jp_I) (τ : jp_J), jp_loop (fun q : (Int32) × jp_I × jp_J => sX8_byPriorities_82 x1 x2 q.1 q.2.1 q.2.2) k (v, σ, τ) = some (e1, σ1, τ1) → jp_at p l e (jp_R 5 120) s m args below meth c (MQ below (jp_Q Γ Z none σ0 τ0) args s 0 0 (jp_A Γ)) 5 Γ Z 82 [(0, .ref (Γ.2.2.1 20)), (1, .int x1), (2, .int x2), (4, .int v)] [] σ τ := by
  refine jp_loopI (P := fun (v : Int32) (σ : jp_I) (τ : jp_J) => jp_at p l e (jp_R 5 120) s m args below meth c (MQ below (jp_Q Γ Z none σ0 τ0) args s 0 0 (jp_A Γ)) 5 Γ Z 82 [(0, .ref (Γ.2.2.1 20)), (1, .int x1), (2, .int x2), (4, .int v)] [] σ τ) (fun v σ τ q hq hbk hen => ?_)
  exact wsX8_byPriorities_82 B hX0 hq (fun v' hv => hbk v' hv) (fun x hv => by obtain ⟨h1, h2, h3⟩ := hen _ hv; rw [h2, h3]; exact kx x h1.symm) (fun r hv => by obtain ⟨h1, h2, h3⟩ := hen _ hv; rw [h2, h3]; exact kr r h1.symm)
def sX8_byPriorities_139 (x1 : Int32) (x2 : Int32) (x4 : Int32) (σ : jp_I) (τ : jp_J) : Option (Sum (Int32) (Sum (Unit) Int32) × jp_I × jp_J) :=
  if 4 ≤ x4 then (some (.inr (.inl ()), σ, τ)) else (if jp_ok ((160 * x4) + 40) 640 = true then if jp_ok ((400 * x4) + 40) 1600 = true then some (.inl (x4 + 1), jp_up σ 24 ((400 * x4) + 40).toNatClampNeg (σ 25 ((160 * x4) + 40).toNatClampNeg), τ) else none else none)
set_option maxHeartbeats 4000000 in
set_option maxRecDepth 20000 in
theorem wsX8_byPriorities_139 (B : jp_B Γ p s m args meth c RX8 cX8_byPriorities 5 none) (hX0 : jp_hM Z) {x1 : Int32} {x2 : Int32} {x4 : Int32} {σ : jp_I} {τ : jp_J} {q : Sum (Int32) (Sum (Unit) Int32) × jp_I × jp_J} (hf : sX8_byPriorities_139 x1 x2 x4 σ τ = some q) (kb : ∀ v : Int32, q.1 = .inl v → jp_at p l e (jp_R 5 120) s m args below meth c (MQ below (jp_Q Γ Z none σ0 τ0) args s 0 0 (jp_A Γ)) 5 Γ Z 139 [(0, .ref (Γ.2.2.1 20)), (1, .int x1), (2, .int x2), (4, .int v)] [] q.2.1 q.2.2) (kx : ∀ v : Unit, q.1 = .inr (.inl v) → jp_at p l e (jp_R 5 120) s m args below meth c (MQ below (jp_Q Γ Z none σ0 τ0) args s 0 0 (jp_A Γ)) 5 Γ Z 179 [(0, .ref (Γ.2.2.1 20)), (1, .int x1), (2, .int x2)] [] q.2.1 q.2.2) (kr : ∀ v : Int32, q.1 = .inr (.inr v) → r0 = v ∧ σ0 = q.2.1 ∧ τ0 = q.2.2) : jp_at p l e (jp_R 5 120) s m args below meth c (MQ below (jp_Q Γ Z none σ0 τ0) args s 0 0 (jp_A Γ)) 5 Γ Z 139 [(0, .ref (Γ.2.2.1 20)), (1, .int x1), (2, .int x2), (4, .int x4)] [] σ τ := by
  obtain ⟨hx, hb, hml, hown, hts, hr, hlk, hE⟩ := id B
  unfold sX8_byPriorities_139 at hf
  intro H locs ls hP hS hl
  refine lv_iload hx hb dX8_byPriorities_139 (lv_at hl 3 rfl) ?_
  refine lv_iconst (v := 4) hx hb dX8_byPriorities_141 (by decide) ?_
  refine lv_icmp_ge (tgt := 179) hx hb dX8_byPriorities_142 (by decide) (fun c_1 => ?_) (fun c_1 => ?_)
  · rw [if_pos c_1] at hf
    obtain rfl := Option.some.inj hf
    exact kx _ rfl H locs ls hP hS (lv_sub hl [0, 1, 2] rfl)
  · rw [if_neg c_1] at hf
    refine lv_aload_n hx hb dX8_byPriorities_145 rfl (lv_at hl 0 rfl) ?_
    refine jp_getr (k := 13) B hP hX0.1 rfl rfl (by decide) jp_fX8 rfl mw_147 dX8_byPriorities_146 ?_
    refine lv_sipush (v := 400) hx hb dX8_byPriorities_149 (by decide) ?_
    refine lv_iload hx hb dX8_byPriorities_152 (lv_at hl 3 rfl) ?_
    refine lv_imul hx hb dX8_byPriorities_154 ?_
    refine lv_bipush (v := 40) hx hb dX8_byPriorities_155 (by decide) ?_
    refine lv_iadd hx hb dX8_byPriorities_157 ?_
    refine lv_aload_n hx hb dX8_byPriorities_158 rfl (lv_at hl 0 rfl) ?_
    refine jp_getr (k := 14) B hP hX0.1 rfl rfl (by decide) jp_fX8 rfl mw_148 dX8_byPriorities_159 ?_
    refine lv_sipush (v := 160) hx hb dX8_byPriorities_162 (by decide) ?_
    refine lv_iload hx hb dX8_byPriorities_165 (lv_at hl 3 rfl) ?_
    refine lv_imul hx hb dX8_byPriorities_167 ?_
    refine lv_bipush (v := 40) hx hb dX8_byPriorities_168 (by decide) ?_
    refine lv_iadd hx hb dX8_byPriorities_170 ?_
    obtain ⟨g_2, hf⟩ := jp_if hf
    refine jp_iald B hP hX0.2.2.2.2.2.1 (jp_ok_vp g_2) dX8_byPriorities_171 ?_
    obtain ⟨g_3, hf⟩ := jp_if hf
    refine jp_iast B hP hS hX0.2.2.2.2.1 (jp_ok_vp g_3) dX8_byPriorities_172 (fun H locs hP hS => ?_)
    refine lv_iinc (v := x4 + 1) (lv' := [(4, .int (x4 + 1)), (0, .ref (Γ.2.2.1 20)), (1, .int x1), (2, .int x2)]) hx hb dX8_byPriorities_173 hl (k := 3) rfl rfl (by decide) rfl (fun ls hl => ?_)
    refine lv_goto (tgt := 139) hx hb dX8_byPriorities_176 (by decide) ?_
    obtain rfl := Option.some.inj hf
    exact kb _ rfl H locs ls hP hS (lv_sub hl [1, 2, 3, 0] rfl)
set_option maxHeartbeats 4000000 in
theorem lX8_byPriorities_139 (B : jp_B Γ p s m args meth c RX8 cX8_byPriorities 5 none) (hX0 : jp_hM Z) {x1 : Int32} {x2 : Int32} {e1 : Sum (Unit) Int32} {σ1 : jp_I} {τ1 : jp_J} (kx : ∀ v : Unit, e1 = .inl v → jp_at p l e (jp_R 5 120) s m args below meth c (MQ below (jp_Q Γ Z none σ0 τ0) args s 0 0 (jp_A Γ)) 5 Γ Z 179 [(0, .ref (Γ.2.2.1 20)), (1, .int x1), (2, .int x2)] [] σ1 τ1) (kr : ∀ v : Int32, e1 = .inr v → r0 = v ∧ σ0 = σ1 ∧ τ0 = τ1) : ∀ (k : Nat) (v : Int32) (σ : jp_I) (τ : jp_J), jp_loop (fun q : (Int32) × jp_I × jp_J => sX8_byPriorities_139 x1 x2 q.1 q.2.1 q.2.2) k (v, σ, τ) = some (e1, σ1, τ1) → jp_at p l e (jp_R 5 120) s m args below meth c (MQ below (jp_Q Γ Z none σ0 τ0) args s 0 0 (jp_A Γ)) 5 Γ Z 139 [(0, .ref (Γ.2.2.1 20)), (1, .int x1), (2, .int x2), (4, .int v)] [] σ τ := by
  refine jp_loopI (P := fun (v : Int32) (σ : jp_I) (τ : jp_J) => jp_at p l e (jp_R 5 120) s m args below meth c (MQ below (jp_Q Γ Z none σ0 τ0) args s 0 0 (jp_A Γ)) 5 Γ Z 139 [(0, .ref (Γ.2.2.1 20)), (1, .int x1), (2, .int x2), (4, .int v)] [] σ τ) (fun v σ τ q hq hbk hen => ?_)
  exact wsX8_byPriorities_139 B hX0 hq (fun v' hv => hbk v' hv) (fun x hv => by obtain ⟨h1, h2, h3⟩ := hen _ hv; rw [h2, h3]; exact kx x h1.symm) (fun r hv => by obtain ⟨h1, h2, h3⟩ := hen _ hv; rw [h2, h3]; exact kr r h1.symm)
def bX8_byPriorities_69_in12 (x1 : Int32) (x2 : Int32) (x3 : Int32) (σ : jp_I) (τ : jp_J) : Option (Sum (Int32) (Sum (Unit) Int32) × jp_I × jp_J) :=
  (jp_loop (fun q : (Int32) × jp_I × jp_J => sX8_byPriorities_82 x1 x2 q.1 q.2.1 q.2.2) jp_F (0, jp_up (jp_up σ 20 9 1) 20 11 x3, τ)).bind fun (e_1, σ_1, τ_1) => match e_1 with
    | .inl _ => ((jp_loop (fun q : (Int32) × jp_I × jp_J => sX8_byPriorities_139 x1 x2 q.1 q.2.1 q.2.2) jp_F (0, σ_1, τ_1)).bind fun (e_2, σ_2, τ_2) => match e_2 with
    | .inl _ => (bX8_byPriorities_179_in12 x1 x2 σ_2 τ_2)
    | .inr r_2 => some (.inr (.inr r_2), σ_2, τ_2))
    | .inr r_1 => some (.inr (.inr r_1), σ_1, τ_1)
set_option maxHeartbeats 4000000 in
set_option maxRecDepth 20000 in
theorem wbX8_byPriorities_69_in12 (B : jp_B Γ p s m args meth c RX8 cX8_byPriorities 5 none) (hX0 : jp_hM Z) {x1 : Int32} {x2 : Int32} {x3 : Int32} {σ : jp_I} {τ : jp_J} {q : Sum (Int32) (Sum (Unit) Int32) × jp_I × jp_J} (hf : bX8_byPriorities_69_in12 x1 x2 x3 σ τ = some q) (kb : ∀ v : Int32, q.1 = .inl v → jp_at p l e (jp_R 5 120) s m args below meth c (MQ below (jp_Q Γ Z none σ0 τ0) args s 0 0 (jp_A Γ)) 5 Γ Z 12 [(0, .ref (Γ.2.2.1 20)), (1, .int x1), (2, .int v)] [] q.2.1 q.2.2) (kx : ∀ v : Unit, q.1 = .inr (.inl v) → jp_at p l e (jp_R 5 120) s m args below meth c (MQ below (jp_Q Γ Z none σ0 τ0) args s 0 0 (jp_A Γ)) 5 Γ Z 185 [(0, .ref (Γ.2.2.1 20))] [] q.2.1 q.2.2) (kr : ∀ v : Int32, q.1 = .inr (.inr v) → r0 = v ∧ σ0 = q.2.1 ∧ τ0 = q.2.2) : jp_at p l e (jp_R 5 120) s m args below meth c (MQ below (jp_Q Γ Z none σ0 τ0) args s 0 0 (jp_A Γ)) 5 Γ Z 69 [(0, .ref (Γ.2.2.1 20)), (1, .int x1), (2, .int x2), (3, .int x3)] [] σ τ := by
  obtain ⟨hx, hb, hml, hown, hts, hr, hlk, hE⟩ := id B
  unfold bX8_byPriorities_69_in12 at hf
  intro H locs ls hP hS hl
  refine lv_aload_n hx hb dX8_byPriorities_69 rfl (lv_at hl 0 rfl) ?_
  refine lv_iconst (v := 1) hx hb dX8_byPriorities_70 (by decide) ?_
  refine jp_puti (k := 9) (ty := .boolean) B hP hS hX0.1 rfl rfl (by decide) jp_fX8 tyX8 tyX8_ok nmX8 rfl mw_143 rfl (by decide +kernel) (jp_isb_n (by decide)) (jp_isb_f (by decide)) dX8_byPriorities_71 (fun H locs hP hS => ?_)
  refine lv_aload_n hx hb dX8_byPriorities_74 rfl (lv_at hl 0 rfl) ?_
  refine lv_iload_n hx hb dX8_byPriorities_75 rfl (lv_at hl 3 rfl) ?_
  refine jp_puti (k := 11) (ty := .int) B hP hS hX0.1 rfl rfl (by decide) jp_fX8 tyX8 tyX8_ok nmX8 rfl mw_145 rfl (by decide +kernel) rfl rfl dX8_byPriorities_76 (fun H locs hP hS => ?_)
  refine lv_iconst (v := 0) hx hb dX8_byPriorities_79 (by decide) ?_
  refine lv_istore (lv' := [(4, .int 0), (0, .ref (Γ.2.2.1 20)), (1, .int x1), (2, .int x2), (3, .int x3)]) hx hb dX8_byPriorities_80 hl (by decide) rfl (fun ls hl => ?_)
  obtain ⟨⟨e_1, σ_1, τ_1⟩, h_1, hf⟩ := jp_bind hf
  refine lX8_byPriorities_82 (r0 := r0) B hX0 (x1 := x1) (x2 := x2) (fun v_1 k_1 => ?_) (fun r_1 k_1 => ?_) _ _ _ _ h_1 H locs ls hP hS (lv_sub hl [1, 2, 3, 0] rfl)
  · subst k_1
    dsimp only at hf
    intro H locs ls hP hS hl
    refine lv_iconst (v := 0) hx hb dX8_byPriorities_136 (by decide) ?_
    refine lv_istore (lv' := [(4, .int 0), (0, .ref (Γ.2.2.1 20)), (1, .int x1), (2, .int x2)]) hx hb dX8_byPriorities_137 hl (by decide) rfl (fun ls hl => ?_)
    obtain ⟨⟨e_2, σ_2, τ_2⟩, h_2, hf⟩ := jp_bind hf
    refine lX8_byPriorities_139 (r0 := r0) B hX0 (x1 := x1) (x2 := x2) (fun v_2 k_2 => ?_) (fun r_2 k_2 => ?_) _ _ _ _ h_2 H locs ls hP hS (lv_sub hl [1, 2, 3, 0] rfl)
    · subst k_2
      dsimp only at hf
      intro H locs ls hP hS hl
      exact wbX8_byPriorities_179_in12 B hX0 hf kb kx kr H locs ls hP hS (lv_sub hl [0, 1, 2] rfl)
    · subst k_2
      dsimp only at hf
      obtain rfl := Option.some.inj hf
      exact kr _ rfl
  · subst k_1
    dsimp only at hf
    obtain rfl := Option.some.inj hf
    exact kr _ rfl
def bX8_byPriorities_45_in12 (x1 : Int32) (x2 : Int32) (σ : jp_I) (τ : jp_J) : Option (Sum (Int32) (Sum (Unit) Int32) × jp_I × jp_J) :=
  (fX8_ways σ τ).bind fun (a_1, σ_1, τ_1) => if a_1 < 0 then (bX8_byPriorities_179_in12 x1 x2 σ_1 τ_1) else (if (σ_1 20 9) = 0 then (bX8_byPriorities_69_in12 x1 x2 a_1 σ_1 τ_1) else (if (σ_1 20 11) ≤ a_1 then (bX8_byPriorities_179_in12 x1 x2 σ_1 τ_1) else (bX8_byPriorities_69_in12 x1 x2 a_1 σ_1 τ_1)))
set_option maxHeartbeats 4000000 in
set_option maxRecDepth 20000 in
theorem wbX8_byPriorities_45_in12 (B : jp_B Γ p s m args meth c RX8 cX8_byPriorities 5 none) (hX0 : jp_hM Z) {x1 : Int32} {x2 : Int32} {σ : jp_I} {τ : jp_J} {q : Sum (Int32) (Sum (Unit) Int32) × jp_I × jp_J} (hf : bX8_byPriorities_45_in12 x1 x2 σ τ = some q) (kb : ∀ v : Int32, q.1 = .inl v → jp_at p l e (jp_R 5 120) s m args below meth c (MQ below (jp_Q Γ Z none σ0 τ0) args s 0 0 (jp_A Γ)) 5 Γ Z 12 [(0, .ref (Γ.2.2.1 20)), (1, .int x1), (2, .int v)] [] q.2.1 q.2.2) (kx : ∀ v : Unit, q.1 = .inr (.inl v) → jp_at p l e (jp_R 5 120) s m args below meth c (MQ below (jp_Q Γ Z none σ0 τ0) args s 0 0 (jp_A Γ)) 5 Γ Z 185 [(0, .ref (Γ.2.2.1 20))] [] q.2.1 q.2.2) (kr : ∀ v : Int32, q.1 = .inr (.inr v) → r0 = v ∧ σ0 = q.2.1 ∧ τ0 = q.2.2) : jp_at p l e (jp_R 5 120) s m args below meth c (MQ below (jp_Q Γ Z none σ0 τ0) args s 0 0 (jp_A Γ)) 5 Γ Z 45 [(0, .ref (Γ.2.2.1 20)), (1, .int x1), (2, .int x2)] [] σ τ := by
  obtain ⟨hx, hb, hml, hown, hts, hr, hlk, hE⟩ := id B
  unfold bX8_byPriorities_45_in12 at hf
  intro H locs ls hP hS hl
  refine lv_aload_n hx hb dX8_byPriorities_45 rfl (lv_at hl 0 rfl) ?_
  obtain ⟨⟨a_1, σ_1, τ_1⟩, h_1, hf⟩ := jp_bind hf
  dsimp only at hf
  refine jp_callV (rest := []) B hP hS hl (ctX8_ways ⟨hX0.1, hX0.2.1, hX0.2.2.1, hX0.2.2.2.1, hX0.2.2.2.2.1, hX0.2.2.2.2.2.1, hX0.2.2.2.2.2.2.1, hX0.2.2.2.2.2.2.2⟩ h_1) hX0.1 rfl mw_457 mw_454 mw_455 mw_456 mw_5 ddX8_ways ⟨Nat.le_of_ble_eq_true rfl, Nat.le_of_ble_eq_true rfl⟩ ⟨Nat.zero_le _, Nat.zero_le _⟩ rfl (Nat.le_of_ble_eq_true rfl) dX8_byPriorities_46 (fun H locs hP hS => ?_)
  refine lv_istore_n (lv' := [(3, .int a_1), (0, .ref (Γ.2.2.1 20)), (1, .int x1), (2, .int x2)]) hx hb dX8_byPriorities_49 rfl hl (by decide) rfl (fun ls hl => ?_)
  refine lv_iload_n hx hb dX8_byPriorities_50 rfl (lv_at hl 0 rfl) ?_
  refine lv_if_lt (tgt := 179) hx hb dX8_byPriorities_51 (by decide) (fun c_2 => ?_) (fun c_2 => ?_)
  · rw [if_pos c_2] at hf
    exact wbX8_byPriorities_179_in12 B hX0 hf kb kx kr H locs ls hP hS (lv_sub hl [1, 2, 3] rfl)
  · rw [if_neg c_2] at hf
    refine lv_aload_n hx hb dX8_byPriorities_54 rfl (lv_at hl 1 rfl) ?_
    refine jp_geti (k := 9) B hP hX0.1 rfl rfl (by decide) jp_fX8 rfl mw_143 dX8_byPriorities_55 ?_
    refine lv_if_eq (tgt := 69) hx hb dX8_byPriorities_58 (by decide) (fun c_3 => ?_) (fun c_3 => ?_)
    · rw [if_pos c_3] at hf
      exact wbX8_byPriorities_69_in12 B hX0 hf kb kx kr H locs ls hP hS (lv_sub hl [1, 2, 3, 0] rfl)
    · rw [if_neg c_3] at hf
      refine lv_iload_n hx hb dX8_byPriorities_61 rfl (lv_at hl 0 rfl) ?_
      refine lv_aload_n hx hb dX8_byPriorities_62 rfl (lv_at hl 1 rfl) ?_
      refine jp_geti (k := 11) B hP hX0.1 rfl rfl (by decide) jp_fX8 rfl mw_145 dX8_byPriorities_63 ?_
      refine lv_icmp_ge (tgt := 179) hx hb dX8_byPriorities_66 (by decide) (fun c_4 => ?_) (fun c_4 => ?_)
      · rw [if_pos c_4] at hf
        exact wbX8_byPriorities_179_in12 B hX0 hf kb kx kr H locs ls hP hS (lv_sub hl [1, 2, 3] rfl)
      · rw [if_neg c_4] at hf
        exact wbX8_byPriorities_69_in12 B hX0 hf kb kx kr H locs ls hP hS (lv_sub hl [1, 2, 3, 0] rfl)
def sX8_byPriorities_12 (x1 : Int32) (x2 : Int32) (σ : jp_I) (τ : jp_J) : Option (Sum (Int32) (Sum (Unit) Int32) × jp_I × jp_J) :=
  if x1 < x2 then (some (.inr (.inl ()), σ, τ)) else ((jp_loop (fun q : (Int32) × jp_I × jp_J => sX8_byPriorities_19 x1 x2 q.1 q.2.1 q.2.2) jp_F (0, σ, τ)).bind fun (e_2, σ_2, τ_2) => match e_2 with
    | .inl _ => (if x2 ≤ 0 then (bX8_byPriorities_45_in12 x1 x2 σ_2 τ_2) else ((fX8_draw σ_2 τ_2).bind fun (a_4, σ_4, τ_4) => bX8_byPriorities_45_in12 x1 x2 σ_4 τ_4))
    | .inr r_2 => some (.inr (.inr r_2), σ_2, τ_2))
set_option maxHeartbeats 4000000 in
set_option maxRecDepth 20000 in
theorem wsX8_byPriorities_12 (B : jp_B Γ p s m args meth c RX8 cX8_byPriorities 5 none) (hX0 : jp_hM Z) {x1 : Int32} {x2 : Int32} {σ : jp_I} {τ : jp_J} {q : Sum (Int32) (Sum (Unit) Int32) × jp_I × jp_J} (hf : sX8_byPriorities_12 x1 x2 σ τ = some q) (kb : ∀ v : Int32, q.1 = .inl v → jp_at p l e (jp_R 5 120) s m args below meth c (MQ below (jp_Q Γ Z none σ0 τ0) args s 0 0 (jp_A Γ)) 5 Γ Z 12 [(0, .ref (Γ.2.2.1 20)), (1, .int x1), (2, .int v)] [] q.2.1 q.2.2) (kx : ∀ v : Unit, q.1 = .inr (.inl v) → jp_at p l e (jp_R 5 120) s m args below meth c (MQ below (jp_Q Γ Z none σ0 τ0) args s 0 0 (jp_A Γ)) 5 Γ Z 185 [(0, .ref (Γ.2.2.1 20))] [] q.2.1 q.2.2) (kr : ∀ v : Int32, q.1 = .inr (.inr v) → r0 = v ∧ σ0 = q.2.1 ∧ τ0 = q.2.2) : jp_at p l e (jp_R 5 120) s m args below meth c (MQ below (jp_Q Γ Z none σ0 τ0) args s 0 0 (jp_A Γ)) 5 Γ Z 12 [(0, .ref (Γ.2.2.1 20)), (1, .int x1), (2, .int x2)] [] σ τ := by
  obtain ⟨hx, hb, hml, hown, hts, hr, hlk, hE⟩ := id B
  unfold sX8_byPriorities_12 at hf
  intro H locs ls hP hS hl
  refine lv_iload_n hx hb dX8_byPriorities_12 rfl (lv_at hl 2 rfl) ?_
  refine lv_iload_n hx hb dX8_byPriorities_13 rfl (lv_at hl 1 rfl) ?_
  refine lv_icmp_gt (tgt := 185) hx hb dX8_byPriorities_14 (by decide) (fun c_1 => ?_) (fun c_1 => ?_)
  · rw [if_pos c_1] at hf
    obtain rfl := Option.some.inj hf
    exact kx _ rfl H locs ls hP hS (lv_sub hl [0] rfl)
  · rw [if_neg c_1] at hf
    refine lv_iconst (v := 0) hx hb dX8_byPriorities_17 (by decide) ?_
    refine lv_istore_n (lv' := [(3, .int 0), (0, .ref (Γ.2.2.1 20)), (1, .int x1), (2, .int x2)]) hx hb dX8_byPriorities_18 rfl hl (by decide) rfl (fun ls hl => ?_)
    obtain ⟨⟨e_2, σ_2, τ_2⟩, h_2, hf⟩ := jp_bind hf
    refine lX8_byPriorities_19 (r0 := r0) B hX0 (x1 := x1) (x2 := x2) (fun v_2 k_2 => ?_) (fun r_2 k_2 => ?_) _ _ _ _ h_2 H locs ls hP hS (lv_sub hl [1, 2, 3, 0] rfl)
    · subst k_2
      dsimp only at hf
      intro H locs ls hP hS hl
      refine lv_iload_n hx hb dX8_byPriorities_37 rfl (lv_at hl 2 rfl) ?_
      refine lv_if_le (tgt := 45) hx hb dX8_byPriorities_38 (by decide) (fun c_3 => ?_) (fun c_3 => ?_)
      · rw [if_pos c_3] at hf
        exact wbX8_byPriorities_45_in12 B hX0 hf kb kx kr H locs ls hP hS (lv_sub hl [0, 1, 2] rfl)
      · rw [if_neg c_3] at hf
        refine lv_aload_n hx hb dX8_byPriorities_41 rfl (lv_at hl 0 rfl) ?_
        obtain ⟨⟨a_4, σ_4, τ_4⟩, h_4, hf⟩ := jp_bind hf
        dsimp only at hf
        refine jp_callV (rest := []) B hP hS hl (ctX8_draw ⟨hX0.1, hX0.2.1, hX0.2.2.1, hX0.2.2.2.1, hX0.2.2.2.2.1, hX0.2.2.2.2.2.1, hX0.2.2.2.2.2.2.1, hX0.2.2.2.2.2.2.2⟩ h_4) hX0.1 rfl mw_449 mw_446 mw_447 mw_448 mw_5 ddX8_draw ⟨Nat.le_of_ble_eq_true rfl, Nat.le_of_ble_eq_true rfl⟩ ⟨Nat.zero_le _, Nat.zero_le _⟩ rfl (Nat.le_of_ble_eq_true rfl) dX8_byPriorities_42 (fun H locs hP hS => ?_)
        exact wbX8_byPriorities_45_in12 B hX0 hf kb kx kr H locs ls hP hS (lv_sub hl [0, 1, 2] rfl)
    · subst k_2
      dsimp only at hf
      obtain rfl := Option.some.inj hf
      exact kr _ rfl
set_option maxHeartbeats 4000000 in
theorem lX8_byPriorities_12 (B : jp_B Γ p s m args meth c RX8 cX8_byPriorities 5 none) (hX0 : jp_hM Z) {x1 : Int32} {e1 : Sum (Unit) Int32} {σ1 : jp_I} {τ1 : jp_J} (kx : ∀ v : Unit, e1 = .inl v → jp_at p l e (jp_R 5 120) s m args below meth c (MQ below (jp_Q Γ Z none σ0 τ0) args s 0 0 (jp_A Γ)) 5 Γ Z 185 [(0, .ref (Γ.2.2.1 20))] [] σ1 τ1) (kr : ∀ v : Int32, e1 = .inr v → r0 = v ∧ σ0 = σ1 ∧ τ0 = τ1) : ∀ (k : Nat) (v : Int32) (σ : jp_I) (τ : jp_J), jp_loop (fun q : (Int32) × jp_I × jp_J => sX8_byPriorities_12 x1 q.1 q.2.1 q.2.2) k (v, σ, τ) = some (e1, σ1, τ1) → jp_at p l e (jp_R 5 120) s m args below meth c (MQ below (jp_Q Γ Z none σ0 τ0) args s 0 0 (jp_A Γ)) 5 Γ Z 12 [(0, .ref (Γ.2.2.1 20)), (1, .int x1), (2, .int v)] [] σ τ := by
  refine jp_loopI (P := fun (v : Int32) (σ : jp_I) (τ : jp_J) => jp_at p l e (jp_R 5 120) s m args below meth c (MQ below (jp_Q Γ Z none σ0 τ0) args s 0 0 (jp_A Γ)) 5 Γ Z 12 [(0, .ref (Γ.2.2.1 20)), (1, .int x1), (2, .int v)] [] σ τ) (fun v σ τ q hq hbk hen => ?_)
  exact wsX8_byPriorities_12 B hX0 hq (fun v' hv => hbk v' hv) (fun x hv => by obtain ⟨h1, h2, h3⟩ := hen _ hv; rw [h2, h3]; exact kx x h1.symm) (fun r hv => by obtain ⟨h1, h2, h3⟩ := hen _ hv; rw [h2, h3]; exact kr r h1.symm)
def bX8_byPriorities_252_in209 (x2 : Int32) (x3 : Int32) (σ : jp_I) (τ : jp_J) : Option (Sum (Int32 × Int32) (Sum (Int32) Int32) × jp_I × jp_J) :=
  some (.inl (x2, x3 + 1), σ, τ)
set_option maxHeartbeats 4000000 in
set_option maxRecDepth 20000 in
theorem wbX8_byPriorities_252_in209 (B : jp_B Γ p s m args meth c RX8 cX8_byPriorities 5 none) (hX0 : jp_hM Z) {x2 : Int32} {x3 : Int32} {σ : jp_I} {τ : jp_J} {q : Sum (Int32 × Int32) (Sum (Int32) Int32) × jp_I × jp_J} (hf : bX8_byPriorities_252_in209 x2 x3 σ τ = some q) (kb : ∀ v : Int32 × Int32, q.1 = .inl v → jp_at p l e (jp_R 5 120) s m args below meth c (MQ below (jp_Q Γ Z none σ0 τ0) args s 0 0 (jp_A Γ)) 5 Γ Z 209 [(0, .ref (Γ.2.2.1 20)), (2, .int v.1), (3, .int v.2)] [] q.2.1 q.2.2) (kx : ∀ v : Int32, q.1 = .inr (.inl v) → jp_at p l e (jp_R 5 120) s m args below meth c (MQ below (jp_Q Γ Z none σ0 τ0) args s 0 0 (jp_A Γ)) 5 Γ Z 258 [(0, .ref (Γ.2.2.1 20)), (2, .int v)] [] q.2.1 q.2.2) (kr : ∀ v : Int32, q.1 = .inr (.inr v) → r0 = v ∧ σ0 = q.2.1 ∧ τ0 = q.2.2) : jp_at p l e (jp_R 5 120) s m args below meth c (MQ below (jp_Q Γ Z none σ0 τ0) args s 0 0 (jp_A Γ)) 5 Γ Z 252 [(0, .ref (Γ.2.2.1 20)), (2, .int x2), (3, .int x3)] [] σ τ := by
  obtain ⟨hx, hb, hml, hown, hts, hr, hlk, hE⟩ := id B
  unfold bX8_byPriorities_252_in209 at hf
  intro H locs ls hP hS hl
  refine lv_iinc (v := x3 + 1) (lv' := [(3, .int (x3 + 1)), (0, .ref (Γ.2.2.1 20)), (2, .int x2)]) hx hb dX8_byPriorities_252 hl (k := 2) rfl rfl (by decide) rfl (fun ls hl => ?_)
  refine lv_goto (tgt := 209) hx hb dX8_byPriorities_255 (by decide) ?_
  obtain rfl := Option.some.inj hf
  exact kb _ rfl H locs ls hP hS (lv_sub hl [1, 2, 0] rfl)
def sX8_byPriorities_209 (x2 : Int32) (x3 : Int32) (σ : jp_I) (τ : jp_J) : Option (Sum (Int32 × Int32) (Sum (Int32) Int32) × jp_I × jp_J) :=
  if (σ 20 1) ≤ x3 then (some (.inr (.inl x2), σ, τ)) else (if jp_ok (((400 * x3) + (σ 20 12)) - 1) 1600 = true then if jp_ok ((400 * x3) + 40) 1600 = true then if (σ 24 (((400 * x3) + (σ 20 12)) - 1).toNatClampNeg) = (σ 24 ((400 * x3) + 40).toNatClampNeg) then (bX8_byPriorities_252_in209 x2 x3 σ τ) else (bX8_byPriorities_252_in209 0 x3 σ τ) else none else none)
set_option maxHeartbeats 4000000 in
set_option maxRecDepth 20000 in
theorem wsX8_byPriorities_209 (B : jp_B Γ p s m args meth c RX8 cX8_byPriorities 5 none) (hX0 : jp_hM Z) {x2 : Int32} {x3 : Int32} {σ : jp_I} {τ : jp_J} {q : Sum (Int32 × Int32) (Sum (Int32) Int32) × jp_I × jp_J} (hf : sX8_byPriorities_209 x2 x3 σ τ = some q) (kb : ∀ v : Int32 × Int32, q.1 = .inl v → jp_at p l e (jp_R 5 120) s m args below meth c (MQ below (jp_Q Γ Z none σ0 τ0) args s 0 0 (jp_A Γ)) 5 Γ Z 209 [(0, .ref (Γ.2.2.1 20)), (2, .int v.1), (3, .int v.2)] [] q.2.1 q.2.2) (kx : ∀ v : Int32, q.1 = .inr (.inl v) → jp_at p l e (jp_R 5 120) s m args below meth c (MQ below (jp_Q Γ Z none σ0 τ0) args s 0 0 (jp_A Γ)) 5 Γ Z 258 [(0, .ref (Γ.2.2.1 20)), (2, .int v)] [] q.2.1 q.2.2) (kr : ∀ v : Int32, q.1 = .inr (.inr v) → r0 = v ∧ σ0 = q.2.1 ∧ τ0 = q.2.2) : jp_at p l e (jp_R 5 120) s m args below meth c (MQ below (jp_Q Γ Z none σ0 τ0) args s 0 0 (jp_A Γ)) 5 Γ Z 209 [(0, .ref (Γ.2.2.1 20)), (2, .int x2), (3, .int x3)] [] σ τ := by
  obtain ⟨hx, hb, hml, hown, hts, hr, hlk, hE⟩ := id B
  unfold sX8_byPriorities_209 at hf
  intro H locs ls hP hS hl
  refine lv_iload_n hx hb dX8_byPriorities_209 rfl (lv_at hl 2 rfl) ?_
  refine lv_aload_n hx hb dX8_byPriorities_210 rfl (lv_at hl 0 rfl) ?_
  refine jp_geti (k := 1) B hP hX0.1 rfl rfl (by decide) jp_fX8 rfl mw_151 dX8_byPriorities_211 ?_
  refine lv_icmp_ge (tgt := 258) hx hb dX8_byPriorities_214 (by decide) (fun c_1 => ?_) (fun c_1 => ?_)
  · rw [if_pos c_1] at hf
    obtain rfl := Option.some.inj hf
    exact kx _ rfl H locs ls hP hS (lv_sub hl [0, 1] rfl)
  · rw [if_neg c_1] at hf
    refine lv_aload_n hx hb dX8_byPriorities_217 rfl (lv_at hl 0 rfl) ?_
    refine jp_getr (k := 13) B hP hX0.1 rfl rfl (by decide) jp_fX8 rfl mw_147 dX8_byPriorities_218 ?_
    refine lv_sipush (v := 400) hx hb dX8_byPriorities_221 (by decide) ?_
    refine lv_iload_n hx hb dX8_byPriorities_224 rfl (lv_at hl 2 rfl) ?_
    refine lv_imul hx hb dX8_byPriorities_225 ?_
    refine lv_aload_n hx hb dX8_byPriorities_226 rfl (lv_at hl 0 rfl) ?_
    refine jp_geti (k := 12) B hP hX0.1 rfl rfl (by decide) jp_fX8 rfl mw_146 dX8_byPriorities_227 ?_
    refine lv_iadd hx hb dX8_byPriorities_230 ?_
    refine lv_iconst (v := 1) hx hb dX8_byPriorities_231 (by decide) ?_
    refine lv_isub hx hb dX8_byPriorities_232 ?_
    obtain ⟨g_2, hf⟩ := jp_if hf
    refine jp_iald B hP hX0.2.2.2.2.1 (jp_ok_vp g_2) dX8_byPriorities_233 ?_
    refine lv_aload_n hx hb dX8_byPriorities_234 rfl (lv_at hl 0 rfl) ?_
    refine jp_getr (k := 13) B hP hX0.1 rfl rfl (by decide) jp_fX8 rfl mw_147 dX8_byPriorities_235 ?_
    refine lv_sipush (v := 400) hx hb dX8_byPriorities_238 (by decide) ?_
    refine lv_iload_n hx hb dX8_byPriorities_241 rfl (lv_at hl 2 rfl) ?_
    refine lv_imul hx hb dX8_byPriorities_242 ?_
    refine lv_bipush (v := 40) hx hb dX8_byPriorities_243 (by decide) ?_
    refine lv_iadd hx hb dX8_byPriorities_245 ?_
    obtain ⟨g_3, hf⟩ := jp_if hf
    refine jp_iald B hP hX0.2.2.2.2.1 (jp_ok_vp g_3) dX8_byPriorities_246 ?_
    refine lv_icmp_eq (tgt := 252) hx hb dX8_byPriorities_247 (by decide) (fun c_4 => ?_) (fun c_4 => ?_)
    · rw [if_pos c_4] at hf
      exact wbX8_byPriorities_252_in209 B hX0 hf kb kx kr H locs ls hP hS (lv_sub hl [0, 1, 2] rfl)
    · rw [if_neg c_4] at hf
      refine lv_iconst (v := 0) hx hb dX8_byPriorities_250 (by decide) ?_
      refine lv_istore_n (lv' := [(2, .int 0), (0, .ref (Γ.2.2.1 20)), (3, .int x3)]) hx hb dX8_byPriorities_251 rfl hl (by decide) rfl (fun ls hl => ?_)
      exact wbX8_byPriorities_252_in209 B hX0 hf kb kx kr H locs ls hP hS (lv_sub hl [1, 0, 2] rfl)
set_option maxHeartbeats 4000000 in
theorem lX8_byPriorities_209 (B : jp_B Γ p s m args meth c RX8 cX8_byPriorities 5 none) (hX0 : jp_hM Z) {e1 : Sum (Int32) Int32} {σ1 : jp_I} {τ1 : jp_J} (kx : ∀ v : Int32, e1 = .inl v → jp_at p l e (jp_R 5 120) s m args below meth c (MQ below (jp_Q Γ Z none σ0 τ0) args s 0 0 (jp_A Γ)) 5 Γ Z 258 [(0, .ref (Γ.2.2.1 20)), (2, .int v)] [] σ1 τ1) (kr : ∀ v : Int32, e1 = .inr v → r0 = v ∧ σ0 = σ1 ∧ τ0 = τ1) : ∀ (k : Nat) (v : Int32 × Int32) (σ : jp_I) (τ : jp_J), jp_loop (fun q : (Int32 × Int32) × jp_I × jp_J => sX8_byPriorities_209 q.1.1 q.1.2 q.2.1 q.2.2) k (v, σ, τ) = some (e1, σ1, τ1) → jp_at p l e (jp_R 5 120) s m args below meth c (MQ below (jp_Q Γ Z none σ0 τ0) args s 0 0 (jp_A Γ)) 5 Γ Z 209 [(0, .ref (Γ.2.2.1 20)), (2, .int v.1), (3, .int v.2)] [] σ τ := by
  refine jp_loopI (P := fun (v : Int32 × Int32) (σ : jp_I) (τ : jp_J) => jp_at p l e (jp_R 5 120) s m args below meth c (MQ below (jp_Q Γ Z none σ0 τ0) args s 0 0 (jp_A Γ)) 5 Γ Z 209 [(0, .ref (Γ.2.2.1 20)), (2, .int v.1), (3, .int v.2)] [] σ τ) (fun v σ τ q hq hbk hen => ?_)
  exact wsX8_byPriorities_209 B hX0 hq (fun v' hv => hbk v' hv) (fun x hv => by obtain ⟨h1, h2, h3⟩ := hen _ hv; rw [h2, h3]; exact kx x h1.symm) (fun r hv => by obtain ⟨h1, h2, h3⟩ := hen _ hv; rw [h2, h3]; exact kr r h1.symm)
def sX8_byPriorities_196 (x2 : Int32) (σ : jp_I) (τ : jp_J) : Option (Sum (Int32) (Sum (Unit) Int32) × jp_I × jp_J) :=
  if x2 = 0 then (some (.inr (.inl ()), σ, τ)) else (if (σ 20 12) ≤ 0 then (some (.inr (.inl ()), σ, τ)) else ((jp_loop (fun q : (Int32 × Int32) × jp_I × jp_J => sX8_byPriorities_209 q.1.1 q.1.2 q.2.1 q.2.2) jp_F ((x2, 0), σ, τ)).bind fun (e_3, σ_3, τ_3) => match e_3 with
    | .inl v_3 => (if v_3 = 0 then (some (.inl v_3, σ_3, τ_3)) else (some (.inl v_3, jp_up σ_3 20 12 ((σ_3 20 12) - 1), τ_3)))
    | .inr r_3 => some (.inr (.inr r_3), σ_3, τ_3)))
set_option maxHeartbeats 4000000 in
set_option maxRecDepth 20000 in
theorem wsX8_byPriorities_196 (B : jp_B Γ p s m args meth c RX8 cX8_byPriorities 5 none) (hX0 : jp_hM Z) {x2 : Int32} {σ : jp_I} {τ : jp_J} {q : Sum (Int32) (Sum (Unit) Int32) × jp_I × jp_J} (hf : sX8_byPriorities_196 x2 σ τ = some q) (kb : ∀ v : Int32, q.1 = .inl v → jp_at p l e (jp_R 5 120) s m args below meth c (MQ below (jp_Q Γ Z none σ0 τ0) args s 0 0 (jp_A Γ)) 5 Γ Z 196 [(0, .ref (Γ.2.2.1 20)), (2, .int v)] [] q.2.1 q.2.2) (kx : ∀ v : Unit, q.1 = .inr (.inl v) → jp_at p l e (jp_R 5 120) s m args below meth c (MQ below (jp_Q Γ Z none σ0 τ0) args s 0 0 (jp_A Γ)) 5 Γ Z 275 [] [] q.2.1 q.2.2) (kr : ∀ v : Int32, q.1 = .inr (.inr v) → r0 = v ∧ σ0 = q.2.1 ∧ τ0 = q.2.2) : jp_at p l e (jp_R 5 120) s m args below meth c (MQ below (jp_Q Γ Z none σ0 τ0) args s 0 0 (jp_A Γ)) 5 Γ Z 196 [(0, .ref (Γ.2.2.1 20)), (2, .int x2)] [] σ τ := by
  obtain ⟨hx, hb, hml, hown, hts, hr, hlk, hE⟩ := id B
  unfold sX8_byPriorities_196 at hf
  intro H locs ls hP hS hl
  refine lv_iload_n hx hb dX8_byPriorities_196 rfl (lv_at hl 1 rfl) ?_
  refine lv_if_eq (tgt := 275) hx hb dX8_byPriorities_197 (by decide) (fun c_1 => ?_) (fun c_1 => ?_)
  · rw [if_pos c_1] at hf
    obtain rfl := Option.some.inj hf
    exact kx _ rfl H locs ls hP hS (lv_sub hl [] rfl)
  · rw [if_neg c_1] at hf
    refine lv_aload_n hx hb dX8_byPriorities_200 rfl (lv_at hl 0 rfl) ?_
    refine jp_geti (k := 12) B hP hX0.1 rfl rfl (by decide) jp_fX8 rfl mw_146 dX8_byPriorities_201 ?_
    refine lv_if_le (tgt := 275) hx hb dX8_byPriorities_204 (by decide) (fun c_2 => ?_) (fun c_2 => ?_)
    · rw [if_pos c_2] at hf
      obtain rfl := Option.some.inj hf
      exact kx _ rfl H locs ls hP hS (lv_sub hl [] rfl)
    · rw [if_neg c_2] at hf
      refine lv_iconst (v := 0) hx hb dX8_byPriorities_207 (by decide) ?_
      refine lv_istore_n (lv' := [(3, .int 0), (0, .ref (Γ.2.2.1 20)), (2, .int x2)]) hx hb dX8_byPriorities_208 rfl hl (by decide) rfl (fun ls hl => ?_)
      obtain ⟨⟨e_3, σ_3, τ_3⟩, h_3, hf⟩ := jp_bind hf
      refine lX8_byPriorities_209 (r0 := r0) B hX0 (fun v_3 k_3 => ?_) (fun r_3 k_3 => ?_) _ _ _ _ h_3 H locs ls hP hS (lv_sub hl [1, 2, 0] rfl)
      · subst k_3
        dsimp only at hf
        intro H locs ls hP hS hl
        refine lv_iload_n hx hb dX8_byPriorities_258 rfl (lv_at hl 1 rfl) ?_
        refine lv_if_eq (tgt := 196) hx hb dX8_byPriorities_259 (by decide) (fun c_4 => ?_) (fun c_4 => ?_)
        · rw [if_pos c_4] at hf
          obtain rfl := Option.some.inj hf
          exact kb _ rfl H locs ls hP hS (lv_sub hl [0, 1] rfl)
        · rw [if_neg c_4] at hf
          refine lv_aload_n hx hb dX8_byPriorities_262 rfl (lv_at hl 0 rfl) ?_
          refine lv_dup hx hb dX8_byPriorities_263 rfl ?_
          refine jp_geti (k := 12) B hP hX0.1 rfl rfl (by decide) jp_fX8 rfl mw_146 dX8_byPriorities_264 ?_
          refine lv_iconst (v := 1) hx hb dX8_byPriorities_267 (by decide) ?_
          refine lv_isub hx hb dX8_byPriorities_268 ?_
          refine jp_puti (k := 12) (ty := .int) B hP hS hX0.1 rfl rfl (by decide) jp_fX8 tyX8 tyX8_ok nmX8 rfl mw_146 rfl (by decide +kernel) rfl rfl dX8_byPriorities_269 (fun H locs hP hS => ?_)
          refine lv_goto (tgt := 196) hx hb dX8_byPriorities_272 (by decide) ?_
          obtain rfl := Option.some.inj hf
          exact kb _ rfl H locs ls hP hS (lv_sub hl [0, 1] rfl)
      · subst k_3
        dsimp only at hf
        obtain rfl := Option.some.inj hf
        exact kr _ rfl
set_option maxHeartbeats 4000000 in
theorem lX8_byPriorities_196 (B : jp_B Γ p s m args meth c RX8 cX8_byPriorities 5 none) (hX0 : jp_hM Z) {e1 : Sum (Unit) Int32} {σ1 : jp_I} {τ1 : jp_J} (kx : ∀ v : Unit, e1 = .inl v → jp_at p l e (jp_R 5 120) s m args below meth c (MQ below (jp_Q Γ Z none σ0 τ0) args s 0 0 (jp_A Γ)) 5 Γ Z 275 [] [] σ1 τ1) (kr : ∀ v : Int32, e1 = .inr v → r0 = v ∧ σ0 = σ1 ∧ τ0 = τ1) : ∀ (k : Nat) (v : Int32) (σ : jp_I) (τ : jp_J), jp_loop (fun q : (Int32) × jp_I × jp_J => sX8_byPriorities_196 q.1 q.2.1 q.2.2) k (v, σ, τ) = some (e1, σ1, τ1) → jp_at p l e (jp_R 5 120) s m args below meth c (MQ below (jp_Q Γ Z none σ0 τ0) args s 0 0 (jp_A Γ)) 5 Γ Z 196 [(0, .ref (Γ.2.2.1 20)), (2, .int v)] [] σ τ := by
  refine jp_loopI (P := fun (v : Int32) (σ : jp_I) (τ : jp_J) => jp_at p l e (jp_R 5 120) s m args below meth c (MQ below (jp_Q Γ Z none σ0 τ0) args s 0 0 (jp_A Γ)) 5 Γ Z 196 [(0, .ref (Γ.2.2.1 20)), (2, .int v)] [] σ τ) (fun v σ τ q hq hbk hen => ?_)
  exact wsX8_byPriorities_196 B hX0 hq (fun v' hv => hbk v' hv) (fun x hv => by obtain ⟨h1, h2, h3⟩ := hen _ hv; rw [h2, h3]; exact kx x h1.symm) (fun r hv => by obtain ⟨h1, h2, h3⟩ := hen _ hv; rw [h2, h3]; exact kr r h1.symm)
def fX8_byPriorities (p1 : Int32) (σ : jp_I) (τ : jp_J) : Option (Int32 × jp_I × jp_J) :=
  (jp_loop (fun q : (Int32) × jp_I × jp_J => sX8_byPriorities_12 p1 q.1 q.2.1 q.2.2) jp_F (0, jp_up (jp_up σ 20 10 0) 20 9 0, τ)).bind fun (e_1, σ_1, τ_1) => match e_1 with
    | .inl _ => ((jp_loop (fun q : (Int32) × jp_I × jp_J => sX8_byPriorities_196 q.1 q.2.1 q.2.2) jp_F (((jp_up σ_1 20 12 40) 20 9), jp_up σ_1 20 12 40, τ_1)).bind fun (e_2, σ_2, τ_2) => match e_2 with
    | .inl _ => (some (0, σ_2, τ_2))
    | .inr r_2 => some (r_2, σ_2, τ_2))
    | .inr r_1 => some (r_1, σ_1, τ_1)
set_option maxHeartbeats 4000000 in
set_option maxRecDepth 20000 in
theorem ctX8_byPriorities {l : Launch} {Γ : jp_G} {Z : Nat → Option jp_Sh} (hX0 : jp_hM Z) {p1 : Int32} {σ σ0 : jp_I} {τ τ0 : jp_J} {r0 : Int32} (hf : fX8_byPriorities p1 σ τ = some (r0, σ0, τ0)) : jp_M l yX8_byPriorities cX8_byPriorities 5 none 5 120 Γ Z σ τ [.ref (Γ.2.2.1 20), .int p1] none σ0 τ0 := by
  refine jp_mk (lv := [(0, .ref (Γ.2.2.1 20)), (1, .int p1)]) (by decide) (Nat.le_of_ble_eq_true rfl) rfl fun p e s m args below meth c B => ?_
  obtain ⟨hx, hb, hml, hown, hts, hr, hlk, hE⟩ := id B
  unfold fX8_byPriorities at hf
  intro H locs ls hP hS hl
  refine lv_aload_n hx hb dX8_byPriorities_0 rfl (lv_at hl 0 rfl) ?_
  refine lv_iconst (v := 0) hx hb dX8_byPriorities_1 (by decide) ?_
  refine jp_puti (k := 10) (ty := .boolean) B hP hS hX0.1 rfl rfl (by decide) jp_fX8 tyX8 tyX8_ok nmX8 rfl mw_144 rfl (by decide +kernel) (jp_isb_n (by decide)) (jp_isb_f (by decide)) dX8_byPriorities_2 (fun H locs hP hS => ?_)
  refine lv_aload_n hx hb dX8_byPriorities_5 rfl (lv_at hl 0 rfl) ?_
  refine lv_iconst (v := 0) hx hb dX8_byPriorities_6 (by decide) ?_
  refine jp_puti (k := 9) (ty := .boolean) B hP hS hX0.1 rfl rfl (by decide) jp_fX8 tyX8 tyX8_ok nmX8 rfl mw_143 rfl (by decide +kernel) (jp_isb_n (by decide)) (jp_isb_f (by decide)) dX8_byPriorities_7 (fun H locs hP hS => ?_)
  refine lv_iconst (v := 0) hx hb dX8_byPriorities_10 (by decide) ?_
  refine lv_istore_n (lv' := [(2, .int 0), (0, .ref (Γ.2.2.1 20)), (1, .int p1)]) hx hb dX8_byPriorities_11 rfl hl (by decide) rfl (fun ls hl => ?_)
  obtain ⟨⟨e_1, σ_1, τ_1⟩, h_1, hf⟩ := jp_bind hf
  refine lX8_byPriorities_12 (r0 := r0) B hX0 (x1 := p1) (fun v_1 k_1 => ?_) (fun r_1 k_1 => ?_) _ _ _ _ h_1 H locs ls hP hS (lv_sub hl [1, 2, 0] rfl)
  · subst k_1
    dsimp only at hf
    intro H locs ls hP hS hl
    refine lv_aload_n hx hb dX8_byPriorities_185 rfl (lv_at hl 0 rfl) ?_
    refine lv_bipush (v := 40) hx hb dX8_byPriorities_186 (by decide) ?_
    refine jp_puti (k := 12) (ty := .int) B hP hS hX0.1 rfl rfl (by decide) jp_fX8 tyX8 tyX8_ok nmX8 rfl mw_146 rfl (by decide +kernel) rfl rfl dX8_byPriorities_188 (fun H locs hP hS => ?_)
    refine lv_aload_n hx hb dX8_byPriorities_191 rfl (lv_at hl 0 rfl) ?_
    refine jp_geti (k := 9) B hP hX0.1 rfl rfl (by decide) jp_fX8 rfl mw_143 dX8_byPriorities_192 ?_
    refine lv_istore_n (lv' := [(2, .int ((jp_up σ_1 20 12 40) 20 9)), (0, .ref (Γ.2.2.1 20))]) hx hb dX8_byPriorities_195 rfl hl (by decide) rfl (fun ls hl => ?_)
    obtain ⟨⟨e_2, σ_2, τ_2⟩, h_2, hf⟩ := jp_bind hf
    refine lX8_byPriorities_196 (r0 := r0) B hX0 (fun v_2 k_2 => ?_) (fun r_2 k_2 => ?_) _ _ _ _ h_2 H locs ls hP hS (lv_sub hl [1, 0] rfl)
    · subst k_2
      dsimp only at hf
      intro H locs ls hP hS hl
      exact jp_endv B hP hS dX8_byPriorities_275 (jp_inj hf)
    · subst k_2
      dsimp only at hf
      exact jp_inj hf
  · subst k_1
    dsimp only at hf
    exact jp_inj hf
end
-- X8_distance
section
variable {p : Program} {l : Launch} {e : Jvm.Env} {s : State} {m : MethodId} {args : Array Value} {below : List Frame} {meth : Method} {c : Code} {Γ : jp_G} {Z : Nat → Option jp_Sh} {r0 : Int32} {σ0 : jp_I} {τ0 : jp_J}
def sX8_distance_2 (x1 : Int32) (x2 : Int32) (σ : jp_I) (τ : jp_J) : Option (Sum (Int32) (Sum (Unit) Int32) × jp_I × jp_J) :=
  if 36 ≤ x2 then (some (.inr (.inl ()), σ, τ)) else (if jp_ok x2 1476 = true then some (.inl (x2 + 1), jp_up σ 27 x2.toNatClampNeg 1000000, τ) else none)
set_option maxHeartbeats 4000000 in
set_option maxRecDepth 20000 in
theorem wsX8_distance_2 (B : jp_B Γ p s m args meth c RX8 cX8_distance 6 (some .int)) (hX0 : jp_hM Z) {x1 : Int32} {x2 : Int32} {σ : jp_I} {τ : jp_J} {q : Sum (Int32) (Sum (Unit) Int32) × jp_I × jp_J} (hf : sX8_distance_2 x1 x2 σ τ = some q) (kb : ∀ v : Int32, q.1 = .inl v → jp_at p l e (jp_R 2 46) s m args below meth c (MQ below (jp_Q Γ Z (some (.int r0)) σ0 τ0) args s 0 0 (jp_A Γ)) 6 Γ Z 2 [(0, .ref (Γ.2.2.1 20)), (1, .int x1), (2, .int v)] [] q.2.1 q.2.2) (kx : ∀ v : Unit, q.1 = .inr (.inl v) → jp_at p l e (jp_R 2 46) s m args below meth c (MQ below (jp_Q Γ Z (some (.int r0)) σ0 τ0) args s 0 0 (jp_A Γ)) 6 Γ Z 22 [(0, .ref (Γ.2.2.1 20)), (1, .int x1)] [] q.2.1 q.2.2) (kr : ∀ v : Int32, q.1 = .inr (.inr v) → r0 = v ∧ σ0 = q.2.1 ∧ τ0 = q.2.2) : jp_at p l e (jp_R 2 46) s m args below meth c (MQ below (jp_Q Γ Z (some (.int r0)) σ0 τ0) args s 0 0 (jp_A Γ)) 6 Γ Z 2 [(0, .ref (Γ.2.2.1 20)), (1, .int x1), (2, .int x2)] [] σ τ := by
  obtain ⟨hx, hb, hml, hown, hts, hr, hlk, hE⟩ := id B
  unfold sX8_distance_2 at hf
  intro H locs ls hP hS hl
  refine lv_iload_n hx hb dX8_distance_2 rfl (lv_at hl 2 rfl) ?_
  refine lv_bipush (v := 36) hx hb dX8_distance_3 (by decide) ?_
  refine lv_icmp_ge (tgt := 22) hx hb dX8_distance_5 (by decide) (fun c_1 => ?_) (fun c_1 => ?_)
  · rw [if_pos c_1] at hf
    obtain rfl := Option.some.inj hf
    exact kx _ rfl H locs ls hP hS (lv_sub hl [0, 1] rfl)
  · rw [if_neg c_1] at hf
    refine lv_aload_n hx hb dX8_distance_8 rfl (lv_at hl 0 rfl) ?_
    refine jp_getr (k := 16) B hP hX0.1 rfl rfl (by decide) jp_fX8 rfl mw_150 dX8_distance_9 ?_
    refine lv_iload_n hx hb dX8_distance_12 rfl (lv_at hl 2 rfl) ?_
    refine lv_ldc (v := 1000000) hx hb hown (hts _ mw_414) dX8_distance_13 ?_
    obtain ⟨g_2, hf⟩ := jp_if hf
    refine jp_iast B hP hS hX0.2.2.2.2.2.2.2 (jp_ok_vp g_2) dX8_distance_15 (fun H locs hP hS => ?_)
    refine lv_iinc (v := x2 + 1) (lv' := [(2, .int (x2 + 1)), (0, .ref (Γ.2.2.1 20)), (1, .int x1)]) hx hb dX8_distance_16 hl (k := 2) rfl rfl (by decide) rfl (fun ls hl => ?_)
    refine lv_goto (tgt := 2) hx hb dX8_distance_19 (by decide) ?_
    obtain rfl := Option.some.inj hf
    exact kb _ rfl H locs ls hP hS (lv_sub hl [1, 2, 0] rfl)
set_option maxHeartbeats 4000000 in
theorem lX8_distance_2 (B : jp_B Γ p s m args meth c RX8 cX8_distance 6 (some .int)) (hX0 : jp_hM Z) {x1 : Int32} {e1 : Sum (Unit) Int32} {σ1 : jp_I} {τ1 : jp_J} (kx : ∀ v : Unit, e1 = .inl v → jp_at p l e (jp_R 2 46) s m args below meth c (MQ below (jp_Q Γ Z (some (.int r0)) σ0 τ0) args s 0 0 (jp_A Γ)) 6 Γ Z 22 [(0, .ref (Γ.2.2.1 20)), (1, .int x1)] [] σ1 τ1) (kr : ∀ v : Int32, e1 = .inr v → r0 = v ∧ σ0 = σ1 ∧ τ0 = τ1) : ∀ (k : Nat) (v : Int32) (σ : jp_I) (τ : jp_J), jp_loop (fun q : (Int32) × jp_I × jp_J => sX8_distance_2 x1 q.1 q.2.1 q.2.2) k (v, σ, τ) = some (e1, σ1, τ1) → jp_at p l e (jp_R 2 46) s m args below meth c (MQ below (jp_Q Γ Z (some (.int r0)) σ0 τ0) args s 0 0 (jp_A Γ)) 6 Γ Z 2 [(0, .ref (Γ.2.2.1 20)), (1, .int x1), (2, .int v)] [] σ τ := by
  refine jp_loopI (P := fun (v : Int32) (σ : jp_I) (τ : jp_J) => jp_at p l e (jp_R 2 46) s m args below meth c (MQ below (jp_Q Γ Z (some (.int r0)) σ0 τ0) args s 0 0 (jp_A Γ)) 6 Γ Z 2 [(0, .ref (Γ.2.2.1 20)), (1, .int x1), (2, .int v)] [] σ τ) (fun v σ τ q hq hbk hen => ?_)
  exact wsX8_distance_2 B hX0 hq (fun v' hv => hbk v' hv) (fun x hv => by obtain ⟨h1, h2, h3⟩ := hen _ hv; rw [h2, h3]; exact kx x h1.symm) (fun r hv => by obtain ⟨h1, h2, h3⟩ := hen _ hv; rw [h2, h3]; exact kr r h1.symm)
def bX8_distance_116_in53 (x1 : Int32) (x2 : Int32) (x3 : Int32) (x4 : Int32) (σ : jp_I) (τ : jp_J) : Option (Sum (Int32 × Int32) (Sum (Int32) Int32) × jp_I × jp_J) :=
  some (.inl (x2, x4 + 1), σ, τ)
set_option maxHeartbeats 4000000 in
set_option maxRecDepth 20000 in
theorem wbX8_distance_116_in53 (B : jp_B Γ p s m args meth c RX8 cX8_distance 6 (some .int)) (hX0 : jp_hM Z) {x1 : Int32} {x2 : Int32} {x3 : Int32} {x4 : Int32} {σ : jp_I} {τ : jp_J} {q : Sum (Int32 × Int32) (Sum (Int32) Int32) × jp_I × jp_J} (hf : bX8_distance_116_in53 x1 x2 x3 x4 σ τ = some q) (kb : ∀ v : Int32 × Int32, q.1 = .inl v → jp_at p l e (jp_R 2 46) s m args below meth c (MQ below (jp_Q Γ Z (some (.int r0)) σ0 τ0) args s 0 0 (jp_A Γ)) 6 Γ Z 53 [(0, .ref (Γ.2.2.1 20)), (1, .int x1), (2, .int v.1), (3, .int x3), (4, .int v.2)] [] q.2.1 q.2.2) (kx : ∀ v : Int32, q.1 = .inr (.inl v) → jp_at p l e (jp_R 2 46) s m args below meth c (MQ below (jp_Q Γ Z (some (.int r0)) σ0 τ0) args s 0 0 (jp_A Γ)) 6 Γ Z 122 [(0, .ref (Γ.2.2.1 20)), (1, .int x1), (2, .int v), (3, .int x3)] [] q.2.1 q.2.2) (kr : ∀ v : Int32, q.1 = .inr (.inr v) → r0 = v ∧ σ0 = q.2.1 ∧ τ0 = q.2.2) : jp_at p l e (jp_R 2 46) s m args below meth c (MQ below (jp_Q Γ Z (some (.int r0)) σ0 τ0) args s 0 0 (jp_A Γ)) 6 Γ Z 116 [(0, .ref (Γ.2.2.1 20)), (1, .int x1), (2, .int x2), (3, .int x3), (4, .int x4)] [] σ τ := by
  obtain ⟨hx, hb, hml, hown, hts, hr, hlk, hE⟩ := id B
  unfold bX8_distance_116_in53 at hf
  intro H locs ls hP hS hl
  refine lv_iinc (v := x4 + 1) (lv' := [(4, .int (x4 + 1)), (0, .ref (Γ.2.2.1 20)), (1, .int x1), (2, .int x2), (3, .int x3)]) hx hb dX8_distance_116 hl (k := 4) rfl rfl (by decide) rfl (fun ls hl => ?_)
  refine lv_goto (tgt := 53) hx hb dX8_distance_119 (by decide) ?_
  obtain rfl := Option.some.inj hf
  exact kb _ rfl H locs ls hP hS (lv_sub hl [1, 2, 3, 4, 0] rfl)
def sX8_distance_53 (x1 : Int32) (x2 : Int32) (x3 : Int32) (x4 : Int32) (σ : jp_I) (τ : jp_J) : Option (Sum (Int32 × Int32) (Sum (Int32) Int32) × jp_I × jp_J) :=
  if 5 ≤ x4 then (some (.inr (.inl x2), σ, τ)) else ((fX8_outside x3 σ τ).bind fun (a_2, σ_2, τ_2) => if a_2 = 0 then ((fX8_moved x3 x4 σ_2 τ_2).bind fun (a_4, σ_4, τ_4) => if a_4 < 0 then (bX8_distance_116_in53 x1 x2 x3 x4 σ_4 τ_4) else (if jp_ok a_4 1476 = true then if jp_ok x3 1476 = true then if (σ_4 27 x3.toNatClampNeg) ≤ ((σ_4 27 a_4.toNatClampNeg) + 1) then (bX8_distance_116_in53 x1 x2 x3 x4 σ_4 τ_4) else (if jp_ok a_4 1476 = true then if jp_ok x3 1476 = true then bX8_distance_116_in53 x1 1 x3 x4 (jp_up σ_4 27 x3.toNatClampNeg ((σ_4 27 a_4.toNatClampNeg) + 1)) τ_4 else none else none) else none else none)) else (some (.inr (.inl x2), σ_2, τ_2)))
set_option maxHeartbeats 4000000 in
set_option maxRecDepth 20000 in
theorem wsX8_distance_53 (B : jp_B Γ p s m args meth c RX8 cX8_distance 6 (some .int)) (hX0 : jp_hM Z) {x1 : Int32} {x2 : Int32} {x3 : Int32} {x4 : Int32} {σ : jp_I} {τ : jp_J} {q : Sum (Int32 × Int32) (Sum (Int32) Int32) × jp_I × jp_J} (hf : sX8_distance_53 x1 x2 x3 x4 σ τ = some q) (kb : ∀ v : Int32 × Int32, q.1 = .inl v → jp_at p l e (jp_R 2 46) s m args below meth c (MQ below (jp_Q Γ Z (some (.int r0)) σ0 τ0) args s 0 0 (jp_A Γ)) 6 Γ Z 53 [(0, .ref (Γ.2.2.1 20)), (1, .int x1), (2, .int v.1), (3, .int x3), (4, .int v.2)] [] q.2.1 q.2.2) (kx : ∀ v : Int32, q.1 = .inr (.inl v) → jp_at p l e (jp_R 2 46) s m args below meth c (MQ below (jp_Q Γ Z (some (.int r0)) σ0 τ0) args s 0 0 (jp_A Γ)) 6 Γ Z 122 [(0, .ref (Γ.2.2.1 20)), (1, .int x1), (2, .int v), (3, .int x3)] [] q.2.1 q.2.2) (kr : ∀ v : Int32, q.1 = .inr (.inr v) → r0 = v ∧ σ0 = q.2.1 ∧ τ0 = q.2.2) : jp_at p l e (jp_R 2 46) s m args below meth c (MQ below (jp_Q Γ Z (some (.int r0)) σ0 τ0) args s 0 0 (jp_A Γ)) 6 Γ Z 53 [(0, .ref (Γ.2.2.1 20)), (1, .int x1), (2, .int x2), (3, .int x3), (4, .int x4)] [] σ τ := by
  obtain ⟨hx, hb, hml, hown, hts, hr, hlk, hE⟩ := id B
  unfold sX8_distance_53 at hf
  intro H locs ls hP hS hl
  refine lv_iload hx hb dX8_distance_53 (lv_at hl 4 rfl) ?_
  refine lv_iconst (v := 5) hx hb dX8_distance_55 (by decide) ?_
  refine lv_icmp_ge (tgt := 122) hx hb dX8_distance_56 (by decide) (fun c_1 => ?_) (fun c_1 => ?_)
  · rw [if_pos c_1] at hf
    obtain rfl := Option.some.inj hf
    exact kx _ rfl H locs ls hP hS (lv_sub hl [0, 1, 2, 3] rfl)
  · rw [if_neg c_1] at hf
    refine lv_aload_n hx hb dX8_distance_59 rfl (lv_at hl 0 rfl) ?_
    refine lv_iload_n hx hb dX8_distance_60 rfl (lv_at hl 3 rfl) ?_
    obtain ⟨⟨a_2, σ_2, τ_2⟩, h_2, hf⟩ := jp_bind hf
    dsimp only at hf
    refine jp_callV (rest := []) B hP hS hl (ctX8_outside ⟨hX0.1, hX0.2.1, hX0.2.2.1, hX0.2.2.2.1, hX0.2.2.2.2.1, hX0.2.2.2.2.2.1, hX0.2.2.2.2.2.2.1, hX0.2.2.2.2.2.2.2⟩ h_2) hX0.1 rfl mw_426 mw_423 mw_424 mw_425 mw_5 ddX8_outside ⟨Nat.le_of_ble_eq_true rfl, Nat.le_of_ble_eq_true rfl⟩ ⟨Nat.zero_le _, Nat.zero_le _⟩ rfl (Nat.le_of_ble_eq_true rfl) dX8_distance_61 (fun H locs hP hS => ?_)
    refine lv_if_ne (tgt := 122) hx hb dX8_distance_64 (by decide) (fun c_3 => ?_) (fun c_3 => ?_)
    · rw [if_neg c_3] at hf
      obtain rfl := Option.some.inj hf
      exact kx _ rfl H locs ls hP hS (lv_sub hl [0, 1, 2, 3] rfl)
    · rw [if_pos c_3] at hf
      refine lv_aload_n hx hb dX8_distance_67 rfl (lv_at hl 0 rfl) ?_
      refine lv_iload_n hx hb dX8_distance_68 rfl (lv_at hl 3 rfl) ?_
      refine lv_iload hx hb dX8_distance_69 (lv_at hl 4 rfl) ?_
      obtain ⟨⟨a_4, σ_4, τ_4⟩, h_4, hf⟩ := jp_bind hf
      dsimp only at hf
      refine jp_callV (rest := []) B hP hS hl (ctX8_moved ⟨hX0.1, hX0.2.1, hX0.2.2.1, hX0.2.2.2.1, hX0.2.2.2.2.1, hX0.2.2.2.2.2.1, hX0.2.2.2.2.2.2.1, hX0.2.2.2.2.2.2.2⟩ h_4) hX0.1 rfl mw_434 mw_431 mw_432 mw_433 mw_5 ddX8_moved ⟨Nat.le_of_ble_eq_true rfl, Nat.le_of_ble_eq_true rfl⟩ ⟨Nat.zero_le _, Nat.zero_le _⟩ rfl (Nat.le_of_ble_eq_true rfl) dX8_distance_71 (fun H locs hP hS => ?_)
      refine lv_istore (lv' := [(5, .int a_4), (0, .ref (Γ.2.2.1 20)), (1, .int x1), (2, .int x2), (3, .int x3), (4, .int x4)]) hx hb dX8_distance_74 hl (by decide) rfl (fun ls hl => ?_)
      refine lv_iload hx hb dX8_distance_76 (lv_at hl 0 rfl) ?_
      refine lv_if_lt (tgt := 116) hx hb dX8_distance_78 (by decide) (fun c_5 => ?_) (fun c_5 => ?_)
      · rw [if_pos c_5] at hf
        exact wbX8_distance_116_in53 B hX0 hf kb kx kr H locs ls hP hS (lv_sub hl [1, 2, 3, 4, 5] rfl)
      · rw [if_neg c_5] at hf
        refine lv_aload_n hx hb dX8_distance_81 rfl (lv_at hl 1 rfl) ?_
        refine jp_getr (k := 16) B hP hX0.1 rfl rfl (by decide) jp_fX8 rfl mw_150 dX8_distance_82 ?_
        refine lv_iload hx hb dX8_distance_85 (lv_at hl 0 rfl) ?_
        obtain ⟨g_6, hf⟩ := jp_if hf
        refine jp_iald B hP hX0.2.2.2.2.2.2.2 (jp_ok_vp g_6) dX8_distance_87 ?_
        refine lv_iconst (v := 1) hx hb dX8_distance_88 (by decide) ?_
        refine lv_iadd hx hb dX8_distance_89 ?_
        refine lv_aload_n hx hb dX8_distance_90 rfl (lv_at hl 1 rfl) ?_
        refine jp_getr (k := 16) B hP hX0.1 rfl rfl (by decide) jp_fX8 rfl mw_150 dX8_distance_91 ?_
        refine lv_iload_n hx hb dX8_distance_94 rfl (lv_at hl 4 rfl) ?_
        obtain ⟨g_7, hf⟩ := jp_if hf
        refine jp_iald B hP hX0.2.2.2.2.2.2.2 (jp_ok_vp g_7) dX8_distance_95 ?_
        refine lv_icmp_ge (tgt := 116) hx hb dX8_distance_96 (by decide) (fun c_8 => ?_) (fun c_8 => ?_)
        · rw [if_pos c_8] at hf
          exact wbX8_distance_116_in53 B hX0 hf kb kx kr H locs ls hP hS (lv_sub hl [1, 2, 3, 4, 5] rfl)
        · rw [if_neg c_8] at hf
          refine lv_aload_n hx hb dX8_distance_99 rfl (lv_at hl 1 rfl) ?_
          refine jp_getr (k := 16) B hP hX0.1 rfl rfl (by decide) jp_fX8 rfl mw_150 dX8_distance_100 ?_
          refine lv_iload_n hx hb dX8_distance_103 rfl (lv_at hl 4 rfl) ?_
          refine lv_aload_n hx hb dX8_distance_104 rfl (lv_at hl 1 rfl) ?_
          refine jp_getr (k := 16) B hP hX0.1 rfl rfl (by decide) jp_fX8 rfl mw_150 dX8_distance_105 ?_
          refine lv_iload hx hb dX8_distance_108 (lv_at hl 0 rfl) ?_
          obtain ⟨g_9, hf⟩ := jp_if hf
          refine jp_iald B hP hX0.2.2.2.2.2.2.2 (jp_ok_vp g_9) dX8_distance_110 ?_
          refine lv_iconst (v := 1) hx hb dX8_distance_111 (by decide) ?_
          refine lv_iadd hx hb dX8_distance_112 ?_
          obtain ⟨g_10, hf⟩ := jp_if hf
          refine jp_iast B hP hS hX0.2.2.2.2.2.2.2 (jp_ok_vp g_10) dX8_distance_113 (fun H locs hP hS => ?_)
          refine lv_iconst (v := 1) hx hb dX8_distance_114 (by decide) ?_
          refine lv_istore_n (lv' := [(2, .int 1), (5, .int a_4), (0, .ref (Γ.2.2.1 20)), (1, .int x1), (3, .int x3), (4, .int x4)]) hx hb dX8_distance_115 rfl hl (by decide) rfl (fun ls hl => ?_)
          exact wbX8_distance_116_in53 B hX0 hf kb kx kr H locs ls hP hS (lv_sub hl [2, 3, 0, 4, 5] rfl)
set_option maxHeartbeats 4000000 in
theorem lX8_distance_53 (B : jp_B Γ p s m args meth c RX8 cX8_distance 6 (some .int)) (hX0 : jp_hM Z) {x1 : Int32} {x3 : Int32} {e1 : Sum (Int32) Int32} {σ1 : jp_I} {τ1 : jp_J} (kx : ∀ v : Int32, e1 = .inl v → jp_at p l e (jp_R 2 46) s m args below meth c (MQ below (jp_Q Γ Z (some (.int r0)) σ0 τ0) args s 0 0 (jp_A Γ)) 6 Γ Z 122 [(0, .ref (Γ.2.2.1 20)), (1, .int x1), (2, .int v), (3, .int x3)] [] σ1 τ1) (kr : ∀ v : Int32, e1 = .inr v → r0 = v ∧ σ0 = σ1 ∧ τ0 = τ1) : ∀ (k : Nat) (v : Int32 × Int32) (σ : jp_I) (τ : jp_J), jp_loop (fun q : (Int32 × Int32) × jp_I × jp_J => sX8_distance_53 x1 q.1.1 x3 q.1.2 q.2.1 q.2.2) k (v, σ, τ) = some (e1, σ1, τ1) → jp_at p l e (jp_R 2 46) s m args below meth c (MQ below (jp_Q Γ Z (some (.int r0)) σ0 τ0) args s 0 0 (jp_A Γ)) 6 Γ Z 53 [(0, .ref (Γ.2.2.1 20)), (1, .int x1), (2, .int v.1), (3, .int x3), (4, .int v.2)] [] σ τ := by
  refine jp_loopI (P := fun (v : Int32 × Int32) (σ : jp_I) (τ : jp_J) => jp_at p l e (jp_R 2 46) s m args below meth c (MQ below (jp_Q Γ Z (some (.int r0)) σ0 τ0) args s 0 0 (jp_A Γ)) 6 Γ Z 53 [(0, .ref (Γ.2.2.1 20)), (1, .int x1), (2, .int v.1), (3, .int x3), (4, .int v.2)] [] σ τ) (fun v σ τ q hq hbk hen => ?_)
  exact wsX8_distance_53 B hX0 hq (fun v' hv => hbk v' hv) (fun x hv => by obtain ⟨h1, h2, h3⟩ := hen _ hv; rw [h2, h3]; exact kx x h1.symm) (fun r hv => by obtain ⟨h1, h2, h3⟩ := hen _ hv; rw [h2, h3]; exact kr r h1.symm)
def bX8_distance_122_in44 (x1 : Int32) (x2 : Int32) (x3 : Int32) (σ : jp_I) (τ : jp_J) : Option (Sum (Int32 × Int32) (Sum (Int32) Int32) × jp_I × jp_J) :=
  some (.inl (x2, x3 + 1), σ, τ)
set_option maxHeartbeats 4000000 in
set_option maxRecDepth 20000 in
theorem wbX8_distance_122_in44 (B : jp_B Γ p s m args meth c RX8 cX8_distance 6 (some .int)) (hX0 : jp_hM Z) {x1 : Int32} {x2 : Int32} {x3 : Int32} {σ : jp_I} {τ : jp_J} {q : Sum (Int32 × Int32) (Sum (Int32) Int32) × jp_I × jp_J} (hf : bX8_distance_122_in44 x1 x2 x3 σ τ = some q) (kb : ∀ v : Int32 × Int32, q.1 = .inl v → jp_at p l e (jp_R 2 46) s m args below meth c (MQ below (jp_Q Γ Z (some (.int r0)) σ0 τ0) args s 0 0 (jp_A Γ)) 6 Γ Z 44 [(0, .ref (Γ.2.2.1 20)), (1, .int x1), (2, .int v.1), (3, .int v.2)] [] q.2.1 q.2.2) (kx : ∀ v : Int32, q.1 = .inr (.inl v) → jp_at p l e (jp_R 2 46) s m args below meth c (MQ below (jp_Q Γ Z (some (.int r0)) σ0 τ0) args s 0 0 (jp_A Γ)) 6 Γ Z 128 [(0, .ref (Γ.2.2.1 20)), (1, .int x1), (2, .int v)] [] q.2.1 q.2.2) (kr : ∀ v : Int32, q.1 = .inr (.inr v) → r0 = v ∧ σ0 = q.2.1 ∧ τ0 = q.2.2) : jp_at p l e (jp_R 2 46) s m args below meth c (MQ below (jp_Q Γ Z (some (.int r0)) σ0 τ0) args s 0 0 (jp_A Γ)) 6 Γ Z 122 [(0, .ref (Γ.2.2.1 20)), (1, .int x1), (2, .int x2), (3, .int x3)] [] σ τ := by
  obtain ⟨hx, hb, hml, hown, hts, hr, hlk, hE⟩ := id B
  unfold bX8_distance_122_in44 at hf
  intro H locs ls hP hS hl
  refine lv_iinc (v := x3 + 1) (lv' := [(3, .int (x3 + 1)), (0, .ref (Γ.2.2.1 20)), (1, .int x1), (2, .int x2)]) hx hb dX8_distance_122 hl (k := 3) rfl rfl (by decide) rfl (fun ls hl => ?_)
  refine lv_goto (tgt := 44) hx hb dX8_distance_125 (by decide) ?_
  obtain rfl := Option.some.inj hf
  exact kb _ rfl H locs ls hP hS (lv_sub hl [1, 2, 3, 0] rfl)
def sX8_distance_44 (x1 : Int32) (x2 : Int32) (x3 : Int32) (σ : jp_I) (τ : jp_J) : Option (Sum (Int32 × Int32) (Sum (Int32) Int32) × jp_I × jp_J) :=
  if 36 ≤ x3 then (some (.inr (.inl x2), σ, τ)) else ((jp_loop (fun q : (Int32 × Int32) × jp_I × jp_J => sX8_distance_53 x1 q.1.1 x3 q.1.2 q.2.1 q.2.2) jp_F ((x2, 1), σ, τ)).bind fun (e_2, σ_2, τ_2) => match e_2 with
    | .inl v_2 => (bX8_distance_122_in44 x1 v_2 x3 σ_2 τ_2)
    | .inr r_2 => some (.inr (.inr r_2), σ_2, τ_2))
set_option maxHeartbeats 4000000 in
set_option maxRecDepth 20000 in
theorem wsX8_distance_44 (B : jp_B Γ p s m args meth c RX8 cX8_distance 6 (some .int)) (hX0 : jp_hM Z) {x1 : Int32} {x2 : Int32} {x3 : Int32} {σ : jp_I} {τ : jp_J} {q : Sum (Int32 × Int32) (Sum (Int32) Int32) × jp_I × jp_J} (hf : sX8_distance_44 x1 x2 x3 σ τ = some q) (kb : ∀ v : Int32 × Int32, q.1 = .inl v → jp_at p l e (jp_R 2 46) s m args below meth c (MQ below (jp_Q Γ Z (some (.int r0)) σ0 τ0) args s 0 0 (jp_A Γ)) 6 Γ Z 44 [(0, .ref (Γ.2.2.1 20)), (1, .int x1), (2, .int v.1), (3, .int v.2)] [] q.2.1 q.2.2) (kx : ∀ v : Int32, q.1 = .inr (.inl v) → jp_at p l e (jp_R 2 46) s m args below meth c (MQ below (jp_Q Γ Z (some (.int r0)) σ0 τ0) args s 0 0 (jp_A Γ)) 6 Γ Z 128 [(0, .ref (Γ.2.2.1 20)), (1, .int x1), (2, .int v)] [] q.2.1 q.2.2) (kr : ∀ v : Int32, q.1 = .inr (.inr v) → r0 = v ∧ σ0 = q.2.1 ∧ τ0 = q.2.2) : jp_at p l e (jp_R 2 46) s m args below meth c (MQ below (jp_Q Γ Z (some (.int r0)) σ0 τ0) args s 0 0 (jp_A Γ)) 6 Γ Z 44 [(0, .ref (Γ.2.2.1 20)), (1, .int x1), (2, .int x2), (3, .int x3)] [] σ τ := by
  obtain ⟨hx, hb, hml, hown, hts, hr, hlk, hE⟩ := id B
  unfold sX8_distance_44 at hf
  intro H locs ls hP hS hl
  refine lv_iload_n hx hb dX8_distance_44 rfl (lv_at hl 3 rfl) ?_
  refine lv_bipush (v := 36) hx hb dX8_distance_45 (by decide) ?_
  refine lv_icmp_ge (tgt := 128) hx hb dX8_distance_47 (by decide) (fun c_1 => ?_) (fun c_1 => ?_)
  · rw [if_pos c_1] at hf
    obtain rfl := Option.some.inj hf
    exact kx _ rfl H locs ls hP hS (lv_sub hl [0, 1, 2] rfl)
  · rw [if_neg c_1] at hf
    refine lv_iconst (v := 1) hx hb dX8_distance_50 (by decide) ?_
    refine lv_istore (lv' := [(4, .int 1), (0, .ref (Γ.2.2.1 20)), (1, .int x1), (2, .int x2), (3, .int x3)]) hx hb dX8_distance_51 hl (by decide) rfl (fun ls hl => ?_)
    obtain ⟨⟨e_2, σ_2, τ_2⟩, h_2, hf⟩ := jp_bind hf
    refine lX8_distance_53 (r0 := r0) B hX0 (x1 := x1) (x3 := x3) (fun v_2 k_2 => ?_) (fun r_2 k_2 => ?_) _ _ _ _ h_2 H locs ls hP hS (lv_sub hl [1, 2, 3, 4, 0] rfl)
    · subst k_2
      dsimp only at hf
      intro H locs ls hP hS hl
      exact wbX8_distance_122_in44 B hX0 hf kb kx kr H locs ls hP hS (lv_sub hl [0, 1, 2, 3] rfl)
    · subst k_2
      dsimp only at hf
      obtain rfl := Option.some.inj hf
      exact kr _ rfl
set_option maxHeartbeats 4000000 in
theorem lX8_distance_44 (B : jp_B Γ p s m args meth c RX8 cX8_distance 6 (some .int)) (hX0 : jp_hM Z) {x1 : Int32} {e1 : Sum (Int32) Int32} {σ1 : jp_I} {τ1 : jp_J} (kx : ∀ v : Int32, e1 = .inl v → jp_at p l e (jp_R 2 46) s m args below meth c (MQ below (jp_Q Γ Z (some (.int r0)) σ0 τ0) args s 0 0 (jp_A Γ)) 6 Γ Z 128 [(0, .ref (Γ.2.2.1 20)), (1, .int x1), (2, .int v)] [] σ1 τ1) (kr : ∀ v : Int32, e1 = .inr v → r0 = v ∧ σ0 = σ1 ∧ τ0 = τ1) : ∀ (k : Nat) (v : Int32 × Int32) (σ : jp_I) (τ : jp_J), jp_loop (fun q : (Int32 × Int32) × jp_I × jp_J => sX8_distance_44 x1 q.1.1 q.1.2 q.2.1 q.2.2) k (v, σ, τ) = some (e1, σ1, τ1) → jp_at p l e (jp_R 2 46) s m args below meth c (MQ below (jp_Q Γ Z (some (.int r0)) σ0 τ0) args s 0 0 (jp_A Γ)) 6 Γ Z 44 [(0, .ref (Γ.2.2.1 20)), (1, .int x1), (2, .int v.1), (3, .int v.2)] [] σ τ := by
  refine jp_loopI (P := fun (v : Int32 × Int32) (σ : jp_I) (τ : jp_J) => jp_at p l e (jp_R 2 46) s m args below meth c (MQ below (jp_Q Γ Z (some (.int r0)) σ0 τ0) args s 0 0 (jp_A Γ)) 6 Γ Z 44 [(0, .ref (Γ.2.2.1 20)), (1, .int x1), (2, .int v.1), (3, .int v.2)] [] σ τ) (fun v σ τ q hq hbk hen => ?_)
  exact wsX8_distance_44 B hX0 hq (fun v' hv => hbk v' hv) (fun x hv => by obtain ⟨h1, h2, h3⟩ := hen _ hv; rw [h2, h3]; exact kx x h1.symm) (fun r hv => by obtain ⟨h1, h2, h3⟩ := hen _ hv; rw [h2, h3]; exact kr r h1.symm)
def sX8_distance_36 (x1 : Int32) (x2 : Int32) (σ : jp_I) (τ : jp_J) : Option (Sum (Int32) (Sum (Unit) Int32) × jp_I × jp_J) :=
  if x2 = 0 then (some (.inr (.inl ()), σ, τ)) else ((jp_loop (fun q : (Int32 × Int32) × jp_I × jp_J => sX8_distance_44 x1 q.1.1 q.1.2 q.2.1 q.2.2) jp_F ((0, 0), σ, τ)).bind fun (e_2, σ_2, τ_2) => match e_2 with
    | .inl v_2 => (some (.inl v_2, σ_2, τ_2))
    | .inr r_2 => some (.inr (.inr r_2), σ_2, τ_2))
set_option maxHeartbeats 4000000 in
set_option maxRecDepth 20000 in
theorem wsX8_distance_36 (B : jp_B Γ p s m args meth c RX8 cX8_distance 6 (some .int)) (hX0 : jp_hM Z) {x1 : Int32} {x2 : Int32} {σ : jp_I} {τ : jp_J} {q : Sum (Int32) (Sum (Unit) Int32) × jp_I × jp_J} (hf : sX8_distance_36 x1 x2 σ τ = some q) (kb : ∀ v : Int32, q.1 = .inl v → jp_at p l e (jp_R 2 46) s m args below meth c (MQ below (jp_Q Γ Z (some (.int r0)) σ0 τ0) args s 0 0 (jp_A Γ)) 6 Γ Z 36 [(0, .ref (Γ.2.2.1 20)), (1, .int x1), (2, .int v)] [] q.2.1 q.2.2) (kx : ∀ v : Unit, q.1 = .inr (.inl v) → jp_at p l e (jp_R 2 46) s m args below meth c (MQ below (jp_Q Γ Z (some (.int r0)) σ0 τ0) args s 0 0 (jp_A Γ)) 6 Γ Z 131 [(0, .ref (Γ.2.2.1 20)), (1, .int x1)] [] q.2.1 q.2.2) (kr : ∀ v : Int32, q.1 = .inr (.inr v) → r0 = v ∧ σ0 = q.2.1 ∧ τ0 = q.2.2) : jp_at p l e (jp_R 2 46) s m args below meth c (MQ below (jp_Q Γ Z (some (.int r0)) σ0 τ0) args s 0 0 (jp_A Γ)) 6 Γ Z 36 [(0, .ref (Γ.2.2.1 20)), (1, .int x1), (2, .int x2)] [] σ τ := by
  obtain ⟨hx, hb, hml, hown, hts, hr, hlk, hE⟩ := id B
  unfold sX8_distance_36 at hf
  intro H locs ls hP hS hl
  refine lv_iload_n hx hb dX8_distance_36 rfl (lv_at hl 2 rfl) ?_
  refine lv_if_eq (tgt := 131) hx hb dX8_distance_37 (by decide) (fun c_1 => ?_) (fun c_1 => ?_)
  · rw [if_pos c_1] at hf
    obtain rfl := Option.some.inj hf
    exact kx _ rfl H locs ls hP hS (lv_sub hl [0, 1] rfl)
  · rw [if_neg c_1] at hf
    refine lv_iconst (v := 0) hx hb dX8_distance_40 (by decide) ?_
    refine lv_istore_n (lv' := [(2, .int 0), (0, .ref (Γ.2.2.1 20)), (1, .int x1)]) hx hb dX8_distance_41 rfl hl (by decide) rfl (fun ls hl => ?_)
    refine lv_iconst (v := 0) hx hb dX8_distance_42 (by decide) ?_
    refine lv_istore_n (lv' := [(3, .int 0), (2, .int 0), (0, .ref (Γ.2.2.1 20)), (1, .int x1)]) hx hb dX8_distance_43 rfl hl (by decide) rfl (fun ls hl => ?_)
    obtain ⟨⟨e_2, σ_2, τ_2⟩, h_2, hf⟩ := jp_bind hf
    refine lX8_distance_44 (r0 := r0) B hX0 (x1 := x1) (fun v_2 k_2 => ?_) (fun r_2 k_2 => ?_) _ _ _ _ h_2 H locs ls hP hS (lv_sub hl [2, 3, 1, 0] rfl)
    · subst k_2
      dsimp only at hf
      intro H locs ls hP hS hl
      refine lv_goto (tgt := 36) hx hb dX8_distance_128 (by decide) ?_
      obtain rfl := Option.some.inj hf
      exact kb _ rfl H locs ls hP hS (lv_sub hl [0, 1, 2] rfl)
    · subst k_2
      dsimp only at hf
      obtain rfl := Option.some.inj hf
      exact kr _ rfl
set_option maxHeartbeats 4000000 in
theorem lX8_distance_36 (B : jp_B Γ p s m args meth c RX8 cX8_distance 6 (some .int)) (hX0 : jp_hM Z) {x1 : Int32} {e1 : Sum (Unit) Int32} {σ1 : jp_I} {τ1 : jp_J} (kx : ∀ v : Unit, e1 = .inl v → jp_at p l e (jp_R 2 46) s m args below meth c (MQ below (jp_Q Γ Z (some (.int r0)) σ0 τ0) args s 0 0 (jp_A Γ)) 6 Γ Z 131 [(0, .ref (Γ.2.2.1 20)), (1, .int x1)] [] σ1 τ1) (kr : ∀ v : Int32, e1 = .inr v → r0 = v ∧ σ0 = σ1 ∧ τ0 = τ1) : ∀ (k : Nat) (v : Int32) (σ : jp_I) (τ : jp_J), jp_loop (fun q : (Int32) × jp_I × jp_J => sX8_distance_36 x1 q.1 q.2.1 q.2.2) k (v, σ, τ) = some (e1, σ1, τ1) → jp_at p l e (jp_R 2 46) s m args below meth c (MQ below (jp_Q Γ Z (some (.int r0)) σ0 τ0) args s 0 0 (jp_A Γ)) 6 Γ Z 36 [(0, .ref (Γ.2.2.1 20)), (1, .int x1), (2, .int v)] [] σ τ := by
  refine jp_loopI (P := fun (v : Int32) (σ : jp_I) (τ : jp_J) => jp_at p l e (jp_R 2 46) s m args below meth c (MQ below (jp_Q Γ Z (some (.int r0)) σ0 τ0) args s 0 0 (jp_A Γ)) 6 Γ Z 36 [(0, .ref (Γ.2.2.1 20)), (1, .int x1), (2, .int v)] [] σ τ) (fun v σ τ q hq hbk hen => ?_)
  exact wsX8_distance_36 B hX0 hq (fun v' hv => hbk v' hv) (fun x hv => by obtain ⟨h1, h2, h3⟩ := hen _ hv; rw [h2, h3]; exact kx x h1.symm) (fun r hv => by obtain ⟨h1, h2, h3⟩ := hen _ hv; rw [h2, h3]; exact kr r h1.symm)
def fX8_distance (p1 : Int32) (σ : jp_I) (τ : jp_J) : Option (Int32 × jp_I × jp_J) :=
  (jp_loop (fun q : (Int32) × jp_I × jp_J => sX8_distance_2 p1 q.1 q.2.1 q.2.2) jp_F (0, σ, τ)).bind fun (e_1, σ_1, τ_1) => match e_1 with
    | .inl _ => (if jp_ok p1 4 = true then if jp_ok (σ_1 23 p1.toNatClampNeg) 1476 = true then (jp_loop (fun q : (Int32) × jp_I × jp_J => sX8_distance_36 p1 q.1 q.2.1 q.2.2) jp_F (1, jp_up σ_1 27 (σ_1 23 p1.toNatClampNeg).toNatClampNeg 0, τ_1)).bind fun (e_4, σ_4, τ_4) => match e_4 with
    | .inl _ => (if jp_ok p1 4 = true then if jp_ok (σ_4 22 p1.toNatClampNeg) 1476 = true then if (σ_4 27 (σ_4 22 p1.toNatClampNeg).toNatClampNeg) < 1000000 then (if jp_ok p1 4 = true then if jp_ok (σ_4 22 p1.toNatClampNeg) 1476 = true then some (σ_4 27 (σ_4 22 p1.toNatClampNeg).toNatClampNeg, σ_4, τ_4) else none else none) else (some ((-1), σ_4, τ_4)) else none else none)
    | .inr r_4 => some (r_4, σ_4, τ_4) else none else none)
    | .inr r_1 => some (r_1, σ_1, τ_1)
set_option maxHeartbeats 4000000 in
set_option maxRecDepth 20000 in
theorem ctX8_distance {l : Launch} {Γ : jp_G} {Z : Nat → Option jp_Sh} (hX0 : jp_hM Z) {p1 : Int32} {σ σ0 : jp_I} {τ τ0 : jp_J} {r0 : Int32} (hf : fX8_distance p1 σ τ = some (r0, σ0, τ0)) : jp_M l yX8_distance cX8_distance 6 (some .int) 2 46 Γ Z σ τ [.ref (Γ.2.2.1 20), .int p1] (some (.int r0)) σ0 τ0 := by
  refine jp_mk (lv := [(0, .ref (Γ.2.2.1 20)), (1, .int p1)]) (by decide) (Nat.le_of_ble_eq_true rfl) rfl fun p e s m args below meth c B => ?_
  obtain ⟨hx, hb, hml, hown, hts, hr, hlk, hE⟩ := id B
  unfold fX8_distance at hf
  intro H locs ls hP hS hl
  refine lv_iconst (v := 0) hx hb dX8_distance_0 (by decide) ?_
  refine lv_istore_n (lv' := [(2, .int 0), (0, .ref (Γ.2.2.1 20)), (1, .int p1)]) hx hb dX8_distance_1 rfl hl (by decide) rfl (fun ls hl => ?_)
  obtain ⟨⟨e_1, σ_1, τ_1⟩, h_1, hf⟩ := jp_bind hf
  refine lX8_distance_2 (r0 := r0) B hX0 (x1 := p1) (fun v_1 k_1 => ?_) (fun r_1 k_1 => ?_) _ _ _ _ h_1 H locs ls hP hS (lv_sub hl [1, 2, 0] rfl)
  · subst k_1
    dsimp only at hf
    intro H locs ls hP hS hl
    refine lv_aload_n hx hb dX8_distance_22 rfl (lv_at hl 0 rfl) ?_
    refine jp_getr (k := 16) B hP hX0.1 rfl rfl (by decide) jp_fX8 rfl mw_150 dX8_distance_23 ?_
    refine lv_aload_n hx hb dX8_distance_26 rfl (lv_at hl 0 rfl) ?_
    refine jp_getr (k := 6) B hP hX0.1 rfl rfl (by decide) jp_fX8 rfl mw_140 dX8_distance_27 ?_
    refine lv_iload_n hx hb dX8_distance_30 rfl (lv_at hl 1 rfl) ?_
    obtain ⟨g_2, hf⟩ := jp_if hf
    refine jp_iald B hP hX0.2.2.2.1 (jp_ok_vp g_2) dX8_distance_31 ?_
    refine lv_iconst (v := 0) hx hb dX8_distance_32 (by decide) ?_
    obtain ⟨g_3, hf⟩ := jp_if hf
    refine jp_iast B hP hS hX0.2.2.2.2.2.2.2 (jp_ok_vp g_3) dX8_distance_33 (fun H locs hP hS => ?_)
    refine lv_iconst (v := 1) hx hb dX8_distance_34 (by decide) ?_
    refine lv_istore_n (lv' := [(2, .int 1), (0, .ref (Γ.2.2.1 20)), (1, .int p1)]) hx hb dX8_distance_35 rfl hl (by decide) rfl (fun ls hl => ?_)
    obtain ⟨⟨e_4, σ_4, τ_4⟩, h_4, hf⟩ := jp_bind hf
    refine lX8_distance_36 (r0 := r0) B hX0 (x1 := p1) (fun v_4 k_4 => ?_) (fun r_4 k_4 => ?_) _ _ _ _ h_4 H locs ls hP hS (lv_sub hl [1, 2, 0] rfl)
    · subst k_4
      dsimp only at hf
      intro H locs ls hP hS hl
      refine lv_aload_n hx hb dX8_distance_131 rfl (lv_at hl 0 rfl) ?_
      refine jp_getr (k := 16) B hP hX0.1 rfl rfl (by decide) jp_fX8 rfl mw_150 dX8_distance_132 ?_
      refine lv_aload_n hx hb dX8_distance_135 rfl (lv_at hl 0 rfl) ?_
      refine jp_getr (k := 5) B hP hX0.1 rfl rfl (by decide) jp_fX8 rfl mw_139 dX8_distance_136 ?_
      refine lv_iload_n hx hb dX8_distance_139 rfl (lv_at hl 1 rfl) ?_
      obtain ⟨g_5, hf⟩ := jp_if hf
      refine jp_iald B hP hX0.2.2.1 (jp_ok_vp g_5) dX8_distance_140 ?_
      obtain ⟨g_6, hf⟩ := jp_if hf
      refine jp_iald B hP hX0.2.2.2.2.2.2.2 (jp_ok_vp g_6) dX8_distance_141 ?_
      refine lv_ldc (v := 1000000) hx hb hown (hts _ mw_414) dX8_distance_142 ?_
      refine lv_icmp_lt (tgt := 151) hx hb dX8_distance_144 (by decide) (fun c_7 => ?_) (fun c_7 => ?_)
      · rw [if_pos c_7] at hf
        refine lv_aload_n hx hb dX8_distance_151 rfl (lv_at hl 0 rfl) ?_
        refine jp_getr (k := 16) B hP hX0.1 rfl rfl (by decide) jp_fX8 rfl mw_150 dX8_distance_152 ?_
        refine lv_aload_n hx hb dX8_distance_155 rfl (lv_at hl 0 rfl) ?_
        refine jp_getr (k := 5) B hP hX0.1 rfl rfl (by decide) jp_fX8 rfl mw_139 dX8_distance_156 ?_
        refine lv_iload_n hx hb dX8_distance_159 rfl (lv_at hl 1 rfl) ?_
        obtain ⟨g_8, hf⟩ := jp_if hf
        refine jp_iald B hP hX0.2.2.1 (jp_ok_vp g_8) dX8_distance_160 ?_
        obtain ⟨g_9, hf⟩ := jp_if hf
        refine jp_iald B hP hX0.2.2.2.2.2.2.2 (jp_ok_vp g_9) dX8_distance_161 ?_
        exact jp_endi B hP hS dX8_distance_162 (jp_inj hf)
      · rw [if_neg c_7] at hf
        refine lv_iconst (v := -1) hx hb dX8_distance_147 (by decide) ?_
        refine lv_goto (tgt := 162) hx hb dX8_distance_148 (by decide) ?_
        exact jp_endi B hP hS dX8_distance_162 (jp_inj hf)
    · subst k_4
      dsimp only at hf
      exact jp_inj hf
  · subst k_1
    dsimp only at hf
    exact jp_inj hf
end
-- X8_missing
section
variable {p : Program} {l : Launch} {e : Jvm.Env} {s : State} {m : MethodId} {args : Array Value} {below : List Frame} {meth : Method} {c : Code} {Γ : jp_G} {Z : Nat → Option jp_Sh} {r0 : Int32} {σ0 : jp_I} {τ0 : jp_J}
def sX8_missing_2 (x1 : Int32) (σ : jp_I) (τ : jp_J) : Option (Sum (Int32) (Sum (Unit) Int32) × jp_I × jp_J) :=
  if (σ 20 1) ≤ x1 then (some (.inr (.inl ()), σ, τ)) else (if jp_ok x1 4 = true then if (σ 22 x1.toNatClampNeg) < 0 then (some (.inr (.inr 1), σ, τ)) else (if jp_ok x1 4 = true then if 0 ≤ (σ 23 x1.toNatClampNeg) then (some (.inl (x1 + 1), σ, τ)) else (some (.inr (.inr 1), σ, τ)) else none) else none)
set_option maxHeartbeats 4000000 in
set_option maxRecDepth 20000 in
theorem wsX8_missing_2 (B : jp_B Γ p s m args meth c RX8 cX8_missing 2 (some .boolean)) (hX0 : jp_hM Z) {x1 : Int32} {σ : jp_I} {τ : jp_J} {q : Sum (Int32) (Sum (Unit) Int32) × jp_I × jp_J} (hf : sX8_missing_2 x1 σ τ = some q) (kb : ∀ v : Int32, q.1 = .inl v → jp_at p l e (jp_R 0 0) s m args below meth c (MQ below (jp_Q Γ Z (some (.int r0)) σ0 τ0) args s 0 0 (jp_A Γ)) 2 Γ Z 2 [(0, .ref (Γ.2.2.1 20)), (1, .int v)] [] q.2.1 q.2.2) (kx : ∀ v : Unit, q.1 = .inr (.inl v) → jp_at p l e (jp_R 0 0) s m args below meth c (MQ below (jp_Q Γ Z (some (.int r0)) σ0 τ0) args s 0 0 (jp_A Γ)) 2 Γ Z 36 [] [] q.2.1 q.2.2) (kr : ∀ v : Int32, q.1 = .inr (.inr v) → r0 = v ∧ σ0 = q.2.1 ∧ τ0 = q.2.2) : jp_at p l e (jp_R 0 0) s m args below meth c (MQ below (jp_Q Γ Z (some (.int r0)) σ0 τ0) args s 0 0 (jp_A Γ)) 2 Γ Z 2 [(0, .ref (Γ.2.2.1 20)), (1, .int x1)] [] σ τ := by
  obtain ⟨hx, hb, hml, hown, hts, hr, hlk, hE⟩ := id B
  unfold sX8_missing_2 at hf
  intro H locs ls hP hS hl
  refine lv_iload_n hx hb dX8_missing_2 rfl (lv_at hl 1 rfl) ?_
  refine lv_aload_n hx hb dX8_missing_3 rfl (lv_at hl 0 rfl) ?_
  refine jp_geti (k := 1) B hP hX0.1 rfl rfl (by decide) jp_fX8 rfl mw_151 dX8_missing_4 ?_
  refine lv_icmp_ge (tgt := 36) hx hb dX8_missing_7 (by decide) (fun c_1 => ?_) (fun c_1 => ?_)
  · rw [if_pos c_1] at hf
    obtain rfl := Option.some.inj hf
    exact kx _ rfl H locs ls hP hS (lv_sub hl [] rfl)
  · rw [if_neg c_1] at hf
    refine lv_aload_n hx hb dX8_missing_10 rfl (lv_at hl 0 rfl) ?_
    refine jp_getr (k := 5) B hP hX0.1 rfl rfl (by decide) jp_fX8 rfl mw_139 dX8_missing_11 ?_
    refine lv_iload_n hx hb dX8_missing_14 rfl (lv_at hl 1 rfl) ?_
    obtain ⟨g_2, hf⟩ := jp_if hf
    refine jp_iald B hP hX0.2.2.1 (jp_ok_vp g_2) dX8_missing_15 ?_
    refine lv_if_lt (tgt := 28) hx hb dX8_missing_16 (by decide) (fun c_3 => ?_) (fun c_3 => ?_)
    · rw [if_pos c_3] at hf
      refine lv_iconst (v := 1) hx hb dX8_missing_28 (by decide) ?_
      obtain rfl := Option.some.inj hf
      exact jp_endz B hP hS (by decide) dX8_missing_29 (kr _ rfl)
    · rw [if_neg c_3] at hf
      refine lv_aload_n hx hb dX8_missing_19 rfl (lv_at hl 0 rfl) ?_
      refine jp_getr (k := 6) B hP hX0.1 rfl rfl (by decide) jp_fX8 rfl mw_140 dX8_missing_20 ?_
      refine lv_iload_n hx hb dX8_missing_23 rfl (lv_at hl 1 rfl) ?_
      obtain ⟨g_4, hf⟩ := jp_if hf
      refine jp_iald B hP hX0.2.2.2.1 (jp_ok_vp g_4) dX8_missing_24 ?_
      refine lv_if_ge (tgt := 30) hx hb dX8_missing_25 (by decide) (fun c_5 => ?_) (fun c_5 => ?_)
      · rw [if_pos c_5] at hf
        refine lv_iinc (v := x1 + 1) (lv' := [(1, .int (x1 + 1)), (0, .ref (Γ.2.2.1 20))]) hx hb dX8_missing_30 hl (k := 1) rfl rfl (by decide) rfl (fun ls hl => ?_)
        refine lv_goto (tgt := 2) hx hb dX8_missing_33 (by decide) ?_
        obtain rfl := Option.some.inj hf
        exact kb _ rfl H locs ls hP hS (lv_sub hl [1, 0] rfl)
      · rw [if_neg c_5] at hf
        refine lv_iconst (v := 1) hx hb dX8_missing_28 (by decide) ?_
        obtain rfl := Option.some.inj hf
        exact jp_endz B hP hS (by decide) dX8_missing_29 (kr _ rfl)
set_option maxHeartbeats 4000000 in
theorem lX8_missing_2 (B : jp_B Γ p s m args meth c RX8 cX8_missing 2 (some .boolean)) (hX0 : jp_hM Z) {e1 : Sum (Unit) Int32} {σ1 : jp_I} {τ1 : jp_J} (kx : ∀ v : Unit, e1 = .inl v → jp_at p l e (jp_R 0 0) s m args below meth c (MQ below (jp_Q Γ Z (some (.int r0)) σ0 τ0) args s 0 0 (jp_A Γ)) 2 Γ Z 36 [] [] σ1 τ1) (kr : ∀ v : Int32, e1 = .inr v → r0 = v ∧ σ0 = σ1 ∧ τ0 = τ1) : ∀ (k : Nat) (v : Int32) (σ : jp_I) (τ : jp_J), jp_loop (fun q : (Int32) × jp_I × jp_J => sX8_missing_2 q.1 q.2.1 q.2.2) k (v, σ, τ) = some (e1, σ1, τ1) → jp_at p l e (jp_R 0 0) s m args below meth c (MQ below (jp_Q Γ Z (some (.int r0)) σ0 τ0) args s 0 0 (jp_A Γ)) 2 Γ Z 2 [(0, .ref (Γ.2.2.1 20)), (1, .int v)] [] σ τ := by
  refine jp_loopI (P := fun (v : Int32) (σ : jp_I) (τ : jp_J) => jp_at p l e (jp_R 0 0) s m args below meth c (MQ below (jp_Q Γ Z (some (.int r0)) σ0 τ0) args s 0 0 (jp_A Γ)) 2 Γ Z 2 [(0, .ref (Γ.2.2.1 20)), (1, .int v)] [] σ τ) (fun v σ τ q hq hbk hen => ?_)
  exact wsX8_missing_2 B hX0 hq (fun v' hv => hbk v' hv) (fun x hv => by obtain ⟨h1, h2, h3⟩ := hen _ hv; rw [h2, h3]; exact kx x h1.symm) (fun r hv => by obtain ⟨h1, h2, h3⟩ := hen _ hv; rw [h2, h3]; exact kr r h1.symm)
def fX8_missing (σ : jp_I) (τ : jp_J) : Option (Int32 × jp_I × jp_J) :=
  (jp_loop (fun q : (Int32) × jp_I × jp_J => sX8_missing_2 q.1 q.2.1 q.2.2) jp_F (0, σ, τ)).bind fun (e_1, σ_1, τ_1) => match e_1 with
    | .inl _ => (some (0, σ_1, τ_1))
    | .inr r_1 => some (r_1, σ_1, τ_1)
set_option maxHeartbeats 4000000 in
set_option maxRecDepth 20000 in
theorem ctX8_missing {l : Launch} {Γ : jp_G} {Z : Nat → Option jp_Sh} (hX0 : jp_hM Z) {σ σ0 : jp_I} {τ τ0 : jp_J} {r0 : Int32} (hf : fX8_missing σ τ = some (r0, σ0, τ0)) : jp_M l yX8_missing cX8_missing 2 (some .boolean) 0 0 Γ Z σ τ [.ref (Γ.2.2.1 20)] (some (.int r0)) σ0 τ0 := by
  refine jp_mk (lv := [(0, .ref (Γ.2.2.1 20))]) (by decide) (Nat.le_of_ble_eq_true rfl) rfl fun p e s m args below meth c B => ?_
  obtain ⟨hx, hb, hml, hown, hts, hr, hlk, hE⟩ := id B
  unfold fX8_missing at hf
  intro H locs ls hP hS hl
  refine lv_iconst (v := 0) hx hb dX8_missing_0 (by decide) ?_
  refine lv_istore_n (lv' := [(1, .int 0), (0, .ref (Γ.2.2.1 20))]) hx hb dX8_missing_1 rfl hl (by decide) rfl (fun ls hl => ?_)
  obtain ⟨⟨e_1, σ_1, τ_1⟩, h_1, hf⟩ := jp_bind hf
  refine lX8_missing_2 (r0 := r0) B hX0 (fun v_1 k_1 => ?_) (fun r_1 k_1 => ?_) _ _ _ _ h_1 H locs ls hP hS (lv_sub hl [1, 0] rfl)
  · subst k_1
    dsimp only at hf
    intro H locs ls hP hS hl
    refine lv_iconst (v := 0) hx hb dX8_missing_36 (by decide) ?_
    exact jp_endz B hP hS (by decide) dX8_missing_37 (jp_inj hf)
  · subst k_1
    dsimp only at hf
    exact jp_inj hf
end
-- X8_boundOf
section
variable {p : Program} {l : Launch} {e : Jvm.Env} {s : State} {m : MethodId} {args : Array Value} {below : List Frame} {meth : Method} {c : Code} {Γ : jp_G} {Z : Nat → Option jp_Sh} {r0 : Int32} {σ0 : jp_I} {τ0 : jp_J}
def sX8_boundOf_4 (x1 : Int32) (x2 : Int32) (σ : jp_I) (τ : jp_J) : Option (Sum (Int32 × Int32) (Sum (Int32) Int32) × jp_I × jp_J) :=
  if (σ 20 1) ≤ x2 then (some (.inr (.inl x1), σ, τ)) else ((fX8_distance x2 σ τ).bind fun (a_2, σ_2, τ_2) => if 0 ≤ a_2 then (some (.inl (x1 + a_2, x2 + 1), σ_2, τ_2)) else (some (.inr (.inr (-1)), σ_2, τ_2)))
set_option maxHeartbeats 4000000 in
set_option maxRecDepth 20000 in
theorem wsX8_boundOf_4 (B : jp_B Γ p s m args meth c RX8 cX8_boundOf 4 (some .int)) (hX0 : jp_hM Z) {x1 : Int32} {x2 : Int32} {σ : jp_I} {τ : jp_J} {q : Sum (Int32 × Int32) (Sum (Int32) Int32) × jp_I × jp_J} (hf : sX8_boundOf_4 x1 x2 σ τ = some q) (kb : ∀ v : Int32 × Int32, q.1 = .inl v → jp_at p l e (jp_R 3 71) s m args below meth c (MQ below (jp_Q Γ Z (some (.int r0)) σ0 τ0) args s 0 0 (jp_A Γ)) 4 Γ Z 4 [(0, .ref (Γ.2.2.1 20)), (1, .int v.1), (2, .int v.2)] [] q.2.1 q.2.2) (kx : ∀ v : Int32, q.1 = .inr (.inl v) → jp_at p l e (jp_R 3 71) s m args below meth c (MQ below (jp_Q Γ Z (some (.int r0)) σ0 τ0) args s 0 0 (jp_A Γ)) 4 Γ Z 34 [(1, .int v)] [] q.2.1 q.2.2) (kr : ∀ v : Int32, q.1 = .inr (.inr v) → r0 = v ∧ σ0 = q.2.1 ∧ τ0 = q.2.2) : jp_at p l e (jp_R 3 71) s m args below meth c (MQ below (jp_Q Γ Z (some (.int r0)) σ0 τ0) args s 0 0 (jp_A Γ)) 4 Γ Z 4 [(0, .ref (Γ.2.2.1 20)), (1, .int x1), (2, .int x2)] [] σ τ := by
  obtain ⟨hx, hb, hml, hown, hts, hr, hlk, hE⟩ := id B
  unfold sX8_boundOf_4 at hf
  intro H locs ls hP hS hl
  refine lv_iload_n hx hb dX8_boundOf_4 rfl (lv_at hl 2 rfl) ?_
  refine lv_aload_n hx hb dX8_boundOf_5 rfl (lv_at hl 0 rfl) ?_
  refine jp_geti (k := 1) B hP hX0.1 rfl rfl (by decide) jp_fX8 rfl mw_151 dX8_boundOf_6 ?_
  refine lv_icmp_ge (tgt := 34) hx hb dX8_boundOf_9 (by decide) (fun c_1 => ?_) (fun c_1 => ?_)
  · rw [if_pos c_1] at hf
    obtain rfl := Option.some.inj hf
    exact kx _ rfl H locs ls hP hS (lv_sub hl [1] rfl)
  · rw [if_neg c_1] at hf
    refine lv_aload_n hx hb dX8_boundOf_12 rfl (lv_at hl 0 rfl) ?_
    refine lv_iload_n hx hb dX8_boundOf_13 rfl (lv_at hl 2 rfl) ?_
    obtain ⟨⟨a_2, σ_2, τ_2⟩, h_2, hf⟩ := jp_bind hf
    dsimp only at hf
    refine jp_callV (rest := []) B hP hS hl (ctX8_distance ⟨hX0.1, hX0.2.1, hX0.2.2.1, hX0.2.2.2.1, hX0.2.2.2.2.1, hX0.2.2.2.2.2.1, hX0.2.2.2.2.2.2.1, hX0.2.2.2.2.2.2.2⟩ h_2) hX0.1 rfl mw_529 mw_526 mw_527 mw_528 mw_5 ddX8_distance ⟨Nat.le_of_ble_eq_true rfl, Nat.le_of_ble_eq_true rfl⟩ ⟨Nat.zero_le _, Nat.zero_le _⟩ rfl (Nat.le_of_ble_eq_true rfl) dX8_boundOf_14 (fun H locs hP hS => ?_)
    refine lv_istore_n (lv' := [(3, .int a_2), (0, .ref (Γ.2.2.1 20)), (1, .int x1), (2, .int x2)]) hx hb dX8_boundOf_17 rfl hl (by decide) rfl (fun ls hl => ?_)
    refine lv_iload_n hx hb dX8_boundOf_18 rfl (lv_at hl 0 rfl) ?_
    refine lv_if_ge (tgt := 24) hx hb dX8_boundOf_19 (by decide) (fun c_3 => ?_) (fun c_3 => ?_)
    · rw [if_pos c_3] at hf
      refine lv_iload_n hx hb dX8_boundOf_24 rfl (lv_at hl 2 rfl) ?_
      refine lv_iload_n hx hb dX8_boundOf_25 rfl (lv_at hl 0 rfl) ?_
      refine lv_iadd hx hb dX8_boundOf_26 ?_
      refine lv_istore_n (lv' := [(1, .int (x1 + a_2)), (3, .int a_2), (0, .ref (Γ.2.2.1 20)), (2, .int x2)]) hx hb dX8_boundOf_27 rfl hl (by decide) rfl (fun ls hl => ?_)
      refine lv_iinc (v := x2 + 1) (lv' := [(2, .int (x2 + 1)), (1, .int (x1 + a_2)), (3, .int a_2), (0, .ref (Γ.2.2.1 20))]) hx hb dX8_boundOf_28 hl (k := 3) rfl rfl (by decide) rfl (fun ls hl => ?_)
      refine lv_goto (tgt := 4) hx hb dX8_boundOf_31 (by decide) ?_
      obtain rfl := Option.some.inj hf
      exact kb _ rfl H locs ls hP hS (lv_sub hl [3, 1, 0] rfl)
    · rw [if_neg c_3] at hf
      refine lv_iconst (v := -1) hx hb dX8_boundOf_22 (by decide) ?_
      obtain rfl := Option.some.inj hf
      exact jp_endi B hP hS dX8_boundOf_23 (kr _ rfl)
set_option maxHeartbeats 4000000 in
theorem lX8_boundOf_4 (B : jp_B Γ p s m args meth c RX8 cX8_boundOf 4 (some .int)) (hX0 : jp_hM Z) {e1 : Sum (Int32) Int32} {σ1 : jp_I} {τ1 : jp_J} (kx : ∀ v : Int32, e1 = .inl v → jp_at p l e (jp_R 3 71) s m args below meth c (MQ below (jp_Q Γ Z (some (.int r0)) σ0 τ0) args s 0 0 (jp_A Γ)) 4 Γ Z 34 [(1, .int v)] [] σ1 τ1) (kr : ∀ v : Int32, e1 = .inr v → r0 = v ∧ σ0 = σ1 ∧ τ0 = τ1) : ∀ (k : Nat) (v : Int32 × Int32) (σ : jp_I) (τ : jp_J), jp_loop (fun q : (Int32 × Int32) × jp_I × jp_J => sX8_boundOf_4 q.1.1 q.1.2 q.2.1 q.2.2) k (v, σ, τ) = some (e1, σ1, τ1) → jp_at p l e (jp_R 3 71) s m args below meth c (MQ below (jp_Q Γ Z (some (.int r0)) σ0 τ0) args s 0 0 (jp_A Γ)) 4 Γ Z 4 [(0, .ref (Γ.2.2.1 20)), (1, .int v.1), (2, .int v.2)] [] σ τ := by
  refine jp_loopI (P := fun (v : Int32 × Int32) (σ : jp_I) (τ : jp_J) => jp_at p l e (jp_R 3 71) s m args below meth c (MQ below (jp_Q Γ Z (some (.int r0)) σ0 τ0) args s 0 0 (jp_A Γ)) 4 Γ Z 4 [(0, .ref (Γ.2.2.1 20)), (1, .int v.1), (2, .int v.2)] [] σ τ) (fun v σ τ q hq hbk hen => ?_)
  exact wsX8_boundOf_4 B hX0 hq (fun v' hv => hbk v' hv) (fun x hv => by obtain ⟨h1, h2, h3⟩ := hen _ hv; rw [h2, h3]; exact kx x h1.symm) (fun r hv => by obtain ⟨h1, h2, h3⟩ := hen _ hv; rw [h2, h3]; exact kr r h1.symm)
def fX8_boundOf (σ : jp_I) (τ : jp_J) : Option (Int32 × jp_I × jp_J) :=
  (jp_loop (fun q : (Int32 × Int32) × jp_I × jp_J => sX8_boundOf_4 q.1.1 q.1.2 q.2.1 q.2.2) jp_F ((0, 0), σ, τ)).bind fun (e_1, σ_1, τ_1) => match e_1 with
    | .inl v_1 => (some (v_1, σ_1, τ_1))
    | .inr r_1 => some (r_1, σ_1, τ_1)
set_option maxHeartbeats 4000000 in
set_option maxRecDepth 20000 in
theorem ctX8_boundOf {l : Launch} {Γ : jp_G} {Z : Nat → Option jp_Sh} (hX0 : jp_hM Z) {σ σ0 : jp_I} {τ τ0 : jp_J} {r0 : Int32} (hf : fX8_boundOf σ τ = some (r0, σ0, τ0)) : jp_M l yX8_boundOf cX8_boundOf 4 (some .int) 3 71 Γ Z σ τ [.ref (Γ.2.2.1 20)] (some (.int r0)) σ0 τ0 := by
  refine jp_mk (lv := [(0, .ref (Γ.2.2.1 20))]) (by decide) (Nat.le_of_ble_eq_true rfl) rfl fun p e s m args below meth c B => ?_
  obtain ⟨hx, hb, hml, hown, hts, hr, hlk, hE⟩ := id B
  unfold fX8_boundOf at hf
  intro H locs ls hP hS hl
  refine lv_iconst (v := 0) hx hb dX8_boundOf_0 (by decide) ?_
  refine lv_istore_n (lv' := [(1, .int 0), (0, .ref (Γ.2.2.1 20))]) hx hb dX8_boundOf_1 rfl hl (by decide) rfl (fun ls hl => ?_)
  refine lv_iconst (v := 0) hx hb dX8_boundOf_2 (by decide) ?_
  refine lv_istore_n (lv' := [(2, .int 0), (1, .int 0), (0, .ref (Γ.2.2.1 20))]) hx hb dX8_boundOf_3 rfl hl (by decide) rfl (fun ls hl => ?_)
  obtain ⟨⟨e_1, σ_1, τ_1⟩, h_1, hf⟩ := jp_bind hf
  refine lX8_boundOf_4 (r0 := r0) B hX0 (fun v_1 k_1 => ?_) (fun r_1 k_1 => ?_) _ _ _ _ h_1 H locs ls hP hS (lv_sub hl [2, 1, 0] rfl)
  · subst k_1
    dsimp only at hf
    intro H locs ls hP hS hl
    refine lv_iload_n hx hb dX8_boundOf_34 rfl (lv_at hl 0 rfl) ?_
    exact jp_endi B hP hS dX8_boundOf_35 (jp_inj hf)
  · subst k_1
    dsimp only at hf
    exact jp_inj hf
end
