-- X7_read
section
variable {p : Program} {l : Launch} {e : Jvm.Env} {s : State} {m : MethodId} {args : Array Value} {below : List Frame} {meth : Method} {c : Code} {Γ : jp_G} {Z : Nat → Option jp_Sh} {r0 : Int32} {σ0 : jp_I} {τ0 : jp_J}
def fX7_read (row : Nat) (N : Nat) (p1 : Int32) (σ : jp_I) (τ : jp_J) : Option (Int32 × jp_I × jp_J) :=
  if p1 < 0 then (some ((-1), σ, τ)) else (if (nI N) ≤ p1 then (some ((-1), σ, τ)) else (if jp_ok p1 N = true then some (σ row p1.toNatClampNeg, σ, τ) else none))
set_option maxHeartbeats 4000000 in
set_option maxRecDepth 20000 in
theorem ctX7_read {l : Launch} {Γ : jp_G} {Z : Nat → Option jp_Sh} {row : Nat} {N : Nat} (hX0 : jp_hA Z row N) {p1 : Int32} {σ σ0 : jp_I} {τ τ0 : jp_J} {r0 : Int32} (hf : fX7_read row N p1 σ τ = some (r0, σ0, τ0)) : jp_M l yX7_read cX7_read 2 (some .int) 0 0 Γ Z σ τ [.ref (Γ.2.2.1 row), .int p1] (some (.int r0)) σ0 τ0 := by
  refine jp_mk (lv := [(0, .ref (Γ.2.2.1 row)), (1, .int p1)]) (by decide) (Nat.le_of_ble_eq_true rfl) rfl fun p e s m args below meth c B => ?_
  obtain ⟨hx, hb, hml, hown, hts, hr, hlk, hE⟩ := id B
  unfold fX7_read at hf
  intro H locs ls hP hS hl
  refine lv_iload_n hx hb dX7_read_0 rfl (lv_at hl 1 rfl) ?_
  refine lv_if_lt (tgt := 16) hx hb dX7_read_1 (by decide) (fun c_1 => ?_) (fun c_1 => ?_)
  · rw [if_pos c_1] at hf
    refine lv_iconst (v := -1) hx hb dX7_read_16 (by decide) ?_
    exact jp_endi B hP hS dX7_read_17 (jp_inj hf)
  · rw [if_neg c_1] at hf
    refine lv_iload_n hx hb dX7_read_4 rfl (lv_at hl 1 rfl) ?_
    refine lv_aload_n hx hb dX7_read_5 rfl (lv_at hl 0 rfl) ?_
    refine jp_alen B hP hX0 dX7_read_6 ?_
    refine lv_icmp_ge (tgt := 16) hx hb dX7_read_7 (by decide) (fun c_2 => ?_) (fun c_2 => ?_)
    · rw [if_pos c_2] at hf
      refine lv_iconst (v := -1) hx hb dX7_read_16 (by decide) ?_
      exact jp_endi B hP hS dX7_read_17 (jp_inj hf)
    · rw [if_neg c_2] at hf
      refine lv_aload_n hx hb dX7_read_10 rfl (lv_at hl 0 rfl) ?_
      refine lv_iload_n hx hb dX7_read_11 rfl (lv_at hl 1 rfl) ?_
      obtain ⟨g_3, hf⟩ := jp_if hf
      refine jp_iald B hP hX0 (jp_ok_vp g_3) dX7_read_12 ?_
      refine lv_goto (tgt := 17) hx hb dX7_read_13 (by decide) ?_
      exact jp_endi B hP hS dX7_read_17 (jp_inj hf)
end
-- X7_write
section
variable {p : Program} {l : Launch} {e : Jvm.Env} {s : State} {m : MethodId} {args : Array Value} {below : List Frame} {meth : Method} {c : Code} {Γ : jp_G} {Z : Nat → Option jp_Sh} {r0 : Int32} {σ0 : jp_I} {τ0 : jp_J}
def fX7_write (row : Nat) (N : Nat) (p1 : Int32) (p2 : Int32) (σ : jp_I) (τ : jp_J) : Option (Int32 × jp_I × jp_J) :=
  if p1 < 0 then (some (0, σ, τ)) else (if (nI N) ≤ p1 then (some (0, σ, τ)) else (if jp_ok p1 N = true then some (0, jp_up σ row p1.toNatClampNeg p2, τ) else none))
set_option maxHeartbeats 4000000 in
set_option maxRecDepth 20000 in
theorem ctX7_write {l : Launch} {Γ : jp_G} {Z : Nat → Option jp_Sh} {row : Nat} {N : Nat} (hX0 : jp_hA Z row N) {p1 : Int32} {p2 : Int32} {σ σ0 : jp_I} {τ τ0 : jp_J} {r0 : Int32} (hf : fX7_write row N p1 p2 σ τ = some (r0, σ0, τ0)) : jp_M l yX7_write cX7_write 3 none 0 0 Γ Z σ τ [.ref (Γ.2.2.1 row), .int p1, .int p2] none σ0 τ0 := by
  refine jp_mk (lv := [(0, .ref (Γ.2.2.1 row)), (1, .int p1), (2, .int p2)]) (by decide) (Nat.le_of_ble_eq_true rfl) rfl fun p e s m args below meth c B => ?_
  obtain ⟨hx, hb, hml, hown, hts, hr, hlk, hE⟩ := id B
  unfold fX7_write at hf
  intro H locs ls hP hS hl
  refine lv_iload_n hx hb dX7_write_0 rfl (lv_at hl 1 rfl) ?_
  refine lv_if_lt (tgt := 14) hx hb dX7_write_1 (by decide) (fun c_1 => ?_) (fun c_1 => ?_)
  · rw [if_pos c_1] at hf
    exact jp_endv B hP hS dX7_write_14 (jp_inj hf)
  · rw [if_neg c_1] at hf
    refine lv_iload_n hx hb dX7_write_4 rfl (lv_at hl 1 rfl) ?_
    refine lv_aload_n hx hb dX7_write_5 rfl (lv_at hl 0 rfl) ?_
    refine jp_alen B hP hX0 dX7_write_6 ?_
    refine lv_icmp_ge (tgt := 14) hx hb dX7_write_7 (by decide) (fun c_2 => ?_) (fun c_2 => ?_)
    · rw [if_pos c_2] at hf
      exact jp_endv B hP hS dX7_write_14 (jp_inj hf)
    · rw [if_neg c_2] at hf
      refine lv_aload_n hx hb dX7_write_10 rfl (lv_at hl 0 rfl) ?_
      refine lv_iload_n hx hb dX7_write_11 rfl (lv_at hl 1 rfl) ?_
      refine lv_iload_n hx hb dX7_write_12 rfl (lv_at hl 2 rfl) ?_
      obtain ⟨g_3, hf⟩ := jp_if hf
      refine jp_iast B hP hS hX0 (jp_ok_vp g_3) dX7_write_13 (fun H locs hP hS => ?_)
      exact jp_endv B hP hS dX7_write_14 (jp_inj hf)
end
-- X7_ownCost
section
variable {p : Program} {l : Launch} {e : Jvm.Env} {s : State} {m : MethodId} {args : Array Value} {below : List Frame} {meth : Method} {c : Code} {Γ : jp_G} {Z : Nat → Option jp_Sh} {r0 : Int32} {σ0 : jp_I} {τ0 : jp_J}
def fX7_ownCost (p0 : Int32) (p1 : Int32) (p2 : Int32) (σ : jp_I) (τ : jp_J) : Option (Int32 × jp_I × jp_J) :=
  if p0 = p1 then (if p1 = p2 then (some (0, σ, τ)) else (some (1, σ, τ))) else (some (1, σ, τ))
set_option maxHeartbeats 4000000 in
set_option maxRecDepth 20000 in
theorem ctX7_ownCost {l : Launch} {Γ : jp_G} {Z : Nat → Option jp_Sh} {p0 : Int32} {p1 : Int32} {p2 : Int32} {σ σ0 : jp_I} {τ τ0 : jp_J} {r0 : Int32} (hf : fX7_ownCost p0 p1 p2 σ τ = some (r0, σ0, τ0)) : jp_M l yX7_ownCost cX7_ownCost 3 (some .int) 0 0 Γ Z σ τ [.int p0, .int p1, .int p2] (some (.int r0)) σ0 τ0 := by
  refine jp_mk (lv := [(0, .int p0), (1, .int p1), (2, .int p2)]) (by decide) (Nat.le_of_ble_eq_true rfl) rfl fun p e s m args below meth c B => ?_
  obtain ⟨hx, hb, hml, hown, hts, hr, hlk, hE⟩ := id B
  unfold fX7_ownCost at hf
  intro H locs ls hP hS hl
  refine lv_iload_n hx hb dX7_ownCost_0 rfl (lv_at hl 0 rfl) ?_
  refine lv_iload_n hx hb dX7_ownCost_1 rfl (lv_at hl 1 rfl) ?_
  refine lv_icmp_ne (tgt := 14) hx hb dX7_ownCost_2 (by decide) (fun c_1 => ?_) (fun c_1 => ?_)
  · rw [if_neg c_1] at hf
    refine lv_iconst (v := 1) hx hb dX7_ownCost_14 (by decide) ?_
    exact jp_endi B hP hS dX7_ownCost_15 (jp_inj hf)
  · rw [if_pos c_1] at hf
    refine lv_iload_n hx hb dX7_ownCost_5 rfl (lv_at hl 1 rfl) ?_
    refine lv_iload_n hx hb dX7_ownCost_6 rfl (lv_at hl 2 rfl) ?_
    refine lv_icmp_ne (tgt := 14) hx hb dX7_ownCost_7 (by decide) (fun c_2 => ?_) (fun c_2 => ?_)
    · rw [if_neg c_2] at hf
      refine lv_iconst (v := 1) hx hb dX7_ownCost_14 (by decide) ?_
      exact jp_endi B hP hS dX7_ownCost_15 (jp_inj hf)
    · rw [if_pos c_2] at hf
      refine lv_iconst (v := 0) hx hb dX7_ownCost_10 (by decide) ?_
      refine lv_goto (tgt := 15) hx hb dX7_ownCost_11 (by decide) ?_
      exact jp_endi B hP hS dX7_ownCost_15 (jp_inj hf)
end
-- X7_ownerOf
section
variable {p : Program} {l : Launch} {e : Jvm.Env} {s : State} {m : MethodId} {args : Array Value} {below : List Frame} {meth : Method} {c : Code} {Γ : jp_G} {Z : Nat → Option jp_Sh} {r0 : Int32} {σ0 : jp_I} {τ0 : jp_J}
def sX7_ownerOf_2 (row : Nat) (N : Nat) (x1 : Int32) (x2 : Int32) (σ : jp_I) (τ : jp_J) : Option (Sum (Int32) (Sum (Unit) Int32) × jp_I × jp_J) :=
  if (nI N) ≤ x2 then (some (.inr (.inl ()), σ, τ)) else (if jp_ok x2 N = true then if (σ row x2.toNatClampNeg) = x1 then (some (.inr (.inr x2), σ, τ)) else (some (.inl (x2 + 1), σ, τ)) else none)
set_option maxHeartbeats 4000000 in
set_option maxRecDepth 20000 in
theorem wsX7_ownerOf_2 (B : jp_B Γ p s m args meth c RX7 cX7_ownerOf 3 (some .int)) {row : Nat} {N : Nat} (hX0 : jp_hA Z row N) {x1 : Int32} {x2 : Int32} {σ : jp_I} {τ : jp_J} {q : Sum (Int32) (Sum (Unit) Int32) × jp_I × jp_J} (hf : sX7_ownerOf_2 row N x1 x2 σ τ = some q) (kb : ∀ v : Int32, q.1 = .inl v → jp_at p l e (jp_R 0 0) s m args below meth c (MQ below (jp_Q Γ Z (some (.int r0)) σ0 τ0) args s 0 0 (jp_A Γ)) 3 Γ Z 2 [(0, .ref (Γ.2.2.1 row)), (1, .int x1), (2, .int v)] [] q.2.1 q.2.2) (kx : ∀ v : Unit, q.1 = .inr (.inl v) → jp_at p l e (jp_R 0 0) s m args below meth c (MQ below (jp_Q Γ Z (some (.int r0)) σ0 τ0) args s 0 0 (jp_A Γ)) 3 Γ Z 23 [] [] q.2.1 q.2.2) (kr : ∀ v : Int32, q.1 = .inr (.inr v) → r0 = v ∧ σ0 = q.2.1 ∧ τ0 = q.2.2) : jp_at p l e (jp_R 0 0) s m args below meth c (MQ below (jp_Q Γ Z (some (.int r0)) σ0 τ0) args s 0 0 (jp_A Γ)) 3 Γ Z 2 [(0, .ref (Γ.2.2.1 row)), (1, .int x1), (2, .int x2)] [] σ τ := by
  obtain ⟨hx, hb, hml, hown, hts, hr, hlk, hE⟩ := id B
  unfold sX7_ownerOf_2 at hf
  intro H locs ls hP hS hl
  refine lv_iload_n hx hb dX7_ownerOf_2 rfl (lv_at hl 2 rfl) ?_
  refine lv_aload_n hx hb dX7_ownerOf_3 rfl (lv_at hl 0 rfl) ?_
  refine jp_alen B hP hX0 dX7_ownerOf_4 ?_
  refine lv_icmp_ge (tgt := 23) hx hb dX7_ownerOf_5 (by decide) (fun c_1 => ?_) (fun c_1 => ?_)
  · rw [if_pos c_1] at hf
    obtain rfl := Option.some.inj hf
    exact kx _ rfl H locs ls hP hS (lv_sub hl [] rfl)
  · rw [if_neg c_1] at hf
    refine lv_aload_n hx hb dX7_ownerOf_8 rfl (lv_at hl 0 rfl) ?_
    refine lv_iload_n hx hb dX7_ownerOf_9 rfl (lv_at hl 2 rfl) ?_
    obtain ⟨g_2, hf⟩ := jp_if hf
    refine jp_iald B hP hX0 (jp_ok_vp g_2) dX7_ownerOf_10 ?_
    refine lv_iload_n hx hb dX7_ownerOf_11 rfl (lv_at hl 1 rfl) ?_
    refine lv_icmp_ne (tgt := 17) hx hb dX7_ownerOf_12 (by decide) (fun c_3 => ?_) (fun c_3 => ?_)
    · rw [if_neg c_3] at hf
      refine lv_iinc (v := x2 + 1) (lv' := [(2, .int (x2 + 1)), (0, .ref (Γ.2.2.1 row)), (1, .int x1)]) hx hb dX7_ownerOf_17 hl (k := 2) rfl rfl (by decide) rfl (fun ls hl => ?_)
      refine lv_goto (tgt := 2) hx hb dX7_ownerOf_20 (by decide) ?_
      obtain rfl := Option.some.inj hf
      exact kb _ rfl H locs ls hP hS (lv_sub hl [1, 2, 0] rfl)
    · rw [if_pos c_3] at hf
      refine lv_iload_n hx hb dX7_ownerOf_15 rfl (lv_at hl 2 rfl) ?_
      obtain rfl := Option.some.inj hf
      exact jp_endi B hP hS dX7_ownerOf_16 (kr _ rfl)
set_option maxHeartbeats 4000000 in
theorem lX7_ownerOf_2 (B : jp_B Γ p s m args meth c RX7 cX7_ownerOf 3 (some .int)) {row : Nat} {N : Nat} (hX0 : jp_hA Z row N) {x1 : Int32} {e1 : Sum (Unit) Int32} {σ1 : jp_I} {τ1 : jp_J} (kx : ∀ v : Unit, e1 = .inl v → jp_at p l e (jp_R 0 0) s m args below meth c (MQ below (jp_Q Γ Z (some (.int r0)) σ0 τ0) args s 0 0 (jp_A Γ)) 3 Γ Z 23 [] [] σ1 τ1) (kr : ∀ v : Int32, e1 = .inr v → r0 = v ∧ σ0 = σ1 ∧ τ0 = τ1) : ∀ (k : Nat) (v : Int32) (σ : jp_I) (τ : jp_J), jp_loop (fun q : (Int32) × jp_I × jp_J => sX7_ownerOf_2 row N x1 q.1 q.2.1 q.2.2) k (v, σ, τ) = some (e1, σ1, τ1) → jp_at p l e (jp_R 0 0) s m args below meth c (MQ below (jp_Q Γ Z (some (.int r0)) σ0 τ0) args s 0 0 (jp_A Γ)) 3 Γ Z 2 [(0, .ref (Γ.2.2.1 row)), (1, .int x1), (2, .int v)] [] σ τ := by
  refine jp_loopI (P := fun (v : Int32) (σ : jp_I) (τ : jp_J) => jp_at p l e (jp_R 0 0) s m args below meth c (MQ below (jp_Q Γ Z (some (.int r0)) σ0 τ0) args s 0 0 (jp_A Γ)) 3 Γ Z 2 [(0, .ref (Γ.2.2.1 row)), (1, .int x1), (2, .int v)] [] σ τ) (fun v σ τ q hq hbk hen => ?_)
  exact wsX7_ownerOf_2 B hX0 hq (fun v' hv => hbk v' hv) (fun x hv => by obtain ⟨h1, h2, h3⟩ := hen _ hv; rw [h2, h3]; exact kx x h1.symm) (fun r hv => by obtain ⟨h1, h2, h3⟩ := hen _ hv; rw [h2, h3]; exact kr r h1.symm)
def fX7_ownerOf (row : Nat) (N : Nat) (p1 : Int32) (σ : jp_I) (τ : jp_J) : Option (Int32 × jp_I × jp_J) :=
  (jp_loop (fun q : (Int32) × jp_I × jp_J => sX7_ownerOf_2 row N p1 q.1 q.2.1 q.2.2) jp_F (0, σ, τ)).bind fun (e_1, σ_1, τ_1) => match e_1 with
    | .inl _ => (some ((-1), σ_1, τ_1))
    | .inr r_1 => some (r_1, σ_1, τ_1)
set_option maxHeartbeats 4000000 in
set_option maxRecDepth 20000 in
theorem ctX7_ownerOf {l : Launch} {Γ : jp_G} {Z : Nat → Option jp_Sh} {row : Nat} {N : Nat} (hX0 : jp_hA Z row N) {p1 : Int32} {σ σ0 : jp_I} {τ τ0 : jp_J} {r0 : Int32} (hf : fX7_ownerOf row N p1 σ τ = some (r0, σ0, τ0)) : jp_M l yX7_ownerOf cX7_ownerOf 3 (some .int) 0 0 Γ Z σ τ [.ref (Γ.2.2.1 row), .int p1] (some (.int r0)) σ0 τ0 := by
  refine jp_mk (lv := [(0, .ref (Γ.2.2.1 row)), (1, .int p1)]) (by decide) (Nat.le_of_ble_eq_true rfl) rfl fun p e s m args below meth c B => ?_
  obtain ⟨hx, hb, hml, hown, hts, hr, hlk, hE⟩ := id B
  unfold fX7_ownerOf at hf
  intro H locs ls hP hS hl
  refine lv_iconst (v := 0) hx hb dX7_ownerOf_0 (by decide) ?_
  refine lv_istore_n (lv' := [(2, .int 0), (0, .ref (Γ.2.2.1 row)), (1, .int p1)]) hx hb dX7_ownerOf_1 rfl hl (by decide) rfl (fun ls hl => ?_)
  obtain ⟨⟨e_1, σ_1, τ_1⟩, h_1, hf⟩ := jp_bind hf
  refine lX7_ownerOf_2 (r0 := r0) B hX0 (x1 := p1) (fun v_1 k_1 => ?_) (fun r_1 k_1 => ?_) _ _ _ _ h_1 H locs ls hP hS (lv_sub hl [1, 2, 0] rfl)
  · subst k_1
    dsimp only at hf
    intro H locs ls hP hS hl
    refine lv_iconst (v := -1) hx hb dX7_ownerOf_23 (by decide) ?_
    exact jp_endi B hP hS dX7_ownerOf_24 (jp_inj hf)
  · subst k_1
    dsimp only at hf
    exact jp_inj hf
end
-- X7_jointStates
section
variable {p : Program} {l : Launch} {e : Jvm.Env} {s : State} {m : MethodId} {args : Array Value} {below : List Frame} {meth : Method} {c : Code} {Γ : jp_G} {Z : Nat → Option jp_Sh} {r0 : Int32} {σ0 : jp_I} {τ0 : jp_J}
def fX7_jointStates (p0 : Int32) (σ : jp_I) (τ : jp_J) : Option (Int32 × jp_I × jp_J) :=
  if 0 < p0 then (if p0 = 1 then (some (36, σ, τ)) else (some (1296, σ, τ))) else (some (1, σ, τ))
set_option maxHeartbeats 4000000 in
set_option maxRecDepth 20000 in
theorem ctX7_jointStates {l : Launch} {Γ : jp_G} {Z : Nat → Option jp_Sh} {p0 : Int32} {σ σ0 : jp_I} {τ τ0 : jp_J} {r0 : Int32} (hf : fX7_jointStates p0 σ τ = some (r0, σ0, τ0)) : jp_M l yX7_jointStates cX7_jointStates 1 (some .int) 0 0 Γ Z σ τ [.int p0] (some (.int r0)) σ0 τ0 := by
  refine jp_mk (lv := [(0, .int p0)]) (by decide) (Nat.le_of_ble_eq_true rfl) rfl fun p e s m args below meth c B => ?_
  obtain ⟨hx, hb, hml, hown, hts, hr, hlk, hE⟩ := id B
  unfold fX7_jointStates at hf
  intro H locs ls hP hS hl
  refine lv_iload_n hx hb dX7_jointStates_0 rfl (lv_at hl 0 rfl) ?_
  refine lv_if_gt (tgt := 8) hx hb dX7_jointStates_1 (by decide) (fun c_1 => ?_) (fun c_1 => ?_)
  · rw [if_pos c_1] at hf
    refine lv_iload_n hx hb dX7_jointStates_8 rfl (lv_at hl 0 rfl) ?_
    refine lv_iconst (v := 1) hx hb dX7_jointStates_9 (by decide) ?_
    refine lv_icmp_ne (tgt := 18) hx hb dX7_jointStates_10 (by decide) (fun c_2 => ?_) (fun c_2 => ?_)
    · rw [if_neg c_2] at hf
      refine lv_sipush (v := 1296) hx hb dX7_jointStates_18 (by decide) ?_
      exact jp_endi B hP hS dX7_jointStates_21 (jp_inj hf)
    · rw [if_pos c_2] at hf
      refine lv_bipush (v := 36) hx hb dX7_jointStates_13 (by decide) ?_
      refine lv_goto (tgt := 21) hx hb dX7_jointStates_15 (by decide) ?_
      exact jp_endi B hP hS dX7_jointStates_21 (jp_inj hf)
  · rw [if_neg c_1] at hf
    refine lv_iconst (v := 1) hx hb dX7_jointStates_4 (by decide) ?_
    refine lv_goto (tgt := 21) hx hb dX7_jointStates_5 (by decide) ?_
    exact jp_endi B hP hS dX7_jointStates_21 (jp_inj hf)
end
-- X7_mostSteps
section
variable {p : Program} {l : Launch} {e : Jvm.Env} {s : State} {m : MethodId} {args : Array Value} {below : List Frame} {meth : Method} {c : Code} {Γ : jp_G} {Z : Nat → Option jp_Sh} {r0 : Int32} {σ0 : jp_I} {τ0 : jp_J}
def fX7_mostSteps (p0 : Int32) (σ : jp_I) (τ : jp_J) : Option (Int32 × jp_I × jp_J) :=
  if 2 < p0 then (some (40, σ, τ)) else ((fX7_jointStates p0 σ τ).bind fun (a_2, σ_2, τ_2) => some (a_2 - 1, σ_2, τ_2))
set_option maxHeartbeats 4000000 in
set_option maxRecDepth 20000 in
theorem ctX7_mostSteps {l : Launch} {Γ : jp_G} {Z : Nat → Option jp_Sh} {p0 : Int32} {σ σ0 : jp_I} {τ τ0 : jp_J} {r0 : Int32} (hf : fX7_mostSteps p0 σ τ = some (r0, σ0, τ0)) : jp_M l yX7_mostSteps cX7_mostSteps 1 (some .int) 1 20 Γ Z σ τ [.int p0] (some (.int r0)) σ0 τ0 := by
  refine jp_mk (lv := [(0, .int p0)]) (by decide) (Nat.le_of_ble_eq_true rfl) rfl fun p e s m args below meth c B => ?_
  obtain ⟨hx, hb, hml, hown, hts, hr, hlk, hE⟩ := id B
  unfold fX7_mostSteps at hf
  intro H locs ls hP hS hl
  refine lv_iload_n hx hb dX7_mostSteps_0 rfl (lv_at hl 0 rfl) ?_
  refine lv_iconst (v := 2) hx hb dX7_mostSteps_1 (by decide) ?_
  refine lv_icmp_gt (tgt := 14) hx hb dX7_mostSteps_2 (by decide) (fun c_1 => ?_) (fun c_1 => ?_)
  · rw [if_pos c_1] at hf
    refine lv_bipush (v := 40) hx hb dX7_mostSteps_14 (by decide) ?_
    exact jp_endi B hP hS dX7_mostSteps_16 (jp_inj hf)
  · rw [if_neg c_1] at hf
    refine lv_iload_n hx hb dX7_mostSteps_5 rfl (lv_at hl 0 rfl) ?_
    obtain ⟨⟨a_2, σ_2, τ_2⟩, h_2, hf⟩ := jp_bind hf
    dsimp only at hf
    refine jp_callS (rest := []) B hP hS hl (ctX7_jointStates h_2) mw_110 mw_122 mw_109 mw_2 ddX7_jointStates ⟨Nat.le_of_ble_eq_true rfl, Nat.le_of_ble_eq_true rfl⟩ ⟨Nat.zero_le _, Nat.zero_le _⟩ rfl (Nat.le_of_ble_eq_true rfl) dX7_mostSteps_6 (fun H locs hP hS => ?_)
    refine lv_iconst (v := 1) hx hb dX7_mostSteps_9 (by decide) ?_
    refine lv_isub hx hb dX7_mostSteps_10 ?_
    refine lv_goto (tgt := 16) hx hb dX7_mostSteps_11 (by decide) ?_
    exact jp_endi B hP hS dX7_mostSteps_16 (jp_inj hf)
end
-- J7_fill_53178
section
variable {p : Program} {l : Launch} {e : Jvm.Env} {s : State} {m : MethodId} {args : Array Value} {below : List Frame} {meth : Method} {c : Code} {Γ : jp_G} {Z : Nat → Option jp_Sh} {r0 : Int32} {σ0 : jp_I} {τ0 : jp_J}
def sJ7_fill_53178_5 (row : Nat) (N : Nat) (x1 : Int32) (x2 : Int32) (x3 : Int32) (σ : jp_I) (τ : jp_J) : Option (Sum (Int32) (Sum (Unit) Int32) × jp_I × jp_J) :=
  if x3 ≤ x2 then (some (.inr (.inl ()), σ, τ)) else (if jp_ok x2 N = true then some (.inl (x2 + 1), jp_up σ row x2.toNatClampNeg x1, τ) else none)
set_option maxHeartbeats 4000000 in
set_option maxRecDepth 20000 in
theorem wsJ7_fill_53178_5 (B : jp_B Γ p s m args meth c RJ7 cJ7_fill_53178 4 none) {row : Nat} {N : Nat} (hX0 : jp_hA Z row N) {x1 : Int32} {x2 : Int32} {x3 : Int32} {σ : jp_I} {τ : jp_J} {q : Sum (Int32) (Sum (Unit) Int32) × jp_I × jp_J} (hf : sJ7_fill_53178_5 row N x1 x2 x3 σ τ = some q) (kb : ∀ v : Int32, q.1 = .inl v → jp_at p l e (jp_R 0 0) s m args below meth c (MQ below (jp_Q Γ Z none σ0 τ0) args s 0 0 (jp_A Γ)) 4 Γ Z 5 [(0, .ref (Γ.2.2.1 row)), (1, .int x1), (2, .int v), (3, .int x3)] [] q.2.1 q.2.2) (kx : ∀ v : Unit, q.1 = .inr (.inl v) → jp_at p l e (jp_R 0 0) s m args below meth c (MQ below (jp_Q Γ Z none σ0 τ0) args s 0 0 (jp_A Γ)) 4 Γ Z 20 [] [] q.2.1 q.2.2) (kr : ∀ v : Int32, q.1 = .inr (.inr v) → r0 = v ∧ σ0 = q.2.1 ∧ τ0 = q.2.2) : jp_at p l e (jp_R 0 0) s m args below meth c (MQ below (jp_Q Γ Z none σ0 τ0) args s 0 0 (jp_A Γ)) 4 Γ Z 5 [(0, .ref (Γ.2.2.1 row)), (1, .int x1), (2, .int x2), (3, .int x3)] [] σ τ := by
  obtain ⟨hx, hb, hml, hown, hts, hr, hlk, hE⟩ := id B
  unfold sJ7_fill_53178_5 at hf
  intro H locs ls hP hS hl
  refine lv_iload_n hx hb dJ7_fill_53178_5 rfl (lv_at hl 2 rfl) ?_
  refine lv_iload_n hx hb dJ7_fill_53178_6 rfl (lv_at hl 3 rfl) ?_
  refine lv_icmp_ge (tgt := 20) hx hb dJ7_fill_53178_7 (by decide) (fun c_1 => ?_) (fun c_1 => ?_)
  · rw [if_pos c_1] at hf
    obtain rfl := Option.some.inj hf
    exact kx _ rfl H locs ls hP hS (lv_sub hl [] rfl)
  · rw [if_neg c_1] at hf
    refine lv_aload_n hx hb dJ7_fill_53178_10 rfl (lv_at hl 0 rfl) ?_
    refine lv_iload_n hx hb dJ7_fill_53178_11 rfl (lv_at hl 2 rfl) ?_
    refine lv_iload_n hx hb dJ7_fill_53178_12 rfl (lv_at hl 1 rfl) ?_
    obtain ⟨g_2, hf⟩ := jp_if hf
    refine jp_iast B hP hS hX0 (jp_ok_vp g_2) dJ7_fill_53178_13 (fun H locs hP hS => ?_)
    refine lv_iinc (v := x2 + 1) (lv' := [(2, .int (x2 + 1)), (0, .ref (Γ.2.2.1 row)), (1, .int x1), (3, .int x3)]) hx hb dJ7_fill_53178_14 hl (k := 2) rfl rfl (by decide) rfl (fun ls hl => ?_)
    refine lv_goto (tgt := 5) hx hb dJ7_fill_53178_17 (by decide) ?_
    obtain rfl := Option.some.inj hf
    exact kb _ rfl H locs ls hP hS (lv_sub hl [1, 2, 0, 3] rfl)
set_option maxHeartbeats 4000000 in
theorem lJ7_fill_53178_5 (B : jp_B Γ p s m args meth c RJ7 cJ7_fill_53178 4 none) {row : Nat} {N : Nat} (hX0 : jp_hA Z row N) {x1 : Int32} {x3 : Int32} {e1 : Sum (Unit) Int32} {σ1 : jp_I} {τ1 : jp_J} (kx : ∀ v : Unit, e1 = .inl v → jp_at p l e (jp_R 0 0) s m args below meth c (MQ below (jp_Q Γ Z none σ0 τ0) args s 0 0 (jp_A Γ)) 4 Γ Z 20 [] [] σ1 τ1) (kr : ∀ v : Int32, e1 = .inr v → r0 = v ∧ σ0 = σ1 ∧ τ0 = τ1) : ∀ (k : Nat) (v : Int32) (σ : jp_I) (τ : jp_J), jp_loop (fun q : (Int32) × jp_I × jp_J => sJ7_fill_53178_5 row N x1 q.1 x3 q.2.1 q.2.2) k (v, σ, τ) = some (e1, σ1, τ1) → jp_at p l e (jp_R 0 0) s m args below meth c (MQ below (jp_Q Γ Z none σ0 τ0) args s 0 0 (jp_A Γ)) 4 Γ Z 5 [(0, .ref (Γ.2.2.1 row)), (1, .int x1), (2, .int v), (3, .int x3)] [] σ τ := by
  refine jp_loopI (P := fun (v : Int32) (σ : jp_I) (τ : jp_J) => jp_at p l e (jp_R 0 0) s m args below meth c (MQ below (jp_Q Γ Z none σ0 τ0) args s 0 0 (jp_A Γ)) 4 Γ Z 5 [(0, .ref (Γ.2.2.1 row)), (1, .int x1), (2, .int v), (3, .int x3)] [] σ τ) (fun v σ τ q hq hbk hen => ?_)
  exact wsJ7_fill_53178_5 B hX0 hq (fun v' hv => hbk v' hv) (fun x hv => by obtain ⟨h1, h2, h3⟩ := hen _ hv; rw [h2, h3]; exact kx x h1.symm) (fun r hv => by obtain ⟨h1, h2, h3⟩ := hen _ hv; rw [h2, h3]; exact kr r h1.symm)
def fJ7_fill_53178 (row : Nat) (N : Nat) (p1 : Int32) (σ : jp_I) (τ : jp_J) : Option (Int32 × jp_I × jp_J) :=
  (jp_loop (fun q : (Int32) × jp_I × jp_J => sJ7_fill_53178_5 row N p1 q.1 (nI N) q.2.1 q.2.2) jp_F (0, σ, τ)).bind fun (e_1, σ_1, τ_1) => match e_1 with
    | .inl _ => (some (0, σ_1, τ_1))
    | .inr r_1 => some (r_1, σ_1, τ_1)
set_option maxHeartbeats 4000000 in
set_option maxRecDepth 20000 in
theorem ctJ7_fill_53178 {l : Launch} {Γ : jp_G} {Z : Nat → Option jp_Sh} {row : Nat} {N : Nat} (hX0 : jp_hA Z row N) {p1 : Int32} {σ σ0 : jp_I} {τ τ0 : jp_J} {r0 : Int32} (hf : fJ7_fill_53178 row N p1 σ τ = some (r0, σ0, τ0)) : jp_M l yJ7_fill_53178 cJ7_fill_53178 4 none 0 0 Γ Z σ τ [.ref (Γ.2.2.1 row), .int p1] none σ0 τ0 := by
  refine jp_mk (lv := [(0, .ref (Γ.2.2.1 row)), (1, .int p1)]) (by decide) (Nat.le_of_ble_eq_true rfl) rfl fun p e s m args below meth c B => ?_
  obtain ⟨hx, hb, hml, hown, hts, hr, hlk, hE⟩ := id B
  unfold fJ7_fill_53178 at hf
  intro H locs ls hP hS hl
  refine lv_iconst (v := 0) hx hb dJ7_fill_53178_0 (by decide) ?_
  refine lv_istore_n (lv' := [(2, .int 0), (0, .ref (Γ.2.2.1 row)), (1, .int p1)]) hx hb dJ7_fill_53178_1 rfl hl (by decide) rfl (fun ls hl => ?_)
  refine lv_aload_n hx hb dJ7_fill_53178_2 rfl (lv_at hl 1 rfl) ?_
  refine jp_alen B hP hX0 dJ7_fill_53178_3 ?_
  refine lv_istore_n (lv' := [(3, .int (nI N)), (2, .int 0), (0, .ref (Γ.2.2.1 row)), (1, .int p1)]) hx hb dJ7_fill_53178_4 rfl hl (by decide) rfl (fun ls hl => ?_)
  obtain ⟨⟨e_1, σ_1, τ_1⟩, h_1, hf⟩ := jp_bind hf
  refine lJ7_fill_53178_5 (r0 := r0) B hX0 (x1 := p1) (x3 := (nI N)) (fun v_1 k_1 => ?_) (fun r_1 k_1 => ?_) _ _ _ _ h_1 H locs ls hP hS (lv_sub hl [2, 3, 1, 0] rfl)
  · subst k_1
    dsimp only at hf
    intro H locs ls hP hS hl
    exact jp_endv B hP hS dJ7_fill_53178_20 (jp_inj hf)
  · subst k_1
    dsimp only at hf
    exact jp_inj hf
end
