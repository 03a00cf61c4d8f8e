-- X2_isMade
section
variable {p : Program} {l : Launch} {e : Jvm.Env} {s : State} {m : MethodId} {args : Array Value} {below : List Frame} {meth : Method} {c : Code} {Γ : jp_G} {Z : Nat → Option jp_Sh} {r0 : Int32} {σ0 : jp_I} {τ0 : jp_J}
def fX2_isMade (pl : Nat) (ce : Nat) (nc : Nat) (σ : jp_I) (τ : jp_J) : Option (Int32 × jp_I × jp_J) :=
  if (σ pl 3) = (-1) then (some (0, σ, τ)) else (some (1, σ, τ))
set_option maxHeartbeats 4000000 in
set_option maxRecDepth 20000 in
theorem ctX2_isMade {l : Launch} {Γ : jp_G} {Z : Nat → Option jp_Sh} {pl : Nat} {ce : Nat} {nc : Nat} (hX0 : jp_hL Z pl ce nc) {σ σ0 : jp_I} {τ τ0 : jp_J} {r0 : Int32} (hf : fX2_isMade pl ce nc σ τ = some (r0, σ0, τ0)) : jp_M l yX2_isMade cX2_isMade 1 (some .boolean) 0 0 Γ Z σ τ [.ref (Γ.2.2.1 pl)] (some (.int r0)) σ0 τ0 := by
  refine jp_mk (lv := [(0, .ref (Γ.2.2.1 pl))]) (by decide) (Nat.le_of_ble_eq_true rfl) rfl fun p e s m args below meth c B => ?_
  obtain ⟨hx, hb, hml, hown, hts, hr, hlk, hE⟩ := id B
  unfold fX2_isMade at hf
  intro H locs ls hP hS hl
  refine lv_aload_n hx hb dX2_isMade_0 rfl (lv_at hl 0 rfl) ?_
  refine jp_geti (k := 3) B hP hX0.1 rfl rfl (by decide) jp_fX2 rfl mw_126 dX2_isMade_1 ?_
  refine lv_iconst (v := -1) hx hb dX2_isMade_4 (by decide) ?_
  refine lv_icmp_eq (tgt := 12) hx hb dX2_isMade_5 (by decide) (fun c_1 => ?_) (fun c_1 => ?_)
  · rw [if_pos c_1] at hf
    refine lv_iconst (v := 0) hx hb dX2_isMade_12 (by decide) ?_
    exact jp_endz B hP hS (by decide) dX2_isMade_13 (jp_inj hf)
  · rw [if_neg c_1] at hf
    refine lv_iconst (v := 1) hx hb dX2_isMade_8 (by decide) ?_
    refine lv_goto (tgt := 13) hx hb dX2_isMade_9 (by decide) ?_
    exact jp_endz B hP hS (by decide) dX2_isMade_13 (jp_inj hf)
end
-- X2_drop
section
variable {p : Program} {l : Launch} {e : Jvm.Env} {s : State} {m : MethodId} {args : Array Value} {below : List Frame} {meth : Method} {c : Code} {Γ : jp_G} {Z : Nat → Option jp_Sh} {r0 : Int32} {σ0 : jp_I} {τ0 : jp_J}
def fX2_drop (pl : Nat) (ce : Nat) (nc : Nat) (σ : jp_I) (τ : jp_J) : Option (Int32 × jp_I × jp_J) :=
  some (0, jp_up (jp_up σ pl 3 (-1)) pl 2 0, τ)
set_option maxHeartbeats 4000000 in
set_option maxRecDepth 20000 in
theorem ctX2_drop {l : Launch} {Γ : jp_G} {Z : Nat → Option jp_Sh} {pl : Nat} {ce : Nat} {nc : Nat} (hX0 : jp_hL Z pl ce nc) {σ σ0 : jp_I} {τ τ0 : jp_J} {r0 : Int32} (hf : fX2_drop pl ce nc σ τ = some (r0, σ0, τ0)) : jp_M l yX2_drop cX2_drop 1 none 0 0 Γ Z σ τ [.ref (Γ.2.2.1 pl)] none σ0 τ0 := by
  refine jp_mk (lv := [(0, .ref (Γ.2.2.1 pl))]) (by decide) (Nat.le_of_ble_eq_true rfl) rfl fun p e s m args below meth c B => ?_
  obtain ⟨hx, hb, hml, hown, hts, hr, hlk, hE⟩ := id B
  unfold fX2_drop at hf
  intro H locs ls hP hS hl
  refine lv_aload_n hx hb dX2_drop_0 rfl (lv_at hl 0 rfl) ?_
  refine lv_iconst (v := -1) hx hb dX2_drop_1 (by decide) ?_
  refine jp_puti (k := 3) (ty := .int) B hP hS hX0.1 rfl rfl (by decide) jp_fX2 tyX2 tyX2_ok nmX2 rfl mw_126 rfl (by decide +kernel) rfl rfl dX2_drop_2 (fun H locs hP hS => ?_)
  refine lv_aload_n hx hb dX2_drop_5 rfl (lv_at hl 0 rfl) ?_
  refine lv_iconst (v := 0) hx hb dX2_drop_6 (by decide) ?_
  refine jp_puti (k := 2) (ty := .int) B hP hS hX0.1 rfl rfl (by decide) jp_fX2 tyX2 tyX2_ok nmX2 rfl mw_169 rfl (by decide +kernel) rfl rfl dX2_drop_7 (fun H locs hP hS => ?_)
  exact jp_endv B hP hS dX2_drop_10 (jp_inj hf)
end
-- X2_cellOf
section
variable {p : Program} {l : Launch} {e : Jvm.Env} {s : State} {m : MethodId} {args : Array Value} {below : List Frame} {meth : Method} {c : Code} {Γ : jp_G} {Z : Nat → Option jp_Sh} {r0 : Int32} {σ0 : jp_I} {τ0 : jp_J}
def fX2_cellOf (pl : Nat) (ce : Nat) (nc : Nat) (p1 : Int32) (p2 : Int32) (σ : jp_I) (τ : jp_J) : Option (Int32 × jp_I × jp_J) :=
  (fX7_read ce nc ((p2 * (σ pl 0)) + p1) σ τ).bind fun (a_1, σ_1, τ_1) => some (a_1, σ_1, τ_1)
set_option maxHeartbeats 4000000 in
set_option maxRecDepth 20000 in
theorem ctX2_cellOf {l : Launch} {Γ : jp_G} {Z : Nat → Option jp_Sh} {pl : Nat} {ce : Nat} {nc : Nat} (hX0 : jp_hL Z pl ce nc) {p1 : Int32} {p2 : Int32} {σ σ0 : jp_I} {τ τ0 : jp_J} {r0 : Int32} (hf : fX2_cellOf pl ce nc p1 p2 σ τ = some (r0, σ0, τ0)) : jp_M l yX2_cellOf cX2_cellOf 3 (some .int) 1 21 Γ Z σ τ [.ref (Γ.2.2.1 pl), .int p1, .int p2] (some (.int r0)) σ0 τ0 := by
  refine jp_mk (lv := [(0, .ref (Γ.2.2.1 pl)), (1, .int p1), (2, .int p2)]) (by decide) (Nat.le_of_ble_eq_true rfl) rfl fun p e s m args below meth c B => ?_
  obtain ⟨hx, hb, hml, hown, hts, hr, hlk, hE⟩ := id B
  unfold fX2_cellOf at hf
  intro H locs ls hP hS hl
  refine lv_aload_n hx hb dX2_cellOf_0 rfl (lv_at hl 0 rfl) ?_
  refine jp_getr (k := 1) B hP hX0.1 rfl rfl (by decide) jp_fX2 rfl mw_128 dX2_cellOf_1 ?_
  refine lv_iload_n hx hb dX2_cellOf_4 rfl (lv_at hl 2 rfl) ?_
  refine lv_aload_n hx hb dX2_cellOf_5 rfl (lv_at hl 0 rfl) ?_
  refine jp_geti (k := 0) B hP hX0.1 rfl rfl (by decide) jp_fX2 rfl mw_127 dX2_cellOf_6 ?_
  refine lv_imul hx hb dX2_cellOf_9 ?_
  refine lv_iload_n hx hb dX2_cellOf_10 rfl (lv_at hl 1 rfl) ?_
  refine lv_iadd hx hb dX2_cellOf_11 ?_
  obtain ⟨⟨a_1, σ_1, τ_1⟩, h_1, hf⟩ := jp_bind hf
  dsimp only at hf
  refine jp_callSN (rest := []) B hP hS hl (ctX7_read hX0.2 h_1) mw_85 nw_662 mw_84 mw_2 ddX7_read ⟨Nat.le_of_ble_eq_true rfl, Nat.le_of_ble_eq_true rfl⟩ ⟨Nat.zero_le _, Nat.zero_le _⟩ rfl (Nat.le_of_ble_eq_true rfl) dX2_cellOf_12 (fun H locs hP hS => ?_)
  exact jp_endi B hP hS dX2_cellOf_15 (jp_inj hf)
end
-- X2_put
section
variable {p : Program} {l : Launch} {e : Jvm.Env} {s : State} {m : MethodId} {args : Array Value} {below : List Frame} {meth : Method} {c : Code} {Γ : jp_G} {Z : Nat → Option jp_Sh} {r0 : Int32} {σ0 : jp_I} {τ0 : jp_J}
def fX2_put (pl : Nat) (ce : Nat) (nc : Nat) (p1 : Int32) (p2 : Int32) (p3 : Int32) (σ : jp_I) (τ : jp_J) : Option (Int32 × jp_I × jp_J) :=
  (fX7_write ce nc ((p2 * (σ pl 0)) + p1) p3 σ τ).bind fun (a_1, σ_1, τ_1) => some (0, σ_1, τ_1)
set_option maxHeartbeats 4000000 in
set_option maxRecDepth 20000 in
theorem ctX2_put {l : Launch} {Γ : jp_G} {Z : Nat → Option jp_Sh} {pl : Nat} {ce : Nat} {nc : Nat} (hX0 : jp_hL Z pl ce nc) {p1 : Int32} {p2 : Int32} {p3 : Int32} {σ σ0 : jp_I} {τ τ0 : jp_J} {r0 : Int32} (hf : fX2_put pl ce nc p1 p2 p3 σ τ = some (r0, σ0, τ0)) : jp_M l yX2_put cX2_put 4 none 1 22 Γ Z σ τ [.ref (Γ.2.2.1 pl), .int p1, .int p2, .int p3] none σ0 τ0 := by
  refine jp_mk (lv := [(0, .ref (Γ.2.2.1 pl)), (1, .int p1), (2, .int p2), (3, .int p3)]) (by decide) (Nat.le_of_ble_eq_true rfl) rfl fun p e s m args below meth c B => ?_
  obtain ⟨hx, hb, hml, hown, hts, hr, hlk, hE⟩ := id B
  unfold fX2_put at hf
  intro H locs ls hP hS hl
  refine lv_aload_n hx hb dX2_put_0 rfl (lv_at hl 0 rfl) ?_
  refine jp_getr (k := 1) B hP hX0.1 rfl rfl (by decide) jp_fX2 rfl mw_128 dX2_put_1 ?_
  refine lv_iload_n hx hb dX2_put_4 rfl (lv_at hl 2 rfl) ?_
  refine lv_aload_n hx hb dX2_put_5 rfl (lv_at hl 0 rfl) ?_
  refine jp_geti (k := 0) B hP hX0.1 rfl rfl (by decide) jp_fX2 rfl mw_127 dX2_put_6 ?_
  refine lv_imul hx hb dX2_put_9 ?_
  refine lv_iload_n hx hb dX2_put_10 rfl (lv_at hl 1 rfl) ?_
  refine lv_iadd hx hb dX2_put_11 ?_
  refine lv_iload_n hx hb dX2_put_12 rfl (lv_at hl 3 rfl) ?_
  obtain ⟨⟨a_1, σ_1, τ_1⟩, h_1, hf⟩ := jp_bind hf
  dsimp only at hf
  refine jp_callSN (rest := []) B hP hS hl (ctX7_write hX0.2 h_1) mw_95 nw_588 mw_94 mw_2 ddX7_write ⟨Nat.le_of_ble_eq_true rfl, Nat.le_of_ble_eq_true rfl⟩ ⟨Nat.zero_le _, Nat.zero_le _⟩ rfl (Nat.le_of_ble_eq_true rfl) dX2_put_13 (fun H locs hP hS => ?_)
  exact jp_endv B hP hS dX2_put_16 (jp_inj hf)
end
-- X2_copy
section
variable {p : Program} {l : Launch} {e : Jvm.Env} {s : State} {m : MethodId} {args : Array Value} {below : List Frame} {meth : Method} {c : Code} {Γ : jp_G} {Z : Nat → Option jp_Sh} {r0 : Int32} {σ0 : jp_I} {τ0 : jp_J}
def sX2_copy_2 (pl : Nat) (ce : Nat) (nc : Nat) (po : Nat) (co : Nat) (no : Nat) (x2 : Int32) (σ : jp_I) (τ : jp_J) : Option (Sum (Int32) (Sum (Unit) Int32) × jp_I × jp_J) :=
  if (nI nc) ≤ x2 then (some (.inr (.inl ()), σ, τ)) else ((fX7_read co no x2 σ τ).bind fun (a_2, σ_2, τ_2) => if jp_ok x2 nc = true then some (.inl (x2 + 1), jp_up σ_2 ce x2.toNatClampNeg a_2, τ_2) else none)
set_option maxHeartbeats 4000000 in
set_option maxRecDepth 20000 in
theorem wsX2_copy_2 (B : jp_B Γ p s m args meth c RX2 cX2_copy 3 none) {pl : Nat} {ce : Nat} {nc : Nat} {po : Nat} {co : Nat} {no : Nat} (hX0 : jp_hL Z pl ce nc) (hX1 : jp_hL Z po co no) {x2 : Int32} {σ : jp_I} {τ : jp_J} {q : Sum (Int32) (Sum (Unit) Int32) × jp_I × jp_J} (hf : sX2_copy_2 pl ce nc po co no x2 σ τ = some q) (kb : ∀ v : Int32, q.1 = .inl v → jp_at p l e (jp_R 1 21) s m args below meth c (MQ below (jp_Q Γ Z none σ0 τ0) args s 0 0 (jp_A Γ)) 3 Γ Z 2 [(0, .ref (Γ.2.2.1 pl)), (1, .ref (Γ.2.2.1 po)), (2, .int v)] [] q.2.1 q.2.2) (kx : ∀ v : Unit, q.1 = .inr (.inl v) → jp_at p l e (jp_R 1 21) s m args below meth c (MQ below (jp_Q Γ Z none σ0 τ0) args s 0 0 (jp_A Γ)) 3 Γ Z 31 [(0, .ref (Γ.2.2.1 pl)), (1, .ref (Γ.2.2.1 po))] [] q.2.1 q.2.2) (kr : ∀ v : Int32, q.1 = .inr (.inr v) → r0 = v ∧ σ0 = q.2.1 ∧ τ0 = q.2.2) : jp_at p l e (jp_R 1 21) s m args below meth c (MQ below (jp_Q Γ Z none σ0 τ0) args s 0 0 (jp_A Γ)) 3 Γ Z 2 [(0, .ref (Γ.2.2.1 pl)), (1, .ref (Γ.2.2.1 po)), (2, .int x2)] [] σ τ := by
  obtain ⟨hx, hb, hml, hown, hts, hr, hlk, hE⟩ := id B
  unfold sX2_copy_2 at hf
  intro H locs ls hP hS hl
  refine lv_iload_n hx hb dX2_copy_2 rfl (lv_at hl 2 rfl) ?_
  refine lv_aload_n hx hb dX2_copy_3 rfl (lv_at hl 0 rfl) ?_
  refine jp_getr (k := 1) B hP hX0.1 rfl rfl (by decide) jp_fX2 rfl mw_128 dX2_copy_4 ?_
  refine jp_alen B hP hX0.2 dX2_copy_7 ?_
  refine lv_icmp_ge (tgt := 31) hx hb dX2_copy_8 (by decide) (fun c_1 => ?_) (fun c_1 => ?_)
  · rw [if_pos c_1] at hf
    obtain rfl := Option.some.inj hf
    exact kx _ rfl H locs ls hP hS (lv_sub hl [0, 1] rfl)
  · rw [if_neg c_1] at hf
    refine lv_aload_n hx hb dX2_copy_11 rfl (lv_at hl 0 rfl) ?_
    refine jp_getr (k := 1) B hP hX0.1 rfl rfl (by decide) jp_fX2 rfl mw_128 dX2_copy_12 ?_
    refine lv_iload_n hx hb dX2_copy_15 rfl (lv_at hl 2 rfl) ?_
    refine lv_aload_n hx hb dX2_copy_16 rfl (lv_at hl 1 rfl) ?_
    refine jp_getr (k := 1) B hP hX1.1 rfl rfl (by decide) jp_fX2 rfl mw_128 dX2_copy_17 ?_
    refine lv_iload_n hx hb dX2_copy_20 rfl (lv_at hl 2 rfl) ?_
    obtain ⟨⟨a_2, σ_2, τ_2⟩, h_2, hf⟩ := jp_bind hf
    dsimp only at hf
    refine jp_callSN (rest := [.int x2, .ref (Γ.2.2.1 ce)]) B hP hS hl (ctX7_read hX1.2 h_2) mw_85 nw_662 mw_84 mw_2 ddX7_read ⟨Nat.le_of_ble_eq_true rfl, Nat.le_of_ble_eq_true rfl⟩ ⟨Nat.zero_le _, Nat.zero_le _⟩ rfl (Nat.le_of_ble_eq_true rfl) dX2_copy_21 (fun H locs hP hS => ?_)
    obtain ⟨g_3, hf⟩ := jp_if hf
    refine jp_iast B hP hS hX0.2 (jp_ok_vp g_3) dX2_copy_24 (fun H locs hP hS => ?_)
    refine lv_iinc (v := x2 + 1) (lv' := [(2, .int (x2 + 1)), (0, .ref (Γ.2.2.1 pl)), (1, .ref (Γ.2.2.1 po))]) hx hb dX2_copy_25 hl (k := 2) rfl rfl (by decide) rfl (fun ls hl => ?_)
    refine lv_goto (tgt := 2) hx hb dX2_copy_28 (by decide) ?_
    obtain rfl := Option.some.inj hf
    exact kb _ rfl H locs ls hP hS (lv_sub hl [1, 2, 0] rfl)
set_option maxHeartbeats 4000000 in
theorem lX2_copy_2 (B : jp_B Γ p s m args meth c RX2 cX2_copy 3 none) {pl : Nat} {ce : Nat} {nc : Nat} {po : Nat} {co : Nat} {no : Nat} (hX0 : jp_hL Z pl ce nc) (hX1 : jp_hL Z po co no) {e1 : Sum (Unit) Int32} {σ1 : jp_I} {τ1 : jp_J} (kx : ∀ v : Unit, e1 = .inl v → jp_at p l e (jp_R 1 21) s m args below meth c (MQ below (jp_Q Γ Z none σ0 τ0) args s 0 0 (jp_A Γ)) 3 Γ Z 31 [(0, .ref (Γ.2.2.1 pl)), (1, .ref (Γ.2.2.1 po))] [] σ1 τ1) (kr : ∀ v : Int32, e1 = .inr v → r0 = v ∧ σ0 = σ1 ∧ τ0 = τ1) : ∀ (k : Nat) (v : Int32) (σ : jp_I) (τ : jp_J), jp_loop (fun q : (Int32) × jp_I × jp_J => sX2_copy_2 pl ce nc po co no q.1 q.2.1 q.2.2) k (v, σ, τ) = some (e1, σ1, τ1) → jp_at p l e (jp_R 1 21) s m args below meth c (MQ below (jp_Q Γ Z none σ0 τ0) args s 0 0 (jp_A Γ)) 3 Γ Z 2 [(0, .ref (Γ.2.2.1 pl)), (1, .ref (Γ.2.2.1 po)), (2, .int v)] [] σ τ := by
  refine jp_loopI (P := fun (v : Int32) (σ : jp_I) (τ : jp_J) => jp_at p l e (jp_R 1 21) s m args below meth c (MQ below (jp_Q Γ Z none σ0 τ0) args s 0 0 (jp_A Γ)) 3 Γ Z 2 [(0, .ref (Γ.2.2.1 pl)), (1, .ref (Γ.2.2.1 po)), (2, .int v)] [] σ τ) (fun v σ τ q hq hbk hen => ?_)
  exact wsX2_copy_2 B hX0 hX1 hq (fun v' hv => hbk v' hv) (fun x hv => by obtain ⟨h1, h2, h3⟩ := hen _ hv; rw [h2, h3]; exact kx x h1.symm) (fun r hv => by obtain ⟨h1, h2, h3⟩ := hen _ hv; rw [h2, h3]; exact kr r h1.symm)
def fX2_copy (pl : Nat) (ce : Nat) (nc : Nat) (po : Nat) (co : Nat) (no : Nat) (σ : jp_I) (τ : jp_J) : Option (Int32 × jp_I × jp_J) :=
  (jp_loop (fun q : (Int32) × jp_I × jp_J => sX2_copy_2 pl ce nc po co no q.1 q.2.1 q.2.2) jp_F (0, σ, τ)).bind fun (e_1, σ_1, τ_1) => match e_1 with
    | .inl _ => (some (0, jp_up (jp_up σ_1 pl 2 (σ_1 po 2)) pl 3 ((jp_up σ_1 pl 2 (σ_1 po 2)) po 3), τ_1))
    | .inr r_1 => some (r_1, σ_1, τ_1)
set_option maxHeartbeats 4000000 in
set_option maxRecDepth 20000 in
theorem ctX2_copy {l : Launch} {Γ : jp_G} {Z : Nat → Option jp_Sh} {pl : Nat} {ce : Nat} {nc : Nat} {po : Nat} {co : Nat} {no : Nat} (hX0 : jp_hL Z pl ce nc) (hX1 : jp_hL Z po co no) {σ σ0 : jp_I} {τ τ0 : jp_J} {r0 : Int32} (hf : fX2_copy pl ce nc po co no σ τ = some (r0, σ0, τ0)) : jp_M l yX2_copy cX2_copy 3 none 1 21 Γ Z σ τ [.ref (Γ.2.2.1 pl), .ref (Γ.2.2.1 po)] none σ0 τ0 := by
  refine jp_mk (lv := [(0, .ref (Γ.2.2.1 pl)), (1, .ref (Γ.2.2.1 po))]) (by decide) (Nat.le_of_ble_eq_true rfl) rfl fun p e s m args below meth c B => ?_
  obtain ⟨hx, hb, hml, hown, hts, hr, hlk, hE⟩ := id B
  unfold fX2_copy at hf
  intro H locs ls hP hS hl
  refine lv_iconst (v := 0) hx hb dX2_copy_0 (by decide) ?_
  refine lv_istore_n (lv' := [(2, .int 0), (0, .ref (Γ.2.2.1 pl)), (1, .ref (Γ.2.2.1 po))]) hx hb dX2_copy_1 rfl hl (by decide) rfl (fun ls hl => ?_)
  obtain ⟨⟨e_1, σ_1, τ_1⟩, h_1, hf⟩ := jp_bind hf
  refine lX2_copy_2 (r0 := r0) B hX0 hX1 (fun v_1 k_1 => ?_) (fun r_1 k_1 => ?_) _ _ _ _ h_1 H locs ls hP hS (lv_sub hl [1, 2, 0] rfl)
  · subst k_1
    dsimp only at hf
    intro H locs ls hP hS hl
    refine lv_aload_n hx hb dX2_copy_31 rfl (lv_at hl 0 rfl) ?_
    refine lv_aload_n hx hb dX2_copy_32 rfl (lv_at hl 1 rfl) ?_
    refine jp_geti (k := 2) B hP hX1.1 rfl rfl (by decide) jp_fX2 rfl mw_169 dX2_copy_33 ?_
    refine jp_puti (k := 2) (ty := .int) B hP hS hX0.1 rfl rfl (by decide) jp_fX2 tyX2 tyX2_ok nmX2 rfl mw_169 rfl (by decide +kernel) rfl rfl dX2_copy_36 (fun H locs hP hS => ?_)
    refine lv_aload_n hx hb dX2_copy_39 rfl (lv_at hl 0 rfl) ?_
    refine lv_aload_n hx hb dX2_copy_40 rfl (lv_at hl 1 rfl) ?_
    refine jp_geti (k := 3) B hP hX1.1 rfl rfl (by decide) jp_fX2 rfl mw_126 dX2_copy_41 ?_
    refine jp_puti (k := 3) (ty := .int) B hP hS hX0.1 rfl rfl (by decide) jp_fX2 tyX2 tyX2_ok nmX2 rfl mw_126 rfl (by decide +kernel) rfl rfl dX2_copy_44 (fun H locs hP hS => ?_)
    exact jp_endv B hP hS dX2_copy_47 (jp_inj hf)
  · subst k_1
    dsimp only at hf
    exact jp_inj hf
end
-- X6_reset
section
variable {p : Program} {l : Launch} {e : Jvm.Env} {s : State} {m : MethodId} {args : Array Value} {below : List Frame} {meth : Method} {c : Code} {Γ : jp_G} {Z : Nat → Option jp_Sh} {r0 : Int32} {σ0 : jp_I} {τ0 : jp_J}
def sX6_reset_2 (n : Nat) (x1 : Int32) (σ : jp_I) (τ : jp_J) : Option (Sum (Int32) (Sum (Unit) Int32) × jp_I × jp_J) :=
  if (nI n) ≤ x1 then (some (.inr (.inl ()), σ, τ)) else (if jp_ok x1 n = true then some (.inl (x1 + 1), jp_up σ 10 x1.toNatClampNeg x1, τ) else none)
set_option maxHeartbeats 4000000 in
set_option maxRecDepth 20000 in
theorem wsX6_reset_2 (B : jp_B Γ p s m args meth c RX6 cX6_reset 2 none) {n : Nat} (hX0 : jp_hU Z n) {x1 : Int32} {σ : jp_I} {τ : jp_J} {q : Sum (Int32) (Sum (Unit) Int32) × jp_I × jp_J} (hf : sX6_reset_2 n x1 σ τ = some q) (kb : ∀ v : Int32, q.1 = .inl v → jp_at p l e (jp_R 0 0) s m args below meth c (MQ below (jp_Q Γ Z none σ0 τ0) args s 0 0 (jp_A Γ)) 2 Γ Z 2 [(0, .ref (Γ.2.2.1 9)), (1, .int v)] [] q.2.1 q.2.2) (kx : ∀ v : Unit, q.1 = .inr (.inl v) → jp_at p l e (jp_R 0 0) s m args below meth c (MQ below (jp_Q Γ Z none σ0 τ0) args s 0 0 (jp_A Γ)) 2 Γ Z 24 [] [] q.2.1 q.2.2) (kr : ∀ v : Int32, q.1 = .inr (.inr v) → r0 = v ∧ σ0 = q.2.1 ∧ τ0 = q.2.2) : jp_at p l e (jp_R 0 0) s m args below meth c (MQ below (jp_Q Γ Z none σ0 τ0) args s 0 0 (jp_A Γ)) 2 Γ Z 2 [(0, .ref (Γ.2.2.1 9)), (1, .int x1)] [] σ τ := by
  obtain ⟨hx, hb, hml, hown, hts, hr, hlk, hE⟩ := id B
  unfold sX6_reset_2 at hf
  intro H locs ls hP hS hl
  refine lv_iload_n hx hb dX6_reset_2 rfl (lv_at hl 1 rfl) ?_
  refine lv_aload_n hx hb dX6_reset_3 rfl (lv_at hl 0 rfl) ?_
  refine jp_getr (k := 0) B hP hX0.1 rfl rfl (by decide) jp_fX6 rfl mw_101 dX6_reset_4 ?_
  refine jp_alen B hP hX0.2 dX6_reset_7 ?_
  refine lv_icmp_ge (tgt := 24) hx hb dX6_reset_8 (by decide) (fun c_1 => ?_) (fun c_1 => ?_)
  · rw [if_pos c_1] at hf
    obtain rfl := Option.some.inj hf
    exact kx _ rfl H locs ls hP hS (lv_sub hl [] rfl)
  · rw [if_neg c_1] at hf
    refine lv_aload_n hx hb dX6_reset_11 rfl (lv_at hl 0 rfl) ?_
    refine jp_getr (k := 0) B hP hX0.1 rfl rfl (by decide) jp_fX6 rfl mw_101 dX6_reset_12 ?_
    refine lv_iload_n hx hb dX6_reset_15 rfl (lv_at hl 1 rfl) ?_
    refine lv_iload_n hx hb dX6_reset_16 rfl (lv_at hl 1 rfl) ?_
    obtain ⟨g_2, hf⟩ := jp_if hf
    refine jp_iast B hP hS hX0.2 (jp_ok_vp g_2) dX6_reset_17 (fun H locs hP hS => ?_)
    refine lv_iinc (v := x1 + 1) (lv' := [(1, .int (x1 + 1)), (0, .ref (Γ.2.2.1 9))]) hx hb dX6_reset_18 hl (k := 1) rfl rfl (by decide) rfl (fun ls hl => ?_)
    refine lv_goto (tgt := 2) hx hb dX6_reset_21 (by decide) ?_
    obtain rfl := Option.some.inj hf
    exact kb _ rfl H locs ls hP hS (lv_sub hl [1, 0] rfl)
set_option maxHeartbeats 4000000 in
theorem lX6_reset_2 (B : jp_B Γ p s m args meth c RX6 cX6_reset 2 none) {n : Nat} (hX0 : jp_hU Z n) {e1 : Sum (Unit) Int32} {σ1 : jp_I} {τ1 : jp_J} (kx : ∀ v : Unit, e1 = .inl v → jp_at p l e (jp_R 0 0) s m args below meth c (MQ below (jp_Q Γ Z none σ0 τ0) args s 0 0 (jp_A Γ)) 2 Γ Z 24 [] [] σ1 τ1) (kr : ∀ v : Int32, e1 = .inr v → r0 = v ∧ σ0 = σ1 ∧ τ0 = τ1) : ∀ (k : Nat) (v : Int32) (σ : jp_I) (τ : jp_J), jp_loop (fun q : (Int32) × jp_I × jp_J => sX6_reset_2 n q.1 q.2.1 q.2.2) k (v, σ, τ) = some (e1, σ1, τ1) → jp_at p l e (jp_R 0 0) s m args below meth c (MQ below (jp_Q Γ Z none σ0 τ0) args s 0 0 (jp_A Γ)) 2 Γ Z 2 [(0, .ref (Γ.2.2.1 9)), (1, .int v)] [] σ τ := by
  refine jp_loopI (P := fun (v : Int32) (σ : jp_I) (τ : jp_J) => jp_at p l e (jp_R 0 0) s m args below meth c (MQ below (jp_Q Γ Z none σ0 τ0) args s 0 0 (jp_A Γ)) 2 Γ Z 2 [(0, .ref (Γ.2.2.1 9)), (1, .int v)] [] σ τ) (fun v σ τ q hq hbk hen => ?_)
  exact wsX6_reset_2 B hX0 hq (fun v' hv => hbk v' hv) (fun x hv => by obtain ⟨h1, h2, h3⟩ := hen _ hv; rw [h2, h3]; exact kx x h1.symm) (fun r hv => by obtain ⟨h1, h2, h3⟩ := hen _ hv; rw [h2, h3]; exact kr r h1.symm)
def fX6_reset (n : Nat) (σ : jp_I) (τ : jp_J) : Option (Int32 × jp_I × jp_J) :=
  (jp_loop (fun q : (Int32) × jp_I × jp_J => sX6_reset_2 n q.1 q.2.1 q.2.2) jp_F (0, σ, τ)).bind fun (e_1, σ_1, τ_1) => match e_1 with
    | .inl _ => (some (0, σ_1, τ_1))
    | .inr r_1 => some (r_1, σ_1, τ_1)
set_option maxHeartbeats 4000000 in
set_option maxRecDepth 20000 in
theorem ctX6_reset {l : Launch} {Γ : jp_G} {Z : Nat → Option jp_Sh} {n : Nat} (hX0 : jp_hU Z n) {σ σ0 : jp_I} {τ τ0 : jp_J} {r0 : Int32} (hf : fX6_reset n σ τ = some (r0, σ0, τ0)) : jp_M l yX6_reset cX6_reset 2 none 0 0 Γ Z σ τ [.ref (Γ.2.2.1 9)] none σ0 τ0 := by
  refine jp_mk (lv := [(0, .ref (Γ.2.2.1 9))]) (by decide) (Nat.le_of_ble_eq_true rfl) rfl fun p e s m args below meth c B => ?_
  obtain ⟨hx, hb, hml, hown, hts, hr, hlk, hE⟩ := id B
  unfold fX6_reset at hf
  intro H locs ls hP hS hl
  refine lv_iconst (v := 0) hx hb dX6_reset_0 (by decide) ?_
  refine lv_istore_n (lv' := [(1, .int 0), (0, .ref (Γ.2.2.1 9))]) hx hb dX6_reset_1 rfl hl (by decide) rfl (fun ls hl => ?_)
  obtain ⟨⟨e_1, σ_1, τ_1⟩, h_1, hf⟩ := jp_bind hf
  refine lX6_reset_2 (r0 := r0) B hX0 (fun v_1 k_1 => ?_) (fun r_1 k_1 => ?_) _ _ _ _ h_1 H locs ls hP hS (lv_sub hl [1, 0] rfl)
  · subst k_1
    dsimp only at hf
    intro H locs ls hP hS hl
    exact jp_endv B hP hS dX6_reset_24 (jp_inj hf)
  · subst k_1
    dsimp only at hf
    exact jp_inj hf
end
-- X6_exchange
section
variable {p : Program} {l : Launch} {e : Jvm.Env} {s : State} {m : MethodId} {args : Array Value} {below : List Frame} {meth : Method} {c : Code} {Γ : jp_G} {Z : Nat → Option jp_Sh} {r0 : Int32} {σ0 : jp_I} {τ0 : jp_J}
def fX6_exchange (n : Nat) (p1 : Int32) (p2 : Int32) (σ : jp_I) (τ : jp_J) : Option (Int32 × jp_I × jp_J) :=
  (fX7_read 10 n p1 σ τ).bind fun (a_1, σ_1, τ_1) => (fX7_read 10 n p2 σ_1 τ_1).bind fun (a_2, σ_2, τ_2) => (fX7_write 10 n p1 a_2 σ_2 τ_2).bind fun (a_3, σ_3, τ_3) => (fX7_write 10 n p2 a_1 σ_3 τ_3).bind fun (a_4, σ_4, τ_4) => some (0, σ_4, τ_4)
set_option maxHeartbeats 4000000 in
set_option maxRecDepth 20000 in
theorem ctX6_exchange {l : Launch} {Γ : jp_G} {Z : Nat → Option jp_Sh} {n : Nat} (hX0 : jp_hU Z n) {p1 : Int32} {p2 : Int32} {σ σ0 : jp_I} {τ τ0 : jp_J} {r0 : Int32} (hf : fX6_exchange n p1 p2 σ τ = some (r0, σ0, τ0)) : jp_M l yX6_exchange cX6_exchange 4 none 1 22 Γ Z σ τ [.ref (Γ.2.2.1 9), .int p1, .int p2] none σ0 τ0 := by
  refine jp_mk (lv := [(0, .ref (Γ.2.2.1 9)), (1, .int p1), (2, .int p2)]) (by decide) (Nat.le_of_ble_eq_true rfl) rfl fun p e s m args below meth c B => ?_
  obtain ⟨hx, hb, hml, hown, hts, hr, hlk, hE⟩ := id B
  unfold fX6_exchange at hf
  intro H locs ls hP hS hl
  refine lv_aload_n hx hb dX6_exchange_0 rfl (lv_at hl 0 rfl) ?_
  refine jp_getr (k := 0) B hP hX0.1 rfl rfl (by decide) jp_fX6 rfl mw_101 dX6_exchange_1 ?_
  refine lv_iload_n hx hb dX6_exchange_4 rfl (lv_at hl 1 rfl) ?_
  obtain ⟨⟨a_1, σ_1, τ_1⟩, h_1, hf⟩ := jp_bind hf
  dsimp only at hf
  refine jp_callSN (rest := []) B hP hS hl (ctX7_read hX0.2 h_1) mw_85 nw_621 mw_84 mw_2 ddX7_read ⟨Nat.le_of_ble_eq_true rfl, Nat.le_of_ble_eq_true rfl⟩ ⟨Nat.zero_le _, Nat.zero_le _⟩ rfl (Nat.le_of_ble_eq_true rfl) dX6_exchange_5 (fun H locs hP hS => ?_)
  refine lv_istore_n (lv' := [(3, .int a_1), (0, .ref (Γ.2.2.1 9)), (1, .int p1), (2, .int p2)]) hx hb dX6_exchange_8 rfl hl (by decide) rfl (fun ls hl => ?_)
  refine lv_aload_n hx hb dX6_exchange_9 rfl (lv_at hl 1 rfl) ?_
  refine jp_getr (k := 0) B hP hX0.1 rfl rfl (by decide) jp_fX6 rfl mw_101 dX6_exchange_10 ?_
  refine lv_iload_n hx hb dX6_exchange_13 rfl (lv_at hl 2 rfl) ?_
  refine lv_aload_n hx hb dX6_exchange_14 rfl (lv_at hl 1 rfl) ?_
  refine jp_getr (k := 0) B hP hX0.1 rfl rfl (by decide) jp_fX6 rfl mw_101 dX6_exchange_15 ?_
  refine lv_iload_n hx hb dX6_exchange_18 rfl (lv_at hl 3 rfl) ?_
  obtain ⟨⟨a_2, σ_2, τ_2⟩, h_2, hf⟩ := jp_bind hf
  dsimp only at hf
  refine jp_callSN (rest := [.int p1, .ref (Γ.2.2.1 10)]) B hP hS hl (ctX7_read hX0.2 h_2) mw_85 nw_621 mw_84 mw_2 ddX7_read ⟨Nat.le_of_ble_eq_true rfl, Nat.le_of_ble_eq_true rfl⟩ ⟨Nat.zero_le _, Nat.zero_le _⟩ rfl (Nat.le_of_ble_eq_true rfl) dX6_exchange_19 (fun H locs hP hS => ?_)
  obtain ⟨⟨a_3, σ_3, τ_3⟩, h_3, hf⟩ := jp_bind hf
  dsimp only at hf
  refine jp_callSN (rest := []) B hP hS hl (ctX7_write hX0.2 h_3) mw_95 nw_622 mw_94 mw_2 ddX7_write ⟨Nat.le_of_ble_eq_true rfl, Nat.le_of_ble_eq_true rfl⟩ ⟨Nat.zero_le _, Nat.zero_le _⟩ rfl (Nat.le_of_ble_eq_true rfl) dX6_exchange_22 (fun H locs hP hS => ?_)
  refine lv_aload_n hx hb dX6_exchange_25 rfl (lv_at hl 1 rfl) ?_
  refine jp_getr (k := 0) B hP hX0.1 rfl rfl (by decide) jp_fX6 rfl mw_101 dX6_exchange_26 ?_
  refine lv_iload_n hx hb dX6_exchange_29 rfl (lv_at hl 3 rfl) ?_
  refine lv_iload_n hx hb dX6_exchange_30 rfl (lv_at hl 0 rfl) ?_
  obtain ⟨⟨a_4, σ_4, τ_4⟩, h_4, hf⟩ := jp_bind hf
  dsimp only at hf
  refine jp_callSN (rest := []) B hP hS hl (ctX7_write hX0.2 h_4) mw_95 nw_622 mw_94 mw_2 ddX7_write ⟨Nat.le_of_ble_eq_true rfl, Nat.le_of_ble_eq_true rfl⟩ ⟨Nat.zero_le _, Nat.zero_le _⟩ rfl (Nat.le_of_ble_eq_true rfl) dX6_exchange_31 (fun H locs hP hS => ?_)
  exact jp_endv B hP hS dX6_exchange_34 (jp_inj hf)
end
-- X6_draw
section
variable {p : Program} {l : Launch} {e : Jvm.Env} {s : State} {m : MethodId} {args : Array Value} {below : List Frame} {meth : Method} {c : Code} {Γ : jp_G} {Z : Nat → Option jp_Sh} {r0 : Int32} {σ0 : jp_I} {τ0 : jp_J}
def sX6_draw_6 (n : Nat) (x1 : Int32) (σ : jp_I) (τ : jp_J) : Option (Sum (Int32) (Sum (Unit) Int32) × jp_I × jp_J) :=
  if (nI n) ≤ x1 then (some (.inr (.inl ()), σ, τ)) else (if ((x1 + 1).toInt64) = 0 then none else (fX6_exchange n x1 (((((jp_upl τ 9 1 ((((τ 9 1) * 1103515245) + 12345) - (((τ 9 1) * 1103515245) + 12345) / 2147483648 * 2147483648)) 9 1) / 65536) - (((jp_upl τ 9 1 ((((τ 9 1) * 1103515245) + 12345) - (((τ 9 1) * 1103515245) + 12345) / 2147483648 * 2147483648)) 9 1) / 65536) / ((x1 + 1).toInt64) * ((x1 + 1).toInt64)).toInt32) σ (jp_upl τ 9 1 ((((τ 9 1) * 1103515245) + 12345) - (((τ 9 1) * 1103515245) + 12345) / 2147483648 * 2147483648))).bind fun (a_3, σ_3, τ_3) => some (.inl (x1 + 1), σ_3, τ_3))
set_option maxHeartbeats 4000000 in
set_option maxRecDepth 20000 in
theorem wsX6_draw_6 (B : jp_B Γ p s m args meth c RX6 cX6_draw 2 none) {n : Nat} (hX0 : jp_hU Z n) {x1 : Int32} {σ : jp_I} {τ : jp_J} {q : Sum (Int32) (Sum (Unit) Int32) × jp_I × jp_J} (hf : sX6_draw_6 n x1 σ τ = some q) (kb : ∀ v : Int32, q.1 = .inl v → jp_at p l e (jp_R 2 45) s m args below meth c (MQ below (jp_Q Γ Z none σ0 τ0) args s 0 0 (jp_A Γ)) 2 Γ Z 6 [(0, .ref (Γ.2.2.1 9)), (1, .int v)] [] q.2.1 q.2.2) (kx : ∀ v : Unit, q.1 = .inr (.inl v) → jp_at p l e (jp_R 2 45) s m args below meth c (MQ below (jp_Q Γ Z none σ0 τ0) args s 0 0 (jp_A Γ)) 2 Γ Z 60 [] [] q.2.1 q.2.2) (kr : ∀ v : Int32, q.1 = .inr (.inr v) → r0 = v ∧ σ0 = q.2.1 ∧ τ0 = q.2.2) : jp_at p l e (jp_R 2 45) s m args below meth c (MQ below (jp_Q Γ Z none σ0 τ0) args s 0 0 (jp_A Γ)) 2 Γ Z 6 [(0, .ref (Γ.2.2.1 9)), (1, .int x1)] [] σ τ := by
  obtain ⟨hx, hb, hml, hown, hts, hr, hlk, hE⟩ := id B
  unfold sX6_draw_6 at hf
  intro H locs ls hP hS hl
  refine lv_iload_n hx hb dX6_draw_6 rfl (lv_at hl 1 rfl) ?_
  refine lv_aload_n hx hb dX6_draw_7 rfl (lv_at hl 0 rfl) ?_
  refine jp_getr (k := 0) B hP hX0.1 rfl rfl (by decide) jp_fX6 rfl mw_101 dX6_draw_8 ?_
  refine jp_alen B hP hX0.2 dX6_draw_11 ?_
  refine lv_icmp_ge (tgt := 60) hx hb dX6_draw_12 (by decide) (fun c_1 => ?_) (fun c_1 => ?_)
  · rw [if_pos c_1] at hf
    obtain rfl := Option.some.inj hf
    exact kx _ rfl H locs ls hP hS (lv_sub hl [] rfl)
  · rw [if_neg c_1] at hf
    refine lv_aload_n hx hb dX6_draw_15 rfl (lv_at hl 0 rfl) ?_
    refine lv_aload_n hx hb dX6_draw_16 rfl (lv_at hl 0 rfl) ?_
    refine jp_getl (k := 1) B hP hX0.1 rfl rfl (by decide) jp_fX6 rfl mw_100 dX6_draw_17 ?_
    refine lv_ldc2 (v := 1103515245) hx hb hown (hts _ mw_350) dX6_draw_20 ?_
    refine lv_lmul hx hb dX6_draw_23 ?_
    refine lv_ldc2 (v := 12345) hx hb hown (hts _ mw_351) dX6_draw_24 ?_
    refine lv_ladd hx hb dX6_draw_27 ?_
    refine lv_ldc2 (v := 2147483648) hx hb hown (hts _ mw_352) dX6_draw_28 ?_
    refine lv_lrem hx hb dX6_draw_31 (by decide) ?_
    refine jp_putl (k := 1) B hP hS hX0.1 rfl rfl (by decide) jp_fX6 tyX6 tyX6_ok nmX6 rfl mw_100 rfl (by decide +kernel) dX6_draw_32 (fun H locs hP hS => ?_)
    refine lv_aload_n hx hb dX6_draw_35 rfl (lv_at hl 0 rfl) ?_
    refine lv_iload_n hx hb dX6_draw_36 rfl (lv_at hl 1 rfl) ?_
    refine lv_aload_n hx hb dX6_draw_37 rfl (lv_at hl 0 rfl) ?_
    refine jp_getl (k := 1) B hP hX0.1 rfl rfl (by decide) jp_fX6 rfl mw_100 dX6_draw_38 ?_
    refine lv_ldc2 (v := 65536) hx hb hown (hts _ mw_353) dX6_draw_41 ?_
    refine lv_ldiv hx hb dX6_draw_44 (by decide) ?_
    refine lv_iload_n hx hb dX6_draw_45 rfl (lv_at hl 1 rfl) ?_
    refine lv_iconst (v := 1) hx hb dX6_draw_46 (by decide) ?_
    refine lv_iadd hx hb dX6_draw_47 ?_
    refine lv_i2l hx hb dX6_draw_48 rfl ?_
    obtain ⟨g_2, hf⟩ := jp_nzl hf
    refine lv_lrem hx hb dX6_draw_49 g_2 ?_
    refine lv_l2i hx hb dX6_draw_50 rfl ?_
    obtain ⟨⟨a_3, σ_3, τ_3⟩, h_3, hf⟩ := jp_bind hf
    dsimp only at hf
    refine jp_callV (rest := []) B hP hS hl (ctX6_exchange ⟨hX0.1, hX0.2⟩ h_3) hX0.1 rfl mw_358 mw_355 mw_356 mw_357 mw_31 ddX6_exchange ⟨Nat.le_of_ble_eq_true rfl, Nat.le_of_ble_eq_true rfl⟩ ⟨Nat.zero_le _, Nat.zero_le _⟩ rfl (Nat.le_of_ble_eq_true rfl) dX6_draw_51 (fun H locs hP hS => ?_)
    refine lv_iinc (v := x1 + 1) (lv' := [(1, .int (x1 + 1)), (0, .ref (Γ.2.2.1 9))]) hx hb dX6_draw_54 hl (k := 1) rfl rfl (by decide) rfl (fun ls hl => ?_)
    refine lv_goto (tgt := 6) hx hb dX6_draw_57 (by decide) ?_
    obtain rfl := Option.some.inj hf
    exact kb _ rfl H locs ls hP hS (lv_sub hl [1, 0] rfl)
set_option maxHeartbeats 4000000 in
theorem lX6_draw_6 (B : jp_B Γ p s m args meth c RX6 cX6_draw 2 none) {n : Nat} (hX0 : jp_hU Z n) {e1 : Sum (Unit) Int32} {σ1 : jp_I} {τ1 : jp_J} (kx : ∀ v : Unit, e1 = .inl v → jp_at p l e (jp_R 2 45) s m args below meth c (MQ below (jp_Q Γ Z none σ0 τ0) args s 0 0 (jp_A Γ)) 2 Γ Z 60 [] [] σ1 τ1) (kr : ∀ v : Int32, e1 = .inr v → r0 = v ∧ σ0 = σ1 ∧ τ0 = τ1) : ∀ (k : Nat) (v : Int32) (σ : jp_I) (τ : jp_J), jp_loop (fun q : (Int32) × jp_I × jp_J => sX6_draw_6 n q.1 q.2.1 q.2.2) k (v, σ, τ) = some (e1, σ1, τ1) → jp_at p l e (jp_R 2 45) s m args below meth c (MQ below (jp_Q Γ Z none σ0 τ0) args s 0 0 (jp_A Γ)) 2 Γ Z 6 [(0, .ref (Γ.2.2.1 9)), (1, .int v)] [] σ τ := by
  refine jp_loopI (P := fun (v : Int32) (σ : jp_I) (τ : jp_J) => jp_at p l e (jp_R 2 45) s m args below meth c (MQ below (jp_Q Γ Z none σ0 τ0) args s 0 0 (jp_A Γ)) 2 Γ Z 6 [(0, .ref (Γ.2.2.1 9)), (1, .int v)] [] σ τ) (fun v σ τ q hq hbk hen => ?_)
  exact wsX6_draw_6 B hX0 hq (fun v' hv => hbk v' hv) (fun x hv => by obtain ⟨h1, h2, h3⟩ := hen _ hv; rw [h2, h3]; exact kx x h1.symm) (fun r hv => by obtain ⟨h1, h2, h3⟩ := hen _ hv; rw [h2, h3]; exact kr r h1.symm)
def fX6_draw (n : Nat) (σ : jp_I) (τ : jp_J) : Option (Int32 × jp_I × jp_J) :=
  (fX6_reset n σ τ).bind fun (a_1, σ_1, τ_1) => (jp_loop (fun q : (Int32) × jp_I × jp_J => sX6_draw_6 n q.1 q.2.1 q.2.2) jp_F (1, σ_1, τ_1)).bind fun (e_2, σ_2, τ_2) => match e_2 with
    | .inl _ => (some (0, σ_2, τ_2))
    | .inr r_2 => some (r_2, σ_2, τ_2)
set_option maxHeartbeats 4000000 in
set_option maxRecDepth 20000 in
theorem ctX6_draw {l : Launch} {Γ : jp_G} {Z : Nat → Option jp_Sh} {n : Nat} (hX0 : jp_hU Z n) {σ σ0 : jp_I} {τ τ0 : jp_J} {r0 : Int32} (hf : fX6_draw n σ τ = some (r0, σ0, τ0)) : jp_M l yX6_draw cX6_draw 2 none 2 45 Γ Z σ τ [.ref (Γ.2.2.1 9)] none σ0 τ0 := by
  refine jp_mk (lv := [(0, .ref (Γ.2.2.1 9))]) (by decide) (Nat.le_of_ble_eq_true rfl) rfl fun p e s m args below meth c B => ?_
  obtain ⟨hx, hb, hml, hown, hts, hr, hlk, hE⟩ := id B
  unfold fX6_draw at hf
  intro H locs ls hP hS hl
  refine lv_aload_n hx hb dX6_draw_0 rfl (lv_at hl 0 rfl) ?_
  obtain ⟨⟨a_1, σ_1, τ_1⟩, h_1, hf⟩ := jp_bind hf
  dsimp only at hf
  refine jp_callV (rest := []) B hP hS hl (ctX6_reset ⟨hX0.1, hX0.2⟩ h_1) hX0.1 rfl mw_346 mw_354 mw_344 mw_345 mw_31 ddX6_reset ⟨Nat.le_of_ble_eq_true rfl, Nat.le_of_ble_eq_true rfl⟩ ⟨Nat.zero_le _, Nat.zero_le _⟩ rfl (Nat.le_of_ble_eq_true rfl) dX6_draw_1 (fun H locs hP hS => ?_)
  refine lv_iconst (v := 1) hx hb dX6_draw_4 (by decide) ?_
  refine lv_istore_n (lv' := [(1, .int 1), (0, .ref (Γ.2.2.1 9))]) hx hb dX6_draw_5 rfl hl (by decide) rfl (fun ls hl => ?_)
  obtain ⟨⟨e_2, σ_2, τ_2⟩, h_2, hf⟩ := jp_bind hf
  refine lX6_draw_6 (r0 := r0) B hX0 (fun v_2 k_2 => ?_) (fun r_2 k_2 => ?_) _ _ _ _ h_2 H locs ls hP hS (lv_sub hl [1, 0] rfl)
  · subst k_2
    dsimp only at hf
    intro H locs ls hP hS hl
    exact jp_endv B hP hS dX6_draw_60 (jp_inj hf)
  · subst k_2
    dsimp only at hf
    exact jp_inj hf
end
