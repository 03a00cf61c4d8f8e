-- X4_costBy
section
variable {p : Program} {l : Launch} {e : Jvm.Env} {s : State} {m : MethodId} {args : Array Value} {below : List Frame} {meth : Method} {c : Code} {Γ : jp_G} {Z : Nat → Option jp_Sh} {r0 : Int32} {σ0 : jp_I} {τ0 : jp_J}
def bX4_costBy_101 (n : Nat) (nc : Nat) (x2 : Int32) (x3 : Int32) (x4 : Int32) (x5 : Int32) (σ : jp_I) (τ : jp_J) : Option (Int32 × jp_I × jp_J) :=
  (fX7_ownCost x2 x3 x4 σ τ).bind fun (a_1, σ_1, τ_1) => some (x5 + a_1, σ_1, τ_1)
set_option maxHeartbeats 4000000 in
set_option maxRecDepth 20000 in
theorem wbX4_costBy_101 (B : jp_B Γ p s m args meth c RX4 cX4_costBy 8 (some .int)) {n : Nat} {nc : Nat} (hX0 : jp_hP Z n nc) {x2 : Int32} {x3 : Int32} {x4 : Int32} {x5 : Int32} {σ : jp_I} {τ : jp_J} (hf : bX4_costBy_101 n nc x2 x3 x4 x5 σ τ = some (r0, σ0, τ0)) : jp_at p l e (jp_R 1 22) s m args below meth c (MQ below (jp_Q Γ Z (some (.int r0)) σ0 τ0) args s 0 0 (jp_A Γ)) 8 Γ Z 101 [(2, .int x2), (3, .int x3), (4, .int x4), (5, .int x5)] [] σ τ := by
  obtain ⟨hx, hb, hml, hown, hts, hr, hlk, hE⟩ := id B
  unfold bX4_costBy_101 at hf
  intro H locs ls hP hS hl
  refine lv_iload hx hb dX4_costBy_101 (lv_at hl 3 rfl) ?_
  refine lv_iload_n hx hb dX4_costBy_103 rfl (lv_at hl 0 rfl) ?_
  refine lv_iload_n hx hb dX4_costBy_104 rfl (lv_at hl 1 rfl) ?_
  refine lv_iload hx hb dX4_costBy_105 (lv_at hl 2 rfl) ?_
  obtain ⟨⟨a_1, σ_1, τ_1⟩, h_1, hf⟩ := jp_bind hf
  dsimp only at hf
  refine jp_callSN (rest := [.int x5]) B hP hS hl (ctX7_ownCost h_1) mw_314 nw_644 mw_313 mw_2 ddX7_ownCost ⟨Nat.le_of_ble_eq_true rfl, Nat.le_of_ble_eq_true rfl⟩ ⟨Nat.zero_le _, Nat.zero_le _⟩ rfl (Nat.le_of_ble_eq_true rfl) dX4_costBy_107 (fun H locs hP hS => ?_)
  refine lv_iadd hx hb dX4_costBy_110 ?_
  exact jp_endi B hP hS dX4_costBy_111 (jp_inj hf)
def bX4_costBy_80 (n : Nat) (nc : Nat) (x2 : Int32) (x3 : Int32) (x4 : Int32) (x5 : Int32) (y0 : Int32) (σ : jp_I) (τ : jp_J) : Option (Int32 × jp_I × jp_J) :=
  if y0 = 0 then (bX4_costBy_101 n nc x2 x3 x4 x5 σ τ) else (if (σ 1 4) = 0 then (bX4_costBy_101 n nc x2 x3 x4 x5 σ τ) else (some ((-1), σ, τ)))
set_option maxHeartbeats 4000000 in
set_option maxRecDepth 20000 in
theorem wbX4_costBy_80 (B : jp_B Γ p s m args meth c RX4 cX4_costBy 8 (some .int)) {n : Nat} {nc : Nat} (hX0 : jp_hP Z n nc) {x2 : Int32} {x3 : Int32} {x4 : Int32} {x5 : Int32} {y0 : Int32} {σ : jp_I} {τ : jp_J} (hf : bX4_costBy_80 n nc x2 x3 x4 x5 y0 σ τ = some (r0, σ0, τ0)) : jp_at p l e (jp_R 1 22) s m args below meth c (MQ below (jp_Q Γ Z (some (.int r0)) σ0 τ0) args s 0 0 (jp_A Γ)) 8 Γ Z 80 [(0, .ref (Γ.2.2.1 13)), (2, .int x2), (3, .int x3), (4, .int x4), (5, .int x5)] [.int y0] σ τ := by
  obtain ⟨hx, hb, hml, hown, hts, hr, hlk, hE⟩ := id B
  unfold bX4_costBy_80 at hf
  intro H locs ls hP hS hl
  refine lv_istore (lv' := [(7, .int y0), (0, .ref (Γ.2.2.1 13)), (2, .int x2), (3, .int x3), (4, .int x4), (5, .int x5)]) hx hb dX4_costBy_80 hl (by decide) rfl (fun ls hl => ?_)
  refine lv_iload hx hb dX4_costBy_82 (lv_at hl 0 rfl) ?_
  refine lv_if_eq (tgt := 101) hx hb dX4_costBy_84 (by decide) (fun c_1 => ?_) (fun c_1 => ?_)
  · rw [if_pos c_1] at hf
    exact wbX4_costBy_101 B hX0 hf H locs ls hP hS (lv_sub hl [2, 3, 4, 5] rfl)
  · rw [if_neg c_1] at hf
    refine lv_aload_n hx hb dX4_costBy_87 rfl (lv_at hl 1 rfl) ?_
    refine jp_getr (k := 0) B hP hX0.1 rfl rfl (by decide) jp_fX4 rfl mw_116 dX4_costBy_88 ?_
    refine jp_getiN (k := 4) B hP hX0.2.2.2.1.1 rfl rfl (by decide) jp_fX5 rfl nw_154 dX4_costBy_91 ?_
    refine lv_if_eq (tgt := 101) hx hb dX4_costBy_94 (by decide) (fun c_2 => ?_) (fun c_2 => ?_)
    · rw [if_pos c_2] at hf
      exact wbX4_costBy_101 B hX0 hf H locs ls hP hS (lv_sub hl [2, 3, 4, 5] rfl)
    · rw [if_neg c_2] at hf
      refine lv_iconst (v := -1) hx hb dX4_costBy_97 (by decide) ?_
      refine lv_goto (tgt := 111) hx hb dX4_costBy_98 (by decide) ?_
      exact jp_endi B hP hS dX4_costBy_111 (jp_inj hf)
def bX4_costBy_79 (n : Nat) (nc : Nat) (x2 : Int32) (x3 : Int32) (x4 : Int32) (x5 : Int32) (σ : jp_I) (τ : jp_J) : Option (Int32 × jp_I × jp_J) :=
  bX4_costBy_80 n nc x2 x3 x4 x5 0 σ τ
set_option maxHeartbeats 4000000 in
set_option maxRecDepth 20000 in
theorem wbX4_costBy_79 (B : jp_B Γ p s m args meth c RX4 cX4_costBy 8 (some .int)) {n : Nat} {nc : Nat} (hX0 : jp_hP Z n nc) {x2 : Int32} {x3 : Int32} {x4 : Int32} {x5 : Int32} {σ : jp_I} {τ : jp_J} (hf : bX4_costBy_79 n nc x2 x3 x4 x5 σ τ = some (r0, σ0, τ0)) : jp_at p l e (jp_R 1 22) s m args below meth c (MQ below (jp_Q Γ Z (some (.int r0)) σ0 τ0) args s 0 0 (jp_A Γ)) 8 Γ Z 79 [(0, .ref (Γ.2.2.1 13)), (2, .int x2), (3, .int x3), (4, .int x4), (5, .int x5)] [] σ τ := by
  obtain ⟨hx, hb, hml, hown, hts, hr, hlk, hE⟩ := id B
  unfold bX4_costBy_79 at hf
  intro H locs ls hP hS hl
  refine lv_iconst (v := 0) hx hb dX4_costBy_79 (by decide) ?_
  exact wbX4_costBy_80 B hX0 hf H locs ls hP hS (lv_sub hl [0, 1, 2, 3, 4] rfl)
def bX4_costBy_24 (n : Nat) (nc : Nat) (x1 : Int32) (x2 : Int32) (x3 : Int32) (x4 : Int32) (y0 : Int32) (σ : jp_I) (τ : jp_J) : Option (Int32 × jp_I × jp_J) :=
  if y0 = (-1) then (some ((-1), σ, τ)) else ((fX7_read 17 1476 ((x1 * 36) + x3) σ τ).bind fun (a_2, σ_2, τ_2) => if a_2 = (-1) then (bX4_costBy_79 n nc x2 x3 x4 y0 σ_2 τ_2) else ((fX7_read 17 1476 (((x1 + 1) * 36) + x2) σ_2 τ_2).bind fun (a_4, σ_4, τ_4) => if a_4 = a_2 then (bX4_costBy_80 n nc x2 x3 x4 y0 1 σ_4 τ_4) else (bX4_costBy_79 n nc x2 x3 x4 y0 σ_4 τ_4)))
set_option maxHeartbeats 4000000 in
set_option maxRecDepth 20000 in
theorem wbX4_costBy_24 (B : jp_B Γ p s m args meth c RX4 cX4_costBy 8 (some .int)) {n : Nat} {nc : Nat} (hX0 : jp_hP Z n nc) {x1 : Int32} {x2 : Int32} {x3 : Int32} {x4 : Int32} {y0 : Int32} {σ : jp_I} {τ : jp_J} (hf : bX4_costBy_24 n nc x1 x2 x3 x4 y0 σ τ = some (r0, σ0, τ0)) : jp_at p l e (jp_R 1 22) s m args below meth c (MQ below (jp_Q Γ Z (some (.int r0)) σ0 τ0) args s 0 0 (jp_A Γ)) 8 Γ Z 24 [(0, .ref (Γ.2.2.1 13)), (1, .int x1), (2, .int x2), (3, .int x3), (4, .int x4)] [.int y0] σ τ := by
  obtain ⟨hx, hb, hml, hown, hts, hr, hlk, hE⟩ := id B
  unfold bX4_costBy_24 at hf
  intro H locs ls hP hS hl
  refine lv_istore (lv' := [(5, .int y0), (0, .ref (Γ.2.2.1 13)), (1, .int x1), (2, .int x2), (3, .int x3), (4, .int x4)]) hx hb dX4_costBy_24 hl (by decide) rfl (fun ls hl => ?_)
  refine lv_iload hx hb dX4_costBy_26 (lv_at hl 0 rfl) ?_
  refine lv_iconst (v := -1) hx hb dX4_costBy_28 (by decide) ?_
  refine lv_icmp_ne (tgt := 34) hx hb dX4_costBy_29 (by decide) (fun c_1 => ?_) (fun c_1 => ?_)
  · rw [if_neg c_1] at hf
    refine lv_aload_n hx hb dX4_costBy_34 rfl (lv_at hl 1 rfl) ?_
    refine jp_getr (k := 4) B hP hX0.1 rfl rfl (by decide) jp_fX4 rfl mw_115 dX4_costBy_35 ?_
    refine lv_iload_n hx hb dX4_costBy_38 rfl (lv_at hl 2 rfl) ?_
    refine lv_bipush (v := 36) hx hb dX4_costBy_39 (by decide) ?_
    refine lv_imul hx hb dX4_costBy_41 ?_
    refine lv_iload_n hx hb dX4_costBy_42 rfl (lv_at hl 4 rfl) ?_
    refine lv_iadd hx hb dX4_costBy_43 ?_
    obtain ⟨⟨a_2, σ_2, τ_2⟩, h_2, hf⟩ := jp_bind hf
    dsimp only at hf
    refine jp_callSN (rest := []) B hP hS hl (ctX7_read hX0.2.2.1 h_2) mw_85 nw_629 mw_84 mw_2 ddX7_read ⟨Nat.le_of_ble_eq_true rfl, Nat.le_of_ble_eq_true rfl⟩ ⟨Nat.zero_le _, Nat.zero_le _⟩ rfl (Nat.le_of_ble_eq_true rfl) dX4_costBy_44 (fun H locs hP hS => ?_)
    refine lv_istore (lv' := [(6, .int a_2), (5, .int y0), (0, .ref (Γ.2.2.1 13)), (1, .int x1), (2, .int x2), (3, .int x3), (4, .int x4)]) hx hb dX4_costBy_47 hl (by decide) rfl (fun ls hl => ?_)
    refine lv_iload hx hb dX4_costBy_49 (lv_at hl 0 rfl) ?_
    refine lv_iconst (v := -1) hx hb dX4_costBy_51 (by decide) ?_
    refine lv_icmp_eq (tgt := 79) hx hb dX4_costBy_52 (by decide) (fun c_3 => ?_) (fun c_3 => ?_)
    · rw [if_pos c_3] at hf
      exact wbX4_costBy_79 B hX0 hf H locs ls hP hS (lv_sub hl [2, 4, 5, 6, 1] rfl)
    · rw [if_neg c_3] at hf
      refine lv_aload_n hx hb dX4_costBy_55 rfl (lv_at hl 2 rfl) ?_
      refine jp_getr (k := 4) B hP hX0.1 rfl rfl (by decide) jp_fX4 rfl mw_115 dX4_costBy_56 ?_
      refine lv_iload_n hx hb dX4_costBy_59 rfl (lv_at hl 3 rfl) ?_
      refine lv_iconst (v := 1) hx hb dX4_costBy_60 (by decide) ?_
      refine lv_iadd hx hb dX4_costBy_61 ?_
      refine lv_bipush (v := 36) hx hb dX4_costBy_62 (by decide) ?_
      refine lv_imul hx hb dX4_costBy_64 ?_
      refine lv_iload_n hx hb dX4_costBy_65 rfl (lv_at hl 4 rfl) ?_
      refine lv_iadd hx hb dX4_costBy_66 ?_
      obtain ⟨⟨a_4, σ_4, τ_4⟩, h_4, hf⟩ := jp_bind hf
      dsimp only at hf
      refine jp_callSN (rest := []) B hP hS hl (ctX7_read hX0.2.2.1 h_4) mw_85 nw_629 mw_84 mw_2 ddX7_read ⟨Nat.le_of_ble_eq_true rfl, Nat.le_of_ble_eq_true rfl⟩ ⟨Nat.zero_le _, Nat.zero_le _⟩ rfl (Nat.le_of_ble_eq_true rfl) dX4_costBy_67 (fun H locs hP hS => ?_)
      refine lv_iload hx hb dX4_costBy_70 (lv_at hl 0 rfl) ?_
      refine lv_icmp_ne (tgt := 79) hx hb dX4_costBy_72 (by decide) (fun c_5 => ?_) (fun c_5 => ?_)
      · rw [if_neg c_5] at hf
        exact wbX4_costBy_79 B hX0 hf H locs ls hP hS (lv_sub hl [2, 4, 5, 6, 1] rfl)
      · rw [if_pos c_5] at hf
        refine lv_iconst (v := 1) hx hb dX4_costBy_75 (by decide) ?_
        refine lv_goto (tgt := 80) hx hb dX4_costBy_76 (by decide) ?_
        exact wbX4_costBy_80 B hX0 hf H locs ls hP hS (lv_sub hl [2, 4, 5, 6, 1] rfl)
  · rw [if_pos c_1] at hf
    refine lv_iconst (v := -1) hx hb dX4_costBy_32 (by decide) ?_
    exact jp_endi B hP hS dX4_costBy_33 (jp_inj hf)
def fX4_costBy (n : Nat) (nc : Nat) (p1 : Int32) (p2 : Int32) (p3 : Int32) (p4 : Int32) (σ : jp_I) (τ : jp_J) : Option (Int32 × jp_I × jp_J) :=
  if p3 = (-1) then (bX4_costBy_24 n nc p1 p2 p3 p4 (-1) σ τ) else ((fX7_read 16 1476 (((p1 + 1) * 36) + p3) σ τ).bind fun (a_2, σ_2, τ_2) => bX4_costBy_24 n nc p1 p2 p3 p4 a_2 σ_2 τ_2)
set_option maxHeartbeats 4000000 in
set_option maxRecDepth 20000 in
theorem ctX4_costBy {l : Launch} {Γ : jp_G} {Z : Nat → Option jp_Sh} {n : Nat} {nc : Nat} (hX0 : jp_hP Z n nc) {p1 : Int32} {p2 : Int32} {p3 : Int32} {p4 : Int32} {σ σ0 : jp_I} {τ τ0 : jp_J} {r0 : Int32} (hf : fX4_costBy n nc p1 p2 p3 p4 σ τ = some (r0, σ0, τ0)) : jp_M l yX4_costBy cX4_costBy 8 (some .int) 1 22 Γ Z σ τ [.ref (Γ.2.2.1 13), .int p1, .int p2, .int p3, .int p4] (some (.int r0)) σ0 τ0 := by
  refine jp_mk (lv := [(0, .ref (Γ.2.2.1 13)), (1, .int p1), (2, .int p2), (3, .int p3), (4, .int p4)]) (by decide) (Nat.le_of_ble_eq_true rfl) rfl fun p e s m args below meth c B => ?_
  obtain ⟨hx, hb, hml, hown, hts, hr, hlk, hE⟩ := id B
  unfold fX4_costBy at hf
  intro H locs ls hP hS hl
  refine lv_iload_n hx hb dX4_costBy_0 rfl (lv_at hl 3 rfl) ?_
  refine lv_iconst (v := -1) hx hb dX4_costBy_1 (by decide) ?_
  refine lv_icmp_ne (tgt := 9) hx hb dX4_costBy_2 (by decide) (fun c_1 => ?_) (fun c_1 => ?_)
  · rw [if_neg c_1] at hf
    refine lv_aload_n hx hb dX4_costBy_9 rfl (lv_at hl 0 rfl) ?_
    refine jp_getr (k := 3) B hP hX0.1 rfl rfl (by decide) jp_fX4 rfl mw_114 dX4_costBy_10 ?_
    refine lv_iload_n hx hb dX4_costBy_13 rfl (lv_at hl 1 rfl) ?_
    refine lv_iconst (v := 1) hx hb dX4_costBy_14 (by decide) ?_
    refine lv_iadd hx hb dX4_costBy_15 ?_
    refine lv_bipush (v := 36) hx hb dX4_costBy_16 (by decide) ?_
    refine lv_imul hx hb dX4_costBy_18 ?_
    refine lv_iload_n hx hb dX4_costBy_19 rfl (lv_at hl 3 rfl) ?_
    refine lv_iadd hx hb dX4_costBy_20 ?_
    obtain ⟨⟨a_2, σ_2, τ_2⟩, h_2, hf⟩ := jp_bind hf
    dsimp only at hf
    refine jp_callSN (rest := []) B hP hS hl (ctX7_read hX0.2.1 h_2) mw_85 nw_629 mw_84 mw_2 ddX7_read ⟨Nat.le_of_ble_eq_true rfl, Nat.le_of_ble_eq_true rfl⟩ ⟨Nat.zero_le _, Nat.zero_le _⟩ rfl (Nat.le_of_ble_eq_true rfl) dX4_costBy_21 (fun H locs hP hS => ?_)
    exact wbX4_costBy_24 B hX0 hf H locs ls hP hS (lv_sub hl [0, 1, 2, 3, 4] rfl)
  · rw [if_pos c_1] at hf
    refine lv_iconst (v := -1) hx hb dX4_costBy_5 (by decide) ?_
    refine lv_goto (tgt := 24) hx hb dX4_costBy_6 (by decide) ?_
    exact wbX4_costBy_24 B hX0 hf H locs ls hP hS (lv_sub hl [0, 1, 2, 3, 4] rfl)
end
-- X4_leastFrom
section
variable {p : Program} {l : Launch} {e : Jvm.Env} {s : State} {m : MethodId} {args : Array Value} {below : List Frame} {meth : Method} {c : Code} {Γ : jp_G} {Z : Nat → Option jp_Sh} {r0 : Int32} {σ0 : jp_I} {τ0 : jp_J}
def bX4_leastFrom_92_in41 (n : Nat) (nc : Nat) (x1 : Int32) (x2 : Int32) (x3 : Int32) (x4 : Int32) (x5 : Int32) (σ : jp_I) (τ : jp_J) : Option (Sum (Int32 × Int32) (Sum (Int32) Int32) × jp_I × jp_J) :=
  some (.inl (x4, x5 + 1), σ, τ)
set_option maxHeartbeats 4000000 in
set_option maxRecDepth 20000 in
theorem wbX4_leastFrom_92_in41 (B : jp_B Γ p s m args meth c RX4 cX4_leastFrom 7 (some .int)) {n : Nat} {nc : Nat} (hX0 : jp_hP Z n nc) {x1 : Int32} {x2 : Int32} {x3 : Int32} {x4 : Int32} {x5 : Int32} {σ : jp_I} {τ : jp_J} {q : Sum (Int32 × Int32) (Sum (Int32) Int32) × jp_I × jp_J} (hf : bX4_leastFrom_92_in41 n nc x1 x2 x3 x4 x5 σ τ = some q) (kb : ∀ v : Int32 × Int32, q.1 = .inl v → jp_at p l e (jp_R 2 49) s m args below meth c (MQ below (jp_Q Γ Z (some (.int r0)) σ0 τ0) args s 0 0 (jp_A Γ)) 7 Γ Z 41 [(0, .ref (Γ.2.2.1 13)), (1, .int x1), (2, .int x2), (3, .int x3), (4, .int v.1), (5, .int v.2)] [] q.2.1 q.2.2) (kx : ∀ v : Int32, q.1 = .inr (.inl v) → jp_at p l e (jp_R 2 49) s m args below meth c (MQ below (jp_Q Γ Z (some (.int r0)) σ0 τ0) args s 0 0 (jp_A Γ)) 7 Γ Z 98 [(4, .int v)] [] q.2.1 q.2.2) (kr : ∀ v : Int32, q.1 = .inr (.inr v) → r0 = v ∧ σ0 = q.2.1 ∧ τ0 = q.2.2) : jp_at p l e (jp_R 2 49) s m args below meth c (MQ below (jp_Q Γ Z (some (.int r0)) σ0 τ0) args s 0 0 (jp_A Γ)) 7 Γ Z 92 [(0, .ref (Γ.2.2.1 13)), (1, .int x1), (2, .int x2), (3, .int x3), (4, .int x4), (5, .int x5)] [] σ τ := by
  obtain ⟨hx, hb, hml, hown, hts, hr, hlk, hE⟩ := id B
  unfold bX4_leastFrom_92_in41 at hf
  intro H locs ls hP hS hl
  refine lv_iinc (v := x5 + 1) (lv' := [(5, .int (x5 + 1)), (0, .ref (Γ.2.2.1 13)), (1, .int x1), (2, .int x2), (3, .int x3), (4, .int x4)]) hx hb dX4_leastFrom_92 hl (k := 5) rfl rfl (by decide) rfl (fun ls hl => ?_)
  refine lv_goto (tgt := 41) hx hb dX4_leastFrom_95 (by decide) ?_
  obtain rfl := Option.some.inj hf
  exact kb _ rfl H locs ls hP hS (lv_sub hl [1, 2, 3, 4, 5, 0] rfl)
def bX4_leastFrom_88_in41 (n : Nat) (nc : Nat) (x1 : Int32) (x2 : Int32) (x3 : Int32) (x5 : Int32) (x6 : Int32) (σ : jp_I) (τ : jp_J) : Option (Sum (Int32 × Int32) (Sum (Int32) Int32) × jp_I × jp_J) :=
  bX4_leastFrom_92_in41 n nc x1 x2 x3 x6 x5 σ τ
set_option maxHeartbeats 4000000 in
set_option maxRecDepth 20000 in
theorem wbX4_leastFrom_88_in41 (B : jp_B Γ p s m args meth c RX4 cX4_leastFrom 7 (some .int)) {n : Nat} {nc : Nat} (hX0 : jp_hP Z n nc) {x1 : Int32} {x2 : Int32} {x3 : Int32} {x5 : Int32} {x6 : Int32} {σ : jp_I} {τ : jp_J} {q : Sum (Int32 × Int32) (Sum (Int32) Int32) × jp_I × jp_J} (hf : bX4_leastFrom_88_in41 n nc x1 x2 x3 x5 x6 σ τ = some q) (kb : ∀ v : Int32 × Int32, q.1 = .inl v → jp_at p l e (jp_R 2 49) s m args below meth c (MQ below (jp_Q Γ Z (some (.int r0)) σ0 τ0) args s 0 0 (jp_A Γ)) 7 Γ Z 41 [(0, .ref (Γ.2.2.1 13)), (1, .int x1), (2, .int x2), (3, .int x3), (4, .int v.1), (5, .int v.2)] [] q.2.1 q.2.2) (kx : ∀ v : Int32, q.1 = .inr (.inl v) → jp_at p l e (jp_R 2 49) s m args below meth c (MQ below (jp_Q Γ Z (some (.int r0)) σ0 τ0) args s 0 0 (jp_A Γ)) 7 Γ Z 98 [(4, .int v)] [] q.2.1 q.2.2) (kr : ∀ v : Int32, q.1 = .inr (.inr v) → r0 = v ∧ σ0 = q.2.1 ∧ τ0 = q.2.2) : jp_at p l e (jp_R 2 49) s m args below meth c (MQ below (jp_Q Γ Z (some (.int r0)) σ0 τ0) args s 0 0 (jp_A Γ)) 7 Γ Z 88 [(0, .ref (Γ.2.2.1 13)), (1, .int x1), (2, .int x2), (3, .int x3), (5, .int x5), (6, .int x6)] [] σ τ := by
  obtain ⟨hx, hb, hml, hown, hts, hr, hlk, hE⟩ := id B
  unfold bX4_leastFrom_88_in41 at hf
  intro H locs ls hP hS hl
  refine lv_iload hx hb dX4_leastFrom_88 (lv_at hl 5 rfl) ?_
  refine lv_istore (lv' := [(4, .int x6), (0, .ref (Γ.2.2.1 13)), (1, .int x1), (2, .int x2), (3, .int x3), (5, .int x5), (6, .int x6)]) hx hb dX4_leastFrom_90 hl (by decide) rfl (fun ls hl => ?_)
  exact wbX4_leastFrom_92_in41 B hX0 hf kb kx kr H locs ls hP hS (lv_sub hl [1, 2, 3, 4, 0, 5] rfl)
def sX4_leastFrom_41 (n : Nat) (nc : Nat) (x1 : Int32) (x2 : Int32) (x3 : Int32) (x4 : Int32) (x5 : Int32) (σ : jp_I) (τ : jp_J) : Option (Sum (Int32 × Int32) (Sum (Int32) Int32) × jp_I × jp_J) :=
  if 5 ≤ x5 then (some (.inr (.inl x4), σ, τ)) else ((fX0_moved x2 x5 σ τ).bind fun (a_2, σ_2, τ_2) => (fX4_costBy n nc x1 x2 a_2 x3 σ_2 τ_2).bind fun (a_3, σ_3, τ_3) => if a_3 = (-1) then (bX4_leastFrom_92_in41 n nc x1 x2 x3 x4 x5 σ_3 τ_3) else (if x4 = (-1) then (bX4_leastFrom_88_in41 n nc x1 x2 x3 x5 a_3 σ_3 τ_3) else (if x4 ≤ a_3 then (bX4_leastFrom_92_in41 n nc x1 x2 x3 x4 x5 σ_3 τ_3) else (bX4_leastFrom_88_in41 n nc x1 x2 x3 x5 a_3 σ_3 τ_3))))
set_option maxHeartbeats 4000000 in
set_option maxRecDepth 20000 in
theorem wsX4_leastFrom_41 (B : jp_B Γ p s m args meth c RX4 cX4_leastFrom 7 (some .int)) {n : Nat} {nc : Nat} (hX0 : jp_hP Z n nc) {x1 : Int32} {x2 : Int32} {x3 : Int32} {x4 : Int32} {x5 : Int32} {σ : jp_I} {τ : jp_J} {q : Sum (Int32 × Int32) (Sum (Int32) Int32) × jp_I × jp_J} (hf : sX4_leastFrom_41 n nc x1 x2 x3 x4 x5 σ τ = some q) (kb : ∀ v : Int32 × Int32, q.1 = .inl v → jp_at p l e (jp_R 2 49) s m args below meth c (MQ below (jp_Q Γ Z (some (.int r0)) σ0 τ0) args s 0 0 (jp_A Γ)) 7 Γ Z 41 [(0, .ref (Γ.2.2.1 13)), (1, .int x1), (2, .int x2), (3, .int x3), (4, .int v.1), (5, .int v.2)] [] q.2.1 q.2.2) (kx : ∀ v : Int32, q.1 = .inr (.inl v) → jp_at p l e (jp_R 2 49) s m args below meth c (MQ below (jp_Q Γ Z (some (.int r0)) σ0 τ0) args s 0 0 (jp_A Γ)) 7 Γ Z 98 [(4, .int v)] [] q.2.1 q.2.2) (kr : ∀ v : Int32, q.1 = .inr (.inr v) → r0 = v ∧ σ0 = q.2.1 ∧ τ0 = q.2.2) : jp_at p l e (jp_R 2 49) s m args below meth c (MQ below (jp_Q Γ Z (some (.int r0)) σ0 τ0) args s 0 0 (jp_A Γ)) 7 Γ Z 41 [(0, .ref (Γ.2.2.1 13)), (1, .int x1), (2, .int x2), (3, .int x3), (4, .int x4), (5, .int x5)] [] σ τ := by
  obtain ⟨hx, hb, hml, hown, hts, hr, hlk, hE⟩ := id B
  unfold sX4_leastFrom_41 at hf
  intro H locs ls hP hS hl
  refine lv_iload hx hb dX4_leastFrom_41 (lv_at hl 5 rfl) ?_
  refine lv_iconst (v := 5) hx hb dX4_leastFrom_43 (by decide) ?_
  refine lv_icmp_ge (tgt := 98) hx hb dX4_leastFrom_44 (by decide) (fun c_1 => ?_) (fun c_1 => ?_)
  · rw [if_pos c_1] at hf
    obtain rfl := Option.some.inj hf
    exact kx _ rfl H locs ls hP hS (lv_sub hl [4] rfl)
  · rw [if_neg c_1] at hf
    refine lv_aload_n hx hb dX4_leastFrom_47 rfl (lv_at hl 0 rfl) ?_
    refine lv_iload_n hx hb dX4_leastFrom_48 rfl (lv_at hl 1 rfl) ?_
    refine lv_iload_n hx hb dX4_leastFrom_49 rfl (lv_at hl 2 rfl) ?_
    refine lv_aload_n hx hb dX4_leastFrom_50 rfl (lv_at hl 0 rfl) ?_
    refine jp_getr (k := 0) B hP hX0.1 rfl rfl (by decide) jp_fX4 rfl mw_116 dX4_leastFrom_51 ?_
    refine jp_getrN (k := 1) B hP hX0.2.2.2.1.1 rfl rfl (by decide) jp_fX5 rfl nw_142 dX4_leastFrom_54 ?_
    refine lv_iload_n hx hb dX4_leastFrom_57 rfl (lv_at hl 2 rfl) ?_
    refine lv_iload hx hb dX4_leastFrom_58 (lv_at hl 5 rfl) ?_
    obtain ⟨⟨a_2, σ_2, τ_2⟩, h_2, hf⟩ := jp_bind hf
    dsimp only at hf
    refine jp_callVN (rest := [.int x2, .int x1, .ref (Γ.2.2.1 13)]) B hP hS hl (ctX0_moved ⟨hX0.2.2.2.1.2.2.2.1, hX0.2.2.2.1.2.2.2.2.1, hX0.2.2.2.1.2.2.2.2.2.1, hX0.2.2.2.1.2.2.2.2.2.2.1, hX0.2.2.2.1.2.2.2.2.2.2.2⟩ h_2) hX0.2.2.2.1.2.2.2.1 rfl mw_308 nw_639 mw_306 mw_307 mw_49 ddX0_moved ⟨Nat.le_of_ble_eq_true rfl, Nat.le_of_ble_eq_true rfl⟩ ⟨Nat.zero_le _, Nat.zero_le _⟩ rfl (Nat.le_of_ble_eq_true rfl) dX4_leastFrom_60 (fun H locs hP hS => ?_)
    refine lv_iload_n hx hb dX4_leastFrom_63 rfl (lv_at hl 3 rfl) ?_
    obtain ⟨⟨a_3, σ_3, τ_3⟩, h_3, hf⟩ := jp_bind hf
    dsimp only at hf
    refine jp_callV (rest := []) B hP hS hl (ctX4_costBy ⟨hX0.1, hX0.2.1, hX0.2.2.1, ⟨hX0.2.2.2.1.1, hX0.2.2.2.1.2.1, hX0.2.2.2.1.2.2.1, ⟨hX0.2.2.2.1.2.2.2.1, hX0.2.2.2.1.2.2.2.2.1, hX0.2.2.2.1.2.2.2.2.2.1, hX0.2.2.2.1.2.2.2.2.2.2.1, hX0.2.2.2.1.2.2.2.2.2.2.2⟩⟩, ⟨hX0.2.2.2.2.1.1, hX0.2.2.2.2.1.2⟩, ⟨hX0.2.2.2.2.2.1.1, hX0.2.2.2.2.2.1.2⟩, ⟨hX0.2.2.2.2.2.2.1, hX0.2.2.2.2.2.2.2⟩⟩ h_3) hX0.1 rfl mw_375 mw_372 mw_373 mw_374 mw_38 ddX4_costBy ⟨Nat.le_of_ble_eq_true rfl, Nat.le_of_ble_eq_true rfl⟩ ⟨Nat.zero_le _, Nat.zero_le _⟩ rfl (Nat.le_of_ble_eq_true rfl) dX4_leastFrom_64 (fun H locs hP hS => ?_)
    refine lv_istore (lv' := [(6, .int a_3), (0, .ref (Γ.2.2.1 13)), (1, .int x1), (2, .int x2), (3, .int x3), (4, .int x4), (5, .int x5)]) hx hb dX4_leastFrom_67 hl (by decide) rfl (fun ls hl => ?_)
    refine lv_iload hx hb dX4_leastFrom_69 (lv_at hl 0 rfl) ?_
    refine lv_iconst (v := -1) hx hb dX4_leastFrom_71 (by decide) ?_
    refine lv_icmp_eq (tgt := 92) hx hb dX4_leastFrom_72 (by decide) (fun c_4 => ?_) (fun c_4 => ?_)
    · rw [if_pos c_4] at hf
      exact wbX4_leastFrom_92_in41 B hX0 hf kb kx kr H locs ls hP hS (lv_sub hl [1, 2, 3, 4, 5, 6] rfl)
    · rw [if_neg c_4] at hf
      refine lv_iload hx hb dX4_leastFrom_75 (lv_at hl 5 rfl) ?_
      refine lv_iconst (v := -1) hx hb dX4_leastFrom_77 (by decide) ?_
      refine lv_icmp_eq (tgt := 88) hx hb dX4_leastFrom_78 (by decide) (fun c_5 => ?_) (fun c_5 => ?_)
      · rw [if_pos c_5] at hf
        exact wbX4_leastFrom_88_in41 B hX0 hf kb kx kr H locs ls hP hS (lv_sub hl [1, 2, 3, 4, 6, 0] rfl)
      · rw [if_neg c_5] at hf
        refine lv_iload hx hb dX4_leastFrom_81 (lv_at hl 0 rfl) ?_
        refine lv_iload hx hb dX4_leastFrom_83 (lv_at hl 5 rfl) ?_
        refine lv_icmp_ge (tgt := 92) hx hb dX4_leastFrom_85 (by decide) (fun c_6 => ?_) (fun c_6 => ?_)
        · rw [if_pos c_6] at hf
          exact wbX4_leastFrom_92_in41 B hX0 hf kb kx kr H locs ls hP hS (lv_sub hl [1, 2, 3, 4, 5, 6] rfl)
        · rw [if_neg c_6] at hf
          exact wbX4_leastFrom_88_in41 B hX0 hf kb kx kr H locs ls hP hS (lv_sub hl [1, 2, 3, 4, 6, 0] rfl)
set_option maxHeartbeats 4000000 in
theorem lX4_leastFrom_41 (B : jp_B Γ p s m args meth c RX4 cX4_leastFrom 7 (some .int)) {n : Nat} {nc : Nat} (hX0 : jp_hP Z n nc) {x1 : Int32} {x2 : Int32} {x3 : Int32} {e1 : Sum (Int32) Int32} {σ1 : jp_I} {τ1 : jp_J} (kx : ∀ v : Int32, e1 = .inl v → jp_at p l e (jp_R 2 49) s m args below meth c (MQ below (jp_Q Γ Z (some (.int r0)) σ0 τ0) args s 0 0 (jp_A Γ)) 7 Γ Z 98 [(4, .int v)] [] σ1 τ1) (kr : ∀ v : Int32, e1 = .inr v → r0 = v ∧ σ0 = σ1 ∧ τ0 = τ1) : ∀ (k : Nat) (v : Int32 × Int32) (σ : jp_I) (τ : jp_J), jp_loop (fun q : (Int32 × Int32) × jp_I × jp_J => sX4_leastFrom_41 n nc x1 x2 x3 q.1.1 q.1.2 q.2.1 q.2.2) k (v, σ, τ) = some (e1, σ1, τ1) → jp_at p l e (jp_R 2 49) s m args below meth c (MQ below (jp_Q Γ Z (some (.int r0)) σ0 τ0) args s 0 0 (jp_A Γ)) 7 Γ Z 41 [(0, .ref (Γ.2.2.1 13)), (1, .int x1), (2, .int x2), (3, .int x3), (4, .int v.1), (5, .int v.2)] [] σ τ := by
  refine jp_loopI (P := fun (v : Int32 × Int32) (σ : jp_I) (τ : jp_J) => jp_at p l e (jp_R 2 49) s m args below meth c (MQ below (jp_Q Γ Z (some (.int r0)) σ0 τ0) args s 0 0 (jp_A Γ)) 7 Γ Z 41 [(0, .ref (Γ.2.2.1 13)), (1, .int x1), (2, .int x2), (3, .int x3), (4, .int v.1), (5, .int v.2)] [] σ τ) (fun v σ τ q hq hbk hen => ?_)
  exact wsX4_leastFrom_41 B hX0 hq (fun v' hv => hbk v' hv) (fun x hv => by obtain ⟨h1, h2, h3⟩ := hen _ hv; rw [h2, h3]; exact kx x h1.symm) (fun r hv => by obtain ⟨h1, h2, h3⟩ := hen _ hv; rw [h2, h3]; exact kr r h1.symm)
def fX4_leastFrom (n : Nat) (nc : Nat) (p1 : Int32) (p2 : Int32) (p3 : Int32) (σ : jp_I) (τ : jp_J) : Option (Int32 × jp_I × jp_J) :=
  (fX0_moved p2 0 σ τ).bind fun (a_1, σ_1, τ_1) => if a_1 = (-1) then (some ((-1), σ_1, τ_1)) else ((fX7_read 17 1476 ((p1 * 36) + p2) σ_1 τ_1).bind fun (a_3, σ_3, τ_3) => if a_3 = (-1) then ((jp_loop (fun q : (Int32 × Int32) × jp_I × jp_J => sX4_leastFrom_41 n nc p1 p2 p3 q.1.1 q.1.2 q.2.1 q.2.2) jp_F (((-1), 0), σ_3, τ_3)).bind fun (e_5, σ_5, τ_5) => match e_5 with
    | .inl v_5 => (some (v_5, σ_5, τ_5))
    | .inr r_5 => some (r_5, σ_5, τ_5)) else (some ((-1), σ_3, τ_3)))
set_option maxHeartbeats 4000000 in
set_option maxRecDepth 20000 in
theorem ctX4_leastFrom {l : Launch} {Γ : jp_G} {Z : Nat → Option jp_Sh} {n : Nat} {nc : Nat} (hX0 : jp_hP Z n nc) {p1 : Int32} {p2 : Int32} {p3 : Int32} {σ σ0 : jp_I} {τ τ0 : jp_J} {r0 : Int32} (hf : fX4_leastFrom n nc p1 p2 p3 σ τ = some (r0, σ0, τ0)) : jp_M l yX4_leastFrom cX4_leastFrom 7 (some .int) 2 49 Γ Z σ τ [.ref (Γ.2.2.1 13), .int p1, .int p2, .int p3] (some (.int r0)) σ0 τ0 := by
  refine jp_mk (lv := [(0, .ref (Γ.2.2.1 13)), (1, .int p1), (2, .int p2), (3, .int p3)]) (by decide) (Nat.le_of_ble_eq_true rfl) rfl fun p e s m args below meth c B => ?_
  obtain ⟨hx, hb, hml, hown, hts, hr, hlk, hE⟩ := id B
  unfold fX4_leastFrom at hf
  intro H locs ls hP hS hl
  refine lv_iconst (v := -1) hx hb dX4_leastFrom_0 (by decide) ?_
  refine lv_istore (lv' := [(4, .int (-1)), (0, .ref (Γ.2.2.1 13)), (1, .int p1), (2, .int p2), (3, .int p3)]) hx hb dX4_leastFrom_1 hl (by decide) rfl (fun ls hl => ?_)
  refine lv_aload_n hx hb dX4_leastFrom_3 rfl (lv_at hl 1 rfl) ?_
  refine jp_getr (k := 0) B hP hX0.1 rfl rfl (by decide) jp_fX4 rfl mw_116 dX4_leastFrom_4 ?_
  refine jp_getrN (k := 1) B hP hX0.2.2.2.1.1 rfl rfl (by decide) jp_fX5 rfl nw_142 dX4_leastFrom_7 ?_
  refine lv_iload_n hx hb dX4_leastFrom_10 rfl (lv_at hl 3 rfl) ?_
  refine lv_iconst (v := 0) hx hb dX4_leastFrom_11 (by decide) ?_
  obtain ⟨⟨a_1, σ_1, τ_1⟩, h_1, hf⟩ := jp_bind hf
  dsimp only at hf
  refine jp_callVN (rest := []) B hP hS hl (ctX0_moved ⟨hX0.2.2.2.1.2.2.2.1, hX0.2.2.2.1.2.2.2.2.1, hX0.2.2.2.1.2.2.2.2.2.1, hX0.2.2.2.1.2.2.2.2.2.2.1, hX0.2.2.2.1.2.2.2.2.2.2.2⟩ h_1) hX0.2.2.2.1.2.2.2.1 rfl mw_308 nw_639 mw_306 mw_307 mw_49 ddX0_moved ⟨Nat.le_of_ble_eq_true rfl, Nat.le_of_ble_eq_true rfl⟩ ⟨Nat.zero_le _, Nat.zero_le _⟩ rfl (Nat.le_of_ble_eq_true rfl) dX4_leastFrom_12 (fun H locs hP hS => ?_)
  refine lv_iconst (v := -1) hx hb dX4_leastFrom_15 (by decide) ?_
  refine lv_icmp_eq (tgt := 36) hx hb dX4_leastFrom_16 (by decide) (fun c_2 => ?_) (fun c_2 => ?_)
  · rw [if_pos c_2] at hf
    refine lv_iconst (v := -1) hx hb dX4_leastFrom_36 (by decide) ?_
    exact jp_endi B hP hS dX4_leastFrom_37 (jp_inj hf)
  · rw [if_neg c_2] at hf
    refine lv_aload_n hx hb dX4_leastFrom_19 rfl (lv_at hl 1 rfl) ?_
    refine jp_getr (k := 4) B hP hX0.1 rfl rfl (by decide) jp_fX4 rfl mw_115 dX4_leastFrom_20 ?_
    refine lv_iload_n hx hb dX4_leastFrom_23 rfl (lv_at hl 2 rfl) ?_
    refine lv_bipush (v := 36) hx hb dX4_leastFrom_24 (by decide) ?_
    refine lv_imul hx hb dX4_leastFrom_26 ?_
    refine lv_iload_n hx hb dX4_leastFrom_27 rfl (lv_at hl 3 rfl) ?_
    refine lv_iadd hx hb dX4_leastFrom_28 ?_
    obtain ⟨⟨a_3, σ_3, τ_3⟩, h_3, hf⟩ := jp_bind hf
    dsimp only at hf
    refine jp_callSN (rest := []) B hP hS hl (ctX7_read hX0.2.2.1 h_3) mw_85 nw_629 mw_84 mw_2 ddX7_read ⟨Nat.le_of_ble_eq_true rfl, Nat.le_of_ble_eq_true rfl⟩ ⟨Nat.zero_le _, Nat.zero_le _⟩ rfl (Nat.le_of_ble_eq_true rfl) dX4_leastFrom_29 (fun H locs hP hS => ?_)
    refine lv_iconst (v := -1) hx hb dX4_leastFrom_32 (by decide) ?_
    refine lv_icmp_eq (tgt := 38) hx hb dX4_leastFrom_33 (by decide) (fun c_4 => ?_) (fun c_4 => ?_)
    · rw [if_pos c_4] at hf
      refine lv_iconst (v := 0) hx hb dX4_leastFrom_38 (by decide) ?_
      refine lv_istore (lv' := [(5, .int 0), (4, .int (-1)), (0, .ref (Γ.2.2.1 13)), (1, .int p1), (2, .int p2), (3, .int p3)]) hx hb dX4_leastFrom_39 hl (by decide) rfl (fun ls hl => ?_)
      obtain ⟨⟨e_5, σ_5, τ_5⟩, h_5, hf⟩ := jp_bind hf
      refine lX4_leastFrom_41 (r0 := r0) B hX0 (x1 := p1) (x2 := p2) (x3 := p3) (fun v_5 k_5 => ?_) (fun r_5 k_5 => ?_) _ _ _ _ h_5 H locs ls hP hS (lv_sub hl [2, 3, 4, 5, 1, 0] rfl)
      · subst k_5
        dsimp only at hf
        intro H locs ls hP hS hl
        refine lv_iload hx hb dX4_leastFrom_98 (lv_at hl 0 rfl) ?_
        exact jp_endi B hP hS dX4_leastFrom_100 (jp_inj hf)
      · subst k_5
        dsimp only at hf
        exact jp_inj hf
    · rw [if_neg c_4] at hf
      refine lv_iconst (v := -1) hx hb dX4_leastFrom_36 (by decide) ?_
      exact jp_endi B hP hS dX4_leastFrom_37 (jp_inj hf)
end
-- X4_measure
section
variable {p : Program} {l : Launch} {e : Jvm.Env} {s : State} {m : MethodId} {args : Array Value} {below : List Frame} {meth : Method} {c : Code} {Γ : jp_G} {Z : Nat → Option jp_Sh} {r0 : Int32} {σ0 : jp_I} {τ0 : jp_J}
def bX4_measure_41_in2 (n : Nat) (nc : Nat) (x1 : Int32) (x2 : Int32) (y1 : Int32) (y2 : Int32) (σ : jp_I) (τ : jp_J) : Option (Sum (Int32) (Sum (Unit) Int32) × jp_I × jp_J) :=
  (fX7_write 16 1476 y1 y2 σ τ).bind fun (a_1, σ_1, τ_1) => some (.inl (x2 + 1), σ_1, τ_1)
set_option maxHeartbeats 4000000 in
set_option maxRecDepth 20000 in
theorem wbX4_measure_41_in2 (B : jp_B Γ p s m args meth c RX4 cX4_measure 4 none) {n : Nat} {nc : Nat} (hX0 : jp_hP Z n nc) {x1 : Int32} {x2 : Int32} {y1 : Int32} {y2 : Int32} {σ : jp_I} {τ : jp_J} {q : Sum (Int32) (Sum (Unit) Int32) × jp_I × jp_J} (hf : bX4_measure_41_in2 n nc x1 x2 y1 y2 σ τ = some q) (kb : ∀ v : Int32, q.1 = .inl v → jp_at p l e (jp_R 3 75) s m args below meth c (MQ below (jp_Q Γ Z none σ0 τ0) args s 0 0 (jp_A Γ)) 4 Γ Z 2 [(0, .ref (Γ.2.2.1 13)), (1, .int x1), (2, .int v)] [] q.2.1 q.2.2) (kx : ∀ v : Unit, q.1 = .inr (.inl v) → jp_at p l e (jp_R 3 75) s m args below meth c (MQ below (jp_Q Γ Z none σ0 τ0) args s 0 0 (jp_A Γ)) 4 Γ Z 50 [(0, .ref (Γ.2.2.1 13)), (1, .int x1)] [] q.2.1 q.2.2) (kr : ∀ v : Int32, q.1 = .inr (.inr v) → r0 = v ∧ σ0 = q.2.1 ∧ τ0 = q.2.2) : jp_at p l e (jp_R 3 75) s m args below meth c (MQ below (jp_Q Γ Z none σ0 τ0) args s 0 0 (jp_A Γ)) 4 Γ Z 41 [(0, .ref (Γ.2.2.1 13)), (1, .int x1), (2, .int x2)] [.int y2, .int y1, .ref (Γ.2.2.1 16)] σ τ := by
  obtain ⟨hx, hb, hml, hown, hts, hr, hlk, hE⟩ := id B
  unfold bX4_measure_41_in2 at hf
  intro H locs ls hP hS hl
  obtain ⟨⟨a_1, σ_1, τ_1⟩, h_1, hf⟩ := jp_bind hf
  dsimp only at hf
  refine jp_callSN (rest := []) B hP hS hl (ctX7_write hX0.2.1 h_1) mw_95 nw_634 mw_94 mw_2 ddX7_write ⟨Nat.le_of_ble_eq_true rfl, Nat.le_of_ble_eq_true rfl⟩ ⟨Nat.zero_le _, Nat.zero_le _⟩ rfl (Nat.le_of_ble_eq_true rfl) dX4_measure_41 (fun H locs hP hS => ?_)
  refine lv_iinc (v := x2 + 1) (lv' := [(2, .int (x2 + 1)), (0, .ref (Γ.2.2.1 13)), (1, .int x1)]) hx hb dX4_measure_44 hl (k := 2) rfl rfl (by decide) rfl (fun ls hl => ?_)
  refine lv_goto (tgt := 2) hx hb dX4_measure_47 (by decide) ?_
  obtain rfl := Option.some.inj hf
  exact kb _ rfl H locs ls hP hS (lv_sub hl [1, 2, 0] rfl)
def bX4_measure_40_in2 (n : Nat) (nc : Nat) (x1 : Int32) (x2 : Int32) (y1 : Int32) (σ : jp_I) (τ : jp_J) : Option (Sum (Int32) (Sum (Unit) Int32) × jp_I × jp_J) :=
  bX4_measure_41_in2 n nc x1 x2 y1 (-1) σ τ
set_option maxHeartbeats 4000000 in
set_option maxRecDepth 20000 in
theorem wbX4_measure_40_in2 (B : jp_B Γ p s m args meth c RX4 cX4_measure 4 none) {n : Nat} {nc : Nat} (hX0 : jp_hP Z n nc) {x1 : Int32} {x2 : Int32} {y1 : Int32} {σ : jp_I} {τ : jp_J} {q : Sum (Int32) (Sum (Unit) Int32) × jp_I × jp_J} (hf : bX4_measure_40_in2 n nc x1 x2 y1 σ τ = some q) (kb : ∀ v : Int32, q.1 = .inl v → jp_at p l e (jp_R 3 75) s m args below meth c (MQ below (jp_Q Γ Z none σ0 τ0) args s 0 0 (jp_A Γ)) 4 Γ Z 2 [(0, .ref (Γ.2.2.1 13)), (1, .int x1), (2, .int v)] [] q.2.1 q.2.2) (kx : ∀ v : Unit, q.1 = .inr (.inl v) → jp_at p l e (jp_R 3 75) s m args below meth c (MQ below (jp_Q Γ Z none σ0 τ0) args s 0 0 (jp_A Γ)) 4 Γ Z 50 [(0, .ref (Γ.2.2.1 13)), (1, .int x1)] [] q.2.1 q.2.2) (kr : ∀ v : Int32, q.1 = .inr (.inr v) → r0 = v ∧ σ0 = q.2.1 ∧ τ0 = q.2.2) : jp_at p l e (jp_R 3 75) s m args below meth c (MQ below (jp_Q Γ Z none σ0 τ0) args s 0 0 (jp_A Γ)) 4 Γ Z 40 [(0, .ref (Γ.2.2.1 13)), (1, .int x1), (2, .int x2)] [.int y1, .ref (Γ.2.2.1 16)] σ τ := by
  obtain ⟨hx, hb, hml, hown, hts, hr, hlk, hE⟩ := id B
  unfold bX4_measure_40_in2 at hf
  intro H locs ls hP hS hl
  refine lv_iconst (v := -1) hx hb dX4_measure_40 (by decide) ?_
  exact wbX4_measure_41_in2 B hX0 hf kb kx kr H locs ls hP hS (lv_sub hl [0, 1, 2] rfl)
def sX4_measure_2 (n : Nat) (nc : Nat) (x1 : Int32) (x2 : Int32) (σ : jp_I) (τ : jp_J) : Option (Sum (Int32) (Sum (Unit) Int32) × jp_I × jp_J) :=
  if 36 ≤ x2 then (some (.inr (.inl ()), σ, τ)) else (if x2 = x1 then ((fX7_read 17 1476 (1440 + x2) σ τ).bind fun (a_3, σ_3, τ_3) => if a_3 = (-1) then (bX4_measure_41_in2 n nc x1 x2 (1440 + x2) 0 σ_3 τ_3) else (bX4_measure_40_in2 n nc x1 x2 (1440 + x2) σ_3 τ_3)) else (bX4_measure_40_in2 n nc x1 x2 (1440 + x2) σ τ))
set_option maxHeartbeats 4000000 in
set_option maxRecDepth 20000 in
theorem wsX4_measure_2 (B : jp_B Γ p s m args meth c RX4 cX4_measure 4 none) {n : Nat} {nc : Nat} (hX0 : jp_hP Z n nc) {x1 : Int32} {x2 : Int32} {σ : jp_I} {τ : jp_J} {q : Sum (Int32) (Sum (Unit) Int32) × jp_I × jp_J} (hf : sX4_measure_2 n nc x1 x2 σ τ = some q) (kb : ∀ v : Int32, q.1 = .inl v → jp_at p l e (jp_R 3 75) s m args below meth c (MQ below (jp_Q Γ Z none σ0 τ0) args s 0 0 (jp_A Γ)) 4 Γ Z 2 [(0, .ref (Γ.2.2.1 13)), (1, .int x1), (2, .int v)] [] q.2.1 q.2.2) (kx : ∀ v : Unit, q.1 = .inr (.inl v) → jp_at p l e (jp_R 3 75) s m args below meth c (MQ below (jp_Q Γ Z none σ0 τ0) args s 0 0 (jp_A Γ)) 4 Γ Z 50 [(0, .ref (Γ.2.2.1 13)), (1, .int x1)] [] q.2.1 q.2.2) (kr : ∀ v : Int32, q.1 = .inr (.inr v) → r0 = v ∧ σ0 = q.2.1 ∧ τ0 = q.2.2) : jp_at p l e (jp_R 3 75) s m args below meth c (MQ below (jp_Q Γ Z none σ0 τ0) args s 0 0 (jp_A Γ)) 4 Γ Z 2 [(0, .ref (Γ.2.2.1 13)), (1, .int x1), (2, .int x2)] [] σ τ := by
  obtain ⟨hx, hb, hml, hown, hts, hr, hlk, hE⟩ := id B
  unfold sX4_measure_2 at hf
  intro H locs ls hP hS hl
  refine lv_iload_n hx hb dX4_measure_2 rfl (lv_at hl 2 rfl) ?_
  refine lv_bipush (v := 36) hx hb dX4_measure_3 (by decide) ?_
  refine lv_icmp_ge (tgt := 50) hx hb dX4_measure_5 (by decide) (fun c_1 => ?_) (fun c_1 => ?_)
  · rw [if_pos c_1] at hf
    obtain rfl := Option.some.inj hf
    exact kx _ rfl H locs ls hP hS (lv_sub hl [0, 1] rfl)
  · rw [if_neg c_1] at hf
    refine lv_sipush (v := 1440) hx hb dX4_measure_8 (by decide) ?_
    refine lv_iload_n hx hb dX4_measure_11 rfl (lv_at hl 2 rfl) ?_
    refine lv_iadd hx hb dX4_measure_12 ?_
    refine lv_istore_n (lv' := [(3, .int (1440 + x2)), (0, .ref (Γ.2.2.1 13)), (1, .int x1), (2, .int x2)]) hx hb dX4_measure_13 rfl hl (by decide) rfl (fun ls hl => ?_)
    refine lv_aload_n hx hb dX4_measure_14 rfl (lv_at hl 1 rfl) ?_
    refine jp_getr (k := 3) B hP hX0.1 rfl rfl (by decide) jp_fX4 rfl mw_114 dX4_measure_15 ?_
    refine lv_iload_n hx hb dX4_measure_18 rfl (lv_at hl 0 rfl) ?_
    refine lv_iload_n hx hb dX4_measure_19 rfl (lv_at hl 3 rfl) ?_
    refine lv_iload_n hx hb dX4_measure_20 rfl (lv_at hl 2 rfl) ?_
    refine lv_icmp_ne (tgt := 40) hx hb dX4_measure_21 (by decide) (fun c_2 => ?_) (fun c_2 => ?_)
    · rw [if_neg c_2] at hf
      exact wbX4_measure_40_in2 B hX0 hf kb kx kr H locs ls hP hS (lv_sub hl [1, 2, 3] rfl)
    · rw [if_pos c_2] at hf
      refine lv_aload_n hx hb dX4_measure_24 rfl (lv_at hl 1 rfl) ?_
      refine jp_getr (k := 4) B hP hX0.1 rfl rfl (by decide) jp_fX4 rfl mw_115 dX4_measure_25 ?_
      refine lv_iload_n hx hb dX4_measure_28 rfl (lv_at hl 0 rfl) ?_
      obtain ⟨⟨a_3, σ_3, τ_3⟩, h_3, hf⟩ := jp_bind hf
      dsimp only at hf
      refine jp_callSN (rest := [.int (1440 + x2), .ref (Γ.2.2.1 16)]) B hP hS hl (ctX7_read hX0.2.2.1 h_3) mw_85 nw_629 mw_84 mw_2 ddX7_read ⟨Nat.le_of_ble_eq_true rfl, Nat.le_of_ble_eq_true rfl⟩ ⟨Nat.zero_le _, Nat.zero_le _⟩ rfl (Nat.le_of_ble_eq_true rfl) dX4_measure_29 (fun H locs hP hS => ?_)
      refine lv_iconst (v := -1) hx hb dX4_measure_32 (by decide) ?_
      refine lv_icmp_ne (tgt := 40) hx hb dX4_measure_33 (by decide) (fun c_4 => ?_) (fun c_4 => ?_)
      · rw [if_neg c_4] at hf
        exact wbX4_measure_40_in2 B hX0 hf kb kx kr H locs ls hP hS (lv_sub hl [1, 2, 3] rfl)
      · rw [if_pos c_4] at hf
        refine lv_iconst (v := 0) hx hb dX4_measure_36 (by decide) ?_
        refine lv_goto (tgt := 41) hx hb dX4_measure_37 (by decide) ?_
        exact wbX4_measure_41_in2 B hX0 hf kb kx kr H locs ls hP hS (lv_sub hl [1, 2, 3] rfl)
set_option maxHeartbeats 4000000 in
theorem lX4_measure_2 (B : jp_B Γ p s m args meth c RX4 cX4_measure 4 none) {n : Nat} {nc : Nat} (hX0 : jp_hP Z n nc) {x1 : Int32} {e1 : Sum (Unit) Int32} {σ1 : jp_I} {τ1 : jp_J} (kx : ∀ v : Unit, e1 = .inl v → jp_at p l e (jp_R 3 75) s m args below meth c (MQ below (jp_Q Γ Z none σ0 τ0) args s 0 0 (jp_A Γ)) 4 Γ Z 50 [(0, .ref (Γ.2.2.1 13)), (1, .int x1)] [] σ1 τ1) (kr : ∀ v : Int32, e1 = .inr v → r0 = v ∧ σ0 = σ1 ∧ τ0 = τ1) : ∀ (k : Nat) (v : Int32) (σ : jp_I) (τ : jp_J), jp_loop (fun q : (Int32) × jp_I × jp_J => sX4_measure_2 n nc x1 q.1 q.2.1 q.2.2) k (v, σ, τ) = some (e1, σ1, τ1) → jp_at p l e (jp_R 3 75) s m args below meth c (MQ below (jp_Q Γ Z none σ0 τ0) args s 0 0 (jp_A Γ)) 4 Γ Z 2 [(0, .ref (Γ.2.2.1 13)), (1, .int x1), (2, .int v)] [] σ τ := by
  refine jp_loopI (P := fun (v : Int32) (σ : jp_I) (τ : jp_J) => jp_at p l e (jp_R 3 75) s m args below meth c (MQ below (jp_Q Γ Z none σ0 τ0) args s 0 0 (jp_A Γ)) 4 Γ Z 2 [(0, .ref (Γ.2.2.1 13)), (1, .int x1), (2, .int v)] [] σ τ) (fun v σ τ q hq hbk hen => ?_)
  exact wsX4_measure_2 B hX0 hq (fun v' hv => hbk v' hv) (fun x hv => by obtain ⟨h1, h2, h3⟩ := hen _ hv; rw [h2, h3]; exact kx x h1.symm) (fun r hv => by obtain ⟨h1, h2, h3⟩ := hen _ hv; rw [h2, h3]; exact kr r h1.symm)
def sX4_measure_59 (n : Nat) (nc : Nat) (x1 : Int32) (x2 : Int32) (x3 : Int32) (σ : jp_I) (τ : jp_J) : Option (Sum (Int32) (Sum (Unit) Int32) × jp_I × jp_J) :=
  if 36 ≤ x3 then (some (.inr (.inl ()), σ, τ)) else ((fX4_leastFrom n nc x2 x3 x1 σ τ).bind fun (a_2, σ_2, τ_2) => (fX7_write 16 1476 ((x2 * 36) + x3) a_2 σ_2 τ_2).bind fun (a_3, σ_3, τ_3) => some (.inl (x3 + 1), σ_3, τ_3))
set_option maxHeartbeats 4000000 in
set_option maxRecDepth 20000 in
theorem wsX4_measure_59 (B : jp_B Γ p s m args meth c RX4 cX4_measure 4 none) {n : Nat} {nc : Nat} (hX0 : jp_hP Z n nc) {x1 : Int32} {x2 : Int32} {x3 : Int32} {σ : jp_I} {τ : jp_J} {q : Sum (Int32) (Sum (Unit) Int32) × jp_I × jp_J} (hf : sX4_measure_59 n nc x1 x2 x3 σ τ = some q) (kb : ∀ v : Int32, q.1 = .inl v → jp_at p l e (jp_R 3 75) s m args below meth c (MQ below (jp_Q Γ Z none σ0 τ0) args s 0 0 (jp_A Γ)) 4 Γ Z 59 [(0, .ref (Γ.2.2.1 13)), (1, .int x1), (2, .int x2), (3, .int v)] [] q.2.1 q.2.2) (kx : ∀ v : Unit, q.1 = .inr (.inl v) → jp_at p l e (jp_R 3 75) s m args below meth c (MQ below (jp_Q Γ Z none σ0 τ0) args s 0 0 (jp_A Γ)) 4 Γ Z 91 [(0, .ref (Γ.2.2.1 13)), (1, .int x1), (2, .int x2)] [] q.2.1 q.2.2) (kr : ∀ v : Int32, q.1 = .inr (.inr v) → r0 = v ∧ σ0 = q.2.1 ∧ τ0 = q.2.2) : jp_at p l e (jp_R 3 75) s m args below meth c (MQ below (jp_Q Γ Z none σ0 τ0) args s 0 0 (jp_A Γ)) 4 Γ Z 59 [(0, .ref (Γ.2.2.1 13)), (1, .int x1), (2, .int x2), (3, .int x3)] [] σ τ := by
  obtain ⟨hx, hb, hml, hown, hts, hr, hlk, hE⟩ := id B
  unfold sX4_measure_59 at hf
  intro H locs ls hP hS hl
  refine lv_iload_n hx hb dX4_measure_59 rfl (lv_at hl 3 rfl) ?_
  refine lv_bipush (v := 36) hx hb dX4_measure_60 (by decide) ?_
  refine lv_icmp_ge (tgt := 91) hx hb dX4_measure_62 (by decide) (fun c_1 => ?_) (fun c_1 => ?_)
  · rw [if_pos c_1] at hf
    obtain rfl := Option.some.inj hf
    exact kx _ rfl H locs ls hP hS (lv_sub hl [0, 1, 2] rfl)
  · rw [if_neg c_1] at hf
    refine lv_aload_n hx hb dX4_measure_65 rfl (lv_at hl 0 rfl) ?_
    refine jp_getr (k := 3) B hP hX0.1 rfl rfl (by decide) jp_fX4 rfl mw_114 dX4_measure_66 ?_
    refine lv_iload_n hx hb dX4_measure_69 rfl (lv_at hl 2 rfl) ?_
    refine lv_bipush (v := 36) hx hb dX4_measure_70 (by decide) ?_
    refine lv_imul hx hb dX4_measure_72 ?_
    refine lv_iload_n hx hb dX4_measure_73 rfl (lv_at hl 3 rfl) ?_
    refine lv_iadd hx hb dX4_measure_74 ?_
    refine lv_aload_n hx hb dX4_measure_75 rfl (lv_at hl 0 rfl) ?_
    refine lv_iload_n hx hb dX4_measure_76 rfl (lv_at hl 2 rfl) ?_
    refine lv_iload_n hx hb dX4_measure_77 rfl (lv_at hl 3 rfl) ?_
    refine lv_iload_n hx hb dX4_measure_78 rfl (lv_at hl 1 rfl) ?_
    obtain ⟨⟨a_2, σ_2, τ_2⟩, h_2, hf⟩ := jp_bind hf
    dsimp only at hf
    refine jp_callV (rest := [.int ((x2 * 36) + x3), .ref (Γ.2.2.1 16)]) B hP hS hl (ctX4_leastFrom ⟨hX0.1, hX0.2.1, hX0.2.2.1, ⟨hX0.2.2.2.1.1, hX0.2.2.2.1.2.1, hX0.2.2.2.1.2.2.1, ⟨hX0.2.2.2.1.2.2.2.1, hX0.2.2.2.1.2.2.2.2.1, hX0.2.2.2.1.2.2.2.2.2.1, hX0.2.2.2.1.2.2.2.2.2.2.1, hX0.2.2.2.1.2.2.2.2.2.2.2⟩⟩, ⟨hX0.2.2.2.2.1.1, hX0.2.2.2.2.1.2⟩, ⟨hX0.2.2.2.2.2.1.1, hX0.2.2.2.2.2.1.2⟩, ⟨hX0.2.2.2.2.2.2.1, hX0.2.2.2.2.2.2.2⟩⟩ h_2) hX0.1 rfl mw_371 mw_368 mw_369 mw_370 mw_38 ddX4_leastFrom ⟨Nat.le_of_ble_eq_true rfl, Nat.le_of_ble_eq_true rfl⟩ ⟨Nat.zero_le _, Nat.zero_le _⟩ rfl (Nat.le_of_ble_eq_true rfl) dX4_measure_79 (fun H locs hP hS => ?_)
    obtain ⟨⟨a_3, σ_3, τ_3⟩, h_3, hf⟩ := jp_bind hf
    dsimp only at hf
    refine jp_callSN (rest := []) B hP hS hl (ctX7_write hX0.2.1 h_3) mw_95 nw_634 mw_94 mw_2 ddX7_write ⟨Nat.le_of_ble_eq_true rfl, Nat.le_of_ble_eq_true rfl⟩ ⟨Nat.zero_le _, Nat.zero_le _⟩ rfl (Nat.le_of_ble_eq_true rfl) dX4_measure_82 (fun H locs hP hS => ?_)
    refine lv_iinc (v := x3 + 1) (lv' := [(3, .int (x3 + 1)), (0, .ref (Γ.2.2.1 13)), (1, .int x1), (2, .int x2)]) hx hb dX4_measure_85 hl (k := 3) rfl rfl (by decide) rfl (fun ls hl => ?_)
    refine lv_goto (tgt := 59) hx hb dX4_measure_88 (by decide) ?_
    obtain rfl := Option.some.inj hf
    exact kb _ rfl H locs ls hP hS (lv_sub hl [1, 2, 3, 0] rfl)
set_option maxHeartbeats 4000000 in
theorem lX4_measure_59 (B : jp_B Γ p s m args meth c RX4 cX4_measure 4 none) {n : Nat} {nc : Nat} (hX0 : jp_hP Z n nc) {x1 : Int32} {x2 : Int32} {e1 : Sum (Unit) Int32} {σ1 : jp_I} {τ1 : jp_J} (kx : ∀ v : Unit, e1 = .inl v → jp_at p l e (jp_R 3 75) s m args below meth c (MQ below (jp_Q Γ Z none σ0 τ0) args s 0 0 (jp_A Γ)) 4 Γ Z 91 [(0, .ref (Γ.2.2.1 13)), (1, .int x1), (2, .int x2)] [] σ1 τ1) (kr : ∀ v : Int32, e1 = .inr v → r0 = v ∧ σ0 = σ1 ∧ τ0 = τ1) : ∀ (k : Nat) (v : Int32) (σ : jp_I) (τ : jp_J), jp_loop (fun q : (Int32) × jp_I × jp_J => sX4_measure_59 n nc x1 x2 q.1 q.2.1 q.2.2) k (v, σ, τ) = some (e1, σ1, τ1) → jp_at p l e (jp_R 3 75) s m args below meth c (MQ below (jp_Q Γ Z none σ0 τ0) args s 0 0 (jp_A Γ)) 4 Γ Z 59 [(0, .ref (Γ.2.2.1 13)), (1, .int x1), (2, .int x2), (3, .int v)] [] σ τ := by
  refine jp_loopI (P := fun (v : Int32) (σ : jp_I) (τ : jp_J) => jp_at p l e (jp_R 3 75) s m args below meth c (MQ below (jp_Q Γ Z none σ0 τ0) args s 0 0 (jp_A Γ)) 4 Γ Z 59 [(0, .ref (Γ.2.2.1 13)), (1, .int x1), (2, .int x2), (3, .int v)] [] σ τ) (fun v σ τ q hq hbk hen => ?_)
  exact wsX4_measure_59 B hX0 hq (fun v' hv => hbk v' hv) (fun x hv => by obtain ⟨h1, h2, h3⟩ := hen _ hv; rw [h2, h3]; exact kx x h1.symm) (fun r hv => by obtain ⟨h1, h2, h3⟩ := hen _ hv; rw [h2, h3]; exact kr r h1.symm)
def sX4_measure_53 (n : Nat) (nc : Nat) (x1 : Int32) (x2 : Int32) (σ : jp_I) (τ : jp_J) : Option (Sum (Int32) (Sum (Unit) Int32) × jp_I × jp_J) :=
  if x2 < 0 then (some (.inr (.inl ()), σ, τ)) else ((jp_loop (fun q : (Int32) × jp_I × jp_J => sX4_measure_59 n nc x1 x2 q.1 q.2.1 q.2.2) jp_F (0, σ, τ)).bind fun (e_2, σ_2, τ_2) => match e_2 with
    | .inl _ => (some (.inl (x2 + (-1)), σ_2, τ_2))
    | .inr r_2 => some (.inr (.inr r_2), σ_2, τ_2))
set_option maxHeartbeats 4000000 in
set_option maxRecDepth 20000 in
theorem wsX4_measure_53 (B : jp_B Γ p s m args meth c RX4 cX4_measure 4 none) {n : Nat} {nc : Nat} (hX0 : jp_hP Z n nc) {x1 : Int32} {x2 : Int32} {σ : jp_I} {τ : jp_J} {q : Sum (Int32) (Sum (Unit) Int32) × jp_I × jp_J} (hf : sX4_measure_53 n nc x1 x2 σ τ = some q) (kb : ∀ v : Int32, q.1 = .inl v → jp_at p l e (jp_R 3 75) s m args below meth c (MQ below (jp_Q Γ Z none σ0 τ0) args s 0 0 (jp_A Γ)) 4 Γ Z 53 [(0, .ref (Γ.2.2.1 13)), (1, .int x1), (2, .int v)] [] q.2.1 q.2.2) (kx : ∀ v : Unit, q.1 = .inr (.inl v) → jp_at p l e (jp_R 3 75) s m args below meth c (MQ below (jp_Q Γ Z none σ0 τ0) args s 0 0 (jp_A Γ)) 4 Γ Z 97 [] [] q.2.1 q.2.2) (kr : ∀ v : Int32, q.1 = .inr (.inr v) → r0 = v ∧ σ0 = q.2.1 ∧ τ0 = q.2.2) : jp_at p l e (jp_R 3 75) s m args below meth c (MQ below (jp_Q Γ Z none σ0 τ0) args s 0 0 (jp_A Γ)) 4 Γ Z 53 [(0, .ref (Γ.2.2.1 13)), (1, .int x1), (2, .int x2)] [] σ τ := by
  obtain ⟨hx, hb, hml, hown, hts, hr, hlk, hE⟩ := id B
  unfold sX4_measure_53 at hf
  intro H locs ls hP hS hl
  refine lv_iload_n hx hb dX4_measure_53 rfl (lv_at hl 2 rfl) ?_
  refine lv_if_lt (tgt := 97) hx hb dX4_measure_54 (by decide) (fun c_1 => ?_) (fun c_1 => ?_)
  · rw [if_pos c_1] at hf
    obtain rfl := Option.some.inj hf
    exact kx _ rfl H locs ls hP hS (lv_sub hl [] rfl)
  · rw [if_neg c_1] at hf
    refine lv_iconst (v := 0) hx hb dX4_measure_57 (by decide) ?_
    refine lv_istore_n (lv' := [(3, .int 0), (0, .ref (Γ.2.2.1 13)), (1, .int x1), (2, .int x2)]) hx hb dX4_measure_58 rfl hl (by decide) rfl (fun ls hl => ?_)
    obtain ⟨⟨e_2, σ_2, τ_2⟩, h_2, hf⟩ := jp_bind hf
    refine lX4_measure_59 (r0 := r0) B hX0 (x1 := x1) (x2 := x2) (fun v_2 k_2 => ?_) (fun r_2 k_2 => ?_) _ _ _ _ h_2 H locs ls hP hS (lv_sub hl [1, 2, 3, 0] rfl)
    · subst k_2
      dsimp only at hf
      intro H locs ls hP hS hl
      refine lv_iinc (v := x2 + (-1)) (lv' := [(2, .int (x2 + (-1))), (0, .ref (Γ.2.2.1 13)), (1, .int x1)]) hx hb dX4_measure_91 hl (k := 2) rfl rfl (by decide) rfl (fun ls hl => ?_)
      refine lv_goto (tgt := 53) hx hb dX4_measure_94 (by decide) ?_
      obtain rfl := Option.some.inj hf
      exact kb _ rfl H locs ls hP hS (lv_sub hl [1, 2, 0] rfl)
    · subst k_2
      dsimp only at hf
      obtain rfl := Option.some.inj hf
      exact kr _ rfl
set_option maxHeartbeats 4000000 in
theorem lX4_measure_53 (B : jp_B Γ p s m args meth c RX4 cX4_measure 4 none) {n : Nat} {nc : Nat} (hX0 : jp_hP Z n nc) {x1 : Int32} {e1 : Sum (Unit) Int32} {σ1 : jp_I} {τ1 : jp_J} (kx : ∀ v : Unit, e1 = .inl v → jp_at p l e (jp_R 3 75) s m args below meth c (MQ below (jp_Q Γ Z none σ0 τ0) args s 0 0 (jp_A Γ)) 4 Γ Z 97 [] [] σ1 τ1) (kr : ∀ v : Int32, e1 = .inr v → r0 = v ∧ σ0 = σ1 ∧ τ0 = τ1) : ∀ (k : Nat) (v : Int32) (σ : jp_I) (τ : jp_J), jp_loop (fun q : (Int32) × jp_I × jp_J => sX4_measure_53 n nc x1 q.1 q.2.1 q.2.2) k (v, σ, τ) = some (e1, σ1, τ1) → jp_at p l e (jp_R 3 75) s m args below meth c (MQ below (jp_Q Γ Z none σ0 τ0) args s 0 0 (jp_A Γ)) 4 Γ Z 53 [(0, .ref (Γ.2.2.1 13)), (1, .int x1), (2, .int v)] [] σ τ := by
  refine jp_loopI (P := fun (v : Int32) (σ : jp_I) (τ : jp_J) => jp_at p l e (jp_R 3 75) s m args below meth c (MQ below (jp_Q Γ Z none σ0 τ0) args s 0 0 (jp_A Γ)) 4 Γ Z 53 [(0, .ref (Γ.2.2.1 13)), (1, .int x1), (2, .int v)] [] σ τ) (fun v σ τ q hq hbk hen => ?_)
  exact wsX4_measure_53 B hX0 hq (fun v' hv => hbk v' hv) (fun x hv => by obtain ⟨h1, h2, h3⟩ := hen _ hv; rw [h2, h3]; exact kx x h1.symm) (fun r hv => by obtain ⟨h1, h2, h3⟩ := hen _ hv; rw [h2, h3]; exact kr r h1.symm)
def fX4_measure (n : Nat) (nc : Nat) (p1 : Int32) (σ : jp_I) (τ : jp_J) : Option (Int32 × jp_I × jp_J) :=
  (jp_loop (fun q : (Int32) × jp_I × jp_J => sX4_measure_2 n nc p1 q.1 q.2.1 q.2.2) jp_F (0, σ, τ)).bind fun (e_1, σ_1, τ_1) => match e_1 with
    | .inl _ => ((jp_loop (fun q : (Int32) × jp_I × jp_J => sX4_measure_53 n nc p1 q.1 q.2.1 q.2.2) jp_F (39, σ_1, τ_1)).bind fun (e_2, σ_2, τ_2) => match e_2 with
    | .inl _ => (some (0, σ_2, τ_2))
    | .inr r_2 => some (r_2, σ_2, τ_2))
    | .inr r_1 => some (r_1, σ_1, τ_1)
set_option maxHeartbeats 4000000 in
set_option maxRecDepth 20000 in
theorem ctX4_measure {l : Launch} {Γ : jp_G} {Z : Nat → Option jp_Sh} {n : Nat} {nc : Nat} (hX0 : jp_hP Z n nc) {p1 : Int32} {σ σ0 : jp_I} {τ τ0 : jp_J} {r0 : Int32} (hf : fX4_measure n nc p1 σ τ = some (r0, σ0, τ0)) : jp_M l yX4_measure cX4_measure 4 none 3 75 Γ Z σ τ [.ref (Γ.2.2.1 13), .int p1] none σ0 τ0 := by
  refine jp_mk (lv := [(0, .ref (Γ.2.2.1 13)), (1, .int p1)]) (by decide) (Nat.le_of_ble_eq_true rfl) rfl fun p e s m args below meth c B => ?_
  obtain ⟨hx, hb, hml, hown, hts, hr, hlk, hE⟩ := id B
  unfold fX4_measure at hf
  intro H locs ls hP hS hl
  refine lv_iconst (v := 0) hx hb dX4_measure_0 (by decide) ?_
  refine lv_istore_n (lv' := [(2, .int 0), (0, .ref (Γ.2.2.1 13)), (1, .int p1)]) hx hb dX4_measure_1 rfl hl (by decide) rfl (fun ls hl => ?_)
  obtain ⟨⟨e_1, σ_1, τ_1⟩, h_1, hf⟩ := jp_bind hf
  refine lX4_measure_2 (r0 := r0) B hX0 (x1 := p1) (fun v_1 k_1 => ?_) (fun r_1 k_1 => ?_) _ _ _ _ h_1 H locs ls hP hS (lv_sub hl [1, 2, 0] rfl)
  · subst k_1
    dsimp only at hf
    intro H locs ls hP hS hl
    refine lv_bipush (v := 39) hx hb dX4_measure_50 (by decide) ?_
    refine lv_istore_n (lv' := [(2, .int 39), (0, .ref (Γ.2.2.1 13)), (1, .int p1)]) hx hb dX4_measure_52 rfl hl (by decide) rfl (fun ls hl => ?_)
    obtain ⟨⟨e_2, σ_2, τ_2⟩, h_2, hf⟩ := jp_bind hf
    refine lX4_measure_53 (r0 := r0) B hX0 (x1 := p1) (fun v_2 k_2 => ?_) (fun r_2 k_2 => ?_) _ _ _ _ h_2 H locs ls hP hS (lv_sub hl [1, 2, 0] rfl)
    · subst k_2
      dsimp only at hf
      intro H locs ls hP hS hl
      exact jp_endv B hP hS dX4_measure_97 (jp_inj hf)
    · subst k_2
      dsimp only at hf
      exact jp_inj hf
  · subst k_1
    dsimp only at hf
    exact jp_inj hf
end
-- X4_follow
section
variable {p : Program} {l : Launch} {e : Jvm.Env} {s : State} {m : MethodId} {args : Array Value} {below : List Frame} {meth : Method} {c : Code} {Γ : jp_G} {Z : Nat → Option jp_Sh} {r0 : Int32} {σ0 : jp_I} {τ0 : jp_J}
def bX4_follow_62_in18 (n : Nat) (nc : Nat) (x1 : Int32) (x2 : Int32) (x3 : Int32) (x4 : Int32) (x5 : Int32) (σ : jp_I) (τ : jp_J) : Option (Sum (Int32) (Sum (Unit) Int32) × jp_I × jp_J) :=
  some (.inl (x5 + 1), σ, τ)
set_option maxHeartbeats 4000000 in
set_option maxRecDepth 20000 in
theorem wbX4_follow_62_in18 (B : jp_B Γ p s m args meth c RX4 cX4_follow 7 (some .int)) {n : Nat} {nc : Nat} (hX0 : jp_hP Z n nc) {x1 : Int32} {x2 : Int32} {x3 : Int32} {x4 : Int32} {x5 : Int32} {σ : jp_I} {τ : jp_J} {q : Sum (Int32) (Sum (Unit) Int32) × jp_I × jp_J} (hf : bX4_follow_62_in18 n nc x1 x2 x3 x4 x5 σ τ = some q) (kb : ∀ v : Int32, q.1 = .inl v → jp_at p l e (jp_R 2 49) s m args below meth c (MQ below (jp_Q Γ Z (some (.int r0)) σ0 τ0) args s 0 0 (jp_A Γ)) 7 Γ Z 18 [(0, .ref (Γ.2.2.1 13)), (1, .int x1), (2, .int x2), (3, .int x3), (4, .int x4), (5, .int v)] [] q.2.1 q.2.2) (kx : ∀ v : Unit, q.1 = .inr (.inl v) → jp_at p l e (jp_R 2 49) s m args below meth c (MQ below (jp_Q Γ Z (some (.int r0)) σ0 τ0) args s 0 0 (jp_A Γ)) 7 Γ Z 68 [(2, .int x2)] [] q.2.1 q.2.2) (kr : ∀ v : Int32, q.1 = .inr (.inr v) → r0 = v ∧ σ0 = q.2.1 ∧ τ0 = q.2.2) : jp_at p l e (jp_R 2 49) s m args below meth c (MQ below (jp_Q Γ Z (some (.int r0)) σ0 τ0) args s 0 0 (jp_A Γ)) 7 Γ Z 62 [(0, .ref (Γ.2.2.1 13)), (1, .int x1), (2, .int x2), (3, .int x3), (4, .int x4), (5, .int x5)] [] σ τ := by
  obtain ⟨hx, hb, hml, hown, hts, hr, hlk, hE⟩ := id B
  unfold bX4_follow_62_in18 at hf
  intro H locs ls hP hS hl
  refine lv_iinc (v := x5 + 1) (lv' := [(5, .int (x5 + 1)), (0, .ref (Γ.2.2.1 13)), (1, .int x1), (2, .int x2), (3, .int x3), (4, .int x4)]) hx hb dX4_follow_62 hl (k := 5) rfl rfl (by decide) rfl (fun ls hl => ?_)
  refine lv_goto (tgt := 18) hx hb dX4_follow_65 (by decide) ?_
  obtain rfl := Option.some.inj hf
  exact kb _ rfl H locs ls hP hS (lv_sub hl [1, 2, 3, 4, 5, 0] rfl)
def sX4_follow_18 (n : Nat) (nc : Nat) (x1 : Int32) (x2 : Int32) (x3 : Int32) (x4 : Int32) (x5 : Int32) (σ : jp_I) (τ : jp_J) : Option (Sum (Int32) (Sum (Unit) Int32) × jp_I × jp_J) :=
  if 5 ≤ x5 then (some (.inr (.inl ()), σ, τ)) else ((fX0_moved x2 x5 σ τ).bind fun (a_2, σ_2, τ_2) => if a_2 = (-1) then (bX4_follow_62_in18 n nc x1 x2 x3 x4 x5 σ_2 τ_2) else ((fX4_costBy n nc x1 x2 a_2 x3 σ_2 τ_2).bind fun (a_4, σ_4, τ_4) => if a_4 = x4 then (some (.inr (.inr a_2), σ_4, τ_4)) else (bX4_follow_62_in18 n nc x1 x2 x3 x4 x5 σ_4 τ_4)))
set_option maxHeartbeats 4000000 in
set_option maxRecDepth 20000 in
theorem wsX4_follow_18 (B : jp_B Γ p s m args meth c RX4 cX4_follow 7 (some .int)) {n : Nat} {nc : Nat} (hX0 : jp_hP Z n nc) {x1 : Int32} {x2 : Int32} {x3 : Int32} {x4 : Int32} {x5 : Int32} {σ : jp_I} {τ : jp_J} {q : Sum (Int32) (Sum (Unit) Int32) × jp_I × jp_J} (hf : sX4_follow_18 n nc x1 x2 x3 x4 x5 σ τ = some q) (kb : ∀ v : Int32, q.1 = .inl v → jp_at p l e (jp_R 2 49) s m args below meth c (MQ below (jp_Q Γ Z (some (.int r0)) σ0 τ0) args s 0 0 (jp_A Γ)) 7 Γ Z 18 [(0, .ref (Γ.2.2.1 13)), (1, .int x1), (2, .int x2), (3, .int x3), (4, .int x4), (5, .int v)] [] q.2.1 q.2.2) (kx : ∀ v : Unit, q.1 = .inr (.inl v) → jp_at p l e (jp_R 2 49) s m args below meth c (MQ below (jp_Q Γ Z (some (.int r0)) σ0 τ0) args s 0 0 (jp_A Γ)) 7 Γ Z 68 [(2, .int x2)] [] q.2.1 q.2.2) (kr : ∀ v : Int32, q.1 = .inr (.inr v) → r0 = v ∧ σ0 = q.2.1 ∧ τ0 = q.2.2) : jp_at p l e (jp_R 2 49) s m args below meth c (MQ below (jp_Q Γ Z (some (.int r0)) σ0 τ0) args s 0 0 (jp_A Γ)) 7 Γ Z 18 [(0, .ref (Γ.2.2.1 13)), (1, .int x1), (2, .int x2), (3, .int x3), (4, .int x4), (5, .int x5)] [] σ τ := by
  obtain ⟨hx, hb, hml, hown, hts, hr, hlk, hE⟩ := id B
  unfold sX4_follow_18 at hf
  intro H locs ls hP hS hl
  refine lv_iload hx hb dX4_follow_18 (lv_at hl 5 rfl) ?_
  refine lv_iconst (v := 5) hx hb dX4_follow_20 (by decide) ?_
  refine lv_icmp_ge (tgt := 68) hx hb dX4_follow_21 (by decide) (fun c_1 => ?_) (fun c_1 => ?_)
  · rw [if_pos c_1] at hf
    obtain rfl := Option.some.inj hf
    exact kx _ rfl H locs ls hP hS (lv_sub hl [2] rfl)
  · rw [if_neg c_1] at hf
    refine lv_aload_n hx hb dX4_follow_24 rfl (lv_at hl 0 rfl) ?_
    refine jp_getr (k := 0) B hP hX0.1 rfl rfl (by decide) jp_fX4 rfl mw_116 dX4_follow_25 ?_
    refine jp_getrN (k := 1) B hP hX0.2.2.2.1.1 rfl rfl (by decide) jp_fX5 rfl nw_142 dX4_follow_28 ?_
    refine lv_iload_n hx hb dX4_follow_31 rfl (lv_at hl 2 rfl) ?_
    refine lv_iload hx hb dX4_follow_32 (lv_at hl 5 rfl) ?_
    obtain ⟨⟨a_2, σ_2, τ_2⟩, h_2, hf⟩ := jp_bind hf
    dsimp only at hf
    refine jp_callVN (rest := []) B hP hS hl (ctX0_moved ⟨hX0.2.2.2.1.2.2.2.1, hX0.2.2.2.1.2.2.2.2.1, hX0.2.2.2.1.2.2.2.2.2.1, hX0.2.2.2.1.2.2.2.2.2.2.1, hX0.2.2.2.1.2.2.2.2.2.2.2⟩ h_2) hX0.2.2.2.1.2.2.2.1 rfl mw_308 nw_639 mw_306 mw_307 mw_49 ddX0_moved ⟨Nat.le_of_ble_eq_true rfl, Nat.le_of_ble_eq_true rfl⟩ ⟨Nat.zero_le _, Nat.zero_le _⟩ rfl (Nat.le_of_ble_eq_true rfl) dX4_follow_34 (fun H locs hP hS => ?_)
    refine lv_istore (lv' := [(6, .int a_2), (0, .ref (Γ.2.2.1 13)), (1, .int x1), (2, .int x2), (3, .int x3), (4, .int x4), (5, .int x5)]) hx hb dX4_follow_37 hl (by decide) rfl (fun ls hl => ?_)
    refine lv_iload hx hb dX4_follow_39 (lv_at hl 0 rfl) ?_
    refine lv_iconst (v := -1) hx hb dX4_follow_41 (by decide) ?_
    refine lv_icmp_eq (tgt := 62) hx hb dX4_follow_42 (by decide) (fun c_3 => ?_) (fun c_3 => ?_)
    · rw [if_pos c_3] at hf
      exact wbX4_follow_62_in18 B hX0 hf kb kx kr H locs ls hP hS (lv_sub hl [1, 2, 3, 4, 5, 6] rfl)
    · rw [if_neg c_3] at hf
      refine lv_aload_n hx hb dX4_follow_45 rfl (lv_at hl 1 rfl) ?_
      refine lv_iload_n hx hb dX4_follow_46 rfl (lv_at hl 2 rfl) ?_
      refine lv_iload_n hx hb dX4_follow_47 rfl (lv_at hl 3 rfl) ?_
      refine lv_iload hx hb dX4_follow_48 (lv_at hl 0 rfl) ?_
      refine lv_iload_n hx hb dX4_follow_50 rfl (lv_at hl 4 rfl) ?_
      obtain ⟨⟨a_4, σ_4, τ_4⟩, h_4, hf⟩ := jp_bind hf
      dsimp only at hf
      refine jp_callV (rest := []) B hP hS hl (ctX4_costBy ⟨hX0.1, hX0.2.1, hX0.2.2.1, ⟨hX0.2.2.2.1.1, hX0.2.2.2.1.2.1, hX0.2.2.2.1.2.2.1, ⟨hX0.2.2.2.1.2.2.2.1, hX0.2.2.2.1.2.2.2.2.1, hX0.2.2.2.1.2.2.2.2.2.1, hX0.2.2.2.1.2.2.2.2.2.2.1, hX0.2.2.2.1.2.2.2.2.2.2.2⟩⟩, ⟨hX0.2.2.2.2.1.1, hX0.2.2.2.2.1.2⟩, ⟨hX0.2.2.2.2.2.1.1, hX0.2.2.2.2.2.1.2⟩, ⟨hX0.2.2.2.2.2.2.1, hX0.2.2.2.2.2.2.2⟩⟩ h_4) hX0.1 rfl mw_375 mw_372 mw_373 mw_374 mw_38 ddX4_costBy ⟨Nat.le_of_ble_eq_true rfl, Nat.le_of_ble_eq_true rfl⟩ ⟨Nat.zero_le _, Nat.zero_le _⟩ rfl (Nat.le_of_ble_eq_true rfl) dX4_follow_51 (fun H locs hP hS => ?_)
      refine lv_iload hx hb dX4_follow_54 (lv_at hl 5 rfl) ?_
      refine lv_icmp_ne (tgt := 62) hx hb dX4_follow_56 (by decide) (fun c_5 => ?_) (fun c_5 => ?_)
      · rw [if_neg c_5] at hf
        exact wbX4_follow_62_in18 B hX0 hf kb kx kr H locs ls hP hS (lv_sub hl [1, 2, 3, 4, 5, 6] rfl)
      · rw [if_pos c_5] at hf
        refine lv_iload hx hb dX4_follow_59 (lv_at hl 0 rfl) ?_
        obtain rfl := Option.some.inj hf
        exact jp_endi B hP hS dX4_follow_61 (kr _ rfl)
set_option maxHeartbeats 4000000 in
theorem lX4_follow_18 (B : jp_B Γ p s m args meth c RX4 cX4_follow 7 (some .int)) {n : Nat} {nc : Nat} (hX0 : jp_hP Z n nc) {x1 : Int32} {x2 : Int32} {x3 : Int32} {x4 : Int32} {e1 : Sum (Unit) Int32} {σ1 : jp_I} {τ1 : jp_J} (kx : ∀ v : Unit, e1 = .inl v → jp_at p l e (jp_R 2 49) s m args below meth c (MQ below (jp_Q Γ Z (some (.int r0)) σ0 τ0) args s 0 0 (jp_A Γ)) 7 Γ Z 68 [(2, .int x2)] [] σ1 τ1) (kr : ∀ v : Int32, e1 = .inr v → r0 = v ∧ σ0 = σ1 ∧ τ0 = τ1) : ∀ (k : Nat) (v : Int32) (σ : jp_I) (τ : jp_J), jp_loop (fun q : (Int32) × jp_I × jp_J => sX4_follow_18 n nc x1 x2 x3 x4 q.1 q.2.1 q.2.2) k (v, σ, τ) = some (e1, σ1, τ1) → jp_at p l e (jp_R 2 49) s m args below meth c (MQ below (jp_Q Γ Z (some (.int r0)) σ0 τ0) args s 0 0 (jp_A Γ)) 7 Γ Z 18 [(0, .ref (Γ.2.2.1 13)), (1, .int x1), (2, .int x2), (3, .int x3), (4, .int x4), (5, .int v)] [] σ τ := by
  refine jp_loopI (P := fun (v : Int32) (σ : jp_I) (τ : jp_J) => jp_at p l e (jp_R 2 49) s m args below meth c (MQ below (jp_Q Γ Z (some (.int r0)) σ0 τ0) args s 0 0 (jp_A Γ)) 7 Γ Z 18 [(0, .ref (Γ.2.2.1 13)), (1, .int x1), (2, .int x2), (3, .int x3), (4, .int x4), (5, .int v)] [] σ τ) (fun v σ τ q hq hbk hen => ?_)
  exact wsX4_follow_18 B hX0 hq (fun v' hv => hbk v' hv) (fun x hv => by obtain ⟨h1, h2, h3⟩ := hen _ hv; rw [h2, h3]; exact kx x h1.symm) (fun r hv => by obtain ⟨h1, h2, h3⟩ := hen _ hv; rw [h2, h3]; exact kr r h1.symm)
def fX4_follow (n : Nat) (nc : Nat) (p1 : Int32) (p2 : Int32) (p3 : Int32) (σ : jp_I) (τ : jp_J) : Option (Int32 × jp_I × jp_J) :=
  (fX7_read 16 1476 ((p1 * 36) + p2) σ τ).bind fun (a_1, σ_1, τ_1) => (jp_loop (fun q : (Int32) × jp_I × jp_J => sX4_follow_18 n nc p1 p2 p3 a_1 q.1 q.2.1 q.2.2) jp_F (0, σ_1, τ_1)).bind fun (e_2, σ_2, τ_2) => match e_2 with
    | .inl _ => (some (p2, σ_2, τ_2))
    | .inr r_2 => some (r_2, σ_2, τ_2)
set_option maxHeartbeats 4000000 in
set_option maxRecDepth 20000 in
theorem ctX4_follow {l : Launch} {Γ : jp_G} {Z : Nat → Option jp_Sh} {n : Nat} {nc : Nat} (hX0 : jp_hP Z n nc) {p1 : Int32} {p2 : Int32} {p3 : Int32} {σ σ0 : jp_I} {τ τ0 : jp_J} {r0 : Int32} (hf : fX4_follow n nc p1 p2 p3 σ τ = some (r0, σ0, τ0)) : jp_M l yX4_follow cX4_follow 7 (some .int) 2 49 Γ Z σ τ [.ref (Γ.2.2.1 13), .int p1, .int p2, .int p3] (some (.int r0)) σ0 τ0 := by
  refine jp_mk (lv := [(0, .ref (Γ.2.2.1 13)), (1, .int p1), (2, .int p2), (3, .int p3)]) (by decide) (Nat.le_of_ble_eq_true rfl) rfl fun p e s m args below meth c B => ?_
  obtain ⟨hx, hb, hml, hown, hts, hr, hlk, hE⟩ := id B
  unfold fX4_follow at hf
  intro H locs ls hP hS hl
  refine lv_aload_n hx hb dX4_follow_0 rfl (lv_at hl 0 rfl) ?_
  refine jp_getr (k := 3) B hP hX0.1 rfl rfl (by decide) jp_fX4 rfl mw_114 dX4_follow_1 ?_
  refine lv_iload_n hx hb dX4_follow_4 rfl (lv_at hl 1 rfl) ?_
  refine lv_bipush (v := 36) hx hb dX4_follow_5 (by decide) ?_
  refine lv_imul hx hb dX4_follow_7 ?_
  refine lv_iload_n hx hb dX4_follow_8 rfl (lv_at hl 2 rfl) ?_
  refine lv_iadd hx hb dX4_follow_9 ?_
  obtain ⟨⟨a_1, σ_1, τ_1⟩, h_1, hf⟩ := jp_bind hf
  dsimp only at hf
  refine jp_callSN (rest := []) B hP hS hl (ctX7_read hX0.2.1 h_1) mw_85 nw_629 mw_84 mw_2 ddX7_read ⟨Nat.le_of_ble_eq_true rfl, Nat.le_of_ble_eq_true rfl⟩ ⟨Nat.zero_le _, Nat.zero_le _⟩ rfl (Nat.le_of_ble_eq_true rfl) dX4_follow_10 (fun H locs hP hS => ?_)
  refine lv_istore (lv' := [(4, .int a_1), (0, .ref (Γ.2.2.1 13)), (1, .int p1), (2, .int p2), (3, .int p3)]) hx hb dX4_follow_13 hl (by decide) rfl (fun ls hl => ?_)
  refine lv_iconst (v := 0) hx hb dX4_follow_15 (by decide) ?_
  refine lv_istore (lv' := [(5, .int 0), (4, .int a_1), (0, .ref (Γ.2.2.1 13)), (1, .int p1), (2, .int p2), (3, .int p3)]) hx hb dX4_follow_16 hl (by decide) rfl (fun ls hl => ?_)
  obtain ⟨⟨e_2, σ_2, τ_2⟩, h_2, hf⟩ := jp_bind hf
  refine lX4_follow_18 (r0 := r0) B hX0 (x1 := p1) (x2 := p2) (x3 := p3) (x4 := a_1) (fun v_2 k_2 => ?_) (fun r_2 k_2 => ?_) _ _ _ _ h_2 H locs ls hP hS (lv_sub hl [2, 3, 4, 5, 1, 0] rfl)
  · subst k_2
    dsimp only at hf
    intro H locs ls hP hS hl
    refine lv_iload_n hx hb dX4_follow_68 rfl (lv_at hl 0 rfl) ?_
    exact jp_endi B hP hS dX4_follow_69 (jp_inj hf)
  · subst k_2
    dsimp only at hf
    exact jp_inj hf
end
-- X4_walk
section
variable {p : Program} {l : Launch} {e : Jvm.Env} {s : State} {m : MethodId} {args : Array Value} {below : List Frame} {meth : Method} {c : Code} {Γ : jp_G} {Z : Nat → Option jp_Sh} {r0 : Int32} {σ0 : jp_I} {τ0 : jp_J}
def sX4_walk_17 (n : Nat) (nc : Nat) (x1 : Int32) (x3 : Int32) (x4 : Int32) (x5 : Int32) (σ : jp_I) (τ : jp_J) : Option (Sum (Int32 × Int32) (Sum (Unit) Int32) × jp_I × jp_J) :=
  if 40 ≤ x5 then (some (.inr (.inl ()), σ, τ)) else ((fX4_follow n nc x5 x4 x3 σ τ).bind fun (a_2, σ_2, τ_2) => (fX2_put 14 15 nc x1 (x5 + 1) a_2 σ_2 τ_2).bind fun (a_3, σ_3, τ_3) => some (.inl (a_2, x5 + 1), σ_3, τ_3))
set_option maxHeartbeats 4000000 in
set_option maxRecDepth 20000 in
theorem wsX4_walk_17 (B : jp_B Γ p s m args meth c RX4 cX4_walk 6 none) {n : Nat} {nc : Nat} (hX0 : jp_hP Z n nc) {x1 : Int32} {x3 : Int32} {x4 : Int32} {x5 : Int32} {σ : jp_I} {τ : jp_J} {q : Sum (Int32 × Int32) (Sum (Unit) Int32) × jp_I × jp_J} (hf : sX4_walk_17 n nc x1 x3 x4 x5 σ τ = some q) (kb : ∀ v : Int32 × Int32, q.1 = .inl v → jp_at p l e (jp_R 3 75) s m args below meth c (MQ below (jp_Q Γ Z none σ0 τ0) args s 0 0 (jp_A Γ)) 6 Γ Z 17 [(0, .ref (Γ.2.2.1 13)), (1, .int x1), (3, .int x3), (4, .int v.1), (5, .int v.2)] [] q.2.1 q.2.2) (kx : ∀ v : Unit, q.1 = .inr (.inl v) → jp_at p l e (jp_R 3 75) s m args below meth c (MQ below (jp_Q Γ Z none σ0 τ0) args s 0 0 (jp_A Γ)) 6 Γ Z 55 [] [] q.2.1 q.2.2) (kr : ∀ v : Int32, q.1 = .inr (.inr v) → r0 = v ∧ σ0 = q.2.1 ∧ τ0 = q.2.2) : jp_at p l e (jp_R 3 75) s m args below meth c (MQ below (jp_Q Γ Z none σ0 τ0) args s 0 0 (jp_A Γ)) 6 Γ Z 17 [(0, .ref (Γ.2.2.1 13)), (1, .int x1), (3, .int x3), (4, .int x4), (5, .int x5)] [] σ τ := by
  obtain ⟨hx, hb, hml, hown, hts, hr, hlk, hE⟩ := id B
  unfold sX4_walk_17 at hf
  intro H locs ls hP hS hl
  refine lv_iload hx hb dX4_walk_17 (lv_at hl 4 rfl) ?_
  refine lv_bipush (v := 40) hx hb dX4_walk_19 (by decide) ?_
  refine lv_icmp_ge (tgt := 55) hx hb dX4_walk_21 (by decide) (fun c_1 => ?_) (fun c_1 => ?_)
  · rw [if_pos c_1] at hf
    obtain rfl := Option.some.inj hf
    exact kx _ rfl H locs ls hP hS (lv_sub hl [] rfl)
  · rw [if_neg c_1] at hf
    refine lv_aload_n hx hb dX4_walk_24 rfl (lv_at hl 0 rfl) ?_
    refine lv_iload hx hb dX4_walk_25 (lv_at hl 4 rfl) ?_
    refine lv_iload hx hb dX4_walk_27 (lv_at hl 3 rfl) ?_
    refine lv_iload_n hx hb dX4_walk_29 rfl (lv_at hl 2 rfl) ?_
    obtain ⟨⟨a_2, σ_2, τ_2⟩, h_2, hf⟩ := jp_bind hf
    dsimp only at hf
    refine jp_callV (rest := []) B hP hS hl (ctX4_follow ⟨hX0.1, hX0.2.1, hX0.2.2.1, ⟨hX0.2.2.2.1.1, hX0.2.2.2.1.2.1, hX0.2.2.2.1.2.2.1, ⟨hX0.2.2.2.1.2.2.2.1, hX0.2.2.2.1.2.2.2.2.1, hX0.2.2.2.1.2.2.2.2.2.1, hX0.2.2.2.1.2.2.2.2.2.2.1, hX0.2.2.2.1.2.2.2.2.2.2.2⟩⟩, ⟨hX0.2.2.2.2.1.1, hX0.2.2.2.2.1.2⟩, ⟨hX0.2.2.2.2.2.1.1, hX0.2.2.2.2.2.1.2⟩, ⟨hX0.2.2.2.2.2.2.1, hX0.2.2.2.2.2.2.2⟩⟩ h_2) hX0.1 rfl mw_383 mw_380 mw_381 mw_382 mw_38 ddX4_follow ⟨Nat.le_of_ble_eq_true rfl, Nat.le_of_ble_eq_true rfl⟩ ⟨Nat.zero_le _, Nat.zero_le _⟩ rfl (Nat.le_of_ble_eq_true rfl) dX4_walk_30 (fun H locs hP hS => ?_)
    refine lv_istore (lv' := [(4, .int a_2), (0, .ref (Γ.2.2.1 13)), (1, .int x1), (3, .int x3), (5, .int x5)]) hx hb dX4_walk_33 hl (by decide) rfl (fun ls hl => ?_)
    refine lv_aload_n hx hb dX4_walk_35 rfl (lv_at hl 1 rfl) ?_
    refine jp_getr (k := 2) B hP hX0.1 rfl rfl (by decide) jp_fX4 rfl mw_119 dX4_walk_36 ?_
    refine lv_iload_n hx hb dX4_walk_39 rfl (lv_at hl 2 rfl) ?_
    refine lv_iload hx hb dX4_walk_40 (lv_at hl 4 rfl) ?_
    refine lv_iconst (v := 1) hx hb dX4_walk_42 (by decide) ?_
    refine lv_iadd hx hb dX4_walk_43 ?_
    refine lv_iload hx hb dX4_walk_44 (lv_at hl 0 rfl) ?_
    obtain ⟨⟨a_3, σ_3, τ_3⟩, h_3, hf⟩ := jp_bind hf
    dsimp only at hf
    refine jp_callVN (rest := []) B hP hS hl (ctX2_put ⟨hX0.2.2.2.2.2.2.1, hX0.2.2.2.2.2.2.2⟩ h_3) hX0.2.2.2.2.2.2.1 rfl mw_332 nw_649 mw_330 mw_331 mw_42 ddX2_put ⟨Nat.le_of_ble_eq_true rfl, Nat.le_of_ble_eq_true rfl⟩ ⟨Nat.zero_le _, Nat.zero_le _⟩ rfl (Nat.le_of_ble_eq_true rfl) dX4_walk_46 (fun H locs hP hS => ?_)
    refine lv_iinc (v := x5 + 1) (lv' := [(5, .int (x5 + 1)), (4, .int a_2), (0, .ref (Γ.2.2.1 13)), (1, .int x1), (3, .int x3)]) hx hb dX4_walk_49 hl (k := 4) rfl rfl (by decide) rfl (fun ls hl => ?_)
    refine lv_goto (tgt := 17) hx hb dX4_walk_52 (by decide) ?_
    obtain rfl := Option.some.inj hf
    exact kb _ rfl H locs ls hP hS (lv_sub hl [2, 3, 4, 1, 0] rfl)
set_option maxHeartbeats 4000000 in
theorem lX4_walk_17 (B : jp_B Γ p s m args meth c RX4 cX4_walk 6 none) {n : Nat} {nc : Nat} (hX0 : jp_hP Z n nc) {x1 : Int32} {x3 : Int32} {e1 : Sum (Unit) Int32} {σ1 : jp_I} {τ1 : jp_J} (kx : ∀ v : Unit, e1 = .inl v → jp_at p l e (jp_R 3 75) s m args below meth c (MQ below (jp_Q Γ Z none σ0 τ0) args s 0 0 (jp_A Γ)) 6 Γ Z 55 [] [] σ1 τ1) (kr : ∀ v : Int32, e1 = .inr v → r0 = v ∧ σ0 = σ1 ∧ τ0 = τ1) : ∀ (k : Nat) (v : Int32 × Int32) (σ : jp_I) (τ : jp_J), jp_loop (fun q : (Int32 × Int32) × jp_I × jp_J => sX4_walk_17 n nc x1 x3 q.1.1 q.1.2 q.2.1 q.2.2) k (v, σ, τ) = some (e1, σ1, τ1) → jp_at p l e (jp_R 3 75) s m args below meth c (MQ below (jp_Q Γ Z none σ0 τ0) args s 0 0 (jp_A Γ)) 6 Γ Z 17 [(0, .ref (Γ.2.2.1 13)), (1, .int x1), (3, .int x3), (4, .int v.1), (5, .int v.2)] [] σ τ := by
  refine jp_loopI (P := fun (v : Int32 × Int32) (σ : jp_I) (τ : jp_J) => jp_at p l e (jp_R 3 75) s m args below meth c (MQ below (jp_Q Γ Z none σ0 τ0) args s 0 0 (jp_A Γ)) 6 Γ Z 17 [(0, .ref (Γ.2.2.1 13)), (1, .int x1), (3, .int x3), (4, .int v.1), (5, .int v.2)] [] σ τ) (fun v σ τ q hq hbk hen => ?_)
  exact wsX4_walk_17 B hX0 hq (fun v' hv => hbk v' hv) (fun x hv => by obtain ⟨h1, h2, h3⟩ := hen _ hv; rw [h2, h3]; exact kx x h1.symm) (fun r hv => by obtain ⟨h1, h2, h3⟩ := hen _ hv; rw [h2, h3]; exact kr r h1.symm)
def fX4_walk (n : Nat) (nc : Nat) (p1 : Int32) (p2 : Int32) (p3 : Int32) (σ : jp_I) (τ : jp_J) : Option (Int32 × jp_I × jp_J) :=
  (fX2_put 14 15 nc p1 0 p2 σ τ).bind fun (a_1, σ_1, τ_1) => (jp_loop (fun q : (Int32 × Int32) × jp_I × jp_J => sX4_walk_17 n nc p1 p3 q.1.1 q.1.2 q.2.1 q.2.2) jp_F ((p2, 0), σ_1, τ_1)).bind fun (e_2, σ_2, τ_2) => match e_2 with
    | .inl _ => (some (0, σ_2, τ_2))
    | .inr r_2 => some (r_2, σ_2, τ_2)
set_option maxHeartbeats 4000000 in
set_option maxRecDepth 20000 in
theorem ctX4_walk {l : Launch} {Γ : jp_G} {Z : Nat → Option jp_Sh} {n : Nat} {nc : Nat} (hX0 : jp_hP Z n nc) {p1 : Int32} {p2 : Int32} {p3 : Int32} {σ σ0 : jp_I} {τ τ0 : jp_J} {r0 : Int32} (hf : fX4_walk n nc p1 p2 p3 σ τ = some (r0, σ0, τ0)) : jp_M l yX4_walk cX4_walk 6 none 3 75 Γ Z σ τ [.ref (Γ.2.2.1 13), .int p1, .int p2, .int p3] none σ0 τ0 := by
  refine jp_mk (lv := [(0, .ref (Γ.2.2.1 13)), (1, .int p1), (2, .int p2), (3, .int p3)]) (by decide) (Nat.le_of_ble_eq_true rfl) rfl fun p e s m args below meth c B => ?_
  obtain ⟨hx, hb, hml, hown, hts, hr, hlk, hE⟩ := id B
  unfold fX4_walk at hf
  intro H locs ls hP hS hl
  refine lv_iload_n hx hb dX4_walk_0 rfl (lv_at hl 2 rfl) ?_
  refine lv_istore (lv' := [(4, .int p2), (0, .ref (Γ.2.2.1 13)), (1, .int p1), (2, .int p2), (3, .int p3)]) hx hb dX4_walk_1 hl (by decide) rfl (fun ls hl => ?_)
  refine lv_aload_n hx hb dX4_walk_3 rfl (lv_at hl 1 rfl) ?_
  refine jp_getr (k := 2) B hP hX0.1 rfl rfl (by decide) jp_fX4 rfl mw_119 dX4_walk_4 ?_
  refine lv_iload_n hx hb dX4_walk_7 rfl (lv_at hl 2 rfl) ?_
  refine lv_iconst (v := 0) hx hb dX4_walk_8 (by decide) ?_
  refine lv_iload hx hb dX4_walk_9 (lv_at hl 0 rfl) ?_
  obtain ⟨⟨a_1, σ_1, τ_1⟩, h_1, hf⟩ := jp_bind hf
  dsimp only at hf
  refine jp_callVN (rest := []) B hP hS hl (ctX2_put ⟨hX0.2.2.2.2.2.2.1, hX0.2.2.2.2.2.2.2⟩ h_1) hX0.2.2.2.2.2.2.1 rfl mw_332 nw_649 mw_330 mw_331 mw_42 ddX2_put ⟨Nat.le_of_ble_eq_true rfl, Nat.le_of_ble_eq_true rfl⟩ ⟨Nat.zero_le _, Nat.zero_le _⟩ rfl (Nat.le_of_ble_eq_true rfl) dX4_walk_11 (fun H locs hP hS => ?_)
  refine lv_iconst (v := 0) hx hb dX4_walk_14 (by decide) ?_
  refine lv_istore (lv' := [(5, .int 0), (4, .int p2), (0, .ref (Γ.2.2.1 13)), (1, .int p1), (2, .int p2), (3, .int p3)]) hx hb dX4_walk_15 hl (by decide) rfl (fun ls hl => ?_)
  obtain ⟨⟨e_2, σ_2, τ_2⟩, h_2, hf⟩ := jp_bind hf
  refine lX4_walk_17 (r0 := r0) B hX0 (x1 := p1) (x3 := p3) (fun v_2 k_2 => ?_) (fun r_2 k_2 => ?_) _ _ _ _ h_2 H locs ls hP hS (lv_sub hl [2, 3, 5, 1, 0] rfl)
  · subst k_2
    dsimp only at hf
    intro H locs ls hP hS hl
    exact jp_endv B hP hS dX4_walk_55 (jp_inj hf)
  · subst k_2
    dsimp only at hf
    exact jp_inj hf
end
-- X4_occupy
section
variable {p : Program} {l : Launch} {e : Jvm.Env} {s : State} {m : MethodId} {args : Array Value} {below : List Frame} {meth : Method} {c : Code} {Γ : jp_G} {Z : Nat → Option jp_Sh} {r0 : Int32} {σ0 : jp_I} {τ0 : jp_J}
def sX4_occupy_2 (n : Nat) (nc : Nat) (x1 : Int32) (x2 : Int32) (σ : jp_I) (τ : jp_J) : Option (Sum (Int32) (Sum (Unit) Int32) × jp_I × jp_J) :=
  if 40 < x2 then (some (.inr (.inl ()), σ, τ)) else ((fX2_cellOf 14 15 nc x1 x2 σ τ).bind fun (a_2, σ_2, τ_2) => (fX7_write 17 1476 ((x2 * 36) + a_2) x1 σ_2 τ_2).bind fun (a_3, σ_3, τ_3) => some (.inl (x2 + 1), σ_3, τ_3))
set_option maxHeartbeats 4000000 in
set_option maxRecDepth 20000 in
theorem wsX4_occupy_2 (B : jp_B Γ p s m args meth c RX4 cX4_occupy 3 none) {n : Nat} {nc : Nat} (hX0 : jp_hP Z n nc) {x1 : Int32} {x2 : Int32} {σ : jp_I} {τ : jp_J} {q : Sum (Int32) (Sum (Unit) Int32) × jp_I × jp_J} (hf : sX4_occupy_2 n nc x1 x2 σ τ = some q) (kb : ∀ v : Int32, q.1 = .inl v → jp_at p l e (jp_R 2 43) s m args below meth c (MQ below (jp_Q Γ Z none σ0 τ0) args s 0 0 (jp_A Γ)) 3 Γ Z 2 [(0, .ref (Γ.2.2.1 13)), (1, .int x1), (2, .int v)] [] q.2.1 q.2.2) (kx : ∀ v : Unit, q.1 = .inr (.inl v) → jp_at p l e (jp_R 2 43) s m args below meth c (MQ below (jp_Q Γ Z none σ0 τ0) args s 0 0 (jp_A Γ)) 3 Γ Z 36 [] [] q.2.1 q.2.2) (kr : ∀ v : Int32, q.1 = .inr (.inr v) → r0 = v ∧ σ0 = q.2.1 ∧ τ0 = q.2.2) : jp_at p l e (jp_R 2 43) s m args below meth c (MQ below (jp_Q Γ Z none σ0 τ0) args s 0 0 (jp_A Γ)) 3 Γ Z 2 [(0, .ref (Γ.2.2.1 13)), (1, .int x1), (2, .int x2)] [] σ τ := by
  obtain ⟨hx, hb, hml, hown, hts, hr, hlk, hE⟩ := id B
  unfold sX4_occupy_2 at hf
  intro H locs ls hP hS hl
  refine lv_iload_n hx hb dX4_occupy_2 rfl (lv_at hl 2 rfl) ?_
  refine lv_bipush (v := 40) hx hb dX4_occupy_3 (by decide) ?_
  refine lv_icmp_gt (tgt := 36) hx hb dX4_occupy_5 (by decide) (fun c_1 => ?_) (fun c_1 => ?_)
  · rw [if_pos c_1] at hf
    obtain rfl := Option.some.inj hf
    exact kx _ rfl H locs ls hP hS (lv_sub hl [] rfl)
  · rw [if_neg c_1] at hf
    refine lv_aload_n hx hb dX4_occupy_8 rfl (lv_at hl 0 rfl) ?_
    refine jp_getr (k := 4) B hP hX0.1 rfl rfl (by decide) jp_fX4 rfl mw_115 dX4_occupy_9 ?_
    refine lv_iload_n hx hb dX4_occupy_12 rfl (lv_at hl 2 rfl) ?_
    refine lv_bipush (v := 36) hx hb dX4_occupy_13 (by decide) ?_
    refine lv_imul hx hb dX4_occupy_15 ?_
    refine lv_aload_n hx hb dX4_occupy_16 rfl (lv_at hl 0 rfl) ?_
    refine jp_getr (k := 2) B hP hX0.1 rfl rfl (by decide) jp_fX4 rfl mw_119 dX4_occupy_17 ?_
    refine lv_iload_n hx hb dX4_occupy_20 rfl (lv_at hl 1 rfl) ?_
    refine lv_iload_n hx hb dX4_occupy_21 rfl (lv_at hl 2 rfl) ?_
    obtain ⟨⟨a_2, σ_2, τ_2⟩, h_2, hf⟩ := jp_bind hf
    dsimp only at hf
    refine jp_callVN (rest := [.int (x2 * 36), .ref (Γ.2.2.1 17)]) B hP hS hl (ctX2_cellOf ⟨hX0.2.2.2.2.2.2.1, hX0.2.2.2.2.2.2.2⟩ h_2) hX0.2.2.2.2.2.2.1 rfl mw_390 nw_658 mw_388 mw_389 mw_42 ddX2_cellOf ⟨Nat.le_of_ble_eq_true rfl, Nat.le_of_ble_eq_true rfl⟩ ⟨Nat.zero_le _, Nat.zero_le _⟩ rfl (Nat.le_of_ble_eq_true rfl) dX4_occupy_22 (fun H locs hP hS => ?_)
    refine lv_iadd hx hb dX4_occupy_25 ?_
    refine lv_iload_n hx hb dX4_occupy_26 rfl (lv_at hl 1 rfl) ?_
    obtain ⟨⟨a_3, σ_3, τ_3⟩, h_3, hf⟩ := jp_bind hf
    dsimp only at hf
    refine jp_callSN (rest := []) B hP hS hl (ctX7_write hX0.2.2.1 h_3) mw_95 nw_634 mw_94 mw_2 ddX7_write ⟨Nat.le_of_ble_eq_true rfl, Nat.le_of_ble_eq_true rfl⟩ ⟨Nat.zero_le _, Nat.zero_le _⟩ rfl (Nat.le_of_ble_eq_true rfl) dX4_occupy_27 (fun H locs hP hS => ?_)
    refine lv_iinc (v := x2 + 1) (lv' := [(2, .int (x2 + 1)), (0, .ref (Γ.2.2.1 13)), (1, .int x1)]) hx hb dX4_occupy_30 hl (k := 2) rfl rfl (by decide) rfl (fun ls hl => ?_)
    refine lv_goto (tgt := 2) hx hb dX4_occupy_33 (by decide) ?_
    obtain rfl := Option.some.inj hf
    exact kb _ rfl H locs ls hP hS (lv_sub hl [1, 2, 0] rfl)
set_option maxHeartbeats 4000000 in
theorem lX4_occupy_2 (B : jp_B Γ p s m args meth c RX4 cX4_occupy 3 none) {n : Nat} {nc : Nat} (hX0 : jp_hP Z n nc) {x1 : Int32} {e1 : Sum (Unit) Int32} {σ1 : jp_I} {τ1 : jp_J} (kx : ∀ v : Unit, e1 = .inl v → jp_at p l e (jp_R 2 43) s m args below meth c (MQ below (jp_Q Γ Z none σ0 τ0) args s 0 0 (jp_A Γ)) 3 Γ Z 36 [] [] σ1 τ1) (kr : ∀ v : Int32, e1 = .inr v → r0 = v ∧ σ0 = σ1 ∧ τ0 = τ1) : ∀ (k : Nat) (v : Int32) (σ : jp_I) (τ : jp_J), jp_loop (fun q : (Int32) × jp_I × jp_J => sX4_occupy_2 n nc x1 q.1 q.2.1 q.2.2) k (v, σ, τ) = some (e1, σ1, τ1) → jp_at p l e (jp_R 2 43) s m args below meth c (MQ below (jp_Q Γ Z none σ0 τ0) args s 0 0 (jp_A Γ)) 3 Γ Z 2 [(0, .ref (Γ.2.2.1 13)), (1, .int x1), (2, .int v)] [] σ τ := by
  refine jp_loopI (P := fun (v : Int32) (σ : jp_I) (τ : jp_J) => jp_at p l e (jp_R 2 43) s m args below meth c (MQ below (jp_Q Γ Z none σ0 τ0) args s 0 0 (jp_A Γ)) 3 Γ Z 2 [(0, .ref (Γ.2.2.1 13)), (1, .int x1), (2, .int v)] [] σ τ) (fun v σ τ q hq hbk hen => ?_)
  exact wsX4_occupy_2 B hX0 hq (fun v' hv => hbk v' hv) (fun x hv => by obtain ⟨h1, h2, h3⟩ := hen _ hv; rw [h2, h3]; exact kx x h1.symm) (fun r hv => by obtain ⟨h1, h2, h3⟩ := hen _ hv; rw [h2, h3]; exact kr r h1.symm)
def fX4_occupy (n : Nat) (nc : Nat) (p1 : Int32) (σ : jp_I) (τ : jp_J) : Option (Int32 × jp_I × jp_J) :=
  (jp_loop (fun q : (Int32) × jp_I × jp_J => sX4_occupy_2 n nc p1 q.1 q.2.1 q.2.2) jp_F (0, σ, τ)).bind fun (e_1, σ_1, τ_1) => match e_1 with
    | .inl _ => (some (0, σ_1, τ_1))
    | .inr r_1 => some (r_1, σ_1, τ_1)
set_option maxHeartbeats 4000000 in
set_option maxRecDepth 20000 in
theorem ctX4_occupy {l : Launch} {Γ : jp_G} {Z : Nat → Option jp_Sh} {n : Nat} {nc : Nat} (hX0 : jp_hP Z n nc) {p1 : Int32} {σ σ0 : jp_I} {τ τ0 : jp_J} {r0 : Int32} (hf : fX4_occupy n nc p1 σ τ = some (r0, σ0, τ0)) : jp_M l yX4_occupy cX4_occupy 3 none 2 43 Γ Z σ τ [.ref (Γ.2.2.1 13), .int p1] none σ0 τ0 := by
  refine jp_mk (lv := [(0, .ref (Γ.2.2.1 13)), (1, .int p1)]) (by decide) (Nat.le_of_ble_eq_true rfl) rfl fun p e s m args below meth c B => ?_
  obtain ⟨hx, hb, hml, hown, hts, hr, hlk, hE⟩ := id B
  unfold fX4_occupy at hf
  intro H locs ls hP hS hl
  refine lv_iconst (v := 0) hx hb dX4_occupy_0 (by decide) ?_
  refine lv_istore_n (lv' := [(2, .int 0), (0, .ref (Γ.2.2.1 13)), (1, .int p1)]) hx hb dX4_occupy_1 rfl hl (by decide) rfl (fun ls hl => ?_)
  obtain ⟨⟨e_1, σ_1, τ_1⟩, h_1, hf⟩ := jp_bind hf
  refine lX4_occupy_2 (r0 := r0) B hX0 (x1 := p1) (fun v_1 k_1 => ?_) (fun r_1 k_1 => ?_) _ _ _ _ h_1 H locs ls hP hS (lv_sub hl [1, 2, 0] rfl)
  · subst k_1
    dsimp only at hf
    intro H locs ls hP hS hl
    exact jp_endv B hP hS dX4_occupy_36 (jp_inj hf)
  · subst k_1
    dsimp only at hf
    exact jp_inj hf
end
-- X4_allAtEnds
section
variable {p : Program} {l : Launch} {e : Jvm.Env} {s : State} {m : MethodId} {args : Array Value} {below : List Frame} {meth : Method} {c : Code} {Γ : jp_G} {Z : Nat → Option jp_Sh} {r0 : Int32} {σ0 : jp_I} {τ0 : jp_J}
def sX4_allAtEnds_2 (n : Nat) (nc : Nat) (x1 : Int32) (x2 : Int32) (σ : jp_I) (τ : jp_J) : Option (Sum (Int32) (Sum (Unit) Int32) × jp_I × jp_J) :=
  if (σ 1 0) ≤ x2 then (some (.inr (.inl ()), σ, τ)) else ((fX2_cellOf 14 15 nc x2 x1 σ τ).bind fun (a_2, σ_2, τ_2) => (fX7_read 4 n x2 σ_2 τ_2).bind fun (a_3, σ_3, τ_3) => if a_2 = a_3 then (some (.inl (x2 + 1), σ_3, τ_3)) else (some (.inr (.inr 0), σ_3, τ_3)))
set_option maxHeartbeats 4000000 in
set_option maxRecDepth 20000 in
theorem wsX4_allAtEnds_2 (B : jp_B Γ p s m args meth c RX4 cX4_allAtEnds 3 (some .boolean)) {n : Nat} {nc : Nat} (hX0 : jp_hP Z n nc) {x1 : Int32} {x2 : Int32} {σ : jp_I} {τ : jp_J} {q : Sum (Int32) (Sum (Unit) Int32) × jp_I × jp_J} (hf : sX4_allAtEnds_2 n nc x1 x2 σ τ = some q) (kb : ∀ v : Int32, q.1 = .inl v → jp_at p l e (jp_R 2 43) s m args below meth c (MQ below (jp_Q Γ Z (some (.int r0)) σ0 τ0) args s 0 0 (jp_A Γ)) 3 Γ Z 2 [(0, .ref (Γ.2.2.1 13)), (1, .int x1), (2, .int v)] [] q.2.1 q.2.2) (kx : ∀ v : Unit, q.1 = .inr (.inl v) → jp_at p l e (jp_R 2 43) s m args below meth c (MQ below (jp_Q Γ Z (some (.int r0)) σ0 τ0) args s 0 0 (jp_A Γ)) 3 Γ Z 44 [] [] q.2.1 q.2.2) (kr : ∀ v : Int32, q.1 = .inr (.inr v) → r0 = v ∧ σ0 = q.2.1 ∧ τ0 = q.2.2) : jp_at p l e (jp_R 2 43) s m args below meth c (MQ below (jp_Q Γ Z (some (.int r0)) σ0 τ0) args s 0 0 (jp_A Γ)) 3 Γ Z 2 [(0, .ref (Γ.2.2.1 13)), (1, .int x1), (2, .int x2)] [] σ τ := by
  obtain ⟨hx, hb, hml, hown, hts, hr, hlk, hE⟩ := id B
  unfold sX4_allAtEnds_2 at hf
  intro H locs ls hP hS hl
  refine lv_iload_n hx hb dX4_allAtEnds_2 rfl (lv_at hl 2 rfl) ?_
  refine lv_aload_n hx hb dX4_allAtEnds_3 rfl (lv_at hl 0 rfl) ?_
  refine jp_getr (k := 0) B hP hX0.1 rfl rfl (by decide) jp_fX4 rfl mw_116 dX4_allAtEnds_4 ?_
  refine jp_getiN (k := 0) B hP hX0.2.2.2.1.1 rfl rfl (by decide) jp_fX5 rfl nw_139 dX4_allAtEnds_7 ?_
  refine lv_icmp_ge (tgt := 44) hx hb dX4_allAtEnds_10 (by decide) (fun c_1 => ?_) (fun c_1 => ?_)
  · rw [if_pos c_1] at hf
    obtain rfl := Option.some.inj hf
    exact kx _ rfl H locs ls hP hS (lv_sub hl [] rfl)
  · rw [if_neg c_1] at hf
    refine lv_aload_n hx hb dX4_allAtEnds_13 rfl (lv_at hl 0 rfl) ?_
    refine jp_getr (k := 2) B hP hX0.1 rfl rfl (by decide) jp_fX4 rfl mw_119 dX4_allAtEnds_14 ?_
    refine lv_iload_n hx hb dX4_allAtEnds_17 rfl (lv_at hl 2 rfl) ?_
    refine lv_iload_n hx hb dX4_allAtEnds_18 rfl (lv_at hl 1 rfl) ?_
    obtain ⟨⟨a_2, σ_2, τ_2⟩, h_2, hf⟩ := jp_bind hf
    dsimp only at hf
    refine jp_callVN (rest := []) B hP hS hl (ctX2_cellOf ⟨hX0.2.2.2.2.2.2.1, hX0.2.2.2.2.2.2.2⟩ h_2) hX0.2.2.2.2.2.2.1 rfl mw_390 nw_658 mw_388 mw_389 mw_42 ddX2_cellOf ⟨Nat.le_of_ble_eq_true rfl, Nat.le_of_ble_eq_true rfl⟩ ⟨Nat.zero_le _, Nat.zero_le _⟩ rfl (Nat.le_of_ble_eq_true rfl) dX4_allAtEnds_19 (fun H locs hP hS => ?_)
    refine lv_aload_n hx hb dX4_allAtEnds_22 rfl (lv_at hl 0 rfl) ?_
    refine jp_getr (k := 0) B hP hX0.1 rfl rfl (by decide) jp_fX4 rfl mw_116 dX4_allAtEnds_23 ?_
    refine jp_getrN (k := 3) B hP hX0.2.2.2.1.1 rfl rfl (by decide) jp_fX5 rfl nw_151 dX4_allAtEnds_26 ?_
    refine lv_iload_n hx hb dX4_allAtEnds_29 rfl (lv_at hl 2 rfl) ?_
    obtain ⟨⟨a_3, σ_3, τ_3⟩, h_3, hf⟩ := jp_bind hf
    dsimp only at hf
    refine jp_callSN (rest := [.int a_2]) B hP hS hl (ctX7_read hX0.2.2.2.1.2.2.1 h_3) mw_85 nw_629 mw_84 mw_2 ddX7_read ⟨Nat.le_of_ble_eq_true rfl, Nat.le_of_ble_eq_true rfl⟩ ⟨Nat.zero_le _, Nat.zero_le _⟩ rfl (Nat.le_of_ble_eq_true rfl) dX4_allAtEnds_30 (fun H locs hP hS => ?_)
    refine lv_icmp_eq (tgt := 38) hx hb dX4_allAtEnds_33 (by decide) (fun c_4 => ?_) (fun c_4 => ?_)
    · rw [if_pos c_4] at hf
      refine lv_iinc (v := x2 + 1) (lv' := [(2, .int (x2 + 1)), (0, .ref (Γ.2.2.1 13)), (1, .int x1)]) hx hb dX4_allAtEnds_38 hl (k := 2) rfl rfl (by decide) rfl (fun ls hl => ?_)
      refine lv_goto (tgt := 2) hx hb dX4_allAtEnds_41 (by decide) ?_
      obtain rfl := Option.some.inj hf
      exact kb _ rfl H locs ls hP hS (lv_sub hl [1, 2, 0] rfl)
    · rw [if_neg c_4] at hf
      refine lv_iconst (v := 0) hx hb dX4_allAtEnds_36 (by decide) ?_
      obtain rfl := Option.some.inj hf
      exact jp_endz B hP hS (by decide) dX4_allAtEnds_37 (kr _ rfl)
set_option maxHeartbeats 4000000 in
theorem lX4_allAtEnds_2 (B : jp_B Γ p s m args meth c RX4 cX4_allAtEnds 3 (some .boolean)) {n : Nat} {nc : Nat} (hX0 : jp_hP Z n nc) {x1 : Int32} {e1 : Sum (Unit) Int32} {σ1 : jp_I} {τ1 : jp_J} (kx : ∀ v : Unit, e1 = .inl v → jp_at p l e (jp_R 2 43) s m args below meth c (MQ below (jp_Q Γ Z (some (.int r0)) σ0 τ0) args s 0 0 (jp_A Γ)) 3 Γ Z 44 [] [] σ1 τ1) (kr : ∀ v : Int32, e1 = .inr v → r0 = v ∧ σ0 = σ1 ∧ τ0 = τ1) : ∀ (k : Nat) (v : Int32) (σ : jp_I) (τ : jp_J), jp_loop (fun q : (Int32) × jp_I × jp_J => sX4_allAtEnds_2 n nc x1 q.1 q.2.1 q.2.2) k (v, σ, τ) = some (e1, σ1, τ1) → jp_at p l e (jp_R 2 43) s m args below meth c (MQ below (jp_Q Γ Z (some (.int r0)) σ0 τ0) args s 0 0 (jp_A Γ)) 3 Γ Z 2 [(0, .ref (Γ.2.2.1 13)), (1, .int x1), (2, .int v)] [] σ τ := by
  refine jp_loopI (P := fun (v : Int32) (σ : jp_I) (τ : jp_J) => jp_at p l e (jp_R 2 43) s m args below meth c (MQ below (jp_Q Γ Z (some (.int r0)) σ0 τ0) args s 0 0 (jp_A Γ)) 3 Γ Z 2 [(0, .ref (Γ.2.2.1 13)), (1, .int x1), (2, .int v)] [] σ τ) (fun v σ τ q hq hbk hen => ?_)
  exact wsX4_allAtEnds_2 B hX0 hq (fun v' hv => hbk v' hv) (fun x hv => by obtain ⟨h1, h2, h3⟩ := hen _ hv; rw [h2, h3]; exact kx x h1.symm) (fun r hv => by obtain ⟨h1, h2, h3⟩ := hen _ hv; rw [h2, h3]; exact kr r h1.symm)
def fX4_allAtEnds (n : Nat) (nc : Nat) (p1 : Int32) (σ : jp_I) (τ : jp_J) : Option (Int32 × jp_I × jp_J) :=
  (jp_loop (fun q : (Int32) × jp_I × jp_J => sX4_allAtEnds_2 n nc p1 q.1 q.2.1 q.2.2) jp_F (0, σ, τ)).bind fun (e_1, σ_1, τ_1) => match e_1 with
    | .inl _ => (some (1, σ_1, τ_1))
    | .inr r_1 => some (r_1, σ_1, τ_1)
set_option maxHeartbeats 4000000 in
set_option maxRecDepth 20000 in
theorem ctX4_allAtEnds {l : Launch} {Γ : jp_G} {Z : Nat → Option jp_Sh} {n : Nat} {nc : Nat} (hX0 : jp_hP Z n nc) {p1 : Int32} {σ σ0 : jp_I} {τ τ0 : jp_J} {r0 : Int32} (hf : fX4_allAtEnds n nc p1 σ τ = some (r0, σ0, τ0)) : jp_M l yX4_allAtEnds cX4_allAtEnds 3 (some .boolean) 2 43 Γ Z σ τ [.ref (Γ.2.2.1 13), .int p1] (some (.int r0)) σ0 τ0 := by
  refine jp_mk (lv := [(0, .ref (Γ.2.2.1 13)), (1, .int p1)]) (by decide) (Nat.le_of_ble_eq_true rfl) rfl fun p e s m args below meth c B => ?_
  obtain ⟨hx, hb, hml, hown, hts, hr, hlk, hE⟩ := id B
  unfold fX4_allAtEnds at hf
  intro H locs ls hP hS hl
  refine lv_iconst (v := 0) hx hb dX4_allAtEnds_0 (by decide) ?_
  refine lv_istore_n (lv' := [(2, .int 0), (0, .ref (Γ.2.2.1 13)), (1, .int p1)]) hx hb dX4_allAtEnds_1 rfl hl (by decide) rfl (fun ls hl => ?_)
  obtain ⟨⟨e_1, σ_1, τ_1⟩, h_1, hf⟩ := jp_bind hf
  refine lX4_allAtEnds_2 (r0 := r0) B hX0 (x1 := p1) (fun v_1 k_1 => ?_) (fun r_1 k_1 => ?_) _ _ _ _ h_1 H locs ls hP hS (lv_sub hl [1, 2, 0] rfl)
  · subst k_1
    dsimp only at hf
    intro H locs ls hP hS hl
    refine lv_iconst (v := 1) hx hb dX4_allAtEnds_44 (by decide) ?_
    exact jp_endz B hP hS (by decide) dX4_allAtEnds_45 (jp_inj hf)
  · subst k_1
    dsimp only at hf
    exact jp_inj hf
end
-- X4_stepsOfTrial
section
variable {p : Program} {l : Launch} {e : Jvm.Env} {s : State} {m : MethodId} {args : Array Value} {below : List Frame} {meth : Method} {c : Code} {Γ : jp_G} {Z : Nat → Option jp_Sh} {r0 : Int32} {σ0 : jp_I} {τ0 : jp_J}
def sX4_stepsOfTrial_3 (n : Nat) (nc : Nat) (x1 : Int32) (σ : jp_I) (τ : jp_J) : Option (Sum (Int32) (Sum (Int32) Int32) × jp_I × jp_J) :=
  if x1 ≤ 0 then (some (.inr (.inl x1), σ, τ)) else ((fX4_allAtEnds n nc (x1 - 1) σ τ).bind fun (a_2, σ_2, τ_2) => if a_2 = 0 then (some (.inr (.inl x1), σ_2, τ_2)) else (some (.inl (x1 + (-1)), σ_2, τ_2)))
set_option maxHeartbeats 4000000 in
set_option maxRecDepth 20000 in
theorem wsX4_stepsOfTrial_3 (B : jp_B Γ p s m args meth c RX4 cX4_stepsOfTrial 2 (some .int)) {n : Nat} {nc : Nat} (hX0 : jp_hP Z n nc) {x1 : Int32} {σ : jp_I} {τ : jp_J} {q : Sum (Int32) (Sum (Int32) Int32) × jp_I × jp_J} (hf : sX4_stepsOfTrial_3 n nc x1 σ τ = some q) (kb : ∀ v : Int32, q.1 = .inl v → jp_at p l e (jp_R 3 65) s m args below meth c (MQ below (jp_Q Γ Z (some (.int r0)) σ0 τ0) args s 0 0 (jp_A Γ)) 2 Γ Z 3 [(0, .ref (Γ.2.2.1 13)), (1, .int v)] [] q.2.1 q.2.2) (kx : ∀ v : Int32, q.1 = .inr (.inl v) → jp_at p l e (jp_R 3 65) s m args below meth c (MQ below (jp_Q Γ Z (some (.int r0)) σ0 τ0) args s 0 0 (jp_A Γ)) 2 Γ Z 23 [(1, .int v)] [] q.2.1 q.2.2) (kr : ∀ v : Int32, q.1 = .inr (.inr v) → r0 = v ∧ σ0 = q.2.1 ∧ τ0 = q.2.2) : jp_at p l e (jp_R 3 65) s m args below meth c (MQ below (jp_Q Γ Z (some (.int r0)) σ0 τ0) args s 0 0 (jp_A Γ)) 2 Γ Z 3 [(0, .ref (Γ.2.2.1 13)), (1, .int x1)] [] σ τ := by
  obtain ⟨hx, hb, hml, hown, hts, hr, hlk, hE⟩ := id B
  unfold sX4_stepsOfTrial_3 at hf
  intro H locs ls hP hS hl
  refine lv_iload_n hx hb dX4_stepsOfTrial_3 rfl (lv_at hl 1 rfl) ?_
  refine lv_if_le (tgt := 23) hx hb dX4_stepsOfTrial_4 (by decide) (fun c_1 => ?_) (fun c_1 => ?_)
  · rw [if_pos c_1] at hf
    obtain rfl := Option.some.inj hf
    exact kx _ rfl H locs ls hP hS (lv_sub hl [1] rfl)
  · rw [if_neg c_1] at hf
    refine lv_aload_n hx hb dX4_stepsOfTrial_7 rfl (lv_at hl 0 rfl) ?_
    refine lv_iload_n hx hb dX4_stepsOfTrial_8 rfl (lv_at hl 1 rfl) ?_
    refine lv_iconst (v := 1) hx hb dX4_stepsOfTrial_9 (by decide) ?_
    refine lv_isub hx hb dX4_stepsOfTrial_10 ?_
    obtain ⟨⟨a_2, σ_2, τ_2⟩, h_2, hf⟩ := jp_bind hf
    dsimp only at hf
    refine jp_callV (rest := []) B hP hS hl (ctX4_allAtEnds ⟨hX0.1, hX0.2.1, hX0.2.2.1, ⟨hX0.2.2.2.1.1, hX0.2.2.2.1.2.1, hX0.2.2.2.1.2.2.1, ⟨hX0.2.2.2.1.2.2.2.1, hX0.2.2.2.1.2.2.2.2.1, hX0.2.2.2.1.2.2.2.2.2.1, hX0.2.2.2.1.2.2.2.2.2.2.1, hX0.2.2.2.1.2.2.2.2.2.2.2⟩⟩, ⟨hX0.2.2.2.2.1.1, hX0.2.2.2.2.1.2⟩, ⟨hX0.2.2.2.2.2.1.1, hX0.2.2.2.2.2.1.2⟩, ⟨hX0.2.2.2.2.2.2.1, hX0.2.2.2.2.2.2.2⟩⟩ h_2) hX0.1 rfl mw_398 mw_395 mw_396 mw_397 mw_38 ddX4_allAtEnds ⟨Nat.le_of_ble_eq_true rfl, Nat.le_of_ble_eq_true rfl⟩ ⟨Nat.zero_le _, Nat.zero_le _⟩ rfl (Nat.le_of_ble_eq_true rfl) dX4_stepsOfTrial_11 (fun H locs hP hS => ?_)
    refine lv_if_eq (tgt := 23) hx hb dX4_stepsOfTrial_14 (by decide) (fun c_3 => ?_) (fun c_3 => ?_)
    · rw [if_pos c_3] at hf
      obtain rfl := Option.some.inj hf
      exact kx _ rfl H locs ls hP hS (lv_sub hl [1] rfl)
    · rw [if_neg c_3] at hf
      refine lv_iinc (v := x1 + (-1)) (lv' := [(1, .int (x1 + (-1))), (0, .ref (Γ.2.2.1 13))]) hx hb dX4_stepsOfTrial_17 hl (k := 1) rfl rfl (by decide) rfl (fun ls hl => ?_)
      refine lv_goto (tgt := 3) hx hb dX4_stepsOfTrial_20 (by decide) ?_
      obtain rfl := Option.some.inj hf
      exact kb _ rfl H locs ls hP hS (lv_sub hl [1, 0] rfl)
set_option maxHeartbeats 4000000 in
theorem lX4_stepsOfTrial_3 (B : jp_B Γ p s m args meth c RX4 cX4_stepsOfTrial 2 (some .int)) {n : Nat} {nc : Nat} (hX0 : jp_hP Z n nc) {e1 : Sum (Int32) Int32} {σ1 : jp_I} {τ1 : jp_J} (kx : ∀ v : Int32, e1 = .inl v → jp_at p l e (jp_R 3 65) s m args below meth c (MQ below (jp_Q Γ Z (some (.int r0)) σ0 τ0) args s 0 0 (jp_A Γ)) 2 Γ Z 23 [(1, .int v)] [] σ1 τ1) (kr : ∀ v : Int32, e1 = .inr v → r0 = v ∧ σ0 = σ1 ∧ τ0 = τ1) : ∀ (k : Nat) (v : Int32) (σ : jp_I) (τ : jp_J), jp_loop (fun q : (Int32) × jp_I × jp_J => sX4_stepsOfTrial_3 n nc q.1 q.2.1 q.2.2) k (v, σ, τ) = some (e1, σ1, τ1) → jp_at p l e (jp_R 3 65) s m args below meth c (MQ below (jp_Q Γ Z (some (.int r0)) σ0 τ0) args s 0 0 (jp_A Γ)) 2 Γ Z 3 [(0, .ref (Γ.2.2.1 13)), (1, .int v)] [] σ τ := by
  refine jp_loopI (P := fun (v : Int32) (σ : jp_I) (τ : jp_J) => jp_at p l e (jp_R 3 65) s m args below meth c (MQ below (jp_Q Γ Z (some (.int r0)) σ0 τ0) args s 0 0 (jp_A Γ)) 2 Γ Z 3 [(0, .ref (Γ.2.2.1 13)), (1, .int v)] [] σ τ) (fun v σ τ q hq hbk hen => ?_)
  exact wsX4_stepsOfTrial_3 B hX0 hq (fun v' hv => hbk v' hv) (fun x hv => by obtain ⟨h1, h2, h3⟩ := hen _ hv; rw [h2, h3]; exact kx x h1.symm) (fun r hv => by obtain ⟨h1, h2, h3⟩ := hen _ hv; rw [h2, h3]; exact kr r h1.symm)
def fX4_stepsOfTrial (n : Nat) (nc : Nat) (σ : jp_I) (τ : jp_J) : Option (Int32 × jp_I × jp_J) :=
  (jp_loop (fun q : (Int32) × jp_I × jp_J => sX4_stepsOfTrial_3 n nc q.1 q.2.1 q.2.2) jp_F (40, σ, τ)).bind fun (e_1, σ_1, τ_1) => match e_1 with
    | .inl v_1 => (some (v_1, σ_1, τ_1))
    | .inr r_1 => some (r_1, σ_1, τ_1)
set_option maxHeartbeats 4000000 in
set_option maxRecDepth 20000 in
theorem ctX4_stepsOfTrial {l : Launch} {Γ : jp_G} {Z : Nat → Option jp_Sh} {n : Nat} {nc : Nat} (hX0 : jp_hP Z n nc) {σ σ0 : jp_I} {τ τ0 : jp_J} {r0 : Int32} (hf : fX4_stepsOfTrial n nc σ τ = some (r0, σ0, τ0)) : jp_M l yX4_stepsOfTrial cX4_stepsOfTrial 2 (some .int) 3 65 Γ Z σ τ [.ref (Γ.2.2.1 13)] (some (.int r0)) σ0 τ0 := by
  refine jp_mk (lv := [(0, .ref (Γ.2.2.1 13))]) (by decide) (Nat.le_of_ble_eq_true rfl) rfl fun p e s m args below meth c B => ?_
  obtain ⟨hx, hb, hml, hown, hts, hr, hlk, hE⟩ := id B
  unfold fX4_stepsOfTrial at hf
  intro H locs ls hP hS hl
  refine lv_bipush (v := 40) hx hb dX4_stepsOfTrial_0 (by decide) ?_
  refine lv_istore_n (lv' := [(1, .int 40), (0, .ref (Γ.2.2.1 13))]) hx hb dX4_stepsOfTrial_2 rfl hl (by decide) rfl (fun ls hl => ?_)
  obtain ⟨⟨e_1, σ_1, τ_1⟩, h_1, hf⟩ := jp_bind hf
  refine lX4_stepsOfTrial_3 (r0 := r0) B hX0 (fun v_1 k_1 => ?_) (fun r_1 k_1 => ?_) _ _ _ _ h_1 H locs ls hP hS (lv_sub hl [1, 0] rfl)
  · subst k_1
    dsimp only at hf
    intro H locs ls hP hS hl
    refine lv_iload_n hx hb dX4_stepsOfTrial_23 rfl (lv_at hl 0 rfl) ?_
    exact jp_endi B hP hS dX4_stepsOfTrial_24 (jp_inj hf)
  · subst k_1
    dsimp only at hf
    exact jp_inj hf
end
-- X4_tryOrder
section
variable {p : Program} {l : Launch} {e : Jvm.Env} {s : State} {m : MethodId} {args : Array Value} {below : List Frame} {meth : Method} {c : Code} {Γ : jp_G} {Z : Nat → Option jp_Sh} {r0 : Int32} {σ0 : jp_I} {τ0 : jp_J}
def sX4_tryOrder_19 (n : Nat) (nc : Nat) (x1 : Int32) (x2 : Int32) (σ : jp_I) (τ : jp_J) : Option (Sum (Int32 × Int32) (Sum (Int32) Int32) × jp_I × jp_J) :=
  if (σ 1 0) ≤ x2 then (some (.inr (.inl x1), σ, τ)) else ((fX7_read 10 n x2 σ τ).bind fun (a_2, σ_2, τ_2) => (fX7_read 3 n a_2 σ_2 τ_2).bind fun (a_3, σ_3, τ_3) => (fX7_read 4 n a_2 σ_3 τ_3).bind fun (a_4, σ_4, τ_4) => (fX4_measure n nc a_4 σ_4 τ_4).bind fun (a_5, σ_5, τ_5) => (fX7_read 16 1476 a_3 σ_5 τ_5).bind fun (a_6, σ_6, τ_6) => if a_6 = (-1) then (some (.inr (.inr 0), σ_6, τ_6)) else ((fX4_walk n nc a_2 a_3 a_4 σ_6 τ_6).bind fun (a_8, σ_8, τ_8) => (fX4_occupy n nc a_2 σ_8 τ_8).bind fun (a_9, σ_9, τ_9) => some (.inl (x1 + a_6, x2 + 1), σ_9, τ_9)))
set_option maxHeartbeats 4000000 in
set_option maxRecDepth 20000 in
theorem wsX4_tryOrder_19 (B : jp_B Γ p s m args meth c RX4 cX4_tryOrder 7 none) {n : Nat} {nc : Nat} (hX0 : jp_hP Z n nc) {x1 : Int32} {x2 : Int32} {σ : jp_I} {τ : jp_J} {q : Sum (Int32 × Int32) (Sum (Int32) Int32) × jp_I × jp_J} (hf : sX4_tryOrder_19 n nc x1 x2 σ τ = some q) (kb : ∀ v : Int32 × Int32, q.1 = .inl v → jp_at p l e (jp_R 4 100) s m args below meth c (MQ below (jp_Q Γ Z none σ0 τ0) args s 0 0 (jp_A Γ)) 7 Γ Z 19 [(0, .ref (Γ.2.2.1 13)), (1, .int v.1), (2, .int v.2)] [] q.2.1 q.2.2) (kx : ∀ v : Int32, q.1 = .inr (.inl v) → jp_at p l e (jp_R 4 100) s m args below meth c (MQ below (jp_Q Γ Z none σ0 τ0) args s 0 0 (jp_A Γ)) 7 Γ Z 117 [(0, .ref (Γ.2.2.1 13)), (1, .int v)] [] q.2.1 q.2.2) (kr : ∀ v : Int32, q.1 = .inr (.inr v) → r0 = v ∧ σ0 = q.2.1 ∧ τ0 = q.2.2) : jp_at p l e (jp_R 4 100) s m args below meth c (MQ below (jp_Q Γ Z none σ0 τ0) args s 0 0 (jp_A Γ)) 7 Γ Z 19 [(0, .ref (Γ.2.2.1 13)), (1, .int x1), (2, .int x2)] [] σ τ := by
  obtain ⟨hx, hb, hml, hown, hts, hr, hlk, hE⟩ := id B
  unfold sX4_tryOrder_19 at hf
  intro H locs ls hP hS hl
  refine lv_iload_n hx hb dX4_tryOrder_19 rfl (lv_at hl 2 rfl) ?_
  refine lv_aload_n hx hb dX4_tryOrder_20 rfl (lv_at hl 0 rfl) ?_
  refine jp_getr (k := 0) B hP hX0.1 rfl rfl (by decide) jp_fX4 rfl mw_116 dX4_tryOrder_21 ?_
  refine jp_getiN (k := 0) B hP hX0.2.2.2.1.1 rfl rfl (by decide) jp_fX5 rfl nw_139 dX4_tryOrder_24 ?_
  refine lv_icmp_ge (tgt := 117) hx hb dX4_tryOrder_27 (by decide) (fun c_1 => ?_) (fun c_1 => ?_)
  · rw [if_pos c_1] at hf
    obtain rfl := Option.some.inj hf
    exact kx _ rfl H locs ls hP hS (lv_sub hl [0, 1] rfl)
  · rw [if_neg c_1] at hf
    refine lv_aload_n hx hb dX4_tryOrder_30 rfl (lv_at hl 0 rfl) ?_
    refine jp_getr (k := 1) B hP hX0.1 rfl rfl (by decide) jp_fX4 rfl mw_117 dX4_tryOrder_31 ?_
    refine jp_getrN (k := 0) B hP hX0.2.2.2.2.1.1 rfl rfl (by decide) jp_fX6 rfl nw_212 dX4_tryOrder_34 ?_
    refine lv_iload_n hx hb dX4_tryOrder_37 rfl (lv_at hl 2 rfl) ?_
    obtain ⟨⟨a_2, σ_2, τ_2⟩, h_2, hf⟩ := jp_bind hf
    dsimp only at hf
    refine jp_callSN (rest := []) B hP hS hl (ctX7_read hX0.2.2.2.2.1.2 h_2) mw_85 nw_629 mw_84 mw_2 ddX7_read ⟨Nat.le_of_ble_eq_true rfl, Nat.le_of_ble_eq_true rfl⟩ ⟨Nat.zero_le _, Nat.zero_le _⟩ rfl (Nat.le_of_ble_eq_true rfl) dX4_tryOrder_38 (fun H locs hP hS => ?_)
    refine lv_istore_n (lv' := [(3, .int a_2), (0, .ref (Γ.2.2.1 13)), (1, .int x1), (2, .int x2)]) hx hb dX4_tryOrder_41 rfl hl (by decide) rfl (fun ls hl => ?_)
    refine lv_aload_n hx hb dX4_tryOrder_42 rfl (lv_at hl 1 rfl) ?_
    refine jp_getr (k := 0) B hP hX0.1 rfl rfl (by decide) jp_fX4 rfl mw_116 dX4_tryOrder_43 ?_
    refine jp_getrN (k := 2) B hP hX0.2.2.2.1.1 rfl rfl (by decide) jp_fX5 rfl nw_147 dX4_tryOrder_46 ?_
    refine lv_iload_n hx hb dX4_tryOrder_49 rfl (lv_at hl 0 rfl) ?_
    obtain ⟨⟨a_3, σ_3, τ_3⟩, h_3, hf⟩ := jp_bind hf
    dsimp only at hf
    refine jp_callSN (rest := []) B hP hS hl (ctX7_read hX0.2.2.2.1.2.1 h_3) mw_85 nw_629 mw_84 mw_2 ddX7_read ⟨Nat.le_of_ble_eq_true rfl, Nat.le_of_ble_eq_true rfl⟩ ⟨Nat.zero_le _, Nat.zero_le _⟩ rfl (Nat.le_of_ble_eq_true rfl) dX4_tryOrder_50 (fun H locs hP hS => ?_)
    refine lv_istore (lv' := [(4, .int a_3), (3, .int a_2), (0, .ref (Γ.2.2.1 13)), (1, .int x1), (2, .int x2)]) hx hb dX4_tryOrder_53 hl (by decide) rfl (fun ls hl => ?_)
    refine lv_aload_n hx hb dX4_tryOrder_55 rfl (lv_at hl 2 rfl) ?_
    refine jp_getr (k := 0) B hP hX0.1 rfl rfl (by decide) jp_fX4 rfl mw_116 dX4_tryOrder_56 ?_
    refine jp_getrN (k := 3) B hP hX0.2.2.2.1.1 rfl rfl (by decide) jp_fX5 rfl nw_151 dX4_tryOrder_59 ?_
    refine lv_iload_n hx hb dX4_tryOrder_62 rfl (lv_at hl 1 rfl) ?_
    obtain ⟨⟨a_4, σ_4, τ_4⟩, h_4, hf⟩ := jp_bind hf
    dsimp only at hf
    refine jp_callSN (rest := []) B hP hS hl (ctX7_read hX0.2.2.2.1.2.2.1 h_4) mw_85 nw_629 mw_84 mw_2 ddX7_read ⟨Nat.le_of_ble_eq_true rfl, Nat.le_of_ble_eq_true rfl⟩ ⟨Nat.zero_le _, Nat.zero_le _⟩ rfl (Nat.le_of_ble_eq_true rfl) dX4_tryOrder_63 (fun H locs hP hS => ?_)
    refine lv_istore (lv' := [(5, .int a_4), (4, .int a_3), (3, .int a_2), (0, .ref (Γ.2.2.1 13)), (1, .int x1), (2, .int x2)]) hx hb dX4_tryOrder_66 hl (by decide) rfl (fun ls hl => ?_)
    refine lv_aload_n hx hb dX4_tryOrder_68 rfl (lv_at hl 3 rfl) ?_
    refine lv_iload hx hb dX4_tryOrder_69 (lv_at hl 0 rfl) ?_
    obtain ⟨⟨a_5, σ_5, τ_5⟩, h_5, hf⟩ := jp_bind hf
    dsimp only at hf
    refine jp_callV (rest := []) B hP hS hl (ctX4_measure ⟨hX0.1, hX0.2.1, hX0.2.2.1, ⟨hX0.2.2.2.1.1, hX0.2.2.2.1.2.1, hX0.2.2.2.1.2.2.1, ⟨hX0.2.2.2.1.2.2.2.1, hX0.2.2.2.1.2.2.2.2.1, hX0.2.2.2.1.2.2.2.2.2.1, hX0.2.2.2.1.2.2.2.2.2.2.1, hX0.2.2.2.1.2.2.2.2.2.2.2⟩⟩, ⟨hX0.2.2.2.2.1.1, hX0.2.2.2.2.1.2⟩, ⟨hX0.2.2.2.2.2.1.1, hX0.2.2.2.2.2.1.2⟩, ⟨hX0.2.2.2.2.2.2.1, hX0.2.2.2.2.2.2.2⟩⟩ h_5) hX0.1 rfl mw_367 mw_364 mw_365 mw_366 mw_38 ddX4_measure ⟨Nat.le_of_ble_eq_true rfl, Nat.le_of_ble_eq_true rfl⟩ ⟨Nat.zero_le _, Nat.zero_le _⟩ rfl (Nat.le_of_ble_eq_true rfl) dX4_tryOrder_71 (fun H locs hP hS => ?_)
    refine lv_aload_n hx hb dX4_tryOrder_74 rfl (lv_at hl 3 rfl) ?_
    refine jp_getr (k := 3) B hP hX0.1 rfl rfl (by decide) jp_fX4 rfl mw_114 dX4_tryOrder_75 ?_
    refine lv_iload hx hb dX4_tryOrder_78 (lv_at hl 1 rfl) ?_
    obtain ⟨⟨a_6, σ_6, τ_6⟩, h_6, hf⟩ := jp_bind hf
    dsimp only at hf
    refine jp_callSN (rest := []) B hP hS hl (ctX7_read hX0.2.1 h_6) mw_85 nw_629 mw_84 mw_2 ddX7_read ⟨Nat.le_of_ble_eq_true rfl, Nat.le_of_ble_eq_true rfl⟩ ⟨Nat.zero_le _, Nat.zero_le _⟩ rfl (Nat.le_of_ble_eq_true rfl) dX4_tryOrder_80 (fun H locs hP hS => ?_)
    refine lv_istore (lv' := [(6, .int a_6), (5, .int a_4), (4, .int a_3), (3, .int a_2), (0, .ref (Γ.2.2.1 13)), (1, .int x1), (2, .int x2)]) hx hb dX4_tryOrder_83 hl (by decide) rfl (fun ls hl => ?_)
    refine lv_iload hx hb dX4_tryOrder_85 (lv_at hl 0 rfl) ?_
    refine lv_iconst (v := -1) hx hb dX4_tryOrder_87 (by decide) ?_
    refine lv_icmp_ne (tgt := 92) hx hb dX4_tryOrder_88 (by decide) (fun c_7 => ?_) (fun c_7 => ?_)
    · rw [if_neg c_7] at hf
      refine lv_iload_n hx hb dX4_tryOrder_92 rfl (lv_at hl 5 rfl) ?_
      refine lv_iload hx hb dX4_tryOrder_93 (lv_at hl 0 rfl) ?_
      refine lv_iadd hx hb dX4_tryOrder_95 ?_
      refine lv_istore_n (lv' := [(1, .int (x1 + a_6)), (6, .int a_6), (5, .int a_4), (4, .int a_3), (3, .int a_2), (0, .ref (Γ.2.2.1 13)), (2, .int x2)]) hx hb dX4_tryOrder_96 rfl hl (by decide) rfl (fun ls hl => ?_)
      refine lv_aload_n hx hb dX4_tryOrder_97 rfl (lv_at hl 5 rfl) ?_
      refine lv_iload_n hx hb dX4_tryOrder_98 rfl (lv_at hl 4 rfl) ?_
      refine lv_iload hx hb dX4_tryOrder_99 (lv_at hl 3 rfl) ?_
      refine lv_iload hx hb dX4_tryOrder_101 (lv_at hl 2 rfl) ?_
      obtain ⟨⟨a_8, σ_8, τ_8⟩, h_8, hf⟩ := jp_bind hf
      dsimp only at hf
      refine jp_callV (rest := []) B hP hS hl (ctX4_walk ⟨hX0.1, hX0.2.1, hX0.2.2.1, ⟨hX0.2.2.2.1.1, hX0.2.2.2.1.2.1, hX0.2.2.2.1.2.2.1, ⟨hX0.2.2.2.1.2.2.2.1, hX0.2.2.2.1.2.2.2.2.1, hX0.2.2.2.1.2.2.2.2.2.1, hX0.2.2.2.1.2.2.2.2.2.2.1, hX0.2.2.2.1.2.2.2.2.2.2.2⟩⟩, ⟨hX0.2.2.2.2.1.1, hX0.2.2.2.2.1.2⟩, ⟨hX0.2.2.2.2.2.1.1, hX0.2.2.2.2.2.1.2⟩, ⟨hX0.2.2.2.2.2.2.1, hX0.2.2.2.2.2.2.2⟩⟩ h_8) hX0.1 rfl mw_379 mw_376 mw_377 mw_378 mw_38 ddX4_walk ⟨Nat.le_of_ble_eq_true rfl, Nat.le_of_ble_eq_true rfl⟩ ⟨Nat.zero_le _, Nat.zero_le _⟩ rfl (Nat.le_of_ble_eq_true rfl) dX4_tryOrder_103 (fun H locs hP hS => ?_)
      refine lv_aload_n hx hb dX4_tryOrder_106 rfl (lv_at hl 5 rfl) ?_
      refine lv_iload_n hx hb dX4_tryOrder_107 rfl (lv_at hl 4 rfl) ?_
      obtain ⟨⟨a_9, σ_9, τ_9⟩, h_9, hf⟩ := jp_bind hf
      dsimp only at hf
      refine jp_callV (rest := []) B hP hS hl (ctX4_occupy ⟨hX0.1, hX0.2.1, hX0.2.2.1, ⟨hX0.2.2.2.1.1, hX0.2.2.2.1.2.1, hX0.2.2.2.1.2.2.1, ⟨hX0.2.2.2.1.2.2.2.1, hX0.2.2.2.1.2.2.2.2.1, hX0.2.2.2.1.2.2.2.2.2.1, hX0.2.2.2.1.2.2.2.2.2.2.1, hX0.2.2.2.1.2.2.2.2.2.2.2⟩⟩, ⟨hX0.2.2.2.2.1.1, hX0.2.2.2.2.1.2⟩, ⟨hX0.2.2.2.2.2.1.1, hX0.2.2.2.2.2.1.2⟩, ⟨hX0.2.2.2.2.2.2.1, hX0.2.2.2.2.2.2.2⟩⟩ h_9) hX0.1 rfl mw_387 mw_384 mw_385 mw_386 mw_38 ddX4_occupy ⟨Nat.le_of_ble_eq_true rfl, Nat.le_of_ble_eq_true rfl⟩ ⟨Nat.zero_le _, Nat.zero_le _⟩ rfl (Nat.le_of_ble_eq_true rfl) dX4_tryOrder_108 (fun H locs hP hS => ?_)
      refine lv_iinc (v := x2 + 1) (lv' := [(2, .int (x2 + 1)), (1, .int (x1 + a_6)), (6, .int a_6), (5, .int a_4), (4, .int a_3), (3, .int a_2), (0, .ref (Γ.2.2.1 13))]) hx hb dX4_tryOrder_111 hl (k := 6) rfl rfl (by decide) rfl (fun ls hl => ?_)
      refine lv_goto (tgt := 19) hx hb dX4_tryOrder_114 (by decide) ?_
      obtain rfl := Option.some.inj hf
      exact kb _ rfl H locs ls hP hS (lv_sub hl [6, 1, 0] rfl)
    · rw [if_pos c_7] at hf
      obtain rfl := Option.some.inj hf
      exact jp_endv B hP hS dX4_tryOrder_91 (kr _ rfl)
set_option maxHeartbeats 4000000 in
theorem lX4_tryOrder_19 (B : jp_B Γ p s m args meth c RX4 cX4_tryOrder 7 none) {n : Nat} {nc : Nat} (hX0 : jp_hP Z n nc) {e1 : Sum (Int32) Int32} {σ1 : jp_I} {τ1 : jp_J} (kx : ∀ v : Int32, e1 = .inl v → jp_at p l e (jp_R 4 100) s m args below meth c (MQ below (jp_Q Γ Z none σ0 τ0) args s 0 0 (jp_A Γ)) 7 Γ Z 117 [(0, .ref (Γ.2.2.1 13)), (1, .int v)] [] σ1 τ1) (kr : ∀ v : Int32, e1 = .inr v → r0 = v ∧ σ0 = σ1 ∧ τ0 = τ1) : ∀ (k : Nat) (v : Int32 × Int32) (σ : jp_I) (τ : jp_J), jp_loop (fun q : (Int32 × Int32) × jp_I × jp_J => sX4_tryOrder_19 n nc q.1.1 q.1.2 q.2.1 q.2.2) k (v, σ, τ) = some (e1, σ1, τ1) → jp_at p l e (jp_R 4 100) s m args below meth c (MQ below (jp_Q Γ Z none σ0 τ0) args s 0 0 (jp_A Γ)) 7 Γ Z 19 [(0, .ref (Γ.2.2.1 13)), (1, .int v.1), (2, .int v.2)] [] σ τ := by
  refine jp_loopI (P := fun (v : Int32 × Int32) (σ : jp_I) (τ : jp_J) => jp_at p l e (jp_R 4 100) s m args below meth c (MQ below (jp_Q Γ Z none σ0 τ0) args s 0 0 (jp_A Γ)) 7 Γ Z 19 [(0, .ref (Γ.2.2.1 13)), (1, .int v.1), (2, .int v.2)] [] σ τ) (fun v σ τ q hq hbk hen => ?_)
  exact wsX4_tryOrder_19 B hX0 hq (fun v' hv => hbk v' hv) (fun x hv => by obtain ⟨h1, h2, h3⟩ := hen _ hv; rw [h2, h3]; exact kx x h1.symm) (fun r hv => by obtain ⟨h1, h2, h3⟩ := hen _ hv; rw [h2, h3]; exact kr r h1.symm)
def fX4_tryOrder (n : Nat) (nc : Nat) (σ : jp_I) (τ : jp_J) : Option (Int32 × jp_I × jp_J) :=
  (fJ7_fill_53178 17 1476 (-1) σ τ).bind fun (a_1, σ_1, τ_1) => (fX2_drop 14 15 nc σ_1 τ_1).bind fun (a_2, σ_2, τ_2) => (jp_loop (fun q : (Int32 × Int32) × jp_I × jp_J => sX4_tryOrder_19 n nc q.1.1 q.1.2 q.2.1 q.2.2) jp_F ((0, 0), σ_2, τ_2)).bind fun (e_3, σ_3, τ_3) => match e_3 with
    | .inl v_3 => ((fX4_stepsOfTrial n nc (jp_up σ_3 14 3 v_3) τ_3).bind fun (a_4, σ_4, τ_4) => some (0, jp_up σ_4 14 2 a_4, τ_4))
    | .inr r_3 => some (r_3, σ_3, τ_3)
set_option maxHeartbeats 4000000 in
set_option maxRecDepth 20000 in
theorem ctX4_tryOrder {l : Launch} {Γ : jp_G} {Z : Nat → Option jp_Sh} {n : Nat} {nc : Nat} (hX0 : jp_hP Z n nc) {σ σ0 : jp_I} {τ τ0 : jp_J} {r0 : Int32} (hf : fX4_tryOrder n nc σ τ = some (r0, σ0, τ0)) : jp_M l yX4_tryOrder cX4_tryOrder 7 none 4 100 Γ Z σ τ [.ref (Γ.2.2.1 13)] none σ0 τ0 := by
  refine jp_mk (lv := [(0, .ref (Γ.2.2.1 13))]) (by decide) (Nat.le_of_ble_eq_true rfl) rfl fun p e s m args below meth c B => ?_
  obtain ⟨hx, hb, hml, hown, hts, hr, hlk, hE⟩ := id B
  unfold fX4_tryOrder at hf
  intro H locs ls hP hS hl
  refine lv_aload_n hx hb dX4_tryOrder_0 rfl (lv_at hl 0 rfl) ?_
  refine jp_getr (k := 4) B hP hX0.1 rfl rfl (by decide) jp_fX4 rfl mw_115 dX4_tryOrder_1 ?_
  refine lv_iconst (v := -1) hx hb dX4_tryOrder_4 (by decide) ?_
  obtain ⟨⟨a_1, σ_1, τ_1⟩, h_1, hf⟩ := jp_bind hf
  dsimp only at hf
  refine jp_callS (rest := []) B hP hS hl (ctJ7_fill_53178 hX0.2.2.1 h_1) mw_75 mw_363 mw_73 mw_74 ddJ7_fill_53178 ⟨Nat.le_of_ble_eq_true rfl, Nat.le_of_ble_eq_true rfl⟩ ⟨Nat.zero_le _, Nat.zero_le _⟩ rfl (Nat.le_of_ble_eq_true rfl) dX4_tryOrder_5 (fun H locs hP hS => ?_)
  refine lv_aload_n hx hb dX4_tryOrder_8 rfl (lv_at hl 0 rfl) ?_
  refine jp_getr (k := 2) B hP hX0.1 rfl rfl (by decide) jp_fX4 rfl mw_119 dX4_tryOrder_9 ?_
  obtain ⟨⟨a_2, σ_2, τ_2⟩, h_2, hf⟩ := jp_bind hf
  dsimp only at hf
  refine jp_callVN (rest := []) B hP hS hl (ctX2_drop ⟨hX0.2.2.2.2.2.2.1, hX0.2.2.2.2.2.2.2⟩ h_2) hX0.2.2.2.2.2.2.1 rfl mw_168 nw_628 mw_166 mw_167 mw_42 ddX2_drop ⟨Nat.le_of_ble_eq_true rfl, Nat.le_of_ble_eq_true rfl⟩ ⟨Nat.zero_le _, Nat.zero_le _⟩ rfl (Nat.le_of_ble_eq_true rfl) dX4_tryOrder_12 (fun H locs hP hS => ?_)
  refine lv_iconst (v := 0) hx hb dX4_tryOrder_15 (by decide) ?_
  refine lv_istore_n (lv' := [(1, .int 0), (0, .ref (Γ.2.2.1 13))]) hx hb dX4_tryOrder_16 rfl hl (by decide) rfl (fun ls hl => ?_)
  refine lv_iconst (v := 0) hx hb dX4_tryOrder_17 (by decide) ?_
  refine lv_istore_n (lv' := [(2, .int 0), (1, .int 0), (0, .ref (Γ.2.2.1 13))]) hx hb dX4_tryOrder_18 rfl hl (by decide) rfl (fun ls hl => ?_)
  obtain ⟨⟨e_3, σ_3, τ_3⟩, h_3, hf⟩ := jp_bind hf
  refine lX4_tryOrder_19 (r0 := r0) B hX0 (fun v_3 k_3 => ?_) (fun r_3 k_3 => ?_) _ _ _ _ h_3 H locs ls hP hS (lv_sub hl [2, 1, 0] rfl)
  · subst k_3
    dsimp only at hf
    intro H locs ls hP hS hl
    refine lv_aload_n hx hb dX4_tryOrder_117 rfl (lv_at hl 0 rfl) ?_
    refine jp_getr (k := 2) B hP hX0.1 rfl rfl (by decide) jp_fX4 rfl mw_119 dX4_tryOrder_118 ?_
    refine lv_iload_n hx hb dX4_tryOrder_121 rfl (lv_at hl 1 rfl) ?_
    refine jp_putiN (k := 3) (ty := .int) B hP hS hX0.2.2.2.2.2.2.1 rfl rfl (by decide) jp_fX2 tyX2 tyX2_ok nmX2 rfl nw_274 rfl (by decide +kernel) rfl rfl dX4_tryOrder_122 (fun H locs hP hS => ?_)
    refine lv_aload_n hx hb dX4_tryOrder_125 rfl (lv_at hl 0 rfl) ?_
    refine jp_getr (k := 2) B hP hX0.1 rfl rfl (by decide) jp_fX4 rfl mw_119 dX4_tryOrder_126 ?_
    refine lv_aload_n hx hb dX4_tryOrder_129 rfl (lv_at hl 0 rfl) ?_
    obtain ⟨⟨a_4, σ_4, τ_4⟩, h_4, hf⟩ := jp_bind hf
    dsimp only at hf
    refine jp_callV (rest := [.ref (Γ.2.2.1 14)]) B hP hS hl (ctX4_stepsOfTrial ⟨hX0.1, hX0.2.1, hX0.2.2.1, ⟨hX0.2.2.2.1.1, hX0.2.2.2.1.2.1, hX0.2.2.2.1.2.2.1, ⟨hX0.2.2.2.1.2.2.2.1, hX0.2.2.2.1.2.2.2.2.1, hX0.2.2.2.1.2.2.2.2.2.1, hX0.2.2.2.1.2.2.2.2.2.2.1, hX0.2.2.2.1.2.2.2.2.2.2.2⟩⟩, ⟨hX0.2.2.2.2.1.1, hX0.2.2.2.2.1.2⟩, ⟨hX0.2.2.2.2.2.1.1, hX0.2.2.2.2.2.1.2⟩, ⟨hX0.2.2.2.2.2.2.1, hX0.2.2.2.2.2.2.2⟩⟩ h_4) hX0.1 rfl mw_394 mw_391 mw_392 mw_393 mw_38 ddX4_stepsOfTrial ⟨Nat.le_of_ble_eq_true rfl, Nat.le_of_ble_eq_true rfl⟩ ⟨Nat.zero_le _, Nat.zero_le _⟩ rfl (Nat.le_of_ble_eq_true rfl) dX4_tryOrder_130 (fun H locs hP hS => ?_)
    refine jp_putiN (k := 2) (ty := .int) B hP hS hX0.2.2.2.2.2.2.1 rfl rfl (by decide) jp_fX2 tyX2 tyX2_ok nmX2 rfl nw_271 rfl (by decide +kernel) rfl rfl dX4_tryOrder_133 (fun H locs hP hS => ?_)
    exact jp_endv B hP hS dX4_tryOrder_136 (jp_inj hf)
  · subst k_3
    dsimp only at hf
    exact jp_inj hf
end
-- X4_make
section
variable {p : Program} {l : Launch} {e : Jvm.Env} {s : State} {m : MethodId} {args : Array Value} {below : List Frame} {meth : Method} {c : Code} {Γ : jp_G} {Z : Nat → Option jp_Sh} {r0 : Int32} {σ0 : jp_I} {τ0 : jp_J}
def bX4_make_68_in9 (n : Nat) (nc : Nat) (x2 : Int32) (x3 : Int32) (σ : jp_I) (τ : jp_J) : Option (Sum (Int32) (Sum (Unit) Int32) × jp_I × jp_J) :=
  some (.inl (x3 + 1), σ, τ)
set_option maxHeartbeats 4000000 in
set_option maxRecDepth 20000 in
theorem wbX4_make_68_in9 (B : jp_B Γ p s m args meth c RX4 cX4_make 4 none) {n : Nat} {nc : Nat} (hX0 : jp_hP Z n nc) {x2 : Int32} {x3 : Int32} {σ : jp_I} {τ : jp_J} {q : Sum (Int32) (Sum (Unit) Int32) × jp_I × jp_J} (hf : bX4_make_68_in9 n nc x2 x3 σ τ = some q) (kb : ∀ v : Int32, q.1 = .inl v → jp_at p l e (jp_R 5 126) s m args below meth c (MQ below (jp_Q Γ Z none σ0 τ0) args s 0 0 (jp_A Γ)) 4 Γ Z 9 [(0, .ref (Γ.2.2.1 13)), (1, .ref (Γ.2.2.1 11)), (2, .int x2), (3, .int v)] [] q.2.1 q.2.2) (kx : ∀ v : Unit, q.1 = .inr (.inl v) → jp_at p l e (jp_R 5 126) s m args below meth c (MQ below (jp_Q Γ Z none σ0 τ0) args s 0 0 (jp_A Γ)) 4 Γ Z 74 [] [] q.2.1 q.2.2) (kr : ∀ v : Int32, q.1 = .inr (.inr v) → r0 = v ∧ σ0 = q.2.1 ∧ τ0 = q.2.2) : jp_at p l e (jp_R 5 126) s m args below meth c (MQ below (jp_Q Γ Z none σ0 τ0) args s 0 0 (jp_A Γ)) 4 Γ Z 68 [(0, .ref (Γ.2.2.1 13)), (1, .ref (Γ.2.2.1 11)), (2, .int x2), (3, .int x3)] [] σ τ := by
  obtain ⟨hx, hb, hml, hown, hts, hr, hlk, hE⟩ := id B
  unfold bX4_make_68_in9 at hf
  intro H locs ls hP hS hl
  refine lv_iinc (v := x3 + 1) (lv' := [(3, .int (x3 + 1)), (0, .ref (Γ.2.2.1 13)), (1, .ref (Γ.2.2.1 11)), (2, .int x2)]) hx hb dX4_make_68 hl (k := 3) rfl rfl (by decide) rfl (fun ls hl => ?_)
  refine lv_goto (tgt := 9) hx hb dX4_make_71 (by decide) ?_
  obtain rfl := Option.some.inj hf
  exact kb _ rfl H locs ls hP hS (lv_sub hl [1, 2, 3, 0] rfl)
def bX4_make_60_in9 (n : Nat) (nc : Nat) (x2 : Int32) (x3 : Int32) (σ : jp_I) (τ : jp_J) : Option (Sum (Int32) (Sum (Unit) Int32) × jp_I × jp_J) :=
  (fX2_copy 11 12 nc 14 15 nc σ τ).bind fun (a_1, σ_1, τ_1) => bX4_make_68_in9 n nc x2 x3 σ_1 τ_1
set_option maxHeartbeats 4000000 in
set_option maxRecDepth 20000 in
theorem wbX4_make_60_in9 (B : jp_B Γ p s m args meth c RX4 cX4_make 4 none) {n : Nat} {nc : Nat} (hX0 : jp_hP Z n nc) {x2 : Int32} {x3 : Int32} {σ : jp_I} {τ : jp_J} {q : Sum (Int32) (Sum (Unit) Int32) × jp_I × jp_J} (hf : bX4_make_60_in9 n nc x2 x3 σ τ = some q) (kb : ∀ v : Int32, q.1 = .inl v → jp_at p l e (jp_R 5 126) s m args below meth c (MQ below (jp_Q Γ Z none σ0 τ0) args s 0 0 (jp_A Γ)) 4 Γ Z 9 [(0, .ref (Γ.2.2.1 13)), (1, .ref (Γ.2.2.1 11)), (2, .int x2), (3, .int v)] [] q.2.1 q.2.2) (kx : ∀ v : Unit, q.1 = .inr (.inl v) → jp_at p l e (jp_R 5 126) s m args below meth c (MQ below (jp_Q Γ Z none σ0 τ0) args s 0 0 (jp_A Γ)) 4 Γ Z 74 [] [] q.2.1 q.2.2) (kr : ∀ v : Int32, q.1 = .inr (.inr v) → r0 = v ∧ σ0 = q.2.1 ∧ τ0 = q.2.2) : jp_at p l e (jp_R 5 126) s m args below meth c (MQ below (jp_Q Γ Z none σ0 τ0) args s 0 0 (jp_A Γ)) 4 Γ Z 60 [(0, .ref (Γ.2.2.1 13)), (1, .ref (Γ.2.2.1 11)), (2, .int x2), (3, .int x3)] [] σ τ := by
  obtain ⟨hx, hb, hml, hown, hts, hr, hlk, hE⟩ := id B
  unfold bX4_make_60_in9 at hf
  intro H locs ls hP hS hl
  refine lv_aload_n hx hb dX4_make_60 rfl (lv_at hl 1 rfl) ?_
  refine lv_aload_n hx hb dX4_make_61 rfl (lv_at hl 0 rfl) ?_
  refine jp_getr (k := 2) B hP hX0.1 rfl rfl (by decide) jp_fX4 rfl mw_119 dX4_make_62 ?_
  obtain ⟨⟨a_1, σ_1, τ_1⟩, h_1, hf⟩ := jp_bind hf
  dsimp only at hf
  refine jp_callVN (rest := []) B hP hS hl (ctX2_copy ⟨hX0.2.2.2.2.2.1.1, hX0.2.2.2.2.2.1.2⟩ ⟨hX0.2.2.2.2.2.2.1, hX0.2.2.2.2.2.2.2⟩ h_1) hX0.2.2.2.2.2.1.1 rfl mw_401 nw_672 mw_399 mw_400 mw_42 ddX2_copy ⟨Nat.le_of_ble_eq_true rfl, Nat.le_of_ble_eq_true rfl⟩ ⟨Nat.zero_le _, Nat.zero_le _⟩ rfl (Nat.le_of_ble_eq_true rfl) dX4_make_65 (fun H locs hP hS => ?_)
  exact wbX4_make_68_in9 B hX0 hf kb kx kr H locs ls hP hS (lv_sub hl [0, 1, 2, 3] rfl)
def bX4_make_25_in9 (n : Nat) (nc : Nat) (x2 : Int32) (x3 : Int32) (σ : jp_I) (τ : jp_J) : Option (Sum (Int32) (Sum (Unit) Int32) × jp_I × jp_J) :=
  (fX4_tryOrder n nc σ τ).bind fun (a_1, σ_1, τ_1) => (fX2_isMade 14 15 nc σ_1 τ_1).bind fun (a_2, σ_2, τ_2) => if a_2 = 0 then (bX4_make_68_in9 n nc x2 x3 σ_2 τ_2) else ((fX2_isMade 11 12 nc σ_2 τ_2).bind fun (a_4, σ_4, τ_4) => if a_4 = 0 then (bX4_make_60_in9 n nc x2 x3 σ_4 τ_4) else (if (σ_4 11 3) ≤ (σ_4 14 3) then (bX4_make_68_in9 n nc x2 x3 σ_4 τ_4) else (bX4_make_60_in9 n nc x2 x3 σ_4 τ_4)))
set_option maxHeartbeats 4000000 in
set_option maxRecDepth 20000 in
theorem wbX4_make_25_in9 (B : jp_B Γ p s m args meth c RX4 cX4_make 4 none) {n : Nat} {nc : Nat} (hX0 : jp_hP Z n nc) {x2 : Int32} {x3 : Int32} {σ : jp_I} {τ : jp_J} {q : Sum (Int32) (Sum (Unit) Int32) × jp_I × jp_J} (hf : bX4_make_25_in9 n nc x2 x3 σ τ = some q) (kb : ∀ v : Int32, q.1 = .inl v → jp_at p l e (jp_R 5 126) s m args below meth c (MQ below (jp_Q Γ Z none σ0 τ0) args s 0 0 (jp_A Γ)) 4 Γ Z 9 [(0, .ref (Γ.2.2.1 13)), (1, .ref (Γ.2.2.1 11)), (2, .int x2), (3, .int v)] [] q.2.1 q.2.2) (kx : ∀ v : Unit, q.1 = .inr (.inl v) → jp_at p l e (jp_R 5 126) s m args below meth c (MQ below (jp_Q Γ Z none σ0 τ0) args s 0 0 (jp_A Γ)) 4 Γ Z 74 [] [] q.2.1 q.2.2) (kr : ∀ v : Int32, q.1 = .inr (.inr v) → r0 = v ∧ σ0 = q.2.1 ∧ τ0 = q.2.2) : jp_at p l e (jp_R 5 126) s m args below meth c (MQ below (jp_Q Γ Z none σ0 τ0) args s 0 0 (jp_A Γ)) 4 Γ Z 25 [(0, .ref (Γ.2.2.1 13)), (1, .ref (Γ.2.2.1 11)), (2, .int x2), (3, .int x3)] [] σ τ := by
  obtain ⟨hx, hb, hml, hown, hts, hr, hlk, hE⟩ := id B
  unfold bX4_make_25_in9 at hf
  intro H locs ls hP hS hl
  refine lv_aload_n hx hb dX4_make_25 rfl (lv_at hl 0 rfl) ?_
  obtain ⟨⟨a_1, σ_1, τ_1⟩, h_1, hf⟩ := jp_bind hf
  dsimp only at hf
  refine jp_callV (rest := []) B hP hS hl (ctX4_tryOrder ⟨hX0.1, hX0.2.1, hX0.2.2.1, ⟨hX0.2.2.2.1.1, hX0.2.2.2.1.2.1, hX0.2.2.2.1.2.2.1, ⟨hX0.2.2.2.1.2.2.2.1, hX0.2.2.2.1.2.2.2.2.1, hX0.2.2.2.1.2.2.2.2.2.1, hX0.2.2.2.1.2.2.2.2.2.2.1, hX0.2.2.2.1.2.2.2.2.2.2.2⟩⟩, ⟨hX0.2.2.2.2.1.1, hX0.2.2.2.2.1.2⟩, ⟨hX0.2.2.2.2.2.1.1, hX0.2.2.2.2.2.1.2⟩, ⟨hX0.2.2.2.2.2.2.1, hX0.2.2.2.2.2.2.2⟩⟩ h_1) hX0.1 rfl mw_362 mw_359 mw_360 mw_361 mw_38 ddX4_tryOrder ⟨Nat.le_of_ble_eq_true rfl, Nat.le_of_ble_eq_true rfl⟩ ⟨Nat.zero_le _, Nat.zero_le _⟩ rfl (Nat.le_of_ble_eq_true rfl) dX4_make_26 (fun H locs hP hS => ?_)
  refine lv_aload_n hx hb dX4_make_29 rfl (lv_at hl 0 rfl) ?_
  refine jp_getr (k := 2) B hP hX0.1 rfl rfl (by decide) jp_fX4 rfl mw_119 dX4_make_30 ?_
  obtain ⟨⟨a_2, σ_2, τ_2⟩, h_2, hf⟩ := jp_bind hf
  dsimp only at hf
  refine jp_callVN (rest := []) B hP hS hl (ctX2_isMade ⟨hX0.2.2.2.2.2.2.1, hX0.2.2.2.2.2.2.2⟩ h_2) hX0.2.2.2.2.2.2.1 rfl mw_321 nw_671 mw_319 mw_320 mw_42 ddX2_isMade ⟨Nat.le_of_ble_eq_true rfl, Nat.le_of_ble_eq_true rfl⟩ ⟨Nat.zero_le _, Nat.zero_le _⟩ rfl (Nat.le_of_ble_eq_true rfl) dX4_make_33 (fun H locs hP hS => ?_)
  refine lv_if_eq (tgt := 68) hx hb dX4_make_36 (by decide) (fun c_3 => ?_) (fun c_3 => ?_)
  · rw [if_pos c_3] at hf
    exact wbX4_make_68_in9 B hX0 hf kb kx kr H locs ls hP hS (lv_sub hl [0, 1, 2, 3] rfl)
  · rw [if_neg c_3] at hf
    refine lv_aload_n hx hb dX4_make_39 rfl (lv_at hl 1 rfl) ?_
    obtain ⟨⟨a_4, σ_4, τ_4⟩, h_4, hf⟩ := jp_bind hf
    dsimp only at hf
    refine jp_callVN (rest := []) B hP hS hl (ctX2_isMade ⟨hX0.2.2.2.2.2.1.1, hX0.2.2.2.2.2.1.2⟩ h_4) hX0.2.2.2.2.2.1.1 rfl mw_321 nw_671 mw_319 mw_320 mw_42 ddX2_isMade ⟨Nat.le_of_ble_eq_true rfl, Nat.le_of_ble_eq_true rfl⟩ ⟨Nat.zero_le _, Nat.zero_le _⟩ rfl (Nat.le_of_ble_eq_true rfl) dX4_make_40 (fun H locs hP hS => ?_)
    refine lv_if_eq (tgt := 60) hx hb dX4_make_43 (by decide) (fun c_5 => ?_) (fun c_5 => ?_)
    · rw [if_pos c_5] at hf
      exact wbX4_make_60_in9 B hX0 hf kb kx kr H locs ls hP hS (lv_sub hl [0, 1, 2, 3] rfl)
    · rw [if_neg c_5] at hf
      refine lv_aload_n hx hb dX4_make_46 rfl (lv_at hl 0 rfl) ?_
      refine jp_getr (k := 2) B hP hX0.1 rfl rfl (by decide) jp_fX4 rfl mw_119 dX4_make_47 ?_
      refine jp_getiN (k := 3) B hP hX0.2.2.2.2.2.2.1 rfl rfl (by decide) jp_fX2 rfl nw_274 dX4_make_50 ?_
      refine lv_aload_n hx hb dX4_make_53 rfl (lv_at hl 1 rfl) ?_
      refine jp_getiN (k := 3) B hP hX0.2.2.2.2.2.1.1 rfl rfl (by decide) jp_fX2 rfl nw_274 dX4_make_54 ?_
      refine lv_icmp_ge (tgt := 68) hx hb dX4_make_57 (by decide) (fun c_6 => ?_) (fun c_6 => ?_)
      · rw [if_pos c_6] at hf
        exact wbX4_make_68_in9 B hX0 hf kb kx kr H locs ls hP hS (lv_sub hl [0, 1, 2, 3] rfl)
      · rw [if_neg c_6] at hf
        exact wbX4_make_60_in9 B hX0 hf kb kx kr H locs ls hP hS (lv_sub hl [0, 1, 2, 3] rfl)
def sX4_make_9 (n : Nat) (nc : Nat) (x2 : Int32) (x3 : Int32) (σ : jp_I) (τ : jp_J) : Option (Sum (Int32) (Sum (Unit) Int32) × jp_I × jp_J) :=
  if x2 < x3 then (some (.inr (.inl ()), σ, τ)) else (if x3 ≤ 0 then (bX4_make_25_in9 n nc x2 x3 σ τ) else ((fX6_draw n σ τ).bind fun (a_3, σ_3, τ_3) => bX4_make_25_in9 n nc x2 x3 σ_3 τ_3))
set_option maxHeartbeats 4000000 in
set_option maxRecDepth 20000 in
theorem wsX4_make_9 (B : jp_B Γ p s m args meth c RX4 cX4_make 4 none) {n : Nat} {nc : Nat} (hX0 : jp_hP Z n nc) {x2 : Int32} {x3 : Int32} {σ : jp_I} {τ : jp_J} {q : Sum (Int32) (Sum (Unit) Int32) × jp_I × jp_J} (hf : sX4_make_9 n nc x2 x3 σ τ = some q) (kb : ∀ v : Int32, q.1 = .inl v → jp_at p l e (jp_R 5 126) s m args below meth c (MQ below (jp_Q Γ Z none σ0 τ0) args s 0 0 (jp_A Γ)) 4 Γ Z 9 [(0, .ref (Γ.2.2.1 13)), (1, .ref (Γ.2.2.1 11)), (2, .int x2), (3, .int v)] [] q.2.1 q.2.2) (kx : ∀ v : Unit, q.1 = .inr (.inl v) → jp_at p l e (jp_R 5 126) s m args below meth c (MQ below (jp_Q Γ Z none σ0 τ0) args s 0 0 (jp_A Γ)) 4 Γ Z 74 [] [] q.2.1 q.2.2) (kr : ∀ v : Int32, q.1 = .inr (.inr v) → r0 = v ∧ σ0 = q.2.1 ∧ τ0 = q.2.2) : jp_at p l e (jp_R 5 126) s m args below meth c (MQ below (jp_Q Γ Z none σ0 τ0) args s 0 0 (jp_A Γ)) 4 Γ Z 9 [(0, .ref (Γ.2.2.1 13)), (1, .ref (Γ.2.2.1 11)), (2, .int x2), (3, .int x3)] [] σ τ := by
  obtain ⟨hx, hb, hml, hown, hts, hr, hlk, hE⟩ := id B
  unfold sX4_make_9 at hf
  intro H locs ls hP hS hl
  refine lv_iload_n hx hb dX4_make_9 rfl (lv_at hl 3 rfl) ?_
  refine lv_iload_n hx hb dX4_make_10 rfl (lv_at hl 2 rfl) ?_
  refine lv_icmp_gt (tgt := 74) hx hb dX4_make_11 (by decide) (fun c_1 => ?_) (fun c_1 => ?_)
  · rw [if_pos c_1] at hf
    obtain rfl := Option.some.inj hf
    exact kx _ rfl H locs ls hP hS (lv_sub hl [] rfl)
  · rw [if_neg c_1] at hf
    refine lv_iload_n hx hb dX4_make_14 rfl (lv_at hl 3 rfl) ?_
    refine lv_if_le (tgt := 25) hx hb dX4_make_15 (by decide) (fun c_2 => ?_) (fun c_2 => ?_)
    · rw [if_pos c_2] at hf
      exact wbX4_make_25_in9 B hX0 hf kb kx kr H locs ls hP hS (lv_sub hl [0, 1, 2, 3] rfl)
    · rw [if_neg c_2] at hf
      refine lv_aload_n hx hb dX4_make_18 rfl (lv_at hl 0 rfl) ?_
      refine jp_getr (k := 1) B hP hX0.1 rfl rfl (by decide) jp_fX4 rfl mw_117 dX4_make_19 ?_
      obtain ⟨⟨a_3, σ_3, τ_3⟩, h_3, hf⟩ := jp_bind hf
      dsimp only at hf
      refine jp_callVN (rest := []) B hP hS hl (ctX6_draw ⟨hX0.2.2.2.2.1.1, hX0.2.2.2.2.1.2⟩ h_3) hX0.2.2.2.2.1.1 rfl mw_349 nw_608 mw_347 mw_348 mw_31 ddX6_draw ⟨Nat.le_of_ble_eq_true rfl, Nat.le_of_ble_eq_true rfl⟩ ⟨Nat.zero_le _, Nat.zero_le _⟩ rfl (Nat.le_of_ble_eq_true rfl) dX4_make_22 (fun H locs hP hS => ?_)
      exact wbX4_make_25_in9 B hX0 hf kb kx kr H locs ls hP hS (lv_sub hl [0, 1, 2, 3] rfl)
set_option maxHeartbeats 4000000 in
theorem lX4_make_9 (B : jp_B Γ p s m args meth c RX4 cX4_make 4 none) {n : Nat} {nc : Nat} (hX0 : jp_hP Z n nc) {x2 : Int32} {e1 : Sum (Unit) Int32} {σ1 : jp_I} {τ1 : jp_J} (kx : ∀ v : Unit, e1 = .inl v → jp_at p l e (jp_R 5 126) s m args below meth c (MQ below (jp_Q Γ Z none σ0 τ0) args s 0 0 (jp_A Γ)) 4 Γ Z 74 [] [] σ1 τ1) (kr : ∀ v : Int32, e1 = .inr v → r0 = v ∧ σ0 = σ1 ∧ τ0 = τ1) : ∀ (k : Nat) (v : Int32) (σ : jp_I) (τ : jp_J), jp_loop (fun q : (Int32) × jp_I × jp_J => sX4_make_9 n nc x2 q.1 q.2.1 q.2.2) k (v, σ, τ) = some (e1, σ1, τ1) → jp_at p l e (jp_R 5 126) s m args below meth c (MQ below (jp_Q Γ Z none σ0 τ0) args s 0 0 (jp_A Γ)) 4 Γ Z 9 [(0, .ref (Γ.2.2.1 13)), (1, .ref (Γ.2.2.1 11)), (2, .int x2), (3, .int v)] [] σ τ := by
  refine jp_loopI (P := fun (v : Int32) (σ : jp_I) (τ : jp_J) => jp_at p l e (jp_R 5 126) s m args below meth c (MQ below (jp_Q Γ Z none σ0 τ0) args s 0 0 (jp_A Γ)) 4 Γ Z 9 [(0, .ref (Γ.2.2.1 13)), (1, .ref (Γ.2.2.1 11)), (2, .int x2), (3, .int v)] [] σ τ) (fun v σ τ q hq hbk hen => ?_)
  exact wsX4_make_9 B hX0 hq (fun v' hv => hbk v' hv) (fun x hv => by obtain ⟨h1, h2, h3⟩ := hen _ hv; rw [h2, h3]; exact kx x h1.symm) (fun r hv => by obtain ⟨h1, h2, h3⟩ := hen _ hv; rw [h2, h3]; exact kr r h1.symm)
def fX4_make (n : Nat) (nc : Nat) (p2 : Int32) (σ : jp_I) (τ : jp_J) : Option (Int32 × jp_I × jp_J) :=
  (fX6_reset n σ τ).bind fun (a_1, σ_1, τ_1) => (jp_loop (fun q : (Int32) × jp_I × jp_J => sX4_make_9 n nc p2 q.1 q.2.1 q.2.2) jp_F (0, σ_1, τ_1)).bind fun (e_2, σ_2, τ_2) => match e_2 with
    | .inl _ => (some (0, σ_2, τ_2))
    | .inr r_2 => some (r_2, σ_2, τ_2)
set_option maxHeartbeats 4000000 in
set_option maxRecDepth 20000 in
theorem ctX4_make {l : Launch} {Γ : jp_G} {Z : Nat → Option jp_Sh} {n : Nat} {nc : Nat} (hX0 : jp_hP Z n nc) {p2 : Int32} {σ σ0 : jp_I} {τ τ0 : jp_J} {r0 : Int32} (hf : fX4_make n nc p2 σ τ = some (r0, σ0, τ0)) : jp_M l yX4_make cX4_make 4 none 5 126 Γ Z σ τ [.ref (Γ.2.2.1 13), .ref (Γ.2.2.1 11), .int p2] none σ0 τ0 := by
  refine jp_mk (lv := [(0, .ref (Γ.2.2.1 13)), (1, .ref (Γ.2.2.1 11)), (2, .int p2)]) (by decide) (Nat.le_of_ble_eq_true rfl) rfl fun p e s m args below meth c B => ?_
  obtain ⟨hx, hb, hml, hown, hts, hr, hlk, hE⟩ := id B
  unfold fX4_make at hf
  intro H locs ls hP hS hl
  refine lv_aload_n hx hb dX4_make_0 rfl (lv_at hl 0 rfl) ?_
  refine jp_getr (k := 1) B hP hX0.1 rfl rfl (by decide) jp_fX4 rfl mw_117 dX4_make_1 ?_
  obtain ⟨⟨a_1, σ_1, τ_1⟩, h_1, hf⟩ := jp_bind hf
  dsimp only at hf
  refine jp_callVN (rest := []) B hP hS hl (ctX6_reset ⟨hX0.2.2.2.2.1.1, hX0.2.2.2.2.1.2⟩ h_1) hX0.2.2.2.2.1.1 rfl mw_346 nw_604 mw_344 mw_345 mw_31 ddX6_reset ⟨Nat.le_of_ble_eq_true rfl, Nat.le_of_ble_eq_true rfl⟩ ⟨Nat.zero_le _, Nat.zero_le _⟩ rfl (Nat.le_of_ble_eq_true rfl) dX4_make_4 (fun H locs hP hS => ?_)
  refine lv_iconst (v := 0) hx hb dX4_make_7 (by decide) ?_
  refine lv_istore_n (lv' := [(3, .int 0), (0, .ref (Γ.2.2.1 13)), (1, .ref (Γ.2.2.1 11)), (2, .int p2)]) hx hb dX4_make_8 rfl hl (by decide) rfl (fun ls hl => ?_)
  obtain ⟨⟨e_2, σ_2, τ_2⟩, h_2, hf⟩ := jp_bind hf
  refine lX4_make_9 (r0 := r0) B hX0 (x2 := p2) (fun v_2 k_2 => ?_) (fun r_2 k_2 => ?_) _ _ _ _ h_2 H locs ls hP hS (lv_sub hl [1, 2, 3, 0] rfl)
  · subst k_2
    dsimp only at hf
    intro H locs ls hP hS hl
    exact jp_endv B hP hS dX4_make_74 (jp_inj hf)
  · subst k_2
    dsimp only at hf
    exact jp_inj hf
end
