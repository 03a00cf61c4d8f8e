-- X0_cellAt
section
variable {p : Program} {l : Launch} {e : Jvm.Env} {s : State} {m : MethodId} {args : Array Value} {below : List Frame} {meth : Method} {c : Code} {Γ : jp_G} {Z : Nat → Option jp_Sh} {r0 : Int32} {σ0 : jp_I} {τ0 : jp_J}
def fX0_cellAt (p1 : Int32) (p2 : Int32) (σ : jp_I) (τ : jp_J) : Option (Int32 × jp_I × jp_J) :=
  if p1 < 0 then (some ((-1), σ, τ)) else (if (σ 2 4) ≤ p1 then (some ((-1), σ, τ)) else (if p2 < 0 then (some ((-1), σ, τ)) else (if (σ 2 5) ≤ p2 then (some ((-1), σ, τ)) else (some (p1 + (6 * p2), σ, τ)))))
set_option maxHeartbeats 4000000 in
set_option maxRecDepth 20000 in
theorem ctX0_cellAt {l : Launch} {Γ : jp_G} {Z : Nat → Option jp_Sh} (hX0 : jp_hF Z) {p1 : Int32} {p2 : Int32} {σ σ0 : jp_I} {τ τ0 : jp_J} {r0 : Int32} (hf : fX0_cellAt p1 p2 σ τ = some (r0, σ0, τ0)) : jp_M l yX0_cellAt cX0_cellAt 3 (some .int) 0 0 Γ Z σ τ [.ref (Γ.2.2.1 2), .int p1, .int p2] (some (.int r0)) σ0 τ0 := by
  refine jp_mk (lv := [(0, .ref (Γ.2.2.1 2)), (1, .int p1), (2, .int p2)]) (by decide) (Nat.le_of_ble_eq_true rfl) rfl fun p e s m args below meth c B => ?_
  obtain ⟨hx, hb, hml, hown, hts, hr, hlk, hE⟩ := id B
  unfold fX0_cellAt at hf
  intro H locs ls hP hS hl
  refine lv_iload_n hx hb dX0_cellAt_0 rfl (lv_at hl 1 rfl) ?_
  refine lv_if_lt (tgt := 33) hx hb dX0_cellAt_1 (by decide) (fun c_1 => ?_) (fun c_1 => ?_)
  · rw [if_pos c_1] at hf
    refine lv_iconst (v := -1) hx hb dX0_cellAt_33 (by decide) ?_
    exact jp_endi B hP hS dX0_cellAt_34 (jp_inj hf)
  · rw [if_neg c_1] at hf
    refine lv_iload_n hx hb dX0_cellAt_4 rfl (lv_at hl 1 rfl) ?_
    refine lv_aload_n hx hb dX0_cellAt_5 rfl (lv_at hl 0 rfl) ?_
    refine jp_geti (k := 4) B hP hX0.1 rfl rfl (by decide) jp_fX0 rfl mw_69 dX0_cellAt_6 ?_
    refine lv_icmp_ge (tgt := 33) hx hb dX0_cellAt_9 (by decide) (fun c_2 => ?_) (fun c_2 => ?_)
    · rw [if_pos c_2] at hf
      refine lv_iconst (v := -1) hx hb dX0_cellAt_33 (by decide) ?_
      exact jp_endi B hP hS dX0_cellAt_34 (jp_inj hf)
    · rw [if_neg c_2] at hf
      refine lv_iload_n hx hb dX0_cellAt_12 rfl (lv_at hl 2 rfl) ?_
      refine lv_if_lt (tgt := 33) hx hb dX0_cellAt_13 (by decide) (fun c_3 => ?_) (fun c_3 => ?_)
      · rw [if_pos c_3] at hf
        refine lv_iconst (v := -1) hx hb dX0_cellAt_33 (by decide) ?_
        exact jp_endi B hP hS dX0_cellAt_34 (jp_inj hf)
      · rw [if_neg c_3] at hf
        refine lv_iload_n hx hb dX0_cellAt_16 rfl (lv_at hl 2 rfl) ?_
        refine lv_aload_n hx hb dX0_cellAt_17 rfl (lv_at hl 0 rfl) ?_
        refine jp_geti (k := 5) B hP hX0.1 rfl rfl (by decide) jp_fX0 rfl mw_70 dX0_cellAt_18 ?_
        refine lv_icmp_ge (tgt := 33) hx hb dX0_cellAt_21 (by decide) (fun c_4 => ?_) (fun c_4 => ?_)
        · rw [if_pos c_4] at hf
          refine lv_iconst (v := -1) hx hb dX0_cellAt_33 (by decide) ?_
          exact jp_endi B hP hS dX0_cellAt_34 (jp_inj hf)
        · rw [if_neg c_4] at hf
          refine lv_iload_n hx hb dX0_cellAt_24 rfl (lv_at hl 1 rfl) ?_
          refine lv_bipush (v := 6) hx hb dX0_cellAt_25 (by decide) ?_
          refine lv_iload_n hx hb dX0_cellAt_27 rfl (lv_at hl 2 rfl) ?_
          refine lv_imul hx hb dX0_cellAt_28 ?_
          refine lv_iadd hx hb dX0_cellAt_29 ?_
          refine lv_goto (tgt := 34) hx hb dX0_cellAt_30 (by decide) ?_
          exact jp_endi B hP hS dX0_cellAt_34 (jp_inj hf)
end
-- X0_isWall
section
variable {p : Program} {l : Launch} {e : Jvm.Env} {s : State} {m : MethodId} {args : Array Value} {below : List Frame} {meth : Method} {c : Code} {Γ : jp_G} {Z : Nat → Option jp_Sh} {r0 : Int32} {σ0 : jp_I} {τ0 : jp_J}
def fX0_isWall (p1 : Int32) (σ : jp_I) (τ : jp_J) : Option (Int32 × jp_I × jp_J) :=
  (fX7_read 5 36 p1 σ τ).bind fun (a_1, σ_1, τ_1) => if a_1 = 1 then (some (1, σ_1, τ_1)) else (some (0, σ_1, τ_1))
set_option maxHeartbeats 4000000 in
set_option maxRecDepth 20000 in
theorem ctX0_isWall {l : Launch} {Γ : jp_G} {Z : Nat → Option jp_Sh} (hX0 : jp_hF Z) {p1 : Int32} {σ σ0 : jp_I} {τ τ0 : jp_J} {r0 : Int32} (hf : fX0_isWall p1 σ τ = some (r0, σ0, τ0)) : jp_M l yX0_isWall cX0_isWall 2 (some .boolean) 1 21 Γ Z σ τ [.ref (Γ.2.2.1 2), .int p1] (some (.int r0)) σ0 τ0 := by
  refine jp_mk (lv := [(0, .ref (Γ.2.2.1 2)), (1, .int p1)]) (by decide) (Nat.le_of_ble_eq_true rfl) rfl fun p e s m args below meth c B => ?_
  obtain ⟨hx, hb, hml, hown, hts, hr, hlk, hE⟩ := id B
  unfold fX0_isWall at hf
  intro H locs ls hP hS hl
  refine lv_aload_n hx hb dX0_isWall_0 rfl (lv_at hl 0 rfl) ?_
  refine jp_getr (k := 0) B hP hX0.1 rfl rfl (by decide) jp_fX0 rfl mw_59 dX0_isWall_1 ?_
  refine lv_iload_n hx hb dX0_isWall_4 rfl (lv_at hl 1 rfl) ?_
  obtain ⟨⟨a_1, σ_1, τ_1⟩, h_1, hf⟩ := jp_bind hf
  dsimp only at hf
  refine jp_callSN (rest := []) B hP hS hl (ctX7_read hX0.2.1 h_1) mw_85 nw_188 mw_84 mw_2 ddX7_read ⟨Nat.le_of_ble_eq_true rfl, Nat.le_of_ble_eq_true rfl⟩ ⟨Nat.zero_le _, Nat.zero_le _⟩ rfl (Nat.le_of_ble_eq_true rfl) dX0_isWall_5 (fun H locs hP hS => ?_)
  refine lv_iconst (v := 1) hx hb dX0_isWall_8 (by decide) ?_
  refine lv_icmp_ne (tgt := 16) hx hb dX0_isWall_9 (by decide) (fun c_2 => ?_) (fun c_2 => ?_)
  · rw [if_neg c_2] at hf
    refine lv_iconst (v := 0) hx hb dX0_isWall_16 (by decide) ?_
    exact jp_endz B hP hS (by decide) dX0_isWall_17 (jp_inj hf)
  · rw [if_pos c_2] at hf
    refine lv_iconst (v := 1) hx hb dX0_isWall_12 (by decide) ?_
    refine lv_goto (tgt := 17) hx hb dX0_isWall_13 (by decide) ?_
    exact jp_endz B hP hS (by decide) dX0_isWall_17 (jp_inj hf)
end
-- X0_target
section
variable {p : Program} {l : Launch} {e : Jvm.Env} {s : State} {m : MethodId} {args : Array Value} {below : List Frame} {meth : Method} {c : Code} {Γ : jp_G} {Z : Nat → Option jp_Sh} {r0 : Int32} {σ0 : jp_I} {τ0 : jp_J}
def bX0_target_60 (x5 : Int32) (y0 : Int32) (σ : jp_I) (τ : jp_J) : Option (Int32 × jp_I × jp_J) :=
  if y0 = 0 then (some ((-1), σ, τ)) else (if x5 = (-1) then (some ((-1), σ, τ)) else ((fX0_isWall x5 σ τ).bind fun (a_3, σ_3, τ_3) => if a_3 = 0 then (some (x5, σ_3, τ_3)) else (some ((-1), σ_3, τ_3))))
set_option maxHeartbeats 4000000 in
set_option maxRecDepth 20000 in
theorem wbX0_target_60 (B : jp_B Γ p s m args meth c RX0 cX0_target 7 (some .int)) (hX0 : jp_hF Z) {x5 : Int32} {y0 : Int32} {σ : jp_I} {τ : jp_J} (hf : bX0_target_60 x5 y0 σ τ = some (r0, σ0, τ0)) : jp_at p l e (jp_R 2 42) s m args below meth c (MQ below (jp_Q Γ Z (some (.int r0)) σ0 τ0) args s 0 0 (jp_A Γ)) 7 Γ Z 60 [(0, .ref (Γ.2.2.1 2)), (5, .int x5)] [.int y0] σ τ := by
  obtain ⟨hx, hb, hml, hown, hts, hr, hlk, hE⟩ := id B
  unfold bX0_target_60 at hf
  intro H locs ls hP hS hl
  refine lv_istore (lv' := [(6, .int y0), (0, .ref (Γ.2.2.1 2)), (5, .int x5)]) hx hb dX0_target_60 hl (by decide) rfl (fun ls hl => ?_)
  refine lv_iload hx hb dX0_target_62 (lv_at hl 0 rfl) ?_
  refine lv_if_eq (tgt := 87) hx hb dX0_target_64 (by decide) (fun c_1 => ?_) (fun c_1 => ?_)
  · rw [if_pos c_1] at hf
    refine lv_iconst (v := -1) hx hb dX0_target_87 (by decide) ?_
    exact jp_endi B hP hS dX0_target_88 (jp_inj hf)
  · rw [if_neg c_1] at hf
    refine lv_iload hx hb dX0_target_67 (lv_at hl 2 rfl) ?_
    refine lv_iconst (v := -1) hx hb dX0_target_69 (by decide) ?_
    refine lv_icmp_eq (tgt := 87) hx hb dX0_target_70 (by decide) (fun c_2 => ?_) (fun c_2 => ?_)
    · rw [if_pos c_2] at hf
      refine lv_iconst (v := -1) hx hb dX0_target_87 (by decide) ?_
      exact jp_endi B hP hS dX0_target_88 (jp_inj hf)
    · rw [if_neg c_2] at hf
      refine lv_aload_n hx hb dX0_target_73 rfl (lv_at hl 1 rfl) ?_
      refine lv_iload hx hb dX0_target_74 (lv_at hl 2 rfl) ?_
      obtain ⟨⟨a_3, σ_3, τ_3⟩, h_3, hf⟩ := jp_bind hf
      dsimp only at hf
      refine jp_callV (rest := []) B hP hS hl (ctX0_isWall ⟨hX0.1, hX0.2.1, hX0.2.2.1, hX0.2.2.2.1, hX0.2.2.2.2⟩ h_3) hX0.1 rfl mw_93 mw_90 mw_91 mw_92 mw_49 ddX0_isWall ⟨Nat.le_of_ble_eq_true rfl, Nat.le_of_ble_eq_true rfl⟩ ⟨Nat.zero_le _, Nat.zero_le _⟩ rfl (Nat.le_of_ble_eq_true rfl) dX0_target_76 (fun H locs hP hS => ?_)
      refine lv_if_ne (tgt := 87) hx hb dX0_target_79 (by decide) (fun c_4 => ?_) (fun c_4 => ?_)
      · rw [if_neg c_4] at hf
        refine lv_iconst (v := -1) hx hb dX0_target_87 (by decide) ?_
        exact jp_endi B hP hS dX0_target_88 (jp_inj hf)
      · rw [if_pos c_4] at hf
        refine lv_iload hx hb dX0_target_82 (lv_at hl 2 rfl) ?_
        refine lv_goto (tgt := 88) hx hb dX0_target_84 (by decide) ?_
        exact jp_endi B hP hS dX0_target_88 (jp_inj hf)
def bX0_target_59 (x5 : Int32) (σ : jp_I) (τ : jp_J) : Option (Int32 × jp_I × jp_J) :=
  bX0_target_60 x5 0 σ τ
set_option maxHeartbeats 4000000 in
set_option maxRecDepth 20000 in
theorem wbX0_target_59 (B : jp_B Γ p s m args meth c RX0 cX0_target 7 (some .int)) (hX0 : jp_hF Z) {x5 : Int32} {σ : jp_I} {τ : jp_J} (hf : bX0_target_59 x5 σ τ = some (r0, σ0, τ0)) : jp_at p l e (jp_R 2 42) s m args below meth c (MQ below (jp_Q Γ Z (some (.int r0)) σ0 τ0) args s 0 0 (jp_A Γ)) 7 Γ Z 59 [(0, .ref (Γ.2.2.1 2)), (5, .int x5)] [] σ τ := by
  obtain ⟨hx, hb, hml, hown, hts, hr, hlk, hE⟩ := id B
  unfold bX0_target_59 at hf
  intro H locs ls hP hS hl
  refine lv_iconst (v := 0) hx hb dX0_target_59 (by decide) ?_
  exact wbX0_target_60 B hX0 hf H locs ls hP hS (lv_sub hl [0, 1] rfl)
def fX0_target (p1 : Int32) (p2 : Int32) (σ : jp_I) (τ : jp_J) : Option (Int32 × jp_I × jp_J) :=
  (fX7_read40 p2 σ τ).bind fun (a_1, σ_1, τ_1) => (fX7_read41 p2 σ_1 τ_1).bind fun (a_2, σ_2, τ_2) => (fX0_cellAt ((p1 - p1 / 6 * 6) + a_1) ((p1 / 6) + a_2) σ_2 τ_2).bind fun (a_3, σ_3, τ_3) => (fX0_cellAt (p1 - p1 / 6 * 6) (p1 / 6) σ_3 τ_3).bind fun (a_4, σ_4, τ_4) => if a_4 = (-1) then (bX0_target_59 a_3 σ_4 τ_4) else ((fX0_isWall p1 σ_4 τ_4).bind fun (a_6, σ_6, τ_6) => if a_6 = 0 then (bX0_target_60 a_3 1 σ_6 τ_6) else (bX0_target_59 a_3 σ_6 τ_6))
set_option maxHeartbeats 4000000 in
set_option maxRecDepth 20000 in
theorem ctX0_target {l : Launch} {Γ : jp_G} {Z : Nat → Option jp_Sh} (hX0 : jp_hF Z) {p1 : Int32} {p2 : Int32} {σ σ0 : jp_I} {τ τ0 : jp_J} {r0 : Int32} (hf : fX0_target p1 p2 σ τ = some (r0, σ0, τ0)) : jp_M l yX0_target cX0_target 7 (some .int) 2 42 Γ Z σ τ [.ref (Γ.2.2.1 2), .int p1, .int p2] (some (.int r0)) σ0 τ0 := by
  refine jp_mk (lv := [(0, .ref (Γ.2.2.1 2)), (1, .int p1), (2, .int p2)]) (by decide) (Nat.le_of_ble_eq_true rfl) rfl fun p e s m args below meth c B => ?_
  obtain ⟨hx, hb, hml, hown, hts, hr, hlk, hE⟩ := id B
  unfold fX0_target at hf
  intro H locs ls hP hS hl
  refine lv_iload_n hx hb dX0_target_0 rfl (lv_at hl 1 rfl) ?_
  refine lv_bipush (v := 6) hx hb dX0_target_1 (by decide) ?_
  refine lv_irem hx hb dX0_target_3 (by decide) ?_
  refine lv_istore_n (lv' := [(3, .int (p1 - p1 / 6 * 6)), (0, .ref (Γ.2.2.1 2)), (1, .int p1), (2, .int p2)]) hx hb dX0_target_4 rfl hl (by decide) rfl (fun ls hl => ?_)
  refine lv_iload_n hx hb dX0_target_5 rfl (lv_at hl 2 rfl) ?_
  refine lv_bipush (v := 6) hx hb dX0_target_6 (by decide) ?_
  refine lv_idiv hx hb dX0_target_8 (by decide) ?_
  refine lv_istore (lv' := [(4, .int (p1 / 6)), (3, .int (p1 - p1 / 6 * 6)), (0, .ref (Γ.2.2.1 2)), (1, .int p1), (2, .int p2)]) hx hb dX0_target_9 hl (by decide) rfl (fun ls hl => ?_)
  refine lv_aload_n hx hb dX0_target_11 rfl (lv_at hl 2 rfl) ?_
  refine lv_iload_n hx hb dX0_target_12 rfl (lv_at hl 1 rfl) ?_
  refine va_getsN hx hb hE.2.2.2.1.1 hS hown (va_Nw.use rfl (hE.2.1 _ nw_186)) (fun _ h9 => h9) dX0_target_13 ?_
  refine lv_iload_n hx hb dX0_target_16 rfl (lv_at hl 4 rfl) ?_
  obtain ⟨⟨a_1, σ_1, τ_1⟩, h_1, hf⟩ := jp_bind hf
  dsimp only at hf
  refine jp_callSN (rest := [.int (p1 - p1 / 6 * 6), .ref (Γ.2.2.1 2)]) B hP hS hl (ctX7_read40 h_1) mw_85 nw_188 mw_84 mw_2 ddX7_read ⟨Nat.le_of_ble_eq_true rfl, Nat.le_of_ble_eq_true rfl⟩ ⟨Nat.zero_le _, Nat.zero_le _⟩ rfl (Nat.le_of_ble_eq_true rfl) dX0_target_17 (fun H locs hP hS => ?_)
  refine lv_iadd hx hb dX0_target_20 ?_
  refine lv_iload hx hb dX0_target_21 (lv_at hl 0 rfl) ?_
  refine va_getsN hx hb hE.2.2.2.1.2.2.1 hS hown (va_Nw.use rfl (hE.2.1 _ nw_191)) (fun _ h9 => h9) dX0_target_23 ?_
  refine lv_iload_n hx hb dX0_target_26 rfl (lv_at hl 4 rfl) ?_
  obtain ⟨⟨a_2, σ_2, τ_2⟩, h_2, hf⟩ := jp_bind hf
  dsimp only at hf
  refine jp_callSN (rest := [.int (p1 / 6), .int ((p1 - p1 / 6 * 6) + a_1), .ref (Γ.2.2.1 2)]) B hP hS hl (ctX7_read41 h_2) mw_85 nw_188 mw_84 mw_2 ddX7_read ⟨Nat.le_of_ble_eq_true rfl, Nat.le_of_ble_eq_true rfl⟩ ⟨Nat.zero_le _, Nat.zero_le _⟩ rfl (Nat.le_of_ble_eq_true rfl) dX0_target_27 (fun H locs hP hS => ?_)
  refine lv_iadd hx hb dX0_target_30 ?_
  obtain ⟨⟨a_3, σ_3, τ_3⟩, h_3, hf⟩ := jp_bind hf
  dsimp only at hf
  refine jp_callV (rest := []) B hP hS hl (ctX0_cellAt ⟨hX0.1, hX0.2.1, hX0.2.2.1, hX0.2.2.2.1, hX0.2.2.2.2⟩ h_3) hX0.1 rfl mw_89 mw_86 mw_87 mw_88 mw_49 ddX0_cellAt ⟨Nat.le_of_ble_eq_true rfl, Nat.le_of_ble_eq_true rfl⟩ ⟨Nat.zero_le _, Nat.zero_le _⟩ rfl (Nat.le_of_ble_eq_true rfl) dX0_target_31 (fun H locs hP hS => ?_)
  refine lv_istore (lv' := [(5, .int a_3), (4, .int (p1 / 6)), (3, .int (p1 - p1 / 6 * 6)), (0, .ref (Γ.2.2.1 2)), (1, .int p1), (2, .int p2)]) hx hb dX0_target_34 hl (by decide) rfl (fun ls hl => ?_)
  refine lv_aload_n hx hb dX0_target_36 rfl (lv_at hl 3 rfl) ?_
  refine lv_iload_n hx hb dX0_target_37 rfl (lv_at hl 2 rfl) ?_
  refine lv_iload hx hb dX0_target_38 (lv_at hl 1 rfl) ?_
  obtain ⟨⟨a_4, σ_4, τ_4⟩, h_4, hf⟩ := jp_bind hf
  dsimp only at hf
  refine jp_callV (rest := []) B hP hS hl (ctX0_cellAt ⟨hX0.1, hX0.2.1, hX0.2.2.1, hX0.2.2.2.1, hX0.2.2.2.2⟩ h_4) hX0.1 rfl mw_89 mw_86 mw_87 mw_88 mw_49 ddX0_cellAt ⟨Nat.le_of_ble_eq_true rfl, Nat.le_of_ble_eq_true rfl⟩ ⟨Nat.zero_le _, Nat.zero_le _⟩ rfl (Nat.le_of_ble_eq_true rfl) dX0_target_40 (fun H locs hP hS => ?_)
  refine lv_iconst (v := -1) hx hb dX0_target_43 (by decide) ?_
  refine lv_icmp_eq (tgt := 59) hx hb dX0_target_44 (by decide) (fun c_5 => ?_) (fun c_5 => ?_)
  · rw [if_pos c_5] at hf
    exact wbX0_target_59 B hX0 hf H locs ls hP hS (lv_sub hl [3, 0] rfl)
  · rw [if_neg c_5] at hf
    refine lv_aload_n hx hb dX0_target_47 rfl (lv_at hl 3 rfl) ?_
    refine lv_iload_n hx hb dX0_target_48 rfl (lv_at hl 4 rfl) ?_
    obtain ⟨⟨a_6, σ_6, τ_6⟩, h_6, hf⟩ := jp_bind hf
    dsimp only at hf
    refine jp_callV (rest := []) B hP hS hl (ctX0_isWall ⟨hX0.1, hX0.2.1, hX0.2.2.1, hX0.2.2.2.1, hX0.2.2.2.2⟩ h_6) hX0.1 rfl mw_93 mw_90 mw_91 mw_92 mw_49 ddX0_isWall ⟨Nat.le_of_ble_eq_true rfl, Nat.le_of_ble_eq_true rfl⟩ ⟨Nat.zero_le _, Nat.zero_le _⟩ rfl (Nat.le_of_ble_eq_true rfl) dX0_target_49 (fun H locs hP hS => ?_)
    refine lv_if_ne (tgt := 59) hx hb dX0_target_52 (by decide) (fun c_7 => ?_) (fun c_7 => ?_)
    · rw [if_neg c_7] at hf
      exact wbX0_target_59 B hX0 hf H locs ls hP hS (lv_sub hl [3, 0] rfl)
    · rw [if_pos c_7] at hf
      refine lv_iconst (v := 1) hx hb dX0_target_55 (by decide) ?_
      refine lv_goto (tgt := 60) hx hb dX0_target_56 (by decide) ?_
      exact wbX0_target_60 B hX0 hf H locs ls hP hS (lv_sub hl [3, 0] rfl)
end
-- X0_chart
section
variable {p : Program} {l : Launch} {e : Jvm.Env} {s : State} {m : MethodId} {args : Array Value} {below : List Frame} {meth : Method} {c : Code} {Γ : jp_G} {Z : Nat → Option jp_Sh} {r0 : Int32} {σ0 : jp_I} {τ0 : jp_J}
def sX0_chart_10 (x1 : Int32) (x2 : Int32) (σ : jp_I) (τ : jp_J) : Option (Sum (Int32) (Sum (Unit) Int32) × jp_I × jp_J) :=
  if 5 ≤ x2 then (some (.inr (.inl ()), σ, τ)) else ((fX0_target x1 x2 σ τ).bind fun (a_2, σ_2, τ_2) => (fX7_write 6 180 ((x1 * 5) + x2) a_2 σ_2 τ_2).bind fun (a_3, σ_3, τ_3) => some (.inl (x2 + 1), σ_3, τ_3))
set_option maxHeartbeats 4000000 in
set_option maxRecDepth 20000 in
theorem wsX0_chart_10 (B : jp_B Γ p s m args meth c RX0 cX0_chart 3 none) (hX0 : jp_hF Z) {x1 : Int32} {x2 : Int32} {σ : jp_I} {τ : jp_J} {q : Sum (Int32) (Sum (Unit) Int32) × jp_I × jp_J} (hf : sX0_chart_10 x1 x2 σ τ = some q) (kb : ∀ v : Int32, q.1 = .inl v → jp_at p l e (jp_R 3 68) s m args below meth c (MQ below (jp_Q Γ Z none σ0 τ0) args s 0 0 (jp_A Γ)) 3 Γ Z 10 [(0, .ref (Γ.2.2.1 2)), (1, .int x1), (2, .int v)] [] q.2.1 q.2.2) (kx : ∀ v : Unit, q.1 = .inr (.inl v) → jp_at p l e (jp_R 3 68) s m args below meth c (MQ below (jp_Q Γ Z none σ0 τ0) args s 0 0 (jp_A Γ)) 3 Γ Z 39 [(0, .ref (Γ.2.2.1 2)), (1, .int x1)] [] q.2.1 q.2.2) (kr : ∀ v : Int32, q.1 = .inr (.inr v) → r0 = v ∧ σ0 = q.2.1 ∧ τ0 = q.2.2) : jp_at p l e (jp_R 3 68) s m args below meth c (MQ below (jp_Q Γ Z none σ0 τ0) args s 0 0 (jp_A Γ)) 3 Γ Z 10 [(0, .ref (Γ.2.2.1 2)), (1, .int x1), (2, .int x2)] [] σ τ := by
  obtain ⟨hx, hb, hml, hown, hts, hr, hlk, hE⟩ := id B
  unfold sX0_chart_10 at hf
  intro H locs ls hP hS hl
  refine lv_iload_n hx hb dX0_chart_10 rfl (lv_at hl 2 rfl) ?_
  refine lv_iconst (v := 5) hx hb dX0_chart_11 (by decide) ?_
  refine lv_icmp_ge (tgt := 39) hx hb dX0_chart_12 (by decide) (fun c_1 => ?_) (fun c_1 => ?_)
  · rw [if_pos c_1] at hf
    obtain rfl := Option.some.inj hf
    exact kx _ rfl H locs ls hP hS (lv_sub hl [0, 1] rfl)
  · rw [if_neg c_1] at hf
    refine lv_aload_n hx hb dX0_chart_15 rfl (lv_at hl 0 rfl) ?_
    refine jp_getr (k := 1) B hP hX0.1 rfl rfl (by decide) jp_fX0 rfl mw_60 dX0_chart_16 ?_
    refine lv_iload_n hx hb dX0_chart_19 rfl (lv_at hl 1 rfl) ?_
    refine lv_iconst (v := 5) hx hb dX0_chart_20 (by decide) ?_
    refine lv_imul hx hb dX0_chart_21 ?_
    refine lv_iload_n hx hb dX0_chart_22 rfl (lv_at hl 2 rfl) ?_
    refine lv_iadd hx hb dX0_chart_23 ?_
    refine lv_aload_n hx hb dX0_chart_24 rfl (lv_at hl 0 rfl) ?_
    refine lv_iload_n hx hb dX0_chart_25 rfl (lv_at hl 1 rfl) ?_
    refine lv_iload_n hx hb dX0_chart_26 rfl (lv_at hl 2 rfl) ?_
    obtain ⟨⟨a_2, σ_2, τ_2⟩, h_2, hf⟩ := jp_bind hf
    dsimp only at hf
    refine jp_callV (rest := [.int ((x1 * 5) + x2), .ref (Γ.2.2.1 6)]) B hP hS hl (ctX0_target ⟨hX0.1, hX0.2.1, hX0.2.2.1, hX0.2.2.2.1, hX0.2.2.2.2⟩ h_2) hX0.1 rfl mw_83 mw_80 mw_81 mw_82 mw_49 ddX0_target ⟨Nat.le_of_ble_eq_true rfl, Nat.le_of_ble_eq_true rfl⟩ ⟨Nat.zero_le _, Nat.zero_le _⟩ rfl (Nat.le_of_ble_eq_true rfl) dX0_chart_27 (fun H locs hP hS => ?_)
    obtain ⟨⟨a_3, σ_3, τ_3⟩, h_3, hf⟩ := jp_bind hf
    dsimp only at hf
    refine jp_callSN (rest := []) B hP hS hl (ctX7_write hX0.2.2.1 h_3) mw_95 nw_201 mw_94 mw_2 ddX7_write ⟨Nat.le_of_ble_eq_true rfl, Nat.le_of_ble_eq_true rfl⟩ ⟨Nat.zero_le _, Nat.zero_le _⟩ rfl (Nat.le_of_ble_eq_true rfl) dX0_chart_30 (fun H locs hP hS => ?_)
    refine lv_iinc (v := x2 + 1) (lv' := [(2, .int (x2 + 1)), (0, .ref (Γ.2.2.1 2)), (1, .int x1)]) hx hb dX0_chart_33 hl (k := 2) rfl rfl (by decide) rfl (fun ls hl => ?_)
    refine lv_goto (tgt := 10) hx hb dX0_chart_36 (by decide) ?_
    obtain rfl := Option.some.inj hf
    exact kb _ rfl H locs ls hP hS (lv_sub hl [1, 2, 0] rfl)
set_option maxHeartbeats 4000000 in
theorem lX0_chart_10 (B : jp_B Γ p s m args meth c RX0 cX0_chart 3 none) (hX0 : jp_hF Z) {x1 : Int32} {e1 : Sum (Unit) Int32} {σ1 : jp_I} {τ1 : jp_J} (kx : ∀ v : Unit, e1 = .inl v → jp_at p l e (jp_R 3 68) s m args below meth c (MQ below (jp_Q Γ Z none σ0 τ0) args s 0 0 (jp_A Γ)) 3 Γ Z 39 [(0, .ref (Γ.2.2.1 2)), (1, .int x1)] [] σ1 τ1) (kr : ∀ v : Int32, e1 = .inr v → r0 = v ∧ σ0 = σ1 ∧ τ0 = τ1) : ∀ (k : Nat) (v : Int32) (σ : jp_I) (τ : jp_J), jp_loop (fun q : (Int32) × jp_I × jp_J => sX0_chart_10 x1 q.1 q.2.1 q.2.2) k (v, σ, τ) = some (e1, σ1, τ1) → jp_at p l e (jp_R 3 68) s m args below meth c (MQ below (jp_Q Γ Z none σ0 τ0) args s 0 0 (jp_A Γ)) 3 Γ Z 10 [(0, .ref (Γ.2.2.1 2)), (1, .int x1), (2, .int v)] [] σ τ := by
  refine jp_loopI (P := fun (v : Int32) (σ : jp_I) (τ : jp_J) => jp_at p l e (jp_R 3 68) s m args below meth c (MQ below (jp_Q Γ Z none σ0 τ0) args s 0 0 (jp_A Γ)) 3 Γ Z 10 [(0, .ref (Γ.2.2.1 2)), (1, .int x1), (2, .int v)] [] σ τ) (fun v σ τ q hq hbk hen => ?_)
  exact wsX0_chart_10 B hX0 hq (fun v' hv => hbk v' hv) (fun x hv => by obtain ⟨h1, h2, h3⟩ := hen _ hv; rw [h2, h3]; exact kx x h1.symm) (fun r hv => by obtain ⟨h1, h2, h3⟩ := hen _ hv; rw [h2, h3]; exact kr r h1.symm)
def sX0_chart_2 (x1 : Int32) (σ : jp_I) (τ : jp_J) : Option (Sum (Int32) (Sum (Unit) Int32) × jp_I × jp_J) :=
  if 36 ≤ x1 then (some (.inr (.inl ()), σ, τ)) else ((jp_loop (fun q : (Int32) × jp_I × jp_J => sX0_chart_10 x1 q.1 q.2.1 q.2.2) jp_F (0, σ, τ)).bind fun (e_2, σ_2, τ_2) => match e_2 with
    | .inl _ => (some (.inl (x1 + 1), σ_2, τ_2))
    | .inr r_2 => some (.inr (.inr r_2), σ_2, τ_2))
set_option maxHeartbeats 4000000 in
set_option maxRecDepth 20000 in
theorem wsX0_chart_2 (B : jp_B Γ p s m args meth c RX0 cX0_chart 3 none) (hX0 : jp_hF Z) {x1 : Int32} {σ : jp_I} {τ : jp_J} {q : Sum (Int32) (Sum (Unit) Int32) × jp_I × jp_J} (hf : sX0_chart_2 x1 σ τ = some q) (kb : ∀ v : Int32, q.1 = .inl v → jp_at p l e (jp_R 3 68) s m args below meth c (MQ below (jp_Q Γ Z none σ0 τ0) args s 0 0 (jp_A Γ)) 3 Γ Z 2 [(0, .ref (Γ.2.2.1 2)), (1, .int v)] [] q.2.1 q.2.2) (kx : ∀ v : Unit, q.1 = .inr (.inl v) → jp_at p l e (jp_R 3 68) s m args below meth c (MQ below (jp_Q Γ Z none σ0 τ0) args s 0 0 (jp_A Γ)) 3 Γ Z 45 [] [] q.2.1 q.2.2) (kr : ∀ v : Int32, q.1 = .inr (.inr v) → r0 = v ∧ σ0 = q.2.1 ∧ τ0 = q.2.2) : jp_at p l e (jp_R 3 68) s m args below meth c (MQ below (jp_Q Γ Z none σ0 τ0) args s 0 0 (jp_A Γ)) 3 Γ Z 2 [(0, .ref (Γ.2.2.1 2)), (1, .int x1)] [] σ τ := by
  obtain ⟨hx, hb, hml, hown, hts, hr, hlk, hE⟩ := id B
  unfold sX0_chart_2 at hf
  intro H locs ls hP hS hl
  refine lv_iload_n hx hb dX0_chart_2 rfl (lv_at hl 1 rfl) ?_
  refine lv_bipush (v := 36) hx hb dX0_chart_3 (by decide) ?_
  refine lv_icmp_ge (tgt := 45) hx hb dX0_chart_5 (by decide) (fun c_1 => ?_) (fun c_1 => ?_)
  · rw [if_pos c_1] at hf
    obtain rfl := Option.some.inj hf
    exact kx _ rfl H locs ls hP hS (lv_sub hl [] rfl)
  · rw [if_neg c_1] at hf
    refine lv_iconst (v := 0) hx hb dX0_chart_8 (by decide) ?_
    refine lv_istore_n (lv' := [(2, .int 0), (0, .ref (Γ.2.2.1 2)), (1, .int x1)]) hx hb dX0_chart_9 rfl hl (by decide) rfl (fun ls hl => ?_)
    obtain ⟨⟨e_2, σ_2, τ_2⟩, h_2, hf⟩ := jp_bind hf
    refine lX0_chart_10 (r0 := r0) B hX0 (x1 := x1) (fun v_2 k_2 => ?_) (fun r_2 k_2 => ?_) _ _ _ _ h_2 H locs ls hP hS (lv_sub hl [1, 2, 0] rfl)
    · subst k_2
      dsimp only at hf
      intro H locs ls hP hS hl
      refine lv_iinc (v := x1 + 1) (lv' := [(1, .int (x1 + 1)), (0, .ref (Γ.2.2.1 2))]) hx hb dX0_chart_39 hl (k := 1) rfl rfl (by decide) rfl (fun ls hl => ?_)
      refine lv_goto (tgt := 2) hx hb dX0_chart_42 (by decide) ?_
      obtain rfl := Option.some.inj hf
      exact kb _ rfl H locs ls hP hS (lv_sub hl [1, 0] rfl)
    · subst k_2
      dsimp only at hf
      obtain rfl := Option.some.inj hf
      exact kr _ rfl
set_option maxHeartbeats 4000000 in
theorem lX0_chart_2 (B : jp_B Γ p s m args meth c RX0 cX0_chart 3 none) (hX0 : jp_hF Z) {e1 : Sum (Unit) Int32} {σ1 : jp_I} {τ1 : jp_J} (kx : ∀ v : Unit, e1 = .inl v → jp_at p l e (jp_R 3 68) s m args below meth c (MQ below (jp_Q Γ Z none σ0 τ0) args s 0 0 (jp_A Γ)) 3 Γ Z 45 [] [] σ1 τ1) (kr : ∀ v : Int32, e1 = .inr v → r0 = v ∧ σ0 = σ1 ∧ τ0 = τ1) : ∀ (k : Nat) (v : Int32) (σ : jp_I) (τ : jp_J), jp_loop (fun q : (Int32) × jp_I × jp_J => sX0_chart_2 q.1 q.2.1 q.2.2) k (v, σ, τ) = some (e1, σ1, τ1) → jp_at p l e (jp_R 3 68) s m args below meth c (MQ below (jp_Q Γ Z none σ0 τ0) args s 0 0 (jp_A Γ)) 3 Γ Z 2 [(0, .ref (Γ.2.2.1 2)), (1, .int v)] [] σ τ := by
  refine jp_loopI (P := fun (v : Int32) (σ : jp_I) (τ : jp_J) => jp_at p l e (jp_R 3 68) s m args below meth c (MQ below (jp_Q Γ Z none σ0 τ0) args s 0 0 (jp_A Γ)) 3 Γ Z 2 [(0, .ref (Γ.2.2.1 2)), (1, .int v)] [] σ τ) (fun v σ τ q hq hbk hen => ?_)
  exact wsX0_chart_2 B hX0 hq (fun v' hv => hbk v' hv) (fun x hv => by obtain ⟨h1, h2, h3⟩ := hen _ hv; rw [h2, h3]; exact kx x h1.symm) (fun r hv => by obtain ⟨h1, h2, h3⟩ := hen _ hv; rw [h2, h3]; exact kr r h1.symm)
def fX0_chart (σ : jp_I) (τ : jp_J) : Option (Int32 × jp_I × jp_J) :=
  (jp_loop (fun q : (Int32) × jp_I × jp_J => sX0_chart_2 q.1 q.2.1 q.2.2) jp_F (0, σ, τ)).bind fun (e_1, σ_1, τ_1) => match e_1 with
    | .inl _ => (some (0, σ_1, τ_1))
    | .inr r_1 => some (r_1, σ_1, τ_1)
set_option maxHeartbeats 4000000 in
set_option maxRecDepth 20000 in
theorem ctX0_chart {l : Launch} {Γ : jp_G} {Z : Nat → Option jp_Sh} (hX0 : jp_hF Z) {σ σ0 : jp_I} {τ τ0 : jp_J} {r0 : Int32} (hf : fX0_chart σ τ = some (r0, σ0, τ0)) : jp_M l yX0_chart cX0_chart 3 none 3 68 Γ Z σ τ [.ref (Γ.2.2.1 2)] none σ0 τ0 := by
  refine jp_mk (lv := [(0, .ref (Γ.2.2.1 2))]) (by decide) (Nat.le_of_ble_eq_true rfl) rfl fun p e s m args below meth c B => ?_
  obtain ⟨hx, hb, hml, hown, hts, hr, hlk, hE⟩ := id B
  unfold fX0_chart at hf
  intro H locs ls hP hS hl
  refine lv_iconst (v := 0) hx hb dX0_chart_0 (by decide) ?_
  refine lv_istore_n (lv' := [(1, .int 0), (0, .ref (Γ.2.2.1 2))]) hx hb dX0_chart_1 rfl hl (by decide) rfl (fun ls hl => ?_)
  obtain ⟨⟨e_1, σ_1, τ_1⟩, h_1, hf⟩ := jp_bind hf
  refine lX0_chart_2 (r0 := r0) B hX0 (fun v_1 k_1 => ?_) (fun r_1 k_1 => ?_) _ _ _ _ h_1 H locs ls hP hS (lv_sub hl [1, 0] rfl)
  · subst k_1
    dsimp only at hf
    intro H locs ls hP hS hl
    exact jp_endv B hP hS dX0_chart_45 (jp_inj hf)
  · subst k_1
    dsimp only at hf
    exact jp_inj hf
end
-- X0_clear
section
variable {p : Program} {l : Launch} {e : Jvm.Env} {s : State} {m : MethodId} {args : Array Value} {below : List Frame} {meth : Method} {c : Code} {Γ : jp_G} {Z : Nat → Option jp_Sh} {r0 : Int32} {σ0 : jp_I} {τ0 : jp_J}
def fX0_clear (p1 : Int32) (p2 : Int32) (σ : jp_I) (τ : jp_J) : Option (Int32 × jp_I × jp_J) :=
  (fJ7_fill_53178 5 36 0 (jp_up (jp_up (jp_up σ 2 4 p1) 2 5 p2) 2 6 0) τ).bind fun (a_1, σ_1, τ_1) => (fX0_chart σ_1 τ_1).bind fun (a_2, σ_2, τ_2) => some (0, σ_2, τ_2)
set_option maxHeartbeats 4000000 in
set_option maxRecDepth 20000 in
theorem ctX0_clear {l : Launch} {Γ : jp_G} {Z : Nat → Option jp_Sh} (hX0 : jp_hF Z) {p1 : Int32} {p2 : Int32} {σ σ0 : jp_I} {τ τ0 : jp_J} {r0 : Int32} (hf : fX0_clear p1 p2 σ τ = some (r0, σ0, τ0)) : jp_M l yX0_clear cX0_clear 3 none 4 90 Γ Z σ τ [.ref (Γ.2.2.1 2), .int p1, .int p2] none σ0 τ0 := by
  refine jp_mk (lv := [(0, .ref (Γ.2.2.1 2)), (1, .int p1), (2, .int p2)]) (by decide) (Nat.le_of_ble_eq_true rfl) rfl fun p e s m args below meth c B => ?_
  obtain ⟨hx, hb, hml, hown, hts, hr, hlk, hE⟩ := id B
  unfold fX0_clear at hf
  intro H locs ls hP hS hl
  refine lv_aload_n hx hb dX0_clear_0 rfl (lv_at hl 0 rfl) ?_
  refine lv_iload_n hx hb dX0_clear_1 rfl (lv_at hl 1 rfl) ?_
  refine jp_puti (k := 4) (ty := .int) B hP hS hX0.1 rfl rfl (by decide) jp_fX0 tyX0 tyX0_ok nmX0 rfl mw_69 rfl (by decide +kernel) rfl rfl dX0_clear_2 (fun H locs hP hS => ?_)
  refine lv_aload_n hx hb dX0_clear_5 rfl (lv_at hl 0 rfl) ?_
  refine lv_iload_n hx hb dX0_clear_6 rfl (lv_at hl 2 rfl) ?_
  refine jp_puti (k := 5) (ty := .int) B hP hS hX0.1 rfl rfl (by decide) jp_fX0 tyX0 tyX0_ok nmX0 rfl mw_70 rfl (by decide +kernel) rfl rfl dX0_clear_7 (fun H locs hP hS => ?_)
  refine lv_aload_n hx hb dX0_clear_10 rfl (lv_at hl 0 rfl) ?_
  refine lv_iconst (v := 0) hx hb dX0_clear_11 (by decide) ?_
  refine jp_puti (k := 6) (ty := .int) B hP hS hX0.1 rfl rfl (by decide) jp_fX0 tyX0 tyX0_ok nmX0 rfl mw_71 rfl (by decide +kernel) rfl rfl dX0_clear_12 (fun H locs hP hS => ?_)
  refine lv_aload_n hx hb dX0_clear_15 rfl (lv_at hl 0 rfl) ?_
  refine jp_getr (k := 0) B hP hX0.1 rfl rfl (by decide) jp_fX0 rfl mw_59 dX0_clear_16 ?_
  refine lv_iconst (v := 0) hx hb dX0_clear_19 (by decide) ?_
  obtain ⟨⟨a_1, σ_1, τ_1⟩, h_1, hf⟩ := jp_bind hf
  dsimp only at hf
  refine jp_callS (rest := []) B hP hS hl (ctJ7_fill_53178 hX0.2.1 h_1) mw_75 mw_72 mw_73 mw_74 ddJ7_fill_53178 ⟨Nat.le_of_ble_eq_true rfl, Nat.le_of_ble_eq_true rfl⟩ ⟨Nat.zero_le _, Nat.zero_le _⟩ rfl (Nat.le_of_ble_eq_true rfl) dX0_clear_20 (fun H locs hP hS => ?_)
  refine lv_aload_n hx hb dX0_clear_23 rfl (lv_at hl 0 rfl) ?_
  obtain ⟨⟨a_2, σ_2, τ_2⟩, h_2, hf⟩ := jp_bind hf
  dsimp only at hf
  refine jp_callV (rest := []) B hP hS hl (ctX0_chart ⟨hX0.1, hX0.2.1, hX0.2.2.1, hX0.2.2.2.1, hX0.2.2.2.2⟩ h_2) hX0.1 rfl mw_79 mw_76 mw_77 mw_78 mw_49 ddX0_chart ⟨Nat.le_of_ble_eq_true rfl, Nat.le_of_ble_eq_true rfl⟩ ⟨Nat.zero_le _, Nat.zero_le _⟩ rfl (Nat.le_of_ble_eq_true rfl) dX0_clear_24 (fun H locs hP hS => ?_)
  exact jp_endv B hP hS dX0_clear_27 (jp_inj hf)
end
-- X0_build
section
variable {p : Program} {l : Launch} {e : Jvm.Env} {s : State} {m : MethodId} {args : Array Value} {below : List Frame} {meth : Method} {c : Code} {Γ : jp_G} {Z : Nat → Option jp_Sh} {r0 : Int32} {σ0 : jp_I} {τ0 : jp_J}
def bX0_build_42 (x3 : Int32) (y1 : Int32) (y2 : Int32) (σ : jp_I) (τ : jp_J) : Option (Int32 × jp_I × jp_J) :=
  (fX0_chart (jp_up σ 2 6 (y1 + y2)) τ).bind fun (a_1, σ_1, τ_1) => if jp_isb x3 = true then some (x3, σ_1, τ_1) else none
set_option maxHeartbeats 4000000 in
set_option maxRecDepth 20000 in
theorem wbX0_build_42 (B : jp_B Γ p s m args meth c RX0 cX0_build 4 (some .boolean)) (hX0 : jp_hF Z) {x3 : Int32} {y1 : Int32} {y2 : Int32} {σ : jp_I} {τ : jp_J} (hf : bX0_build_42 x3 y1 y2 σ τ = some (r0, σ0, τ0)) : jp_at p l e (jp_R 4 90) s m args below meth c (MQ below (jp_Q Γ Z (some (.int r0)) σ0 τ0) args s 0 0 (jp_A Γ)) 4 Γ Z 42 [(0, .ref (Γ.2.2.1 2)), (3, .int x3)] [.int y2, .int y1, .ref (Γ.2.2.1 2)] σ τ := by
  obtain ⟨hx, hb, hml, hown, hts, hr, hlk, hE⟩ := id B
  unfold bX0_build_42 at hf
  intro H locs ls hP hS hl
  refine lv_iadd hx hb dX0_build_42 ?_
  refine jp_puti (k := 6) (ty := .int) B hP hS hX0.1 rfl rfl (by decide) jp_fX0 tyX0 tyX0_ok nmX0 rfl mw_71 rfl (by decide +kernel) rfl rfl dX0_build_43 (fun H locs hP hS => ?_)
  refine lv_aload_n hx hb dX0_build_46 rfl (lv_at hl 0 rfl) ?_
  obtain ⟨⟨a_1, σ_1, τ_1⟩, h_1, hf⟩ := jp_bind hf
  dsimp only at hf
  refine jp_callV (rest := []) B hP hS hl (ctX0_chart ⟨hX0.1, hX0.2.1, hX0.2.2.1, hX0.2.2.2.1, hX0.2.2.2.2⟩ h_1) hX0.1 rfl mw_79 mw_76 mw_77 mw_78 mw_49 ddX0_chart ⟨Nat.le_of_ble_eq_true rfl, Nat.le_of_ble_eq_true rfl⟩ ⟨Nat.zero_le _, Nat.zero_le _⟩ rfl (Nat.le_of_ble_eq_true rfl) dX0_build_47 (fun H locs hP hS => ?_)
  refine lv_iload_n hx hb dX0_build_50 rfl (lv_at hl 1 rfl) ?_
  obtain ⟨g_2, hf⟩ := jp_if hf
  exact jp_endz B hP hS g_2 dX0_build_51 (jp_inj hf)
def bX0_build_25 (x2 : Int32) (x3 : Int32) (y1 : Int32) (y2 : Int32) (σ : jp_I) (τ : jp_J) : Option (Int32 × jp_I × jp_J) :=
  (fX7_write 5 36 y1 y2 σ τ).bind fun (a_1, σ_1, τ_1) => if x2 = 0 then (bX0_build_42 x3 (σ_1 2 6) (-1) σ_1 τ_1) else (bX0_build_42 x3 (σ_1 2 6) 1 σ_1 τ_1)
set_option maxHeartbeats 4000000 in
set_option maxRecDepth 20000 in
theorem wbX0_build_25 (B : jp_B Γ p s m args meth c RX0 cX0_build 4 (some .boolean)) (hX0 : jp_hF Z) {x2 : Int32} {x3 : Int32} {y1 : Int32} {y2 : Int32} {σ : jp_I} {τ : jp_J} (hf : bX0_build_25 x2 x3 y1 y2 σ τ = some (r0, σ0, τ0)) : jp_at p l e (jp_R 4 90) s m args below meth c (MQ below (jp_Q Γ Z (some (.int r0)) σ0 τ0) args s 0 0 (jp_A Γ)) 4 Γ Z 25 [(0, .ref (Γ.2.2.1 2)), (2, .int x2), (3, .int x3)] [.int y2, .int y1, .ref (Γ.2.2.1 5)] σ τ := by
  obtain ⟨hx, hb, hml, hown, hts, hr, hlk, hE⟩ := id B
  unfold bX0_build_25 at hf
  intro H locs ls hP hS hl
  obtain ⟨⟨a_1, σ_1, τ_1⟩, h_1, hf⟩ := jp_bind hf
  dsimp only at hf
  refine jp_callSN (rest := []) B hP hS hl (ctX7_write hX0.2.1 h_1) mw_95 nw_201 mw_94 mw_2 ddX7_write ⟨Nat.le_of_ble_eq_true rfl, Nat.le_of_ble_eq_true rfl⟩ ⟨Nat.zero_le _, Nat.zero_le _⟩ rfl (Nat.le_of_ble_eq_true rfl) dX0_build_25 (fun H locs hP hS => ?_)
  refine lv_aload_n hx hb dX0_build_28 rfl (lv_at hl 0 rfl) ?_
  refine lv_dup hx hb dX0_build_29 rfl ?_
  refine jp_geti (k := 6) B hP hX0.1 rfl rfl (by decide) jp_fX0 rfl mw_71 dX0_build_30 ?_
  refine lv_iload_n hx hb dX0_build_33 rfl (lv_at hl 1 rfl) ?_
  refine lv_if_eq (tgt := 41) hx hb dX0_build_34 (by decide) (fun c_2 => ?_) (fun c_2 => ?_)
  · rw [if_pos c_2] at hf
    refine lv_iconst (v := -1) hx hb dX0_build_41 (by decide) ?_
    exact wbX0_build_42 B hX0 hf H locs ls hP hS (lv_sub hl [0, 2] rfl)
  · rw [if_neg c_2] at hf
    refine lv_iconst (v := 1) hx hb dX0_build_37 (by decide) ?_
    refine lv_goto (tgt := 42) hx hb dX0_build_38 (by decide) ?_
    exact wbX0_build_42 B hX0 hf H locs ls hP hS (lv_sub hl [0, 2] rfl)
def fX0_build (p1 : Int32) (p2 : Int32) (σ : jp_I) (τ : jp_J) : Option (Int32 × jp_I × jp_J) :=
  (fX0_isWall p1 σ τ).bind fun (a_1, σ_1, τ_1) => if a_1 = p2 then (if jp_isb a_1 = true then some (a_1, σ_1, τ_1) else none) else (if p2 = 0 then (bX0_build_25 p2 a_1 p1 0 σ_1 τ_1) else (bX0_build_25 p2 a_1 p1 1 σ_1 τ_1))
set_option maxHeartbeats 4000000 in
set_option maxRecDepth 20000 in
theorem ctX0_build {l : Launch} {Γ : jp_G} {Z : Nat → Option jp_Sh} (hX0 : jp_hF Z) {p1 : Int32} {p2 : Int32} {σ σ0 : jp_I} {τ τ0 : jp_J} {r0 : Int32} (hf : fX0_build p1 p2 σ τ = some (r0, σ0, τ0)) : jp_M l yX0_build cX0_build 4 (some .boolean) 4 90 Γ Z σ τ [.ref (Γ.2.2.1 2), .int p1, .int p2] (some (.int r0)) σ0 τ0 := by
  refine jp_mk (lv := [(0, .ref (Γ.2.2.1 2)), (1, .int p1), (2, .int p2)]) (by decide) (Nat.le_of_ble_eq_true rfl) rfl fun p e s m args below meth c B => ?_
  obtain ⟨hx, hb, hml, hown, hts, hr, hlk, hE⟩ := id B
  unfold fX0_build at hf
  intro H locs ls hP hS hl
  refine lv_aload_n hx hb dX0_build_0 rfl (lv_at hl 0 rfl) ?_
  refine lv_iload_n hx hb dX0_build_1 rfl (lv_at hl 1 rfl) ?_
  obtain ⟨⟨a_1, σ_1, τ_1⟩, h_1, hf⟩ := jp_bind hf
  dsimp only at hf
  refine jp_callV (rest := []) B hP hS hl (ctX0_isWall ⟨hX0.1, hX0.2.1, hX0.2.2.1, hX0.2.2.2.1, hX0.2.2.2.2⟩ h_1) hX0.1 rfl mw_93 mw_90 mw_91 mw_92 mw_49 ddX0_isWall ⟨Nat.le_of_ble_eq_true rfl, Nat.le_of_ble_eq_true rfl⟩ ⟨Nat.zero_le _, Nat.zero_le _⟩ rfl (Nat.le_of_ble_eq_true rfl) dX0_build_2 (fun H locs hP hS => ?_)
  refine lv_istore_n (lv' := [(3, .int a_1), (0, .ref (Γ.2.2.1 2)), (1, .int p1), (2, .int p2)]) hx hb dX0_build_5 rfl hl (by decide) rfl (fun ls hl => ?_)
  refine lv_iload_n hx hb dX0_build_6 rfl (lv_at hl 0 rfl) ?_
  refine lv_iload_n hx hb dX0_build_7 rfl (lv_at hl 3 rfl) ?_
  refine lv_icmp_eq (tgt := 50) hx hb dX0_build_8 (by decide) (fun c_2 => ?_) (fun c_2 => ?_)
  · rw [if_pos c_2] at hf
    refine lv_iload_n hx hb dX0_build_50 rfl (lv_at hl 0 rfl) ?_
    obtain ⟨g_3, hf⟩ := jp_if hf
    exact jp_endz B hP hS g_3 dX0_build_51 (jp_inj hf)
  · rw [if_neg c_2] at hf
    refine lv_aload_n hx hb dX0_build_11 rfl (lv_at hl 1 rfl) ?_
    refine jp_getr (k := 0) B hP hX0.1 rfl rfl (by decide) jp_fX0 rfl mw_59 dX0_build_12 ?_
    refine lv_iload_n hx hb dX0_build_15 rfl (lv_at hl 2 rfl) ?_
    refine lv_iload_n hx hb dX0_build_16 rfl (lv_at hl 3 rfl) ?_
    refine lv_if_eq (tgt := 24) hx hb dX0_build_17 (by decide) (fun c_4 => ?_) (fun c_4 => ?_)
    · rw [if_pos c_4] at hf
      refine lv_iconst (v := 0) hx hb dX0_build_24 (by decide) ?_
      exact wbX0_build_25 B hX0 hf H locs ls hP hS (lv_sub hl [1, 3, 0] rfl)
    · rw [if_neg c_4] at hf
      refine lv_iconst (v := 1) hx hb dX0_build_20 (by decide) ?_
      refine lv_goto (tgt := 25) hx hb dX0_build_21 (by decide) ?_
      exact wbX0_build_25 B hX0 hf H locs ls hP hS (lv_sub hl [1, 3, 0] rfl)
end
-- X0_moved
section
variable {p : Program} {l : Launch} {e : Jvm.Env} {s : State} {m : MethodId} {args : Array Value} {below : List Frame} {meth : Method} {c : Code} {Γ : jp_G} {Z : Nat → Option jp_Sh} {r0 : Int32} {σ0 : jp_I} {τ0 : jp_J}
def fX0_moved (p1 : Int32) (p2 : Int32) (σ : jp_I) (τ : jp_J) : Option (Int32 × jp_I × jp_J) :=
  if p1 = (-1) then (some ((-1), σ, τ)) else ((fX7_read 6 180 ((p1 * 5) + p2) σ τ).bind fun (a_2, σ_2, τ_2) => some (a_2, σ_2, τ_2))
set_option maxHeartbeats 4000000 in
set_option maxRecDepth 20000 in
theorem ctX0_moved {l : Launch} {Γ : jp_G} {Z : Nat → Option jp_Sh} (hX0 : jp_hF Z) {p1 : Int32} {p2 : Int32} {σ σ0 : jp_I} {τ τ0 : jp_J} {r0 : Int32} (hf : fX0_moved p1 p2 σ τ = some (r0, σ0, τ0)) : jp_M l yX0_moved cX0_moved 3 (some .int) 1 21 Γ Z σ τ [.ref (Γ.2.2.1 2), .int p1, .int p2] (some (.int r0)) σ0 τ0 := by
  refine jp_mk (lv := [(0, .ref (Γ.2.2.1 2)), (1, .int p1), (2, .int p2)]) (by decide) (Nat.le_of_ble_eq_true rfl) rfl fun p e s m args below meth c B => ?_
  obtain ⟨hx, hb, hml, hown, hts, hr, hlk, hE⟩ := id B
  unfold fX0_moved at hf
  intro H locs ls hP hS hl
  refine lv_iload_n hx hb dX0_moved_0 rfl (lv_at hl 1 rfl) ?_
  refine lv_iconst (v := -1) hx hb dX0_moved_1 (by decide) ?_
  refine lv_icmp_ne (tgt := 9) hx hb dX0_moved_2 (by decide) (fun c_1 => ?_) (fun c_1 => ?_)
  · rw [if_neg c_1] at hf
    refine lv_aload_n hx hb dX0_moved_9 rfl (lv_at hl 0 rfl) ?_
    refine jp_getr (k := 1) B hP hX0.1 rfl rfl (by decide) jp_fX0 rfl mw_60 dX0_moved_10 ?_
    refine lv_iload_n hx hb dX0_moved_13 rfl (lv_at hl 1 rfl) ?_
    refine lv_iconst (v := 5) hx hb dX0_moved_14 (by decide) ?_
    refine lv_imul hx hb dX0_moved_15 ?_
    refine lv_iload_n hx hb dX0_moved_16 rfl (lv_at hl 2 rfl) ?_
    refine lv_iadd hx hb dX0_moved_17 ?_
    obtain ⟨⟨a_2, σ_2, τ_2⟩, h_2, hf⟩ := jp_bind hf
    dsimp only at hf
    refine jp_callSN (rest := []) B hP hS hl (ctX7_read hX0.2.2.1 h_2) mw_85 nw_188 mw_84 mw_2 ddX7_read ⟨Nat.le_of_ble_eq_true rfl, Nat.le_of_ble_eq_true rfl⟩ ⟨Nat.zero_le _, Nat.zero_le _⟩ rfl (Nat.le_of_ble_eq_true rfl) dX0_moved_18 (fun H locs hP hS => ?_)
    exact jp_endi B hP hS dX0_moved_21 (jp_inj hf)
  · rw [if_pos c_1] at hf
    refine lv_iconst (v := -1) hx hb dX0_moved_5 (by decide) ?_
    refine lv_goto (tgt := 21) hx hb dX0_moved_6 (by decide) ?_
    exact jp_endi B hP hS dX0_moved_21 (jp_inj hf)
end
-- X0_spread
section
variable {p : Program} {l : Launch} {e : Jvm.Env} {s : State} {m : MethodId} {args : Array Value} {below : List Frame} {meth : Method} {c : Code} {Γ : jp_G} {Z : Nat → Option jp_Sh} {r0 : Int32} {σ0 : jp_I} {τ0 : jp_J}
def bX0_spread_71_in5 (x1 : Int32) (x3 : Int32) (x4 : Int32) (σ : jp_I) (τ : jp_J) : Option (Sum (Int32 × Int32) (Sum (Int32) Int32) × jp_I × jp_J) :=
  some (.inl (x3, x4 + 1), σ, τ)
set_option maxHeartbeats 4000000 in
set_option maxRecDepth 20000 in
theorem wbX0_spread_71_in5 (B : jp_B Γ p s m args meth c RX0 cX0_spread 6 (some .int)) (hX0 : jp_hF Z) {x1 : Int32} {x3 : Int32} {x4 : Int32} {σ : jp_I} {τ : jp_J} {q : Sum (Int32 × Int32) (Sum (Int32) Int32) × jp_I × jp_J} (hf : bX0_spread_71_in5 x1 x3 x4 σ τ = some q) (kb : ∀ v : Int32 × Int32, q.1 = .inl v → jp_at p l e (jp_R 2 43) s m args below meth c (MQ below (jp_Q Γ Z (some (.int r0)) σ0 τ0) args s 0 0 (jp_A Γ)) 6 Γ Z 5 [(0, .ref (Γ.2.2.1 2)), (1, .int x1), (3, .int v.1), (4, .int v.2)] [] q.2.1 q.2.2) (kx : ∀ v : Int32, q.1 = .inr (.inl v) → jp_at p l e (jp_R 2 43) s m args below meth c (MQ below (jp_Q Γ Z (some (.int r0)) σ0 τ0) args s 0 0 (jp_A Γ)) 6 Γ Z 77 [(3, .int v)] [] q.2.1 q.2.2) (kr : ∀ v : Int32, q.1 = .inr (.inr v) → r0 = v ∧ σ0 = q.2.1 ∧ τ0 = q.2.2) : jp_at p l e (jp_R 2 43) s m args below meth c (MQ below (jp_Q Γ Z (some (.int r0)) σ0 τ0) args s 0 0 (jp_A Γ)) 6 Γ Z 71 [(0, .ref (Γ.2.2.1 2)), (1, .int x1), (3, .int x3), (4, .int x4)] [] σ τ := by
  obtain ⟨hx, hb, hml, hown, hts, hr, hlk, hE⟩ := id B
  unfold bX0_spread_71_in5 at hf
  intro H locs ls hP hS hl
  refine lv_iinc (v := x4 + 1) (lv' := [(4, .int (x4 + 1)), (0, .ref (Γ.2.2.1 2)), (1, .int x1), (3, .int x3)]) hx hb dX0_spread_71 hl (k := 3) rfl rfl (by decide) rfl (fun ls hl => ?_)
  refine lv_goto (tgt := 5) hx hb dX0_spread_74 (by decide) ?_
  obtain rfl := Option.some.inj hf
  exact kb _ rfl H locs ls hP hS (lv_sub hl [1, 2, 3, 0] rfl)
def sX0_spread_5 (x1 : Int32) (x3 : Int32) (x4 : Int32) (σ : jp_I) (τ : jp_J) : Option (Sum (Int32 × Int32) (Sum (Int32) Int32) × jp_I × jp_J) :=
  if 5 ≤ x4 then (some (.inr (.inl x3), σ, τ)) else ((fX0_moved x1 x4 σ τ).bind fun (a_2, σ_2, τ_2) => if a_2 = (-1) then (bX0_spread_71_in5 x1 x3 x4 σ_2 τ_2) else ((fX7_read 7 36 a_2 σ_2 τ_2).bind fun (a_4, σ_4, τ_4) => if a_4 = (-1) then ((fX7_read 7 36 x1 σ_4 τ_4).bind fun (a_6, σ_6, τ_6) => (fX7_write 7 36 a_2 (a_6 + 1) σ_6 τ_6).bind fun (a_7, σ_7, τ_7) => (fX7_write 8 36 x3 a_2 σ_7 τ_7).bind fun (a_8, σ_8, τ_8) => bX0_spread_71_in5 x1 (x3 + 1) x4 σ_8 τ_8) else (bX0_spread_71_in5 x1 x3 x4 σ_4 τ_4)))
set_option maxHeartbeats 4000000 in
set_option maxRecDepth 20000 in
theorem wsX0_spread_5 (B : jp_B Γ p s m args meth c RX0 cX0_spread 6 (some .int)) (hX0 : jp_hF Z) {x1 : Int32} {x3 : Int32} {x4 : Int32} {σ : jp_I} {τ : jp_J} {q : Sum (Int32 × Int32) (Sum (Int32) Int32) × jp_I × jp_J} (hf : sX0_spread_5 x1 x3 x4 σ τ = some q) (kb : ∀ v : Int32 × Int32, q.1 = .inl v → jp_at p l e (jp_R 2 43) s m args below meth c (MQ below (jp_Q Γ Z (some (.int r0)) σ0 τ0) args s 0 0 (jp_A Γ)) 6 Γ Z 5 [(0, .ref (Γ.2.2.1 2)), (1, .int x1), (3, .int v.1), (4, .int v.2)] [] q.2.1 q.2.2) (kx : ∀ v : Int32, q.1 = .inr (.inl v) → jp_at p l e (jp_R 2 43) s m args below meth c (MQ below (jp_Q Γ Z (some (.int r0)) σ0 τ0) args s 0 0 (jp_A Γ)) 6 Γ Z 77 [(3, .int v)] [] q.2.1 q.2.2) (kr : ∀ v : Int32, q.1 = .inr (.inr v) → r0 = v ∧ σ0 = q.2.1 ∧ τ0 = q.2.2) : jp_at p l e (jp_R 2 43) s m args below meth c (MQ below (jp_Q Γ Z (some (.int r0)) σ0 τ0) args s 0 0 (jp_A Γ)) 6 Γ Z 5 [(0, .ref (Γ.2.2.1 2)), (1, .int x1), (3, .int x3), (4, .int x4)] [] σ τ := by
  obtain ⟨hx, hb, hml, hown, hts, hr, hlk, hE⟩ := id B
  unfold sX0_spread_5 at hf
  intro H locs ls hP hS hl
  refine lv_iload hx hb dX0_spread_5 (lv_at hl 3 rfl) ?_
  refine lv_iconst (v := 5) hx hb dX0_spread_7 (by decide) ?_
  refine lv_icmp_ge (tgt := 77) hx hb dX0_spread_8 (by decide) (fun c_1 => ?_) (fun c_1 => ?_)
  · rw [if_pos c_1] at hf
    obtain rfl := Option.some.inj hf
    exact kx _ rfl H locs ls hP hS (lv_sub hl [2] rfl)
  · rw [if_neg c_1] at hf
    refine lv_aload_n hx hb dX0_spread_11 rfl (lv_at hl 0 rfl) ?_
    refine lv_iload_n hx hb dX0_spread_12 rfl (lv_at hl 1 rfl) ?_
    refine lv_iload hx hb dX0_spread_13 (lv_at hl 3 rfl) ?_
    obtain ⟨⟨a_2, σ_2, τ_2⟩, h_2, hf⟩ := jp_bind hf
    dsimp only at hf
    refine jp_callV (rest := []) B hP hS hl (ctX0_moved ⟨hX0.1, hX0.2.1, hX0.2.2.1, hX0.2.2.2.1, hX0.2.2.2.2⟩ h_2) hX0.1 rfl mw_308 mw_521 mw_306 mw_307 mw_49 ddX0_moved ⟨Nat.le_of_ble_eq_true rfl, Nat.le_of_ble_eq_true rfl⟩ ⟨Nat.zero_le _, Nat.zero_le _⟩ rfl (Nat.le_of_ble_eq_true rfl) dX0_spread_15 (fun H locs hP hS => ?_)
    refine lv_istore (lv' := [(5, .int a_2), (0, .ref (Γ.2.2.1 2)), (1, .int x1), (3, .int x3), (4, .int x4)]) hx hb dX0_spread_18 hl (by decide) rfl (fun ls hl => ?_)
    refine lv_iload hx hb dX0_spread_20 (lv_at hl 0 rfl) ?_
    refine lv_iconst (v := -1) hx hb dX0_spread_22 (by decide) ?_
    refine lv_icmp_eq (tgt := 71) hx hb dX0_spread_23 (by decide) (fun c_3 => ?_) (fun c_3 => ?_)
    · rw [if_pos c_3] at hf
      exact wbX0_spread_71_in5 B hX0 hf kb kx kr H locs ls hP hS (lv_sub hl [1, 2, 3, 4] rfl)
    · rw [if_neg c_3] at hf
      refine lv_aload_n hx hb dX0_spread_26 rfl (lv_at hl 1 rfl) ?_
      refine jp_getr (k := 2) B hP hX0.1 rfl rfl (by decide) jp_fX0 rfl mw_61 dX0_spread_27 ?_
      refine lv_iload hx hb dX0_spread_30 (lv_at hl 0 rfl) ?_
      obtain ⟨⟨a_4, σ_4, τ_4⟩, h_4, hf⟩ := jp_bind hf
      dsimp only at hf
      refine jp_callSN (rest := []) B hP hS hl (ctX7_read hX0.2.2.2.1 h_4) mw_85 nw_188 mw_84 mw_2 ddX7_read ⟨Nat.le_of_ble_eq_true rfl, Nat.le_of_ble_eq_true rfl⟩ ⟨Nat.zero_le _, Nat.zero_le _⟩ rfl (Nat.le_of_ble_eq_true rfl) dX0_spread_32 (fun H locs hP hS => ?_)
      refine lv_iconst (v := -1) hx hb dX0_spread_35 (by decide) ?_
      refine lv_icmp_ne (tgt := 71) hx hb dX0_spread_36 (by decide) (fun c_5 => ?_) (fun c_5 => ?_)
      · rw [if_neg c_5] at hf
        exact wbX0_spread_71_in5 B hX0 hf kb kx kr H locs ls hP hS (lv_sub hl [1, 2, 3, 4] rfl)
      · rw [if_pos c_5] at hf
        refine lv_aload_n hx hb dX0_spread_39 rfl (lv_at hl 1 rfl) ?_
        refine jp_getr (k := 2) B hP hX0.1 rfl rfl (by decide) jp_fX0 rfl mw_61 dX0_spread_40 ?_
        refine lv_iload hx hb dX0_spread_43 (lv_at hl 0 rfl) ?_
        refine lv_aload_n hx hb dX0_spread_45 rfl (lv_at hl 1 rfl) ?_
        refine jp_getr (k := 2) B hP hX0.1 rfl rfl (by decide) jp_fX0 rfl mw_61 dX0_spread_46 ?_
        refine lv_iload_n hx hb dX0_spread_49 rfl (lv_at hl 2 rfl) ?_
        obtain ⟨⟨a_6, σ_6, τ_6⟩, h_6, hf⟩ := jp_bind hf
        dsimp only at hf
        refine jp_callSN (rest := [.int a_2, .ref (Γ.2.2.1 7)]) B hP hS hl (ctX7_read hX0.2.2.2.1 h_6) mw_85 nw_188 mw_84 mw_2 ddX7_read ⟨Nat.le_of_ble_eq_true rfl, Nat.le_of_ble_eq_true rfl⟩ ⟨Nat.zero_le _, Nat.zero_le _⟩ rfl (Nat.le_of_ble_eq_true rfl) dX0_spread_50 (fun H locs hP hS => ?_)
        refine lv_iconst (v := 1) hx hb dX0_spread_53 (by decide) ?_
        refine lv_iadd hx hb dX0_spread_54 ?_
        obtain ⟨⟨a_7, σ_7, τ_7⟩, h_7, hf⟩ := jp_bind hf
        dsimp only at hf
        refine jp_callSN (rest := []) B hP hS hl (ctX7_write hX0.2.2.2.1 h_7) mw_95 nw_201 mw_94 mw_2 ddX7_write ⟨Nat.le_of_ble_eq_true rfl, Nat.le_of_ble_eq_true rfl⟩ ⟨Nat.zero_le _, Nat.zero_le _⟩ rfl (Nat.le_of_ble_eq_true rfl) dX0_spread_55 (fun H locs hP hS => ?_)
        refine lv_aload_n hx hb dX0_spread_58 rfl (lv_at hl 1 rfl) ?_
        refine jp_getr (k := 3) B hP hX0.1 rfl rfl (by decide) jp_fX0 rfl mw_62 dX0_spread_59 ?_
        refine lv_iload_n hx hb dX0_spread_62 rfl (lv_at hl 3 rfl) ?_
        refine lv_iload hx hb dX0_spread_63 (lv_at hl 0 rfl) ?_
        obtain ⟨⟨a_8, σ_8, τ_8⟩, h_8, hf⟩ := jp_bind hf
        dsimp only at hf
        refine jp_callSN (rest := []) B hP hS hl (ctX7_write hX0.2.2.2.2 h_8) mw_95 nw_201 mw_94 mw_2 ddX7_write ⟨Nat.le_of_ble_eq_true rfl, Nat.le_of_ble_eq_true rfl⟩ ⟨Nat.zero_le _, Nat.zero_le _⟩ rfl (Nat.le_of_ble_eq_true rfl) dX0_spread_65 (fun H locs hP hS => ?_)
        refine lv_iinc (v := x3 + 1) (lv' := [(3, .int (x3 + 1)), (5, .int a_2), (0, .ref (Γ.2.2.1 2)), (1, .int x1), (4, .int x4)]) hx hb dX0_spread_68 hl (k := 3) rfl rfl (by decide) rfl (fun ls hl => ?_)
        exact wbX0_spread_71_in5 B hX0 hf kb kx kr H locs ls hP hS (lv_sub hl [2, 3, 0, 4] rfl)
set_option maxHeartbeats 4000000 in
theorem lX0_spread_5 (B : jp_B Γ p s m args meth c RX0 cX0_spread 6 (some .int)) (hX0 : jp_hF Z) {x1 : Int32} {e1 : Sum (Int32) Int32} {σ1 : jp_I} {τ1 : jp_J} (kx : ∀ v : Int32, e1 = .inl v → jp_at p l e (jp_R 2 43) s m args below meth c (MQ below (jp_Q Γ Z (some (.int r0)) σ0 τ0) args s 0 0 (jp_A Γ)) 6 Γ Z 77 [(3, .int v)] [] σ1 τ1) (kr : ∀ v : Int32, e1 = .inr v → r0 = v ∧ σ0 = σ1 ∧ τ0 = τ1) : ∀ (k : Nat) (v : Int32 × Int32) (σ : jp_I) (τ : jp_J), jp_loop (fun q : (Int32 × Int32) × jp_I × jp_J => sX0_spread_5 x1 q.1.1 q.1.2 q.2.1 q.2.2) k (v, σ, τ) = some (e1, σ1, τ1) → jp_at p l e (jp_R 2 43) s m args below meth c (MQ below (jp_Q Γ Z (some (.int r0)) σ0 τ0) args s 0 0 (jp_A Γ)) 6 Γ Z 5 [(0, .ref (Γ.2.2.1 2)), (1, .int x1), (3, .int v.1), (4, .int v.2)] [] σ τ := by
  refine jp_loopI (P := fun (v : Int32 × Int32) (σ : jp_I) (τ : jp_J) => jp_at p l e (jp_R 2 43) s m args below meth c (MQ below (jp_Q Γ Z (some (.int r0)) σ0 τ0) args s 0 0 (jp_A Γ)) 6 Γ Z 5 [(0, .ref (Γ.2.2.1 2)), (1, .int x1), (3, .int v.1), (4, .int v.2)] [] σ τ) (fun v σ τ q hq hbk hen => ?_)
  exact wsX0_spread_5 B hX0 hq (fun v' hv => hbk v' hv) (fun x hv => by obtain ⟨h1, h2, h3⟩ := hen _ hv; rw [h2, h3]; exact kx x h1.symm) (fun r hv => by obtain ⟨h1, h2, h3⟩ := hen _ hv; rw [h2, h3]; exact kr r h1.symm)
def fX0_spread (p1 : Int32) (p2 : Int32) (σ : jp_I) (τ : jp_J) : Option (Int32 × jp_I × jp_J) :=
  (jp_loop (fun q : (Int32 × Int32) × jp_I × jp_J => sX0_spread_5 p1 q.1.1 q.1.2 q.2.1 q.2.2) jp_F ((p2, 0), σ, τ)).bind fun (e_1, σ_1, τ_1) => match e_1 with
    | .inl v_1 => (some (v_1, σ_1, τ_1))
    | .inr r_1 => some (r_1, σ_1, τ_1)
set_option maxHeartbeats 4000000 in
set_option maxRecDepth 20000 in
theorem ctX0_spread {l : Launch} {Γ : jp_G} {Z : Nat → Option jp_Sh} (hX0 : jp_hF Z) {p1 : Int32} {p2 : Int32} {σ σ0 : jp_I} {τ τ0 : jp_J} {r0 : Int32} (hf : fX0_spread p1 p2 σ τ = some (r0, σ0, τ0)) : jp_M l yX0_spread cX0_spread 6 (some .int) 2 43 Γ Z σ τ [.ref (Γ.2.2.1 2), .int p1, .int p2] (some (.int r0)) σ0 τ0 := by
  refine jp_mk (lv := [(0, .ref (Γ.2.2.1 2)), (1, .int p1), (2, .int p2)]) (by decide) (Nat.le_of_ble_eq_true rfl) rfl fun p e s m args below meth c B => ?_
  obtain ⟨hx, hb, hml, hown, hts, hr, hlk, hE⟩ := id B
  unfold fX0_spread at hf
  intro H locs ls hP hS hl
  refine lv_iload_n hx hb dX0_spread_0 rfl (lv_at hl 2 rfl) ?_
  refine lv_istore_n (lv' := [(3, .int p2), (0, .ref (Γ.2.2.1 2)), (1, .int p1), (2, .int p2)]) hx hb dX0_spread_1 rfl hl (by decide) rfl (fun ls hl => ?_)
  refine lv_iconst (v := 0) hx hb dX0_spread_2 (by decide) ?_
  refine lv_istore (lv' := [(4, .int 0), (3, .int p2), (0, .ref (Γ.2.2.1 2)), (1, .int p1), (2, .int p2)]) hx hb dX0_spread_3 hl (by decide) rfl (fun ls hl => ?_)
  obtain ⟨⟨e_1, σ_1, τ_1⟩, h_1, hf⟩ := jp_bind hf
  refine lX0_spread_5 (r0 := r0) B hX0 (x1 := p1) (fun v_1 k_1 => ?_) (fun r_1 k_1 => ?_) _ _ _ _ h_1 H locs ls hP hS (lv_sub hl [2, 3, 1, 0] rfl)
  · subst k_1
    dsimp only at hf
    intro H locs ls hP hS hl
    refine lv_iload_n hx hb dX0_spread_77 rfl (lv_at hl 0 rfl) ?_
    exact jp_endi B hP hS dX0_spread_78 (jp_inj hf)
  · subst k_1
    dsimp only at hf
    exact jp_inj hf
end
-- X0_movesBetween
section
variable {p : Program} {l : Launch} {e : Jvm.Env} {s : State} {m : MethodId} {args : Array Value} {below : List Frame} {meth : Method} {c : Code} {Γ : jp_G} {Z : Nat → Option jp_Sh} {r0 : Int32} {σ0 : jp_I} {τ0 : jp_J}
def sX0_movesBetween_31 (x2 : Int32) (x3 : Int32) (x4 : Int32) (σ : jp_I) (τ : jp_J) : Option (Sum (Int32 × Int32) (Sum (Unit) Int32) × jp_I × jp_J) :=
  if x3 ≤ x4 then (some (.inr (.inl ()), σ, τ)) else (if 36 ≤ x4 then (some (.inr (.inl ()), σ, τ)) else (if jp_ok x4 36 = true then (fX0_spread (σ 8 x4.toNatClampNeg) x3 σ τ).bind fun (a_4, σ_4, τ_4) => some (.inl (a_4, x4 + 1), σ_4, τ_4) else none))
set_option maxHeartbeats 4000000 in
set_option maxRecDepth 20000 in
theorem wsX0_movesBetween_31 (B : jp_B Γ p s m args meth c RX0 cX0_movesBetween 5 (some .int)) (hX0 : jp_hF Z) {x2 : Int32} {x3 : Int32} {x4 : Int32} {σ : jp_I} {τ : jp_J} {q : Sum (Int32 × Int32) (Sum (Unit) Int32) × jp_I × jp_J} (hf : sX0_movesBetween_31 x2 x3 x4 σ τ = some q) (kb : ∀ v : Int32 × Int32, q.1 = .inl v → jp_at p l e (jp_R 3 68) s m args below meth c (MQ below (jp_Q Γ Z (some (.int r0)) σ0 τ0) args s 0 0 (jp_A Γ)) 5 Γ Z 31 [(0, .ref (Γ.2.2.1 2)), (2, .int x2), (3, .int v.1), (4, .int v.2)] [] q.2.1 q.2.2) (kx : ∀ v : Unit, q.1 = .inr (.inl v) → jp_at p l e (jp_R 3 68) s m args below meth c (MQ below (jp_Q Γ Z (some (.int r0)) σ0 τ0) args s 0 0 (jp_A Γ)) 5 Γ Z 63 [(0, .ref (Γ.2.2.1 2)), (2, .int x2)] [] q.2.1 q.2.2) (kr : ∀ v : Int32, q.1 = .inr (.inr v) → r0 = v ∧ σ0 = q.2.1 ∧ τ0 = q.2.2) : jp_at p l e (jp_R 3 68) s m args below meth c (MQ below (jp_Q Γ Z (some (.int r0)) σ0 τ0) args s 0 0 (jp_A Γ)) 5 Γ Z 31 [(0, .ref (Γ.2.2.1 2)), (2, .int x2), (3, .int x3), (4, .int x4)] [] σ τ := by
  obtain ⟨hx, hb, hml, hown, hts, hr, hlk, hE⟩ := id B
  unfold sX0_movesBetween_31 at hf
  intro H locs ls hP hS hl
  refine lv_iload hx hb dX0_movesBetween_31 (lv_at hl 3 rfl) ?_
  refine lv_iload_n hx hb dX0_movesBetween_33 rfl (lv_at hl 2 rfl) ?_
  refine lv_icmp_ge (tgt := 63) hx hb dX0_movesBetween_34 (by decide) (fun c_1 => ?_) (fun c_1 => ?_)
  · rw [if_pos c_1] at hf
    obtain rfl := Option.some.inj hf
    exact kx _ rfl H locs ls hP hS (lv_sub hl [0, 1] rfl)
  · rw [if_neg c_1] at hf
    refine lv_iload hx hb dX0_movesBetween_37 (lv_at hl 3 rfl) ?_
    refine lv_bipush (v := 36) hx hb dX0_movesBetween_39 (by decide) ?_
    refine lv_icmp_ge (tgt := 63) hx hb dX0_movesBetween_41 (by decide) (fun c_2 => ?_) (fun c_2 => ?_)
    · rw [if_pos c_2] at hf
      obtain rfl := Option.some.inj hf
      exact kx _ rfl H locs ls hP hS (lv_sub hl [0, 1] rfl)
    · rw [if_neg c_2] at hf
      refine lv_aload_n hx hb dX0_movesBetween_44 rfl (lv_at hl 0 rfl) ?_
      refine lv_aload_n hx hb dX0_movesBetween_45 rfl (lv_at hl 0 rfl) ?_
      refine jp_getr (k := 3) B hP hX0.1 rfl rfl (by decide) jp_fX0 rfl mw_62 dX0_movesBetween_46 ?_
      refine lv_iload hx hb dX0_movesBetween_49 (lv_at hl 3 rfl) ?_
      obtain ⟨g_3, hf⟩ := jp_if hf
      refine jp_iald B hP hX0.2.2.2.2 (jp_ok_vp g_3) dX0_movesBetween_51 ?_
      refine lv_iload_n hx hb dX0_movesBetween_52 rfl (lv_at hl 2 rfl) ?_
      obtain ⟨⟨a_4, σ_4, τ_4⟩, h_4, hf⟩ := jp_bind hf
      dsimp only at hf
      refine jp_callV (rest := []) B hP hS hl (ctX0_spread ⟨hX0.1, hX0.2.1, hX0.2.2.1, hX0.2.2.2.1, hX0.2.2.2.2⟩ h_4) hX0.1 rfl mw_520 mw_517 mw_518 mw_519 mw_49 ddX0_spread ⟨Nat.le_of_ble_eq_true rfl, Nat.le_of_ble_eq_true rfl⟩ ⟨Nat.zero_le _, Nat.zero_le _⟩ rfl (Nat.le_of_ble_eq_true rfl) dX0_movesBetween_53 (fun H locs hP hS => ?_)
      refine lv_istore_n (lv' := [(3, .int a_4), (0, .ref (Γ.2.2.1 2)), (2, .int x2), (4, .int x4)]) hx hb dX0_movesBetween_56 rfl hl (by decide) rfl (fun ls hl => ?_)
      refine lv_iinc (v := x4 + 1) (lv' := [(4, .int (x4 + 1)), (3, .int a_4), (0, .ref (Γ.2.2.1 2)), (2, .int x2)]) hx hb dX0_movesBetween_57 hl (k := 3) rfl rfl (by decide) rfl (fun ls hl => ?_)
      refine lv_goto (tgt := 31) hx hb dX0_movesBetween_60 (by decide) ?_
      obtain rfl := Option.some.inj hf
      exact kb _ rfl H locs ls hP hS (lv_sub hl [2, 3, 1, 0] rfl)
set_option maxHeartbeats 4000000 in
theorem lX0_movesBetween_31 (B : jp_B Γ p s m args meth c RX0 cX0_movesBetween 5 (some .int)) (hX0 : jp_hF Z) {x2 : Int32} {e1 : Sum (Unit) Int32} {σ1 : jp_I} {τ1 : jp_J} (kx : ∀ v : Unit, e1 = .inl v → jp_at p l e (jp_R 3 68) s m args below meth c (MQ below (jp_Q Γ Z (some (.int r0)) σ0 τ0) args s 0 0 (jp_A Γ)) 5 Γ Z 63 [(0, .ref (Γ.2.2.1 2)), (2, .int x2)] [] σ1 τ1) (kr : ∀ v : Int32, e1 = .inr v → r0 = v ∧ σ0 = σ1 ∧ τ0 = τ1) : ∀ (k : Nat) (v : Int32 × Int32) (σ : jp_I) (τ : jp_J), jp_loop (fun q : (Int32 × Int32) × jp_I × jp_J => sX0_movesBetween_31 x2 q.1.1 q.1.2 q.2.1 q.2.2) k (v, σ, τ) = some (e1, σ1, τ1) → jp_at p l e (jp_R 3 68) s m args below meth c (MQ below (jp_Q Γ Z (some (.int r0)) σ0 τ0) args s 0 0 (jp_A Γ)) 5 Γ Z 31 [(0, .ref (Γ.2.2.1 2)), (2, .int x2), (3, .int v.1), (4, .int v.2)] [] σ τ := by
  refine jp_loopI (P := fun (v : Int32 × Int32) (σ : jp_I) (τ : jp_J) => jp_at p l e (jp_R 3 68) s m args below meth c (MQ below (jp_Q Γ Z (some (.int r0)) σ0 τ0) args s 0 0 (jp_A Γ)) 5 Γ Z 31 [(0, .ref (Γ.2.2.1 2)), (2, .int x2), (3, .int v.1), (4, .int v.2)] [] σ τ) (fun v σ τ q hq hbk hen => ?_)
  exact wsX0_movesBetween_31 B hX0 hq (fun v' hv => hbk v' hv) (fun x hv => by obtain ⟨h1, h2, h3⟩ := hen _ hv; rw [h2, h3]; exact kx x h1.symm) (fun r hv => by obtain ⟨h1, h2, h3⟩ := hen _ hv; rw [h2, h3]; exact kr r h1.symm)
def bX0_movesBetween_63 (x2 : Int32) (σ : jp_I) (τ : jp_J) : Option (Int32 × jp_I × jp_J) :=
  (fX7_read 7 36 x2 σ τ).bind fun (a_1, σ_1, τ_1) => some (a_1, σ_1, τ_1)
set_option maxHeartbeats 4000000 in
set_option maxRecDepth 20000 in
theorem wbX0_movesBetween_63 (B : jp_B Γ p s m args meth c RX0 cX0_movesBetween 5 (some .int)) (hX0 : jp_hF Z) {x2 : Int32} {σ : jp_I} {τ : jp_J} (hf : bX0_movesBetween_63 x2 σ τ = some (r0, σ0, τ0)) : jp_at p l e (jp_R 3 68) s m args below meth c (MQ below (jp_Q Γ Z (some (.int r0)) σ0 τ0) args s 0 0 (jp_A Γ)) 5 Γ Z 63 [(0, .ref (Γ.2.2.1 2)), (2, .int x2)] [] σ τ := by
  obtain ⟨hx, hb, hml, hown, hts, hr, hlk, hE⟩ := id B
  unfold bX0_movesBetween_63 at hf
  intro H locs ls hP hS hl
  refine lv_aload_n hx hb dX0_movesBetween_63 rfl (lv_at hl 0 rfl) ?_
  refine jp_getr (k := 2) B hP hX0.1 rfl rfl (by decide) jp_fX0 rfl mw_61 dX0_movesBetween_64 ?_
  refine lv_iload_n hx hb dX0_movesBetween_67 rfl (lv_at hl 1 rfl) ?_
  obtain ⟨⟨a_1, σ_1, τ_1⟩, h_1, hf⟩ := jp_bind hf
  dsimp only at hf
  refine jp_callSN (rest := []) B hP hS hl (ctX7_read hX0.2.2.2.1 h_1) mw_85 nw_188 mw_84 mw_2 ddX7_read ⟨Nat.le_of_ble_eq_true rfl, Nat.le_of_ble_eq_true rfl⟩ ⟨Nat.zero_le _, Nat.zero_le _⟩ rfl (Nat.le_of_ble_eq_true rfl) dX0_movesBetween_68 (fun H locs hP hS => ?_)
  exact jp_endi B hP hS dX0_movesBetween_71 (jp_inj hf)
def fX0_movesBetween (p1 : Int32) (p2 : Int32) (σ : jp_I) (τ : jp_J) : Option (Int32 × jp_I × jp_J) :=
  (fJ7_fill_53178 7 36 (-1) σ τ).bind fun (a_1, σ_1, τ_1) => (fX7_write 7 36 p1 0 σ_1 τ_1).bind fun (a_2, σ_2, τ_2) => (fX7_write 8 36 0 p1 σ_2 τ_2).bind fun (a_3, σ_3, τ_3) => (jp_loop (fun q : (Int32 × Int32) × jp_I × jp_J => sX0_movesBetween_31 p2 q.1.1 q.1.2 q.2.1 q.2.2) jp_F ((1, 0), σ_3, τ_3)).bind fun (e_4, σ_4, τ_4) => match e_4 with
    | .inl _ => (bX0_movesBetween_63 p2 σ_4 τ_4)
    | .inr r_4 => some (r_4, σ_4, τ_4)
set_option maxHeartbeats 4000000 in
set_option maxRecDepth 20000 in
theorem ctX0_movesBetween {l : Launch} {Γ : jp_G} {Z : Nat → Option jp_Sh} (hX0 : jp_hF Z) {p1 : Int32} {p2 : Int32} {σ σ0 : jp_I} {τ τ0 : jp_J} {r0 : Int32} (hf : fX0_movesBetween p1 p2 σ τ = some (r0, σ0, τ0)) : jp_M l yX0_movesBetween cX0_movesBetween 5 (some .int) 3 68 Γ Z σ τ [.ref (Γ.2.2.1 2), .int p1, .int p2] (some (.int r0)) σ0 τ0 := by
  refine jp_mk (lv := [(0, .ref (Γ.2.2.1 2)), (1, .int p1), (2, .int p2)]) (by decide) (Nat.le_of_ble_eq_true rfl) rfl fun p e s m args below meth c B => ?_
  obtain ⟨hx, hb, hml, hown, hts, hr, hlk, hE⟩ := id B
  unfold fX0_movesBetween at hf
  intro H locs ls hP hS hl
  refine lv_aload_n hx hb dX0_movesBetween_0 rfl (lv_at hl 0 rfl) ?_
  refine jp_getr (k := 2) B hP hX0.1 rfl rfl (by decide) jp_fX0 rfl mw_61 dX0_movesBetween_1 ?_
  refine lv_iconst (v := -1) hx hb dX0_movesBetween_4 (by decide) ?_
  obtain ⟨⟨a_1, σ_1, τ_1⟩, h_1, hf⟩ := jp_bind hf
  dsimp only at hf
  refine jp_callS (rest := []) B hP hS hl (ctJ7_fill_53178 hX0.2.2.2.1 h_1) mw_75 mw_72 mw_73 mw_74 ddJ7_fill_53178 ⟨Nat.le_of_ble_eq_true rfl, Nat.le_of_ble_eq_true rfl⟩ ⟨Nat.zero_le _, Nat.zero_le _⟩ rfl (Nat.le_of_ble_eq_true rfl) dX0_movesBetween_5 (fun H locs hP hS => ?_)
  refine lv_aload_n hx hb dX0_movesBetween_8 rfl (lv_at hl 0 rfl) ?_
  refine jp_getr (k := 2) B hP hX0.1 rfl rfl (by decide) jp_fX0 rfl mw_61 dX0_movesBetween_9 ?_
  refine lv_iload_n hx hb dX0_movesBetween_12 rfl (lv_at hl 1 rfl) ?_
  refine lv_iconst (v := 0) hx hb dX0_movesBetween_13 (by decide) ?_
  obtain ⟨⟨a_2, σ_2, τ_2⟩, h_2, hf⟩ := jp_bind hf
  dsimp only at hf
  refine jp_callSN (rest := []) B hP hS hl (ctX7_write hX0.2.2.2.1 h_2) mw_95 nw_201 mw_94 mw_2 ddX7_write ⟨Nat.le_of_ble_eq_true rfl, Nat.le_of_ble_eq_true rfl⟩ ⟨Nat.zero_le _, Nat.zero_le _⟩ rfl (Nat.le_of_ble_eq_true rfl) dX0_movesBetween_14 (fun H locs hP hS => ?_)
  refine lv_aload_n hx hb dX0_movesBetween_17 rfl (lv_at hl 0 rfl) ?_
  refine jp_getr (k := 3) B hP hX0.1 rfl rfl (by decide) jp_fX0 rfl mw_62 dX0_movesBetween_18 ?_
  refine lv_iconst (v := 0) hx hb dX0_movesBetween_21 (by decide) ?_
  refine lv_iload_n hx hb dX0_movesBetween_22 rfl (lv_at hl 1 rfl) ?_
  obtain ⟨⟨a_3, σ_3, τ_3⟩, h_3, hf⟩ := jp_bind hf
  dsimp only at hf
  refine jp_callSN (rest := []) B hP hS hl (ctX7_write hX0.2.2.2.2 h_3) mw_95 nw_201 mw_94 mw_2 ddX7_write ⟨Nat.le_of_ble_eq_true rfl, Nat.le_of_ble_eq_true rfl⟩ ⟨Nat.zero_le _, Nat.zero_le _⟩ rfl (Nat.le_of_ble_eq_true rfl) dX0_movesBetween_23 (fun H locs hP hS => ?_)
  refine lv_iconst (v := 1) hx hb dX0_movesBetween_26 (by decide) ?_
  refine lv_istore_n (lv' := [(3, .int 1), (0, .ref (Γ.2.2.1 2)), (1, .int p1), (2, .int p2)]) hx hb dX0_movesBetween_27 rfl hl (by decide) rfl (fun ls hl => ?_)
  refine lv_iconst (v := 0) hx hb dX0_movesBetween_28 (by decide) ?_
  refine lv_istore (lv' := [(4, .int 0), (3, .int 1), (0, .ref (Γ.2.2.1 2)), (1, .int p1), (2, .int p2)]) hx hb dX0_movesBetween_29 hl (by decide) rfl (fun ls hl => ?_)
  obtain ⟨⟨e_4, σ_4, τ_4⟩, h_4, hf⟩ := jp_bind hf
  refine lX0_movesBetween_31 (r0 := r0) B hX0 (x2 := p2) (fun v_4 k_4 => ?_) (fun r_4 k_4 => ?_) _ _ _ _ h_4 H locs ls hP hS (lv_sub hl [2, 4, 1, 0] rfl)
  · subst k_4
    dsimp only at hf
    intro H locs ls hP hS hl
    exact wbX0_movesBetween_63 B hX0 hf H locs ls hP hS (lv_sub hl [0, 1] rfl)
  · subst k_4
    dsimp only at hf
    exact jp_inj hf
end
