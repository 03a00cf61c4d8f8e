-- X8_stays
section
variable {p : Program} {l : Launch} {e : Jvm.Env} {s : State} {m : MethodId} {args : Array Value} {below : List Frame} {meth : Method} {c : Code} {Γ : jp_G} {Z : Nat → Option jp_Sh} {r0 : Int32} {σ0 : jp_I} {τ0 : jp_J}
def fX8_stays (p0 : Int32) (p1 : Int32) (p2 : Int32) (σ : jp_I) (τ : jp_J) : Option (Int32 × jp_I × jp_J) :=
  if p0 = p1 then (if p1 = p2 then (some (0, σ, τ)) else (some (1, σ, τ))) else (some (1, σ, τ))
set_option maxHeartbeats 4000000 in
set_option maxRecDepth 20000 in
theorem ctX8_stays {l : Launch} {Γ : jp_G} {Z : Nat → Option jp_Sh} {p0 : Int32} {p1 : Int32} {p2 : Int32} {σ σ0 : jp_I} {τ τ0 : jp_J} {r0 : Int32} (hf : fX8_stays p0 p1 p2 σ τ = some (r0, σ0, τ0)) : jp_M l yX8_stays cX8_stays 3 (some .int) 0 0 Γ Z σ τ [.int p0, .int p1, .int p2] (some (.int r0)) σ0 τ0 := by
  refine jp_mk (lv := [(0, .int p0), (1, .int p1), (2, .int p2)]) (by decide) (Nat.le_of_ble_eq_true rfl) rfl fun p e s m args below meth c B => ?_
  obtain ⟨hx, hb, hml, hown, hts, hr, hlk, hE⟩ := id B
  unfold fX8_stays at hf
  intro H locs ls hP hS hl
  refine lv_iload_n hx hb dX8_stays_0 rfl (lv_at hl 0 rfl) ?_
  refine lv_iload_n hx hb dX8_stays_1 rfl (lv_at hl 1 rfl) ?_
  refine lv_icmp_ne (tgt := 14) hx hb dX8_stays_2 (by decide) (fun c_1 => ?_) (fun c_1 => ?_)
  · rw [if_neg c_1] at hf
    refine lv_iconst (v := 1) hx hb dX8_stays_14 (by decide) ?_
    exact jp_endi B hP hS dX8_stays_15 (jp_inj hf)
  · rw [if_pos c_1] at hf
    refine lv_iload_n hx hb dX8_stays_5 rfl (lv_at hl 1 rfl) ?_
    refine lv_iload_n hx hb dX8_stays_6 rfl (lv_at hl 2 rfl) ?_
    refine lv_icmp_ne (tgt := 14) hx hb dX8_stays_7 (by decide) (fun c_2 => ?_) (fun c_2 => ?_)
    · rw [if_neg c_2] at hf
      refine lv_iconst (v := 1) hx hb dX8_stays_14 (by decide) ?_
      exact jp_endi B hP hS dX8_stays_15 (jp_inj hf)
    · rw [if_pos c_2] at hf
      refine lv_iconst (v := 0) hx hb dX8_stays_10 (by decide) ?_
      refine lv_goto (tgt := 15) hx hb dX8_stays_11 (by decide) ?_
      exact jp_endi B hP hS dX8_stays_15 (jp_inj hf)
end
-- X8_noCell
section
variable {p : Program} {l : Launch} {e : Jvm.Env} {s : State} {m : MethodId} {args : Array Value} {below : List Frame} {meth : Method} {c : Code} {Γ : jp_G} {Z : Nat → Option jp_Sh} {r0 : Int32} {σ0 : jp_I} {τ0 : jp_J}
def fX8_noCell (p1 : Int32) (p2 : Int32) (σ : jp_I) (τ : jp_J) : Option (Int32 × jp_I × jp_J) :=
  if p1 < 0 then (some (1, σ, τ)) else (if (σ 20 2) ≤ p1 then (some (1, σ, τ)) else (if p2 < 0 then (some (1, σ, τ)) else (if p2 < (σ 20 3) then (some (0, σ, τ)) else (some (1, σ, τ)))))
set_option maxHeartbeats 4000000 in
set_option maxRecDepth 20000 in
theorem ctX8_noCell {l : Launch} {Γ : jp_G} {Z : Nat → Option jp_Sh} (hX0 : jp_hM Z) {p1 : Int32} {p2 : Int32} {σ σ0 : jp_I} {τ τ0 : jp_J} {r0 : Int32} (hf : fX8_noCell p1 p2 σ τ = some (r0, σ0, τ0)) : jp_M l yX8_noCell cX8_noCell 3 (some .boolean) 0 0 Γ Z σ τ [.ref (Γ.2.2.1 20), .int p1, .int p2] (some (.int r0)) σ0 τ0 := by
  refine jp_mk (lv := [(0, .ref (Γ.2.2.1 20)), (1, .int p1), (2, .int p2)]) (by decide) (Nat.le_of_ble_eq_true rfl) rfl fun p e s m args below meth c B => ?_
  obtain ⟨hx, hb, hml, hown, hts, hr, hlk, hE⟩ := id B
  unfold fX8_noCell at hf
  intro H locs ls hP hS hl
  refine lv_iload_n hx hb dX8_noCell_0 rfl (lv_at hl 1 rfl) ?_
  refine lv_if_lt (tgt := 24) hx hb dX8_noCell_1 (by decide) (fun c_1 => ?_) (fun c_1 => ?_)
  · rw [if_pos c_1] at hf
    refine lv_iconst (v := 1) hx hb dX8_noCell_24 (by decide) ?_
    refine lv_goto (tgt := 29) hx hb dX8_noCell_25 (by decide) ?_
    exact jp_endz B hP hS (by decide) dX8_noCell_29 (jp_inj hf)
  · rw [if_neg c_1] at hf
    refine lv_iload_n hx hb dX8_noCell_4 rfl (lv_at hl 1 rfl) ?_
    refine lv_aload_n hx hb dX8_noCell_5 rfl (lv_at hl 0 rfl) ?_
    refine jp_geti (k := 2) B hP hX0.1 rfl rfl (by decide) jp_fX8 rfl mw_135 dX8_noCell_6 ?_
    refine lv_icmp_ge (tgt := 24) hx hb dX8_noCell_9 (by decide) (fun c_2 => ?_) (fun c_2 => ?_)
    · rw [if_pos c_2] at hf
      refine lv_iconst (v := 1) hx hb dX8_noCell_24 (by decide) ?_
      refine lv_goto (tgt := 29) hx hb dX8_noCell_25 (by decide) ?_
      exact jp_endz B hP hS (by decide) dX8_noCell_29 (jp_inj hf)
    · rw [if_neg c_2] at hf
      refine lv_iload_n hx hb dX8_noCell_12 rfl (lv_at hl 2 rfl) ?_
      refine lv_if_lt (tgt := 24) hx hb dX8_noCell_13 (by decide) (fun c_3 => ?_) (fun c_3 => ?_)
      · rw [if_pos c_3] at hf
        refine lv_iconst (v := 1) hx hb dX8_noCell_24 (by decide) ?_
        refine lv_goto (tgt := 29) hx hb dX8_noCell_25 (by decide) ?_
        exact jp_endz B hP hS (by decide) dX8_noCell_29 (jp_inj hf)
      · rw [if_neg c_3] at hf
        refine lv_iload_n hx hb dX8_noCell_16 rfl (lv_at hl 2 rfl) ?_
        refine lv_aload_n hx hb dX8_noCell_17 rfl (lv_at hl 0 rfl) ?_
        refine jp_geti (k := 3) B hP hX0.1 rfl rfl (by decide) jp_fX8 rfl mw_136 dX8_noCell_18 ?_
        refine lv_icmp_lt (tgt := 28) hx hb dX8_noCell_21 (by decide) (fun c_4 => ?_) (fun c_4 => ?_)
        · rw [if_pos c_4] at hf
          refine lv_iconst (v := 0) hx hb dX8_noCell_28 (by decide) ?_
          exact jp_endz B hP hS (by decide) dX8_noCell_29 (jp_inj hf)
        · rw [if_neg c_4] at hf
          refine lv_iconst (v := 1) hx hb dX8_noCell_24 (by decide) ?_
          refine lv_goto (tgt := 29) hx hb dX8_noCell_25 (by decide) ?_
          exact jp_endz B hP hS (by decide) dX8_noCell_29 (jp_inj hf)
end
-- X8_moved
section
variable {p : Program} {l : Launch} {e : Jvm.Env} {s : State} {m : MethodId} {args : Array Value} {below : List Frame} {meth : Method} {c : Code} {Γ : jp_G} {Z : Nat → Option jp_Sh} {r0 : Int32} {σ0 : jp_I} {τ0 : jp_J}
def bX8_moved_48 (x3 : Int32) (y0 : Int32) (y1 : Int32) (σ : jp_I) (τ : jp_J) : Option (Int32 × jp_I × jp_J) :=
  (fX8_noCell x3 (y0 + y1) σ τ).bind fun (a_1, σ_1, τ_1) => if a_1 = 0 then (if jp_ok ((6 * (y0 + y1)) + x3) 36 = true then if (σ_1 21 ((6 * (y0 + y1)) + x3).toNatClampNeg) = 0 then (some ((6 * (y0 + y1)) + x3, σ_1, τ_1)) else (some ((-1), σ_1, τ_1)) else none) else (some ((-1), σ_1, τ_1))
set_option maxHeartbeats 4000000 in
set_option maxRecDepth 20000 in
theorem wbX8_moved_48 (B : jp_B Γ p s m args meth c RX8 cX8_moved 5 (some .int)) (hX0 : jp_hM Z) {x3 : Int32} {y0 : Int32} {y1 : Int32} {σ : jp_I} {τ : jp_J} (hf : bX8_moved_48 x3 y0 y1 σ τ = some (r0, σ0, τ0)) : jp_at p l e (jp_R 1 22) s m args below meth c (MQ below (jp_Q Γ Z (some (.int r0)) σ0 τ0) args s 0 0 (jp_A Γ)) 5 Γ Z 48 [(0, .ref (Γ.2.2.1 20)), (3, .int x3)] [.int y1, .int y0] σ τ := by
  obtain ⟨hx, hb, hml, hown, hts, hr, hlk, hE⟩ := id B
  unfold bX8_moved_48 at hf
  intro H locs ls hP hS hl
  refine lv_iadd hx hb dX8_moved_48 ?_
  refine lv_istore (lv' := [(4, .int (y0 + y1)), (0, .ref (Γ.2.2.1 20)), (3, .int x3)]) hx hb dX8_moved_49 hl (by decide) rfl (fun ls hl => ?_)
  refine lv_aload_n hx hb dX8_moved_51 rfl (lv_at hl 1 rfl) ?_
  refine lv_iload_n hx hb dX8_moved_52 rfl (lv_at hl 2 rfl) ?_
  refine lv_iload hx hb dX8_moved_53 (lv_at hl 0 rfl) ?_
  obtain ⟨⟨a_1, σ_1, τ_1⟩, h_1, hf⟩ := jp_bind hf
  dsimp only at hf
  refine jp_callV (rest := []) B hP hS hl (ctX8_noCell ⟨hX0.1, hX0.2.1, hX0.2.2.1, hX0.2.2.2.1, hX0.2.2.2.2.1, hX0.2.2.2.2.2.1, hX0.2.2.2.2.2.2.1, hX0.2.2.2.2.2.2.2⟩ h_1) hX0.1 rfl mw_205 mw_202 mw_203 mw_204 mw_5 ddX8_noCell ⟨Nat.le_of_ble_eq_true rfl, Nat.le_of_ble_eq_true rfl⟩ ⟨Nat.zero_le _, Nat.zero_le _⟩ rfl (Nat.le_of_ble_eq_true rfl) dX8_moved_55 (fun H locs hP hS => ?_)
  refine lv_if_ne (tgt := 76) hx hb dX8_moved_58 (by decide) (fun c_2 => ?_) (fun c_2 => ?_)
  · rw [if_neg c_2] at hf
    refine lv_iconst (v := -1) hx hb dX8_moved_76 (by decide) ?_
    refine lv_goto (tgt := 87) hx hb dX8_moved_77 (by decide) ?_
    exact jp_endi B hP hS dX8_moved_87 (jp_inj hf)
  · rw [if_pos c_2] at hf
    refine lv_aload_n hx hb dX8_moved_61 rfl (lv_at hl 1 rfl) ?_
    refine jp_getr (k := 4) B hP hX0.1 rfl rfl (by decide) jp_fX8 rfl mw_138 dX8_moved_62 ?_
    refine lv_bipush (v := 6) hx hb dX8_moved_65 (by decide) ?_
    refine lv_iload hx hb dX8_moved_67 (lv_at hl 0 rfl) ?_
    refine lv_imul hx hb dX8_moved_69 ?_
    refine lv_iload_n hx hb dX8_moved_70 rfl (lv_at hl 2 rfl) ?_
    refine lv_iadd hx hb dX8_moved_71 ?_
    obtain ⟨g_3, hf⟩ := jp_if hf
    refine jp_zald B hP hX0.2.1 (jp_ok_vp g_3) dX8_moved_72 ?_
    refine lv_if_eq (tgt := 80) hx hb dX8_moved_73 (by decide) (fun c_4 => ?_) (fun c_4 => ?_)
    · rw [if_pos c_4] at hf
      refine lv_bipush (v := 6) hx hb dX8_moved_80 (by decide) ?_
      refine lv_iload hx hb dX8_moved_82 (lv_at hl 0 rfl) ?_
      refine lv_imul hx hb dX8_moved_84 ?_
      refine lv_iload_n hx hb dX8_moved_85 rfl (lv_at hl 2 rfl) ?_
      refine lv_iadd hx hb dX8_moved_86 ?_
      exact jp_endi B hP hS dX8_moved_87 (jp_inj hf)
    · rw [if_neg c_4] at hf
      refine lv_iconst (v := -1) hx hb dX8_moved_76 (by decide) ?_
      refine lv_goto (tgt := 87) hx hb dX8_moved_77 (by decide) ?_
      exact jp_endi B hP hS dX8_moved_87 (jp_inj hf)
def bX8_moved_23 (x1 : Int32) (x2 : Int32) (y0 : Int32) (y1 : Int32) (σ : jp_I) (τ : jp_J) : Option (Int32 × jp_I × jp_J) :=
  if x2 = 3 then (bX8_moved_48 (y0 + y1) (x1 / 6) 1 σ τ) else (if x2 = 1 then (bX8_moved_48 (y0 + y1) (x1 / 6) (-1) σ τ) else (bX8_moved_48 (y0 + y1) (x1 / 6) 0 σ τ))
set_option maxHeartbeats 4000000 in
set_option maxRecDepth 20000 in
theorem wbX8_moved_23 (B : jp_B Γ p s m args meth c RX8 cX8_moved 5 (some .int)) (hX0 : jp_hM Z) {x1 : Int32} {x2 : Int32} {y0 : Int32} {y1 : Int32} {σ : jp_I} {τ : jp_J} (hf : bX8_moved_23 x1 x2 y0 y1 σ τ = some (r0, σ0, τ0)) : jp_at p l e (jp_R 1 22) s m args below meth c (MQ below (jp_Q Γ Z (some (.int r0)) σ0 τ0) args s 0 0 (jp_A Γ)) 5 Γ Z 23 [(0, .ref (Γ.2.2.1 20)), (1, .int x1), (2, .int x2)] [.int y1, .int y0] σ τ := by
  obtain ⟨hx, hb, hml, hown, hts, hr, hlk, hE⟩ := id B
  unfold bX8_moved_23 at hf
  intro H locs ls hP hS hl
  refine lv_iadd hx hb dX8_moved_23 ?_
  refine lv_istore_n (lv' := [(3, .int (y0 + y1)), (0, .ref (Γ.2.2.1 20)), (1, .int x1), (2, .int x2)]) hx hb dX8_moved_24 rfl hl (by decide) rfl (fun ls hl => ?_)
  refine lv_iload_n hx hb dX8_moved_25 rfl (lv_at hl 2 rfl) ?_
  refine lv_bipush (v := 6) hx hb dX8_moved_26 (by decide) ?_
  refine lv_idiv hx hb dX8_moved_28 (by decide) ?_
  refine lv_iload_n hx hb dX8_moved_29 rfl (lv_at hl 3 rfl) ?_
  refine lv_iconst (v := 3) hx hb dX8_moved_30 (by decide) ?_
  refine lv_icmp_ne (tgt := 38) hx hb dX8_moved_31 (by decide) (fun c_1 => ?_) (fun c_1 => ?_)
  · rw [if_neg c_1] at hf
    refine lv_iload_n hx hb dX8_moved_38 rfl (lv_at hl 3 rfl) ?_
    refine lv_iconst (v := 1) hx hb dX8_moved_39 (by decide) ?_
    refine lv_icmp_ne (tgt := 47) hx hb dX8_moved_40 (by decide) (fun c_2 => ?_) (fun c_2 => ?_)
    · rw [if_neg c_2] at hf
      refine lv_iconst (v := 0) hx hb dX8_moved_47 (by decide) ?_
      exact wbX8_moved_48 B hX0 hf H locs ls hP hS (lv_sub hl [1, 0] rfl)
    · rw [if_pos c_2] at hf
      refine lv_iconst (v := -1) hx hb dX8_moved_43 (by decide) ?_
      refine lv_goto (tgt := 48) hx hb dX8_moved_44 (by decide) ?_
      exact wbX8_moved_48 B hX0 hf H locs ls hP hS (lv_sub hl [1, 0] rfl)
  · rw [if_pos c_1] at hf
    refine lv_iconst (v := 1) hx hb dX8_moved_34 (by decide) ?_
    refine lv_goto (tgt := 48) hx hb dX8_moved_35 (by decide) ?_
    exact wbX8_moved_48 B hX0 hf H locs ls hP hS (lv_sub hl [1, 0] rfl)
def fX8_moved (p1 : Int32) (p2 : Int32) (σ : jp_I) (τ : jp_J) : Option (Int32 × jp_I × jp_J) :=
  if p2 = 2 then (bX8_moved_23 p1 p2 (p1 - p1 / 6 * 6) 1 σ τ) else (if p2 = 4 then (bX8_moved_23 p1 p2 (p1 - p1 / 6 * 6) (-1) σ τ) else (bX8_moved_23 p1 p2 (p1 - p1 / 6 * 6) 0 σ τ))
set_option maxHeartbeats 4000000 in
set_option maxRecDepth 20000 in
theorem ctX8_moved {l : Launch} {Γ : jp_G} {Z : Nat → Option jp_Sh} (hX0 : jp_hM Z) {p1 : Int32} {p2 : Int32} {σ σ0 : jp_I} {τ τ0 : jp_J} {r0 : Int32} (hf : fX8_moved p1 p2 σ τ = some (r0, σ0, τ0)) : jp_M l yX8_moved cX8_moved 5 (some .int) 1 22 Γ Z σ τ [.ref (Γ.2.2.1 20), .int p1, .int p2] (some (.int r0)) σ0 τ0 := by
  refine jp_mk (lv := [(0, .ref (Γ.2.2.1 20)), (1, .int p1), (2, .int p2)]) (by decide) (Nat.le_of_ble_eq_true rfl) rfl fun p e s m args below meth c B => ?_
  obtain ⟨hx, hb, hml, hown, hts, hr, hlk, hE⟩ := id B
  unfold fX8_moved at hf
  intro H locs ls hP hS hl
  refine lv_iload_n hx hb dX8_moved_0 rfl (lv_at hl 1 rfl) ?_
  refine lv_bipush (v := 6) hx hb dX8_moved_1 (by decide) ?_
  refine lv_irem hx hb dX8_moved_3 (by decide) ?_
  refine lv_iload_n hx hb dX8_moved_4 rfl (lv_at hl 2 rfl) ?_
  refine lv_iconst (v := 2) hx hb dX8_moved_5 (by decide) ?_
  refine lv_icmp_ne (tgt := 13) hx hb dX8_moved_6 (by decide) (fun c_1 => ?_) (fun c_1 => ?_)
  · rw [if_neg c_1] at hf
    refine lv_iload_n hx hb dX8_moved_13 rfl (lv_at hl 2 rfl) ?_
    refine lv_iconst (v := 4) hx hb dX8_moved_14 (by decide) ?_
    refine lv_icmp_ne (tgt := 22) hx hb dX8_moved_15 (by decide) (fun c_2 => ?_) (fun c_2 => ?_)
    · rw [if_neg c_2] at hf
      refine lv_iconst (v := 0) hx hb dX8_moved_22 (by decide) ?_
      exact wbX8_moved_23 B hX0 hf H locs ls hP hS (lv_sub hl [0, 1, 2] rfl)
    · rw [if_pos c_2] at hf
      refine lv_iconst (v := -1) hx hb dX8_moved_18 (by decide) ?_
      refine lv_goto (tgt := 23) hx hb dX8_moved_19 (by decide) ?_
      exact wbX8_moved_23 B hX0 hf H locs ls hP hS (lv_sub hl [0, 1, 2] rfl)
  · rw [if_pos c_1] at hf
    refine lv_iconst (v := 1) hx hb dX8_moved_9 (by decide) ?_
    refine lv_goto (tgt := 23) hx hb dX8_moved_10 (by decide) ?_
    exact wbX8_moved_23 B hX0 hf H locs ls hP hS (lv_sub hl [0, 1, 2] rfl)
end
-- X8_goal
section
variable {p : Program} {l : Launch} {e : Jvm.Env} {s : State} {m : MethodId} {args : Array Value} {below : List Frame} {meth : Method} {c : Code} {Γ : jp_G} {Z : Nat → Option jp_Sh} {r0 : Int32} {σ0 : jp_I} {τ0 : jp_J}
def fX8_goal (p1 : Int32) (σ : jp_I) (τ : jp_J) : Option (Int32 × jp_I × jp_J) :=
  if (σ 20 1) ≤ p1 then (some (0, σ, τ)) else (if jp_ok p1 4 = true then some (σ 23 p1.toNatClampNeg, σ, τ) else none)
set_option maxHeartbeats 4000000 in
set_option maxRecDepth 20000 in
theorem ctX8_goal {l : Launch} {Γ : jp_G} {Z : Nat → Option jp_Sh} (hX0 : jp_hM Z) {p1 : Int32} {σ σ0 : jp_I} {τ τ0 : jp_J} {r0 : Int32} (hf : fX8_goal p1 σ τ = some (r0, σ0, τ0)) : jp_M l yX8_goal cX8_goal 2 (some .int) 0 0 Γ Z σ τ [.ref (Γ.2.2.1 20), .int p1] (some (.int r0)) σ0 τ0 := by
  refine jp_mk (lv := [(0, .ref (Γ.2.2.1 20)), (1, .int p1)]) (by decide) (Nat.le_of_ble_eq_true rfl) rfl fun p e s m args below meth c B => ?_
  obtain ⟨hx, hb, hml, hown, hts, hr, hlk, hE⟩ := id B
  unfold fX8_goal at hf
  intro H locs ls hP hS hl
  refine lv_iload_n hx hb dX8_goal_0 rfl (lv_at hl 1 rfl) ?_
  refine lv_aload_n hx hb dX8_goal_1 rfl (lv_at hl 0 rfl) ?_
  refine jp_geti (k := 1) B hP hX0.1 rfl rfl (by decide) jp_fX8 rfl mw_151 dX8_goal_2 ?_
  refine lv_icmp_ge (tgt := 17) hx hb dX8_goal_5 (by decide) (fun c_1 => ?_) (fun c_1 => ?_)
  · rw [if_pos c_1] at hf
    refine lv_iconst (v := 0) hx hb dX8_goal_17 (by decide) ?_
    exact jp_endi B hP hS dX8_goal_18 (jp_inj hf)
  · rw [if_neg c_1] at hf
    refine lv_aload_n hx hb dX8_goal_8 rfl (lv_at hl 0 rfl) ?_
    refine jp_getr (k := 6) B hP hX0.1 rfl rfl (by decide) jp_fX8 rfl mw_140 dX8_goal_9 ?_
    refine lv_iload_n hx hb dX8_goal_12 rfl (lv_at hl 1 rfl) ?_
    obtain ⟨g_2, hf⟩ := jp_if hf
    refine jp_iald B hP hX0.2.2.2.1 (jp_ok_vp g_2) dX8_goal_13 ?_
    refine lv_goto (tgt := 18) hx hb dX8_goal_14 (by decide) ?_
    exact jp_endi B hP hS dX8_goal_18 (jp_inj hf)
end
-- X8_outside
section
variable {p : Program} {l : Launch} {e : Jvm.Env} {s : State} {m : MethodId} {args : Array Value} {below : List Frame} {meth : Method} {c : Code} {Γ : jp_G} {Z : Nat → Option jp_Sh} {r0 : Int32} {σ0 : jp_I} {τ0 : jp_J}
def fX8_outside (p1 : Int32) (σ : jp_I) (τ : jp_J) : Option (Int32 × jp_I × jp_J) :=
  (fX8_noCell (p1 - p1 / 6 * 6) (p1 / 6) σ τ).bind fun (a_1, σ_1, τ_1) => if a_1 = 0 then (if jp_ok p1 36 = true then if (σ_1 21 p1.toNatClampNeg) = 0 then (some (0, σ_1, τ_1)) else (some (1, σ_1, τ_1)) else none) else (some (1, σ_1, τ_1))
set_option maxHeartbeats 4000000 in
set_option maxRecDepth 20000 in
theorem ctX8_outside {l : Launch} {Γ : jp_G} {Z : Nat → Option jp_Sh} (hX0 : jp_hM Z) {p1 : Int32} {σ σ0 : jp_I} {τ τ0 : jp_J} {r0 : Int32} (hf : fX8_outside p1 σ τ = some (r0, σ0, τ0)) : jp_M l yX8_outside cX8_outside 2 (some .boolean) 1 22 Γ Z σ τ [.ref (Γ.2.2.1 20), .int p1] (some (.int r0)) σ0 τ0 := by
  refine jp_mk (lv := [(0, .ref (Γ.2.2.1 20)), (1, .int p1)]) (by decide) (Nat.le_of_ble_eq_true rfl) rfl fun p e s m args below meth c B => ?_
  obtain ⟨hx, hb, hml, hown, hts, hr, hlk, hE⟩ := id B
  unfold fX8_outside at hf
  intro H locs ls hP hS hl
  refine lv_aload_n hx hb dX8_outside_0 rfl (lv_at hl 0 rfl) ?_
  refine lv_iload_n hx hb dX8_outside_1 rfl (lv_at hl 1 rfl) ?_
  refine lv_bipush (v := 6) hx hb dX8_outside_2 (by decide) ?_
  refine lv_irem hx hb dX8_outside_4 (by decide) ?_
  refine lv_iload_n hx hb dX8_outside_5 rfl (lv_at hl 1 rfl) ?_
  refine lv_bipush (v := 6) hx hb dX8_outside_6 (by decide) ?_
  refine lv_idiv hx hb dX8_outside_8 (by decide) ?_
  obtain ⟨⟨a_1, σ_1, τ_1⟩, h_1, hf⟩ := jp_bind hf
  dsimp only at hf
  refine jp_callV (rest := []) B hP hS hl (ctX8_noCell ⟨hX0.1, hX0.2.1, hX0.2.2.1, hX0.2.2.2.1, hX0.2.2.2.2.1, hX0.2.2.2.2.2.1, hX0.2.2.2.2.2.2.1, hX0.2.2.2.2.2.2.2⟩ h_1) hX0.1 rfl mw_205 mw_202 mw_203 mw_204 mw_5 ddX8_noCell ⟨Nat.le_of_ble_eq_true rfl, Nat.le_of_ble_eq_true rfl⟩ ⟨Nat.zero_le _, Nat.zero_le _⟩ rfl (Nat.le_of_ble_eq_true rfl) dX8_outside_9 (fun H locs hP hS => ?_)
  refine lv_if_ne (tgt := 24) hx hb dX8_outside_12 (by decide) (fun c_2 => ?_) (fun c_2 => ?_)
  · rw [if_neg c_2] at hf
    refine lv_iconst (v := 1) hx hb dX8_outside_24 (by decide) ?_
    refine lv_goto (tgt := 29) hx hb dX8_outside_25 (by decide) ?_
    exact jp_endz B hP hS (by decide) dX8_outside_29 (jp_inj hf)
  · rw [if_pos c_2] at hf
    refine lv_aload_n hx hb dX8_outside_15 rfl (lv_at hl 0 rfl) ?_
    refine jp_getr (k := 4) B hP hX0.1 rfl rfl (by decide) jp_fX8 rfl mw_138 dX8_outside_16 ?_
    refine lv_iload_n hx hb dX8_outside_19 rfl (lv_at hl 1 rfl) ?_
    obtain ⟨g_3, hf⟩ := jp_if hf
    refine jp_zald B hP hX0.2.1 (jp_ok_vp g_3) dX8_outside_20 ?_
    refine lv_if_eq (tgt := 28) hx hb dX8_outside_21 (by decide) (fun c_4 => ?_) (fun c_4 => ?_)
    · rw [if_pos c_4] at hf
      refine lv_iconst (v := 0) hx hb dX8_outside_28 (by decide) ?_
      exact jp_endz B hP hS (by decide) dX8_outside_29 (jp_inj hf)
    · rw [if_neg c_4] at hf
      refine lv_iconst (v := 1) hx hb dX8_outside_24 (by decide) ?_
      refine lv_goto (tgt := 29) hx hb dX8_outside_25 (by decide) ?_
      exact jp_endz B hP hS (by decide) dX8_outside_29 (jp_inj hf)
end
-- X8_through
section
variable {p : Program} {l : Launch} {e : Jvm.Env} {s : State} {m : MethodId} {args : Array Value} {below : List Frame} {meth : Method} {c : Code} {Γ : jp_G} {Z : Nat → Option jp_Sh} {r0 : Int32} {σ0 : jp_I} {τ0 : jp_J}
def bX8_through_153 (x5 : Int32) (x6 : Int32) (x7 : Int32) (σ : jp_I) (τ : jp_J) : Option (Int32 × jp_I × jp_J) :=
  if jp_ok ((36 * x5) + x6) 1476 = true then some (x7 + (σ 27 ((36 * x5) + x6).toNatClampNeg), σ, τ) else none
set_option maxHeartbeats 4000000 in
set_option maxRecDepth 20000 in
theorem wbX8_through_153 (B : jp_B Γ p s m args meth c RX8 cX8_through 8 (some .int)) (hX0 : jp_hM Z) {x5 : Int32} {x6 : Int32} {x7 : Int32} {σ : jp_I} {τ : jp_J} (hf : bX8_through_153 x5 x6 x7 σ τ = some (r0, σ0, τ0)) : jp_at p l e (jp_R 2 46) s m args below meth c (MQ below (jp_Q Γ Z (some (.int r0)) σ0 τ0) args s 0 0 (jp_A Γ)) 8 Γ Z 153 [(0, .ref (Γ.2.2.1 20)), (5, .int x5), (6, .int x6), (7, .int x7)] [] σ τ := by
  obtain ⟨hx, hb, hml, hown, hts, hr, hlk, hE⟩ := id B
  unfold bX8_through_153 at hf
  intro H locs ls hP hS hl
  refine lv_iload hx hb dX8_through_153 (lv_at hl 3 rfl) ?_
  refine lv_aload_n hx hb dX8_through_155 rfl (lv_at hl 0 rfl) ?_
  refine jp_getr (k := 16) B hP hX0.1 rfl rfl (by decide) jp_fX8 rfl mw_150 dX8_through_156 ?_
  refine lv_bipush (v := 36) hx hb dX8_through_159 (by decide) ?_
  refine lv_iload hx hb dX8_through_161 (lv_at hl 1 rfl) ?_
  refine lv_imul hx hb dX8_through_163 ?_
  refine lv_iload hx hb dX8_through_164 (lv_at hl 2 rfl) ?_
  refine lv_iadd hx hb dX8_through_166 ?_
  obtain ⟨g_1, hf⟩ := jp_if hf
  refine jp_iald B hP hX0.2.2.2.2.2.2.2 (jp_ok_vp g_1) dX8_through_167 ?_
  refine lv_iadd hx hb dX8_through_168 ?_
  exact jp_endi B hP hS dX8_through_169 (jp_inj hf)
def bX8_through_122 (x5 : Int32) (x6 : Int32) (y0 : Int32) (y1 : Int32) (σ : jp_I) (τ : jp_J) : Option (Int32 × jp_I × jp_J) :=
  if (y0 + y1) = 0 then (if jp_ok ((36 * x5) + x6) 1476 = true then if (σ 27 ((36 * x5) + x6).toNatClampNeg) < 1000000 then (bX8_through_153 x5 x6 (y0 + y1) σ τ) else (some (1000000, σ, τ)) else none) else (bX8_through_153 x5 x6 (y0 + y1) σ τ)
set_option maxHeartbeats 4000000 in
set_option maxRecDepth 20000 in
theorem wbX8_through_122 (B : jp_B Γ p s m args meth c RX8 cX8_through 8 (some .int)) (hX0 : jp_hM Z) {x5 : Int32} {x6 : Int32} {y0 : Int32} {y1 : Int32} {σ : jp_I} {τ : jp_J} (hf : bX8_through_122 x5 x6 y0 y1 σ τ = some (r0, σ0, τ0)) : jp_at p l e (jp_R 2 46) s m args below meth c (MQ below (jp_Q Γ Z (some (.int r0)) σ0 τ0) args s 0 0 (jp_A Γ)) 8 Γ Z 122 [(0, .ref (Γ.2.2.1 20)), (5, .int x5), (6, .int x6)] [.int y1, .int y0] σ τ := by
  obtain ⟨hx, hb, hml, hown, hts, hr, hlk, hE⟩ := id B
  unfold bX8_through_122 at hf
  intro H locs ls hP hS hl
  refine lv_iadd hx hb dX8_through_122 ?_
  refine lv_istore (lv' := [(7, .int (y0 + y1)), (0, .ref (Γ.2.2.1 20)), (5, .int x5), (6, .int x6)]) hx hb dX8_through_123 hl (by decide) rfl (fun ls hl => ?_)
  refine lv_iload hx hb dX8_through_125 (lv_at hl 0 rfl) ?_
  refine lv_if_ne (tgt := 153) hx hb dX8_through_127 (by decide) (fun c_1 => ?_) (fun c_1 => ?_)
  · rw [if_neg c_1] at hf
    exact wbX8_through_153 B hX0 hf H locs ls hP hS (lv_sub hl [1, 2, 3, 0] rfl)
  · rw [if_pos c_1] at hf
    refine lv_aload_n hx hb dX8_through_130 rfl (lv_at hl 1 rfl) ?_
    refine jp_getr (k := 16) B hP hX0.1 rfl rfl (by decide) jp_fX8 rfl mw_150 dX8_through_131 ?_
    refine lv_bipush (v := 36) hx hb dX8_through_134 (by decide) ?_
    refine lv_iload hx hb dX8_through_136 (lv_at hl 2 rfl) ?_
    refine lv_imul hx hb dX8_through_138 ?_
    refine lv_iload hx hb dX8_through_139 (lv_at hl 3 rfl) ?_
    refine lv_iadd hx hb dX8_through_141 ?_
    obtain ⟨g_2, hf⟩ := jp_if hf
    refine jp_iald B hP hX0.2.2.2.2.2.2.2 (jp_ok_vp g_2) dX8_through_142 ?_
    refine lv_ldc (v := 1000000) hx hb hown (hts _ mw_414) dX8_through_143 ?_
    refine lv_icmp_lt (tgt := 153) hx hb dX8_through_145 (by decide) (fun c_3 => ?_) (fun c_3 => ?_)
    · rw [if_pos c_3] at hf
      exact wbX8_through_153 B hX0 hf H locs ls hP hS (lv_sub hl [1, 2, 3, 0] rfl)
    · rw [if_neg c_3] at hf
      refine lv_ldc (v := 1000000) hx hb hown (hts _ mw_414) dX8_through_148 ?_
      refine lv_goto (tgt := 169) hx hb dX8_through_150 (by decide) ?_
      exact jp_endi B hP hS dX8_through_169 (jp_inj hf)
def bX8_through_88 (x1 : Int32) (x2 : Int32) (x5 : Int32) (x6 : Int32) (σ : jp_I) (τ : jp_J) : Option (Int32 × jp_I × jp_J) :=
  (fX8_goal 0 σ τ).bind fun (a_1, σ_1, τ_1) => (fX8_stays x1 x5 a_1 σ_1 τ_1).bind fun (a_2, σ_2, τ_2) => if (σ_2 20 1) = 2 then ((fX8_goal 1 σ_2 τ_2).bind fun (a_4, σ_4, τ_4) => (fX8_stays x2 x6 a_4 σ_4 τ_4).bind fun (a_5, σ_5, τ_5) => bX8_through_122 x5 x6 a_2 a_5 σ_5 τ_5) else (bX8_through_122 x5 x6 a_2 0 σ_2 τ_2)
set_option maxHeartbeats 4000000 in
set_option maxRecDepth 20000 in
theorem wbX8_through_88 (B : jp_B Γ p s m args meth c RX8 cX8_through 8 (some .int)) (hX0 : jp_hM Z) {x1 : Int32} {x2 : Int32} {x5 : Int32} {x6 : Int32} {σ : jp_I} {τ : jp_J} (hf : bX8_through_88 x1 x2 x5 x6 σ τ = some (r0, σ0, τ0)) : jp_at p l e (jp_R 2 46) s m args below meth c (MQ below (jp_Q Γ Z (some (.int r0)) σ0 τ0) args s 0 0 (jp_A Γ)) 8 Γ Z 88 [(0, .ref (Γ.2.2.1 20)), (1, .int x1), (2, .int x2), (5, .int x5), (6, .int x6)] [] σ τ := by
  obtain ⟨hx, hb, hml, hown, hts, hr, hlk, hE⟩ := id B
  unfold bX8_through_88 at hf
  intro H locs ls hP hS hl
  refine lv_iload_n hx hb dX8_through_88 rfl (lv_at hl 1 rfl) ?_
  refine lv_iload hx hb dX8_through_89 (lv_at hl 3 rfl) ?_
  refine lv_aload_n hx hb dX8_through_91 rfl (lv_at hl 0 rfl) ?_
  refine lv_iconst (v := 0) hx hb dX8_through_92 (by decide) ?_
  obtain ⟨⟨a_1, σ_1, τ_1⟩, h_1, hf⟩ := jp_bind hf
  dsimp only at hf
  refine jp_callV (rest := [.int x5, .int x1]) B hP hS hl (ctX8_goal ⟨hX0.1, hX0.2.1, hX0.2.2.1, hX0.2.2.2.1, hX0.2.2.2.2.1, hX0.2.2.2.2.2.1, hX0.2.2.2.2.2.2.1, hX0.2.2.2.2.2.2.2⟩ h_1) hX0.1 rfl mw_418 mw_415 mw_416 mw_417 mw_5 ddX8_goal ⟨Nat.le_of_ble_eq_true rfl, Nat.le_of_ble_eq_true rfl⟩ ⟨Nat.zero_le _, Nat.zero_le _⟩ rfl (Nat.le_of_ble_eq_true rfl) dX8_through_93 (fun H locs hP hS => ?_)
  obtain ⟨⟨a_2, σ_2, τ_2⟩, h_2, hf⟩ := jp_bind hf
  dsimp only at hf
  refine jp_callS (rest := []) B hP hS hl (ctX8_stays h_2) mw_437 mw_435 mw_436 mw_5 ddX8_stays ⟨Nat.le_of_ble_eq_true rfl, Nat.le_of_ble_eq_true rfl⟩ ⟨Nat.zero_le _, Nat.zero_le _⟩ rfl (Nat.le_of_ble_eq_true rfl) dX8_through_96 (fun H locs hP hS => ?_)
  refine lv_aload_n hx hb dX8_through_99 rfl (lv_at hl 0 rfl) ?_
  refine jp_geti (k := 1) B hP hX0.1 rfl rfl (by decide) jp_fX8 rfl mw_151 dX8_through_100 ?_
  refine lv_iconst (v := 2) hx hb dX8_through_103 (by decide) ?_
  refine lv_icmp_ne (tgt := 121) hx hb dX8_through_104 (by decide) (fun c_3 => ?_) (fun c_3 => ?_)
  · rw [if_neg c_3] at hf
    refine lv_iconst (v := 0) hx hb dX8_through_121 (by decide) ?_
    exact wbX8_through_122 B hX0 hf H locs ls hP hS (lv_sub hl [0, 3, 4] rfl)
  · rw [if_pos c_3] at hf
    refine lv_iload_n hx hb dX8_through_107 rfl (lv_at hl 2 rfl) ?_
    refine lv_iload hx hb dX8_through_108 (lv_at hl 4 rfl) ?_
    refine lv_aload_n hx hb dX8_through_110 rfl (lv_at hl 0 rfl) ?_
    refine lv_iconst (v := 1) hx hb dX8_through_111 (by decide) ?_
    obtain ⟨⟨a_4, σ_4, τ_4⟩, h_4, hf⟩ := jp_bind hf
    dsimp only at hf
    refine jp_callV (rest := [.int x6, .int x2, .int a_2]) B hP hS hl (ctX8_goal ⟨hX0.1, hX0.2.1, hX0.2.2.1, hX0.2.2.2.1, hX0.2.2.2.2.1, hX0.2.2.2.2.2.1, hX0.2.2.2.2.2.2.1, hX0.2.2.2.2.2.2.2⟩ h_4) hX0.1 rfl mw_418 mw_415 mw_416 mw_417 mw_5 ddX8_goal ⟨Nat.le_of_ble_eq_true rfl, Nat.le_of_ble_eq_true rfl⟩ ⟨Nat.zero_le _, Nat.zero_le _⟩ rfl (Nat.le_of_ble_eq_true rfl) dX8_through_112 (fun H locs hP hS => ?_)
    obtain ⟨⟨a_5, σ_5, τ_5⟩, h_5, hf⟩ := jp_bind hf
    dsimp only at hf
    refine jp_callS (rest := [.int a_2]) B hP hS hl (ctX8_stays h_5) mw_437 mw_435 mw_436 mw_5 ddX8_stays ⟨Nat.le_of_ble_eq_true rfl, Nat.le_of_ble_eq_true rfl⟩ ⟨Nat.zero_le _, Nat.zero_le _⟩ rfl (Nat.le_of_ble_eq_true rfl) dX8_through_115 (fun H locs hP hS => ?_)
    refine lv_goto (tgt := 122) hx hb dX8_through_118 (by decide) ?_
    exact wbX8_through_122 B hX0 hf H locs ls hP hS (lv_sub hl [0, 3, 4] rfl)
def bX8_through_36 (x1 : Int32) (x2 : Int32) (x5 : Int32) (y0 : Int32) (σ : jp_I) (τ : jp_J) : Option (Int32 × jp_I × jp_J) :=
  if x5 < 0 then (some (1000000, σ, τ)) else (if 0 ≤ y0 then (if (σ 20 1) = 2 then (if x5 = y0 then (some (1000000, σ, τ)) else (if (σ 20 7) = 0 then (bX8_through_88 x1 x2 x5 y0 σ τ) else (if x5 = x2 then (if y0 = x1 then (some (1000000, σ, τ)) else (bX8_through_88 x1 x2 x5 y0 σ τ)) else (bX8_through_88 x1 x2 x5 y0 σ τ)))) else (bX8_through_88 x1 x2 x5 y0 σ τ)) else (some (1000000, σ, τ)))
set_option maxHeartbeats 4000000 in
set_option maxRecDepth 20000 in
theorem wbX8_through_36 (B : jp_B Γ p s m args meth c RX8 cX8_through 8 (some .int)) (hX0 : jp_hM Z) {x1 : Int32} {x2 : Int32} {x5 : Int32} {y0 : Int32} {σ : jp_I} {τ : jp_J} (hf : bX8_through_36 x1 x2 x5 y0 σ τ = some (r0, σ0, τ0)) : jp_at p l e (jp_R 2 46) s m args below meth c (MQ below (jp_Q Γ Z (some (.int r0)) σ0 τ0) args s 0 0 (jp_A Γ)) 8 Γ Z 36 [(0, .ref (Γ.2.2.1 20)), (1, .int x1), (2, .int x2), (5, .int x5)] [.int y0] σ τ := by
  obtain ⟨hx, hb, hml, hown, hts, hr, hlk, hE⟩ := id B
  unfold bX8_through_36 at hf
  intro H locs ls hP hS hl
  refine lv_istore (lv' := [(6, .int y0), (0, .ref (Γ.2.2.1 20)), (1, .int x1), (2, .int x2), (5, .int x5)]) hx hb dX8_through_36 hl (by decide) rfl (fun ls hl => ?_)
  refine lv_iload hx hb dX8_through_38 (lv_at hl 4 rfl) ?_
  refine lv_if_lt (tgt := 48) hx hb dX8_through_40 (by decide) (fun c_1 => ?_) (fun c_1 => ?_)
  · rw [if_pos c_1] at hf
    refine lv_ldc (v := 1000000) hx hb hown (hts _ mw_414) dX8_through_48 ?_
    exact jp_endi B hP hS dX8_through_50 (jp_inj hf)
  · rw [if_neg c_1] at hf
    refine lv_iload hx hb dX8_through_43 (lv_at hl 0 rfl) ?_
    refine lv_if_ge (tgt := 51) hx hb dX8_through_45 (by decide) (fun c_2 => ?_) (fun c_2 => ?_)
    · rw [if_pos c_2] at hf
      refine lv_aload_n hx hb dX8_through_51 rfl (lv_at hl 1 rfl) ?_
      refine jp_geti (k := 1) B hP hX0.1 rfl rfl (by decide) jp_fX8 rfl mw_151 dX8_through_52 ?_
      refine lv_iconst (v := 2) hx hb dX8_through_55 (by decide) ?_
      refine lv_icmp_ne (tgt := 88) hx hb dX8_through_56 (by decide) (fun c_3 => ?_) (fun c_3 => ?_)
      · rw [if_neg c_3] at hf
        exact wbX8_through_88 B hX0 hf H locs ls hP hS (lv_sub hl [1, 2, 3, 4, 0] rfl)
      · rw [if_pos c_3] at hf
        refine lv_iload hx hb dX8_through_59 (lv_at hl 4 rfl) ?_
        refine lv_iload hx hb dX8_through_61 (lv_at hl 0 rfl) ?_
        refine lv_icmp_eq (tgt := 85) hx hb dX8_through_63 (by decide) (fun c_4 => ?_) (fun c_4 => ?_)
        · rw [if_pos c_4] at hf
          refine lv_ldc (v := 1000000) hx hb hown (hts _ mw_414) dX8_through_85 ?_
          exact jp_endi B hP hS dX8_through_87 (jp_inj hf)
        · rw [if_neg c_4] at hf
          refine lv_aload_n hx hb dX8_through_66 rfl (lv_at hl 1 rfl) ?_
          refine jp_geti (k := 7) B hP hX0.1 rfl rfl (by decide) jp_fX8 rfl mw_141 dX8_through_67 ?_
          refine lv_if_eq (tgt := 88) hx hb dX8_through_70 (by decide) (fun c_5 => ?_) (fun c_5 => ?_)
          · rw [if_pos c_5] at hf
            exact wbX8_through_88 B hX0 hf H locs ls hP hS (lv_sub hl [1, 2, 3, 4, 0] rfl)
          · rw [if_neg c_5] at hf
            refine lv_iload hx hb dX8_through_73 (lv_at hl 4 rfl) ?_
            refine lv_iload_n hx hb dX8_through_75 rfl (lv_at hl 3 rfl) ?_
            refine lv_icmp_ne (tgt := 88) hx hb dX8_through_76 (by decide) (fun c_6 => ?_) (fun c_6 => ?_)
            · rw [if_neg c_6] at hf
              exact wbX8_through_88 B hX0 hf H locs ls hP hS (lv_sub hl [1, 2, 3, 4, 0] rfl)
            · rw [if_pos c_6] at hf
              refine lv_iload hx hb dX8_through_79 (lv_at hl 0 rfl) ?_
              refine lv_iload_n hx hb dX8_through_81 rfl (lv_at hl 2 rfl) ?_
              refine lv_icmp_ne (tgt := 88) hx hb dX8_through_82 (by decide) (fun c_7 => ?_) (fun c_7 => ?_)
              · rw [if_neg c_7] at hf
                exact wbX8_through_88 B hX0 hf H locs ls hP hS (lv_sub hl [1, 2, 3, 4, 0] rfl)
              · rw [if_pos c_7] at hf
                refine lv_ldc (v := 1000000) hx hb hown (hts _ mw_414) dX8_through_85 ?_
                exact jp_endi B hP hS dX8_through_87 (jp_inj hf)
    · rw [if_neg c_2] at hf
      refine lv_ldc (v := 1000000) hx hb hown (hts _ mw_414) dX8_through_48 ?_
      exact jp_endi B hP hS dX8_through_50 (jp_inj hf)
def fX8_through (p1 : Int32) (p2 : Int32) (p3 : Int32) (p4 : Int32) (σ : jp_I) (τ : jp_J) : Option (Int32 × jp_I × jp_J) :=
  (fX8_moved p1 p3 σ τ).bind fun (a_1, σ_1, τ_1) => if (σ_1 20 1) = 2 then ((fX8_moved p2 p4 σ_1 τ_1).bind fun (a_4, σ_4, τ_4) => bX8_through_36 p1 p2 a_1 a_4 σ_4 τ_4) else (if p4 = 0 then (bX8_through_36 p1 p2 a_1 p2 σ_1 τ_1) else (bX8_through_36 p1 p2 a_1 (-1) σ_1 τ_1))
set_option maxHeartbeats 4000000 in
set_option maxRecDepth 20000 in
theorem ctX8_through {l : Launch} {Γ : jp_G} {Z : Nat → Option jp_Sh} (hX0 : jp_hM Z) {p1 : Int32} {p2 : Int32} {p3 : Int32} {p4 : Int32} {σ σ0 : jp_I} {τ τ0 : jp_J} {r0 : Int32} (hf : fX8_through p1 p2 p3 p4 σ τ = some (r0, σ0, τ0)) : jp_M l yX8_through cX8_through 8 (some .int) 2 46 Γ Z σ τ [.ref (Γ.2.2.1 20), .int p1, .int p2, .int p3, .int p4] (some (.int r0)) σ0 τ0 := by
  refine jp_mk (lv := [(0, .ref (Γ.2.2.1 20)), (1, .int p1), (2, .int p2), (3, .int p3), (4, .int p4)]) (by decide) (Nat.le_of_ble_eq_true rfl) rfl fun p e s m args below meth c B => ?_
  obtain ⟨hx, hb, hml, hown, hts, hr, hlk, hE⟩ := id B
  unfold fX8_through at hf
  intro H locs ls hP hS hl
  refine lv_aload_n hx hb dX8_through_0 rfl (lv_at hl 0 rfl) ?_
  refine lv_iload_n hx hb dX8_through_1 rfl (lv_at hl 1 rfl) ?_
  refine lv_iload_n hx hb dX8_through_2 rfl (lv_at hl 3 rfl) ?_
  obtain ⟨⟨a_1, σ_1, τ_1⟩, h_1, hf⟩ := jp_bind hf
  dsimp only at hf
  refine jp_callV (rest := []) B hP hS hl (ctX8_moved ⟨hX0.1, hX0.2.1, hX0.2.2.1, hX0.2.2.2.1, hX0.2.2.2.2.1, hX0.2.2.2.2.2.1, hX0.2.2.2.2.2.2.1, hX0.2.2.2.2.2.2.2⟩ h_1) hX0.1 rfl mw_434 mw_431 mw_432 mw_433 mw_5 ddX8_moved ⟨Nat.le_of_ble_eq_true rfl, Nat.le_of_ble_eq_true rfl⟩ ⟨Nat.zero_le _, Nat.zero_le _⟩ rfl (Nat.le_of_ble_eq_true rfl) dX8_through_3 (fun H locs hP hS => ?_)
  refine lv_istore (lv' := [(5, .int a_1), (0, .ref (Γ.2.2.1 20)), (1, .int p1), (2, .int p2), (3, .int p3), (4, .int p4)]) hx hb dX8_through_6 hl (by decide) rfl (fun ls hl => ?_)
  refine lv_aload_n hx hb dX8_through_8 rfl (lv_at hl 1 rfl) ?_
  refine jp_geti (k := 1) B hP hX0.1 rfl rfl (by decide) jp_fX8 rfl mw_151 dX8_through_9 ?_
  refine lv_iconst (v := 2) hx hb dX8_through_12 (by decide) ?_
  refine lv_icmp_ne (tgt := 26) hx hb dX8_through_13 (by decide) (fun c_2 => ?_) (fun c_2 => ?_)
  · rw [if_neg c_2] at hf
    refine lv_iload hx hb dX8_through_26 (lv_at hl 5 rfl) ?_
    refine lv_if_ne (tgt := 35) hx hb dX8_through_28 (by decide) (fun c_3 => ?_) (fun c_3 => ?_)
    · rw [if_neg c_3] at hf
      refine lv_iconst (v := -1) hx hb dX8_through_35 (by decide) ?_
      exact wbX8_through_36 B hX0 hf H locs ls hP hS (lv_sub hl [1, 2, 3, 0] rfl)
    · rw [if_pos c_3] at hf
      refine lv_iload_n hx hb dX8_through_31 rfl (lv_at hl 3 rfl) ?_
      refine lv_goto (tgt := 36) hx hb dX8_through_32 (by decide) ?_
      exact wbX8_through_36 B hX0 hf H locs ls hP hS (lv_sub hl [1, 2, 3, 0] rfl)
  · rw [if_pos c_2] at hf
    refine lv_aload_n hx hb dX8_through_16 rfl (lv_at hl 1 rfl) ?_
    refine lv_iload_n hx hb dX8_through_17 rfl (lv_at hl 3 rfl) ?_
    refine lv_iload hx hb dX8_through_18 (lv_at hl 5 rfl) ?_
    obtain ⟨⟨a_4, σ_4, τ_4⟩, h_4, hf⟩ := jp_bind hf
    dsimp only at hf
    refine jp_callV (rest := []) B hP hS hl (ctX8_moved ⟨hX0.1, hX0.2.1, hX0.2.2.1, hX0.2.2.2.1, hX0.2.2.2.2.1, hX0.2.2.2.2.2.1, hX0.2.2.2.2.2.2.1, hX0.2.2.2.2.2.2.2⟩ h_4) hX0.1 rfl mw_434 mw_431 mw_432 mw_433 mw_5 ddX8_moved ⟨Nat.le_of_ble_eq_true rfl, Nat.le_of_ble_eq_true rfl⟩ ⟨Nat.zero_le _, Nat.zero_le _⟩ rfl (Nat.le_of_ble_eq_true rfl) dX8_through_20 (fun H locs hP hS => ?_)
    refine lv_goto (tgt := 36) hx hb dX8_through_23 (by decide) ?_
    exact wbX8_through_36 B hX0 hf H locs ls hP hS (lv_sub hl [1, 2, 3, 0] rfl)
end
-- X8_lower
section
variable {p : Program} {l : Launch} {e : Jvm.Env} {s : State} {m : MethodId} {args : Array Value} {below : List Frame} {meth : Method} {c : Code} {Γ : jp_G} {Z : Nat → Option jp_Sh} {r0 : Int32} {σ0 : jp_I} {τ0 : jp_J}
def bX8_lower_90_in36 (x1 : Int32) (x2 : Int32) (x3 : Int32) (x4 : Int32) (σ : jp_I) (τ : jp_J) : Option (Sum (Int32 × Int32) (Sum (Int32) Int32) × jp_I × jp_J) :=
  some (.inl (x3, x4 + 1), σ, τ)
set_option maxHeartbeats 4000000 in
set_option maxRecDepth 20000 in
theorem wbX8_lower_90_in36 (B : jp_B Γ p s m args meth c RX8 cX8_lower 6 (some .boolean)) (hX0 : jp_hM Z) {x1 : Int32} {x2 : Int32} {x3 : Int32} {x4 : Int32} {σ : jp_I} {τ : jp_J} {q : Sum (Int32 × Int32) (Sum (Int32) Int32) × jp_I × jp_J} (hf : bX8_lower_90_in36 x1 x2 x3 x4 σ τ = some q) (kb : ∀ v : Int32 × Int32, q.1 = .inl v → jp_at p l e (jp_R 3 73) s m args below meth c (MQ below (jp_Q Γ Z (some (.int r0)) σ0 τ0) args s 0 0 (jp_A Γ)) 6 Γ Z 36 [(0, .ref (Γ.2.2.1 20)), (1, .int x1), (2, .int x2), (3, .int v.1), (4, .int v.2)] [] q.2.1 q.2.2) (kx : ∀ v : Int32, q.1 = .inr (.inl v) → jp_at p l e (jp_R 3 73) s m args below meth c (MQ below (jp_Q Γ Z (some (.int r0)) σ0 τ0) args s 0 0 (jp_A Γ)) 6 Γ Z 96 [(3, .int v)] [] q.2.1 q.2.2) (kr : ∀ v : Int32, q.1 = .inr (.inr v) → r0 = v ∧ σ0 = q.2.1 ∧ τ0 = q.2.2) : jp_at p l e (jp_R 3 73) s m args below meth c (MQ below (jp_Q Γ Z (some (.int r0)) σ0 τ0) args s 0 0 (jp_A Γ)) 6 Γ Z 90 [(0, .ref (Γ.2.2.1 20)), (1, .int x1), (2, .int x2), (3, .int x3), (4, .int x4)] [] σ τ := by
  obtain ⟨hx, hb, hml, hown, hts, hr, hlk, hE⟩ := id B
  unfold bX8_lower_90_in36 at hf
  intro H locs ls hP hS hl
  refine lv_iinc (v := x4 + 1) (lv' := [(4, .int (x4 + 1)), (0, .ref (Γ.2.2.1 20)), (1, .int x1), (2, .int x2), (3, .int x3)]) hx hb dX8_lower_90 hl (k := 4) rfl rfl (by decide) rfl (fun ls hl => ?_)
  refine lv_goto (tgt := 36) hx hb dX8_lower_93 (by decide) ?_
  obtain rfl := Option.some.inj hf
  exact kb _ rfl H locs ls hP hS (lv_sub hl [1, 2, 3, 4, 0] rfl)
def sX8_lower_36 (x1 : Int32) (x2 : Int32) (x3 : Int32) (x4 : Int32) (σ : jp_I) (τ : jp_J) : Option (Sum (Int32 × Int32) (Sum (Int32) Int32) × jp_I × jp_J) :=
  if 25 ≤ x4 then (some (.inr (.inl x3), σ, τ)) else ((fX8_through x1 x2 (x4 / 5) (x4 - x4 / 5 * 5) σ τ).bind fun (a_2, σ_2, τ_2) => if jp_ok ((36 * x1) + x2) 1476 = true then if (σ_2 27 ((36 * x1) + x2).toNatClampNeg) ≤ a_2 then (bX8_lower_90_in36 x1 x2 x3 x4 σ_2 τ_2) else (if jp_ok ((36 * x1) + x2) 1476 = true then bX8_lower_90_in36 x1 x2 1 x4 (jp_up σ_2 27 ((36 * x1) + x2).toNatClampNeg a_2) τ_2 else none) else none)
set_option maxHeartbeats 4000000 in
set_option maxRecDepth 20000 in
theorem wsX8_lower_36 (B : jp_B Γ p s m args meth c RX8 cX8_lower 6 (some .boolean)) (hX0 : jp_hM Z) {x1 : Int32} {x2 : Int32} {x3 : Int32} {x4 : Int32} {σ : jp_I} {τ : jp_J} {q : Sum (Int32 × Int32) (Sum (Int32) Int32) × jp_I × jp_J} (hf : sX8_lower_36 x1 x2 x3 x4 σ τ = some q) (kb : ∀ v : Int32 × Int32, q.1 = .inl v → jp_at p l e (jp_R 3 73) s m args below meth c (MQ below (jp_Q Γ Z (some (.int r0)) σ0 τ0) args s 0 0 (jp_A Γ)) 6 Γ Z 36 [(0, .ref (Γ.2.2.1 20)), (1, .int x1), (2, .int x2), (3, .int v.1), (4, .int v.2)] [] q.2.1 q.2.2) (kx : ∀ v : Int32, q.1 = .inr (.inl v) → jp_at p l e (jp_R 3 73) s m args below meth c (MQ below (jp_Q Γ Z (some (.int r0)) σ0 τ0) args s 0 0 (jp_A Γ)) 6 Γ Z 96 [(3, .int v)] [] q.2.1 q.2.2) (kr : ∀ v : Int32, q.1 = .inr (.inr v) → r0 = v ∧ σ0 = q.2.1 ∧ τ0 = q.2.2) : jp_at p l e (jp_R 3 73) s m args below meth c (MQ below (jp_Q Γ Z (some (.int r0)) σ0 τ0) args s 0 0 (jp_A Γ)) 6 Γ Z 36 [(0, .ref (Γ.2.2.1 20)), (1, .int x1), (2, .int x2), (3, .int x3), (4, .int x4)] [] σ τ := by
  obtain ⟨hx, hb, hml, hown, hts, hr, hlk, hE⟩ := id B
  unfold sX8_lower_36 at hf
  intro H locs ls hP hS hl
  refine lv_iload hx hb dX8_lower_36 (lv_at hl 4 rfl) ?_
  refine lv_bipush (v := 25) hx hb dX8_lower_38 (by decide) ?_
  refine lv_icmp_ge (tgt := 96) hx hb dX8_lower_40 (by decide) (fun c_1 => ?_) (fun c_1 => ?_)
  · rw [if_pos c_1] at hf
    obtain rfl := Option.some.inj hf
    exact kx _ rfl H locs ls hP hS (lv_sub hl [3] rfl)
  · rw [if_neg c_1] at hf
    refine lv_aload_n hx hb dX8_lower_43 rfl (lv_at hl 0 rfl) ?_
    refine lv_iload_n hx hb dX8_lower_44 rfl (lv_at hl 1 rfl) ?_
    refine lv_iload_n hx hb dX8_lower_45 rfl (lv_at hl 2 rfl) ?_
    refine lv_iload hx hb dX8_lower_46 (lv_at hl 4 rfl) ?_
    refine lv_iconst (v := 5) hx hb dX8_lower_48 (by decide) ?_
    refine lv_idiv hx hb dX8_lower_49 (by decide) ?_
    refine lv_iload hx hb dX8_lower_50 (lv_at hl 4 rfl) ?_
    refine lv_iconst (v := 5) hx hb dX8_lower_52 (by decide) ?_
    refine lv_irem hx hb dX8_lower_53 (by decide) ?_
    obtain ⟨⟨a_2, σ_2, τ_2⟩, h_2, hf⟩ := jp_bind hf
    dsimp only at hf
    refine jp_callV (rest := []) B hP hS hl (ctX8_through ⟨hX0.1, hX0.2.1, hX0.2.2.1, hX0.2.2.2.1, hX0.2.2.2.2.1, hX0.2.2.2.2.2.1, hX0.2.2.2.2.2.2.1, hX0.2.2.2.2.2.2.2⟩ h_2) hX0.1 rfl mw_430 mw_427 mw_428 mw_429 mw_5 ddX8_through ⟨Nat.le_of_ble_eq_true rfl, Nat.le_of_ble_eq_true rfl⟩ ⟨Nat.zero_le _, Nat.zero_le _⟩ rfl (Nat.le_of_ble_eq_true rfl) dX8_lower_54 (fun H locs hP hS => ?_)
    refine lv_istore (lv' := [(5, .int a_2), (0, .ref (Γ.2.2.1 20)), (1, .int x1), (2, .int x2), (3, .int x3), (4, .int x4)]) hx hb dX8_lower_57 hl (by decide) rfl (fun ls hl => ?_)
    refine lv_iload hx hb dX8_lower_59 (lv_at hl 0 rfl) ?_
    refine lv_aload_n hx hb dX8_lower_61 rfl (lv_at hl 1 rfl) ?_
    refine jp_getr (k := 16) B hP hX0.1 rfl rfl (by decide) jp_fX8 rfl mw_150 dX8_lower_62 ?_
    refine lv_bipush (v := 36) hx hb dX8_lower_65 (by decide) ?_
    refine lv_iload_n hx hb dX8_lower_67 rfl (lv_at hl 2 rfl) ?_
    refine lv_imul hx hb dX8_lower_68 ?_
    refine lv_iload_n hx hb dX8_lower_69 rfl (lv_at hl 3 rfl) ?_
    refine lv_iadd hx hb dX8_lower_70 ?_
    obtain ⟨g_3, hf⟩ := jp_if hf
    refine jp_iald B hP hX0.2.2.2.2.2.2.2 (jp_ok_vp g_3) dX8_lower_71 ?_
    refine lv_icmp_ge (tgt := 90) hx hb dX8_lower_72 (by decide) (fun c_4 => ?_) (fun c_4 => ?_)
    · rw [if_pos c_4] at hf
      exact wbX8_lower_90_in36 B hX0 hf kb kx kr H locs ls hP hS (lv_sub hl [1, 2, 3, 4, 5] rfl)
    · rw [if_neg c_4] at hf
      refine lv_aload_n hx hb dX8_lower_75 rfl (lv_at hl 1 rfl) ?_
      refine jp_getr (k := 16) B hP hX0.1 rfl rfl (by decide) jp_fX8 rfl mw_150 dX8_lower_76 ?_
      refine lv_bipush (v := 36) hx hb dX8_lower_79 (by decide) ?_
      refine lv_iload_n hx hb dX8_lower_81 rfl (lv_at hl 2 rfl) ?_
      refine lv_imul hx hb dX8_lower_82 ?_
      refine lv_iload_n hx hb dX8_lower_83 rfl (lv_at hl 3 rfl) ?_
      refine lv_iadd hx hb dX8_lower_84 ?_
      refine lv_iload hx hb dX8_lower_85 (lv_at hl 0 rfl) ?_
      obtain ⟨g_5, hf⟩ := jp_if hf
      refine jp_iast B hP hS hX0.2.2.2.2.2.2.2 (jp_ok_vp g_5) dX8_lower_87 (fun H locs hP hS => ?_)
      refine lv_iconst (v := 1) hx hb dX8_lower_88 (by decide) ?_
      refine lv_istore_n (lv' := [(3, .int 1), (5, .int a_2), (0, .ref (Γ.2.2.1 20)), (1, .int x1), (2, .int x2), (4, .int x4)]) hx hb dX8_lower_89 rfl hl (by decide) rfl (fun ls hl => ?_)
      exact wbX8_lower_90_in36 B hX0 hf kb kx kr H locs ls hP hS (lv_sub hl [2, 3, 4, 0, 5] rfl)
set_option maxHeartbeats 4000000 in
theorem lX8_lower_36 (B : jp_B Γ p s m args meth c RX8 cX8_lower 6 (some .boolean)) (hX0 : jp_hM Z) {x1 : Int32} {x2 : Int32} {e1 : Sum (Int32) Int32} {σ1 : jp_I} {τ1 : jp_J} (kx : ∀ v : Int32, e1 = .inl v → jp_at p l e (jp_R 3 73) s m args below meth c (MQ below (jp_Q Γ Z (some (.int r0)) σ0 τ0) args s 0 0 (jp_A Γ)) 6 Γ Z 96 [(3, .int v)] [] σ1 τ1) (kr : ∀ v : Int32, e1 = .inr v → r0 = v ∧ σ0 = σ1 ∧ τ0 = τ1) : ∀ (k : Nat) (v : Int32 × Int32) (σ : jp_I) (τ : jp_J), jp_loop (fun q : (Int32 × Int32) × jp_I × jp_J => sX8_lower_36 x1 x2 q.1.1 q.1.2 q.2.1 q.2.2) k (v, σ, τ) = some (e1, σ1, τ1) → jp_at p l e (jp_R 3 73) s m args below meth c (MQ below (jp_Q Γ Z (some (.int r0)) σ0 τ0) args s 0 0 (jp_A Γ)) 6 Γ Z 36 [(0, .ref (Γ.2.2.1 20)), (1, .int x1), (2, .int x2), (3, .int v.1), (4, .int v.2)] [] σ τ := by
  refine jp_loopI (P := fun (v : Int32 × Int32) (σ : jp_I) (τ : jp_J) => jp_at p l e (jp_R 3 73) s m args below meth c (MQ below (jp_Q Γ Z (some (.int r0)) σ0 τ0) args s 0 0 (jp_A Γ)) 6 Γ Z 36 [(0, .ref (Γ.2.2.1 20)), (1, .int x1), (2, .int x2), (3, .int v.1), (4, .int v.2)] [] σ τ) (fun v σ τ q hq hbk hen => ?_)
  exact wsX8_lower_36 B hX0 hq (fun v' hv => hbk v' hv) (fun x hv => by obtain ⟨h1, h2, h3⟩ := hen _ hv; rw [h2, h3]; exact kx x h1.symm) (fun r hv => by obtain ⟨h1, h2, h3⟩ := hen _ hv; rw [h2, h3]; exact kr r h1.symm)
def bX8_lower_31 (x1 : Int32) (x2 : Int32) (σ : jp_I) (τ : jp_J) : Option (Int32 × jp_I × jp_J) :=
  (jp_loop (fun q : (Int32 × Int32) × jp_I × jp_J => sX8_lower_36 x1 x2 q.1.1 q.1.2 q.2.1 q.2.2) jp_F ((0, 0), σ, τ)).bind fun (e_1, σ_1, τ_1) => match e_1 with
    | .inl v_1 => (if jp_isb v_1 = true then some (v_1, σ_1, τ_1) else none)
    | .inr r_1 => some (r_1, σ_1, τ_1)
set_option maxHeartbeats 4000000 in
set_option maxRecDepth 20000 in
theorem wbX8_lower_31 (B : jp_B Γ p s m args meth c RX8 cX8_lower 6 (some .boolean)) (hX0 : jp_hM Z) {x1 : Int32} {x2 : Int32} {σ : jp_I} {τ : jp_J} (hf : bX8_lower_31 x1 x2 σ τ = some (r0, σ0, τ0)) : jp_at p l e (jp_R 3 73) s m args below meth c (MQ below (jp_Q Γ Z (some (.int r0)) σ0 τ0) args s 0 0 (jp_A Γ)) 6 Γ Z 31 [(0, .ref (Γ.2.2.1 20)), (1, .int x1), (2, .int x2)] [] σ τ := by
  obtain ⟨hx, hb, hml, hown, hts, hr, hlk, hE⟩ := id B
  unfold bX8_lower_31 at hf
  intro H locs ls hP hS hl
  refine lv_iconst (v := 0) hx hb dX8_lower_31 (by decide) ?_
  refine lv_istore_n (lv' := [(3, .int 0), (0, .ref (Γ.2.2.1 20)), (1, .int x1), (2, .int x2)]) hx hb dX8_lower_32 rfl hl (by decide) rfl (fun ls hl => ?_)
  refine lv_iconst (v := 0) hx hb dX8_lower_33 (by decide) ?_
  refine lv_istore (lv' := [(4, .int 0), (3, .int 0), (0, .ref (Γ.2.2.1 20)), (1, .int x1), (2, .int x2)]) hx hb dX8_lower_34 hl (by decide) rfl (fun ls hl => ?_)
  obtain ⟨⟨e_1, σ_1, τ_1⟩, h_1, hf⟩ := jp_bind hf
  refine lX8_lower_36 (r0 := r0) B hX0 (x1 := x1) (x2 := x2) (fun v_1 k_1 => ?_) (fun r_1 k_1 => ?_) _ _ _ _ h_1 H locs ls hP hS (lv_sub hl [2, 3, 4, 1, 0] rfl)
  · subst k_1
    dsimp only at hf
    intro H locs ls hP hS hl
    refine lv_iload_n hx hb dX8_lower_96 rfl (lv_at hl 0 rfl) ?_
    obtain ⟨g_2, hf⟩ := jp_if hf
    exact jp_endz B hP hS g_2 dX8_lower_97 (jp_inj hf)
  · subst k_1
    dsimp only at hf
    exact jp_inj hf
def fX8_lower (p1 : Int32) (p2 : Int32) (σ : jp_I) (τ : jp_J) : Option (Int32 × jp_I × jp_J) :=
  (fX8_outside p1 σ τ).bind fun (a_1, σ_1, τ_1) => if a_1 = 0 then (if (σ_1 20 1) = 2 then ((fX8_outside p2 σ_1 τ_1).bind fun (a_4, σ_4, τ_4) => if a_4 = 0 then (if p1 = p2 then (some (0, σ_4, τ_4)) else (bX8_lower_31 p1 p2 σ_4 τ_4)) else (some (0, σ_4, τ_4))) else (bX8_lower_31 p1 p2 σ_1 τ_1)) else (some (0, σ_1, τ_1))
set_option maxHeartbeats 4000000 in
set_option maxRecDepth 20000 in
theorem ctX8_lower {l : Launch} {Γ : jp_G} {Z : Nat → Option jp_Sh} (hX0 : jp_hM Z) {p1 : Int32} {p2 : Int32} {σ σ0 : jp_I} {τ τ0 : jp_J} {r0 : Int32} (hf : fX8_lower p1 p2 σ τ = some (r0, σ0, τ0)) : jp_M l yX8_lower cX8_lower 6 (some .boolean) 3 73 Γ Z σ τ [.ref (Γ.2.2.1 20), .int p1, .int p2] (some (.int r0)) σ0 τ0 := by
  refine jp_mk (lv := [(0, .ref (Γ.2.2.1 20)), (1, .int p1), (2, .int p2)]) (by decide) (Nat.le_of_ble_eq_true rfl) rfl fun p e s m args below meth c B => ?_
  obtain ⟨hx, hb, hml, hown, hts, hr, hlk, hE⟩ := id B
  unfold fX8_lower at hf
  intro H locs ls hP hS hl
  refine lv_aload_n hx hb dX8_lower_0 rfl (lv_at hl 0 rfl) ?_
  refine lv_iload_n hx hb dX8_lower_1 rfl (lv_at hl 1 rfl) ?_
  obtain ⟨⟨a_1, σ_1, τ_1⟩, h_1, hf⟩ := jp_bind hf
  dsimp only at hf
  refine jp_callV (rest := []) B hP hS hl (ctX8_outside ⟨hX0.1, hX0.2.1, hX0.2.2.1, hX0.2.2.2.1, hX0.2.2.2.2.1, hX0.2.2.2.2.2.1, hX0.2.2.2.2.2.2.1, hX0.2.2.2.2.2.2.2⟩ h_1) hX0.1 rfl mw_426 mw_423 mw_424 mw_425 mw_5 ddX8_outside ⟨Nat.le_of_ble_eq_true rfl, Nat.le_of_ble_eq_true rfl⟩ ⟨Nat.zero_le _, Nat.zero_le _⟩ rfl (Nat.le_of_ble_eq_true rfl) dX8_lower_2 (fun H locs hP hS => ?_)
  refine lv_if_ne (tgt := 29) hx hb dX8_lower_5 (by decide) (fun c_2 => ?_) (fun c_2 => ?_)
  · rw [if_neg c_2] at hf
    refine lv_iconst (v := 0) hx hb dX8_lower_29 (by decide) ?_
    exact jp_endz B hP hS (by decide) dX8_lower_30 (jp_inj hf)
  · rw [if_pos c_2] at hf
    refine lv_aload_n hx hb dX8_lower_8 rfl (lv_at hl 0 rfl) ?_
    refine jp_geti (k := 1) B hP hX0.1 rfl rfl (by decide) jp_fX8 rfl mw_151 dX8_lower_9 ?_
    refine lv_iconst (v := 2) hx hb dX8_lower_12 (by decide) ?_
    refine lv_icmp_ne (tgt := 31) hx hb dX8_lower_13 (by decide) (fun c_3 => ?_) (fun c_3 => ?_)
    · rw [if_neg c_3] at hf
      exact wbX8_lower_31 B hX0 hf H locs ls hP hS (lv_sub hl [0, 1, 2] rfl)
    · rw [if_pos c_3] at hf
      refine lv_aload_n hx hb dX8_lower_16 rfl (lv_at hl 0 rfl) ?_
      refine lv_iload_n hx hb dX8_lower_17 rfl (lv_at hl 2 rfl) ?_
      obtain ⟨⟨a_4, σ_4, τ_4⟩, h_4, hf⟩ := jp_bind hf
      dsimp only at hf
      refine jp_callV (rest := []) B hP hS hl (ctX8_outside ⟨hX0.1, hX0.2.1, hX0.2.2.1, hX0.2.2.2.1, hX0.2.2.2.2.1, hX0.2.2.2.2.2.1, hX0.2.2.2.2.2.2.1, hX0.2.2.2.2.2.2.2⟩ h_4) hX0.1 rfl mw_426 mw_423 mw_424 mw_425 mw_5 ddX8_outside ⟨Nat.le_of_ble_eq_true rfl, Nat.le_of_ble_eq_true rfl⟩ ⟨Nat.zero_le _, Nat.zero_le _⟩ rfl (Nat.le_of_ble_eq_true rfl) dX8_lower_18 (fun H locs hP hS => ?_)
      refine lv_if_ne (tgt := 29) hx hb dX8_lower_21 (by decide) (fun c_5 => ?_) (fun c_5 => ?_)
      · rw [if_neg c_5] at hf
        refine lv_iconst (v := 0) hx hb dX8_lower_29 (by decide) ?_
        exact jp_endz B hP hS (by decide) dX8_lower_30 (jp_inj hf)
      · rw [if_pos c_5] at hf
        refine lv_iload_n hx hb dX8_lower_24 rfl (lv_at hl 1 rfl) ?_
        refine lv_iload_n hx hb dX8_lower_25 rfl (lv_at hl 2 rfl) ?_
        refine lv_icmp_ne (tgt := 31) hx hb dX8_lower_26 (by decide) (fun c_6 => ?_) (fun c_6 => ?_)
        · rw [if_neg c_6] at hf
          exact wbX8_lower_31 B hX0 hf H locs ls hP hS (lv_sub hl [0, 1, 2] rfl)
        · rw [if_pos c_6] at hf
          refine lv_iconst (v := 0) hx hb dX8_lower_29 (by decide) ?_
          exact jp_endz B hP hS (by decide) dX8_lower_30 (jp_inj hf)
end
-- X8_firstMove
section
variable {p : Program} {l : Launch} {e : Jvm.Env} {s : State} {m : MethodId} {args : Array Value} {below : List Frame} {meth : Method} {c : Code} {Γ : jp_G} {Z : Nat → Option jp_Sh} {r0 : Int32} {σ0 : jp_I} {τ0 : jp_J}
def sX8_firstMove_2 (x1 : Int32) (x2 : Int32) (x3 : Int32) (σ : jp_I) (τ : jp_J) : Option (Sum (Int32) (Sum (Int32) Int32) × jp_I × jp_J) :=
  (fX8_through x1 x2 (x3 / 5) (x3 - x3 / 5 * 5) σ τ).bind fun (a_1, σ_1, τ_1) => if jp_ok ((36 * x1) + x2) 1476 = true then if a_1 = (σ_1 27 ((36 * x1) + x2).toNatClampNeg) then (some (.inr (.inl x3), σ_1, τ_1)) else (some (.inl (x3 + 1), σ_1, τ_1)) else none
set_option maxHeartbeats 4000000 in
set_option maxRecDepth 20000 in
theorem wsX8_firstMove_2 (B : jp_B Γ p s m args meth c RX8 cX8_firstMove 4 (some .int)) (hX0 : jp_hM Z) {x1 : Int32} {x2 : Int32} {x3 : Int32} {σ : jp_I} {τ : jp_J} {q : Sum (Int32) (Sum (Int32) Int32) × jp_I × jp_J} (hf : sX8_firstMove_2 x1 x2 x3 σ τ = some q) (kb : ∀ v : Int32, q.1 = .inl v → jp_at p l e (jp_R 3 73) s m args below meth c (MQ below (jp_Q Γ Z (some (.int r0)) σ0 τ0) args s 0 0 (jp_A Γ)) 4 Γ Z 2 [(0, .ref (Γ.2.2.1 20)), (1, .int x1), (2, .int x2), (3, .int v)] [] q.2.1 q.2.2) (kx : ∀ v : Int32, q.1 = .inr (.inl v) → jp_at p l e (jp_R 3 73) s m args below meth c (MQ below (jp_Q Γ Z (some (.int r0)) σ0 τ0) args s 0 0 (jp_A Γ)) 4 Γ Z 34 [(3, .int v)] [] q.2.1 q.2.2) (kr : ∀ v : Int32, q.1 = .inr (.inr v) → r0 = v ∧ σ0 = q.2.1 ∧ τ0 = q.2.2) : jp_at p l e (jp_R 3 73) s m args below meth c (MQ below (jp_Q Γ Z (some (.int r0)) σ0 τ0) args s 0 0 (jp_A Γ)) 4 Γ Z 2 [(0, .ref (Γ.2.2.1 20)), (1, .int x1), (2, .int x2), (3, .int x3)] [] σ τ := by
  obtain ⟨hx, hb, hml, hown, hts, hr, hlk, hE⟩ := id B
  unfold sX8_firstMove_2 at hf
  intro H locs ls hP hS hl
  refine lv_aload_n hx hb dX8_firstMove_2 rfl (lv_at hl 0 rfl) ?_
  refine lv_iload_n hx hb dX8_firstMove_3 rfl (lv_at hl 1 rfl) ?_
  refine lv_iload_n hx hb dX8_firstMove_4 rfl (lv_at hl 2 rfl) ?_
  refine lv_iload_n hx hb dX8_firstMove_5 rfl (lv_at hl 3 rfl) ?_
  refine lv_iconst (v := 5) hx hb dX8_firstMove_6 (by decide) ?_
  refine lv_idiv hx hb dX8_firstMove_7 (by decide) ?_
  refine lv_iload_n hx hb dX8_firstMove_8 rfl (lv_at hl 3 rfl) ?_
  refine lv_iconst (v := 5) hx hb dX8_firstMove_9 (by decide) ?_
  refine lv_irem hx hb dX8_firstMove_10 (by decide) ?_
  obtain ⟨⟨a_1, σ_1, τ_1⟩, h_1, hf⟩ := jp_bind hf
  dsimp only at hf
  refine jp_callV (rest := []) B hP hS hl (ctX8_through ⟨hX0.1, hX0.2.1, hX0.2.2.1, hX0.2.2.2.1, hX0.2.2.2.2.1, hX0.2.2.2.2.2.1, hX0.2.2.2.2.2.2.1, hX0.2.2.2.2.2.2.2⟩ h_1) hX0.1 rfl mw_430 mw_427 mw_428 mw_429 mw_5 ddX8_through ⟨Nat.le_of_ble_eq_true rfl, Nat.le_of_ble_eq_true rfl⟩ ⟨Nat.zero_le _, Nat.zero_le _⟩ rfl (Nat.le_of_ble_eq_true rfl) dX8_firstMove_11 (fun H locs hP hS => ?_)
  refine lv_aload_n hx hb dX8_firstMove_14 rfl (lv_at hl 0 rfl) ?_
  refine jp_getr (k := 16) B hP hX0.1 rfl rfl (by decide) jp_fX8 rfl mw_150 dX8_firstMove_15 ?_
  refine lv_bipush (v := 36) hx hb dX8_firstMove_18 (by decide) ?_
  refine lv_iload_n hx hb dX8_firstMove_20 rfl (lv_at hl 1 rfl) ?_
  refine lv_imul hx hb dX8_firstMove_21 ?_
  refine lv_iload_n hx hb dX8_firstMove_22 rfl (lv_at hl 2 rfl) ?_
  refine lv_iadd hx hb dX8_firstMove_23 ?_
  obtain ⟨g_2, hf⟩ := jp_if hf
  refine jp_iald B hP hX0.2.2.2.2.2.2.2 (jp_ok_vp g_2) dX8_firstMove_24 ?_
  refine lv_icmp_eq (tgt := 34) hx hb dX8_firstMove_25 (by decide) (fun c_3 => ?_) (fun c_3 => ?_)
  · rw [if_pos c_3] at hf
    obtain rfl := Option.some.inj hf
    exact kx _ rfl H locs ls hP hS (lv_sub hl [3] rfl)
  · rw [if_neg c_3] at hf
    refine lv_iinc (v := x3 + 1) (lv' := [(3, .int (x3 + 1)), (0, .ref (Γ.2.2.1 20)), (1, .int x1), (2, .int x2)]) hx hb dX8_firstMove_28 hl (k := 3) rfl rfl (by decide) rfl (fun ls hl => ?_)
    refine lv_goto (tgt := 2) hx hb dX8_firstMove_31 (by decide) ?_
    obtain rfl := Option.some.inj hf
    exact kb _ rfl H locs ls hP hS (lv_sub hl [1, 2, 3, 0] rfl)
set_option maxHeartbeats 4000000 in
theorem lX8_firstMove_2 (B : jp_B Γ p s m args meth c RX8 cX8_firstMove 4 (some .int)) (hX0 : jp_hM Z) {x1 : Int32} {x2 : Int32} {e1 : Sum (Int32) Int32} {σ1 : jp_I} {τ1 : jp_J} (kx : ∀ v : Int32, e1 = .inl v → jp_at p l e (jp_R 3 73) s m args below meth c (MQ below (jp_Q Γ Z (some (.int r0)) σ0 τ0) args s 0 0 (jp_A Γ)) 4 Γ Z 34 [(3, .int v)] [] σ1 τ1) (kr : ∀ v : Int32, e1 = .inr v → r0 = v ∧ σ0 = σ1 ∧ τ0 = τ1) : ∀ (k : Nat) (v : Int32) (σ : jp_I) (τ : jp_J), jp_loop (fun q : (Int32) × jp_I × jp_J => sX8_firstMove_2 x1 x2 q.1 q.2.1 q.2.2) k (v, σ, τ) = some (e1, σ1, τ1) → jp_at p l e (jp_R 3 73) s m args below meth c (MQ below (jp_Q Γ Z (some (.int r0)) σ0 τ0) args s 0 0 (jp_A Γ)) 4 Γ Z 2 [(0, .ref (Γ.2.2.1 20)), (1, .int x1), (2, .int x2), (3, .int v)] [] σ τ := by
  refine jp_loopI (P := fun (v : Int32) (σ : jp_I) (τ : jp_J) => jp_at p l e (jp_R 3 73) s m args below meth c (MQ below (jp_Q Γ Z (some (.int r0)) σ0 τ0) args s 0 0 (jp_A Γ)) 4 Γ Z 2 [(0, .ref (Γ.2.2.1 20)), (1, .int x1), (2, .int x2), (3, .int v)] [] σ τ) (fun v σ τ q hq hbk hen => ?_)
  exact wsX8_firstMove_2 B hX0 hq (fun v' hv => hbk v' hv) (fun x hv => by obtain ⟨h1, h2, h3⟩ := hen _ hv; rw [h2, h3]; exact kx x h1.symm) (fun r hv => by obtain ⟨h1, h2, h3⟩ := hen _ hv; rw [h2, h3]; exact kr r h1.symm)
def fX8_firstMove (p1 : Int32) (p2 : Int32) (σ : jp_I) (τ : jp_J) : Option (Int32 × jp_I × jp_J) :=
  (jp_loop (fun q : (Int32) × jp_I × jp_J => sX8_firstMove_2 p1 p2 q.1 q.2.1 q.2.2) jp_F (0, σ, τ)).bind fun (e_1, σ_1, τ_1) => match e_1 with
    | .inl v_1 => (some (v_1, σ_1, τ_1))
    | .inr r_1 => some (r_1, σ_1, τ_1)
set_option maxHeartbeats 4000000 in
set_option maxRecDepth 20000 in
theorem ctX8_firstMove {l : Launch} {Γ : jp_G} {Z : Nat → Option jp_Sh} (hX0 : jp_hM Z) {p1 : Int32} {p2 : Int32} {σ σ0 : jp_I} {τ τ0 : jp_J} {r0 : Int32} (hf : fX8_firstMove p1 p2 σ τ = some (r0, σ0, τ0)) : jp_M l yX8_firstMove cX8_firstMove 4 (some .int) 3 73 Γ Z σ τ [.ref (Γ.2.2.1 20), .int p1, .int p2] (some (.int r0)) σ0 τ0 := by
  refine jp_mk (lv := [(0, .ref (Γ.2.2.1 20)), (1, .int p1), (2, .int p2)]) (by decide) (Nat.le_of_ble_eq_true rfl) rfl fun p e s m args below meth c B => ?_
  obtain ⟨hx, hb, hml, hown, hts, hr, hlk, hE⟩ := id B
  unfold fX8_firstMove at hf
  intro H locs ls hP hS hl
  refine lv_iconst (v := 0) hx hb dX8_firstMove_0 (by decide) ?_
  refine lv_istore_n (lv' := [(3, .int 0), (0, .ref (Γ.2.2.1 20)), (1, .int p1), (2, .int p2)]) hx hb dX8_firstMove_1 rfl hl (by decide) rfl (fun ls hl => ?_)
  obtain ⟨⟨e_1, σ_1, τ_1⟩, h_1, hf⟩ := jp_bind hf
  refine lX8_firstMove_2 (r0 := r0) B hX0 (x1 := p1) (x2 := p2) (fun v_1 k_1 => ?_) (fun r_1 k_1 => ?_) _ _ _ _ h_1 H locs ls hP hS (lv_sub hl [1, 2, 3, 0] rfl)
  · subst k_1
    dsimp only at hf
    intro H locs ls hP hS hl
    refine lv_iload_n hx hb dX8_firstMove_34 rfl (lv_at hl 0 rfl) ?_
    exact jp_endi B hP hS dX8_firstMove_35 (jp_inj hf)
  · subst k_1
    dsimp only at hf
    exact jp_inj hf
end
-- X8_jointly
section
variable {p : Program} {l : Launch} {e : Jvm.Env} {s : State} {m : MethodId} {args : Array Value} {below : List Frame} {meth : Method} {c : Code} {Γ : jp_G} {Z : Nat → Option jp_Sh} {r0 : Int32} {σ0 : jp_I} {τ0 : jp_J}
def sX8_jointly_30 (x1 : Int32) (σ : jp_I) (τ : jp_J) : Option (Sum (Int32) (Sum (Unit) Int32) × jp_I × jp_J) :=
  if 1296 ≤ x1 then (some (.inr (.inl ()), σ, τ)) else (if jp_ok x1 1476 = true then some (.inl (x1 + 1), jp_up σ 27 x1.toNatClampNeg 1000000, τ) else none)
set_option maxHeartbeats 4000000 in
set_option maxRecDepth 20000 in
theorem wsX8_jointly_30 (B : jp_B Γ p s m args meth c RX8 cX8_jointly 5 none) (hX0 : jp_hM Z) {x1 : Int32} {σ : jp_I} {τ : jp_J} {q : Sum (Int32) (Sum (Unit) Int32) × jp_I × jp_J} (hf : sX8_jointly_30 x1 σ τ = some q) (kb : ∀ v : Int32, q.1 = .inl v → jp_at p l e (jp_R 4 98) s m args below meth c (MQ below (jp_Q Γ Z none σ0 τ0) args s 0 0 (jp_A Γ)) 5 Γ Z 30 [(0, .ref (Γ.2.2.1 20)), (1, .int v)] [] q.2.1 q.2.2) (kx : ∀ v : Unit, q.1 = .inr (.inl v) → jp_at p l e (jp_R 4 98) s m args below meth c (MQ below (jp_Q Γ Z none σ0 τ0) args s 0 0 (jp_A Γ)) 5 Γ Z 51 [(0, .ref (Γ.2.2.1 20))] [] q.2.1 q.2.2) (kr : ∀ v : Int32, q.1 = .inr (.inr v) → r0 = v ∧ σ0 = q.2.1 ∧ τ0 = q.2.2) : jp_at p l e (jp_R 4 98) s m args below meth c (MQ below (jp_Q Γ Z none σ0 τ0) args s 0 0 (jp_A Γ)) 5 Γ Z 30 [(0, .ref (Γ.2.2.1 20)), (1, .int x1)] [] σ τ := by
  obtain ⟨hx, hb, hml, hown, hts, hr, hlk, hE⟩ := id B
  unfold sX8_jointly_30 at hf
  intro H locs ls hP hS hl
  refine lv_iload_n hx hb dX8_jointly_30 rfl (lv_at hl 1 rfl) ?_
  refine lv_sipush (v := 1296) hx hb dX8_jointly_31 (by decide) ?_
  refine lv_icmp_ge (tgt := 51) hx hb dX8_jointly_34 (by decide) (fun c_1 => ?_) (fun c_1 => ?_)
  · rw [if_pos c_1] at hf
    obtain rfl := Option.some.inj hf
    exact kx _ rfl H locs ls hP hS (lv_sub hl [0] rfl)
  · rw [if_neg c_1] at hf
    refine lv_aload_n hx hb dX8_jointly_37 rfl (lv_at hl 0 rfl) ?_
    refine jp_getr (k := 16) B hP hX0.1 rfl rfl (by decide) jp_fX8 rfl mw_150 dX8_jointly_38 ?_
    refine lv_iload_n hx hb dX8_jointly_41 rfl (lv_at hl 1 rfl) ?_
    refine lv_ldc (v := 1000000) hx hb hown (hts _ mw_414) dX8_jointly_42 ?_
    obtain ⟨g_2, hf⟩ := jp_if hf
    refine jp_iast B hP hS hX0.2.2.2.2.2.2.2 (jp_ok_vp g_2) dX8_jointly_44 (fun H locs hP hS => ?_)
    refine lv_iinc (v := x1 + 1) (lv' := [(1, .int (x1 + 1)), (0, .ref (Γ.2.2.1 20))]) hx hb dX8_jointly_45 hl (k := 1) rfl rfl (by decide) rfl (fun ls hl => ?_)
    refine lv_goto (tgt := 30) hx hb dX8_jointly_48 (by decide) ?_
    obtain rfl := Option.some.inj hf
    exact kb _ rfl H locs ls hP hS (lv_sub hl [1, 0] rfl)
set_option maxHeartbeats 4000000 in
theorem lX8_jointly_30 (B : jp_B Γ p s m args meth c RX8 cX8_jointly 5 none) (hX0 : jp_hM Z) {e1 : Sum (Unit) Int32} {σ1 : jp_I} {τ1 : jp_J} (kx : ∀ v : Unit, e1 = .inl v → jp_at p l e (jp_R 4 98) s m args below meth c (MQ below (jp_Q Γ Z none σ0 τ0) args s 0 0 (jp_A Γ)) 5 Γ Z 51 [(0, .ref (Γ.2.2.1 20))] [] σ1 τ1) (kr : ∀ v : Int32, e1 = .inr v → r0 = v ∧ σ0 = σ1 ∧ τ0 = τ1) : ∀ (k : Nat) (v : Int32) (σ : jp_I) (τ : jp_J), jp_loop (fun q : (Int32) × jp_I × jp_J => sX8_jointly_30 q.1 q.2.1 q.2.2) k (v, σ, τ) = some (e1, σ1, τ1) → jp_at p l e (jp_R 4 98) s m args below meth c (MQ below (jp_Q Γ Z none σ0 τ0) args s 0 0 (jp_A Γ)) 5 Γ Z 30 [(0, .ref (Γ.2.2.1 20)), (1, .int v)] [] σ τ := by
  refine jp_loopI (P := fun (v : Int32) (σ : jp_I) (τ : jp_J) => jp_at p l e (jp_R 4 98) s m args below meth c (MQ below (jp_Q Γ Z none σ0 τ0) args s 0 0 (jp_A Γ)) 5 Γ Z 30 [(0, .ref (Γ.2.2.1 20)), (1, .int v)] [] σ τ) (fun v σ τ q hq hbk hen => ?_)
  exact wsX8_jointly_30 B hX0 hq (fun v' hv => hbk v' hv) (fun x hv => by obtain ⟨h1, h2, h3⟩ := hen _ hv; rw [h2, h3]; exact kx x h1.symm) (fun r hv => by obtain ⟨h1, h2, h3⟩ := hen _ hv; rw [h2, h3]; exact kr r h1.symm)
def bX8_jointly_118_in89 (x1 : Int32) (x2 : Int32) (x3 : Int32) (σ : jp_I) (τ : jp_J) : Option (Sum (Int32 × Int32) (Sum (Int32) Int32) × jp_I × jp_J) :=
  some (.inl (x1, x3 + 1), σ, τ)
set_option maxHeartbeats 4000000 in
set_option maxRecDepth 20000 in
theorem wbX8_jointly_118_in89 (B : jp_B Γ p s m args meth c RX8 cX8_jointly 5 none) (hX0 : jp_hM Z) {x1 : Int32} {x2 : Int32} {x3 : Int32} {σ : jp_I} {τ : jp_J} {q : Sum (Int32 × Int32) (Sum (Int32) Int32) × jp_I × jp_J} (hf : bX8_jointly_118_in89 x1 x2 x3 σ τ = some q) (kb : ∀ v : Int32 × Int32, q.1 = .inl v → jp_at p l e (jp_R 4 98) s m args below meth c (MQ below (jp_Q Γ Z none σ0 τ0) args s 0 0 (jp_A Γ)) 5 Γ Z 89 [(0, .ref (Γ.2.2.1 20)), (1, .int v.1), (2, .int x2), (3, .int v.2)] [] q.2.1 q.2.2) (kx : ∀ v : Int32, q.1 = .inr (.inl v) → jp_at p l e (jp_R 4 98) s m args below meth c (MQ below (jp_Q Γ Z none σ0 τ0) args s 0 0 (jp_A Γ)) 5 Γ Z 124 [(0, .ref (Γ.2.2.1 20)), (1, .int v), (2, .int x2)] [] q.2.1 q.2.2) (kr : ∀ v : Int32, q.1 = .inr (.inr v) → r0 = v ∧ σ0 = q.2.1 ∧ τ0 = q.2.2) : jp_at p l e (jp_R 4 98) s m args below meth c (MQ below (jp_Q Γ Z none σ0 τ0) args s 0 0 (jp_A Γ)) 5 Γ Z 118 [(0, .ref (Γ.2.2.1 20)), (1, .int x1), (2, .int x2), (3, .int x3)] [] σ τ := by
  obtain ⟨hx, hb, hml, hown, hts, hr, hlk, hE⟩ := id B
  unfold bX8_jointly_118_in89 at hf
  intro H locs ls hP hS hl
  refine lv_iinc (v := x3 + 1) (lv' := [(3, .int (x3 + 1)), (0, .ref (Γ.2.2.1 20)), (1, .int x1), (2, .int x2)]) hx hb dX8_jointly_118 hl (k := 3) rfl rfl (by decide) rfl (fun ls hl => ?_)
  refine lv_goto (tgt := 89) hx hb dX8_jointly_121 (by decide) ?_
  obtain rfl := Option.some.inj hf
  exact kb _ rfl H locs ls hP hS (lv_sub hl [1, 2, 3, 0] rfl)
def bX8_jointly_104_in89 (x1 : Int32) (x2 : Int32) (x3 : Int32) (y0 : Int32) (y1 : Int32) (σ : jp_I) (τ : jp_J) : Option (Sum (Int32 × Int32) (Sum (Int32) Int32) × jp_I × jp_J) :=
  if y1 ≤ y0 then (some (.inr (.inl x1), σ, τ)) else ((fX8_lower x2 x3 σ τ).bind fun (a_2, σ_2, τ_2) => if a_2 = 0 then (bX8_jointly_118_in89 x1 x2 x3 σ_2 τ_2) else (bX8_jointly_118_in89 1 x2 x3 σ_2 τ_2))
set_option maxHeartbeats 4000000 in
set_option maxRecDepth 20000 in
theorem wbX8_jointly_104_in89 (B : jp_B Γ p s m args meth c RX8 cX8_jointly 5 none) (hX0 : jp_hM Z) {x1 : Int32} {x2 : Int32} {x3 : Int32} {y0 : Int32} {y1 : Int32} {σ : jp_I} {τ : jp_J} {q : Sum (Int32 × Int32) (Sum (Int32) Int32) × jp_I × jp_J} (hf : bX8_jointly_104_in89 x1 x2 x3 y0 y1 σ τ = some q) (kb : ∀ v : Int32 × Int32, q.1 = .inl v → jp_at p l e (jp_R 4 98) s m args below meth c (MQ below (jp_Q Γ Z none σ0 τ0) args s 0 0 (jp_A Γ)) 5 Γ Z 89 [(0, .ref (Γ.2.2.1 20)), (1, .int v.1), (2, .int x2), (3, .int v.2)] [] q.2.1 q.2.2) (kx : ∀ v : Int32, q.1 = .inr (.inl v) → jp_at p l e (jp_R 4 98) s m args below meth c (MQ below (jp_Q Γ Z none σ0 τ0) args s 0 0 (jp_A Γ)) 5 Γ Z 124 [(0, .ref (Γ.2.2.1 20)), (1, .int v), (2, .int x2)] [] q.2.1 q.2.2) (kr : ∀ v : Int32, q.1 = .inr (.inr v) → r0 = v ∧ σ0 = q.2.1 ∧ τ0 = q.2.2) : jp_at p l e (jp_R 4 98) s m args below meth c (MQ below (jp_Q Γ Z none σ0 τ0) args s 0 0 (jp_A Γ)) 5 Γ Z 104 [(0, .ref (Γ.2.2.1 20)), (1, .int x1), (2, .int x2), (3, .int x3)] [.int y1, .int y0] σ τ := by
  obtain ⟨hx, hb, hml, hown, hts, hr, hlk, hE⟩ := id B
  unfold bX8_jointly_104_in89 at hf
  intro H locs ls hP hS hl
  refine lv_icmp_ge (tgt := 124) hx hb dX8_jointly_104 (by decide) (fun c_1 => ?_) (fun c_1 => ?_)
  · rw [if_pos c_1] at hf
    obtain rfl := Option.some.inj hf
    exact kx _ rfl H locs ls hP hS (lv_sub hl [0, 1, 2] rfl)
  · rw [if_neg c_1] at hf
    refine lv_aload_n hx hb dX8_jointly_107 rfl (lv_at hl 0 rfl) ?_
    refine lv_iload_n hx hb dX8_jointly_108 rfl (lv_at hl 2 rfl) ?_
    refine lv_iload_n hx hb dX8_jointly_109 rfl (lv_at hl 3 rfl) ?_
    obtain ⟨⟨a_2, σ_2, τ_2⟩, h_2, hf⟩ := jp_bind hf
    dsimp only at hf
    refine jp_callV (rest := []) B hP hS hl (ctX8_lower ⟨hX0.1, hX0.2.1, hX0.2.2.1, hX0.2.2.2.1, hX0.2.2.2.2.1, hX0.2.2.2.2.2.1, hX0.2.2.2.2.2.2.1, hX0.2.2.2.2.2.2.2⟩ h_2) hX0.1 rfl mw_422 mw_419 mw_420 mw_421 mw_5 ddX8_lower ⟨Nat.le_of_ble_eq_true rfl, Nat.le_of_ble_eq_true rfl⟩ ⟨Nat.zero_le _, Nat.zero_le _⟩ rfl (Nat.le_of_ble_eq_true rfl) dX8_jointly_110 (fun H locs hP hS => ?_)
    refine lv_if_eq (tgt := 118) hx hb dX8_jointly_113 (by decide) (fun c_3 => ?_) (fun c_3 => ?_)
    · rw [if_pos c_3] at hf
      exact wbX8_jointly_118_in89 B hX0 hf kb kx kr H locs ls hP hS (lv_sub hl [0, 1, 2, 3] rfl)
    · rw [if_neg c_3] at hf
      refine lv_iconst (v := 1) hx hb dX8_jointly_116 (by decide) ?_
      refine lv_istore_n (lv' := [(1, .int 1), (0, .ref (Γ.2.2.1 20)), (2, .int x2), (3, .int x3)]) hx hb dX8_jointly_117 rfl hl (by decide) rfl (fun ls hl => ?_)
      exact wbX8_jointly_118_in89 B hX0 hf kb kx kr H locs ls hP hS (lv_sub hl [1, 0, 2, 3] rfl)
def sX8_jointly_89 (x1 : Int32) (x2 : Int32) (x3 : Int32) (σ : jp_I) (τ : jp_J) : Option (Sum (Int32 × Int32) (Sum (Int32) Int32) × jp_I × jp_J) :=
  if (σ 20 1) = 2 then (bX8_jointly_104_in89 x1 x2 x3 x3 36 σ τ) else (bX8_jointly_104_in89 x1 x2 x3 x3 1 σ τ)
set_option maxHeartbeats 4000000 in
set_option maxRecDepth 20000 in
theorem wsX8_jointly_89 (B : jp_B Γ p s m args meth c RX8 cX8_jointly 5 none) (hX0 : jp_hM Z) {x1 : Int32} {x2 : Int32} {x3 : Int32} {σ : jp_I} {τ : jp_J} {q : Sum (Int32 × Int32) (Sum (Int32) Int32) × jp_I × jp_J} (hf : sX8_jointly_89 x1 x2 x3 σ τ = some q) (kb : ∀ v : Int32 × Int32, q.1 = .inl v → jp_at p l e (jp_R 4 98) s m args below meth c (MQ below (jp_Q Γ Z none σ0 τ0) args s 0 0 (jp_A Γ)) 5 Γ Z 89 [(0, .ref (Γ.2.2.1 20)), (1, .int v.1), (2, .int x2), (3, .int v.2)] [] q.2.1 q.2.2) (kx : ∀ v : Int32, q.1 = .inr (.inl v) → jp_at p l e (jp_R 4 98) s m args below meth c (MQ below (jp_Q Γ Z none σ0 τ0) args s 0 0 (jp_A Γ)) 5 Γ Z 124 [(0, .ref (Γ.2.2.1 20)), (1, .int v), (2, .int x2)] [] q.2.1 q.2.2) (kr : ∀ v : Int32, q.1 = .inr (.inr v) → r0 = v ∧ σ0 = q.2.1 ∧ τ0 = q.2.2) : jp_at p l e (jp_R 4 98) s m args below meth c (MQ below (jp_Q Γ Z none σ0 τ0) args s 0 0 (jp_A Γ)) 5 Γ Z 89 [(0, .ref (Γ.2.2.1 20)), (1, .int x1), (2, .int x2), (3, .int x3)] [] σ τ := by
  obtain ⟨hx, hb, hml, hown, hts, hr, hlk, hE⟩ := id B
  unfold sX8_jointly_89 at hf
  intro H locs ls hP hS hl
  refine lv_iload_n hx hb dX8_jointly_89 rfl (lv_at hl 3 rfl) ?_
  refine lv_aload_n hx hb dX8_jointly_90 rfl (lv_at hl 0 rfl) ?_
  refine jp_geti (k := 1) B hP hX0.1 rfl rfl (by decide) jp_fX8 rfl mw_151 dX8_jointly_91 ?_
  refine lv_iconst (v := 2) hx hb dX8_jointly_94 (by decide) ?_
  refine lv_icmp_ne (tgt := 103) hx hb dX8_jointly_95 (by decide) (fun c_1 => ?_) (fun c_1 => ?_)
  · rw [if_neg c_1] at hf
    refine lv_iconst (v := 1) hx hb dX8_jointly_103 (by decide) ?_
    exact wbX8_jointly_104_in89 B hX0 hf kb kx kr H locs ls hP hS (lv_sub hl [0, 1, 2, 3] rfl)
  · rw [if_pos c_1] at hf
    refine lv_bipush (v := 36) hx hb dX8_jointly_98 (by decide) ?_
    refine lv_goto (tgt := 104) hx hb dX8_jointly_100 (by decide) ?_
    exact wbX8_jointly_104_in89 B hX0 hf kb kx kr H locs ls hP hS (lv_sub hl [0, 1, 2, 3] rfl)
set_option maxHeartbeats 4000000 in
theorem lX8_jointly_89 (B : jp_B Γ p s m args meth c RX8 cX8_jointly 5 none) (hX0 : jp_hM Z) {x2 : Int32} {e1 : Sum (Int32) Int32} {σ1 : jp_I} {τ1 : jp_J} (kx : ∀ v : Int32, e1 = .inl v → jp_at p l e (jp_R 4 98) s m args below meth c (MQ below (jp_Q Γ Z none σ0 τ0) args s 0 0 (jp_A Γ)) 5 Γ Z 124 [(0, .ref (Γ.2.2.1 20)), (1, .int v), (2, .int x2)] [] σ1 τ1) (kr : ∀ v : Int32, e1 = .inr v → r0 = v ∧ σ0 = σ1 ∧ τ0 = τ1) : ∀ (k : Nat) (v : Int32 × Int32) (σ : jp_I) (τ : jp_J), jp_loop (fun q : (Int32 × Int32) × jp_I × jp_J => sX8_jointly_89 q.1.1 x2 q.1.2 q.2.1 q.2.2) k (v, σ, τ) = some (e1, σ1, τ1) → jp_at p l e (jp_R 4 98) s m args below meth c (MQ below (jp_Q Γ Z none σ0 τ0) args s 0 0 (jp_A Γ)) 5 Γ Z 89 [(0, .ref (Γ.2.2.1 20)), (1, .int v.1), (2, .int x2), (3, .int v.2)] [] σ τ := by
  refine jp_loopI (P := fun (v : Int32 × Int32) (σ : jp_I) (τ : jp_J) => jp_at p l e (jp_R 4 98) s m args below meth c (MQ below (jp_Q Γ Z none σ0 τ0) args s 0 0 (jp_A Γ)) 5 Γ Z 89 [(0, .ref (Γ.2.2.1 20)), (1, .int v.1), (2, .int x2), (3, .int v.2)] [] σ τ) (fun v σ τ q hq hbk hen => ?_)
  exact wsX8_jointly_89 B hX0 hq (fun v' hv => hbk v' hv) (fun x hv => by obtain ⟨h1, h2, h3⟩ := hen _ hv; rw [h2, h3]; exact kx x h1.symm) (fun r hv => by obtain ⟨h1, h2, h3⟩ := hen _ hv; rw [h2, h3]; exact kr r h1.symm)
def sX8_jointly_81 (x1 : Int32) (x2 : Int32) (σ : jp_I) (τ : jp_J) : Option (Sum (Int32 × Int32) (Sum (Int32) Int32) × jp_I × jp_J) :=
  if 36 ≤ x2 then (some (.inr (.inl x1), σ, τ)) else ((jp_loop (fun q : (Int32 × Int32) × jp_I × jp_J => sX8_jointly_89 q.1.1 x2 q.1.2 q.2.1 q.2.2) jp_F ((x1, 0), σ, τ)).bind fun (e_2, σ_2, τ_2) => match e_2 with
    | .inl v_2 => (some (.inl (v_2, x2 + 1), σ_2, τ_2))
    | .inr r_2 => some (.inr (.inr r_2), σ_2, τ_2))
set_option maxHeartbeats 4000000 in
set_option maxRecDepth 20000 in
theorem wsX8_jointly_81 (B : jp_B Γ p s m args meth c RX8 cX8_jointly 5 none) (hX0 : jp_hM Z) {x1 : Int32} {x2 : Int32} {σ : jp_I} {τ : jp_J} {q : Sum (Int32 × Int32) (Sum (Int32) Int32) × jp_I × jp_J} (hf : sX8_jointly_81 x1 x2 σ τ = some q) (kb : ∀ v : Int32 × Int32, q.1 = .inl v → jp_at p l e (jp_R 4 98) s m args below meth c (MQ below (jp_Q Γ Z none σ0 τ0) args s 0 0 (jp_A Γ)) 5 Γ Z 81 [(0, .ref (Γ.2.2.1 20)), (1, .int v.1), (2, .int v.2)] [] q.2.1 q.2.2) (kx : ∀ v : Int32, q.1 = .inr (.inl v) → jp_at p l e (jp_R 4 98) s m args below meth c (MQ below (jp_Q Γ Z none σ0 τ0) args s 0 0 (jp_A Γ)) 5 Γ Z 130 [(0, .ref (Γ.2.2.1 20)), (1, .int v)] [] q.2.1 q.2.2) (kr : ∀ v : Int32, q.1 = .inr (.inr v) → r0 = v ∧ σ0 = q.2.1 ∧ τ0 = q.2.2) : jp_at p l e (jp_R 4 98) s m args below meth c (MQ below (jp_Q Γ Z none σ0 τ0) args s 0 0 (jp_A Γ)) 5 Γ Z 81 [(0, .ref (Γ.2.2.1 20)), (1, .int x1), (2, .int x2)] [] σ τ := by
  obtain ⟨hx, hb, hml, hown, hts, hr, hlk, hE⟩ := id B
  unfold sX8_jointly_81 at hf
  intro H locs ls hP hS hl
  refine lv_iload_n hx hb dX8_jointly_81 rfl (lv_at hl 2 rfl) ?_
  refine lv_bipush (v := 36) hx hb dX8_jointly_82 (by decide) ?_
  refine lv_icmp_ge (tgt := 130) hx hb dX8_jointly_84 (by decide) (fun c_1 => ?_) (fun c_1 => ?_)
  · rw [if_pos c_1] at hf
    obtain rfl := Option.some.inj hf
    exact kx _ rfl H locs ls hP hS (lv_sub hl [0, 1] rfl)
  · rw [if_neg c_1] at hf
    refine lv_iconst (v := 0) hx hb dX8_jointly_87 (by decide) ?_
    refine lv_istore_n (lv' := [(3, .int 0), (0, .ref (Γ.2.2.1 20)), (1, .int x1), (2, .int x2)]) hx hb dX8_jointly_88 rfl hl (by decide) rfl (fun ls hl => ?_)
    obtain ⟨⟨e_2, σ_2, τ_2⟩, h_2, hf⟩ := jp_bind hf
    refine lX8_jointly_89 (r0 := r0) B hX0 (x2 := x2) (fun v_2 k_2 => ?_) (fun r_2 k_2 => ?_) _ _ _ _ h_2 H locs ls hP hS (lv_sub hl [1, 2, 3, 0] rfl)
    · subst k_2
      dsimp only at hf
      intro H locs ls hP hS hl
      refine lv_iinc (v := x2 + 1) (lv' := [(2, .int (x2 + 1)), (0, .ref (Γ.2.2.1 20)), (1, .int v_2)]) hx hb dX8_jointly_124 hl (k := 2) rfl rfl (by decide) rfl (fun ls hl => ?_)
      refine lv_goto (tgt := 81) hx hb dX8_jointly_127 (by decide) ?_
      obtain rfl := Option.some.inj hf
      exact kb _ rfl H locs ls hP hS (lv_sub hl [1, 2, 0] rfl)
    · subst k_2
      dsimp only at hf
      obtain rfl := Option.some.inj hf
      exact kr _ rfl
set_option maxHeartbeats 4000000 in
theorem lX8_jointly_81 (B : jp_B Γ p s m args meth c RX8 cX8_jointly 5 none) (hX0 : jp_hM Z) {e1 : Sum (Int32) Int32} {σ1 : jp_I} {τ1 : jp_J} (kx : ∀ v : Int32, e1 = .inl v → jp_at p l e (jp_R 4 98) s m args below meth c (MQ below (jp_Q Γ Z none σ0 τ0) args s 0 0 (jp_A Γ)) 5 Γ Z 130 [(0, .ref (Γ.2.2.1 20)), (1, .int v)] [] σ1 τ1) (kr : ∀ v : Int32, e1 = .inr v → r0 = v ∧ σ0 = σ1 ∧ τ0 = τ1) : ∀ (k : Nat) (v : Int32 × Int32) (σ : jp_I) (τ : jp_J), jp_loop (fun q : (Int32 × Int32) × jp_I × jp_J => sX8_jointly_81 q.1.1 q.1.2 q.2.1 q.2.2) k (v, σ, τ) = some (e1, σ1, τ1) → jp_at p l e (jp_R 4 98) s m args below meth c (MQ below (jp_Q Γ Z none σ0 τ0) args s 0 0 (jp_A Γ)) 5 Γ Z 81 [(0, .ref (Γ.2.2.1 20)), (1, .int v.1), (2, .int v.2)] [] σ τ := by
  refine jp_loopI (P := fun (v : Int32 × Int32) (σ : jp_I) (τ : jp_J) => jp_at p l e (jp_R 4 98) s m args below meth c (MQ below (jp_Q Γ Z none σ0 τ0) args s 0 0 (jp_A Γ)) 5 Γ Z 81 [(0, .ref (Γ.2.2.1 20)), (1, .int v.1), (2, .int v.2)] [] σ τ) (fun v σ τ q hq hbk hen => ?_)
  exact wsX8_jointly_81 B hX0 hq (fun v' hv => hbk v' hv) (fun x hv => by obtain ⟨h1, h2, h3⟩ := hen _ hv; rw [h2, h3]; exact kx x h1.symm) (fun r hv => by obtain ⟨h1, h2, h3⟩ := hen _ hv; rw [h2, h3]; exact kr r h1.symm)
def sX8_jointly_73 (x1 : Int32) (σ : jp_I) (τ : jp_J) : Option (Sum (Int32) (Sum (Unit) Int32) × jp_I × jp_J) :=
  if x1 = 0 then (some (.inr (.inl ()), σ, τ)) else ((jp_loop (fun q : (Int32 × Int32) × jp_I × jp_J => sX8_jointly_81 q.1.1 q.1.2 q.2.1 q.2.2) jp_F ((0, 0), σ, τ)).bind fun (e_2, σ_2, τ_2) => match e_2 with
    | .inl v_2 => (some (.inl v_2, σ_2, τ_2))
    | .inr r_2 => some (.inr (.inr r_2), σ_2, τ_2))
set_option maxHeartbeats 4000000 in
set_option maxRecDepth 20000 in
theorem wsX8_jointly_73 (B : jp_B Γ p s m args meth c RX8 cX8_jointly 5 none) (hX0 : jp_hM Z) {x1 : Int32} {σ : jp_I} {τ : jp_J} {q : Sum (Int32) (Sum (Unit) Int32) × jp_I × jp_J} (hf : sX8_jointly_73 x1 σ τ = some q) (kb : ∀ v : Int32, q.1 = .inl v → jp_at p l e (jp_R 4 98) s m args below meth c (MQ below (jp_Q Γ Z none σ0 τ0) args s 0 0 (jp_A Γ)) 5 Γ Z 73 [(0, .ref (Γ.2.2.1 20)), (1, .int v)] [] q.2.1 q.2.2) (kx : ∀ v : Unit, q.1 = .inr (.inl v) → jp_at p l e (jp_R 4 98) s m args below meth c (MQ below (jp_Q Γ Z none σ0 τ0) args s 0 0 (jp_A Γ)) 5 Γ Z 133 [(0, .ref (Γ.2.2.1 20))] [] q.2.1 q.2.2) (kr : ∀ v : Int32, q.1 = .inr (.inr v) → r0 = v ∧ σ0 = q.2.1 ∧ τ0 = q.2.2) : jp_at p l e (jp_R 4 98) s m args below meth c (MQ below (jp_Q Γ Z none σ0 τ0) args s 0 0 (jp_A Γ)) 5 Γ Z 73 [(0, .ref (Γ.2.2.1 20)), (1, .int x1)] [] σ τ := by
  obtain ⟨hx, hb, hml, hown, hts, hr, hlk, hE⟩ := id B
  unfold sX8_jointly_73 at hf
  intro H locs ls hP hS hl
  refine lv_iload_n hx hb dX8_jointly_73 rfl (lv_at hl 1 rfl) ?_
  refine lv_if_eq (tgt := 133) hx hb dX8_jointly_74 (by decide) (fun c_1 => ?_) (fun c_1 => ?_)
  · rw [if_pos c_1] at hf
    obtain rfl := Option.some.inj hf
    exact kx _ rfl H locs ls hP hS (lv_sub hl [0] rfl)
  · rw [if_neg c_1] at hf
    refine lv_iconst (v := 0) hx hb dX8_jointly_77 (by decide) ?_
    refine lv_istore_n (lv' := [(1, .int 0), (0, .ref (Γ.2.2.1 20))]) hx hb dX8_jointly_78 rfl hl (by decide) rfl (fun ls hl => ?_)
    refine lv_iconst (v := 0) hx hb dX8_jointly_79 (by decide) ?_
    refine lv_istore_n (lv' := [(2, .int 0), (1, .int 0), (0, .ref (Γ.2.2.1 20))]) hx hb dX8_jointly_80 rfl hl (by decide) rfl (fun ls hl => ?_)
    obtain ⟨⟨e_2, σ_2, τ_2⟩, h_2, hf⟩ := jp_bind hf
    refine lX8_jointly_81 (r0 := r0) B hX0 (fun v_2 k_2 => ?_) (fun r_2 k_2 => ?_) _ _ _ _ h_2 H locs ls hP hS (lv_sub hl [2, 1, 0] rfl)
    · subst k_2
      dsimp only at hf
      intro H locs ls hP hS hl
      refine lv_goto (tgt := 73) hx hb dX8_jointly_130 (by decide) ?_
      obtain rfl := Option.some.inj hf
      exact kb _ rfl H locs ls hP hS (lv_sub hl [0, 1] rfl)
    · subst k_2
      dsimp only at hf
      obtain rfl := Option.some.inj hf
      exact kr _ rfl
set_option maxHeartbeats 4000000 in
theorem lX8_jointly_73 (B : jp_B Γ p s m args meth c RX8 cX8_jointly 5 none) (hX0 : jp_hM Z) {e1 : Sum (Unit) Int32} {σ1 : jp_I} {τ1 : jp_J} (kx : ∀ v : Unit, e1 = .inl v → jp_at p l e (jp_R 4 98) s m args below meth c (MQ below (jp_Q Γ Z none σ0 τ0) args s 0 0 (jp_A Γ)) 5 Γ Z 133 [(0, .ref (Γ.2.2.1 20))] [] σ1 τ1) (kr : ∀ v : Int32, e1 = .inr v → r0 = v ∧ σ0 = σ1 ∧ τ0 = τ1) : ∀ (k : Nat) (v : Int32) (σ : jp_I) (τ : jp_J), jp_loop (fun q : (Int32) × jp_I × jp_J => sX8_jointly_73 q.1 q.2.1 q.2.2) k (v, σ, τ) = some (e1, σ1, τ1) → jp_at p l e (jp_R 4 98) s m args below meth c (MQ below (jp_Q Γ Z none σ0 τ0) args s 0 0 (jp_A Γ)) 5 Γ Z 73 [(0, .ref (Γ.2.2.1 20)), (1, .int v)] [] σ τ := by
  refine jp_loopI (P := fun (v : Int32) (σ : jp_I) (τ : jp_J) => jp_at p l e (jp_R 4 98) s m args below meth c (MQ below (jp_Q Γ Z none σ0 τ0) args s 0 0 (jp_A Γ)) 5 Γ Z 73 [(0, .ref (Γ.2.2.1 20)), (1, .int v)] [] σ τ) (fun v σ τ q hq hbk hen => ?_)
  exact wsX8_jointly_73 B hX0 hq (fun v' hv => hbk v' hv) (fun x hv => by obtain ⟨h1, h2, h3⟩ := hen _ hv; rw [h2, h3]; exact kx x h1.symm) (fun r hv => by obtain ⟨h1, h2, h3⟩ := hen _ hv; rw [h2, h3]; exact kr r h1.symm)
def bX8_jointly_269_in216 (x2 : Int32) (y0 : Int32) (σ : jp_I) (τ : jp_J) : Option (Sum (Int32 × Int32) (Sum (Unit) Int32) × jp_I × jp_J) :=
  if jp_ok ((jp_up σ 20 12 ((σ 20 12) + 1)) 20 12) 1600 = true then if jp_ok (400 + ((jp_up (jp_up σ 20 12 ((σ 20 12) + 1)) 24 ((jp_up σ 20 12 ((σ 20 12) + 1)) 20 12).toNatClampNeg x2) 20 12)) 1600 = true then some (.inl (x2, y0), jp_up (jp_up (jp_up σ 20 12 ((σ 20 12) + 1)) 24 ((jp_up σ 20 12 ((σ 20 12) + 1)) 20 12).toNatClampNeg x2) 24 (400 + ((jp_up (jp_up σ 20 12 ((σ 20 12) + 1)) 24 ((jp_up σ 20 12 ((σ 20 12) + 1)) 20 12).toNatClampNeg x2) 20 12)).toNatClampNeg y0, τ) else none else none
set_option maxHeartbeats 4000000 in
set_option maxRecDepth 20000 in
theorem wbX8_jointly_269_in216 (B : jp_B Γ p s m args meth c RX8 cX8_jointly 5 none) (hX0 : jp_hM Z) {x2 : Int32} {y0 : Int32} {σ : jp_I} {τ : jp_J} {q : Sum (Int32 × Int32) (Sum (Unit) Int32) × jp_I × jp_J} (hf : bX8_jointly_269_in216 x2 y0 σ τ = some q) (kb : ∀ v : Int32 × Int32, q.1 = .inl v → jp_at p l e (jp_R 4 98) s m args below meth c (MQ below (jp_Q Γ Z none σ0 τ0) args s 0 0 (jp_A Γ)) 5 Γ Z 216 [(0, .ref (Γ.2.2.1 20)), (2, .int v.1), (3, .int v.2)] [] q.2.1 q.2.2) (kx : ∀ v : Unit, q.1 = .inr (.inl v) → jp_at p l e (jp_R 4 98) s m args below meth c (MQ below (jp_Q Γ Z none σ0 τ0) args s 0 0 (jp_A Γ)) 5 Γ Z 307 [] [] q.2.1 q.2.2) (kr : ∀ v : Int32, q.1 = .inr (.inr v) → r0 = v ∧ σ0 = q.2.1 ∧ τ0 = q.2.2) : jp_at p l e (jp_R 4 98) s m args below meth c (MQ below (jp_Q Γ Z none σ0 τ0) args s 0 0 (jp_A Γ)) 5 Γ Z 269 [(0, .ref (Γ.2.2.1 20)), (2, .int x2)] [.int y0] σ τ := by
  obtain ⟨hx, hb, hml, hown, hts, hr, hlk, hE⟩ := id B
  unfold bX8_jointly_269_in216 at hf
  intro H locs ls hP hS hl
  refine lv_istore_n (lv' := [(3, .int y0), (0, .ref (Γ.2.2.1 20)), (2, .int x2)]) hx hb dX8_jointly_269 rfl hl (by decide) rfl (fun ls hl => ?_)
  refine lv_aload_n hx hb dX8_jointly_270 rfl (lv_at hl 1 rfl) ?_
  refine lv_dup hx hb dX8_jointly_271 rfl ?_
  refine jp_geti (k := 12) B hP hX0.1 rfl rfl (by decide) jp_fX8 rfl mw_146 dX8_jointly_272 ?_
  refine lv_iconst (v := 1) hx hb dX8_jointly_275 (by decide) ?_
  refine lv_iadd hx hb dX8_jointly_276 ?_
  refine jp_puti (k := 12) (ty := .int) B hP hS hX0.1 rfl rfl (by decide) jp_fX8 tyX8 tyX8_ok nmX8 rfl mw_146 rfl (by decide +kernel) rfl rfl dX8_jointly_277 (fun H locs hP hS => ?_)
  refine lv_aload_n hx hb dX8_jointly_280 rfl (lv_at hl 1 rfl) ?_
  refine jp_getr (k := 13) B hP hX0.1 rfl rfl (by decide) jp_fX8 rfl mw_147 dX8_jointly_281 ?_
  refine lv_aload_n hx hb dX8_jointly_284 rfl (lv_at hl 1 rfl) ?_
  refine jp_geti (k := 12) B hP hX0.1 rfl rfl (by decide) jp_fX8 rfl mw_146 dX8_jointly_285 ?_
  refine lv_iload_n hx hb dX8_jointly_288 rfl (lv_at hl 2 rfl) ?_
  obtain ⟨g_1, hf⟩ := jp_if hf
  refine jp_iast B hP hS hX0.2.2.2.2.1 (jp_ok_vp g_1) dX8_jointly_289 (fun H locs hP hS => ?_)
  refine lv_aload_n hx hb dX8_jointly_290 rfl (lv_at hl 1 rfl) ?_
  refine jp_getr (k := 13) B hP hX0.1 rfl rfl (by decide) jp_fX8 rfl mw_147 dX8_jointly_291 ?_
  refine lv_sipush (v := 400) hx hb dX8_jointly_294 (by decide) ?_
  refine lv_aload_n hx hb dX8_jointly_297 rfl (lv_at hl 1 rfl) ?_
  refine jp_geti (k := 12) B hP hX0.1 rfl rfl (by decide) jp_fX8 rfl mw_146 dX8_jointly_298 ?_
  refine lv_iadd hx hb dX8_jointly_301 ?_
  refine lv_iload_n hx hb dX8_jointly_302 rfl (lv_at hl 0 rfl) ?_
  obtain ⟨g_2, hf⟩ := jp_if hf
  refine jp_iast B hP hS hX0.2.2.2.2.1 (jp_ok_vp g_2) dX8_jointly_303 (fun H locs hP hS => ?_)
  refine lv_goto (tgt := 216) hx hb dX8_jointly_304 (by decide) ?_
  obtain rfl := Option.some.inj hf
  exact kb _ rfl H locs ls hP hS (lv_sub hl [1, 2, 0] rfl)
def sX8_jointly_216 (x2 : Int32) (x3 : Int32) (σ : jp_I) (τ : jp_J) : Option (Sum (Int32 × Int32) (Sum (Unit) Int32) × jp_I × jp_J) :=
  if jp_ok ((36 * x2) + x3) 1476 = true then if (σ 27 ((36 * x2) + x3).toNatClampNeg) ≤ 0 then (some (.inr (.inl ()), σ, τ)) else ((fX8_firstMove x2 x3 σ τ).bind fun (a_3, σ_3, τ_3) => (fX8_moved x2 (a_3 / 5) σ_3 τ_3).bind fun (a_4, σ_4, τ_4) => if (σ_4 20 1) = 2 then ((fX8_moved x3 (a_3 - a_3 / 5 * 5) σ_4 τ_4).bind fun (a_6, σ_6, τ_6) => bX8_jointly_269_in216 a_4 a_6 σ_6 τ_6) else (bX8_jointly_269_in216 a_4 x3 σ_4 τ_4)) else none
set_option maxHeartbeats 4000000 in
set_option maxRecDepth 20000 in
theorem wsX8_jointly_216 (B : jp_B Γ p s m args meth c RX8 cX8_jointly 5 none) (hX0 : jp_hM Z) {x2 : Int32} {x3 : Int32} {σ : jp_I} {τ : jp_J} {q : Sum (Int32 × Int32) (Sum (Unit) Int32) × jp_I × jp_J} (hf : sX8_jointly_216 x2 x3 σ τ = some q) (kb : ∀ v : Int32 × Int32, q.1 = .inl v → jp_at p l e (jp_R 4 98) s m args below meth c (MQ below (jp_Q Γ Z none σ0 τ0) args s 0 0 (jp_A Γ)) 5 Γ Z 216 [(0, .ref (Γ.2.2.1 20)), (2, .int v.1), (3, .int v.2)] [] q.2.1 q.2.2) (kx : ∀ v : Unit, q.1 = .inr (.inl v) → jp_at p l e (jp_R 4 98) s m args below meth c (MQ below (jp_Q Γ Z none σ0 τ0) args s 0 0 (jp_A Γ)) 5 Γ Z 307 [] [] q.2.1 q.2.2) (kr : ∀ v : Int32, q.1 = .inr (.inr v) → r0 = v ∧ σ0 = q.2.1 ∧ τ0 = q.2.2) : jp_at p l e (jp_R 4 98) s m args below meth c (MQ below (jp_Q Γ Z none σ0 τ0) args s 0 0 (jp_A Γ)) 5 Γ Z 216 [(0, .ref (Γ.2.2.1 20)), (2, .int x2), (3, .int x3)] [] σ τ := by
  obtain ⟨hx, hb, hml, hown, hts, hr, hlk, hE⟩ := id B
  unfold sX8_jointly_216 at hf
  intro H locs ls hP hS hl
  refine lv_aload_n hx hb dX8_jointly_216 rfl (lv_at hl 0 rfl) ?_
  refine jp_getr (k := 16) B hP hX0.1 rfl rfl (by decide) jp_fX8 rfl mw_150 dX8_jointly_217 ?_
  refine lv_bipush (v := 36) hx hb dX8_jointly_220 (by decide) ?_
  refine lv_iload_n hx hb dX8_jointly_222 rfl (lv_at hl 1 rfl) ?_
  refine lv_imul hx hb dX8_jointly_223 ?_
  refine lv_iload_n hx hb dX8_jointly_224 rfl (lv_at hl 2 rfl) ?_
  refine lv_iadd hx hb dX8_jointly_225 ?_
  obtain ⟨g_1, hf⟩ := jp_if hf
  refine jp_iald B hP hX0.2.2.2.2.2.2.2 (jp_ok_vp g_1) dX8_jointly_226 ?_
  refine lv_if_le (tgt := 307) hx hb dX8_jointly_227 (by decide) (fun c_2 => ?_) (fun c_2 => ?_)
  · rw [if_pos c_2] at hf
    obtain rfl := Option.some.inj hf
    exact kx _ rfl H locs ls hP hS (lv_sub hl [] rfl)
  · rw [if_neg c_2] at hf
    refine lv_aload_n hx hb dX8_jointly_230 rfl (lv_at hl 0 rfl) ?_
    refine lv_iload_n hx hb dX8_jointly_231 rfl (lv_at hl 1 rfl) ?_
    refine lv_iload_n hx hb dX8_jointly_232 rfl (lv_at hl 2 rfl) ?_
    obtain ⟨⟨a_3, σ_3, τ_3⟩, h_3, hf⟩ := jp_bind hf
    dsimp only at hf
    refine jp_callV (rest := []) B hP hS hl (ctX8_firstMove ⟨hX0.1, hX0.2.1, hX0.2.2.1, hX0.2.2.2.1, hX0.2.2.2.2.1, hX0.2.2.2.2.2.1, hX0.2.2.2.2.2.2.1, hX0.2.2.2.2.2.2.2⟩ h_3) hX0.1 rfl mw_441 mw_438 mw_439 mw_440 mw_5 ddX8_firstMove ⟨Nat.le_of_ble_eq_true rfl, Nat.le_of_ble_eq_true rfl⟩ ⟨Nat.zero_le _, Nat.zero_le _⟩ rfl (Nat.le_of_ble_eq_true rfl) dX8_jointly_233 (fun H locs hP hS => ?_)
    refine lv_istore (lv' := [(4, .int a_3), (0, .ref (Γ.2.2.1 20)), (2, .int x2), (3, .int x3)]) hx hb dX8_jointly_236 hl (by decide) rfl (fun ls hl => ?_)
    refine lv_aload_n hx hb dX8_jointly_238 rfl (lv_at hl 1 rfl) ?_
    refine lv_iload_n hx hb dX8_jointly_239 rfl (lv_at hl 2 rfl) ?_
    refine lv_iload hx hb dX8_jointly_240 (lv_at hl 0 rfl) ?_
    refine lv_iconst (v := 5) hx hb dX8_jointly_242 (by decide) ?_
    refine lv_idiv hx hb dX8_jointly_243 (by decide) ?_
    obtain ⟨⟨a_4, σ_4, τ_4⟩, h_4, hf⟩ := jp_bind hf
    dsimp only at hf
    refine jp_callV (rest := []) B hP hS hl (ctX8_moved ⟨hX0.1, hX0.2.1, hX0.2.2.1, hX0.2.2.2.1, hX0.2.2.2.2.1, hX0.2.2.2.2.2.1, hX0.2.2.2.2.2.2.1, hX0.2.2.2.2.2.2.2⟩ h_4) hX0.1 rfl mw_434 mw_431 mw_432 mw_433 mw_5 ddX8_moved ⟨Nat.le_of_ble_eq_true rfl, Nat.le_of_ble_eq_true rfl⟩ ⟨Nat.zero_le _, Nat.zero_le _⟩ rfl (Nat.le_of_ble_eq_true rfl) dX8_jointly_244 (fun H locs hP hS => ?_)
    refine lv_istore_n (lv' := [(2, .int a_4), (4, .int a_3), (0, .ref (Γ.2.2.1 20)), (3, .int x3)]) hx hb dX8_jointly_247 rfl hl (by decide) rfl (fun ls hl => ?_)
    refine lv_aload_n hx hb dX8_jointly_248 rfl (lv_at hl 2 rfl) ?_
    refine jp_geti (k := 1) B hP hX0.1 rfl rfl (by decide) jp_fX8 rfl mw_151 dX8_jointly_249 ?_
    refine lv_iconst (v := 2) hx hb dX8_jointly_252 (by decide) ?_
    refine lv_icmp_ne (tgt := 268) hx hb dX8_jointly_253 (by decide) (fun c_5 => ?_) (fun c_5 => ?_)
    · rw [if_neg c_5] at hf
      refine lv_iload_n hx hb dX8_jointly_268 rfl (lv_at hl 3 rfl) ?_
      exact wbX8_jointly_269_in216 B hX0 hf kb kx kr H locs ls hP hS (lv_sub hl [2, 0] rfl)
    · rw [if_pos c_5] at hf
      refine lv_aload_n hx hb dX8_jointly_256 rfl (lv_at hl 2 rfl) ?_
      refine lv_iload_n hx hb dX8_jointly_257 rfl (lv_at hl 3 rfl) ?_
      refine lv_iload hx hb dX8_jointly_258 (lv_at hl 1 rfl) ?_
      refine lv_iconst (v := 5) hx hb dX8_jointly_260 (by decide) ?_
      refine lv_irem hx hb dX8_jointly_261 (by decide) ?_
      obtain ⟨⟨a_6, σ_6, τ_6⟩, h_6, hf⟩ := jp_bind hf
      dsimp only at hf
      refine jp_callV (rest := []) B hP hS hl (ctX8_moved ⟨hX0.1, hX0.2.1, hX0.2.2.1, hX0.2.2.2.1, hX0.2.2.2.2.1, hX0.2.2.2.2.2.1, hX0.2.2.2.2.2.2.1, hX0.2.2.2.2.2.2.2⟩ h_6) hX0.1 rfl mw_434 mw_431 mw_432 mw_433 mw_5 ddX8_moved ⟨Nat.le_of_ble_eq_true rfl, Nat.le_of_ble_eq_true rfl⟩ ⟨Nat.zero_le _, Nat.zero_le _⟩ rfl (Nat.le_of_ble_eq_true rfl) dX8_jointly_262 (fun H locs hP hS => ?_)
      refine lv_goto (tgt := 269) hx hb dX8_jointly_265 (by decide) ?_
      exact wbX8_jointly_269_in216 B hX0 hf kb kx kr H locs ls hP hS (lv_sub hl [2, 0] rfl)
set_option maxHeartbeats 4000000 in
theorem lX8_jointly_216 (B : jp_B Γ p s m args meth c RX8 cX8_jointly 5 none) (hX0 : jp_hM Z) {e1 : Sum (Unit) Int32} {σ1 : jp_I} {τ1 : jp_J} (kx : ∀ v : Unit, e1 = .inl v → jp_at p l e (jp_R 4 98) s m args below meth c (MQ below (jp_Q Γ Z none σ0 τ0) args s 0 0 (jp_A Γ)) 5 Γ Z 307 [] [] σ1 τ1) (kr : ∀ v : Int32, e1 = .inr v → r0 = v ∧ σ0 = σ1 ∧ τ0 = τ1) : ∀ (k : Nat) (v : Int32 × Int32) (σ : jp_I) (τ : jp_J), jp_loop (fun q : (Int32 × Int32) × jp_I × jp_J => sX8_jointly_216 q.1.1 q.1.2 q.2.1 q.2.2) k (v, σ, τ) = some (e1, σ1, τ1) → jp_at p l e (jp_R 4 98) s m args below meth c (MQ below (jp_Q Γ Z none σ0 τ0) args s 0 0 (jp_A Γ)) 5 Γ Z 216 [(0, .ref (Γ.2.2.1 20)), (2, .int v.1), (3, .int v.2)] [] σ τ := by
  refine jp_loopI (P := fun (v : Int32 × Int32) (σ : jp_I) (τ : jp_J) => jp_at p l e (jp_R 4 98) s m args below meth c (MQ below (jp_Q Γ Z none σ0 τ0) args s 0 0 (jp_A Γ)) 5 Γ Z 216 [(0, .ref (Γ.2.2.1 20)), (2, .int v.1), (3, .int v.2)] [] σ τ) (fun v σ τ q hq hbk hen => ?_)
  exact wsX8_jointly_216 B hX0 hq (fun v' hv => hbk v' hv) (fun x hv => by obtain ⟨h1, h2, h3⟩ := hen _ hv; rw [h2, h3]; exact kx x h1.symm) (fun r hv => by obtain ⟨h1, h2, h3⟩ := hen _ hv; rw [h2, h3]; exact kr r h1.symm)
def bX8_jointly_189 (x2 : Int32) (x3 : Int32) (y1 : Int32) (σ : jp_I) (τ : jp_J) : Option (Int32 × jp_I × jp_J) :=
  if jp_isb y1 = true then if ((jp_up σ 20 9 y1) 20 9) = 0 then (some (0, jp_up σ 20 9 y1, τ)) else (if jp_ok 0 1600 = true then if jp_ok 400 1600 = true then (jp_loop (fun q : (Int32 × Int32) × jp_I × jp_J => sX8_jointly_216 q.1.1 q.1.2 q.2.1 q.2.2) jp_F ((x2, x3), jp_up (jp_up (jp_up σ 20 9 y1) 24 (0 : Int32).toNatClampNeg x2) 24 (400 : Int32).toNatClampNeg x3, τ)).bind fun (e_5, σ_5, τ_5) => match e_5 with
    | .inl _ => (some (0, σ_5, τ_5))
    | .inr r_5 => some (r_5, σ_5, τ_5) else none else none) else none
set_option maxHeartbeats 4000000 in
set_option maxRecDepth 20000 in
theorem wbX8_jointly_189 (B : jp_B Γ p s m args meth c RX8 cX8_jointly 5 none) (hX0 : jp_hM Z) {x2 : Int32} {x3 : Int32} {y1 : Int32} {σ : jp_I} {τ : jp_J} (hf : bX8_jointly_189 x2 x3 y1 σ τ = some (r0, σ0, τ0)) : jp_at p l e (jp_R 4 98) s m args below meth c (MQ below (jp_Q Γ Z none σ0 τ0) args s 0 0 (jp_A Γ)) 5 Γ Z 189 [(0, .ref (Γ.2.2.1 20)), (2, .int x2), (3, .int x3)] [.int y1, .ref (Γ.2.2.1 20)] σ τ := by
  obtain ⟨hx, hb, hml, hown, hts, hr, hlk, hE⟩ := id B
  unfold bX8_jointly_189 at hf
  intro H locs ls hP hS hl
  obtain ⟨g_1, hf⟩ := jp_if hf
  refine jp_puti (k := 9) (ty := .boolean) B hP hS hX0.1 rfl rfl (by decide) jp_fX8 tyX8 tyX8_ok nmX8 rfl mw_143 rfl (by decide +kernel) (jp_isb_n g_1) (jp_isb_f g_1) dX8_jointly_189 (fun H locs hP hS => ?_)
  refine lv_aload_n hx hb dX8_jointly_192 rfl (lv_at hl 0 rfl) ?_
  refine jp_geti (k := 9) B hP hX0.1 rfl rfl (by decide) jp_fX8 rfl mw_143 dX8_jointly_193 ?_
  refine lv_if_ne (tgt := 200) hx hb dX8_jointly_196 (by decide) (fun c_2 => ?_) (fun c_2 => ?_)
  · rw [if_neg c_2] at hf
    refine lv_aload_n hx hb dX8_jointly_200 rfl (lv_at hl 0 rfl) ?_
    refine jp_getr (k := 13) B hP hX0.1 rfl rfl (by decide) jp_fX8 rfl mw_147 dX8_jointly_201 ?_
    refine lv_iconst (v := 0) hx hb dX8_jointly_204 (by decide) ?_
    refine lv_iload_n hx hb dX8_jointly_205 rfl (lv_at hl 1 rfl) ?_
    obtain ⟨g_3, hf⟩ := jp_if hf
    refine jp_iast B hP hS hX0.2.2.2.2.1 (jp_ok_vp g_3) dX8_jointly_206 (fun H locs hP hS => ?_)
    refine lv_aload_n hx hb dX8_jointly_207 rfl (lv_at hl 0 rfl) ?_
    refine jp_getr (k := 13) B hP hX0.1 rfl rfl (by decide) jp_fX8 rfl mw_147 dX8_jointly_208 ?_
    refine lv_sipush (v := 400) hx hb dX8_jointly_211 (by decide) ?_
    refine lv_iload_n hx hb dX8_jointly_214 rfl (lv_at hl 2 rfl) ?_
    obtain ⟨g_4, hf⟩ := jp_if hf
    refine jp_iast B hP hS hX0.2.2.2.2.1 (jp_ok_vp g_4) dX8_jointly_215 (fun H locs hP hS => ?_)
    obtain ⟨⟨e_5, σ_5, τ_5⟩, h_5, hf⟩ := jp_bind hf
    refine lX8_jointly_216 (r0 := r0) B hX0 (fun v_5 k_5 => ?_) (fun r_5 k_5 => ?_) _ _ _ _ h_5 H locs ls hP hS (lv_sub hl [0, 1, 2] rfl)
    · subst k_5
      dsimp only at hf
      intro H locs ls hP hS hl
      exact jp_endv B hP hS dX8_jointly_307 (jp_inj hf)
    · subst k_5
      dsimp only at hf
      exact jp_inj hf
  · rw [if_pos c_2] at hf
    exact jp_endv B hP hS dX8_jointly_199 (jp_inj hf)
def bX8_jointly_158 (x2 : Int32) (y0 : Int32) (σ : jp_I) (τ : jp_J) : Option (Int32 × jp_I × jp_J) :=
  if jp_ok ((36 * x2) + y0) 1476 = true then if 1000000 ≤ ((jp_up σ 20 11 (σ 27 ((36 * x2) + y0).toNatClampNeg)) 20 11) then (bX8_jointly_189 x2 y0 0 (jp_up σ 20 11 (σ 27 ((36 * x2) + y0).toNatClampNeg)) τ) else (bX8_jointly_189 x2 y0 1 (jp_up σ 20 11 (σ 27 ((36 * x2) + y0).toNatClampNeg)) τ) else none
set_option maxHeartbeats 4000000 in
set_option maxRecDepth 20000 in
theorem wbX8_jointly_158 (B : jp_B Γ p s m args meth c RX8 cX8_jointly 5 none) (hX0 : jp_hM Z) {x2 : Int32} {y0 : Int32} {σ : jp_I} {τ : jp_J} (hf : bX8_jointly_158 x2 y0 σ τ = some (r0, σ0, τ0)) : jp_at p l e (jp_R 4 98) s m args below meth c (MQ below (jp_Q Γ Z none σ0 τ0) args s 0 0 (jp_A Γ)) 5 Γ Z 158 [(0, .ref (Γ.2.2.1 20)), (2, .int x2)] [.int y0] σ τ := by
  obtain ⟨hx, hb, hml, hown, hts, hr, hlk, hE⟩ := id B
  unfold bX8_jointly_158 at hf
  intro H locs ls hP hS hl
  refine lv_istore_n (lv' := [(3, .int y0), (0, .ref (Γ.2.2.1 20)), (2, .int x2)]) hx hb dX8_jointly_158 rfl hl (by decide) rfl (fun ls hl => ?_)
  refine lv_aload_n hx hb dX8_jointly_159 rfl (lv_at hl 1 rfl) ?_
  refine lv_aload_n hx hb dX8_jointly_160 rfl (lv_at hl 1 rfl) ?_
  refine jp_getr (k := 16) B hP hX0.1 rfl rfl (by decide) jp_fX8 rfl mw_150 dX8_jointly_161 ?_
  refine lv_bipush (v := 36) hx hb dX8_jointly_164 (by decide) ?_
  refine lv_iload_n hx hb dX8_jointly_166 rfl (lv_at hl 2 rfl) ?_
  refine lv_imul hx hb dX8_jointly_167 ?_
  refine lv_iload_n hx hb dX8_jointly_168 rfl (lv_at hl 0 rfl) ?_
  refine lv_iadd hx hb dX8_jointly_169 ?_
  obtain ⟨g_1, hf⟩ := jp_if hf
  refine jp_iald B hP hX0.2.2.2.2.2.2.2 (jp_ok_vp g_1) dX8_jointly_170 ?_
  refine jp_puti (k := 11) (ty := .int) B hP hS hX0.1 rfl rfl (by decide) jp_fX8 tyX8 tyX8_ok nmX8 rfl mw_145 rfl (by decide +kernel) rfl rfl dX8_jointly_171 (fun H locs hP hS => ?_)
  refine lv_aload_n hx hb dX8_jointly_174 rfl (lv_at hl 1 rfl) ?_
  refine lv_aload_n hx hb dX8_jointly_175 rfl (lv_at hl 1 rfl) ?_
  refine jp_geti (k := 11) B hP hX0.1 rfl rfl (by decide) jp_fX8 rfl mw_145 dX8_jointly_176 ?_
  refine lv_ldc (v := 1000000) hx hb hown (hts _ mw_414) dX8_jointly_179 ?_
  refine lv_icmp_ge (tgt := 188) hx hb dX8_jointly_181 (by decide) (fun c_2 => ?_) (fun c_2 => ?_)
  · rw [if_pos c_2] at hf
    refine lv_iconst (v := 0) hx hb dX8_jointly_188 (by decide) ?_
    exact wbX8_jointly_189 B hX0 hf H locs ls hP hS (lv_sub hl [1, 2, 0] rfl)
  · rw [if_neg c_2] at hf
    refine lv_iconst (v := 1) hx hb dX8_jointly_184 (by decide) ?_
    refine lv_goto (tgt := 189) hx hb dX8_jointly_185 (by decide) ?_
    exact wbX8_jointly_189 B hX0 hf H locs ls hP hS (lv_sub hl [1, 2, 0] rfl)
def fX8_jointly (σ : jp_I) (τ : jp_J) : Option (Int32 × jp_I × jp_J) :=
  if ((jp_up (jp_up σ 20 10 1) 20 12 0) 20 1) = 0 then (some (0, jp_up (jp_up (jp_up (jp_up σ 20 10 1) 20 12 0) 20 11 0) 20 9 1, τ)) else ((jp_loop (fun q : (Int32) × jp_I × jp_J => sX8_jointly_30 q.1 q.2.1 q.2.2) jp_F (0, jp_up (jp_up σ 20 10 1) 20 12 0, τ)).bind fun (e_2, σ_2, τ_2) => match e_2 with
    | .inl _ => ((fX8_goal 0 σ_2 τ_2).bind fun (a_3, σ_3, τ_3) => (fX8_goal 1 σ_3 τ_3).bind fun (a_4, σ_4, τ_4) => if jp_ok ((36 * a_3) + a_4) 1476 = true then (jp_loop (fun q : (Int32) × jp_I × jp_J => sX8_jointly_73 q.1 q.2.1 q.2.2) jp_F (1, jp_up σ_4 27 ((36 * a_3) + a_4).toNatClampNeg 0, τ_4)).bind fun (e_6, σ_6, τ_6) => match e_6 with
    | .inl _ => (if jp_ok 0 4 = true then if (σ_6 20 1) = 2 then (if jp_ok 1 4 = true then bX8_jointly_158 (σ_6 22 (0 : Int32).toNatClampNeg) (σ_6 22 (1 : Int32).toNatClampNeg) σ_6 τ_6 else none) else (bX8_jointly_158 (σ_6 22 (0 : Int32).toNatClampNeg) 0 σ_6 τ_6) else none)
    | .inr r_6 => some (r_6, σ_6, τ_6) else none)
    | .inr r_2 => some (r_2, σ_2, τ_2))
set_option maxHeartbeats 4000000 in
set_option maxRecDepth 20000 in
theorem ctX8_jointly {l : Launch} {Γ : jp_G} {Z : Nat → Option jp_Sh} (hX0 : jp_hM Z) {σ σ0 : jp_I} {τ τ0 : jp_J} {r0 : Int32} (hf : fX8_jointly σ τ = some (r0, σ0, τ0)) : jp_M l yX8_jointly cX8_jointly 5 none 4 98 Γ Z σ τ [.ref (Γ.2.2.1 20)] none σ0 τ0 := by
  refine jp_mk (lv := [(0, .ref (Γ.2.2.1 20))]) (by decide) (Nat.le_of_ble_eq_true rfl) rfl fun p e s m args below meth c B => ?_
  obtain ⟨hx, hb, hml, hown, hts, hr, hlk, hE⟩ := id B
  unfold fX8_jointly at hf
  intro H locs ls hP hS hl
  refine lv_aload_n hx hb dX8_jointly_0 rfl (lv_at hl 0 rfl) ?_
  refine lv_iconst (v := 1) hx hb dX8_jointly_1 (by decide) ?_
  refine jp_puti (k := 10) (ty := .boolean) B hP hS hX0.1 rfl rfl (by decide) jp_fX8 tyX8 tyX8_ok nmX8 rfl mw_144 rfl (by decide +kernel) (jp_isb_n (by decide)) (jp_isb_f (by decide)) dX8_jointly_2 (fun H locs hP hS => ?_)
  refine lv_aload_n hx hb dX8_jointly_5 rfl (lv_at hl 0 rfl) ?_
  refine lv_iconst (v := 0) hx hb dX8_jointly_6 (by decide) ?_
  refine jp_puti (k := 12) (ty := .int) B hP hS hX0.1 rfl rfl (by decide) jp_fX8 tyX8 tyX8_ok nmX8 rfl mw_146 rfl (by decide +kernel) rfl rfl dX8_jointly_7 (fun H locs hP hS => ?_)
  refine lv_aload_n hx hb dX8_jointly_10 rfl (lv_at hl 0 rfl) ?_
  refine jp_geti (k := 1) B hP hX0.1 rfl rfl (by decide) jp_fX8 rfl mw_151 dX8_jointly_11 ?_
  refine lv_if_ne (tgt := 28) hx hb dX8_jointly_14 (by decide) (fun c_1 => ?_) (fun c_1 => ?_)
  · rw [if_neg c_1] at hf
    refine lv_iconst (v := 0) hx hb dX8_jointly_28 (by decide) ?_
    refine lv_istore_n (lv' := [(1, .int 0), (0, .ref (Γ.2.2.1 20))]) hx hb dX8_jointly_29 rfl hl (by decide) rfl (fun ls hl => ?_)
    obtain ⟨⟨e_2, σ_2, τ_2⟩, h_2, hf⟩ := jp_bind hf
    refine lX8_jointly_30 (r0 := r0) B hX0 (fun v_2 k_2 => ?_) (fun r_2 k_2 => ?_) _ _ _ _ h_2 H locs ls hP hS (lv_sub hl [1, 0] rfl)
    · subst k_2
      dsimp only at hf
      intro H locs ls hP hS hl
      refine lv_aload_n hx hb dX8_jointly_51 rfl (lv_at hl 0 rfl) ?_
      refine jp_getr (k := 16) B hP hX0.1 rfl rfl (by decide) jp_fX8 rfl mw_150 dX8_jointly_52 ?_
      refine lv_bipush (v := 36) hx hb dX8_jointly_55 (by decide) ?_
      refine lv_aload_n hx hb dX8_jointly_57 rfl (lv_at hl 0 rfl) ?_
      refine lv_iconst (v := 0) hx hb dX8_jointly_58 (by decide) ?_
      obtain ⟨⟨a_3, σ_3, τ_3⟩, h_3, hf⟩ := jp_bind hf
      dsimp only at hf
      refine jp_callV (rest := [.int 36, .ref (Γ.2.2.1 27)]) B hP hS hl (ctX8_goal ⟨hX0.1, hX0.2.1, hX0.2.2.1, hX0.2.2.2.1, hX0.2.2.2.2.1, hX0.2.2.2.2.2.1, hX0.2.2.2.2.2.2.1, hX0.2.2.2.2.2.2.2⟩ h_3) hX0.1 rfl mw_418 mw_415 mw_416 mw_417 mw_5 ddX8_goal ⟨Nat.le_of_ble_eq_true rfl, Nat.le_of_ble_eq_true rfl⟩ ⟨Nat.zero_le _, Nat.zero_le _⟩ rfl (Nat.le_of_ble_eq_true rfl) dX8_jointly_59 (fun H locs hP hS => ?_)
      refine lv_imul hx hb dX8_jointly_62 ?_
      refine lv_aload_n hx hb dX8_jointly_63 rfl (lv_at hl 0 rfl) ?_
      refine lv_iconst (v := 1) hx hb dX8_jointly_64 (by decide) ?_
      obtain ⟨⟨a_4, σ_4, τ_4⟩, h_4, hf⟩ := jp_bind hf
      dsimp only at hf
      refine jp_callV (rest := [.int (36 * a_3), .ref (Γ.2.2.1 27)]) B hP hS hl (ctX8_goal ⟨hX0.1, hX0.2.1, hX0.2.2.1, hX0.2.2.2.1, hX0.2.2.2.2.1, hX0.2.2.2.2.2.1, hX0.2.2.2.2.2.2.1, hX0.2.2.2.2.2.2.2⟩ h_4) hX0.1 rfl mw_418 mw_415 mw_416 mw_417 mw_5 ddX8_goal ⟨Nat.le_of_ble_eq_true rfl, Nat.le_of_ble_eq_true rfl⟩ ⟨Nat.zero_le _, Nat.zero_le _⟩ rfl (Nat.le_of_ble_eq_true rfl) dX8_jointly_65 (fun H locs hP hS => ?_)
      refine lv_iadd hx hb dX8_jointly_68 ?_
      refine lv_iconst (v := 0) hx hb dX8_jointly_69 (by decide) ?_
      obtain ⟨g_5, hf⟩ := jp_if hf
      refine jp_iast B hP hS hX0.2.2.2.2.2.2.2 (jp_ok_vp g_5) dX8_jointly_70 (fun H locs hP hS => ?_)
      refine lv_iconst (v := 1) hx hb dX8_jointly_71 (by decide) ?_
      refine lv_istore_n (lv' := [(1, .int 1), (0, .ref (Γ.2.2.1 20))]) hx hb dX8_jointly_72 rfl hl (by decide) rfl (fun ls hl => ?_)
      obtain ⟨⟨e_6, σ_6, τ_6⟩, h_6, hf⟩ := jp_bind hf
      refine lX8_jointly_73 (r0 := r0) B hX0 (fun v_6 k_6 => ?_) (fun r_6 k_6 => ?_) _ _ _ _ h_6 H locs ls hP hS (lv_sub hl [1, 0] rfl)
      · subst k_6
        dsimp only at hf
        intro H locs ls hP hS hl
        refine lv_aload_n hx hb dX8_jointly_133 rfl (lv_at hl 0 rfl) ?_
        refine jp_getr (k := 5) B hP hX0.1 rfl rfl (by decide) jp_fX8 rfl mw_139 dX8_jointly_134 ?_
        refine lv_iconst (v := 0) hx hb dX8_jointly_137 (by decide) ?_
        obtain ⟨g_7, hf⟩ := jp_if hf
        refine jp_iald B hP hX0.2.2.1 (jp_ok_vp g_7) dX8_jointly_138 ?_
        refine lv_istore_n (lv' := [(2, .int (σ_6 22 (0 : Int32).toNatClampNeg)), (0, .ref (Γ.2.2.1 20))]) hx hb dX8_jointly_139 rfl hl (by decide) rfl (fun ls hl => ?_)
        refine lv_aload_n hx hb dX8_jointly_140 rfl (lv_at hl 1 rfl) ?_
        refine jp_geti (k := 1) B hP hX0.1 rfl rfl (by decide) jp_fX8 rfl mw_151 dX8_jointly_141 ?_
        refine lv_iconst (v := 2) hx hb dX8_jointly_144 (by decide) ?_
        refine lv_icmp_ne (tgt := 157) hx hb dX8_jointly_145 (by decide) (fun c_8 => ?_) (fun c_8 => ?_)
        · rw [if_neg c_8] at hf
          refine lv_iconst (v := 0) hx hb dX8_jointly_157 (by decide) ?_
          exact wbX8_jointly_158 B hX0 hf H locs ls hP hS (lv_sub hl [1, 0] rfl)
        · rw [if_pos c_8] at hf
          refine lv_aload_n hx hb dX8_jointly_148 rfl (lv_at hl 1 rfl) ?_
          refine jp_getr (k := 5) B hP hX0.1 rfl rfl (by decide) jp_fX8 rfl mw_139 dX8_jointly_149 ?_
          refine lv_iconst (v := 1) hx hb dX8_jointly_152 (by decide) ?_
          obtain ⟨g_9, hf⟩ := jp_if hf
          refine jp_iald B hP hX0.2.2.1 (jp_ok_vp g_9) dX8_jointly_153 ?_
          refine lv_goto (tgt := 158) hx hb dX8_jointly_154 (by decide) ?_
          exact wbX8_jointly_158 B hX0 hf H locs ls hP hS (lv_sub hl [1, 0] rfl)
      · subst k_6
        dsimp only at hf
        exact jp_inj hf
    · subst k_2
      dsimp only at hf
      exact jp_inj hf
  · rw [if_pos c_1] at hf
    refine lv_aload_n hx hb dX8_jointly_17 rfl (lv_at hl 0 rfl) ?_
    refine lv_iconst (v := 0) hx hb dX8_jointly_18 (by decide) ?_
    refine jp_puti (k := 11) (ty := .int) B hP hS hX0.1 rfl rfl (by decide) jp_fX8 tyX8 tyX8_ok nmX8 rfl mw_145 rfl (by decide +kernel) rfl rfl dX8_jointly_19 (fun H locs hP hS => ?_)
    refine lv_aload_n hx hb dX8_jointly_22 rfl (lv_at hl 0 rfl) ?_
    refine lv_iconst (v := 1) hx hb dX8_jointly_23 (by decide) ?_
    refine jp_puti (k := 9) (ty := .boolean) B hP hS hX0.1 rfl rfl (by decide) jp_fX8 tyX8 tyX8_ok nmX8 rfl mw_143 rfl (by decide +kernel) (jp_isb_n (by decide)) (jp_isb_f (by decide)) dX8_jointly_24 (fun H locs hP hS => ?_)
    exact jp_endv B hP hS dX8_jointly_27 (jp_inj hf)
end
