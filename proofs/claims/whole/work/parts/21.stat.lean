def fX7_read40 (p1 : Int32) (σ : jp_I) (τ : jp_J) : Option (Int32 × jp_I × jp_J) :=
  if p1 < 0 then (some ((-1), σ, τ)) else (if (nI 5) ≤ p1 then (some ((-1), σ, τ)) else (if jp_ok p1 5 = true then some (jp_mx p1.toNatClampNeg, σ, τ) else none))
set_option maxHeartbeats 4000000 in
set_option maxRecDepth 20000 in
theorem ctX7_read40 {l : Launch} {Γ : jp_G} {Z : Nat → Option jp_Sh} {p1 : Int32} {σ σ0 : jp_I} {τ τ0 : jp_J} {r0 : Int32} (hf : fX7_read40 p1 σ τ = some (r0, σ0, τ0)) : jp_M l yX7_read cX7_read 2 (some .int) 0 0 Γ Z σ τ [.ref (Γ.2.2.1 40), .int p1] (some (.int r0)) σ0 τ0 := by
  refine jp_mk (lv := [(0, .ref (Γ.2.2.1 40)), (1, .int p1)]) (by decide) (Nat.le_of_ble_eq_true rfl) rfl fun p e s m args below meth c B => ?_
  obtain ⟨hx, hb, hml, hown, hts, hr, hlk, hE⟩ := id B
  unfold fX7_read40 at hf
  intro H locs ls hP hS hl
  refine lv_iload_n hx hb dX7_read_0 rfl (lv_at hl 1 rfl) ?_
  refine lv_if_lt (tgt := 16) hx hb dX7_read_1 (by decide) (fun c_1 => ?_) (fun c_1 => ?_)
  · rw [if_pos c_1] at hf
    refine lv_iconst (v := -1) hx hb dX7_read_16 (by decide) ?_
    exact jp_endi B hP hS dX7_read_17 (jp_inj hf)
  · rw [if_neg c_1] at hf
    refine lv_iload_n hx hb dX7_read_4 rfl (lv_at hl 1 rfl) ?_
    refine lv_aload_n hx hb dX7_read_5 rfl (lv_at hl 0 rfl) ?_
    refine va_tlen (v := nI 5) hx hb hE.2.2.2.1.2.1 hS rfl dX7_read_6 ?_
    refine lv_icmp_ge (tgt := 16) hx hb dX7_read_7 (by decide) (fun c_2 => ?_) (fun c_2 => ?_)
    · rw [if_pos c_2] at hf
      refine lv_iconst (v := -1) hx hb dX7_read_16 (by decide) ?_
      exact jp_endi B hP hS dX7_read_17 (jp_inj hf)
    · rw [if_neg c_2] at hf
      refine lv_aload_n hx hb dX7_read_10 rfl (lv_at hl 0 rfl) ?_
      refine lv_iload_n hx hb dX7_read_11 rfl (lv_at hl 1 rfl) ?_
      obtain ⟨g_3, hf⟩ := jp_if hf
      refine va_ti hx hb hE.2.2.2.1.2.1 hS (jp_ok_vp g_3) rfl dX7_read_12 ?_
      refine lv_goto (tgt := 17) hx hb dX7_read_13 (by decide) ?_
      exact jp_endi B hP hS dX7_read_17 (jp_inj hf)
def fX7_read41 (p1 : Int32) (σ : jp_I) (τ : jp_J) : Option (Int32 × jp_I × jp_J) :=
  if p1 < 0 then (some ((-1), σ, τ)) else (if (nI 5) ≤ p1 then (some ((-1), σ, τ)) else (if jp_ok p1 5 = true then some (jp_my p1.toNatClampNeg, σ, τ) else none))
set_option maxHeartbeats 4000000 in
set_option maxRecDepth 20000 in
theorem ctX7_read41 {l : Launch} {Γ : jp_G} {Z : Nat → Option jp_Sh} {p1 : Int32} {σ σ0 : jp_I} {τ τ0 : jp_J} {r0 : Int32} (hf : fX7_read41 p1 σ τ = some (r0, σ0, τ0)) : jp_M l yX7_read cX7_read 2 (some .int) 0 0 Γ Z σ τ [.ref (Γ.2.2.1 41), .int p1] (some (.int r0)) σ0 τ0 := by
  refine jp_mk (lv := [(0, .ref (Γ.2.2.1 41)), (1, .int p1)]) (by decide) (Nat.le_of_ble_eq_true rfl) rfl fun p e s m args below meth c B => ?_
  obtain ⟨hx, hb, hml, hown, hts, hr, hlk, hE⟩ := id B
  unfold fX7_read41 at hf
  intro H locs ls hP hS hl
  refine lv_iload_n hx hb dX7_read_0 rfl (lv_at hl 1 rfl) ?_
  refine lv_if_lt (tgt := 16) hx hb dX7_read_1 (by decide) (fun c_1 => ?_) (fun c_1 => ?_)
  · rw [if_pos c_1] at hf
    refine lv_iconst (v := -1) hx hb dX7_read_16 (by decide) ?_
    exact jp_endi B hP hS dX7_read_17 (jp_inj hf)
  · rw [if_neg c_1] at hf
    refine lv_iload_n hx hb dX7_read_4 rfl (lv_at hl 1 rfl) ?_
    refine lv_aload_n hx hb dX7_read_5 rfl (lv_at hl 0 rfl) ?_
    refine va_tlen (v := nI 5) hx hb hE.2.2.2.1.2.2.2 hS rfl dX7_read_6 ?_
    refine lv_icmp_ge (tgt := 16) hx hb dX7_read_7 (by decide) (fun c_2 => ?_) (fun c_2 => ?_)
    · rw [if_pos c_2] at hf
      refine lv_iconst (v := -1) hx hb dX7_read_16 (by decide) ?_
      exact jp_endi B hP hS dX7_read_17 (jp_inj hf)
    · rw [if_neg c_2] at hf
      refine lv_aload_n hx hb dX7_read_10 rfl (lv_at hl 0 rfl) ?_
      refine lv_iload_n hx hb dX7_read_11 rfl (lv_at hl 1 rfl) ?_
      obtain ⟨g_3, hf⟩ := jp_if hf
      refine va_ti hx hb hE.2.2.2.1.2.2.2 hS (jp_ok_vp g_3) rfl dX7_read_12 ?_
      refine lv_goto (tgt := 17) hx hb dX7_read_13 (by decide) ?_
      exact jp_endi B hP hS dX7_read_17 (jp_inj hf)
