-- X8_init
def zX8_init (Z : Nat → Option jp_Sh) : Nat → Option jp_Sh := jp_zu (jp_zu (jp_zu (jp_zu (jp_zu (jp_zu (jp_zu (jp_zu (jp_zu (jp_zu (jp_zu (jp_zu (jp_zu (jp_zu (jp_zu Z 21 (2, 36, [])) 20 (0, 8, [(0, 0), (0, 0), (0, 0), (0, 0), (1, 21), (3, 0), (3, 0), (0, 0), (2, 0), (0, 0), (0, 0), (0, 0), (0, 0), (3, 0), (3, 0), (3, 0), (3, 0)])) 22 (1, 4, [])) 20 (0, 8, [(0, 0), (0, 0), (0, 0), (0, 0), (1, 21), (1, 22), (3, 0), (0, 0), (2, 0), (0, 0), (0, 0), (0, 0), (0, 0), (3, 0), (3, 0), (3, 0), (3, 0)])) 23 (1, 4, [])) 20 (0, 8, [(0, 0), (0, 0), (0, 0), (0, 0), (1, 21), (1, 22), (1, 23), (0, 0), (2, 0), (0, 0), (0, 0), (0, 0), (0, 0), (3, 0), (3, 0), (3, 0), (3, 0)])) 24 (1, 1600, [])) 20 (0, 8, [(0, 0), (0, 0), (0, 0), (0, 0), (1, 21), (1, 22), (1, 23), (0, 0), (2, 0), (0, 0), (0, 0), (0, 0), (0, 0), (1, 24), (3, 0), (3, 0), (3, 0)])) 25 (1, 640, [])) 20 (0, 8, [(0, 0), (0, 0), (0, 0), (0, 0), (1, 21), (1, 22), (1, 23), (0, 0), (2, 0), (0, 0), (0, 0), (0, 0), (0, 0), (1, 24), (1, 25), (3, 0), (3, 0)])) 26 (1, 4, [])) 20 (0, 8, [(0, 0), (0, 0), (0, 0), (0, 0), (1, 21), (1, 22), (1, 23), (0, 0), (2, 0), (0, 0), (0, 0), (0, 0), (0, 0), (1, 24), (1, 25), (1, 26), (3, 0)])) 27 (1, 1476, [])) 20 (0, 8, [(0, 0), (0, 0), (0, 0), (0, 0), (1, 21), (1, 22), (1, 23), (0, 0), (2, 0), (0, 0), (0, 0), (0, 0), (0, 0), (1, 24), (1, 25), (1, 26), (1, 27)])) 20 (0, 8, [(0, 0), (0, 0), (0, 0), (0, 0), (1, 21), (1, 22), (1, 23), (0, 0), (2, 0), (0, 0), (0, 0), (0, 0), (0, 0), (1, 24), (1, 25), (1, 26), (1, 27)])
theorem zX8_init_20 (Z : Nat → Option jp_Sh) : zX8_init Z 20 = some (0, 8, [(0, 0), (0, 0), (0, 0), (0, 0), (1, 21), (1, 22), (1, 23), (0, 0), (2, 0), (0, 0), (0, 0), (0, 0), (0, 0), (1, 24), (1, 25), (1, 26), (1, 27)]) := by
  unfold zX8_init
  exact jp_zu_s _ _ _
theorem zX8_init_21 (Z : Nat → Option jp_Sh) : zX8_init Z 21 = some (2, 36, []) := by
  unfold zX8_init
  rw [jp_zu_n _ _ (by decide), jp_zu_n _ _ (by decide), jp_zu_n _ _ (by decide), jp_zu_n _ _ (by decide), jp_zu_n _ _ (by decide), jp_zu_n _ _ (by decide), jp_zu_n _ _ (by decide), jp_zu_n _ _ (by decide), jp_zu_n _ _ (by decide), jp_zu_n _ _ (by decide), jp_zu_n _ _ (by decide), jp_zu_n _ _ (by decide), jp_zu_n _ _ (by decide), jp_zu_n _ _ (by decide)]; exact jp_zu_s _ _ _
theorem zX8_init_22 (Z : Nat → Option jp_Sh) : zX8_init Z 22 = some (1, 4, []) := by
  unfold zX8_init
  rw [jp_zu_n _ _ (by decide), jp_zu_n _ _ (by decide), jp_zu_n _ _ (by decide), jp_zu_n _ _ (by decide), jp_zu_n _ _ (by decide), jp_zu_n _ _ (by decide), jp_zu_n _ _ (by decide), jp_zu_n _ _ (by decide), jp_zu_n _ _ (by decide), jp_zu_n _ _ (by decide), jp_zu_n _ _ (by decide), jp_zu_n _ _ (by decide)]; exact jp_zu_s _ _ _
theorem zX8_init_23 (Z : Nat → Option jp_Sh) : zX8_init Z 23 = some (1, 4, []) := by
  unfold zX8_init
  rw [jp_zu_n _ _ (by decide), jp_zu_n _ _ (by decide), jp_zu_n _ _ (by decide), jp_zu_n _ _ (by decide), jp_zu_n _ _ (by decide), jp_zu_n _ _ (by decide), jp_zu_n _ _ (by decide), jp_zu_n _ _ (by decide), jp_zu_n _ _ (by decide), jp_zu_n _ _ (by decide)]; exact jp_zu_s _ _ _
theorem zX8_init_24 (Z : Nat → Option jp_Sh) : zX8_init Z 24 = some (1, 1600, []) := by
  unfold zX8_init
  rw [jp_zu_n _ _ (by decide), jp_zu_n _ _ (by decide), jp_zu_n _ _ (by decide), jp_zu_n _ _ (by decide), jp_zu_n _ _ (by decide), jp_zu_n _ _ (by decide), jp_zu_n _ _ (by decide), jp_zu_n _ _ (by decide)]; exact jp_zu_s _ _ _
theorem zX8_init_25 (Z : Nat → Option jp_Sh) : zX8_init Z 25 = some (1, 640, []) := by
  unfold zX8_init
  rw [jp_zu_n _ _ (by decide), jp_zu_n _ _ (by decide), jp_zu_n _ _ (by decide), jp_zu_n _ _ (by decide), jp_zu_n _ _ (by decide), jp_zu_n _ _ (by decide)]; exact jp_zu_s _ _ _
theorem zX8_init_26 (Z : Nat → Option jp_Sh) : zX8_init Z 26 = some (1, 4, []) := by
  unfold zX8_init
  rw [jp_zu_n _ _ (by decide), jp_zu_n _ _ (by decide), jp_zu_n _ _ (by decide), jp_zu_n _ _ (by decide)]; exact jp_zu_s _ _ _
theorem zX8_init_27 (Z : Nat → Option jp_Sh) : zX8_init Z 27 = some (1, 1476, []) := by
  unfold zX8_init
  rw [jp_zu_n _ _ (by decide), jp_zu_n _ _ (by decide)]; exact jp_zu_s _ _ _
theorem zX8_init_n (Z : Nat → Option jp_Sh) {i : Nat} (h : ¬ i ∈ [20, 21, 22, 23, 24, 25, 26, 27]) : zX8_init Z i = Z i := by
  unfold zX8_init
  simp only [List.mem_cons, List.not_mem_nil, or_false, not_or] at h
  obtain ⟨e20, e21, e22, e23, e24, e25, e26, e27⟩ := h
  rw [jp_zu_n _ _ e20, jp_zu_n _ _ e20, jp_zu_n _ _ e27, jp_zu_n _ _ e20, jp_zu_n _ _ e26, jp_zu_n _ _ e20, jp_zu_n _ _ e25, jp_zu_n _ _ e20, jp_zu_n _ _ e24, jp_zu_n _ _ e20, jp_zu_n _ _ e23, jp_zu_n _ _ e20, jp_zu_n _ _ e22, jp_zu_n _ _ e20, jp_zu_n _ _ e21]
def fX8_init (p1 : Int32) (σ : jp_I) (τ : jp_J) : Option (jp_I × jp_J) :=
  if 0 ≤ p1 then (if p1 ≤ 4 then ((fX8_fresh 1 1 (jp_up (jp_z (jp_z (jp_z (jp_z (jp_up (jp_up (jp_up (jp_up (jp_up (jp_z (jp_z (jp_z (jp_up (jp_up (jp_up σ 20 0 0) 20 2 1) 20 3 1) 21) 22) 23) 20 7 1) 20 9 0) 20 10 0) 20 11 (-1)) 20 12 0) 24) 25) 26) 27) 20 1 p1) (jp_upl τ 20 8 1)).bind fun (a_37, σ_37, τ_37) => some (σ_37, τ_37)) else ((fX8_fresh 1 1 (jp_up (jp_z (jp_z (jp_z (jp_z (jp_up (jp_up (jp_up (jp_up (jp_up (jp_z (jp_z (jp_z (jp_up (jp_up (jp_up σ 20 0 0) 20 2 1) 20 3 1) 21) 22) 23) 20 7 1) 20 9 0) 20 10 0) 20 11 (-1)) 20 12 0) 24) 25) 26) 27) 20 1 4) (jp_upl τ 20 8 1)).bind fun (a_46, σ_46, τ_46) => some (σ_46, τ_46))) else ((fX8_fresh 1 1 (jp_up (jp_z (jp_z (jp_z (jp_z (jp_up (jp_up (jp_up (jp_up (jp_up (jp_z (jp_z (jp_z (jp_up (jp_up (jp_up σ 20 0 0) 20 2 1) 20 3 1) 21) 22) 23) 20 7 1) 20 9 0) 20 10 0) 20 11 (-1)) 20 12 0) 24) 25) 26) 27) 20 1 0) (jp_upl τ 20 8 1)).bind fun (a_55, σ_55, τ_55) => some (σ_55, τ_55))
set_option maxHeartbeats 8000000 in
set_option maxRecDepth 20000 in
theorem ctX8_init {l : Launch} {Γ : jp_G} {Z : Nat → Option jp_Sh} {p1 : Int32} {σ σ0 : jp_I} {τ τ0 : jp_J} {sz : Nat} (hth : Z 20 = some (0, 8, [(0, 0), (0, 0), (0, 0), (0, 0), (3, 0), (3, 0), (3, 0), (0, 0), (2, 0), (0, 0), (0, 0), (0, 0), (0, 0), (3, 0), (3, 0), (3, 0), (3, 0)])) (hn_21 : Z 21 = none) (hn_22 : Z 22 = none) (hn_23 : Z 23 = none) (hn_24 : Z 24 = none) (hn_25 : Z 25 = none) (hn_26 : Z 26 = none) (hn_27 : Z 27 = none) (ha_t : Γ.2.2.1 20 + 1 = sz) (ha_21 : Γ.2.2.1 21 = sz + 0) (ha_22 : Γ.2.2.1 22 = sz + 1) (ha_23 : Γ.2.2.1 23 = sz + 2) (ha_24 : Γ.2.2.1 24 = sz + 3) (ha_25 : Γ.2.2.1 25 = sz + 4) (ha_26 : Γ.2.2.1 26 = sz + 5) (ha_27 : Γ.2.2.1 27 = sz + 6) (hf : fX8_init p1 σ τ = some (σ0, τ0)) : jp_K l yX8_init cX8_init 2 1 23 7 3764 Γ Z σ τ sz [.ref (Γ.2.2.1 20), .int p1] (zX8_init Z) σ0 τ0 := by
  refine jp_mkK (lv := [(0, .ref (Γ.2.2.1 20)), (1, .int p1)]) (by decide) rfl (Nat.le_of_ble_eq_true rfl) rfl fun p e s m args below meth c B hnm hsz hP ls hl => ?_
  obtain ⟨hx, hb, hml, hown, hts, hr, hlk, hE⟩ := id B
  unfold fX8_init at hf
  obtain ⟨H, hH⟩ : ∃ H, H = s.heap := ⟨_, rfl⟩
  obtain ⟨locs, hlocs⟩ : ∃ l0 : List Loc, l0 = [] := ⟨_, rfl⟩
  have hS : va_S (jp_A Γ) s.heap H locs := by rw [hH, hlocs]; exact va_S.rf
  rw [← hH] at hP
  show W p l e _ s m args below meth c s.heap [] 0 0 _ _
  rw [← hlocs]
  conv => arg 11; rw [← hH]
  refine lv_aload_n hx hb dX8_init_0 rfl (lv_at hl 0 rfl) ?_
  refine jp_obj B hl mw_133 mw_15 mw_16 (Nat.le_of_ble_eq_true rfl) (Nat.le_of_ble_eq_true rfl) dX8_init_1 ?_
  refine lv_aload_n hx hb dX8_init_4 rfl (lv_at hl 0 rfl) ?_
  refine lv_iconst (v := 0) hx hb dX8_init_5 (by decide) ?_
  refine jp_puti (k := 0) (ty := .int) B hP hS hth rfl rfl (by decide) jp_fX8 tyX8 tyX8_ok nmX8 rfl mw_134 rfl (by decide +kernel) rfl rfl dX8_init_6 (fun H locs hP hS => ?_)
  refine lv_aload_n hx hb dX8_init_9 rfl (lv_at hl 0 rfl) ?_
  refine lv_iconst (v := 1) hx hb dX8_init_10 (by decide) ?_
  refine jp_puti (k := 2) (ty := .int) B hP hS hth rfl rfl (by decide) jp_fX8 tyX8 tyX8_ok nmX8 rfl mw_135 rfl (by decide +kernel) rfl rfl dX8_init_11 (fun H locs hP hS => ?_)
  refine lv_aload_n hx hb dX8_init_14 rfl (lv_at hl 0 rfl) ?_
  refine lv_iconst (v := 1) hx hb dX8_init_15 (by decide) ?_
  refine jp_puti (k := 3) (ty := .int) B hP hS hth rfl rfl (by decide) jp_fX8 tyX8 tyX8_ok nmX8 rfl mw_136 rfl (by decide +kernel) rfl rfl dX8_init_16 (fun H locs hP hS => ?_)
  refine lv_aload_n hx hb dX8_init_19 rfl (lv_at hl 0 rfl) ?_
  refine lv_bipush (v := 36) hx hb dX8_init_20 (by decide) ?_
  refine jp_size (last := 20) hP hth (jp_ad1t ha_t hsz) (fun hz => ?_)
  refine jp_newz (M := 36) B hP hS hz (id := 21) hn_21 (jp_ad0 ha_21 hsz rfl) mw_137 (by decide) (by decide) (Nat.le_refl _) (by decide) (Nat.le_of_ble_eq_true rfl) (Nat.le_of_ble_eq_true rfl) dX8_init_22 (fun H hP hS hz => ?_)
  obtain ⟨Z_1, hZ_1⟩ : ∃ z, z = jp_zu Z 21 (2, 36, []) := ⟨_, rfl⟩
  rw [← hZ_1] at hP
  have q_1 : Z_1 21 = some (2, 36, []) := by rw [hZ_1]; exact jp_zu_s _ _ _
  have q_2 : Z_1 20 = some (0, 8, [(0, 0), (0, 0), (0, 0), (0, 0), (3, 0), (3, 0), (3, 0), (0, 0), (2, 0), (0, 0), (0, 0), (0, 0), (0, 0), (3, 0), (3, 0), (3, 0), (3, 0)]) := by rw [hZ_1, jp_zu_n _ _ (by decide)]; exact hth
  refine jp_putr (k := 4) (r := 21) (fs' := [(0, 0), (0, 0), (0, 0), (0, 0), (1, 21), (3, 0), (3, 0), (0, 0), (2, 0), (0, 0), (0, 0), (0, 0), (0, 0), (3, 0), (3, 0), (3, 0), (3, 0)]) B hnm hP hS q_2 (by decide) rfl (by decide) jp_fX8 tyX8 tyX8_ok nmX8 rfl rfl mw_138 rfl (ty := tyX8 4) (by decide +kernel) rfl rfl rfl dX8_init_24 (fun H locs hP hS hz2 => ?_)
  obtain ⟨Z_2, hZ_2⟩ : ∃ z, z = jp_zu Z_1 20 (0, 8, [(0, 0), (0, 0), (0, 0), (0, 0), (1, 21), (3, 0), (3, 0), (0, 0), (2, 0), (0, 0), (0, 0), (0, 0), (0, 0), (3, 0), (3, 0), (3, 0), (3, 0)]) := ⟨_, rfl⟩
  rw [← hZ_2] at hP
  have q_3 : Z_2 20 = some (0, 8, [(0, 0), (0, 0), (0, 0), (0, 0), (1, 21), (3, 0), (3, 0), (0, 0), (2, 0), (0, 0), (0, 0), (0, 0), (0, 0), (3, 0), (3, 0), (3, 0), (3, 0)]) := by rw [hZ_2]; exact jp_zu_s _ _ _
  refine lv_aload_n hx hb dX8_init_27 rfl (lv_at hl 0 rfl) ?_
  refine lv_iconst (v := 4) hx hb dX8_init_28 (by decide) ?_
  have q_4 : Z_2 21 = some (2, 36, []) := by rw [hZ_2, jp_zu_n _ _ (by decide)]; exact q_1
  refine jp_size (last := 21) hP q_4 (jp_ad1 ha_21 hsz rfl) (fun hz => ?_)
  have q_5 : Z_2 22 = none := by rw [hZ_2, jp_zu_n _ _ (by decide), hZ_1, jp_zu_n _ _ (by decide)]; exact hn_22
  refine jp_newi (M := 4) B hP hS hz (id := 22) q_5 (jp_ad0 ha_22 hsz rfl) mw_53 (by decide) (by decide) (Nat.le_refl _) (by decide) (Nat.le_of_ble_eq_true rfl) (Nat.le_of_ble_eq_true rfl) dX8_init_29 (fun H hP hS hz => ?_)
  obtain ⟨Z_3, hZ_3⟩ : ∃ z, z = jp_zu Z_2 22 (1, 4, []) := ⟨_, rfl⟩
  rw [← hZ_3] at hP
  have q_6 : Z_3 22 = some (1, 4, []) := by rw [hZ_3]; exact jp_zu_s _ _ _
  have q_7 : Z_3 20 = some (0, 8, [(0, 0), (0, 0), (0, 0), (0, 0), (1, 21), (3, 0), (3, 0), (0, 0), (2, 0), (0, 0), (0, 0), (0, 0), (0, 0), (3, 0), (3, 0), (3, 0), (3, 0)]) := by rw [hZ_3, jp_zu_n _ _ (by decide)]; exact q_3
  refine jp_putr (k := 5) (r := 22) (fs' := [(0, 0), (0, 0), (0, 0), (0, 0), (1, 21), (1, 22), (3, 0), (0, 0), (2, 0), (0, 0), (0, 0), (0, 0), (0, 0), (3, 0), (3, 0), (3, 0), (3, 0)]) B hnm hP hS q_7 (by decide) rfl (by decide) jp_fX8 tyX8 tyX8_ok nmX8 rfl rfl mw_139 rfl (ty := tyX8 5) (by decide +kernel) rfl rfl rfl dX8_init_31 (fun H locs hP hS hz2 => ?_)
  obtain ⟨Z_4, hZ_4⟩ : ∃ z, z = jp_zu Z_3 20 (0, 8, [(0, 0), (0, 0), (0, 0), (0, 0), (1, 21), (1, 22), (3, 0), (0, 0), (2, 0), (0, 0), (0, 0), (0, 0), (0, 0), (3, 0), (3, 0), (3, 0), (3, 0)]) := ⟨_, rfl⟩
  rw [← hZ_4] at hP
  have q_8 : Z_4 20 = some (0, 8, [(0, 0), (0, 0), (0, 0), (0, 0), (1, 21), (1, 22), (3, 0), (0, 0), (2, 0), (0, 0), (0, 0), (0, 0), (0, 0), (3, 0), (3, 0), (3, 0), (3, 0)]) := by rw [hZ_4]; exact jp_zu_s _ _ _
  refine lv_aload_n hx hb dX8_init_34 rfl (lv_at hl 0 rfl) ?_
  refine lv_iconst (v := 4) hx hb dX8_init_35 (by decide) ?_
  have q_9 : Z_4 22 = some (1, 4, []) := by rw [hZ_4, jp_zu_n _ _ (by decide)]; exact q_6
  refine jp_size (last := 22) hP q_9 (jp_ad1 ha_22 hsz rfl) (fun hz => ?_)
  have q_10 : Z_4 23 = none := by rw [hZ_4, jp_zu_n _ _ (by decide), hZ_3, jp_zu_n _ _ (by decide), hZ_2, jp_zu_n _ _ (by decide), hZ_1, jp_zu_n _ _ (by decide)]; exact hn_23
  refine jp_newi (M := 4) B hP hS hz (id := 23) q_10 (jp_ad0 ha_23 hsz rfl) mw_53 (by decide) (by decide) (Nat.le_refl _) (by decide) (Nat.le_of_ble_eq_true rfl) (Nat.le_of_ble_eq_true rfl) dX8_init_36 (fun H hP hS hz => ?_)
  obtain ⟨Z_5, hZ_5⟩ : ∃ z, z = jp_zu Z_4 23 (1, 4, []) := ⟨_, rfl⟩
  rw [← hZ_5] at hP
  have q_11 : Z_5 23 = some (1, 4, []) := by rw [hZ_5]; exact jp_zu_s _ _ _
  have q_12 : Z_5 20 = some (0, 8, [(0, 0), (0, 0), (0, 0), (0, 0), (1, 21), (1, 22), (3, 0), (0, 0), (2, 0), (0, 0), (0, 0), (0, 0), (0, 0), (3, 0), (3, 0), (3, 0), (3, 0)]) := by rw [hZ_5, jp_zu_n _ _ (by decide)]; exact q_8
  refine jp_putr (k := 6) (r := 23) (fs' := [(0, 0), (0, 0), (0, 0), (0, 0), (1, 21), (1, 22), (1, 23), (0, 0), (2, 0), (0, 0), (0, 0), (0, 0), (0, 0), (3, 0), (3, 0), (3, 0), (3, 0)]) B hnm hP hS q_12 (by decide) rfl (by decide) jp_fX8 tyX8 tyX8_ok nmX8 rfl rfl mw_140 rfl (ty := tyX8 6) (by decide +kernel) rfl rfl rfl dX8_init_38 (fun H locs hP hS hz2 => ?_)
  obtain ⟨Z_6, hZ_6⟩ : ∃ z, z = jp_zu Z_5 20 (0, 8, [(0, 0), (0, 0), (0, 0), (0, 0), (1, 21), (1, 22), (1, 23), (0, 0), (2, 0), (0, 0), (0, 0), (0, 0), (0, 0), (3, 0), (3, 0), (3, 0), (3, 0)]) := ⟨_, rfl⟩
  rw [← hZ_6] at hP
  have q_13 : Z_6 20 = some (0, 8, [(0, 0), (0, 0), (0, 0), (0, 0), (1, 21), (1, 22), (1, 23), (0, 0), (2, 0), (0, 0), (0, 0), (0, 0), (0, 0), (3, 0), (3, 0), (3, 0), (3, 0)]) := by rw [hZ_6]; exact jp_zu_s _ _ _
  refine lv_aload_n hx hb dX8_init_41 rfl (lv_at hl 0 rfl) ?_
  refine lv_iconst (v := 1) hx hb dX8_init_42 (by decide) ?_
  refine jp_puti (k := 7) (ty := .boolean) B hP hS q_13 rfl rfl (by decide) jp_fX8 tyX8 tyX8_ok nmX8 rfl mw_141 rfl (by decide +kernel) (jp_isb_n (by decide)) (jp_isb_f (by decide)) dX8_init_43 (fun H locs hP hS => ?_)
  refine lv_aload_n hx hb dX8_init_46 rfl (lv_at hl 0 rfl) ?_
  refine lv_lconst (v := 1) hx hb dX8_init_47 (by decide) ?_
  refine jp_putl (k := 8) B hP hS q_13 rfl rfl (by decide) jp_fX8 tyX8 tyX8_ok nmX8 rfl mw_142 rfl (by decide +kernel) dX8_init_48 (fun H locs hP hS => ?_)
  refine lv_aload_n hx hb dX8_init_51 rfl (lv_at hl 0 rfl) ?_
  refine lv_iconst (v := 0) hx hb dX8_init_52 (by decide) ?_
  refine jp_puti (k := 9) (ty := .boolean) B hP hS q_13 rfl rfl (by decide) jp_fX8 tyX8 tyX8_ok nmX8 rfl mw_143 rfl (by decide +kernel) (jp_isb_n (by decide)) (jp_isb_f (by decide)) dX8_init_53 (fun H locs hP hS => ?_)
  refine lv_aload_n hx hb dX8_init_56 rfl (lv_at hl 0 rfl) ?_
  refine lv_iconst (v := 0) hx hb dX8_init_57 (by decide) ?_
  refine jp_puti (k := 10) (ty := .boolean) B hP hS q_13 rfl rfl (by decide) jp_fX8 tyX8 tyX8_ok nmX8 rfl mw_144 rfl (by decide +kernel) (jp_isb_n (by decide)) (jp_isb_f (by decide)) dX8_init_58 (fun H locs hP hS => ?_)
  refine lv_aload_n hx hb dX8_init_61 rfl (lv_at hl 0 rfl) ?_
  refine lv_iconst (v := -1) hx hb dX8_init_62 (by decide) ?_
  refine jp_puti (k := 11) (ty := .int) B hP hS q_13 rfl rfl (by decide) jp_fX8 tyX8 tyX8_ok nmX8 rfl mw_145 rfl (by decide +kernel) rfl rfl dX8_init_63 (fun H locs hP hS => ?_)
  refine lv_aload_n hx hb dX8_init_66 rfl (lv_at hl 0 rfl) ?_
  refine lv_iconst (v := 0) hx hb dX8_init_67 (by decide) ?_
  refine jp_puti (k := 12) (ty := .int) B hP hS q_13 rfl rfl (by decide) jp_fX8 tyX8 tyX8_ok nmX8 rfl mw_146 rfl (by decide +kernel) rfl rfl dX8_init_68 (fun H locs hP hS => ?_)
  refine lv_aload_n hx hb dX8_init_71 rfl (lv_at hl 0 rfl) ?_
  refine lv_sipush (v := 1600) hx hb dX8_init_72 (by decide) ?_
  have q_14 : Z_6 23 = some (1, 4, []) := by rw [hZ_6, jp_zu_n _ _ (by decide)]; exact q_11
  refine jp_size (last := 23) hP q_14 (jp_ad1 ha_23 hsz rfl) (fun hz => ?_)
  have q_15 : Z_6 24 = none := by rw [hZ_6, jp_zu_n _ _ (by decide), hZ_5, jp_zu_n _ _ (by decide), hZ_4, jp_zu_n _ _ (by decide), hZ_3, jp_zu_n _ _ (by decide), hZ_2, jp_zu_n _ _ (by decide), hZ_1, jp_zu_n _ _ (by decide)]; exact hn_24
  refine jp_newi (M := 1600) B hP hS hz (id := 24) q_15 (jp_ad0 ha_24 hsz rfl) mw_53 (by decide) (by decide) (Nat.le_refl _) (by decide) (Nat.le_of_ble_eq_true rfl) (Nat.le_of_ble_eq_true rfl) dX8_init_75 (fun H hP hS hz => ?_)
  obtain ⟨Z_7, hZ_7⟩ : ∃ z, z = jp_zu Z_6 24 (1, 1600, []) := ⟨_, rfl⟩
  rw [← hZ_7] at hP
  have q_16 : Z_7 24 = some (1, 1600, []) := by rw [hZ_7]; exact jp_zu_s _ _ _
  have q_17 : Z_7 20 = some (0, 8, [(0, 0), (0, 0), (0, 0), (0, 0), (1, 21), (1, 22), (1, 23), (0, 0), (2, 0), (0, 0), (0, 0), (0, 0), (0, 0), (3, 0), (3, 0), (3, 0), (3, 0)]) := by rw [hZ_7, jp_zu_n _ _ (by decide)]; exact q_13
  refine jp_putr (k := 13) (r := 24) (fs' := [(0, 0), (0, 0), (0, 0), (0, 0), (1, 21), (1, 22), (1, 23), (0, 0), (2, 0), (0, 0), (0, 0), (0, 0), (0, 0), (1, 24), (3, 0), (3, 0), (3, 0)]) B hnm hP hS q_17 (by decide) rfl (by decide) jp_fX8 tyX8 tyX8_ok nmX8 rfl rfl mw_147 rfl (ty := tyX8 13) (by decide +kernel) rfl rfl rfl dX8_init_77 (fun H locs hP hS hz2 => ?_)
  obtain ⟨Z_8, hZ_8⟩ : ∃ z, z = jp_zu Z_7 20 (0, 8, [(0, 0), (0, 0), (0, 0), (0, 0), (1, 21), (1, 22), (1, 23), (0, 0), (2, 0), (0, 0), (0, 0), (0, 0), (0, 0), (1, 24), (3, 0), (3, 0), (3, 0)]) := ⟨_, rfl⟩
  rw [← hZ_8] at hP
  have q_18 : Z_8 20 = some (0, 8, [(0, 0), (0, 0), (0, 0), (0, 0), (1, 21), (1, 22), (1, 23), (0, 0), (2, 0), (0, 0), (0, 0), (0, 0), (0, 0), (1, 24), (3, 0), (3, 0), (3, 0)]) := by rw [hZ_8]; exact jp_zu_s _ _ _
  refine lv_aload_n hx hb dX8_init_80 rfl (lv_at hl 0 rfl) ?_
  refine lv_sipush (v := 640) hx hb dX8_init_81 (by decide) ?_
  have q_19 : Z_8 24 = some (1, 1600, []) := by rw [hZ_8, jp_zu_n _ _ (by decide)]; exact q_16
  refine jp_size (last := 24) hP q_19 (jp_ad1 ha_24 hsz rfl) (fun hz => ?_)
  have q_20 : Z_8 25 = none := by rw [hZ_8, jp_zu_n _ _ (by decide), hZ_7, jp_zu_n _ _ (by decide), hZ_6, jp_zu_n _ _ (by decide), hZ_5, jp_zu_n _ _ (by decide), hZ_4, jp_zu_n _ _ (by decide), hZ_3, jp_zu_n _ _ (by decide), hZ_2, jp_zu_n _ _ (by decide), hZ_1, jp_zu_n _ _ (by decide)]; exact hn_25
  refine jp_newi (M := 640) B hP hS hz (id := 25) q_20 (jp_ad0 ha_25 hsz rfl) mw_53 (by decide) (by decide) (Nat.le_refl _) (by decide) (Nat.le_of_ble_eq_true rfl) (Nat.le_of_ble_eq_true rfl) dX8_init_84 (fun H hP hS hz => ?_)
  obtain ⟨Z_9, hZ_9⟩ : ∃ z, z = jp_zu Z_8 25 (1, 640, []) := ⟨_, rfl⟩
  rw [← hZ_9] at hP
  have q_21 : Z_9 25 = some (1, 640, []) := by rw [hZ_9]; exact jp_zu_s _ _ _
  have q_22 : Z_9 20 = some (0, 8, [(0, 0), (0, 0), (0, 0), (0, 0), (1, 21), (1, 22), (1, 23), (0, 0), (2, 0), (0, 0), (0, 0), (0, 0), (0, 0), (1, 24), (3, 0), (3, 0), (3, 0)]) := by rw [hZ_9, jp_zu_n _ _ (by decide)]; exact q_18
  refine jp_putr (k := 14) (r := 25) (fs' := [(0, 0), (0, 0), (0, 0), (0, 0), (1, 21), (1, 22), (1, 23), (0, 0), (2, 0), (0, 0), (0, 0), (0, 0), (0, 0), (1, 24), (1, 25), (3, 0), (3, 0)]) B hnm hP hS q_22 (by decide) rfl (by decide) jp_fX8 tyX8 tyX8_ok nmX8 rfl rfl mw_148 rfl (ty := tyX8 14) (by decide +kernel) rfl rfl rfl dX8_init_86 (fun H locs hP hS hz2 => ?_)
  obtain ⟨Z_10, hZ_10⟩ : ∃ z, z = jp_zu Z_9 20 (0, 8, [(0, 0), (0, 0), (0, 0), (0, 0), (1, 21), (1, 22), (1, 23), (0, 0), (2, 0), (0, 0), (0, 0), (0, 0), (0, 0), (1, 24), (1, 25), (3, 0), (3, 0)]) := ⟨_, rfl⟩
  rw [← hZ_10] at hP
  have q_23 : Z_10 20 = some (0, 8, [(0, 0), (0, 0), (0, 0), (0, 0), (1, 21), (1, 22), (1, 23), (0, 0), (2, 0), (0, 0), (0, 0), (0, 0), (0, 0), (1, 24), (1, 25), (3, 0), (3, 0)]) := by rw [hZ_10]; exact jp_zu_s _ _ _
  refine lv_aload_n hx hb dX8_init_89 rfl (lv_at hl 0 rfl) ?_
  refine lv_iconst (v := 4) hx hb dX8_init_90 (by decide) ?_
  have q_24 : Z_10 25 = some (1, 640, []) := by rw [hZ_10, jp_zu_n _ _ (by decide)]; exact q_21
  refine jp_size (last := 25) hP q_24 (jp_ad1 ha_25 hsz rfl) (fun hz => ?_)
  have q_25 : Z_10 26 = none := by rw [hZ_10, jp_zu_n _ _ (by decide), hZ_9, jp_zu_n _ _ (by decide), hZ_8, jp_zu_n _ _ (by decide), hZ_7, jp_zu_n _ _ (by decide), hZ_6, jp_zu_n _ _ (by decide), hZ_5, jp_zu_n _ _ (by decide), hZ_4, jp_zu_n _ _ (by decide), hZ_3, jp_zu_n _ _ (by decide), hZ_2, jp_zu_n _ _ (by decide), hZ_1, jp_zu_n _ _ (by decide)]; exact hn_26
  refine jp_newi (M := 4) B hP hS hz (id := 26) q_25 (jp_ad0 ha_26 hsz rfl) mw_53 (by decide) (by decide) (Nat.le_refl _) (by decide) (Nat.le_of_ble_eq_true rfl) (Nat.le_of_ble_eq_true rfl) dX8_init_91 (fun H hP hS hz => ?_)
  obtain ⟨Z_11, hZ_11⟩ : ∃ z, z = jp_zu Z_10 26 (1, 4, []) := ⟨_, rfl⟩
  rw [← hZ_11] at hP
  have q_26 : Z_11 26 = some (1, 4, []) := by rw [hZ_11]; exact jp_zu_s _ _ _
  have q_27 : Z_11 20 = some (0, 8, [(0, 0), (0, 0), (0, 0), (0, 0), (1, 21), (1, 22), (1, 23), (0, 0), (2, 0), (0, 0), (0, 0), (0, 0), (0, 0), (1, 24), (1, 25), (3, 0), (3, 0)]) := by rw [hZ_11, jp_zu_n _ _ (by decide)]; exact q_23
  refine jp_putr (k := 15) (r := 26) (fs' := [(0, 0), (0, 0), (0, 0), (0, 0), (1, 21), (1, 22), (1, 23), (0, 0), (2, 0), (0, 0), (0, 0), (0, 0), (0, 0), (1, 24), (1, 25), (1, 26), (3, 0)]) B hnm hP hS q_27 (by decide) rfl (by decide) jp_fX8 tyX8 tyX8_ok nmX8 rfl rfl mw_149 rfl (ty := tyX8 15) (by decide +kernel) rfl rfl rfl dX8_init_93 (fun H locs hP hS hz2 => ?_)
  obtain ⟨Z_12, hZ_12⟩ : ∃ z, z = jp_zu Z_11 20 (0, 8, [(0, 0), (0, 0), (0, 0), (0, 0), (1, 21), (1, 22), (1, 23), (0, 0), (2, 0), (0, 0), (0, 0), (0, 0), (0, 0), (1, 24), (1, 25), (1, 26), (3, 0)]) := ⟨_, rfl⟩
  rw [← hZ_12] at hP
  have q_28 : Z_12 20 = some (0, 8, [(0, 0), (0, 0), (0, 0), (0, 0), (1, 21), (1, 22), (1, 23), (0, 0), (2, 0), (0, 0), (0, 0), (0, 0), (0, 0), (1, 24), (1, 25), (1, 26), (3, 0)]) := by rw [hZ_12]; exact jp_zu_s _ _ _
  refine lv_aload_n hx hb dX8_init_96 rfl (lv_at hl 0 rfl) ?_
  refine lv_sipush (v := 1476) hx hb dX8_init_97 (by decide) ?_
  have q_29 : Z_12 26 = some (1, 4, []) := by rw [hZ_12, jp_zu_n _ _ (by decide)]; exact q_26
  refine jp_size (last := 26) hP q_29 (jp_ad1 ha_26 hsz rfl) (fun hz => ?_)
  have q_30 : Z_12 27 = none := by rw [hZ_12, jp_zu_n _ _ (by decide), hZ_11, jp_zu_n _ _ (by decide), hZ_10, jp_zu_n _ _ (by decide), hZ_9, jp_zu_n _ _ (by decide), hZ_8, jp_zu_n _ _ (by decide), hZ_7, jp_zu_n _ _ (by decide), hZ_6, jp_zu_n _ _ (by decide), hZ_5, jp_zu_n _ _ (by decide), hZ_4, jp_zu_n _ _ (by decide), hZ_3, jp_zu_n _ _ (by decide), hZ_2, jp_zu_n _ _ (by decide), hZ_1, jp_zu_n _ _ (by decide)]; exact hn_27
  refine jp_newi (M := 1476) B hP hS hz (id := 27) q_30 (jp_ad0 ha_27 hsz rfl) mw_53 (by decide) (by decide) (Nat.le_refl _) (by decide) (Nat.le_of_ble_eq_true rfl) (Nat.le_of_ble_eq_true rfl) dX8_init_100 (fun H hP hS hz => ?_)
  obtain ⟨Z_13, hZ_13⟩ : ∃ z, z = jp_zu Z_12 27 (1, 1476, []) := ⟨_, rfl⟩
  rw [← hZ_13] at hP
  have q_31 : Z_13 27 = some (1, 1476, []) := by rw [hZ_13]; exact jp_zu_s _ _ _
  have q_32 : Z_13 20 = some (0, 8, [(0, 0), (0, 0), (0, 0), (0, 0), (1, 21), (1, 22), (1, 23), (0, 0), (2, 0), (0, 0), (0, 0), (0, 0), (0, 0), (1, 24), (1, 25), (1, 26), (3, 0)]) := by rw [hZ_13, jp_zu_n _ _ (by decide)]; exact q_28
  refine jp_putr (k := 16) (r := 27) (fs' := [(0, 0), (0, 0), (0, 0), (0, 0), (1, 21), (1, 22), (1, 23), (0, 0), (2, 0), (0, 0), (0, 0), (0, 0), (0, 0), (1, 24), (1, 25), (1, 26), (1, 27)]) B hnm hP hS q_32 (by decide) rfl (by decide) jp_fX8 tyX8 tyX8_ok nmX8 rfl rfl mw_150 rfl (ty := tyX8 16) (by decide +kernel) rfl rfl rfl dX8_init_102 (fun H locs hP hS hz2 => ?_)
  obtain ⟨Z_14, hZ_14⟩ : ∃ z, z = jp_zu Z_13 20 (0, 8, [(0, 0), (0, 0), (0, 0), (0, 0), (1, 21), (1, 22), (1, 23), (0, 0), (2, 0), (0, 0), (0, 0), (0, 0), (0, 0), (1, 24), (1, 25), (1, 26), (1, 27)]) := ⟨_, rfl⟩
  rw [← hZ_14] at hP
  have q_33 : Z_14 20 = some (0, 8, [(0, 0), (0, 0), (0, 0), (0, 0), (1, 21), (1, 22), (1, 23), (0, 0), (2, 0), (0, 0), (0, 0), (0, 0), (0, 0), (1, 24), (1, 25), (1, 26), (1, 27)]) := by rw [hZ_14]; exact jp_zu_s _ _ _
  refine lv_aload_n hx hb dX8_init_105 rfl (lv_at hl 0 rfl) ?_
  refine lv_iload_n hx hb dX8_init_106 rfl (lv_at hl 1 rfl) ?_
  refine lv_if_ge (tgt := 114) hx hb dX8_init_107 (by decide) (fun c_34 => ?_) (fun c_34 => ?_)
  · rw [if_pos c_34] at hf
    refine lv_iload_n hx hb dX8_init_114 rfl (lv_at hl 1 rfl) ?_
    refine lv_iconst (v := 4) hx hb dX8_init_115 (by decide) ?_
    refine lv_icmp_le (tgt := 123) hx hb dX8_init_116 (by decide) (fun c_35 => ?_) (fun c_35 => ?_)
    · rw [if_pos c_35] at hf
      refine lv_iload_n hx hb dX8_init_123 rfl (lv_at hl 1 rfl) ?_
      refine jp_putiF (k := 1) B hnm hP hS q_33 rfl rfl (by decide) jp_fX8 tyX8 tyX8_ok nmX8 rfl rfl mw_151 rfl (by decide +kernel) dX8_init_124 (fun H locs hP hS hz2 => ?_)
      obtain ⟨Z_15, hZ_15⟩ : ∃ z, z = jp_zu Z_14 20 (0, 8, [(0, 0), (0, 0), (0, 0), (0, 0), (1, 21), (1, 22), (1, 23), (0, 0), (2, 0), (0, 0), (0, 0), (0, 0), (0, 0), (1, 24), (1, 25), (1, 26), (1, 27)]) := ⟨_, rfl⟩
      rw [← hZ_15] at hP
      have q_36 : Z_15 20 = some (0, 8, [(0, 0), (0, 0), (0, 0), (0, 0), (1, 21), (1, 22), (1, 23), (0, 0), (2, 0), (0, 0), (0, 0), (0, 0), (0, 0), (1, 24), (1, 25), (1, 26), (1, 27)]) := by rw [hZ_15]; exact jp_zu_s _ _ _
      refine lv_aload_n hx hb dX8_init_127 rfl (lv_at hl 0 rfl) ?_
      refine lv_iconst (v := 1) hx hb dX8_init_128 (by decide) ?_
      refine lv_iconst (v := 1) hx hb dX8_init_129 (by decide) ?_
      have q_38 : Z_15 21 = some (2, 36, []) := by rw [hZ_15, jp_zu_n _ _ (by decide), hZ_14, jp_zu_n _ _ (by decide), hZ_13, jp_zu_n _ _ (by decide), hZ_12, jp_zu_n _ _ (by decide), hZ_11, jp_zu_n _ _ (by decide), hZ_10, jp_zu_n _ _ (by decide), hZ_9, jp_zu_n _ _ (by decide), hZ_8, jp_zu_n _ _ (by decide), hZ_7, jp_zu_n _ _ (by decide), hZ_6, jp_zu_n _ _ (by decide), hZ_5, jp_zu_n _ _ (by decide), hZ_4, jp_zu_n _ _ (by decide), hZ_3, jp_zu_n _ _ (by decide)]; exact q_4
      have q_39 : Z_15 22 = some (1, 4, []) := by rw [hZ_15, jp_zu_n _ _ (by decide), hZ_14, jp_zu_n _ _ (by decide), hZ_13, jp_zu_n _ _ (by decide), hZ_12, jp_zu_n _ _ (by decide), hZ_11, jp_zu_n _ _ (by decide), hZ_10, jp_zu_n _ _ (by decide), hZ_9, jp_zu_n _ _ (by decide), hZ_8, jp_zu_n _ _ (by decide), hZ_7, jp_zu_n _ _ (by decide), hZ_6, jp_zu_n _ _ (by decide), hZ_5, jp_zu_n _ _ (by decide)]; exact q_9
      have q_40 : Z_15 23 = some (1, 4, []) := by rw [hZ_15, jp_zu_n _ _ (by decide), hZ_14, jp_zu_n _ _ (by decide), hZ_13, jp_zu_n _ _ (by decide), hZ_12, jp_zu_n _ _ (by decide), hZ_11, jp_zu_n _ _ (by decide), hZ_10, jp_zu_n _ _ (by decide), hZ_9, jp_zu_n _ _ (by decide), hZ_8, jp_zu_n _ _ (by decide), hZ_7, jp_zu_n _ _ (by decide)]; exact q_14
      have q_41 : Z_15 24 = some (1, 1600, []) := by rw [hZ_15, jp_zu_n _ _ (by decide), hZ_14, jp_zu_n _ _ (by decide), hZ_13, jp_zu_n _ _ (by decide), hZ_12, jp_zu_n _ _ (by decide), hZ_11, jp_zu_n _ _ (by decide), hZ_10, jp_zu_n _ _ (by decide), hZ_9, jp_zu_n _ _ (by decide)]; exact q_19
      have q_42 : Z_15 25 = some (1, 640, []) := by rw [hZ_15, jp_zu_n _ _ (by decide), hZ_14, jp_zu_n _ _ (by decide), hZ_13, jp_zu_n _ _ (by decide), hZ_12, jp_zu_n _ _ (by decide), hZ_11, jp_zu_n _ _ (by decide)]; exact q_24
      have q_43 : Z_15 26 = some (1, 4, []) := by rw [hZ_15, jp_zu_n _ _ (by decide), hZ_14, jp_zu_n _ _ (by decide), hZ_13, jp_zu_n _ _ (by decide)]; exact q_29
      have q_44 : Z_15 27 = some (1, 1476, []) := by rw [hZ_15, jp_zu_n _ _ (by decide), hZ_14, jp_zu_n _ _ (by decide)]; exact q_31
      obtain ⟨⟨a_37, σ_37, τ_37⟩, h_37, hf⟩ := jp_bind hf
      dsimp only at hf
      refine jp_callV (rest := []) B hP hS hl (ctX8_fresh ⟨q_36, q_38, q_39, q_40, q_41, q_42, q_43, q_44⟩ h_37) q_36 rfl mw_155 mw_152 mw_153 mw_154 mw_5 ddX8_fresh ⟨Nat.le_of_ble_eq_true rfl, Nat.le_of_ble_eq_true rfl⟩ ⟨Nat.le_of_ble_eq_true rfl, Nat.le_of_ble_eq_true rfl⟩ rfl (Nat.le_of_ble_eq_true rfl) dX8_init_130 (fun H locs hP hS => ?_)
      have hze : zX8_init Z = Z_15 := by rw [hZ_15, hZ_14, hZ_13, hZ_12, hZ_11, hZ_10, hZ_9, hZ_8, hZ_7, hZ_6, hZ_5, hZ_4, hZ_3, hZ_2, hZ_1]; rfl
      exact jp_endK B hP hS (Nat.le_of_ble_eq_true rfl) (Nat.le_of_ble_eq_true rfl) dX8_init_133 ⟨hze, jp_injK hf⟩
    · rw [if_neg c_35] at hf
      refine lv_iconst (v := 4) hx hb dX8_init_119 (by decide) ?_
      refine lv_goto (tgt := 124) hx hb dX8_init_120 (by decide) ?_
      refine jp_putiF (k := 1) B hnm hP hS q_33 rfl rfl (by decide) jp_fX8 tyX8 tyX8_ok nmX8 rfl rfl mw_151 rfl (by decide +kernel) dX8_init_124 (fun H locs hP hS hz2 => ?_)
      obtain ⟨Z_15, hZ_15⟩ : ∃ z, z = jp_zu Z_14 20 (0, 8, [(0, 0), (0, 0), (0, 0), (0, 0), (1, 21), (1, 22), (1, 23), (0, 0), (2, 0), (0, 0), (0, 0), (0, 0), (0, 0), (1, 24), (1, 25), (1, 26), (1, 27)]) := ⟨_, rfl⟩
      rw [← hZ_15] at hP
      have q_45 : Z_15 20 = some (0, 8, [(0, 0), (0, 0), (0, 0), (0, 0), (1, 21), (1, 22), (1, 23), (0, 0), (2, 0), (0, 0), (0, 0), (0, 0), (0, 0), (1, 24), (1, 25), (1, 26), (1, 27)]) := by rw [hZ_15]; exact jp_zu_s _ _ _
      refine lv_aload_n hx hb dX8_init_127 rfl (lv_at hl 0 rfl) ?_
      refine lv_iconst (v := 1) hx hb dX8_init_128 (by decide) ?_
      refine lv_iconst (v := 1) hx hb dX8_init_129 (by decide) ?_
      have q_47 : Z_15 21 = some (2, 36, []) := by rw [hZ_15, jp_zu_n _ _ (by decide), hZ_14, jp_zu_n _ _ (by decide), hZ_13, jp_zu_n _ _ (by decide), hZ_12, jp_zu_n _ _ (by decide), hZ_11, jp_zu_n _ _ (by decide), hZ_10, jp_zu_n _ _ (by decide), hZ_9, jp_zu_n _ _ (by decide), hZ_8, jp_zu_n _ _ (by decide), hZ_7, jp_zu_n _ _ (by decide), hZ_6, jp_zu_n _ _ (by decide), hZ_5, jp_zu_n _ _ (by decide), hZ_4, jp_zu_n _ _ (by decide), hZ_3, jp_zu_n _ _ (by decide)]; exact q_4
      have q_48 : Z_15 22 = some (1, 4, []) := by rw [hZ_15, jp_zu_n _ _ (by decide), hZ_14, jp_zu_n _ _ (by decide), hZ_13, jp_zu_n _ _ (by decide), hZ_12, jp_zu_n _ _ (by decide), hZ_11, jp_zu_n _ _ (by decide), hZ_10, jp_zu_n _ _ (by decide), hZ_9, jp_zu_n _ _ (by decide), hZ_8, jp_zu_n _ _ (by decide), hZ_7, jp_zu_n _ _ (by decide), hZ_6, jp_zu_n _ _ (by decide), hZ_5, jp_zu_n _ _ (by decide)]; exact q_9
      have q_49 : Z_15 23 = some (1, 4, []) := by rw [hZ_15, jp_zu_n _ _ (by decide), hZ_14, jp_zu_n _ _ (by decide), hZ_13, jp_zu_n _ _ (by decide), hZ_12, jp_zu_n _ _ (by decide), hZ_11, jp_zu_n _ _ (by decide), hZ_10, jp_zu_n _ _ (by decide), hZ_9, jp_zu_n _ _ (by decide), hZ_8, jp_zu_n _ _ (by decide), hZ_7, jp_zu_n _ _ (by decide)]; exact q_14
      have q_50 : Z_15 24 = some (1, 1600, []) := by rw [hZ_15, jp_zu_n _ _ (by decide), hZ_14, jp_zu_n _ _ (by decide), hZ_13, jp_zu_n _ _ (by decide), hZ_12, jp_zu_n _ _ (by decide), hZ_11, jp_zu_n _ _ (by decide), hZ_10, jp_zu_n _ _ (by decide), hZ_9, jp_zu_n _ _ (by decide)]; exact q_19
      have q_51 : Z_15 25 = some (1, 640, []) := by rw [hZ_15, jp_zu_n _ _ (by decide), hZ_14, jp_zu_n _ _ (by decide), hZ_13, jp_zu_n _ _ (by decide), hZ_12, jp_zu_n _ _ (by decide), hZ_11, jp_zu_n _ _ (by decide)]; exact q_24
      have q_52 : Z_15 26 = some (1, 4, []) := by rw [hZ_15, jp_zu_n _ _ (by decide), hZ_14, jp_zu_n _ _ (by decide), hZ_13, jp_zu_n _ _ (by decide)]; exact q_29
      have q_53 : Z_15 27 = some (1, 1476, []) := by rw [hZ_15, jp_zu_n _ _ (by decide), hZ_14, jp_zu_n _ _ (by decide)]; exact q_31
      obtain ⟨⟨a_46, σ_46, τ_46⟩, h_46, hf⟩ := jp_bind hf
      dsimp only at hf
      refine jp_callV (rest := []) B hP hS hl (ctX8_fresh ⟨q_45, q_47, q_48, q_49, q_50, q_51, q_52, q_53⟩ h_46) q_45 rfl mw_155 mw_152 mw_153 mw_154 mw_5 ddX8_fresh ⟨Nat.le_of_ble_eq_true rfl, Nat.le_of_ble_eq_true rfl⟩ ⟨Nat.le_of_ble_eq_true rfl, Nat.le_of_ble_eq_true rfl⟩ rfl (Nat.le_of_ble_eq_true rfl) dX8_init_130 (fun H locs hP hS => ?_)
      have hze : zX8_init Z = Z_15 := by rw [hZ_15, hZ_14, hZ_13, hZ_12, hZ_11, hZ_10, hZ_9, hZ_8, hZ_7, hZ_6, hZ_5, hZ_4, hZ_3, hZ_2, hZ_1]; rfl
      exact jp_endK B hP hS (Nat.le_of_ble_eq_true rfl) (Nat.le_of_ble_eq_true rfl) dX8_init_133 ⟨hze, jp_injK hf⟩
  · rw [if_neg c_34] at hf
    refine lv_iconst (v := 0) hx hb dX8_init_110 (by decide) ?_
    refine lv_goto (tgt := 124) hx hb dX8_init_111 (by decide) ?_
    refine jp_putiF (k := 1) B hnm hP hS q_33 rfl rfl (by decide) jp_fX8 tyX8 tyX8_ok nmX8 rfl rfl mw_151 rfl (by decide +kernel) dX8_init_124 (fun H locs hP hS hz2 => ?_)
    obtain ⟨Z_15, hZ_15⟩ : ∃ z, z = jp_zu Z_14 20 (0, 8, [(0, 0), (0, 0), (0, 0), (0, 0), (1, 21), (1, 22), (1, 23), (0, 0), (2, 0), (0, 0), (0, 0), (0, 0), (0, 0), (1, 24), (1, 25), (1, 26), (1, 27)]) := ⟨_, rfl⟩
    rw [← hZ_15] at hP
    have q_54 : Z_15 20 = some (0, 8, [(0, 0), (0, 0), (0, 0), (0, 0), (1, 21), (1, 22), (1, 23), (0, 0), (2, 0), (0, 0), (0, 0), (0, 0), (0, 0), (1, 24), (1, 25), (1, 26), (1, 27)]) := by rw [hZ_15]; exact jp_zu_s _ _ _
    refine lv_aload_n hx hb dX8_init_127 rfl (lv_at hl 0 rfl) ?_
    refine lv_iconst (v := 1) hx hb dX8_init_128 (by decide) ?_
    refine lv_iconst (v := 1) hx hb dX8_init_129 (by decide) ?_
    have q_56 : Z_15 21 = some (2, 36, []) := by rw [hZ_15, jp_zu_n _ _ (by decide), hZ_14, jp_zu_n _ _ (by decide), hZ_13, jp_zu_n _ _ (by decide), hZ_12, jp_zu_n _ _ (by decide), hZ_11, jp_zu_n _ _ (by decide), hZ_10, jp_zu_n _ _ (by decide), hZ_9, jp_zu_n _ _ (by decide), hZ_8, jp_zu_n _ _ (by decide), hZ_7, jp_zu_n _ _ (by decide), hZ_6, jp_zu_n _ _ (by decide), hZ_5, jp_zu_n _ _ (by decide), hZ_4, jp_zu_n _ _ (by decide), hZ_3, jp_zu_n _ _ (by decide)]; exact q_4
    have q_57 : Z_15 22 = some (1, 4, []) := by rw [hZ_15, jp_zu_n _ _ (by decide), hZ_14, jp_zu_n _ _ (by decide), hZ_13, jp_zu_n _ _ (by decide), hZ_12, jp_zu_n _ _ (by decide), hZ_11, jp_zu_n _ _ (by decide), hZ_10, jp_zu_n _ _ (by decide), hZ_9, jp_zu_n _ _ (by decide), hZ_8, jp_zu_n _ _ (by decide), hZ_7, jp_zu_n _ _ (by decide), hZ_6, jp_zu_n _ _ (by decide), hZ_5, jp_zu_n _ _ (by decide)]; exact q_9
    have q_58 : Z_15 23 = some (1, 4, []) := by rw [hZ_15, jp_zu_n _ _ (by decide), hZ_14, jp_zu_n _ _ (by decide), hZ_13, jp_zu_n _ _ (by decide), hZ_12, jp_zu_n _ _ (by decide), hZ_11, jp_zu_n _ _ (by decide), hZ_10, jp_zu_n _ _ (by decide), hZ_9, jp_zu_n _ _ (by decide), hZ_8, jp_zu_n _ _ (by decide), hZ_7, jp_zu_n _ _ (by decide)]; exact q_14
    have q_59 : Z_15 24 = some (1, 1600, []) := by rw [hZ_15, jp_zu_n _ _ (by decide), hZ_14, jp_zu_n _ _ (by decide), hZ_13, jp_zu_n _ _ (by decide), hZ_12, jp_zu_n _ _ (by decide), hZ_11, jp_zu_n _ _ (by decide), hZ_10, jp_zu_n _ _ (by decide), hZ_9, jp_zu_n _ _ (by decide)]; exact q_19
    have q_60 : Z_15 25 = some (1, 640, []) := by rw [hZ_15, jp_zu_n _ _ (by decide), hZ_14, jp_zu_n _ _ (by decide), hZ_13, jp_zu_n _ _ (by decide), hZ_12, jp_zu_n _ _ (by decide), hZ_11, jp_zu_n _ _ (by decide)]; exact q_24
    have q_61 : Z_15 26 = some (1, 4, []) := by rw [hZ_15, jp_zu_n _ _ (by decide), hZ_14, jp_zu_n _ _ (by decide), hZ_13, jp_zu_n _ _ (by decide)]; exact q_29
    have q_62 : Z_15 27 = some (1, 1476, []) := by rw [hZ_15, jp_zu_n _ _ (by decide), hZ_14, jp_zu_n _ _ (by decide)]; exact q_31
    obtain ⟨⟨a_55, σ_55, τ_55⟩, h_55, hf⟩ := jp_bind hf
    dsimp only at hf
    refine jp_callV (rest := []) B hP hS hl (ctX8_fresh ⟨q_54, q_56, q_57, q_58, q_59, q_60, q_61, q_62⟩ h_55) q_54 rfl mw_155 mw_152 mw_153 mw_154 mw_5 ddX8_fresh ⟨Nat.le_of_ble_eq_true rfl, Nat.le_of_ble_eq_true rfl⟩ ⟨Nat.le_of_ble_eq_true rfl, Nat.le_of_ble_eq_true rfl⟩ rfl (Nat.le_of_ble_eq_true rfl) dX8_init_130 (fun H locs hP hS => ?_)
    have hze : zX8_init Z = Z_15 := by rw [hZ_15, hZ_14, hZ_13, hZ_12, hZ_11, hZ_10, hZ_9, hZ_8, hZ_7, hZ_6, hZ_5, hZ_4, hZ_3, hZ_2, hZ_1]; rfl
    exact jp_endK B hP hS (Nat.le_of_ble_eq_true rfl) (Nat.le_of_ble_eq_true rfl) dX8_init_133 ⟨hze, jp_injK hf⟩
