-- X0_init
def zX0_init (Z : Nat → Option jp_Sh) : Nat → Option jp_Sh := jp_zu (jp_zu (jp_zu (jp_zu (jp_zu (jp_zu (jp_zu (jp_zu Z 5 (1, 36, [])) 2 (0, 1, [(1, 5), (3, 0), (3, 0), (3, 0), (0, 0), (0, 0), (0, 0)])) 6 (1, 180, [])) 2 (0, 1, [(1, 5), (1, 6), (3, 0), (3, 0), (0, 0), (0, 0), (0, 0)])) 7 (1, 36, [])) 2 (0, 1, [(1, 5), (1, 6), (1, 7), (3, 0), (0, 0), (0, 0), (0, 0)])) 8 (1, 36, [])) 2 (0, 1, [(1, 5), (1, 6), (1, 7), (1, 8), (0, 0), (0, 0), (0, 0)])
theorem zX0_init_2 (Z : Nat → Option jp_Sh) : zX0_init Z 2 = some (0, 1, [(1, 5), (1, 6), (1, 7), (1, 8), (0, 0), (0, 0), (0, 0)]) := by
  unfold zX0_init
  exact jp_zu_s _ _ _
theorem zX0_init_5 (Z : Nat → Option jp_Sh) : zX0_init Z 5 = some (1, 36, []) := by
  unfold zX0_init
  rw [jp_zu_n _ _ (by decide), jp_zu_n _ _ (by decide), jp_zu_n _ _ (by decide), jp_zu_n _ _ (by decide), jp_zu_n _ _ (by decide), jp_zu_n _ _ (by decide), jp_zu_n _ _ (by decide)]; exact jp_zu_s _ _ _
theorem zX0_init_6 (Z : Nat → Option jp_Sh) : zX0_init Z 6 = some (1, 180, []) := by
  unfold zX0_init
  rw [jp_zu_n _ _ (by decide), jp_zu_n _ _ (by decide), jp_zu_n _ _ (by decide), jp_zu_n _ _ (by decide), jp_zu_n _ _ (by decide)]; exact jp_zu_s _ _ _
theorem zX0_init_7 (Z : Nat → Option jp_Sh) : zX0_init Z 7 = some (1, 36, []) := by
  unfold zX0_init
  rw [jp_zu_n _ _ (by decide), jp_zu_n _ _ (by decide), jp_zu_n _ _ (by decide)]; exact jp_zu_s _ _ _
theorem zX0_init_8 (Z : Nat → Option jp_Sh) : zX0_init Z 8 = some (1, 36, []) := by
  unfold zX0_init
  rw [jp_zu_n _ _ (by decide)]; exact jp_zu_s _ _ _
theorem zX0_init_n (Z : Nat → Option jp_Sh) {i : Nat} (h : ¬ i ∈ [2, 5, 6, 7, 8]) : zX0_init Z i = Z i := by
  unfold zX0_init
  simp only [List.mem_cons, List.not_mem_nil, or_false, not_or] at h
  obtain ⟨e2, e5, e6, e7, e8⟩ := h
  rw [jp_zu_n _ _ e2, jp_zu_n _ _ e8, jp_zu_n _ _ e2, jp_zu_n _ _ e7, jp_zu_n _ _ e2, jp_zu_n _ _ e6, jp_zu_n _ _ e2, jp_zu_n _ _ e5]
def fX0_init (σ : jp_I) (τ : jp_J) : Option (jp_I × jp_J) :=
  some (jp_z (jp_z (jp_z (jp_z σ 5) 6) 7) 8, τ)
set_option maxHeartbeats 8000000 in
set_option maxRecDepth 20000 in
theorem ctX0_init {l : Launch} {Γ : jp_G} {Z : Nat → Option jp_Sh} {σ σ0 : jp_I} {τ τ0 : jp_J} {sz : Nat} (hth : Z 2 = some (0, 1, [(3, 0), (3, 0), (3, 0), (3, 0), (0, 0), (0, 0), (0, 0)])) (hn_5 : Z 5 = none) (hn_6 : Z 6 = none) (hn_7 : Z 7 = none) (hn_8 : Z 8 = none) (ha_t : Γ.2.2.1 2 + 1 = sz) (ha_5 : Γ.2.2.1 5 = sz + 0) (ha_6 : Γ.2.2.1 6 = sz + 1) (ha_7 : Γ.2.2.1 7 = sz + 2) (ha_8 : Γ.2.2.1 8 = sz + 3) (hf : fX0_init σ τ = some (σ0, τ0)) : jp_K l yX0_init cX0_init 1 1 12 4 288 Γ Z σ τ sz [.ref (Γ.2.2.1 2)] (zX0_init Z) σ0 τ0 := by
  refine jp_mkK (lv := [(0, .ref (Γ.2.2.1 2))]) (by decide) rfl (Nat.le_of_ble_eq_true rfl) rfl fun p e s m args below meth c B hnm hsz hP ls hl => ?_
  obtain ⟨hx, hb, hml, hown, hts, hr, hlk, hE⟩ := id B
  unfold fX0_init at hf
  obtain ⟨H, hH⟩ : ∃ H, H = s.heap := ⟨_, rfl⟩
  obtain ⟨locs, hlocs⟩ : ∃ l0 : List Loc, l0 = [] := ⟨_, rfl⟩
  have hS : va_S (jp_A Γ) s.heap H locs := by rw [hH, hlocs]; exact va_S.rf
  rw [← hH] at hP
  show W p l e _ s m args below meth c s.heap [] 0 0 _ _
  rw [← hlocs]
  conv => arg 11; rw [← hH]
  refine lv_aload_n hx hb dX0_init_0 rfl (lv_at hl 0 rfl) ?_
  refine jp_obj B hl mw_58 mw_15 mw_16 (Nat.le_of_ble_eq_true rfl) (Nat.le_of_ble_eq_true rfl) dX0_init_1 ?_
  refine lv_aload_n hx hb dX0_init_4 rfl (lv_at hl 0 rfl) ?_
  refine lv_bipush (v := 36) hx hb dX0_init_5 (by decide) ?_
  refine jp_size (last := 2) hP hth (jp_ad1t ha_t hsz) (fun hz => ?_)
  refine jp_newi (M := 36) B hP hS hz (id := 5) hn_5 (jp_ad0 ha_5 hsz rfl) mw_53 (by decide) (by decide) (Nat.le_refl _) (by decide) (Nat.le_of_ble_eq_true rfl) (Nat.le_of_ble_eq_true rfl) dX0_init_7 (fun H hP hS hz => ?_)
  obtain ⟨Z_1, hZ_1⟩ : ∃ z, z = jp_zu Z 5 (1, 36, []) := ⟨_, rfl⟩
  rw [← hZ_1] at hP
  have q_1 : Z_1 5 = some (1, 36, []) := by rw [hZ_1]; exact jp_zu_s _ _ _
  have q_2 : Z_1 2 = some (0, 1, [(3, 0), (3, 0), (3, 0), (3, 0), (0, 0), (0, 0), (0, 0)]) := by rw [hZ_1, jp_zu_n _ _ (by decide)]; exact hth
  refine jp_putr (k := 0) (r := 5) (fs' := [(1, 5), (3, 0), (3, 0), (3, 0), (0, 0), (0, 0), (0, 0)]) B hnm hP hS q_2 (by decide) rfl (by decide) jp_fX0 tyX0 tyX0_ok nmX0 rfl rfl mw_59 rfl (ty := tyX0 0) (by decide +kernel) rfl rfl rfl dX0_init_9 (fun H locs hP hS hz2 => ?_)
  obtain ⟨Z_2, hZ_2⟩ : ∃ z, z = jp_zu Z_1 2 (0, 1, [(1, 5), (3, 0), (3, 0), (3, 0), (0, 0), (0, 0), (0, 0)]) := ⟨_, rfl⟩
  rw [← hZ_2] at hP
  have q_3 : Z_2 2 = some (0, 1, [(1, 5), (3, 0), (3, 0), (3, 0), (0, 0), (0, 0), (0, 0)]) := by rw [hZ_2]; exact jp_zu_s _ _ _
  refine lv_aload_n hx hb dX0_init_12 rfl (lv_at hl 0 rfl) ?_
  refine lv_sipush (v := 180) hx hb dX0_init_13 (by decide) ?_
  have q_4 : Z_2 5 = some (1, 36, []) := by rw [hZ_2, jp_zu_n _ _ (by decide)]; exact q_1
  refine jp_size (last := 5) hP q_4 (jp_ad1 ha_5 hsz rfl) (fun hz => ?_)
  have q_5 : Z_2 6 = none := by rw [hZ_2, jp_zu_n _ _ (by decide), hZ_1, jp_zu_n _ _ (by decide)]; exact hn_6
  refine jp_newi (M := 180) B hP hS hz (id := 6) q_5 (jp_ad0 ha_6 hsz rfl) mw_53 (by decide) (by decide) (Nat.le_refl _) (by decide) (Nat.le_of_ble_eq_true rfl) (Nat.le_of_ble_eq_true rfl) dX0_init_16 (fun H hP hS hz => ?_)
  obtain ⟨Z_3, hZ_3⟩ : ∃ z, z = jp_zu Z_2 6 (1, 180, []) := ⟨_, rfl⟩
  rw [← hZ_3] at hP
  have q_6 : Z_3 6 = some (1, 180, []) := by rw [hZ_3]; exact jp_zu_s _ _ _
  have q_7 : Z_3 2 = some (0, 1, [(1, 5), (3, 0), (3, 0), (3, 0), (0, 0), (0, 0), (0, 0)]) := by rw [hZ_3, jp_zu_n _ _ (by decide)]; exact q_3
  refine jp_putr (k := 1) (r := 6) (fs' := [(1, 5), (1, 6), (3, 0), (3, 0), (0, 0), (0, 0), (0, 0)]) B hnm hP hS q_7 (by decide) rfl (by decide) jp_fX0 tyX0 tyX0_ok nmX0 rfl rfl mw_60 rfl (ty := tyX0 1) (by decide +kernel) rfl rfl rfl dX0_init_18 (fun H locs hP hS hz2 => ?_)
  obtain ⟨Z_4, hZ_4⟩ : ∃ z, z = jp_zu Z_3 2 (0, 1, [(1, 5), (1, 6), (3, 0), (3, 0), (0, 0), (0, 0), (0, 0)]) := ⟨_, rfl⟩
  rw [← hZ_4] at hP
  have q_8 : Z_4 2 = some (0, 1, [(1, 5), (1, 6), (3, 0), (3, 0), (0, 0), (0, 0), (0, 0)]) := by rw [hZ_4]; exact jp_zu_s _ _ _
  refine lv_aload_n hx hb dX0_init_21 rfl (lv_at hl 0 rfl) ?_
  refine lv_bipush (v := 36) hx hb dX0_init_22 (by decide) ?_
  have q_9 : Z_4 6 = some (1, 180, []) := by rw [hZ_4, jp_zu_n _ _ (by decide)]; exact q_6
  refine jp_size (last := 6) hP q_9 (jp_ad1 ha_6 hsz rfl) (fun hz => ?_)
  have q_10 : Z_4 7 = none := by rw [hZ_4, jp_zu_n _ _ (by decide), hZ_3, jp_zu_n _ _ (by decide), hZ_2, jp_zu_n _ _ (by decide), hZ_1, jp_zu_n _ _ (by decide)]; exact hn_7
  refine jp_newi (M := 36) B hP hS hz (id := 7) q_10 (jp_ad0 ha_7 hsz rfl) mw_53 (by decide) (by decide) (Nat.le_refl _) (by decide) (Nat.le_of_ble_eq_true rfl) (Nat.le_of_ble_eq_true rfl) dX0_init_24 (fun H hP hS hz => ?_)
  obtain ⟨Z_5, hZ_5⟩ : ∃ z, z = jp_zu Z_4 7 (1, 36, []) := ⟨_, rfl⟩
  rw [← hZ_5] at hP
  have q_11 : Z_5 7 = some (1, 36, []) := by rw [hZ_5]; exact jp_zu_s _ _ _
  have q_12 : Z_5 2 = some (0, 1, [(1, 5), (1, 6), (3, 0), (3, 0), (0, 0), (0, 0), (0, 0)]) := by rw [hZ_5, jp_zu_n _ _ (by decide)]; exact q_8
  refine jp_putr (k := 2) (r := 7) (fs' := [(1, 5), (1, 6), (1, 7), (3, 0), (0, 0), (0, 0), (0, 0)]) B hnm hP hS q_12 (by decide) rfl (by decide) jp_fX0 tyX0 tyX0_ok nmX0 rfl rfl mw_61 rfl (ty := tyX0 2) (by decide +kernel) rfl rfl rfl dX0_init_26 (fun H locs hP hS hz2 => ?_)
  obtain ⟨Z_6, hZ_6⟩ : ∃ z, z = jp_zu Z_5 2 (0, 1, [(1, 5), (1, 6), (1, 7), (3, 0), (0, 0), (0, 0), (0, 0)]) := ⟨_, rfl⟩
  rw [← hZ_6] at hP
  have q_13 : Z_6 2 = some (0, 1, [(1, 5), (1, 6), (1, 7), (3, 0), (0, 0), (0, 0), (0, 0)]) := by rw [hZ_6]; exact jp_zu_s _ _ _
  refine lv_aload_n hx hb dX0_init_29 rfl (lv_at hl 0 rfl) ?_
  refine lv_bipush (v := 36) hx hb dX0_init_30 (by decide) ?_
  have q_14 : Z_6 7 = some (1, 36, []) := by rw [hZ_6, jp_zu_n _ _ (by decide)]; exact q_11
  refine jp_size (last := 7) hP q_14 (jp_ad1 ha_7 hsz rfl) (fun hz => ?_)
  have q_15 : Z_6 8 = none := by rw [hZ_6, jp_zu_n _ _ (by decide), hZ_5, jp_zu_n _ _ (by decide), hZ_4, jp_zu_n _ _ (by decide), hZ_3, jp_zu_n _ _ (by decide), hZ_2, jp_zu_n _ _ (by decide), hZ_1, jp_zu_n _ _ (by decide)]; exact hn_8
  refine jp_newi (M := 36) B hP hS hz (id := 8) q_15 (jp_ad0 ha_8 hsz rfl) mw_53 (by decide) (by decide) (Nat.le_refl _) (by decide) (Nat.le_of_ble_eq_true rfl) (Nat.le_of_ble_eq_true rfl) dX0_init_32 (fun H hP hS hz => ?_)
  obtain ⟨Z_7, hZ_7⟩ : ∃ z, z = jp_zu Z_6 8 (1, 36, []) := ⟨_, rfl⟩
  rw [← hZ_7] at hP
  have q_16 : Z_7 8 = some (1, 36, []) := by rw [hZ_7]; exact jp_zu_s _ _ _
  have q_17 : Z_7 2 = some (0, 1, [(1, 5), (1, 6), (1, 7), (3, 0), (0, 0), (0, 0), (0, 0)]) := by rw [hZ_7, jp_zu_n _ _ (by decide)]; exact q_13
  refine jp_putr (k := 3) (r := 8) (fs' := [(1, 5), (1, 6), (1, 7), (1, 8), (0, 0), (0, 0), (0, 0)]) B hnm hP hS q_17 (by decide) rfl (by decide) jp_fX0 tyX0 tyX0_ok nmX0 rfl rfl mw_62 rfl (ty := tyX0 3) (by decide +kernel) rfl rfl rfl dX0_init_34 (fun H locs hP hS hz2 => ?_)
  obtain ⟨Z_8, hZ_8⟩ : ∃ z, z = jp_zu Z_7 2 (0, 1, [(1, 5), (1, 6), (1, 7), (1, 8), (0, 0), (0, 0), (0, 0)]) := ⟨_, rfl⟩
  rw [← hZ_8] at hP
  have q_18 : Z_8 2 = some (0, 1, [(1, 5), (1, 6), (1, 7), (1, 8), (0, 0), (0, 0), (0, 0)]) := by rw [hZ_8]; exact jp_zu_s _ _ _
  have hze : zX0_init Z = Z_8 := by rw [hZ_8, hZ_7, hZ_6, hZ_5, hZ_4, hZ_3, hZ_2, hZ_1]; rfl
  exact jp_endK B hP hS (Nat.le_of_ble_eq_true rfl) (Nat.le_of_ble_eq_true rfl) dX0_init_37 ⟨hze, jp_injK hf⟩
-- X5_init
def zX5_init (n : Nat) (Z : Nat → Option jp_Sh) : Nat → Option jp_Sh := jp_zu (jp_zu (jp_zu (jp_zu (jp_zu (jp_zu (zX0_init (jp_zu Z 2 (0, 1, [(3, 0), (3, 0), (3, 0), (3, 0), (0, 0), (0, 0), (0, 0)]))) 1 (0, 5, [(0, 0), (1, 2), (3, 0), (3, 0), (0, 0)])) 1 (0, 5, [(0, 0), (1, 2), (3, 0), (3, 0), (0, 0)])) 3 (1, n, [])) 1 (0, 5, [(0, 0), (1, 2), (1, 3), (3, 0), (0, 0)])) 4 (1, n, [])) 1 (0, 5, [(0, 0), (1, 2), (1, 3), (1, 4), (0, 0)])
theorem zX5_init_1 (n : Nat) (Z : Nat → Option jp_Sh) : zX5_init n Z 1 = some (0, 5, [(0, 0), (1, 2), (1, 3), (1, 4), (0, 0)]) := by
  unfold zX5_init
  exact jp_zu_s _ _ _
theorem zX5_init_2 (n : Nat) (Z : Nat → Option jp_Sh) : zX5_init n Z 2 = some (0, 1, [(1, 5), (1, 6), (1, 7), (1, 8), (0, 0), (0, 0), (0, 0)]) := by
  unfold zX5_init
  rw [jp_zu_n _ _ (by decide), jp_zu_n _ _ (by decide), jp_zu_n _ _ (by decide), jp_zu_n _ _ (by decide), jp_zu_n _ _ (by decide), jp_zu_n _ _ (by decide)]; exact zX0_init_2 _
theorem zX5_init_5 (n : Nat) (Z : Nat → Option jp_Sh) : zX5_init n Z 5 = some (1, 36, []) := by
  unfold zX5_init
  rw [jp_zu_n _ _ (by decide), jp_zu_n _ _ (by decide), jp_zu_n _ _ (by decide), jp_zu_n _ _ (by decide), jp_zu_n _ _ (by decide), jp_zu_n _ _ (by decide)]; exact zX0_init_5 _
theorem zX5_init_6 (n : Nat) (Z : Nat → Option jp_Sh) : zX5_init n Z 6 = some (1, 180, []) := by
  unfold zX5_init
  rw [jp_zu_n _ _ (by decide), jp_zu_n _ _ (by decide), jp_zu_n _ _ (by decide), jp_zu_n _ _ (by decide), jp_zu_n _ _ (by decide), jp_zu_n _ _ (by decide)]; exact zX0_init_6 _
theorem zX5_init_7 (n : Nat) (Z : Nat → Option jp_Sh) : zX5_init n Z 7 = some (1, 36, []) := by
  unfold zX5_init
  rw [jp_zu_n _ _ (by decide), jp_zu_n _ _ (by decide), jp_zu_n _ _ (by decide), jp_zu_n _ _ (by decide), jp_zu_n _ _ (by decide), jp_zu_n _ _ (by decide)]; exact zX0_init_7 _
theorem zX5_init_8 (n : Nat) (Z : Nat → Option jp_Sh) : zX5_init n Z 8 = some (1, 36, []) := by
  unfold zX5_init
  rw [jp_zu_n _ _ (by decide), jp_zu_n _ _ (by decide), jp_zu_n _ _ (by decide), jp_zu_n _ _ (by decide), jp_zu_n _ _ (by decide), jp_zu_n _ _ (by decide)]; exact zX0_init_8 _
theorem zX5_init_3 (n : Nat) (Z : Nat → Option jp_Sh) : zX5_init n Z 3 = some (1, n, []) := by
  unfold zX5_init
  rw [jp_zu_n _ _ (by decide), jp_zu_n _ _ (by decide), jp_zu_n _ _ (by decide)]; exact jp_zu_s _ _ _
theorem zX5_init_4 (n : Nat) (Z : Nat → Option jp_Sh) : zX5_init n Z 4 = some (1, n, []) := by
  unfold zX5_init
  rw [jp_zu_n _ _ (by decide)]; exact jp_zu_s _ _ _
theorem zX5_init_n (n : Nat) (Z : Nat → Option jp_Sh) {i : Nat} (h : ¬ i ∈ [1, 2, 5, 6, 7, 8, 3, 4]) : zX5_init n Z i = Z i := by
  unfold zX5_init
  simp only [List.mem_cons, List.not_mem_nil, or_false, not_or] at h
  obtain ⟨e1, e2, e5, e6, e7, e8, e3, e4⟩ := h
  rw [jp_zu_n _ _ e1, jp_zu_n _ _ e4, jp_zu_n _ _ e1, jp_zu_n _ _ e3, jp_zu_n _ _ e1, jp_zu_n _ _ e1, zX0_init_n _ (by simp only [List.mem_cons, List.not_mem_nil, or_false, not_or]; exact ⟨e2, e5, e6, e7, e8⟩), jp_zu_n _ _ e2]
def fX5_init (n : Nat) (p1 : Int32) (σ : jp_I) (τ : jp_J) : Option (jp_I × jp_J) :=
  (fX0_init (jp_z σ 2) (jp_zl τ 2)).bind fun (σ_2, τ_2) => if jp_len p1 n 4 = true then if jp_len p1 n 4 = true then some (jp_z (jp_z (jp_up (jp_up σ_2 1 4 1) 1 0 p1) 3) 4, τ_2) else none else none
set_option maxHeartbeats 8000000 in
set_option maxRecDepth 20000 in
theorem ctX5_init {l : Launch} {Γ : jp_G} {Z : Nat → Option jp_Sh} {n : Nat} {p1 : Int32} {σ σ0 : jp_I} {τ τ0 : jp_J} {sz : Nat} (hth : Z 1 = some (0, 5, [(0, 0), (3, 0), (3, 0), (3, 0), (0, 0)])) (hn_2 : Z 2 = none) (hn_5 : Z 5 = none) (hn_6 : Z 6 = none) (hn_7 : Z 7 = none) (hn_8 : Z 8 = none) (hn_3 : Z 3 = none) (hn_4 : Z 4 = none) (ha_t : Γ.2.2.1 1 + 1 = sz) (ha_2 : Γ.2.2.1 2 = sz + 0) (ha_5 : Γ.2.2.1 5 = sz + 1) (ha_6 : Γ.2.2.1 6 = sz + 2) (ha_7 : Γ.2.2.1 7 = sz + 3) (ha_8 : Γ.2.2.1 8 = sz + 4) (ha_3 : Γ.2.2.1 3 = sz + 5) (ha_4 : Γ.2.2.1 4 = sz + 6) (hf : fX5_init n p1 σ τ = some (σ0, τ0)) : jp_K l yX5_init cX5_init 2 2 32 7 303 Γ Z σ τ sz [.ref (Γ.2.2.1 1), .int p1] (zX5_init n Z) σ0 τ0 := by
  refine jp_mkK (lv := [(0, .ref (Γ.2.2.1 1)), (1, .int p1)]) (by decide) rfl (Nat.le_of_ble_eq_true rfl) rfl fun p e s m args below meth c B hnm hsz hP ls hl => ?_
  obtain ⟨hx, hb, hml, hown, hts, hr, hlk, hE⟩ := id B
  unfold fX5_init at hf
  obtain ⟨H, hH⟩ : ∃ H, H = s.heap := ⟨_, rfl⟩
  obtain ⟨locs, hlocs⟩ : ∃ l0 : List Loc, l0 = [] := ⟨_, rfl⟩
  have hS : va_S (jp_A Γ) s.heap H locs := by rw [hH, hlocs]; exact va_S.rf
  rw [← hH] at hP
  show W p l e _ s m args below meth c s.heap [] 0 0 _ _
  rw [← hlocs]
  conv => arg 11; rw [← hH]
  refine lv_aload_n hx hb dX5_init_0 rfl (lv_at hl 0 rfl) ?_
  refine jp_obj B hl mw_46 mw_15 mw_16 (Nat.le_of_ble_eq_true rfl) (Nat.le_of_ble_eq_true rfl) dX5_init_1 ?_
  refine lv_aload_n hx hb dX5_init_4 rfl (lv_at hl 0 rfl) ?_
  refine jp_size (last := 1) hP hth (jp_ad1t ha_t hsz) (fun hz => ?_)
  refine jp_new (fs := [(3, 0), (3, 0), (3, 0), (3, 0), (0, 0), (0, 0), (0, 0)]) B hP hS hz (id := 2) (ci := 1) hn_2 (jp_ad0 ha_2 hsz rfl) rfl jp_fX0 tyX0 tyX0_ok mw_47 mw_48 mw_49 (fun j hj => by rcases jp_c7 hj with rfl | rfl | rfl | rfl | rfl | rfl | rfl <;> simp [jp_fl, jp_fv, jp_z, jp_zl, vp_V, tyX0, defaultValue]) (Nat.le_of_ble_eq_true rfl) (Nat.le_of_ble_eq_true rfl) dX5_init_5 (fun H hP hS hz => ?_)
  obtain ⟨Z_1, hZ_1⟩ : ∃ z, z = jp_zu Z 2 (0, 1, [(3, 0), (3, 0), (3, 0), (3, 0), (0, 0), (0, 0), (0, 0)]) := ⟨_, rfl⟩
  rw [← hZ_1] at hP
  have q_1 : Z_1 2 = some (0, 1, [(3, 0), (3, 0), (3, 0), (3, 0), (0, 0), (0, 0), (0, 0)]) := by rw [hZ_1]; exact jp_zu_s _ _ _
  refine lv_dup hx hb dX5_init_8 rfl ?_
  have q_3 : Z_1 5 = none := by rw [hZ_1, jp_zu_n _ _ (by decide)]; exact hn_5
  have q_4 : Z_1 6 = none := by rw [hZ_1, jp_zu_n _ _ (by decide)]; exact hn_6
  have q_5 : Z_1 7 = none := by rw [hZ_1, jp_zu_n _ _ (by decide)]; exact hn_7
  have q_6 : Z_1 8 = none := by rw [hZ_1, jp_zu_n _ _ (by decide)]; exact hn_8
  refine jp_size (last := 2) hP q_1 (jp_ad1 ha_2 hsz rfl) (fun hz => ?_)
  obtain ⟨⟨σ_2, τ_2⟩, h_2, hf⟩ := jp_bind hf
  dsimp only at hf
  refine jp_callIN (rest := [.ref (Γ.2.2.1 2), .ref (Γ.2.2.1 1)]) B hP hS hz hl (ctX0_init q_1 q_3 q_4 q_5 q_6 (jp_ad1 ha_2 hsz rfl) (jp_ad2 ha_5 hsz rfl) (jp_ad2 ha_6 hsz rfl) (jp_ad2 ha_7 hsz rfl) (jp_ad2 ha_8 hsz rfl) h_2) rfl mw_57 nw_107 mw_56 mw_49 ddX0_init ⟨Nat.le_of_ble_eq_true rfl, Nat.le_of_ble_eq_true rfl⟩ ⟨Nat.le_of_ble_eq_true rfl, Nat.le_of_ble_eq_true rfl⟩ rfl (Nat.le_of_ble_eq_true rfl) dX5_init_9 (fun H locs hP hS => ?_)
  obtain ⟨Z_2, hZ_2⟩ : ∃ z, z = zX0_init Z_1 := ⟨_, rfl⟩
  rw [← hZ_2] at hP
  have q_7 : Z_2 2 = some (0, 1, [(1, 5), (1, 6), (1, 7), (1, 8), (0, 0), (0, 0), (0, 0)]) := by rw [hZ_2]; exact zX0_init_2 _
  have q_8 : Z_2 5 = some (1, 36, []) := by rw [hZ_2]; exact zX0_init_5 _
  have q_9 : Z_2 6 = some (1, 180, []) := by rw [hZ_2]; exact zX0_init_6 _
  have q_10 : Z_2 7 = some (1, 36, []) := by rw [hZ_2]; exact zX0_init_7 _
  have q_11 : Z_2 8 = some (1, 36, []) := by rw [hZ_2]; exact zX0_init_8 _
  have q_12 : Z_2 1 = some (0, 5, [(0, 0), (3, 0), (3, 0), (3, 0), (0, 0)]) := by rw [hZ_2, zX0_init_n _ (by decide), hZ_1, jp_zu_n _ _ (by decide)]; exact hth
  refine jp_putr (k := 1) (r := 2) (fs' := [(0, 0), (1, 2), (3, 0), (3, 0), (0, 0)]) B hnm hP hS q_12 (by decide) rfl (by decide) jp_fX5 tyX5 tyX5_ok nmX5 rfl rfl mw_50 rfl (ty := tyX5 1) (by decide +kernel) rfl rfl rfl dX5_init_12 (fun H locs hP hS hz2 => ?_)
  obtain ⟨Z_3, hZ_3⟩ : ∃ z, z = jp_zu Z_2 1 (0, 5, [(0, 0), (1, 2), (3, 0), (3, 0), (0, 0)]) := ⟨_, rfl⟩
  rw [← hZ_3] at hP
  have q_13 : Z_3 1 = some (0, 5, [(0, 0), (1, 2), (3, 0), (3, 0), (0, 0)]) := by rw [hZ_3]; exact jp_zu_s _ _ _
  refine lv_aload_n hx hb dX5_init_15 rfl (lv_at hl 0 rfl) ?_
  refine lv_iconst (v := 1) hx hb dX5_init_16 (by decide) ?_
  refine jp_puti (k := 4) (ty := .boolean) B hP hS q_13 rfl rfl (by decide) jp_fX5 tyX5 tyX5_ok nmX5 rfl mw_51 rfl (by decide +kernel) (jp_isb_n (by decide)) (jp_isb_f (by decide)) dX5_init_17 (fun H locs hP hS => ?_)
  refine lv_aload_n hx hb dX5_init_20 rfl (lv_at hl 0 rfl) ?_
  refine lv_iload_n hx hb dX5_init_21 rfl (lv_at hl 1 rfl) ?_
  refine jp_putiF (k := 0) B hnm hP hS q_13 rfl rfl (by decide) jp_fX5 tyX5 tyX5_ok nmX5 rfl rfl mw_52 rfl (by decide +kernel) dX5_init_22 (fun H locs hP hS hz2 => ?_)
  obtain ⟨Z_4, hZ_4⟩ : ∃ z, z = jp_zu Z_3 1 (0, 5, [(0, 0), (1, 2), (3, 0), (3, 0), (0, 0)]) := ⟨_, rfl⟩
  rw [← hZ_4] at hP
  have q_14 : Z_4 1 = some (0, 5, [(0, 0), (1, 2), (3, 0), (3, 0), (0, 0)]) := by rw [hZ_4]; exact jp_zu_s _ _ _
  refine lv_aload_n hx hb dX5_init_25 rfl (lv_at hl 0 rfl) ?_
  refine lv_iload_n hx hb dX5_init_26 rfl (lv_at hl 1 rfl) ?_
  have q_15 : Z_4 8 = some (1, 36, []) := by rw [hZ_4, jp_zu_n _ _ (by decide), hZ_3, jp_zu_n _ _ (by decide)]; exact q_11
  refine jp_size (last := 8) hP q_15 (jp_ad1 ha_8 hsz rfl) (fun hz => ?_)
  have q_16 : Z_4 3 = none := by rw [hZ_4, jp_zu_n _ _ (by decide), hZ_3, jp_zu_n _ _ (by decide), hZ_2, zX0_init_n _ (by decide), hZ_1, jp_zu_n _ _ (by decide)]; exact hn_3
  obtain ⟨g_17, hf⟩ := jp_if hf
  refine jp_newi (M := 4) B hP hS hz (id := 3) q_16 (jp_ad0 ha_3 hsz rfl) mw_53 (jp_len_1 g_17) (jp_len_2 g_17) (jp_len_3 g_17) (by decide) (Nat.le_of_ble_eq_true rfl) (Nat.le_of_ble_eq_true rfl) dX5_init_27 (fun H hP hS hz => ?_)
  obtain ⟨Z_5, hZ_5⟩ : ∃ z, z = jp_zu Z_4 3 (1, n, []) := ⟨_, rfl⟩
  rw [← hZ_5] at hP
  have q_18 : Z_5 3 = some (1, n, []) := by rw [hZ_5]; exact jp_zu_s _ _ _
  have q_19 : Z_5 1 = some (0, 5, [(0, 0), (1, 2), (3, 0), (3, 0), (0, 0)]) := by rw [hZ_5, jp_zu_n _ _ (by decide)]; exact q_14
  refine jp_putr (k := 2) (r := 3) (fs' := [(0, 0), (1, 2), (1, 3), (3, 0), (0, 0)]) B hnm hP hS q_19 (by decide) rfl (by decide) jp_fX5 tyX5 tyX5_ok nmX5 rfl rfl mw_54 rfl (ty := tyX5 2) (by decide +kernel) rfl rfl rfl dX5_init_29 (fun H locs hP hS hz2 => ?_)
  obtain ⟨Z_6, hZ_6⟩ : ∃ z, z = jp_zu Z_5 1 (0, 5, [(0, 0), (1, 2), (1, 3), (3, 0), (0, 0)]) := ⟨_, rfl⟩
  rw [← hZ_6] at hP
  have q_20 : Z_6 1 = some (0, 5, [(0, 0), (1, 2), (1, 3), (3, 0), (0, 0)]) := by rw [hZ_6]; exact jp_zu_s _ _ _
  refine lv_aload_n hx hb dX5_init_32 rfl (lv_at hl 0 rfl) ?_
  refine lv_iload_n hx hb dX5_init_33 rfl (lv_at hl 1 rfl) ?_
  have q_21 : Z_6 3 = some (1, n, []) := by rw [hZ_6, jp_zu_n _ _ (by decide)]; exact q_18
  refine jp_size (last := 3) hP q_21 (jp_ad1 ha_3 hsz rfl) (fun hz => ?_)
  have q_22 : Z_6 4 = none := by rw [hZ_6, jp_zu_n _ _ (by decide), hZ_5, jp_zu_n _ _ (by decide), hZ_4, jp_zu_n _ _ (by decide), hZ_3, jp_zu_n _ _ (by decide), hZ_2, zX0_init_n _ (by decide), hZ_1, jp_zu_n _ _ (by decide)]; exact hn_4
  obtain ⟨g_23, hf⟩ := jp_if hf
  refine jp_newi (M := 4) B hP hS hz (id := 4) q_22 (jp_ad0 ha_4 hsz rfl) mw_53 (jp_len_1 g_23) (jp_len_2 g_23) (jp_len_3 g_23) (by decide) (Nat.le_of_ble_eq_true rfl) (Nat.le_of_ble_eq_true rfl) dX5_init_34 (fun H hP hS hz => ?_)
  obtain ⟨Z_7, hZ_7⟩ : ∃ z, z = jp_zu Z_6 4 (1, n, []) := ⟨_, rfl⟩
  rw [← hZ_7] at hP
  have q_24 : Z_7 4 = some (1, n, []) := by rw [hZ_7]; exact jp_zu_s _ _ _
  have q_25 : Z_7 1 = some (0, 5, [(0, 0), (1, 2), (1, 3), (3, 0), (0, 0)]) := by rw [hZ_7, jp_zu_n _ _ (by decide)]; exact q_20
  refine jp_putr (k := 3) (r := 4) (fs' := [(0, 0), (1, 2), (1, 3), (1, 4), (0, 0)]) B hnm hP hS q_25 (by decide) rfl (by decide) jp_fX5 tyX5 tyX5_ok nmX5 rfl rfl mw_55 rfl (ty := tyX5 3) (by decide +kernel) rfl rfl rfl dX5_init_36 (fun H locs hP hS hz2 => ?_)
  obtain ⟨Z_8, hZ_8⟩ : ∃ z, z = jp_zu Z_7 1 (0, 5, [(0, 0), (1, 2), (1, 3), (1, 4), (0, 0)]) := ⟨_, rfl⟩
  rw [← hZ_8] at hP
  have q_26 : Z_8 1 = some (0, 5, [(0, 0), (1, 2), (1, 3), (1, 4), (0, 0)]) := by rw [hZ_8]; exact jp_zu_s _ _ _
  have hze : zX5_init n Z = Z_8 := by rw [hZ_8, hZ_7, hZ_6, hZ_5, hZ_4, hZ_3, hZ_2, hZ_1]; rfl
  exact jp_endK B hP hS (Nat.le_of_ble_eq_true rfl) (Nat.le_of_ble_eq_true rfl) dX5_init_39 ⟨hze, jp_injK hf⟩
-- X6_init
def zX6_init (n : Nat) (Z : Nat → Option jp_Sh) : Nat → Option jp_Sh := jp_zu (jp_zu Z 10 (1, n, [])) 9 (0, 6, [(1, 10), (2, 0)])
theorem zX6_init_9 (n : Nat) (Z : Nat → Option jp_Sh) : zX6_init n Z 9 = some (0, 6, [(1, 10), (2, 0)]) := by
  unfold zX6_init
  exact jp_zu_s _ _ _
theorem zX6_init_10 (n : Nat) (Z : Nat → Option jp_Sh) : zX6_init n Z 10 = some (1, n, []) := by
  unfold zX6_init
  rw [jp_zu_n _ _ (by decide)]; exact jp_zu_s _ _ _
theorem zX6_init_n (n : Nat) (Z : Nat → Option jp_Sh) {i : Nat} (h : ¬ i ∈ [9, 10]) : zX6_init n Z i = Z i := by
  unfold zX6_init
  simp only [List.mem_cons, List.not_mem_nil, or_false, not_or] at h
  obtain ⟨e9, e10⟩ := h
  rw [jp_zu_n _ _ e9, jp_zu_n _ _ e10]
def fX6_init (n : Nat) (p1 : Int32) (σ : jp_I) (τ : jp_J) : Option (jp_I × jp_J) :=
  if jp_len p1 n 4 = true then some (jp_z σ 10, jp_upl τ 9 1 1) else none
set_option maxHeartbeats 8000000 in
set_option maxRecDepth 20000 in
theorem ctX6_init {l : Launch} {Γ : jp_G} {Z : Nat → Option jp_Sh} {n : Nat} {p1 : Int32} {σ σ0 : jp_I} {τ τ0 : jp_J} {sz : Nat} (hth : Z 9 = some (0, 6, [(3, 0), (2, 0)])) (hn_10 : Z 10 = none) (ha_t : Γ.2.2.1 9 + 1 = sz) (ha_10 : Γ.2.2.1 10 = sz + 0) (hf : fX6_init n p1 σ τ = some (σ0, τ0)) : jp_K l yX6_init cX6_init 2 1 12 1 4 Γ Z σ τ sz [.ref (Γ.2.2.1 9), .int p1] (zX6_init n Z) σ0 τ0 := by
  refine jp_mkK (lv := [(0, .ref (Γ.2.2.1 9)), (1, .int p1)]) (by decide) rfl (Nat.le_of_ble_eq_true rfl) rfl fun p e s m args below meth c B hnm hsz hP ls hl => ?_
  obtain ⟨hx, hb, hml, hown, hts, hr, hlk, hE⟩ := id B
  unfold fX6_init at hf
  obtain ⟨H, hH⟩ : ∃ H, H = s.heap := ⟨_, rfl⟩
  obtain ⟨locs, hlocs⟩ : ∃ l0 : List Loc, l0 = [] := ⟨_, rfl⟩
  have hS : va_S (jp_A Γ) s.heap H locs := by rw [hH, hlocs]; exact va_S.rf
  rw [← hH] at hP
  show W p l e _ s m args below meth c s.heap [] 0 0 _ _
  rw [← hlocs]
  conv => arg 11; rw [← hH]
  refine lv_aload_n hx hb dX6_init_0 rfl (lv_at hl 0 rfl) ?_
  refine jp_obj B hl mw_99 mw_15 mw_16 (Nat.le_of_ble_eq_true rfl) (Nat.le_of_ble_eq_true rfl) dX6_init_1 ?_
  refine lv_aload_n hx hb dX6_init_4 rfl (lv_at hl 0 rfl) ?_
  refine lv_lconst (v := 1) hx hb dX6_init_5 (by decide) ?_
  refine jp_putl (k := 1) B hP hS hth rfl rfl (by decide) jp_fX6 tyX6 tyX6_ok nmX6 rfl mw_100 rfl (by decide +kernel) dX6_init_6 (fun H locs hP hS => ?_)
  refine lv_aload_n hx hb dX6_init_9 rfl (lv_at hl 0 rfl) ?_
  refine lv_iload_n hx hb dX6_init_10 rfl (lv_at hl 1 rfl) ?_
  refine jp_size (last := 9) hP hth (jp_ad1t ha_t hsz) (fun hz => ?_)
  obtain ⟨g_1, hf⟩ := jp_if hf
  refine jp_newi (M := 4) B hP hS hz (id := 10) hn_10 (jp_ad0 ha_10 hsz rfl) mw_53 (jp_len_1 g_1) (jp_len_2 g_1) (jp_len_3 g_1) (by decide) (Nat.le_of_ble_eq_true rfl) (Nat.le_of_ble_eq_true rfl) dX6_init_11 (fun H hP hS hz => ?_)
  obtain ⟨Z_1, hZ_1⟩ : ∃ z, z = jp_zu Z 10 (1, n, []) := ⟨_, rfl⟩
  rw [← hZ_1] at hP
  have q_2 : Z_1 10 = some (1, n, []) := by rw [hZ_1]; exact jp_zu_s _ _ _
  have q_3 : Z_1 9 = some (0, 6, [(3, 0), (2, 0)]) := by rw [hZ_1, jp_zu_n _ _ (by decide)]; exact hth
  refine jp_putr (k := 0) (r := 10) (fs' := [(1, 10), (2, 0)]) B hnm hP hS q_3 (by decide) rfl (by decide) jp_fX6 tyX6 tyX6_ok nmX6 rfl rfl mw_101 rfl (ty := tyX6 0) (by decide +kernel) rfl rfl rfl dX6_init_13 (fun H locs hP hS hz2 => ?_)
  obtain ⟨Z_2, hZ_2⟩ : ∃ z, z = jp_zu Z_1 9 (0, 6, [(1, 10), (2, 0)]) := ⟨_, rfl⟩
  rw [← hZ_2] at hP
  have q_4 : Z_2 9 = some (0, 6, [(1, 10), (2, 0)]) := by rw [hZ_2]; exact jp_zu_s _ _ _
  have hze : zX6_init n Z = Z_2 := by rw [hZ_2, hZ_1]; rfl
  exact jp_endK B hP hS (Nat.le_of_ble_eq_true rfl) (Nat.le_of_ble_eq_true rfl) dX6_init_16 ⟨hze, jp_injK hf⟩
-- X2_init
def zX2_init (nc : Nat) (Z : Nat → Option jp_Sh) : Nat → Option jp_Sh := jp_zu (jp_zu (jp_zu Z 11 (0, 3, [(0, 0), (3, 0), (0, 0), (0, 0)])) 12 (1, nc, [])) 11 (0, 3, [(0, 0), (1, 12), (0, 0), (0, 0)])
theorem zX2_init_11 (nc : Nat) (Z : Nat → Option jp_Sh) : zX2_init nc Z 11 = some (0, 3, [(0, 0), (1, 12), (0, 0), (0, 0)]) := by
  unfold zX2_init
  exact jp_zu_s _ _ _
theorem zX2_init_12 (nc : Nat) (Z : Nat → Option jp_Sh) : zX2_init nc Z 12 = some (1, nc, []) := by
  unfold zX2_init
  rw [jp_zu_n _ _ (by decide)]; exact jp_zu_s _ _ _
theorem zX2_init_n (nc : Nat) (Z : Nat → Option jp_Sh) {i : Nat} (h : ¬ i ∈ [11, 12]) : zX2_init nc Z i = Z i := by
  unfold zX2_init
  simp only [List.mem_cons, List.not_mem_nil, or_false, not_or] at h
  obtain ⟨e11, e12⟩ := h
  rw [jp_zu_n _ _ e11, jp_zu_n _ _ e12, jp_zu_n _ _ e11]
def fX2_init (nc : Nat) (p1 : Int32) (p2 : Int32) (σ : jp_I) (τ : jp_J) : Option (jp_I × jp_J) :=
  if jp_len (p1 * (p2 + 1)) nc 2592 = true then some (jp_z (jp_up (jp_up σ 11 3 (-1)) 11 0 p1) 12, τ) else none
set_option maxHeartbeats 8000000 in
set_option maxRecDepth 20000 in
theorem ctX2_init {l : Launch} {Γ : jp_G} {Z : Nat → Option jp_Sh} {nc : Nat} {p1 : Int32} {p2 : Int32} {σ σ0 : jp_I} {τ τ0 : jp_J} {sz : Nat} (hth : Z 11 = some (0, 3, [(0, 0), (3, 0), (0, 0), (0, 0)])) (hn_12 : Z 12 = none) (ha_t : Γ.2.2.1 11 + 1 = sz) (ha_12 : Γ.2.2.1 12 = sz + 0) (hf : fX2_init nc p1 p2 σ τ = some (σ0, τ0)) : jp_K l yX2_init cX2_init 3 1 12 1 2592 Γ Z σ τ sz [.ref (Γ.2.2.1 11), .int p1, .int p2] (zX2_init nc Z) σ0 τ0 := by
  refine jp_mkK (lv := [(0, .ref (Γ.2.2.1 11)), (1, .int p1), (2, .int p2)]) (by decide) rfl (Nat.le_of_ble_eq_true rfl) rfl fun p e s m args below meth c B hnm hsz hP ls hl => ?_
  obtain ⟨hx, hb, hml, hown, hts, hr, hlk, hE⟩ := id B
  unfold fX2_init at hf
  obtain ⟨H, hH⟩ : ∃ H, H = s.heap := ⟨_, rfl⟩
  obtain ⟨locs, hlocs⟩ : ∃ l0 : List Loc, l0 = [] := ⟨_, rfl⟩
  have hS : va_S (jp_A Γ) s.heap H locs := by rw [hH, hlocs]; exact va_S.rf
  rw [← hH] at hP
  show W p l e _ s m args below meth c s.heap [] 0 0 _ _
  rw [← hlocs]
  conv => arg 11; rw [← hH]
  refine lv_aload_n hx hb dX2_init_0 rfl (lv_at hl 0 rfl) ?_
  refine jp_obj B hl mw_125 mw_15 mw_16 (Nat.le_of_ble_eq_true rfl) (Nat.le_of_ble_eq_true rfl) dX2_init_1 ?_
  refine lv_aload_n hx hb dX2_init_4 rfl (lv_at hl 0 rfl) ?_
  refine lv_iconst (v := -1) hx hb dX2_init_5 (by decide) ?_
  refine jp_puti (k := 3) (ty := .int) B hP hS hth rfl rfl (by decide) jp_fX2 tyX2 tyX2_ok nmX2 rfl mw_126 rfl (by decide +kernel) rfl rfl dX2_init_6 (fun H locs hP hS => ?_)
  refine lv_aload_n hx hb dX2_init_9 rfl (lv_at hl 0 rfl) ?_
  refine lv_iload_n hx hb dX2_init_10 rfl (lv_at hl 1 rfl) ?_
  refine jp_putiF (k := 0) B hnm hP hS hth rfl rfl (by decide) jp_fX2 tyX2 tyX2_ok nmX2 rfl rfl mw_127 rfl (by decide +kernel) dX2_init_11 (fun H locs hP hS hz2 => ?_)
  obtain ⟨Z_1, hZ_1⟩ : ∃ z, z = jp_zu Z 11 (0, 3, [(0, 0), (3, 0), (0, 0), (0, 0)]) := ⟨_, rfl⟩
  rw [← hZ_1] at hP
  have q_1 : Z_1 11 = some (0, 3, [(0, 0), (3, 0), (0, 0), (0, 0)]) := by rw [hZ_1]; exact jp_zu_s _ _ _
  refine lv_aload_n hx hb dX2_init_14 rfl (lv_at hl 0 rfl) ?_
  refine lv_iload_n hx hb dX2_init_15 rfl (lv_at hl 1 rfl) ?_
  refine lv_iload_n hx hb dX2_init_16 rfl (lv_at hl 2 rfl) ?_
  refine lv_iconst (v := 1) hx hb dX2_init_17 (by decide) ?_
  refine lv_iadd hx hb dX2_init_18 ?_
  refine lv_imul hx hb dX2_init_19 ?_
  refine jp_size (last := 11) hP q_1 (jp_ad1t ha_t hsz) (fun hz => ?_)
  have q_2 : Z_1 12 = none := by rw [hZ_1, jp_zu_n _ _ (by decide)]; exact hn_12
  obtain ⟨g_3, hf⟩ := jp_if hf
  refine jp_newi (M := 2592) B hP hS hz (id := 12) q_2 (jp_ad0 ha_12 hsz rfl) mw_53 (jp_len_1 g_3) (jp_len_2 g_3) (jp_len_3 g_3) (by decide) (Nat.le_of_ble_eq_true rfl) (Nat.le_of_ble_eq_true rfl) dX2_init_20 (fun H hP hS hz => ?_)
  obtain ⟨Z_2, hZ_2⟩ : ∃ z, z = jp_zu Z_1 12 (1, nc, []) := ⟨_, rfl⟩
  rw [← hZ_2] at hP
  have q_4 : Z_2 12 = some (1, nc, []) := by rw [hZ_2]; exact jp_zu_s _ _ _
  have q_5 : Z_2 11 = some (0, 3, [(0, 0), (3, 0), (0, 0), (0, 0)]) := by rw [hZ_2, jp_zu_n _ _ (by decide)]; exact q_1
  refine jp_putr (k := 1) (r := 12) (fs' := [(0, 0), (1, 12), (0, 0), (0, 0)]) B hnm hP hS q_5 (by decide) rfl (by decide) jp_fX2 tyX2 tyX2_ok nmX2 rfl rfl mw_128 rfl (ty := tyX2 1) (by decide +kernel) rfl rfl rfl dX2_init_22 (fun H locs hP hS hz2 => ?_)
  obtain ⟨Z_3, hZ_3⟩ : ∃ z, z = jp_zu Z_2 11 (0, 3, [(0, 0), (1, 12), (0, 0), (0, 0)]) := ⟨_, rfl⟩
  rw [← hZ_3] at hP
  have q_6 : Z_3 11 = some (0, 3, [(0, 0), (1, 12), (0, 0), (0, 0)]) := by rw [hZ_3]; exact jp_zu_s _ _ _
  have hze : zX2_init nc Z = Z_3 := by rw [hZ_3, hZ_2, hZ_1]; rfl
  exact jp_endK B hP hS (Nat.le_of_ble_eq_true rfl) (Nat.le_of_ble_eq_true rfl) dX2_init_25 ⟨hze, jp_injK hf⟩
-- X2_initT
def zX2_initT (nc : Nat) (Z : Nat → Option jp_Sh) : Nat → Option jp_Sh := jp_zu (jp_zu (jp_zu Z 14 (0, 3, [(0, 0), (3, 0), (0, 0), (0, 0)])) 15 (1, nc, [])) 14 (0, 3, [(0, 0), (1, 15), (0, 0), (0, 0)])
theorem zX2_initT_14 (nc : Nat) (Z : Nat → Option jp_Sh) : zX2_initT nc Z 14 = some (0, 3, [(0, 0), (1, 15), (0, 0), (0, 0)]) := by
  unfold zX2_initT
  exact jp_zu_s _ _ _
theorem zX2_initT_15 (nc : Nat) (Z : Nat → Option jp_Sh) : zX2_initT nc Z 15 = some (1, nc, []) := by
  unfold zX2_initT
  rw [jp_zu_n _ _ (by decide)]; exact jp_zu_s _ _ _
theorem zX2_initT_n (nc : Nat) (Z : Nat → Option jp_Sh) {i : Nat} (h : ¬ i ∈ [14, 15]) : zX2_initT nc Z i = Z i := by
  unfold zX2_initT
  simp only [List.mem_cons, List.not_mem_nil, or_false, not_or] at h
  obtain ⟨e14, e15⟩ := h
  rw [jp_zu_n _ _ e14, jp_zu_n _ _ e15, jp_zu_n _ _ e14]
def fX2_initT (nc : Nat) (p1 : Int32) (p2 : Int32) (σ : jp_I) (τ : jp_J) : Option (jp_I × jp_J) :=
  if jp_len (p1 * (p2 + 1)) nc 2592 = true then some (jp_z (jp_up (jp_up σ 14 3 (-1)) 14 0 p1) 15, τ) else none
set_option maxHeartbeats 8000000 in
set_option maxRecDepth 20000 in
theorem ctX2_initT {l : Launch} {Γ : jp_G} {Z : Nat → Option jp_Sh} {nc : Nat} {p1 : Int32} {p2 : Int32} {σ σ0 : jp_I} {τ τ0 : jp_J} {sz : Nat} (hth : Z 14 = some (0, 3, [(0, 0), (3, 0), (0, 0), (0, 0)])) (hn_15 : Z 15 = none) (ha_t : Γ.2.2.1 14 + 1 = sz) (ha_15 : Γ.2.2.1 15 = sz + 0) (hf : fX2_initT nc p1 p2 σ τ = some (σ0, τ0)) : jp_K l yX2_init cX2_init 3 1 12 1 2592 Γ Z σ τ sz [.ref (Γ.2.2.1 14), .int p1, .int p2] (zX2_initT nc Z) σ0 τ0 := by
  refine jp_mkK (lv := [(0, .ref (Γ.2.2.1 14)), (1, .int p1), (2, .int p2)]) (by decide) rfl (Nat.le_of_ble_eq_true rfl) rfl fun p e s m args below meth c B hnm hsz hP ls hl => ?_
  obtain ⟨hx, hb, hml, hown, hts, hr, hlk, hE⟩ := id B
  unfold fX2_initT at hf
  obtain ⟨H, hH⟩ : ∃ H, H = s.heap := ⟨_, rfl⟩
  obtain ⟨locs, hlocs⟩ : ∃ l0 : List Loc, l0 = [] := ⟨_, rfl⟩
  have hS : va_S (jp_A Γ) s.heap H locs := by rw [hH, hlocs]; exact va_S.rf
  rw [← hH] at hP
  show W p l e _ s m args below meth c s.heap [] 0 0 _ _
  rw [← hlocs]
  conv => arg 11; rw [← hH]
  refine lv_aload_n hx hb dX2_init_0 rfl (lv_at hl 0 rfl) ?_
  refine jp_obj B hl mw_125 mw_15 mw_16 (Nat.le_of_ble_eq_true rfl) (Nat.le_of_ble_eq_true rfl) dX2_init_1 ?_
  refine lv_aload_n hx hb dX2_init_4 rfl (lv_at hl 0 rfl) ?_
  refine lv_iconst (v := -1) hx hb dX2_init_5 (by decide) ?_
  refine jp_puti (k := 3) (ty := .int) B hP hS hth rfl rfl (by decide) jp_fX2 tyX2 tyX2_ok nmX2 rfl mw_126 rfl (by decide +kernel) rfl rfl dX2_init_6 (fun H locs hP hS => ?_)
  refine lv_aload_n hx hb dX2_init_9 rfl (lv_at hl 0 rfl) ?_
  refine lv_iload_n hx hb dX2_init_10 rfl (lv_at hl 1 rfl) ?_
  refine jp_putiF (k := 0) B hnm hP hS hth rfl rfl (by decide) jp_fX2 tyX2 tyX2_ok nmX2 rfl rfl mw_127 rfl (by decide +kernel) dX2_init_11 (fun H locs hP hS hz2 => ?_)
  obtain ⟨Z_1, hZ_1⟩ : ∃ z, z = jp_zu Z 14 (0, 3, [(0, 0), (3, 0), (0, 0), (0, 0)]) := ⟨_, rfl⟩
  rw [← hZ_1] at hP
  have q_1 : Z_1 14 = some (0, 3, [(0, 0), (3, 0), (0, 0), (0, 0)]) := by rw [hZ_1]; exact jp_zu_s _ _ _
  refine lv_aload_n hx hb dX2_init_14 rfl (lv_at hl 0 rfl) ?_
  refine lv_iload_n hx hb dX2_init_15 rfl (lv_at hl 1 rfl) ?_
  refine lv_iload_n hx hb dX2_init_16 rfl (lv_at hl 2 rfl) ?_
  refine lv_iconst (v := 1) hx hb dX2_init_17 (by decide) ?_
  refine lv_iadd hx hb dX2_init_18 ?_
  refine lv_imul hx hb dX2_init_19 ?_
  refine jp_size (last := 14) hP q_1 (jp_ad1t ha_t hsz) (fun hz => ?_)
  have q_2 : Z_1 15 = none := by rw [hZ_1, jp_zu_n _ _ (by decide)]; exact hn_15
  obtain ⟨g_3, hf⟩ := jp_if hf
  refine jp_newi (M := 2592) B hP hS hz (id := 15) q_2 (jp_ad0 ha_15 hsz rfl) mw_53 (jp_len_1 g_3) (jp_len_2 g_3) (jp_len_3 g_3) (by decide) (Nat.le_of_ble_eq_true rfl) (Nat.le_of_ble_eq_true rfl) dX2_init_20 (fun H hP hS hz => ?_)
  obtain ⟨Z_2, hZ_2⟩ : ∃ z, z = jp_zu Z_1 15 (1, nc, []) := ⟨_, rfl⟩
  rw [← hZ_2] at hP
  have q_4 : Z_2 15 = some (1, nc, []) := by rw [hZ_2]; exact jp_zu_s _ _ _
  have q_5 : Z_2 14 = some (0, 3, [(0, 0), (3, 0), (0, 0), (0, 0)]) := by rw [hZ_2, jp_zu_n _ _ (by decide)]; exact q_1
  refine jp_putr (k := 1) (r := 15) (fs' := [(0, 0), (1, 15), (0, 0), (0, 0)]) B hnm hP hS q_5 (by decide) rfl (by decide) jp_fX2 tyX2 tyX2_ok nmX2 rfl rfl mw_128 rfl (ty := tyX2 1) (by decide +kernel) rfl rfl rfl dX2_init_22 (fun H locs hP hS hz2 => ?_)
  obtain ⟨Z_3, hZ_3⟩ : ∃ z, z = jp_zu Z_2 14 (0, 3, [(0, 0), (1, 15), (0, 0), (0, 0)]) := ⟨_, rfl⟩
  rw [← hZ_3] at hP
  have q_6 : Z_3 14 = some (0, 3, [(0, 0), (1, 15), (0, 0), (0, 0)]) := by rw [hZ_3]; exact jp_zu_s _ _ _
  have hze : zX2_initT nc Z = Z_3 := by rw [hZ_3, hZ_2, hZ_1]; rfl
  exact jp_endK B hP hS (Nat.le_of_ble_eq_true rfl) (Nat.le_of_ble_eq_true rfl) dX2_init_25 ⟨hze, jp_injK hf⟩
-- X1_init
def zX1_init (n : Nat) (nl : Nat) (Z : Nat → Option jp_Sh) : Nat → Option jp_Sh := jp_zu (jp_zu (jp_zu (jp_zu (jp_zu (jp_zu Z 13 (0, 2, [(1, 1), (0, 0), (3, 0), (3, 0), (0, 0), (0, 0), (0, 0)])) 13 (0, 2, [(1, 1), (0, 0), (3, 0), (3, 0), (0, 0), (0, 0), (0, 0)])) 14 (1, nl, [])) 13 (0, 2, [(1, 1), (0, 0), (1, 14), (3, 0), (0, 0), (0, 0), (0, 0)])) 15 (1, nl, [])) 13 (0, 2, [(1, 1), (0, 0), (1, 14), (1, 15), (0, 0), (0, 0), (0, 0)])
theorem zX1_init_13 (n : Nat) (nl : Nat) (Z : Nat → Option jp_Sh) : zX1_init n nl Z 13 = some (0, 2, [(1, 1), (0, 0), (1, 14), (1, 15), (0, 0), (0, 0), (0, 0)]) := by
  unfold zX1_init
  exact jp_zu_s _ _ _
theorem zX1_init_14 (n : Nat) (nl : Nat) (Z : Nat → Option jp_Sh) : zX1_init n nl Z 14 = some (1, nl, []) := by
  unfold zX1_init
  rw [jp_zu_n _ _ (by decide), jp_zu_n _ _ (by decide), jp_zu_n _ _ (by decide)]; exact jp_zu_s _ _ _
theorem zX1_init_15 (n : Nat) (nl : Nat) (Z : Nat → Option jp_Sh) : zX1_init n nl Z 15 = some (1, nl, []) := by
  unfold zX1_init
  rw [jp_zu_n _ _ (by decide)]; exact jp_zu_s _ _ _
theorem zX1_init_n (n : Nat) (nl : Nat) (Z : Nat → Option jp_Sh) {i : Nat} (h : ¬ i ∈ [13, 14, 15]) : zX1_init n nl Z i = Z i := by
  unfold zX1_init
  simp only [List.mem_cons, List.not_mem_nil, or_false, not_or] at h
  obtain ⟨e13, e14, e15⟩ := h
  rw [jp_zu_n _ _ e13, jp_zu_n _ _ e15, jp_zu_n _ _ e13, jp_zu_n _ _ e14, jp_zu_n _ _ e13, jp_zu_n _ _ e13]
def fX1_init (n : Nat) (nl : Nat) (σ : jp_I) (τ : jp_J) : Option (jp_I × jp_J) :=
  (fX7_jointStates ((jp_up σ 13 1 (σ 1 0)) 13 1) (jp_up σ 13 1 (σ 1 0)) τ).bind fun (a_4, σ_4, τ_4) => if jp_len a_4 nl 1296 = true then (fX7_jointStates ((jp_z σ_4 14) 13 1) (jp_z σ_4 14) τ_4).bind fun (a_10, σ_10, τ_10) => if jp_len a_10 nl 1296 = true then some (jp_z σ_10 15, τ_10) else none else none
set_option maxHeartbeats 8000000 in
set_option maxRecDepth 20000 in
theorem ctX1_init {l : Launch} {Γ : jp_G} {Z : Nat → Option jp_Sh} {n : Nat} {nl : Nat} (hX0 : jp_hS Z n) {σ σ0 : jp_I} {τ τ0 : jp_J} {sz : Nat} (hth : Z 13 = some (0, 2, [(3, 0), (0, 0), (3, 0), (3, 0), (0, 0), (0, 0), (0, 0)])) (hn_14 : Z 14 = none) (hn_15 : Z 15 = none) (ha_t : Γ.2.2.1 13 + 1 = sz) (ha_14 : Γ.2.2.1 14 = sz + 0) (ha_15 : Γ.2.2.1 15 = sz + 1) (hf : fX1_init n nl σ τ = some (σ0, τ0)) : jp_K l yX1_init cX1_init 2 1 20 2 2592 Γ Z σ τ sz [.ref (Γ.2.2.1 13), .ref (Γ.2.2.1 1)] (zX1_init n nl Z) σ0 τ0 := by
  refine jp_mkK (lv := [(0, .ref (Γ.2.2.1 13)), (1, .ref (Γ.2.2.1 1))]) (by decide) rfl (Nat.le_of_ble_eq_true rfl) rfl fun p e s m args below meth c B hnm hsz hP ls hl => ?_
  obtain ⟨hx, hb, hml, hown, hts, hr, hlk, hE⟩ := id B
  unfold fX1_init at hf
  obtain ⟨H, hH⟩ : ∃ H, H = s.heap := ⟨_, rfl⟩
  obtain ⟨locs, hlocs⟩ : ∃ l0 : List Loc, l0 = [] := ⟨_, rfl⟩
  have hS : va_S (jp_A Γ) s.heap H locs := by rw [hH, hlocs]; exact va_S.rf
  rw [← hH] at hP
  show W p l e _ s m args below meth c s.heap [] 0 0 _ _
  rw [← hlocs]
  conv => arg 11; rw [← hH]
  refine lv_aload_n hx hb dX1_init_0 rfl (lv_at hl 0 rfl) ?_
  refine jp_obj B hl mw_104 mw_15 mw_16 (Nat.le_of_ble_eq_true rfl) (Nat.le_of_ble_eq_true rfl) dX1_init_1 ?_
  refine lv_aload_n hx hb dX1_init_4 rfl (lv_at hl 0 rfl) ?_
  refine lv_aload_n hx hb dX1_init_5 rfl (lv_at hl 1 rfl) ?_
  refine jp_putr (k := 0) (r := 1) (fs' := [(1, 1), (0, 0), (3, 0), (3, 0), (0, 0), (0, 0), (0, 0)]) B hnm hP hS hth (by decide) rfl (by decide) jp_fX1 tyX1 tyX1_ok nmX1 rfl rfl mw_105 rfl (ty := tyX1 0) (by decide +kernel) rfl rfl rfl dX1_init_6 (fun H locs hP hS hz2 => ?_)
  obtain ⟨Z_1, hZ_1⟩ : ∃ z, z = jp_zu Z 13 (0, 2, [(1, 1), (0, 0), (3, 0), (3, 0), (0, 0), (0, 0), (0, 0)]) := ⟨_, rfl⟩
  rw [← hZ_1] at hP
  have q_1 : Z_1 13 = some (0, 2, [(1, 1), (0, 0), (3, 0), (3, 0), (0, 0), (0, 0), (0, 0)]) := by rw [hZ_1]; exact jp_zu_s _ _ _
  refine lv_aload_n hx hb dX1_init_9 rfl (lv_at hl 0 rfl) ?_
  refine lv_aload_n hx hb dX1_init_10 rfl (lv_at hl 1 rfl) ?_
  have q_2 : Z_1 1 = some (0, 5, [(0, 0), (1, 2), (1, 3), (1, 4), (0, 0)]) := by rw [hZ_1, jp_zu_n _ _ (by decide)]; exact hX0.1
  refine jp_getiN (k := 0) B hP q_2 rfl rfl (by decide) jp_fX5 rfl nw_137 dX1_init_11 ?_
  refine jp_putiF (k := 1) B hnm hP hS q_1 rfl rfl (by decide) jp_fX1 tyX1 tyX1_ok nmX1 rfl rfl mw_106 rfl (by decide +kernel) dX1_init_14 (fun H locs hP hS hz2 => ?_)
  obtain ⟨Z_2, hZ_2⟩ : ∃ z, z = jp_zu Z_1 13 (0, 2, [(1, 1), (0, 0), (3, 0), (3, 0), (0, 0), (0, 0), (0, 0)]) := ⟨_, rfl⟩
  rw [← hZ_2] at hP
  have q_3 : Z_2 13 = some (0, 2, [(1, 1), (0, 0), (3, 0), (3, 0), (0, 0), (0, 0), (0, 0)]) := by rw [hZ_2]; exact jp_zu_s _ _ _
  refine lv_aload_n hx hb dX1_init_17 rfl (lv_at hl 0 rfl) ?_
  refine lv_aload_n hx hb dX1_init_18 rfl (lv_at hl 0 rfl) ?_
  refine jp_geti (k := 1) B hP q_3 rfl rfl (by decide) jp_fX1 rfl mw_106 dX1_init_19 ?_
  obtain ⟨⟨a_4, σ_4, τ_4⟩, h_4, hf⟩ := jp_bind hf
  dsimp only at hf
  refine jp_callSN (rest := [.ref (Γ.2.2.1 13)]) B hP hS hl (ctX7_jointStates h_4) mw_110 nw_226 mw_109 mw_2 ddX7_jointStates ⟨Nat.le_of_ble_eq_true rfl, Nat.le_of_ble_eq_true rfl⟩ ⟨Nat.le_of_ble_eq_true rfl, Nat.le_of_ble_eq_true rfl⟩ rfl (Nat.le_of_ble_eq_true rfl) dX1_init_22 (fun H locs hP hS => ?_)
  refine jp_size (last := 13) hP q_3 (jp_ad1t ha_t hsz) (fun hz => ?_)
  have q_5 : Z_2 14 = none := by rw [hZ_2, jp_zu_n _ _ (by decide), hZ_1, jp_zu_n _ _ (by decide)]; exact hn_14
  obtain ⟨g_6, hf⟩ := jp_if hf
  refine jp_newi (M := 1296) B hP hS hz (id := 14) q_5 (jp_ad0 ha_14 hsz rfl) mw_53 (jp_len_1 g_6) (jp_len_2 g_6) (jp_len_3 g_6) (by decide) (Nat.le_of_ble_eq_true rfl) (Nat.le_of_ble_eq_true rfl) dX1_init_25 (fun H hP hS hz => ?_)
  obtain ⟨Z_3, hZ_3⟩ : ∃ z, z = jp_zu Z_2 14 (1, nl, []) := ⟨_, rfl⟩
  rw [← hZ_3] at hP
  have q_7 : Z_3 14 = some (1, nl, []) := by rw [hZ_3]; exact jp_zu_s _ _ _
  have q_8 : Z_3 13 = some (0, 2, [(1, 1), (0, 0), (3, 0), (3, 0), (0, 0), (0, 0), (0, 0)]) := by rw [hZ_3, jp_zu_n _ _ (by decide)]; exact q_3
  refine jp_putr (k := 2) (r := 14) (fs' := [(1, 1), (0, 0), (1, 14), (3, 0), (0, 0), (0, 0), (0, 0)]) B hnm hP hS q_8 (by decide) rfl (by decide) jp_fX1 tyX1 tyX1_ok nmX1 rfl rfl mw_107 rfl (ty := tyX1 2) (by decide +kernel) rfl rfl rfl dX1_init_27 (fun H locs hP hS hz2 => ?_)
  obtain ⟨Z_4, hZ_4⟩ : ∃ z, z = jp_zu Z_3 13 (0, 2, [(1, 1), (0, 0), (1, 14), (3, 0), (0, 0), (0, 0), (0, 0)]) := ⟨_, rfl⟩
  rw [← hZ_4] at hP
  have q_9 : Z_4 13 = some (0, 2, [(1, 1), (0, 0), (1, 14), (3, 0), (0, 0), (0, 0), (0, 0)]) := by rw [hZ_4]; exact jp_zu_s _ _ _
  refine lv_aload_n hx hb dX1_init_30 rfl (lv_at hl 0 rfl) ?_
  refine lv_aload_n hx hb dX1_init_31 rfl (lv_at hl 0 rfl) ?_
  refine jp_geti (k := 1) B hP q_9 rfl rfl (by decide) jp_fX1 rfl mw_106 dX1_init_32 ?_
  obtain ⟨⟨a_10, σ_10, τ_10⟩, h_10, hf⟩ := jp_bind hf
  dsimp only at hf
  refine jp_callSN (rest := [.ref (Γ.2.2.1 13)]) B hP hS hl (ctX7_jointStates h_10) mw_110 nw_226 mw_109 mw_2 ddX7_jointStates ⟨Nat.le_of_ble_eq_true rfl, Nat.le_of_ble_eq_true rfl⟩ ⟨Nat.le_of_ble_eq_true rfl, Nat.le_of_ble_eq_true rfl⟩ rfl (Nat.le_of_ble_eq_true rfl) dX1_init_35 (fun H locs hP hS => ?_)
  have q_11 : Z_4 14 = some (1, nl, []) := by rw [hZ_4, jp_zu_n _ _ (by decide)]; exact q_7
  refine jp_size (last := 14) hP q_11 (jp_ad1 ha_14 hsz rfl) (fun hz => ?_)
  have q_12 : Z_4 15 = none := by rw [hZ_4, jp_zu_n _ _ (by decide), hZ_3, jp_zu_n _ _ (by decide), hZ_2, jp_zu_n _ _ (by decide), hZ_1, jp_zu_n _ _ (by decide)]; exact hn_15
  obtain ⟨g_13, hf⟩ := jp_if hf
  refine jp_newi (M := 1296) B hP hS hz (id := 15) q_12 (jp_ad0 ha_15 hsz rfl) mw_53 (jp_len_1 g_13) (jp_len_2 g_13) (jp_len_3 g_13) (by decide) (Nat.le_of_ble_eq_true rfl) (Nat.le_of_ble_eq_true rfl) dX1_init_38 (fun H hP hS hz => ?_)
  obtain ⟨Z_5, hZ_5⟩ : ∃ z, z = jp_zu Z_4 15 (1, nl, []) := ⟨_, rfl⟩
  rw [← hZ_5] at hP
  have q_14 : Z_5 15 = some (1, nl, []) := by rw [hZ_5]; exact jp_zu_s _ _ _
  have q_15 : Z_5 13 = some (0, 2, [(1, 1), (0, 0), (1, 14), (3, 0), (0, 0), (0, 0), (0, 0)]) := by rw [hZ_5, jp_zu_n _ _ (by decide)]; exact q_9
  refine jp_putr (k := 3) (r := 15) (fs' := [(1, 1), (0, 0), (1, 14), (1, 15), (0, 0), (0, 0), (0, 0)]) B hnm hP hS q_15 (by decide) rfl (by decide) jp_fX1 tyX1 tyX1_ok nmX1 rfl rfl mw_108 rfl (ty := tyX1 3) (by decide +kernel) rfl rfl rfl dX1_init_40 (fun H locs hP hS hz2 => ?_)
  obtain ⟨Z_6, hZ_6⟩ : ∃ z, z = jp_zu Z_5 13 (0, 2, [(1, 1), (0, 0), (1, 14), (1, 15), (0, 0), (0, 0), (0, 0)]) := ⟨_, rfl⟩
  rw [← hZ_6] at hP
  have q_16 : Z_6 13 = some (0, 2, [(1, 1), (0, 0), (1, 14), (1, 15), (0, 0), (0, 0), (0, 0)]) := by rw [hZ_6]; exact jp_zu_s _ _ _
  have hze : zX1_init n nl Z = Z_6 := by rw [hZ_6, hZ_5, hZ_4, hZ_3, hZ_2, hZ_1]; rfl
  exact jp_endK B hP hS (Nat.le_of_ble_eq_true rfl) (Nat.le_of_ble_eq_true rfl) dX1_init_43 ⟨hze, jp_injK hf⟩
-- X4_init
def zX4_init (n : Nat) (nc : Nat) (Z : Nat → Option jp_Sh) : Nat → Option jp_Sh := jp_zu (zX2_initT nc (jp_zu (jp_zu (jp_zu (jp_zu (jp_zu (jp_zu (jp_zu Z 16 (1, 1476, [])) 13 (0, 4, [(3, 0), (3, 0), (3, 0), (1, 16), (3, 0)])) 17 (1, 1476, [])) 13 (0, 4, [(3, 0), (3, 0), (3, 0), (1, 16), (1, 17)])) 13 (0, 4, [(1, 1), (3, 0), (3, 0), (1, 16), (1, 17)])) 13 (0, 4, [(1, 1), (1, 9), (3, 0), (1, 16), (1, 17)])) 14 (0, 3, [(0, 0), (3, 0), (0, 0), (0, 0)]))) 13 (0, 4, [(1, 1), (1, 9), (1, 14), (1, 16), (1, 17)])
theorem zX4_init_13 (n : Nat) (nc : Nat) (Z : Nat → Option jp_Sh) : zX4_init n nc Z 13 = some (0, 4, [(1, 1), (1, 9), (1, 14), (1, 16), (1, 17)]) := by
  unfold zX4_init
  exact jp_zu_s _ _ _
theorem zX4_init_16 (n : Nat) (nc : Nat) (Z : Nat → Option jp_Sh) : zX4_init n nc Z 16 = some (1, 1476, []) := by
  unfold zX4_init
  rw [jp_zu_n _ _ (by decide), zX2_initT_n nc _ (by decide), jp_zu_n _ _ (by decide), jp_zu_n _ _ (by decide), jp_zu_n _ _ (by decide), jp_zu_n _ _ (by decide), jp_zu_n _ _ (by decide), jp_zu_n _ _ (by decide)]; exact jp_zu_s _ _ _
theorem zX4_init_17 (n : Nat) (nc : Nat) (Z : Nat → Option jp_Sh) : zX4_init n nc Z 17 = some (1, 1476, []) := by
  unfold zX4_init
  rw [jp_zu_n _ _ (by decide), zX2_initT_n nc _ (by decide), jp_zu_n _ _ (by decide), jp_zu_n _ _ (by decide), jp_zu_n _ _ (by decide), jp_zu_n _ _ (by decide)]; exact jp_zu_s _ _ _
theorem zX4_init_14 (n : Nat) (nc : Nat) (Z : Nat → Option jp_Sh) : zX4_init n nc Z 14 = some (0, 3, [(0, 0), (1, 15), (0, 0), (0, 0)]) := by
  unfold zX4_init
  rw [jp_zu_n _ _ (by decide)]; exact zX2_initT_14 nc _
theorem zX4_init_15 (n : Nat) (nc : Nat) (Z : Nat → Option jp_Sh) : zX4_init n nc Z 15 = some (1, nc, []) := by
  unfold zX4_init
  rw [jp_zu_n _ _ (by decide)]; exact zX2_initT_15 nc _
theorem zX4_init_n (n : Nat) (nc : Nat) (Z : Nat → Option jp_Sh) {i : Nat} (h : ¬ i ∈ [13, 16, 17, 14, 15]) : zX4_init n nc Z i = Z i := by
  unfold zX4_init
  simp only [List.mem_cons, List.not_mem_nil, or_false, not_or] at h
  obtain ⟨e13, e16, e17, e14, e15⟩ := h
  rw [jp_zu_n _ _ e13, zX2_initT_n nc _ (by simp only [List.mem_cons, List.not_mem_nil, or_false, not_or]; exact ⟨e14, e15⟩), jp_zu_n _ _ e14, jp_zu_n _ _ e13, jp_zu_n _ _ e13, jp_zu_n _ _ e13, jp_zu_n _ _ e17, jp_zu_n _ _ e13, jp_zu_n _ _ e16]
def fX4_init (n : Nat) (nc : Nat) (σ : jp_I) (τ : jp_J) : Option (jp_I × jp_J) :=
  (fX7_mostSteps ((jp_z (jp_z (jp_z σ 16) 17) 14) 1 0) (jp_z (jp_z (jp_z σ 16) 17) 14) (jp_zl τ 14)).bind fun (a_15, σ_15, τ_15) => (fX2_initT nc ((jp_z (jp_z (jp_z σ 16) 17) 14) 1 0) a_15 σ_15 τ_15).bind fun (σ_16, τ_16) => some (σ_16, τ_16)
set_option maxHeartbeats 8000000 in
set_option maxRecDepth 20000 in
theorem ctX4_init {l : Launch} {Γ : jp_G} {Z : Nat → Option jp_Sh} {n : Nat} {nc : Nat} (hX0 : jp_hS Z n) (hX1 : jp_hU Z n) {σ σ0 : jp_I} {τ τ0 : jp_J} {sz : Nat} (hth : Z 13 = some (0, 4, [(3, 0), (3, 0), (3, 0), (3, 0), (3, 0)])) (hn_16 : Z 16 = none) (hn_17 : Z 17 = none) (hn_14 : Z 14 = none) (hn_15 : Z 15 = none) (ha_t : Γ.2.2.1 13 + 1 = sz) (ha_16 : Γ.2.2.1 16 = sz + 0) (ha_17 : Γ.2.2.1 17 = sz + 1) (ha_14 : Γ.2.2.1 14 = sz + 2) (ha_15 : Γ.2.2.1 15 = sz + 3) (hf : fX4_init n nc σ τ = some (σ0, τ0)) : jp_K l yX4_init cX4_init 3 2 40 4 5548 Γ Z σ τ sz [.ref (Γ.2.2.1 13), .ref (Γ.2.2.1 1), .ref (Γ.2.2.1 9)] (zX4_init n nc Z) σ0 τ0 := by
  refine jp_mkK (lv := [(0, .ref (Γ.2.2.1 13)), (1, .ref (Γ.2.2.1 1)), (2, .ref (Γ.2.2.1 9))]) (by decide) rfl (Nat.le_of_ble_eq_true rfl) rfl fun p e s m args below meth c B hnm hsz hP ls hl => ?_
  obtain ⟨hx, hb, hml, hown, hts, hr, hlk, hE⟩ := id B
  unfold fX4_init at hf
  obtain ⟨H, hH⟩ : ∃ H, H = s.heap := ⟨_, rfl⟩
  obtain ⟨locs, hlocs⟩ : ∃ l0 : List Loc, l0 = [] := ⟨_, rfl⟩
  have hS : va_S (jp_A Γ) s.heap H locs := by rw [hH, hlocs]; exact va_S.rf
  rw [← hH] at hP
  show W p l e _ s m args below meth c s.heap [] 0 0 _ _
  rw [← hlocs]
  conv => arg 11; rw [← hH]
  refine lv_aload_n hx hb dX4_init_0 rfl (lv_at hl 0 rfl) ?_
  refine jp_obj B hl mw_113 mw_15 mw_16 (Nat.le_of_ble_eq_true rfl) (Nat.le_of_ble_eq_true rfl) dX4_init_1 ?_
  refine lv_aload_n hx hb dX4_init_4 rfl (lv_at hl 0 rfl) ?_
  refine lv_sipush (v := 1476) hx hb dX4_init_5 (by decide) ?_
  refine jp_size (last := 13) hP hth (jp_ad1t ha_t hsz) (fun hz => ?_)
  refine jp_newi (M := 1476) B hP hS hz (id := 16) hn_16 (jp_ad0 ha_16 hsz rfl) mw_53 (by decide) (by decide) (Nat.le_refl _) (by decide) (Nat.le_of_ble_eq_true rfl) (Nat.le_of_ble_eq_true rfl) dX4_init_8 (fun H hP hS hz => ?_)
  obtain ⟨Z_1, hZ_1⟩ : ∃ z, z = jp_zu Z 16 (1, 1476, []) := ⟨_, rfl⟩
  rw [← hZ_1] at hP
  have q_1 : Z_1 16 = some (1, 1476, []) := by rw [hZ_1]; exact jp_zu_s _ _ _
  have q_2 : Z_1 13 = some (0, 4, [(3, 0), (3, 0), (3, 0), (3, 0), (3, 0)]) := by rw [hZ_1, jp_zu_n _ _ (by decide)]; exact hth
  refine jp_putr (k := 3) (r := 16) (fs' := [(3, 0), (3, 0), (3, 0), (1, 16), (3, 0)]) B hnm hP hS q_2 (by decide) rfl (by decide) jp_fX4 tyX4 tyX4_ok nmX4 rfl rfl mw_114 rfl (ty := tyX4 3) (by decide +kernel) rfl rfl rfl dX4_init_10 (fun H locs hP hS hz2 => ?_)
  obtain ⟨Z_2, hZ_2⟩ : ∃ z, z = jp_zu Z_1 13 (0, 4, [(3, 0), (3, 0), (3, 0), (1, 16), (3, 0)]) := ⟨_, rfl⟩
  rw [← hZ_2] at hP
  have q_3 : Z_2 13 = some (0, 4, [(3, 0), (3, 0), (3, 0), (1, 16), (3, 0)]) := by rw [hZ_2]; exact jp_zu_s _ _ _
  refine lv_aload_n hx hb dX4_init_13 rfl (lv_at hl 0 rfl) ?_
  refine lv_sipush (v := 1476) hx hb dX4_init_14 (by decide) ?_
  have q_4 : Z_2 16 = some (1, 1476, []) := by rw [hZ_2, jp_zu_n _ _ (by decide)]; exact q_1
  refine jp_size (last := 16) hP q_4 (jp_ad1 ha_16 hsz rfl) (fun hz => ?_)
  have q_5 : Z_2 17 = none := by rw [hZ_2, jp_zu_n _ _ (by decide), hZ_1, jp_zu_n _ _ (by decide)]; exact hn_17
  refine jp_newi (M := 1476) B hP hS hz (id := 17) q_5 (jp_ad0 ha_17 hsz rfl) mw_53 (by decide) (by decide) (Nat.le_refl _) (by decide) (Nat.le_of_ble_eq_true rfl) (Nat.le_of_ble_eq_true rfl) dX4_init_17 (fun H hP hS hz => ?_)
  obtain ⟨Z_3, hZ_3⟩ : ∃ z, z = jp_zu Z_2 17 (1, 1476, []) := ⟨_, rfl⟩
  rw [← hZ_3] at hP
  have q_6 : Z_3 17 = some (1, 1476, []) := by rw [hZ_3]; exact jp_zu_s _ _ _
  have q_7 : Z_3 13 = some (0, 4, [(3, 0), (3, 0), (3, 0), (1, 16), (3, 0)]) := by rw [hZ_3, jp_zu_n _ _ (by decide)]; exact q_3
  refine jp_putr (k := 4) (r := 17) (fs' := [(3, 0), (3, 0), (3, 0), (1, 16), (1, 17)]) B hnm hP hS q_7 (by decide) rfl (by decide) jp_fX4 tyX4 tyX4_ok nmX4 rfl rfl mw_115 rfl (ty := tyX4 4) (by decide +kernel) rfl rfl rfl dX4_init_19 (fun H locs hP hS hz2 => ?_)
  obtain ⟨Z_4, hZ_4⟩ : ∃ z, z = jp_zu Z_3 13 (0, 4, [(3, 0), (3, 0), (3, 0), (1, 16), (1, 17)]) := ⟨_, rfl⟩
  rw [← hZ_4] at hP
  have q_8 : Z_4 13 = some (0, 4, [(3, 0), (3, 0), (3, 0), (1, 16), (1, 17)]) := by rw [hZ_4]; exact jp_zu_s _ _ _
  refine lv_aload_n hx hb dX4_init_22 rfl (lv_at hl 0 rfl) ?_
  refine lv_aload_n hx hb dX4_init_23 rfl (lv_at hl 1 rfl) ?_
  refine jp_putr (k := 0) (r := 1) (fs' := [(1, 1), (3, 0), (3, 0), (1, 16), (1, 17)]) B hnm hP hS q_8 (by decide) rfl (by decide) jp_fX4 tyX4 tyX4_ok nmX4 rfl rfl mw_116 rfl (ty := tyX4 0) (by decide +kernel) rfl rfl rfl dX4_init_24 (fun H locs hP hS hz2 => ?_)
  obtain ⟨Z_5, hZ_5⟩ : ∃ z, z = jp_zu Z_4 13 (0, 4, [(1, 1), (3, 0), (3, 0), (1, 16), (1, 17)]) := ⟨_, rfl⟩
  rw [← hZ_5] at hP
  have q_9 : Z_5 13 = some (0, 4, [(1, 1), (3, 0), (3, 0), (1, 16), (1, 17)]) := by rw [hZ_5]; exact jp_zu_s _ _ _
  refine lv_aload_n hx hb dX4_init_27 rfl (lv_at hl 0 rfl) ?_
  refine lv_aload_n hx hb dX4_init_28 rfl (lv_at hl 2 rfl) ?_
  refine jp_putr (k := 1) (r := 9) (fs' := [(1, 1), (1, 9), (3, 0), (1, 16), (1, 17)]) B hnm hP hS q_9 (by decide) rfl (by decide) jp_fX4 tyX4 tyX4_ok nmX4 rfl rfl mw_117 rfl (ty := tyX4 1) (by decide +kernel) rfl rfl rfl dX4_init_29 (fun H locs hP hS hz2 => ?_)
  obtain ⟨Z_6, hZ_6⟩ : ∃ z, z = jp_zu Z_5 13 (0, 4, [(1, 1), (1, 9), (3, 0), (1, 16), (1, 17)]) := ⟨_, rfl⟩
  rw [← hZ_6] at hP
  have q_10 : Z_6 13 = some (0, 4, [(1, 1), (1, 9), (3, 0), (1, 16), (1, 17)]) := by rw [hZ_6]; exact jp_zu_s _ _ _
  refine lv_aload_n hx hb dX4_init_32 rfl (lv_at hl 0 rfl) ?_
  have q_11 : Z_6 17 = some (1, 1476, []) := by rw [hZ_6, jp_zu_n _ _ (by decide), hZ_5, jp_zu_n _ _ (by decide), hZ_4, jp_zu_n _ _ (by decide)]; exact q_6
  refine jp_size (last := 17) hP q_11 (jp_ad1 ha_17 hsz rfl) (fun hz => ?_)
  have q_12 : Z_6 14 = none := by rw [hZ_6, jp_zu_n _ _ (by decide), hZ_5, jp_zu_n _ _ (by decide), hZ_4, jp_zu_n _ _ (by decide), hZ_3, jp_zu_n _ _ (by decide), hZ_2, jp_zu_n _ _ (by decide), hZ_1, jp_zu_n _ _ (by decide)]; exact hn_14
  refine jp_new (fs := [(0, 0), (3, 0), (0, 0), (0, 0)]) B hP hS hz (id := 14) (ci := 3) q_12 (jp_ad0 ha_14 hsz rfl) rfl jp_fX2 tyX2 tyX2_ok mw_118 mw_41 mw_42 (fun j hj => by rcases jp_c4 hj with rfl | rfl | rfl | rfl <;> simp [jp_fl, jp_fv, jp_z, jp_zl, vp_V, tyX2, defaultValue]) (Nat.le_of_ble_eq_true rfl) (Nat.le_of_ble_eq_true rfl) dX4_init_33 (fun H hP hS hz => ?_)
  obtain ⟨Z_7, hZ_7⟩ : ∃ z, z = jp_zu Z_6 14 (0, 3, [(0, 0), (3, 0), (0, 0), (0, 0)]) := ⟨_, rfl⟩
  rw [← hZ_7] at hP
  have q_13 : Z_7 14 = some (0, 3, [(0, 0), (3, 0), (0, 0), (0, 0)]) := by rw [hZ_7]; exact jp_zu_s _ _ _
  refine lv_dup hx hb dX4_init_36 rfl ?_
  refine lv_aload_n hx hb dX4_init_37 rfl (lv_at hl 1 rfl) ?_
  have q_14 : Z_7 1 = some (0, 5, [(0, 0), (1, 2), (1, 3), (1, 4), (0, 0)]) := by rw [hZ_7, jp_zu_n _ _ (by decide), hZ_6, jp_zu_n _ _ (by decide), hZ_5, jp_zu_n _ _ (by decide), hZ_4, jp_zu_n _ _ (by decide), hZ_3, jp_zu_n _ _ (by decide), hZ_2, jp_zu_n _ _ (by decide), hZ_1, jp_zu_n _ _ (by decide)]; exact hX0.1
  refine jp_getiN (k := 0) B hP q_14 rfl rfl (by decide) jp_fX5 rfl nw_139 dX4_init_38 ?_
  refine lv_aload_n hx hb dX4_init_41 rfl (lv_at hl 1 rfl) ?_
  refine jp_getiN (k := 0) B hP q_14 rfl rfl (by decide) jp_fX5 rfl nw_139 dX4_init_42 ?_
  obtain ⟨⟨a_15, σ_15, τ_15⟩, h_15, hf⟩ := jp_bind hf
  dsimp only at hf
  refine jp_callSN (rest := [.int ((jp_z (jp_z (jp_z σ 16) 17) 14) 1 0), .ref (Γ.2.2.1 14), .ref (Γ.2.2.1 14), .ref (Γ.2.2.1 13)]) B hP hS hl (ctX7_mostSteps h_15) mw_121 nw_259 mw_120 mw_2 ddX7_mostSteps ⟨Nat.le_of_ble_eq_true rfl, Nat.le_of_ble_eq_true rfl⟩ ⟨Nat.le_of_ble_eq_true rfl, Nat.le_of_ble_eq_true rfl⟩ rfl (Nat.le_of_ble_eq_true rfl) dX4_init_45 (fun H locs hP hS => ?_)
  have q_17 : Z_7 15 = none := by rw [hZ_7, jp_zu_n _ _ (by decide), hZ_6, jp_zu_n _ _ (by decide), hZ_5, jp_zu_n _ _ (by decide), hZ_4, jp_zu_n _ _ (by decide), hZ_3, jp_zu_n _ _ (by decide), hZ_2, jp_zu_n _ _ (by decide), hZ_1, jp_zu_n _ _ (by decide)]; exact hn_15
  refine jp_size (last := 14) hP q_13 (jp_ad1 ha_14 hsz rfl) (fun hz => ?_)
  obtain ⟨⟨σ_16, τ_16⟩, h_16, hf⟩ := jp_bind hf
  dsimp only at hf
  refine jp_callIN (rest := [.ref (Γ.2.2.1 14), .ref (Γ.2.2.1 13)]) B hP hS hz hl (ctX2_initT q_13 q_17 (jp_ad1 ha_14 hsz rfl) (jp_ad2 ha_15 hsz rfl) h_16) rfl mw_124 nw_263 mw_123 mw_42 ddX2_init ⟨Nat.le_of_ble_eq_true rfl, Nat.le_of_ble_eq_true rfl⟩ ⟨Nat.le_of_ble_eq_true rfl, Nat.le_of_ble_eq_true rfl⟩ rfl (Nat.le_of_ble_eq_true rfl) dX4_init_48 (fun H locs hP hS => ?_)
  obtain ⟨Z_8, hZ_8⟩ : ∃ z, z = zX2_initT nc Z_7 := ⟨_, rfl⟩
  rw [← hZ_8] at hP
  have q_18 : Z_8 14 = some (0, 3, [(0, 0), (1, 15), (0, 0), (0, 0)]) := by rw [hZ_8]; exact zX2_initT_14 nc _
  have q_19 : Z_8 15 = some (1, nc, []) := by rw [hZ_8]; exact zX2_initT_15 nc _
  have q_20 : Z_8 13 = some (0, 4, [(1, 1), (1, 9), (3, 0), (1, 16), (1, 17)]) := by rw [hZ_8, zX2_initT_n nc _ (by decide), hZ_7, jp_zu_n _ _ (by decide)]; exact q_10
  refine jp_putr (k := 2) (r := 14) (fs' := [(1, 1), (1, 9), (1, 14), (1, 16), (1, 17)]) B hnm hP hS q_20 (by decide) rfl (by decide) jp_fX4 tyX4 tyX4_ok nmX4 rfl rfl mw_119 rfl (ty := tyX4 2) (by decide +kernel) rfl rfl rfl dX4_init_51 (fun H locs hP hS hz2 => ?_)
  obtain ⟨Z_9, hZ_9⟩ : ∃ z, z = jp_zu Z_8 13 (0, 4, [(1, 1), (1, 9), (1, 14), (1, 16), (1, 17)]) := ⟨_, rfl⟩
  rw [← hZ_9] at hP
  have q_21 : Z_9 13 = some (0, 4, [(1, 1), (1, 9), (1, 14), (1, 16), (1, 17)]) := by rw [hZ_9]; exact jp_zu_s _ _ _
  have hze : zX4_init n nc Z = Z_9 := by rw [hZ_9, hZ_8, hZ_7, hZ_6, hZ_5, hZ_4, hZ_3, hZ_2, hZ_1]; rfl
  exact jp_endK B hP hS (Nat.le_of_ble_eq_true rfl) (Nat.le_of_ble_eq_true rfl) dX4_init_54 ⟨hze, jp_injK hf⟩
