-- X0_init
def fX0_init (σ : jp_I) (τ : jp_J) : Option (jp_I × jp_J) :=
  some (jp_z (jp_z (jp_z (jp_z σ 5) 6) 7) 8, τ)
set_option maxHeartbeats 8000000 in
set_option maxRecDepth 20000 in
theorem ctX0_init {l : Launch} {Γ : jp_G} {Z : Nat → Option jp_Sh} {σ σ0 : jp_I} {τ τ0 : jp_J} {sz : Nat} (hth : Z 2 = some (0, 1, [(3, 0), (3, 0), (3, 0), (3, 0), (0, 0), (0, 0), (0, 0)])) (hn_5 : Z 5 = none) (hn_6 : Z 6 = none) (hn_7 : Z 7 = none) (hn_8 : Z 8 = none) (ha_t : Γ.2.2.1 2 + 1 = sz) (ha_5 : Γ.2.2.1 5 = sz + 0) (ha_6 : Γ.2.2.1 6 = sz + 1) (ha_7 : Γ.2.2.1 7 = sz + 2) (ha_8 : Γ.2.2.1 8 = sz + 3) (hf : fX0_init σ τ = some (σ0, τ0)) : jp_K l yX0_init cX0_init 1 1 12 4 288 Γ Z σ τ sz [.ref (Γ.2.2.1 2)] (jp_zu (jp_zu (jp_zu (jp_zu (jp_zu (jp_zu (jp_zu (jp_zu Z 5 (1, 36, [])) 2 (0, 1, [(1, 5), (3, 0), (3, 0), (3, 0), (0, 0), (0, 0), (0, 0)])) 6 (1, 180, [])) 2 (0, 1, [(1, 5), (1, 6), (3, 0), (3, 0), (0, 0), (0, 0), (0, 0)])) 7 (1, 36, [])) 2 (0, 1, [(1, 5), (1, 6), (1, 7), (3, 0), (0, 0), (0, 0), (0, 0)])) 8 (1, 36, [])) 2 (0, 1, [(1, 5), (1, 6), (1, 7), (1, 8), (0, 0), (0, 0), (0, 0)])) σ0 τ0 := by
  refine jp_mkK (lv := [(0, .ref (Γ.2.2.1 2))]) (by decide) rfl (Nat.le_of_ble_eq_true rfl) rfl fun p e s m args below meth c B hnm hsz hP ls hl => ?_
  obtain ⟨hx, hb, hml, hown, hts, hr, hlk, hE⟩ := id B
  unfold fX0_init at hf
  obtain ⟨H, hH⟩ : ∃ H, H = s.heap := ⟨_, rfl⟩
  obtain ⟨locs, hlocs⟩ : ∃ l0 : List Loc, l0 = [] := ⟨_, rfl⟩
  have hS : va_S (jp_A Γ) s.heap H locs := by rw [hH, hlocs]; exact va_S.rf
  rw [← hH] at hP
  show W p l e _ s m args below meth c s.heap [] 0 0 _ _
  rw [← hlocs]
  conv => arg 11; rw [← hH]
  refine lv_aload_n hx hb dX0_init_0 rfl (lv_at hl 0 rfl) ?_
  refine jp_obj B hl mw_58 mw_15 mw_16 (Nat.le_of_ble_eq_true rfl) (Nat.le_of_ble_eq_true rfl) dX0_init_1 ?_
  refine lv_aload_n hx hb dX0_init_4 rfl (lv_at hl 0 rfl) ?_
  refine lv_bipush (v := 36) hx hb dX0_init_5 (by decide) ?_
  refine jp_size (last := 2) hP hth (by omega) (fun hz => ?_)
  refine jp_newi (M := 36) B hP hS hz (id := 5) hn_5 (by omega) mw_53 (by decide) (by decide) (Nat.le_refl _) (by decide) (Nat.le_of_ble_eq_true rfl) (Nat.le_of_ble_eq_true rfl) dX0_init_7 (fun H hP hS hz => ?_)
  refine jp_putr (k := 0) (r := 5) (fs' := [(1, 5), (3, 0), (3, 0), (3, 0), (0, 0), (0, 0), (0, 0)]) B hnm hP hS hth (by decide) rfl (by decide) jp_fX0 tyX0 tyX0_ok nmX0 rfl rfl mw_59 rfl (ty := tyX0 0) (by decide +kernel) rfl rfl rfl dX0_init_9 (fun H locs hP hS hz2 => ?_)
  refine lv_aload_n hx hb dX0_init_12 rfl (lv_at hl 0 rfl) ?_
  refine lv_sipush (v := 180) hx hb dX0_init_13 (by decide) ?_
  refine jp_size (last := 5) hP rfl (by omega) (fun hz => ?_)
  refine jp_newi (M := 180) B hP hS hz (id := 6) hn_6 (by omega) mw_53 (by decide) (by decide) (Nat.le_refl _) (by decide) (Nat.le_of_ble_eq_true rfl) (Nat.le_of_ble_eq_true rfl) dX0_init_16 (fun H hP hS hz => ?_)
  refine jp_putr (k := 1) (r := 6) (fs' := [(1, 5), (1, 6), (3, 0), (3, 0), (0, 0), (0, 0), (0, 0)]) B hnm hP hS rfl (by decide) rfl (by decide) jp_fX0 tyX0 tyX0_ok nmX0 rfl rfl mw_60 rfl (ty := tyX0 1) (by decide +kernel) rfl rfl rfl dX0_init_18 (fun H locs hP hS hz2 => ?_)
  refine lv_aload_n hx hb dX0_init_21 rfl (lv_at hl 0 rfl) ?_
  refine lv_bipush (v := 36) hx hb dX0_init_22 (by decide) ?_
  refine jp_size (last := 6) hP rfl (by omega) (fun hz => ?_)
  refine jp_newi (M := 36) B hP hS hz (id := 7) hn_7 (by omega) mw_53 (by decide) (by decide) (Nat.le_refl _) (by decide) (Nat.le_of_ble_eq_true rfl) (Nat.le_of_ble_eq_true rfl) dX0_init_24 (fun H hP hS hz => ?_)
  refine jp_putr (k := 2) (r := 7) (fs' := [(1, 5), (1, 6), (1, 7), (3, 0), (0, 0), (0, 0), (0, 0)]) B hnm hP hS rfl (by decide) rfl (by decide) jp_fX0 tyX0 tyX0_ok nmX0 rfl rfl mw_61 rfl (ty := tyX0 2) (by decide +kernel) rfl rfl rfl dX0_init_26 (fun H locs hP hS hz2 => ?_)
  refine lv_aload_n hx hb dX0_init_29 rfl (lv_at hl 0 rfl) ?_
  refine lv_bipush (v := 36) hx hb dX0_init_30 (by decide) ?_
  refine jp_size (last := 7) hP rfl (by omega) (fun hz => ?_)
  refine jp_newi (M := 36) B hP hS hz (id := 8) hn_8 (by omega) mw_53 (by decide) (by decide) (Nat.le_refl _) (by decide) (Nat.le_of_ble_eq_true rfl) (Nat.le_of_ble_eq_true rfl) dX0_init_32 (fun H hP hS hz => ?_)
  refine jp_putr (k := 3) (r := 8) (fs' := [(1, 5), (1, 6), (1, 7), (1, 8), (0, 0), (0, 0), (0, 0)]) B hnm hP hS rfl (by decide) rfl (by decide) jp_fX0 tyX0 tyX0_ok nmX0 rfl rfl mw_62 rfl (ty := tyX0 3) (by decide +kernel) rfl rfl rfl dX0_init_34 (fun H locs hP hS hz2 => ?_)
  exact jp_endK B hP hS (Nat.le_of_ble_eq_true rfl) (Nat.le_of_ble_eq_true rfl) dX0_init_37 (jp_injK hf)
-- X5_init
def fX5_init (n : Nat) (p1 : Int32) (σ : jp_I) (τ : jp_J) : Option (jp_I × jp_J) :=
  (fX0_init (jp_z σ 2) (jp_zl τ 2)).bind fun (σ_1, τ_1) => if jp_len p1 n 4 = true then if jp_len p1 n 4 = true then (fX5_renew n 1 1 (jp_z (jp_z (jp_up (jp_up σ_1 1 4 1) 1 0 p1) 3) 4) τ_1).bind fun (a_4, σ_4, τ_4) => some (σ_4, τ_4) else none else none
set_option maxHeartbeats 8000000 in
set_option maxRecDepth 20000 in
theorem ctX5_init {l : Launch} {Γ : jp_G} {Z : Nat → Option jp_Sh} {n : Nat} {p1 : Int32} {σ σ0 : jp_I} {τ τ0 : jp_J} {sz : Nat} (hth : Z 1 = some (0, 5, [(0, 0), (3, 0), (3, 0), (3, 0), (0, 0)])) (hn_2 : Z 2 = none) (hn_5 : Z 5 = none) (hn_6 : Z 6 = none) (hn_7 : Z 7 = none) (hn_8 : Z 8 = none) (hn_3 : Z 3 = none) (hn_4 : Z 4 = none) (ha_t : Γ.2.2.1 1 + 1 = sz) (ha_2 : Γ.2.2.1 2 = sz + 0) (ha_5 : Γ.2.2.1 5 = sz + 1) (ha_6 : Γ.2.2.1 6 = sz + 2) (ha_7 : Γ.2.2.1 7 = sz + 3) (ha_8 : Γ.2.2.1 8 = sz + 4) (ha_3 : Γ.2.2.1 3 = sz + 5) (ha_4 : Γ.2.2.1 4 = sz + 6) (hf : fX5_init n p1 σ τ = some (σ0, τ0)) : jp_K l yX5_init cX5_init 2 6 134 7 303 Γ Z σ τ sz [.ref (Γ.2.2.1 1), .int p1] (jp_zu (jp_zu (jp_zu (jp_zu (jp_zu (jp_zu (jp_zu (jp_zu (jp_zu (jp_zu (jp_zu (jp_zu (jp_zu (jp_zu (jp_zu Z 2 (0, 1, [(3, 0), (3, 0), (3, 0), (3, 0), (0, 0), (0, 0), (0, 0)])) 5 (1, 36, [])) 2 (0, 1, [(1, 5), (3, 0), (3, 0), (3, 0), (0, 0), (0, 0), (0, 0)])) 6 (1, 180, [])) 2 (0, 1, [(1, 5), (1, 6), (3, 0), (3, 0), (0, 0), (0, 0), (0, 0)])) 7 (1, 36, [])) 2 (0, 1, [(1, 5), (1, 6), (1, 7), (3, 0), (0, 0), (0, 0), (0, 0)])) 8 (1, 36, [])) 2 (0, 1, [(1, 5), (1, 6), (1, 7), (1, 8), (0, 0), (0, 0), (0, 0)])) 1 (0, 5, [(0, 0), (1, 2), (3, 0), (3, 0), (0, 0)])) 1 (0, 5, [(0, 0), (1, 2), (3, 0), (3, 0), (0, 0)])) 3 (1, n, [])) 1 (0, 5, [(0, 0), (1, 2), (1, 3), (3, 0), (0, 0)])) 4 (1, n, [])) 1 (0, 5, [(0, 0), (1, 2), (1, 3), (1, 4), (0, 0)])) σ0 τ0 := by
  refine jp_mkK (lv := [(0, .ref (Γ.2.2.1 1)), (1, .int p1)]) (by decide) rfl (Nat.le_of_ble_eq_true rfl) rfl fun p e s m args below meth c B hnm hsz hP ls hl => ?_
  obtain ⟨hx, hb, hml, hown, hts, hr, hlk, hE⟩ := id B
  unfold fX5_init at hf
  obtain ⟨H, hH⟩ : ∃ H, H = s.heap := ⟨_, rfl⟩
  obtain ⟨locs, hlocs⟩ : ∃ l0 : List Loc, l0 = [] := ⟨_, rfl⟩
  have hS : va_S (jp_A Γ) s.heap H locs := by rw [hH, hlocs]; exact va_S.rf
  rw [← hH] at hP
  show W p l e _ s m args below meth c s.heap [] 0 0 _ _
  rw [← hlocs]
  conv => arg 11; rw [← hH]
  refine lv_aload_n hx hb dX5_init_0 rfl (lv_at hl 0 rfl) ?_
  refine jp_obj B hl mw_46 mw_15 mw_16 (Nat.le_of_ble_eq_true rfl) (Nat.le_of_ble_eq_true rfl) dX5_init_1 ?_
  refine lv_aload_n hx hb dX5_init_4 rfl (lv_at hl 0 rfl) ?_
  refine jp_size (last := 1) hP hth (by omega) (fun hz => ?_)
  refine jp_new (fs := [(3, 0), (3, 0), (3, 0), (3, 0), (0, 0), (0, 0), (0, 0)]) B hP hS hz (id := 2) (ci := 1) hn_2 (by omega) rfl jp_fX0 tyX0 tyX0_ok mw_47 mw_48 mw_49 (fun j hj => by rcases (show j = 0 ∨ j = 1 ∨ j = 2 ∨ j = 3 ∨ j = 4 ∨ j = 5 ∨ j = 6 by omega) with rfl | rfl | rfl | rfl | rfl | rfl | rfl <;> simp [jp_fl, jp_fv, jp_z, jp_zl, vp_V, tyX0, defaultValue]) (Nat.le_of_ble_eq_true rfl) (Nat.le_of_ble_eq_true rfl) dX5_init_5 (fun H hP hS hz => ?_)
  refine lv_dup hx hb dX5_init_8 rfl ?_
  refine jp_size (last := 2) hP rfl (by omega) (fun hz => ?_)
  obtain ⟨⟨σ_1, τ_1⟩, h_1, hf⟩ := jp_bind hf
  dsimp only at hf
  refine jp_callIN (rest := [.ref (Γ.2.2.1 2), .ref (Γ.2.2.1 1)]) B hP hS hz hl (ctX0_init rfl hn_5 hn_6 hn_7 hn_8 (by omega) (by omega) (by omega) (by omega) (by omega) h_1) rfl mw_57 nw_110 mw_56 mw_49 ddX0_init ⟨Nat.le_of_ble_eq_true rfl, Nat.le_of_ble_eq_true rfl⟩ ⟨Nat.le_of_ble_eq_true rfl, Nat.le_of_ble_eq_true rfl⟩ rfl (Nat.le_of_ble_eq_true rfl) dX5_init_9 (fun H locs hP hS => ?_)
  refine jp_putr (k := 1) (r := 2) (fs' := [(0, 0), (1, 2), (3, 0), (3, 0), (0, 0)]) B hnm hP hS hth (by decide) rfl (by decide) jp_fX5 tyX5 tyX5_ok nmX5 rfl rfl mw_50 rfl (ty := tyX5 1) (by decide +kernel) rfl rfl rfl dX5_init_12 (fun H locs hP hS hz2 => ?_)
  refine lv_aload_n hx hb dX5_init_15 rfl (lv_at hl 0 rfl) ?_
  refine lv_iconst (v := 1) hx hb dX5_init_16 (by decide) ?_
  refine jp_puti (k := 4) (ty := .boolean) B hP hS rfl rfl rfl (by decide) jp_fX5 tyX5 tyX5_ok nmX5 rfl mw_51 rfl (by decide +kernel) (jp_isb_n (by decide)) (jp_isb_f (by decide)) dX5_init_17 (fun H locs hP hS => ?_)
  refine lv_aload_n hx hb dX5_init_20 rfl (lv_at hl 0 rfl) ?_
  refine lv_iload_n hx hb dX5_init_21 rfl (lv_at hl 1 rfl) ?_
  refine jp_putiF (k := 0) B hnm hP hS rfl rfl rfl (by decide) jp_fX5 tyX5 tyX5_ok nmX5 rfl rfl mw_52 rfl (by decide +kernel) dX5_init_22 (fun H locs hP hS hz2 => ?_)
  refine lv_aload_n hx hb dX5_init_25 rfl (lv_at hl 0 rfl) ?_
  refine lv_iload_n hx hb dX5_init_26 rfl (lv_at hl 1 rfl) ?_
  refine jp_size (last := 8) hP rfl (by omega) (fun hz => ?_)
  obtain ⟨g_2, hf⟩ := jp_if hf
  refine jp_newi (M := 4) B hP hS hz (id := 3) hn_3 (by omega) mw_53 (jp_len_1 g_2) (jp_len_2 g_2) (jp_len_3 g_2) (by decide) (Nat.le_of_ble_eq_true rfl) (Nat.le_of_ble_eq_true rfl) dX5_init_27 (fun H hP hS hz => ?_)
  refine jp_putr (k := 2) (r := 3) (fs' := [(0, 0), (1, 2), (1, 3), (3, 0), (0, 0)]) B hnm hP hS rfl (by decide) rfl (by decide) jp_fX5 tyX5 tyX5_ok nmX5 rfl rfl mw_54 rfl (ty := tyX5 2) (by decide +kernel) rfl rfl rfl dX5_init_29 (fun H locs hP hS hz2 => ?_)
  refine lv_aload_n hx hb dX5_init_32 rfl (lv_at hl 0 rfl) ?_
  refine lv_iload_n hx hb dX5_init_33 rfl (lv_at hl 1 rfl) ?_
  refine jp_size (last := 3) hP rfl (by omega) (fun hz => ?_)
  obtain ⟨g_3, hf⟩ := jp_if hf
  refine jp_newi (M := 4) B hP hS hz (id := 4) hn_4 (by omega) mw_53 (jp_len_1 g_3) (jp_len_2 g_3) (jp_len_3 g_3) (by decide) (Nat.le_of_ble_eq_true rfl) (Nat.le_of_ble_eq_true rfl) dX5_init_34 (fun H hP hS hz => ?_)
  refine jp_putr (k := 3) (r := 4) (fs' := [(0, 0), (1, 2), (1, 3), (1, 4), (0, 0)]) B hnm hP hS rfl (by decide) rfl (by decide) jp_fX5 tyX5 tyX5_ok nmX5 rfl rfl mw_55 rfl (ty := tyX5 3) (by decide +kernel) rfl rfl rfl dX5_init_36 (fun H locs hP hS hz2 => ?_)
  refine lv_aload_n hx hb dX5_init_39 rfl (lv_at hl 0 rfl) ?_
  refine lv_iconst (v := 1) hx hb dX5_init_40 (by decide) ?_
  refine lv_iconst (v := 1) hx hb dX5_init_41 (by decide) ?_
  obtain ⟨⟨a_4, σ_4, τ_4⟩, h_4, hf⟩ := jp_bind hf
  dsimp only at hf
  refine jp_callV (rest := []) B hP hS hl (ctX5_renew ⟨rfl, rfl, rfl, ⟨rfl, rfl, rfl, rfl, rfl⟩⟩ h_4) rfl rfl mw_66 mw_63 mw_64 mw_65 mw_27 ddX5_renew ⟨Nat.le_of_ble_eq_true rfl, Nat.le_of_ble_eq_true rfl⟩ ⟨Nat.le_of_ble_eq_true rfl, Nat.le_of_ble_eq_true rfl⟩ rfl (Nat.le_of_ble_eq_true rfl) dX5_init_42 (fun H locs hP hS => ?_)
  exact jp_endK B hP hS (Nat.le_of_ble_eq_true rfl) (Nat.le_of_ble_eq_true rfl) dX5_init_45 (jp_injK hf)
-- X6_init
def fX6_init (n : Nat) (p1 : Int32) (σ : jp_I) (τ : jp_J) : Option (jp_I × jp_J) :=
  if jp_len p1 n 4 = true then some (jp_z σ 10, jp_upl τ 9 1 1) else none
set_option maxHeartbeats 8000000 in
set_option maxRecDepth 20000 in
theorem ctX6_init {l : Launch} {Γ : jp_G} {Z : Nat → Option jp_Sh} {n : Nat} {p1 : Int32} {σ σ0 : jp_I} {τ τ0 : jp_J} {sz : Nat} (hth : Z 9 = some (0, 6, [(3, 0), (2, 0)])) (hn_10 : Z 10 = none) (ha_t : Γ.2.2.1 9 + 1 = sz) (ha_10 : Γ.2.2.1 10 = sz + 0) (hf : fX6_init n p1 σ τ = some (σ0, τ0)) : jp_K l yX6_init cX6_init 2 1 12 1 4 Γ Z σ τ sz [.ref (Γ.2.2.1 9), .int p1] (jp_zu (jp_zu Z 10 (1, n, [])) 9 (0, 6, [(1, 10), (2, 0)])) σ0 τ0 := by
  refine jp_mkK (lv := [(0, .ref (Γ.2.2.1 9)), (1, .int p1)]) (by decide) rfl (Nat.le_of_ble_eq_true rfl) rfl fun p e s m args below meth c B hnm hsz hP ls hl => ?_
  obtain ⟨hx, hb, hml, hown, hts, hr, hlk, hE⟩ := id B
  unfold fX6_init at hf
  obtain ⟨H, hH⟩ : ∃ H, H = s.heap := ⟨_, rfl⟩
  obtain ⟨locs, hlocs⟩ : ∃ l0 : List Loc, l0 = [] := ⟨_, rfl⟩
  have hS : va_S (jp_A Γ) s.heap H locs := by rw [hH, hlocs]; exact va_S.rf
  rw [← hH] at hP
  show W p l e _ s m args below meth c s.heap [] 0 0 _ _
  rw [← hlocs]
  conv => arg 11; rw [← hH]
  refine lv_aload_n hx hb dX6_init_0 rfl (lv_at hl 0 rfl) ?_
  refine jp_obj B hl mw_100 mw_15 mw_16 (Nat.le_of_ble_eq_true rfl) (Nat.le_of_ble_eq_true rfl) dX6_init_1 ?_
  refine lv_aload_n hx hb dX6_init_4 rfl (lv_at hl 0 rfl) ?_
  refine lv_lconst (v := 1) hx hb dX6_init_5 (by decide) ?_
  refine jp_putl (k := 1) B hP hS hth rfl rfl (by decide) jp_fX6 tyX6 tyX6_ok nmX6 rfl mw_101 rfl (by decide +kernel) dX6_init_6 (fun H locs hP hS => ?_)
  refine lv_aload_n hx hb dX6_init_9 rfl (lv_at hl 0 rfl) ?_
  refine lv_iload_n hx hb dX6_init_10 rfl (lv_at hl 1 rfl) ?_
  refine jp_size (last := 9) hP hth (by omega) (fun hz => ?_)
  obtain ⟨g_1, hf⟩ := jp_if hf
  refine jp_newi (M := 4) B hP hS hz (id := 10) hn_10 (by omega) mw_53 (jp_len_1 g_1) (jp_len_2 g_1) (jp_len_3 g_1) (by decide) (Nat.le_of_ble_eq_true rfl) (Nat.le_of_ble_eq_true rfl) dX6_init_11 (fun H hP hS hz => ?_)
  refine jp_putr (k := 0) (r := 10) (fs' := [(1, 10), (2, 0)]) B hnm hP hS hth (by decide) rfl (by decide) jp_fX6 tyX6 tyX6_ok nmX6 rfl rfl mw_102 rfl (ty := tyX6 0) (by decide +kernel) rfl rfl rfl dX6_init_13 (fun H locs hP hS hz2 => ?_)
  exact jp_endK B hP hS (Nat.le_of_ble_eq_true rfl) (Nat.le_of_ble_eq_true rfl) dX6_init_16 (jp_injK hf)
-- X2_init
def fX2_init (nc : Nat) (p1 : Int32) (p2 : Int32) (σ : jp_I) (τ : jp_J) : Option (jp_I × jp_J) :=
  if jp_len (p1 * (p2 + 1)) nc 2592 = true then some (jp_z (jp_up (jp_up σ 11 3 (-1)) 11 0 p1) 12, τ) else none
set_option maxHeartbeats 8000000 in
set_option maxRecDepth 20000 in
theorem ctX2_init {l : Launch} {Γ : jp_G} {Z : Nat → Option jp_Sh} {nc : Nat} {p1 : Int32} {p2 : Int32} {σ σ0 : jp_I} {τ τ0 : jp_J} {sz : Nat} (hth : Z 11 = some (0, 3, [(0, 0), (3, 0), (0, 0), (0, 0)])) (hn_12 : Z 12 = none) (ha_t : Γ.2.2.1 11 + 1 = sz) (ha_12 : Γ.2.2.1 12 = sz + 0) (hf : fX2_init nc p1 p2 σ τ = some (σ0, τ0)) : jp_K l yX2_init cX2_init 3 1 12 1 2592 Γ Z σ τ sz [.ref (Γ.2.2.1 11), .int p1, .int p2] (jp_zu (jp_zu (jp_zu Z 11 (0, 3, [(0, 0), (3, 0), (0, 0), (0, 0)])) 12 (1, nc, [])) 11 (0, 3, [(0, 0), (1, 12), (0, 0), (0, 0)])) σ0 τ0 := by
  refine jp_mkK (lv := [(0, .ref (Γ.2.2.1 11)), (1, .int p1), (2, .int p2)]) (by decide) rfl (Nat.le_of_ble_eq_true rfl) rfl fun p e s m args below meth c B hnm hsz hP ls hl => ?_
  obtain ⟨hx, hb, hml, hown, hts, hr, hlk, hE⟩ := id B
  unfold fX2_init at hf
  obtain ⟨H, hH⟩ : ∃ H, H = s.heap := ⟨_, rfl⟩
  obtain ⟨locs, hlocs⟩ : ∃ l0 : List Loc, l0 = [] := ⟨_, rfl⟩
  have hS : va_S (jp_A Γ) s.heap H locs := by rw [hH, hlocs]; exact va_S.rf
  rw [← hH] at hP
  show W p l e _ s m args below meth c s.heap [] 0 0 _ _
  rw [← hlocs]
  conv => arg 11; rw [← hH]
  refine lv_aload_n hx hb dX2_init_0 rfl (lv_at hl 0 rfl) ?_
  refine jp_obj B hl mw_126 mw_15 mw_16 (Nat.le_of_ble_eq_true rfl) (Nat.le_of_ble_eq_true rfl) dX2_init_1 ?_
  refine lv_aload_n hx hb dX2_init_4 rfl (lv_at hl 0 rfl) ?_
  refine lv_iconst (v := -1) hx hb dX2_init_5 (by decide) ?_
  refine jp_puti (k := 3) (ty := .int) B hP hS hth rfl rfl (by decide) jp_fX2 tyX2 tyX2_ok nmX2 rfl mw_127 rfl (by decide +kernel) rfl rfl dX2_init_6 (fun H locs hP hS => ?_)
  refine lv_aload_n hx hb dX2_init_9 rfl (lv_at hl 0 rfl) ?_
  refine lv_iload_n hx hb dX2_init_10 rfl (lv_at hl 1 rfl) ?_
  refine jp_putiF (k := 0) B hnm hP hS hth rfl rfl (by decide) jp_fX2 tyX2 tyX2_ok nmX2 rfl rfl mw_128 rfl (by decide +kernel) dX2_init_11 (fun H locs hP hS hz2 => ?_)
  refine lv_aload_n hx hb dX2_init_14 rfl (lv_at hl 0 rfl) ?_
  refine lv_iload_n hx hb dX2_init_15 rfl (lv_at hl 1 rfl) ?_
  refine lv_iload_n hx hb dX2_init_16 rfl (lv_at hl 2 rfl) ?_
  refine lv_iconst (v := 1) hx hb dX2_init_17 (by decide) ?_
  refine lv_iadd hx hb dX2_init_18 ?_
  refine lv_imul hx hb dX2_init_19 ?_
  refine jp_size (last := 11) hP rfl (by omega) (fun hz => ?_)
  obtain ⟨g_1, hf⟩ := jp_if hf
  refine jp_newi (M := 2592) B hP hS hz (id := 12) hn_12 (by omega) mw_53 (jp_len_1 g_1) (jp_len_2 g_1) (jp_len_3 g_1) (by decide) (Nat.le_of_ble_eq_true rfl) (Nat.le_of_ble_eq_true rfl) dX2_init_20 (fun H hP hS hz => ?_)
  refine jp_putr (k := 1) (r := 12) (fs' := [(0, 0), (1, 12), (0, 0), (0, 0)]) B hnm hP hS rfl (by decide) rfl (by decide) jp_fX2 tyX2 tyX2_ok nmX2 rfl rfl mw_129 rfl (ty := tyX2 1) (by decide +kernel) rfl rfl rfl dX2_init_22 (fun H locs hP hS hz2 => ?_)
  exact jp_endK B hP hS (Nat.le_of_ble_eq_true rfl) (Nat.le_of_ble_eq_true rfl) dX2_init_25 (jp_injK hf)
-- X2_initT
def fX2_initT (nc : Nat) (p1 : Int32) (p2 : Int32) (σ : jp_I) (τ : jp_J) : Option (jp_I × jp_J) :=
  if jp_len (p1 * (p2 + 1)) nc 2592 = true then some (jp_z (jp_up (jp_up σ 14 3 (-1)) 14 0 p1) 15, τ) else none
set_option maxHeartbeats 8000000 in
set_option maxRecDepth 20000 in
theorem ctX2_initT {l : Launch} {Γ : jp_G} {Z : Nat → Option jp_Sh} {nc : Nat} {p1 : Int32} {p2 : Int32} {σ σ0 : jp_I} {τ τ0 : jp_J} {sz : Nat} (hth : Z 14 = some (0, 3, [(0, 0), (3, 0), (0, 0), (0, 0)])) (hn_15 : Z 15 = none) (ha_t : Γ.2.2.1 14 + 1 = sz) (ha_15 : Γ.2.2.1 15 = sz + 0) (hf : fX2_initT nc p1 p2 σ τ = some (σ0, τ0)) : jp_K l yX2_init cX2_init 3 1 12 1 2592 Γ Z σ τ sz [.ref (Γ.2.2.1 14), .int p1, .int p2] (jp_zu (jp_zu (jp_zu Z 14 (0, 3, [(0, 0), (3, 0), (0, 0), (0, 0)])) 15 (1, nc, [])) 14 (0, 3, [(0, 0), (1, 15), (0, 0), (0, 0)])) σ0 τ0 := by
  refine jp_mkK (lv := [(0, .ref (Γ.2.2.1 14)), (1, .int p1), (2, .int p2)]) (by decide) rfl (Nat.le_of_ble_eq_true rfl) rfl fun p e s m args below meth c B hnm hsz hP ls hl => ?_
  obtain ⟨hx, hb, hml, hown, hts, hr, hlk, hE⟩ := id B
  unfold fX2_initT at hf
  obtain ⟨H, hH⟩ : ∃ H, H = s.heap := ⟨_, rfl⟩
  obtain ⟨locs, hlocs⟩ : ∃ l0 : List Loc, l0 = [] := ⟨_, rfl⟩
  have hS : va_S (jp_A Γ) s.heap H locs := by rw [hH, hlocs]; exact va_S.rf
  rw [← hH] at hP
  show W p l e _ s m args below meth c s.heap [] 0 0 _ _
  rw [← hlocs]
  conv => arg 11; rw [← hH]
  refine lv_aload_n hx hb dX2_init_0 rfl (lv_at hl 0 rfl) ?_
  refine jp_obj B hl mw_126 mw_15 mw_16 (Nat.le_of_ble_eq_true rfl) (Nat.le_of_ble_eq_true rfl) dX2_init_1 ?_
  refine lv_aload_n hx hb dX2_init_4 rfl (lv_at hl 0 rfl) ?_
  refine lv_iconst (v := -1) hx hb dX2_init_5 (by decide) ?_
  refine jp_puti (k := 3) (ty := .int) B hP hS hth rfl rfl (by decide) jp_fX2 tyX2 tyX2_ok nmX2 rfl mw_127 rfl (by decide +kernel) rfl rfl dX2_init_6 (fun H locs hP hS => ?_)
  refine lv_aload_n hx hb dX2_init_9 rfl (lv_at hl 0 rfl) ?_
  refine lv_iload_n hx hb dX2_init_10 rfl (lv_at hl 1 rfl) ?_
  refine jp_putiF (k := 0) B hnm hP hS hth rfl rfl (by decide) jp_fX2 tyX2 tyX2_ok nmX2 rfl rfl mw_128 rfl (by decide +kernel) dX2_init_11 (fun H locs hP hS hz2 => ?_)
  refine lv_aload_n hx hb dX2_init_14 rfl (lv_at hl 0 rfl) ?_
  refine lv_iload_n hx hb dX2_init_15 rfl (lv_at hl 1 rfl) ?_
  refine lv_iload_n hx hb dX2_init_16 rfl (lv_at hl 2 rfl) ?_
  refine lv_iconst (v := 1) hx hb dX2_init_17 (by decide) ?_
  refine lv_iadd hx hb dX2_init_18 ?_
  refine lv_imul hx hb dX2_init_19 ?_
  refine jp_size (last := 14) hP rfl (by omega) (fun hz => ?_)
  obtain ⟨g_1, hf⟩ := jp_if hf
  refine jp_newi (M := 2592) B hP hS hz (id := 15) hn_15 (by omega) mw_53 (jp_len_1 g_1) (jp_len_2 g_1) (jp_len_3 g_1) (by decide) (Nat.le_of_ble_eq_true rfl) (Nat.le_of_ble_eq_true rfl) dX2_init_20 (fun H hP hS hz => ?_)
  refine jp_putr (k := 1) (r := 15) (fs' := [(0, 0), (1, 15), (0, 0), (0, 0)]) B hnm hP hS rfl (by decide) rfl (by decide) jp_fX2 tyX2 tyX2_ok nmX2 rfl rfl mw_129 rfl (ty := tyX2 1) (by decide +kernel) rfl rfl rfl dX2_init_22 (fun H locs hP hS hz2 => ?_)
  exact jp_endK B hP hS (Nat.le_of_ble_eq_true rfl) (Nat.le_of_ble_eq_true rfl) dX2_init_25 (jp_injK hf)
-- X1_init
def fX1_init (n : Nat) (nl : Nat) (σ : jp_I) (τ : jp_J) : Option (jp_I × jp_J) :=
  (fX7_jointStates ((jp_up σ 13 1 (σ 1 0)) 13 1) (jp_up σ 13 1 (σ 1 0)) τ).bind fun (a_1, σ_1, τ_1) => if jp_len a_1 nl 1296 = true then (fX7_jointStates ((jp_z σ_1 14) 13 1) (jp_z σ_1 14) τ_1).bind fun (a_3, σ_3, τ_3) => if jp_len a_3 nl 1296 = true then some (jp_z σ_3 15, τ_3) else none else none
set_option maxHeartbeats 8000000 in
set_option maxRecDepth 20000 in
theorem ctX1_init {l : Launch} {Γ : jp_G} {Z : Nat → Option jp_Sh} {n : Nat} {nl : Nat} (hX0 : jp_hS Z n) {σ σ0 : jp_I} {τ τ0 : jp_J} {sz : Nat} (hth : Z 13 = some (0, 2, [(3, 0), (0, 0), (3, 0), (3, 0), (0, 0), (0, 0), (0, 0)])) (hn_14 : Z 14 = none) (hn_15 : Z 15 = none) (ha_t : Γ.2.2.1 13 + 1 = sz) (ha_14 : Γ.2.2.1 14 = sz + 0) (ha_15 : Γ.2.2.1 15 = sz + 1) (hf : fX1_init n nl σ τ = some (σ0, τ0)) : jp_K l yX1_init cX1_init 2 1 20 2 2592 Γ Z σ τ sz [.ref (Γ.2.2.1 13), .ref (Γ.2.2.1 1)] (jp_zu (jp_zu (jp_zu (jp_zu (jp_zu (jp_zu Z 13 (0, 2, [(1, 1), (0, 0), (3, 0), (3, 0), (0, 0), (0, 0), (0, 0)])) 13 (0, 2, [(1, 1), (0, 0), (3, 0), (3, 0), (0, 0), (0, 0), (0, 0)])) 14 (1, nl, [])) 13 (0, 2, [(1, 1), (0, 0), (1, 14), (3, 0), (0, 0), (0, 0), (0, 0)])) 15 (1, nl, [])) 13 (0, 2, [(1, 1), (0, 0), (1, 14), (1, 15), (0, 0), (0, 0), (0, 0)])) σ0 τ0 := by
  refine jp_mkK (lv := [(0, .ref (Γ.2.2.1 13)), (1, .ref (Γ.2.2.1 1))]) (by decide) rfl (Nat.le_of_ble_eq_true rfl) rfl fun p e s m args below meth c B hnm hsz hP ls hl => ?_
  obtain ⟨hx, hb, hml, hown, hts, hr, hlk, hE⟩ := id B
  unfold fX1_init at hf
  obtain ⟨H, hH⟩ : ∃ H, H = s.heap := ⟨_, rfl⟩
  obtain ⟨locs, hlocs⟩ : ∃ l0 : List Loc, l0 = [] := ⟨_, rfl⟩
  have hS : va_S (jp_A Γ) s.heap H locs := by rw [hH, hlocs]; exact va_S.rf
  rw [← hH] at hP
  show W p l e _ s m args below meth c s.heap [] 0 0 _ _
  rw [← hlocs]
  conv => arg 11; rw [← hH]
  refine lv_aload_n hx hb dX1_init_0 rfl (lv_at hl 0 rfl) ?_
  refine jp_obj B hl mw_105 mw_15 mw_16 (Nat.le_of_ble_eq_true rfl) (Nat.le_of_ble_eq_true rfl) dX1_init_1 ?_
  refine lv_aload_n hx hb dX1_init_4 rfl (lv_at hl 0 rfl) ?_
  refine lv_aload_n hx hb dX1_init_5 rfl (lv_at hl 1 rfl) ?_
  refine jp_putr (k := 0) (r := 1) (fs' := [(1, 1), (0, 0), (3, 0), (3, 0), (0, 0), (0, 0), (0, 0)]) B hnm hP hS hth (by decide) rfl (by decide) jp_fX1 tyX1 tyX1_ok nmX1 rfl rfl mw_106 rfl (ty := tyX1 0) (by decide +kernel) rfl rfl rfl dX1_init_6 (fun H locs hP hS hz2 => ?_)
  refine lv_aload_n hx hb dX1_init_9 rfl (lv_at hl 0 rfl) ?_
  refine lv_aload_n hx hb dX1_init_10 rfl (lv_at hl 1 rfl) ?_
  refine jp_getiN (k := 0) B hP hX0.1 rfl rfl (by decide) jp_fX5 rfl nw_178 dX1_init_11 ?_
  refine jp_putiF (k := 1) B hnm hP hS rfl rfl rfl (by decide) jp_fX1 tyX1 tyX1_ok nmX1 rfl rfl mw_107 rfl (by decide +kernel) dX1_init_14 (fun H locs hP hS hz2 => ?_)
  refine lv_aload_n hx hb dX1_init_17 rfl (lv_at hl 0 rfl) ?_
  refine lv_aload_n hx hb dX1_init_18 rfl (lv_at hl 0 rfl) ?_
  refine jp_geti (k := 1) B hP rfl rfl rfl (by decide) jp_fX1 rfl mw_107 dX1_init_19 ?_
  obtain ⟨⟨a_1, σ_1, τ_1⟩, h_1, hf⟩ := jp_bind hf
  dsimp only at hf
  refine jp_callSN (rest := [.ref (Γ.2.2.1 13)]) B hP hS hl (ctX7_jointStates h_1) mw_111 nw_229 mw_110 mw_2 ddX7_jointStates ⟨Nat.le_of_ble_eq_true rfl, Nat.le_of_ble_eq_true rfl⟩ ⟨Nat.le_of_ble_eq_true rfl, Nat.le_of_ble_eq_true rfl⟩ rfl (Nat.le_of_ble_eq_true rfl) dX1_init_22 (fun H locs hP hS => ?_)
  refine jp_size (last := 13) hP rfl (by omega) (fun hz => ?_)
  obtain ⟨g_2, hf⟩ := jp_if hf
  refine jp_newi (M := 1296) B hP hS hz (id := 14) hn_14 (by omega) mw_53 (jp_len_1 g_2) (jp_len_2 g_2) (jp_len_3 g_2) (by decide) (Nat.le_of_ble_eq_true rfl) (Nat.le_of_ble_eq_true rfl) dX1_init_25 (fun H hP hS hz => ?_)
  refine jp_putr (k := 2) (r := 14) (fs' := [(1, 1), (0, 0), (1, 14), (3, 0), (0, 0), (0, 0), (0, 0)]) B hnm hP hS rfl (by decide) rfl (by decide) jp_fX1 tyX1 tyX1_ok nmX1 rfl rfl mw_108 rfl (ty := tyX1 2) (by decide +kernel) rfl rfl rfl dX1_init_27 (fun H locs hP hS hz2 => ?_)
  refine lv_aload_n hx hb dX1_init_30 rfl (lv_at hl 0 rfl) ?_
  refine lv_aload_n hx hb dX1_init_31 rfl (lv_at hl 0 rfl) ?_
  refine jp_geti (k := 1) B hP rfl rfl rfl (by decide) jp_fX1 rfl mw_107 dX1_init_32 ?_
  obtain ⟨⟨a_3, σ_3, τ_3⟩, h_3, hf⟩ := jp_bind hf
  dsimp only at hf
  refine jp_callSN (rest := [.ref (Γ.2.2.1 13)]) B hP hS hl (ctX7_jointStates h_3) mw_111 nw_229 mw_110 mw_2 ddX7_jointStates ⟨Nat.le_of_ble_eq_true rfl, Nat.le_of_ble_eq_true rfl⟩ ⟨Nat.le_of_ble_eq_true rfl, Nat.le_of_ble_eq_true rfl⟩ rfl (Nat.le_of_ble_eq_true rfl) dX1_init_35 (fun H locs hP hS => ?_)
  refine jp_size (last := 14) hP rfl (by omega) (fun hz => ?_)
  obtain ⟨g_4, hf⟩ := jp_if hf
  refine jp_newi (M := 1296) B hP hS hz (id := 15) hn_15 (by omega) mw_53 (jp_len_1 g_4) (jp_len_2 g_4) (jp_len_3 g_4) (by decide) (Nat.le_of_ble_eq_true rfl) (Nat.le_of_ble_eq_true rfl) dX1_init_38 (fun H hP hS hz => ?_)
  refine jp_putr (k := 3) (r := 15) (fs' := [(1, 1), (0, 0), (1, 14), (1, 15), (0, 0), (0, 0), (0, 0)]) B hnm hP hS rfl (by decide) rfl (by decide) jp_fX1 tyX1 tyX1_ok nmX1 rfl rfl mw_109 rfl (ty := tyX1 3) (by decide +kernel) rfl rfl rfl dX1_init_40 (fun H locs hP hS hz2 => ?_)
  exact jp_endK B hP hS (Nat.le_of_ble_eq_true rfl) (Nat.le_of_ble_eq_true rfl) dX1_init_43 (jp_injK hf)
-- X4_init
def fX4_init (n : Nat) (nc : Nat) (σ : jp_I) (τ : jp_J) : Option (jp_I × jp_J) :=
  (fX7_mostSteps ((jp_z (jp_z (jp_z σ 16) 17) 14) 1 0) (jp_z (jp_z (jp_z σ 16) 17) 14) (jp_zl τ 14)).bind fun (a_1, σ_1, τ_1) => (fX2_initT nc ((jp_z (jp_z (jp_z σ 16) 17) 14) 1 0) a_1 σ_1 τ_1).bind fun (σ_2, τ_2) => some (σ_2, τ_2)
set_option maxHeartbeats 8000000 in
set_option maxRecDepth 20000 in
theorem ctX4_init {l : Launch} {Γ : jp_G} {Z : Nat → Option jp_Sh} {n : Nat} {nc : Nat} (hX0 : jp_hS Z n) (hX1 : jp_hU Z n) {σ σ0 : jp_I} {τ τ0 : jp_J} {sz : Nat} (hth : Z 13 = some (0, 4, [(3, 0), (3, 0), (3, 0), (3, 0), (3, 0)])) (hn_16 : Z 16 = none) (hn_17 : Z 17 = none) (hn_14 : Z 14 = none) (hn_15 : Z 15 = none) (ha_t : Γ.2.2.1 13 + 1 = sz) (ha_16 : Γ.2.2.1 16 = sz + 0) (ha_17 : Γ.2.2.1 17 = sz + 1) (ha_14 : Γ.2.2.1 14 = sz + 2) (ha_15 : Γ.2.2.1 15 = sz + 3) (hf : fX4_init n nc σ τ = some (σ0, τ0)) : jp_K l yX4_init cX4_init 3 2 40 4 5548 Γ Z σ τ sz [.ref (Γ.2.2.1 13), .ref (Γ.2.2.1 1), .ref (Γ.2.2.1 9)] (jp_zu (jp_zu (jp_zu (jp_zu (jp_zu (jp_zu (jp_zu (jp_zu (jp_zu (jp_zu (jp_zu Z 16 (1, 1476, [])) 13 (0, 4, [(3, 0), (3, 0), (3, 0), (1, 16), (3, 0)])) 17 (1, 1476, [])) 13 (0, 4, [(3, 0), (3, 0), (3, 0), (1, 16), (1, 17)])) 13 (0, 4, [(1, 1), (3, 0), (3, 0), (1, 16), (1, 17)])) 13 (0, 4, [(1, 1), (1, 9), (3, 0), (1, 16), (1, 17)])) 14 (0, 3, [(0, 0), (3, 0), (0, 0), (0, 0)])) 14 (0, 3, [(0, 0), (3, 0), (0, 0), (0, 0)])) 15 (1, nc, [])) 14 (0, 3, [(0, 0), (1, 15), (0, 0), (0, 0)])) 13 (0, 4, [(1, 1), (1, 9), (1, 14), (1, 16), (1, 17)])) σ0 τ0 := by
  refine jp_mkK (lv := [(0, .ref (Γ.2.2.1 13)), (1, .ref (Γ.2.2.1 1)), (2, .ref (Γ.2.2.1 9))]) (by decide) rfl (Nat.le_of_ble_eq_true rfl) rfl fun p e s m args below meth c B hnm hsz hP ls hl => ?_
  obtain ⟨hx, hb, hml, hown, hts, hr, hlk, hE⟩ := id B
  unfold fX4_init at hf
  obtain ⟨H, hH⟩ : ∃ H, H = s.heap := ⟨_, rfl⟩
  obtain ⟨locs, hlocs⟩ : ∃ l0 : List Loc, l0 = [] := ⟨_, rfl⟩
  have hS : va_S (jp_A Γ) s.heap H locs := by rw [hH, hlocs]; exact va_S.rf
  rw [← hH] at hP
  show W p l e _ s m args below meth c s.heap [] 0 0 _ _
  rw [← hlocs]
  conv => arg 11; rw [← hH]
  refine lv_aload_n hx hb dX4_init_0 rfl (lv_at hl 0 rfl) ?_
  refine jp_obj B hl mw_114 mw_15 mw_16 (Nat.le_of_ble_eq_true rfl) (Nat.le_of_ble_eq_true rfl) dX4_init_1 ?_
  refine lv_aload_n hx hb dX4_init_4 rfl (lv_at hl 0 rfl) ?_
  refine lv_sipush (v := 1476) hx hb dX4_init_5 (by decide) ?_
  refine jp_size (last := 13) hP hth (by omega) (fun hz => ?_)
  refine jp_newi (M := 1476) B hP hS hz (id := 16) hn_16 (by omega) mw_53 (by decide) (by decide) (Nat.le_refl _) (by decide) (Nat.le_of_ble_eq_true rfl) (Nat.le_of_ble_eq_true rfl) dX4_init_8 (fun H hP hS hz => ?_)
  refine jp_putr (k := 3) (r := 16) (fs' := [(3, 0), (3, 0), (3, 0), (1, 16), (3, 0)]) B hnm hP hS hth (by decide) rfl (by decide) jp_fX4 tyX4 tyX4_ok nmX4 rfl rfl mw_115 rfl (ty := tyX4 3) (by decide +kernel) rfl rfl rfl dX4_init_10 (fun H locs hP hS hz2 => ?_)
  refine lv_aload_n hx hb dX4_init_13 rfl (lv_at hl 0 rfl) ?_
  refine lv_sipush (v := 1476) hx hb dX4_init_14 (by decide) ?_
  refine jp_size (last := 16) hP rfl (by omega) (fun hz => ?_)
  refine jp_newi (M := 1476) B hP hS hz (id := 17) hn_17 (by omega) mw_53 (by decide) (by decide) (Nat.le_refl _) (by decide) (Nat.le_of_ble_eq_true rfl) (Nat.le_of_ble_eq_true rfl) dX4_init_17 (fun H hP hS hz => ?_)
  refine jp_putr (k := 4) (r := 17) (fs' := [(3, 0), (3, 0), (3, 0), (1, 16), (1, 17)]) B hnm hP hS rfl (by decide) rfl (by decide) jp_fX4 tyX4 tyX4_ok nmX4 rfl rfl mw_116 rfl (ty := tyX4 4) (by decide +kernel) rfl rfl rfl dX4_init_19 (fun H locs hP hS hz2 => ?_)
  refine lv_aload_n hx hb dX4_init_22 rfl (lv_at hl 0 rfl) ?_
  refine lv_aload_n hx hb dX4_init_23 rfl (lv_at hl 1 rfl) ?_
  refine jp_putr (k := 0) (r := 1) (fs' := [(1, 1), (3, 0), (3, 0), (1, 16), (1, 17)]) B hnm hP hS rfl (by decide) rfl (by decide) jp_fX4 tyX4 tyX4_ok nmX4 rfl rfl mw_117 rfl (ty := tyX4 0) (by decide +kernel) rfl rfl rfl dX4_init_24 (fun H locs hP hS hz2 => ?_)
  refine lv_aload_n hx hb dX4_init_27 rfl (lv_at hl 0 rfl) ?_
  refine lv_aload_n hx hb dX4_init_28 rfl (lv_at hl 2 rfl) ?_
  refine jp_putr (k := 1) (r := 9) (fs' := [(1, 1), (1, 9), (3, 0), (1, 16), (1, 17)]) B hnm hP hS rfl (by decide) rfl (by decide) jp_fX4 tyX4 tyX4_ok nmX4 rfl rfl mw_118 rfl (ty := tyX4 1) (by decide +kernel) rfl rfl rfl dX4_init_29 (fun H locs hP hS hz2 => ?_)
  refine lv_aload_n hx hb dX4_init_32 rfl (lv_at hl 0 rfl) ?_
  refine jp_size (last := 17) hP rfl (by omega) (fun hz => ?_)
  refine jp_new (fs := [(0, 0), (3, 0), (0, 0), (0, 0)]) B hP hS hz (id := 14) (ci := 3) hn_14 (by omega) rfl jp_fX2 tyX2 tyX2_ok mw_119 mw_41 mw_42 (fun j hj => by rcases (show j = 0 ∨ j = 1 ∨ j = 2 ∨ j = 3 by omega) with rfl | rfl | rfl | rfl <;> simp [jp_fl, jp_fv, jp_z, jp_zl, vp_V, tyX2, defaultValue]) (Nat.le_of_ble_eq_true rfl) (Nat.le_of_ble_eq_true rfl) dX4_init_33 (fun H hP hS hz => ?_)
  refine lv_dup hx hb dX4_init_36 rfl ?_
  refine lv_aload_n hx hb dX4_init_37 rfl (lv_at hl 1 rfl) ?_
  refine jp_getiN (k := 0) B hP hX0.1 rfl rfl (by decide) jp_fX5 rfl nw_180 dX4_init_38 ?_
  refine lv_aload_n hx hb dX4_init_41 rfl (lv_at hl 1 rfl) ?_
  refine jp_getiN (k := 0) B hP hX0.1 rfl rfl (by decide) jp_fX5 rfl nw_180 dX4_init_42 ?_
  obtain ⟨⟨a_1, σ_1, τ_1⟩, h_1, hf⟩ := jp_bind hf
  dsimp only at hf
  refine jp_callSN (rest := [.int ((jp_z (jp_z (jp_z σ 16) 17) 14) 1 0), .ref (Γ.2.2.1 14), .ref (Γ.2.2.1 14), .ref (Γ.2.2.1 13)]) B hP hS hl (ctX7_mostSteps h_1) mw_122 nw_262 mw_121 mw_2 ddX7_mostSteps ⟨Nat.le_of_ble_eq_true rfl, Nat.le_of_ble_eq_true rfl⟩ ⟨Nat.le_of_ble_eq_true rfl, Nat.le_of_ble_eq_true rfl⟩ rfl (Nat.le_of_ble_eq_true rfl) dX4_init_45 (fun H locs hP hS => ?_)
  refine jp_size (last := 14) hP rfl (by omega) (fun hz => ?_)
  obtain ⟨⟨σ_2, τ_2⟩, h_2, hf⟩ := jp_bind hf
  dsimp only at hf
  refine jp_callIN (rest := [.ref (Γ.2.2.1 14), .ref (Γ.2.2.1 13)]) B hP hS hz hl (ctX2_initT rfl hn_15 (by omega) (by omega) h_2) rfl mw_125 nw_266 mw_124 mw_42 ddX2_init ⟨Nat.le_of_ble_eq_true rfl, Nat.le_of_ble_eq_true rfl⟩ ⟨Nat.le_of_ble_eq_true rfl, Nat.le_of_ble_eq_true rfl⟩ rfl (Nat.le_of_ble_eq_true rfl) dX4_init_48 (fun H locs hP hS => ?_)
  refine jp_putr (k := 2) (r := 14) (fs' := [(1, 1), (1, 9), (1, 14), (1, 16), (1, 17)]) B hnm hP hS rfl (by decide) rfl (by decide) jp_fX4 tyX4 tyX4_ok nmX4 rfl rfl mw_120 rfl (ty := tyX4 2) (by decide +kernel) rfl rfl rfl dX4_init_51 (fun H locs hP hS hz2 => ?_)
  exact jp_endK B hP hS (Nat.le_of_ble_eq_true rfl) (Nat.le_of_ble_eq_true rfl) dX4_init_54 (jp_injK hf)
