-- X7_initJ
def zX7_initJ (n : Nat) (nl : Nat) (nc : Nat) (Z : Nat → Option jp_Sh) : Nat → Option jp_Sh := jp_zu (zX2_init nc (jp_zu (jp_zu (zX1_init n nl (jp_zu (jp_zu (zX6_init n (jp_zu (jp_zu (zX5_init n (jp_zu (jp_zu Z 0 (0, 7, [(0, 0), (3, 0), (3, 0), (3, 0), (3, 0)])) 1 (0, 5, [(0, 0), (3, 0), (3, 0), (3, 0), (0, 0)]))) 0 (0, 7, [(0, 0), (1, 1), (3, 0), (3, 0), (3, 0)])) 9 (0, 6, [(3, 0), (2, 0)]))) 0 (0, 7, [(0, 0), (1, 1), (1, 9), (3, 0), (3, 0)])) 13 (0, 2, [(3, 0), (0, 0), (3, 0), (3, 0), (0, 0), (0, 0), (0, 0)]))) 0 (0, 7, [(0, 0), (1, 1), (1, 9), (1, 13), (3, 0)])) 11 (0, 3, [(0, 0), (3, 0), (0, 0), (0, 0)]))) 0 (0, 7, [(0, 0), (1, 1), (1, 9), (1, 13), (1, 11)])
theorem zX7_initJ_0 (n : Nat) (nl : Nat) (nc : Nat) (Z : Nat → Option jp_Sh) : zX7_initJ n nl nc Z 0 = some (0, 7, [(0, 0), (1, 1), (1, 9), (1, 13), (1, 11)]) := by
  unfold zX7_initJ
  exact jp_zu_s _ _ _
theorem zX7_initJ_1 (n : Nat) (nl : Nat) (nc : Nat) (Z : Nat → Option jp_Sh) : zX7_initJ n nl nc Z 1 = some (0, 5, [(0, 0), (1, 2), (1, 3), (1, 4), (0, 0)]) := by
  unfold zX7_initJ
  rw [jp_zu_n _ _ (by decide), zX2_init_n nc _ (by decide), jp_zu_n _ _ (by decide), jp_zu_n _ _ (by decide), zX1_init_n n nl _ (by decide), jp_zu_n _ _ (by decide), jp_zu_n _ _ (by decide), zX6_init_n n _ (by decide), jp_zu_n _ _ (by decide), jp_zu_n _ _ (by decide)]; exact zX5_init_1 n _
theorem zX7_initJ_2 (n : Nat) (nl : Nat) (nc : Nat) (Z : Nat → Option jp_Sh) : zX7_initJ n nl nc Z 2 = some (0, 1, [(1, 5), (1, 6), (1, 7), (1, 8), (0, 0), (0, 0), (0, 0)]) := by
  unfold zX7_initJ
  rw [jp_zu_n _ _ (by decide), zX2_init_n nc _ (by decide), jp_zu_n _ _ (by decide), jp_zu_n _ _ (by decide), zX1_init_n n nl _ (by decide), jp_zu_n _ _ (by decide), jp_zu_n _ _ (by decide), zX6_init_n n _ (by decide), jp_zu_n _ _ (by decide), jp_zu_n _ _ (by decide)]; exact zX5_init_2 n _
theorem zX7_initJ_5 (n : Nat) (nl : Nat) (nc : Nat) (Z : Nat → Option jp_Sh) : zX7_initJ n nl nc Z 5 = some (1, 36, []) := by
  unfold zX7_initJ
  rw [jp_zu_n _ _ (by decide), zX2_init_n nc _ (by decide), jp_zu_n _ _ (by decide), jp_zu_n _ _ (by decide), zX1_init_n n nl _ (by decide), jp_zu_n _ _ (by decide), jp_zu_n _ _ (by decide), zX6_init_n n _ (by decide), jp_zu_n _ _ (by decide), jp_zu_n _ _ (by decide)]; exact zX5_init_5 n _
theorem zX7_initJ_6 (n : Nat) (nl : Nat) (nc : Nat) (Z : Nat → Option jp_Sh) : zX7_initJ n nl nc Z 6 = some (1, 180, []) := by
  unfold zX7_initJ
  rw [jp_zu_n _ _ (by decide), zX2_init_n nc _ (by decide), jp_zu_n _ _ (by decide), jp_zu_n _ _ (by decide), zX1_init_n n nl _ (by decide), jp_zu_n _ _ (by decide), jp_zu_n _ _ (by decide), zX6_init_n n _ (by decide), jp_zu_n _ _ (by decide), jp_zu_n _ _ (by decide)]; exact zX5_init_6 n _
theorem zX7_initJ_7 (n : Nat) (nl : Nat) (nc : Nat) (Z : Nat → Option jp_Sh) : zX7_initJ n nl nc Z 7 = some (1, 36, []) := by
  unfold zX7_initJ
  rw [jp_zu_n _ _ (by decide), zX2_init_n nc _ (by decide), jp_zu_n _ _ (by decide), jp_zu_n _ _ (by decide), zX1_init_n n nl _ (by decide), jp_zu_n _ _ (by decide), jp_zu_n _ _ (by decide), zX6_init_n n _ (by decide), jp_zu_n _ _ (by decide), jp_zu_n _ _ (by decide)]; exact zX5_init_7 n _
theorem zX7_initJ_8 (n : Nat) (nl : Nat) (nc : Nat) (Z : Nat → Option jp_Sh) : zX7_initJ n nl nc Z 8 = some (1, 36, []) := by
  unfold zX7_initJ
  rw [jp_zu_n _ _ (by decide), zX2_init_n nc _ (by decide), jp_zu_n _ _ (by decide), jp_zu_n _ _ (by decide), zX1_init_n n nl _ (by decide), jp_zu_n _ _ (by decide), jp_zu_n _ _ (by decide), zX6_init_n n _ (by decide), jp_zu_n _ _ (by decide), jp_zu_n _ _ (by decide)]; exact zX5_init_8 n _
theorem zX7_initJ_3 (n : Nat) (nl : Nat) (nc : Nat) (Z : Nat → Option jp_Sh) : zX7_initJ n nl nc Z 3 = some (1, n, []) := by
  unfold zX7_initJ
  rw [jp_zu_n _ _ (by decide), zX2_init_n nc _ (by decide), jp_zu_n _ _ (by decide), jp_zu_n _ _ (by decide), zX1_init_n n nl _ (by decide), jp_zu_n _ _ (by decide), jp_zu_n _ _ (by decide), zX6_init_n n _ (by decide), jp_zu_n _ _ (by decide), jp_zu_n _ _ (by decide)]; exact zX5_init_3 n _
theorem zX7_initJ_4 (n : Nat) (nl : Nat) (nc : Nat) (Z : Nat → Option jp_Sh) : zX7_initJ n nl nc Z 4 = some (1, n, []) := by
  unfold zX7_initJ
  rw [jp_zu_n _ _ (by decide), zX2_init_n nc _ (by decide), jp_zu_n _ _ (by decide), jp_zu_n _ _ (by decide), zX1_init_n n nl _ (by decide), jp_zu_n _ _ (by decide), jp_zu_n _ _ (by decide), zX6_init_n n _ (by decide), jp_zu_n _ _ (by decide), jp_zu_n _ _ (by decide)]; exact zX5_init_4 n _
theorem zX7_initJ_9 (n : Nat) (nl : Nat) (nc : Nat) (Z : Nat → Option jp_Sh) : zX7_initJ n nl nc Z 9 = some (0, 6, [(1, 10), (2, 0)]) := by
  unfold zX7_initJ
  rw [jp_zu_n _ _ (by decide), zX2_init_n nc _ (by decide), jp_zu_n _ _ (by decide), jp_zu_n _ _ (by decide), zX1_init_n n nl _ (by decide), jp_zu_n _ _ (by decide), jp_zu_n _ _ (by decide)]; exact zX6_init_9 n _
theorem zX7_initJ_10 (n : Nat) (nl : Nat) (nc : Nat) (Z : Nat → Option jp_Sh) : zX7_initJ n nl nc Z 10 = some (1, n, []) := by
  unfold zX7_initJ
  rw [jp_zu_n _ _ (by decide), zX2_init_n nc _ (by decide), jp_zu_n _ _ (by decide), jp_zu_n _ _ (by decide), zX1_init_n n nl _ (by decide), jp_zu_n _ _ (by decide), jp_zu_n _ _ (by decide)]; exact zX6_init_10 n _
theorem zX7_initJ_13 (n : Nat) (nl : Nat) (nc : Nat) (Z : Nat → Option jp_Sh) : zX7_initJ n nl nc Z 13 = some (0, 2, [(1, 1), (0, 0), (1, 14), (1, 15), (0, 0), (0, 0), (0, 0)]) := by
  unfold zX7_initJ
  rw [jp_zu_n _ _ (by decide), zX2_init_n nc _ (by decide), jp_zu_n _ _ (by decide), jp_zu_n _ _ (by decide)]; exact zX1_init_13 n nl _
theorem zX7_initJ_14 (n : Nat) (nl : Nat) (nc : Nat) (Z : Nat → Option jp_Sh) : zX7_initJ n nl nc Z 14 = some (1, nl, []) := by
  unfold zX7_initJ
  rw [jp_zu_n _ _ (by decide), zX2_init_n nc _ (by decide), jp_zu_n _ _ (by decide), jp_zu_n _ _ (by decide)]; exact zX1_init_14 n nl _
theorem zX7_initJ_15 (n : Nat) (nl : Nat) (nc : Nat) (Z : Nat → Option jp_Sh) : zX7_initJ n nl nc Z 15 = some (1, nl, []) := by
  unfold zX7_initJ
  rw [jp_zu_n _ _ (by decide), zX2_init_n nc _ (by decide), jp_zu_n _ _ (by decide), jp_zu_n _ _ (by decide)]; exact zX1_init_15 n nl _
theorem zX7_initJ_11 (n : Nat) (nl : Nat) (nc : Nat) (Z : Nat → Option jp_Sh) : zX7_initJ n nl nc Z 11 = some (0, 3, [(0, 0), (1, 12), (0, 0), (0, 0)]) := by
  unfold zX7_initJ
  rw [jp_zu_n _ _ (by decide)]; exact zX2_init_11 nc _
theorem zX7_initJ_12 (n : Nat) (nl : Nat) (nc : Nat) (Z : Nat → Option jp_Sh) : zX7_initJ n nl nc Z 12 = some (1, nc, []) := by
  unfold zX7_initJ
  rw [jp_zu_n _ _ (by decide)]; exact zX2_init_12 nc _
theorem zX7_initJ_n (n : Nat) (nl : Nat) (nc : Nat) (Z : Nat → Option jp_Sh) {i : Nat} (h : ¬ i ∈ [0, 1, 2, 5, 6, 7, 8, 3, 4, 9, 10, 13, 14, 15, 11, 12]) : zX7_initJ n nl nc Z i = Z i := by
  unfold zX7_initJ
  simp only [List.mem_cons, List.not_mem_nil, or_false, not_or] at h
  obtain ⟨e0, e1, e2, e5, e6, e7, e8, e3, e4, e9, e10, e13, e14, e15, e11, e12⟩ := h
  rw [jp_zu_n _ _ e0, zX2_init_n nc _ (by simp only [List.mem_cons, List.not_mem_nil, or_false, not_or]; exact ⟨e11, e12⟩), jp_zu_n _ _ e11, jp_zu_n _ _ e0, zX1_init_n n nl _ (by simp only [List.mem_cons, List.not_mem_nil, or_false, not_or]; exact ⟨e13, e14, e15⟩), jp_zu_n _ _ e13, jp_zu_n _ _ e0, zX6_init_n n _ (by simp only [List.mem_cons, List.not_mem_nil, or_false, not_or]; exact ⟨e9, e10⟩), jp_zu_n _ _ e9, jp_zu_n _ _ e0, zX5_init_n n _ (by simp only [List.mem_cons, List.not_mem_nil, or_false, not_or]; exact ⟨e1, e2, e5, e6, e7, e8, e3, e4⟩), jp_zu_n _ _ e1, jp_zu_n _ _ e0]
def fX7_initJ (n : Nat) (nl : Nat) (nc : Nat) (p1 : Int32) (σ : jp_I) (τ : jp_J) : Option (jp_I × jp_J) :=
  (fX5_init n ((jp_z (jp_up σ 0 0 (if 0 < (if p1 < 4 then p1 else 4 : Int32) then (if p1 < 4 then p1 else 4 : Int32) else 0 : Int32)) 1) 0 0) (jp_z (jp_up σ 0 0 (if 0 < (if p1 < 4 then p1 else 4 : Int32) then (if p1 < 4 then p1 else 4 : Int32) else 0 : Int32)) 1) (jp_zl τ 1)).bind fun (σ_5, τ_5) => (fX5_renew n 1 1 σ_5 τ_5).bind fun (a_23, σ_23, τ_23) => (fX6_init n ((jp_z σ_23 9) 0 0) (jp_z σ_23 9) (jp_zl τ_23 9)).bind fun (σ_35, τ_35) => if 2 < (σ_35 0 0) then (none) else ((fX1_init n nl (jp_z σ_35 13) (jp_zl τ_35 13)).bind fun (σ_46, τ_46) => (fX7_mostSteps ((jp_z σ_46 11) 0 0) (jp_z σ_46 11) (jp_zl τ_46 11)).bind fun (a_66, σ_66, τ_66) => (fX2_init nc ((jp_z σ_46 11) 0 0) a_66 σ_66 τ_66).bind fun (σ_67, τ_67) => some (σ_67, τ_67))
set_option maxHeartbeats 8000000 in
set_option maxRecDepth 20000 in
theorem ctX7_initJ {l : Launch} {Γ : jp_G} {Z : Nat → Option jp_Sh} {n : Nat} {nl : Nat} {nc : Nat} {p1 : Int32} {σ σ0 : jp_I} {τ τ0 : jp_J} {sz : Nat} (hth : Z 0 = some (0, 7, [(0, 0), (3, 0), (3, 0), (3, 0), (3, 0)])) (hn_1 : Z 1 = none) (hn_2 : Z 2 = none) (hn_5 : Z 5 = none) (hn_6 : Z 6 = none) (hn_7 : Z 7 = none) (hn_8 : Z 8 = none) (hn_3 : Z 3 = none) (hn_4 : Z 4 = none) (hn_9 : Z 9 = none) (hn_10 : Z 10 = none) (hn_13 : Z 13 = none) (hn_14 : Z 14 = none) (hn_15 : Z 15 = none) (hn_11 : Z 11 = none) (hn_12 : Z 12 = none) (ha_t : Γ.2.2.1 0 + 1 = sz) (ha_1 : Γ.2.2.1 1 = sz + 0) (ha_2 : Γ.2.2.1 2 = sz + 1) (ha_5 : Γ.2.2.1 5 = sz + 2) (ha_6 : Γ.2.2.1 6 = sz + 3) (ha_7 : Γ.2.2.1 7 = sz + 4) (ha_8 : Γ.2.2.1 8 = sz + 5) (ha_3 : Γ.2.2.1 3 = sz + 6) (ha_4 : Γ.2.2.1 4 = sz + 7) (ha_9 : Γ.2.2.1 9 = sz + 8) (ha_10 : Γ.2.2.1 10 = sz + 9) (ha_13 : Γ.2.2.1 13 = sz + 10) (ha_14 : Γ.2.2.1 14 = sz + 11) (ha_15 : Γ.2.2.1 15 = sz + 12) (ha_11 : Γ.2.2.1 11 = sz + 13) (ha_12 : Γ.2.2.1 12 = sz + 14) (hf : fX7_initJ n nl nc p1 σ τ = some (σ0, τ0)) : jp_K l yX7_init cX7_init 2 6 134 15 5509 Γ Z σ τ sz [.ref (Γ.2.2.1 0), .int p1] (zX7_initJ n nl nc Z) σ0 τ0 := by
  refine jp_mkK (lv := [(0, .ref (Γ.2.2.1 0)), (1, .int p1)]) (by decide) rfl (Nat.le_of_ble_eq_true rfl) rfl fun p e s m args below meth c B hnm hsz hP ls hl => ?_
  obtain ⟨hx, hb, hml, hown, hts, hr, hlk, hE⟩ := id B
  unfold fX7_initJ at hf
  obtain ⟨H, hH⟩ : ∃ H, H = s.heap := ⟨_, rfl⟩
  obtain ⟨locs, hlocs⟩ : ∃ l0 : List Loc, l0 = [] := ⟨_, rfl⟩
  have hS : va_S (jp_A Γ) s.heap H locs := by rw [hH, hlocs]; exact va_S.rf
  rw [← hH] at hP
  show W p l e _ s m args below meth c s.heap [] 0 0 _ _
  rw [← hlocs]
  conv => arg 11; rw [← hH]
  refine lv_aload_n hx hb dX7_init_0 rfl (lv_at hl 0 rfl) ?_
  refine jp_obj B hl mw_14 mw_15 mw_16 (Nat.le_of_ble_eq_true rfl) (Nat.le_of_ble_eq_true rfl) dX7_init_1 ?_
  refine lv_aload_n hx hb dX7_init_4 rfl (lv_at hl 0 rfl) ?_
  refine lv_iconst (v := 0) hx hb dX7_init_5 (by decide) ?_
  refine lv_iconst (v := 4) hx hb dX7_init_6 (by decide) ?_
  refine lv_iload_n hx hb dX7_init_7 rfl (lv_at hl 1 rfl) ?_
  refine va_mmin (rest := [.int 0, .ref (Γ.2.2.1 0)]) hx hb (hml.trans hl.1.symm) hown (hts _ mw_17) (hts _ mw_18) (hts _ mw_19) (hts _ mw_20) (by exact Nat.le_of_ble_eq_true rfl) (by exact Nat.le_of_ble_eq_true rfl) (by exact Nat.le_of_ble_eq_true rfl) (by exact Nat.le_of_ble_eq_true rfl) dX7_init_8 ?_
  refine va_mmax (rest := [.ref (Γ.2.2.1 0)]) hx hb (hml.trans hl.1.symm) hown (hts _ mw_21) (hts _ mw_22) (hts _ mw_19) (hts _ mw_23) (by exact Nat.le_of_ble_eq_true rfl) (by exact Nat.le_of_ble_eq_true rfl) (by exact Nat.le_of_ble_eq_true rfl) (by exact Nat.le_of_ble_eq_true rfl) dX7_init_11 ?_
  refine jp_putiF (k := 0) B hnm hP hS hth rfl rfl (by decide) jp_fX7 tyX7 tyX7_ok nmX7 rfl rfl mw_24 rfl (by decide +kernel) dX7_init_14 (fun H locs hP hS hz2 => ?_)
  obtain ⟨Z_1, hZ_1⟩ : ∃ z, z = jp_zu Z 0 (0, 7, [(0, 0), (3, 0), (3, 0), (3, 0), (3, 0)]) := ⟨_, rfl⟩
  rw [← hZ_1] at hP
  have q_1 : Z_1 0 = some (0, 7, [(0, 0), (3, 0), (3, 0), (3, 0), (3, 0)]) := by rw [hZ_1]; exact jp_zu_s _ _ _
  refine lv_aload_n hx hb dX7_init_17 rfl (lv_at hl 0 rfl) ?_
  refine jp_size (last := 0) hP q_1 (jp_ad1t ha_t hsz) (fun hz => ?_)
  have q_2 : Z_1 1 = none := by rw [hZ_1, jp_zu_n _ _ (by decide)]; exact hn_1
  refine jp_new (fs := [(0, 0), (3, 0), (3, 0), (3, 0), (0, 0)]) B hP hS hz (id := 1) (ci := 5) q_2 (jp_ad0 ha_1 hsz rfl) rfl jp_fX5 tyX5 tyX5_ok mw_25 mw_26 mw_27 (fun j hj => by rcases jp_c5 hj with rfl | rfl | rfl | rfl | rfl <;> simp [jp_fl, jp_fv, jp_z, jp_zl, vp_V, tyX5, defaultValue]) (Nat.le_of_ble_eq_true rfl) (Nat.le_of_ble_eq_true rfl) dX7_init_18 (fun H hP hS hz => ?_)
  obtain ⟨Z_2, hZ_2⟩ : ∃ z, z = jp_zu Z_1 1 (0, 5, [(0, 0), (3, 0), (3, 0), (3, 0), (0, 0)]) := ⟨_, rfl⟩
  rw [← hZ_2] at hP
  have q_3 : Z_2 1 = some (0, 5, [(0, 0), (3, 0), (3, 0), (3, 0), (0, 0)]) := by rw [hZ_2]; exact jp_zu_s _ _ _
  refine lv_dup hx hb dX7_init_21 rfl ?_
  refine lv_aload_n hx hb dX7_init_22 rfl (lv_at hl 0 rfl) ?_
  have q_4 : Z_2 0 = some (0, 7, [(0, 0), (3, 0), (3, 0), (3, 0), (3, 0)]) := by rw [hZ_2, jp_zu_n _ _ (by decide)]; exact q_1
  refine jp_geti (k := 0) B hP q_4 rfl rfl (by decide) jp_fX7 rfl mw_24 dX7_init_23 ?_
  have q_6 : Z_2 2 = none := by rw [hZ_2, jp_zu_n _ _ (by decide), hZ_1, jp_zu_n _ _ (by decide)]; exact hn_2
  have q_7 : Z_2 5 = none := by rw [hZ_2, jp_zu_n _ _ (by decide), hZ_1, jp_zu_n _ _ (by decide)]; exact hn_5
  have q_8 : Z_2 6 = none := by rw [hZ_2, jp_zu_n _ _ (by decide), hZ_1, jp_zu_n _ _ (by decide)]; exact hn_6
  have q_9 : Z_2 7 = none := by rw [hZ_2, jp_zu_n _ _ (by decide), hZ_1, jp_zu_n _ _ (by decide)]; exact hn_7
  have q_10 : Z_2 8 = none := by rw [hZ_2, jp_zu_n _ _ (by decide), hZ_1, jp_zu_n _ _ (by decide)]; exact hn_8
  have q_11 : Z_2 3 = none := by rw [hZ_2, jp_zu_n _ _ (by decide), hZ_1, jp_zu_n _ _ (by decide)]; exact hn_3
  have q_12 : Z_2 4 = none := by rw [hZ_2, jp_zu_n _ _ (by decide), hZ_1, jp_zu_n _ _ (by decide)]; exact hn_4
  refine jp_size (last := 1) hP q_3 (jp_ad1 ha_1 hsz rfl) (fun hz => ?_)
  obtain ⟨⟨σ_5, τ_5⟩, h_5, hf⟩ := jp_bind hf
  dsimp only at hf
  refine jp_callIN (rest := [.ref (Γ.2.2.1 1), .ref (Γ.2.2.1 0)]) B hP hS hz hl (ctX5_init q_3 q_6 q_7 q_8 q_9 q_10 q_11 q_12 (jp_ad1 ha_1 hsz rfl) (jp_ad2 ha_2 hsz rfl) (jp_ad2 ha_5 hsz rfl) (jp_ad2 ha_6 hsz rfl) (jp_ad2 ha_7 hsz rfl) (jp_ad2 ha_8 hsz rfl) (jp_ad2 ha_3 hsz rfl) (jp_ad2 ha_4 hsz rfl) h_5) rfl mw_45 nw_101 mw_44 mw_27 ddX5_init ⟨Nat.le_of_ble_eq_true rfl, Nat.le_of_ble_eq_true rfl⟩ ⟨Nat.le_of_ble_eq_true rfl, Nat.le_of_ble_eq_true rfl⟩ rfl (Nat.le_of_ble_eq_true rfl) dX7_init_26 (fun H locs hP hS => ?_)
  obtain ⟨Z_3, hZ_3⟩ : ∃ z, z = zX5_init n Z_2 := ⟨_, rfl⟩
  rw [← hZ_3] at hP
  have q_13 : Z_3 1 = some (0, 5, [(0, 0), (1, 2), (1, 3), (1, 4), (0, 0)]) := by rw [hZ_3]; exact zX5_init_1 n _
  have q_14 : Z_3 2 = some (0, 1, [(1, 5), (1, 6), (1, 7), (1, 8), (0, 0), (0, 0), (0, 0)]) := by rw [hZ_3]; exact zX5_init_2 n _
  have q_15 : Z_3 5 = some (1, 36, []) := by rw [hZ_3]; exact zX5_init_5 n _
  have q_16 : Z_3 6 = some (1, 180, []) := by rw [hZ_3]; exact zX5_init_6 n _
  have q_17 : Z_3 7 = some (1, 36, []) := by rw [hZ_3]; exact zX5_init_7 n _
  have q_18 : Z_3 8 = some (1, 36, []) := by rw [hZ_3]; exact zX5_init_8 n _
  have q_19 : Z_3 3 = some (1, n, []) := by rw [hZ_3]; exact zX5_init_3 n _
  have q_20 : Z_3 4 = some (1, n, []) := by rw [hZ_3]; exact zX5_init_4 n _
  have q_21 : Z_3 0 = some (0, 7, [(0, 0), (3, 0), (3, 0), (3, 0), (3, 0)]) := by rw [hZ_3, zX5_init_n n _ (by decide)]; exact q_4
  refine jp_putr (k := 1) (r := 1) (fs' := [(0, 0), (1, 1), (3, 0), (3, 0), (3, 0)]) B hnm hP hS q_21 (by decide) rfl (by decide) jp_fX7 tyX7 tyX7_ok nmX7 rfl rfl mw_28 rfl (ty := tyX7 1) (by decide +kernel) rfl rfl rfl dX7_init_29 (fun H locs hP hS hz2 => ?_)
  obtain ⟨Z_4, hZ_4⟩ : ∃ z, z = jp_zu Z_3 0 (0, 7, [(0, 0), (1, 1), (3, 0), (3, 0), (3, 0)]) := ⟨_, rfl⟩
  rw [← hZ_4] at hP
  have q_22 : Z_4 0 = some (0, 7, [(0, 0), (1, 1), (3, 0), (3, 0), (3, 0)]) := by rw [hZ_4]; exact jp_zu_s _ _ _
  refine lv_aload_n hx hb dX7_init_32 rfl (lv_at hl 0 rfl) ?_
  refine jp_getr (k := 1) B hP q_22 rfl rfl (by decide) jp_fX7 rfl mw_28 dX7_init_33 ?_
  refine lv_iconst (v := 1) hx hb dX7_init_36 (by decide) ?_
  refine lv_iconst (v := 1) hx hb dX7_init_37 (by decide) ?_
  have q_24 : Z_4 1 = some (0, 5, [(0, 0), (1, 2), (1, 3), (1, 4), (0, 0)]) := by rw [hZ_4, jp_zu_n _ _ (by decide)]; exact q_13
  have q_25 : Z_4 3 = some (1, n, []) := by rw [hZ_4, jp_zu_n _ _ (by decide)]; exact q_19
  have q_26 : Z_4 4 = some (1, n, []) := by rw [hZ_4, jp_zu_n _ _ (by decide)]; exact q_20
  have q_27 : Z_4 2 = some (0, 1, [(1, 5), (1, 6), (1, 7), (1, 8), (0, 0), (0, 0), (0, 0)]) := by rw [hZ_4, jp_zu_n _ _ (by decide)]; exact q_14
  have q_28 : Z_4 5 = some (1, 36, []) := by rw [hZ_4, jp_zu_n _ _ (by decide)]; exact q_15
  have q_29 : Z_4 6 = some (1, 180, []) := by rw [hZ_4, jp_zu_n _ _ (by decide)]; exact q_16
  have q_30 : Z_4 7 = some (1, 36, []) := by rw [hZ_4, jp_zu_n _ _ (by decide)]; exact q_17
  have q_31 : Z_4 8 = some (1, 36, []) := by rw [hZ_4, jp_zu_n _ _ (by decide)]; exact q_18
  obtain ⟨⟨a_23, σ_23, τ_23⟩, h_23, hf⟩ := jp_bind hf
  dsimp only at hf
  refine jp_callVN (rest := []) B hP hS hl (ctX5_renew ⟨q_24, q_25, q_26, ⟨q_27, q_28, q_29, q_30, q_31⟩⟩ h_23) q_24 rfl mw_65 nw_167 mw_63 mw_64 mw_27 ddX5_renew ⟨Nat.le_of_ble_eq_true rfl, Nat.le_of_ble_eq_true rfl⟩ ⟨Nat.le_of_ble_eq_true rfl, Nat.le_of_ble_eq_true rfl⟩ rfl (Nat.le_of_ble_eq_true rfl) dX7_init_38 (fun H locs hP hS => ?_)
  refine lv_aload_n hx hb dX7_init_41 rfl (lv_at hl 0 rfl) ?_
  refine jp_size (last := 4) hP q_26 (jp_ad1 ha_4 hsz rfl) (fun hz => ?_)
  have q_32 : Z_4 9 = none := by rw [hZ_4, jp_zu_n _ _ (by decide), hZ_3, zX5_init_n n _ (by decide), hZ_2, jp_zu_n _ _ (by decide), hZ_1, jp_zu_n _ _ (by decide)]; exact hn_9
  refine jp_new (fs := [(3, 0), (2, 0)]) B hP hS hz (id := 9) (ci := 6) q_32 (jp_ad0 ha_9 hsz rfl) rfl jp_fX6 tyX6 tyX6_ok mw_29 mw_30 mw_31 (fun j hj => by rcases jp_c2 hj with rfl | rfl <;> simp [jp_fl, jp_fv, jp_z, jp_zl, vp_V, tyX6, defaultValue]) (Nat.le_of_ble_eq_true rfl) (Nat.le_of_ble_eq_true rfl) dX7_init_42 (fun H hP hS hz => ?_)
  obtain ⟨Z_5, hZ_5⟩ : ∃ z, z = jp_zu Z_4 9 (0, 6, [(3, 0), (2, 0)]) := ⟨_, rfl⟩
  rw [← hZ_5] at hP
  have q_33 : Z_5 9 = some (0, 6, [(3, 0), (2, 0)]) := by rw [hZ_5]; exact jp_zu_s _ _ _
  refine lv_dup hx hb dX7_init_45 rfl ?_
  refine lv_aload_n hx hb dX7_init_46 rfl (lv_at hl 0 rfl) ?_
  have q_34 : Z_5 0 = some (0, 7, [(0, 0), (1, 1), (3, 0), (3, 0), (3, 0)]) := by rw [hZ_5, jp_zu_n _ _ (by decide)]; exact q_22
  refine jp_geti (k := 0) B hP q_34 rfl rfl (by decide) jp_fX7 rfl mw_24 dX7_init_47 ?_
  have q_36 : Z_5 10 = none := by rw [hZ_5, jp_zu_n _ _ (by decide), hZ_4, jp_zu_n _ _ (by decide), hZ_3, zX5_init_n n _ (by decide), hZ_2, jp_zu_n _ _ (by decide), hZ_1, jp_zu_n _ _ (by decide)]; exact hn_10
  refine jp_size (last := 9) hP q_33 (jp_ad1 ha_9 hsz rfl) (fun hz => ?_)
  obtain ⟨⟨σ_35, τ_35⟩, h_35, hf⟩ := jp_bind hf
  dsimp only at hf
  refine jp_callIN (rest := [.ref (Γ.2.2.1 9), .ref (Γ.2.2.1 0)]) B hP hS hz hl (ctX6_init q_33 q_36 (jp_ad1 ha_9 hsz rfl) (jp_ad2 ha_10 hsz rfl) h_35) rfl mw_98 nw_207 mw_97 mw_31 ddX6_init ⟨Nat.le_of_ble_eq_true rfl, Nat.le_of_ble_eq_true rfl⟩ ⟨Nat.le_of_ble_eq_true rfl, Nat.le_of_ble_eq_true rfl⟩ rfl (Nat.le_of_ble_eq_true rfl) dX7_init_50 (fun H locs hP hS => ?_)
  obtain ⟨Z_6, hZ_6⟩ : ∃ z, z = zX6_init n Z_5 := ⟨_, rfl⟩
  rw [← hZ_6] at hP
  have q_37 : Z_6 9 = some (0, 6, [(1, 10), (2, 0)]) := by rw [hZ_6]; exact zX6_init_9 n _
  have q_38 : Z_6 10 = some (1, n, []) := by rw [hZ_6]; exact zX6_init_10 n _
  have q_39 : Z_6 0 = some (0, 7, [(0, 0), (1, 1), (3, 0), (3, 0), (3, 0)]) := by rw [hZ_6, zX6_init_n n _ (by decide)]; exact q_34
  refine jp_putr (k := 2) (r := 9) (fs' := [(0, 0), (1, 1), (1, 9), (3, 0), (3, 0)]) B hnm hP hS q_39 (by decide) rfl (by decide) jp_fX7 tyX7 tyX7_ok nmX7 rfl rfl mw_32 rfl (ty := tyX7 2) (by decide +kernel) rfl rfl rfl dX7_init_53 (fun H locs hP hS hz2 => ?_)
  obtain ⟨Z_7, hZ_7⟩ : ∃ z, z = jp_zu Z_6 0 (0, 7, [(0, 0), (1, 1), (1, 9), (3, 0), (3, 0)]) := ⟨_, rfl⟩
  rw [← hZ_7] at hP
  have q_40 : Z_7 0 = some (0, 7, [(0, 0), (1, 1), (1, 9), (3, 0), (3, 0)]) := by rw [hZ_7]; exact jp_zu_s _ _ _
  refine lv_aload_n hx hb dX7_init_56 rfl (lv_at hl 0 rfl) ?_
  refine lv_aload_n hx hb dX7_init_57 rfl (lv_at hl 0 rfl) ?_
  refine jp_geti (k := 0) B hP q_40 rfl rfl (by decide) jp_fX7 rfl mw_24 dX7_init_58 ?_
  refine lv_iconst (v := 2) hx hb dX7_init_61 (by decide) ?_
  refine lv_icmp_gt (tgt := 79) hx hb dX7_init_62 (by decide) (fun c_41 => ?_) (fun c_41 => ?_)
  · rw [if_pos c_41] at hf
    cases hf
  · rw [if_neg c_41] at hf
    have q_42 : Z_7 10 = some (1, n, []) := by rw [hZ_7, jp_zu_n _ _ (by decide)]; exact q_38
    refine jp_size (last := 10) hP q_42 (jp_ad1 ha_10 hsz rfl) (fun hz => ?_)
    have q_43 : Z_7 13 = none := by rw [hZ_7, jp_zu_n _ _ (by decide), hZ_6, zX6_init_n n _ (by decide), hZ_5, jp_zu_n _ _ (by decide), hZ_4, jp_zu_n _ _ (by decide), hZ_3, zX5_init_n n _ (by decide), hZ_2, jp_zu_n _ _ (by decide), hZ_1, jp_zu_n _ _ (by decide)]; exact hn_13
    refine jp_new (fs := [(3, 0), (0, 0), (3, 0), (3, 0), (0, 0), (0, 0), (0, 0)]) B hP hS hz (id := 13) (ci := 2) q_43 (jp_ad0 ha_13 hsz rfl) rfl jp_fX1 tyX1 tyX1_ok mw_33 mw_34 mw_35 (fun j hj => by rcases jp_c7 hj with rfl | rfl | rfl | rfl | rfl | rfl | rfl <;> simp [jp_fl, jp_fv, jp_z, jp_zl, vp_V, tyX1, defaultValue]) (Nat.le_of_ble_eq_true rfl) (Nat.le_of_ble_eq_true rfl) dX7_init_65 (fun H hP hS hz => ?_)
    obtain ⟨Z_8, hZ_8⟩ : ∃ z, z = jp_zu Z_7 13 (0, 2, [(3, 0), (0, 0), (3, 0), (3, 0), (0, 0), (0, 0), (0, 0)]) := ⟨_, rfl⟩
    rw [← hZ_8] at hP
    have q_44 : Z_8 13 = some (0, 2, [(3, 0), (0, 0), (3, 0), (3, 0), (0, 0), (0, 0), (0, 0)]) := by rw [hZ_8]; exact jp_zu_s _ _ _
    refine lv_dup hx hb dX7_init_68 rfl ?_
    refine lv_aload_n hx hb dX7_init_69 rfl (lv_at hl 0 rfl) ?_
    have q_45 : Z_8 0 = some (0, 7, [(0, 0), (1, 1), (1, 9), (3, 0), (3, 0)]) := by rw [hZ_8, jp_zu_n _ _ (by decide)]; exact q_40
    refine jp_getr (k := 1) B hP q_45 rfl rfl (by decide) jp_fX7 rfl mw_28 dX7_init_70 ?_
    have q_47 : Z_8 1 = some (0, 5, [(0, 0), (1, 2), (1, 3), (1, 4), (0, 0)]) := by rw [hZ_8, jp_zu_n _ _ (by decide), hZ_7, jp_zu_n _ _ (by decide), hZ_6, zX6_init_n n _ (by decide), hZ_5, jp_zu_n _ _ (by decide)]; exact q_24
    have q_48 : Z_8 3 = some (1, n, []) := by rw [hZ_8, jp_zu_n _ _ (by decide), hZ_7, jp_zu_n _ _ (by decide), hZ_6, zX6_init_n n _ (by decide), hZ_5, jp_zu_n _ _ (by decide)]; exact q_25
    have q_49 : Z_8 4 = some (1, n, []) := by rw [hZ_8, jp_zu_n _ _ (by decide), hZ_7, jp_zu_n _ _ (by decide), hZ_6, zX6_init_n n _ (by decide), hZ_5, jp_zu_n _ _ (by decide)]; exact q_26
    have q_50 : Z_8 2 = some (0, 1, [(1, 5), (1, 6), (1, 7), (1, 8), (0, 0), (0, 0), (0, 0)]) := by rw [hZ_8, jp_zu_n _ _ (by decide), hZ_7, jp_zu_n _ _ (by decide), hZ_6, zX6_init_n n _ (by decide), hZ_5, jp_zu_n _ _ (by decide)]; exact q_27
    have q_51 : Z_8 5 = some (1, 36, []) := by rw [hZ_8, jp_zu_n _ _ (by decide), hZ_7, jp_zu_n _ _ (by decide), hZ_6, zX6_init_n n _ (by decide), hZ_5, jp_zu_n _ _ (by decide)]; exact q_28
    have q_52 : Z_8 6 = some (1, 180, []) := by rw [hZ_8, jp_zu_n _ _ (by decide), hZ_7, jp_zu_n _ _ (by decide), hZ_6, zX6_init_n n _ (by decide), hZ_5, jp_zu_n _ _ (by decide)]; exact q_29
    have q_53 : Z_8 7 = some (1, 36, []) := by rw [hZ_8, jp_zu_n _ _ (by decide), hZ_7, jp_zu_n _ _ (by decide), hZ_6, zX6_init_n n _ (by decide), hZ_5, jp_zu_n _ _ (by decide)]; exact q_30
    have q_54 : Z_8 8 = some (1, 36, []) := by rw [hZ_8, jp_zu_n _ _ (by decide), hZ_7, jp_zu_n _ _ (by decide), hZ_6, zX6_init_n n _ (by decide), hZ_5, jp_zu_n _ _ (by decide)]; exact q_31
    have q_55 : Z_8 14 = none := by rw [hZ_8, jp_zu_n _ _ (by decide), hZ_7, jp_zu_n _ _ (by decide), hZ_6, zX6_init_n n _ (by decide), hZ_5, jp_zu_n _ _ (by decide), hZ_4, jp_zu_n _ _ (by decide), hZ_3, zX5_init_n n _ (by decide), hZ_2, jp_zu_n _ _ (by decide), hZ_1, jp_zu_n _ _ (by decide)]; exact hn_14
    have q_56 : Z_8 15 = none := by rw [hZ_8, jp_zu_n _ _ (by decide), hZ_7, jp_zu_n _ _ (by decide), hZ_6, zX6_init_n n _ (by decide), hZ_5, jp_zu_n _ _ (by decide), hZ_4, jp_zu_n _ _ (by decide), hZ_3, zX5_init_n n _ (by decide), hZ_2, jp_zu_n _ _ (by decide), hZ_1, jp_zu_n _ _ (by decide)]; exact hn_15
    refine jp_size (last := 13) hP q_44 (jp_ad1 ha_13 hsz rfl) (fun hz => ?_)
    obtain ⟨⟨σ_46, τ_46⟩, h_46, hf⟩ := jp_bind hf
    dsimp only at hf
    refine jp_callIN (rest := [.ref (Γ.2.2.1 13), .ref (Γ.2.2.1 0)]) B hP hS hz hl (ctX1_init ⟨q_47, q_48, q_49, ⟨q_50, q_51, q_52, q_53, q_54⟩⟩ q_44 q_55 q_56 (jp_ad1 ha_13 hsz rfl) (jp_ad2 ha_14 hsz rfl) (jp_ad2 ha_15 hsz rfl) h_46) rfl mw_103 nw_222 mw_102 mw_35 ddX1_init ⟨Nat.le_of_ble_eq_true rfl, Nat.le_of_ble_eq_true rfl⟩ ⟨Nat.le_of_ble_eq_true rfl, Nat.le_of_ble_eq_true rfl⟩ rfl (Nat.le_of_ble_eq_true rfl) dX7_init_73 (fun H locs hP hS => ?_)
    obtain ⟨Z_9, hZ_9⟩ : ∃ z, z = zX1_init n nl Z_8 := ⟨_, rfl⟩
    rw [← hZ_9] at hP
    have q_57 : Z_9 13 = some (0, 2, [(1, 1), (0, 0), (1, 14), (1, 15), (0, 0), (0, 0), (0, 0)]) := by rw [hZ_9]; exact zX1_init_13 n nl _
    have q_58 : Z_9 14 = some (1, nl, []) := by rw [hZ_9]; exact zX1_init_14 n nl _
    have q_59 : Z_9 15 = some (1, nl, []) := by rw [hZ_9]; exact zX1_init_15 n nl _
    refine lv_goto (tgt := 94) hx hb dX7_init_76 (by decide) ?_
    have q_60 : Z_9 0 = some (0, 7, [(0, 0), (1, 1), (1, 9), (3, 0), (3, 0)]) := by rw [hZ_9, zX1_init_n n nl _ (by decide)]; exact q_45
    refine jp_putr (k := 3) (r := 13) (fs' := [(0, 0), (1, 1), (1, 9), (1, 13), (3, 0)]) B hnm hP hS q_60 (by decide) rfl (by decide) jp_fX7 tyX7 tyX7_ok nmX7 rfl rfl mw_39 rfl (ty := tyX7 3) (by decide +kernel) rfl rfl rfl dX7_init_94 (fun H locs hP hS hz2 => ?_)
    obtain ⟨Z_10, hZ_10⟩ : ∃ z, z = jp_zu Z_9 0 (0, 7, [(0, 0), (1, 1), (1, 9), (1, 13), (3, 0)]) := ⟨_, rfl⟩
    rw [← hZ_10] at hP
    have q_61 : Z_10 0 = some (0, 7, [(0, 0), (1, 1), (1, 9), (1, 13), (3, 0)]) := by rw [hZ_10]; exact jp_zu_s _ _ _
    refine lv_aload_n hx hb dX7_init_97 rfl (lv_at hl 0 rfl) ?_
    have q_62 : Z_10 15 = some (1, nl, []) := by rw [hZ_10, jp_zu_n _ _ (by decide)]; exact q_59
    refine jp_size (last := 15) hP q_62 (jp_ad1 ha_15 hsz rfl) (fun hz => ?_)
    have q_63 : Z_10 11 = none := by rw [hZ_10, jp_zu_n _ _ (by decide), hZ_9, zX1_init_n n nl _ (by decide), hZ_8, jp_zu_n _ _ (by decide), hZ_7, jp_zu_n _ _ (by decide), hZ_6, zX6_init_n n _ (by decide), hZ_5, jp_zu_n _ _ (by decide), hZ_4, jp_zu_n _ _ (by decide), hZ_3, zX5_init_n n _ (by decide), hZ_2, jp_zu_n _ _ (by decide), hZ_1, jp_zu_n _ _ (by decide)]; exact hn_11
    refine jp_new (fs := [(0, 0), (3, 0), (0, 0), (0, 0)]) B hP hS hz (id := 11) (ci := 3) q_63 (jp_ad0 ha_11 hsz rfl) rfl jp_fX2 tyX2 tyX2_ok mw_40 mw_41 mw_42 (fun j hj => by rcases jp_c4 hj with rfl | rfl | rfl | rfl <;> simp [jp_fl, jp_fv, jp_z, jp_zl, vp_V, tyX2, defaultValue]) (Nat.le_of_ble_eq_true rfl) (Nat.le_of_ble_eq_true rfl) dX7_init_98 (fun H hP hS hz => ?_)
    obtain ⟨Z_11, hZ_11⟩ : ∃ z, z = jp_zu Z_10 11 (0, 3, [(0, 0), (3, 0), (0, 0), (0, 0)]) := ⟨_, rfl⟩
    rw [← hZ_11] at hP
    have q_64 : Z_11 11 = some (0, 3, [(0, 0), (3, 0), (0, 0), (0, 0)]) := by rw [hZ_11]; exact jp_zu_s _ _ _
    refine lv_dup hx hb dX7_init_101 rfl ?_
    refine lv_aload_n hx hb dX7_init_102 rfl (lv_at hl 0 rfl) ?_
    have q_65 : Z_11 0 = some (0, 7, [(0, 0), (1, 1), (1, 9), (1, 13), (3, 0)]) := by rw [hZ_11, jp_zu_n _ _ (by decide)]; exact q_61
    refine jp_geti (k := 0) B hP q_65 rfl rfl (by decide) jp_fX7 rfl mw_24 dX7_init_103 ?_
    refine lv_aload_n hx hb dX7_init_106 rfl (lv_at hl 0 rfl) ?_
    refine jp_geti (k := 0) B hP q_65 rfl rfl (by decide) jp_fX7 rfl mw_24 dX7_init_107 ?_
    obtain ⟨⟨a_66, σ_66, τ_66⟩, h_66, hf⟩ := jp_bind hf
    dsimp only at hf
    refine jp_callS (rest := [.int ((jp_z σ_46 11) 0 0), .ref (Γ.2.2.1 11), .ref (Γ.2.2.1 11), .ref (Γ.2.2.1 0)]) B hP hS hl (ctX7_mostSteps h_66) mw_121 mw_129 mw_120 mw_2 ddX7_mostSteps ⟨Nat.le_of_ble_eq_true rfl, Nat.le_of_ble_eq_true rfl⟩ ⟨Nat.le_of_ble_eq_true rfl, Nat.le_of_ble_eq_true rfl⟩ rfl (Nat.le_of_ble_eq_true rfl) dX7_init_110 (fun H locs hP hS => ?_)
    have q_68 : Z_11 12 = none := by rw [hZ_11, jp_zu_n _ _ (by decide), hZ_10, jp_zu_n _ _ (by decide), hZ_9, zX1_init_n n nl _ (by decide), hZ_8, jp_zu_n _ _ (by decide), hZ_7, jp_zu_n _ _ (by decide), hZ_6, zX6_init_n n _ (by decide), hZ_5, jp_zu_n _ _ (by decide), hZ_4, jp_zu_n _ _ (by decide), hZ_3, zX5_init_n n _ (by decide), hZ_2, jp_zu_n _ _ (by decide), hZ_1, jp_zu_n _ _ (by decide)]; exact hn_12
    refine jp_size (last := 11) hP q_64 (jp_ad1 ha_11 hsz rfl) (fun hz => ?_)
    obtain ⟨⟨σ_67, τ_67⟩, h_67, hf⟩ := jp_bind hf
    dsimp only at hf
    refine jp_callIN (rest := [.ref (Γ.2.2.1 11), .ref (Γ.2.2.1 0)]) B hP hS hz hl (ctX2_init q_64 q_68 (jp_ad1 ha_11 hsz rfl) (jp_ad2 ha_12 hsz rfl) h_67) rfl mw_124 nw_304 mw_123 mw_42 ddX2_init ⟨Nat.le_of_ble_eq_true rfl, Nat.le_of_ble_eq_true rfl⟩ ⟨Nat.le_of_ble_eq_true rfl, Nat.le_of_ble_eq_true rfl⟩ rfl (Nat.le_of_ble_eq_true rfl) dX7_init_113 (fun H locs hP hS => ?_)
    obtain ⟨Z_12, hZ_12⟩ : ∃ z, z = zX2_init nc Z_11 := ⟨_, rfl⟩
    rw [← hZ_12] at hP
    have q_69 : Z_12 11 = some (0, 3, [(0, 0), (1, 12), (0, 0), (0, 0)]) := by rw [hZ_12]; exact zX2_init_11 nc _
    have q_70 : Z_12 12 = some (1, nc, []) := by rw [hZ_12]; exact zX2_init_12 nc _
    have q_71 : Z_12 0 = some (0, 7, [(0, 0), (1, 1), (1, 9), (1, 13), (3, 0)]) := by rw [hZ_12, zX2_init_n nc _ (by decide)]; exact q_65
    refine jp_putr (k := 4) (r := 11) (fs' := [(0, 0), (1, 1), (1, 9), (1, 13), (1, 11)]) B hnm hP hS q_71 (by decide) rfl (by decide) jp_fX7 tyX7 tyX7_ok nmX7 rfl rfl mw_43 rfl (ty := tyX7 4) (by decide +kernel) rfl rfl rfl dX7_init_116 (fun H locs hP hS hz2 => ?_)
    obtain ⟨Z_13, hZ_13⟩ : ∃ z, z = jp_zu Z_12 0 (0, 7, [(0, 0), (1, 1), (1, 9), (1, 13), (1, 11)]) := ⟨_, rfl⟩
    rw [← hZ_13] at hP
    have q_72 : Z_13 0 = some (0, 7, [(0, 0), (1, 1), (1, 9), (1, 13), (1, 11)]) := by rw [hZ_13]; exact jp_zu_s _ _ _
    have hze : zX7_initJ n nl nc Z = Z_13 := by rw [hZ_13, hZ_12, hZ_11, hZ_10, hZ_9, hZ_8, hZ_7, hZ_6, hZ_5, hZ_4, hZ_3, hZ_2, hZ_1]; rfl
    exact jp_endK B hP hS (Nat.le_of_ble_eq_true rfl) (Nat.le_of_ble_eq_true rfl) dX7_init_119 ⟨hze, jp_injK hf⟩
