theorem ddL_alone : yL_alone.cls ≠ "java/lang/invoke/MethodHandle" ∧ yL_alone.cls ≠ "java/lang/invoke/VarHandle" ∧ (parseMethodDescriptor yL_alone.desc).map (fun d => d.parameters.length) = some 3 := by decide +kernel
theorem ddL_at : yL_at.cls ≠ "java/lang/invoke/MethodHandle" ∧ yL_at.cls ≠ "java/lang/invoke/VarHandle" ∧ (parseMethodDescriptor yL_at.desc).map (fun d => d.parameters.length) = some 5 := by decide +kernel
theorem ddL_bound : yL_bound.cls ≠ "java/lang/invoke/MethodHandle" ∧ yL_bound.cls ≠ "java/lang/invoke/VarHandle" ∧ (parseMethodDescriptor yL_bound.desc).map (fun d => d.parameters.length) = some 2 := by decide +kernel
theorem ddL_end : yL_end.cls ≠ "java/lang/invoke/MethodHandle" ∧ yL_end.cls ≠ "java/lang/invoke/VarHandle" ∧ (parseMethodDescriptor yL_end.desc).map (fun d => d.parameters.length) = some 5 := by decide +kernel
theorem ddL_grid : yL_grid.cls ≠ "java/lang/invoke/MethodHandle" ∧ yL_grid.cls ≠ "java/lang/invoke/VarHandle" ∧ (parseMethodDescriptor yL_grid.desc).map (fun d => d.parameters.length) = some 3 := by decide +kernel
theorem ddL_last : yL_last.cls ≠ "java/lang/invoke/MethodHandle" ∧ yL_last.cls ≠ "java/lang/invoke/VarHandle" ∧ (parseMethodDescriptor yL_last.desc).map (fun d => d.parameters.length) = some 2 := by decide +kernel
theorem ddL_seed : yL_seed.cls ≠ "java/lang/invoke/MethodHandle" ∧ yL_seed.cls ≠ "java/lang/invoke/VarHandle" ∧ (parseMethodDescriptor yL_seed.desc).map (fun d => d.parameters.length) = some 2 := by decide +kernel
theorem ddL_share : yL_share.cls ≠ "java/lang/invoke/MethodHandle" ∧ yL_share.cls ≠ "java/lang/invoke/VarHandle" ∧ (parseMethodDescriptor yL_share.desc).map (fun d => d.parameters.length) = some 2 := by decide +kernel
theorem ddL_solve : yL_solve.cls ≠ "java/lang/invoke/MethodHandle" ∧ yL_solve.cls ≠ "java/lang/invoke/VarHandle" ∧ (parseMethodDescriptor yL_solve.desc).map (fun d => d.parameters.length) = some 3 := by decide +kernel
theorem ddL_start : yL_start.cls ≠ "java/lang/invoke/MethodHandle" ∧ yL_start.cls ≠ "java/lang/invoke/VarHandle" ∧ (parseMethodDescriptor yL_start.desc).map (fun d => d.parameters.length) = some 5 := by decide +kernel
theorem ddL_wall : yL_wall.cls ≠ "java/lang/invoke/MethodHandle" ∧ yL_wall.cls ≠ "java/lang/invoke/VarHandle" ∧ (parseMethodDescriptor yL_wall.desc).map (fun d => d.parameters.length) = some 5 := by decide +kernel
-- L_grid
def fL_grid (n : Nat) (nc : Nat) (p1 : Int32) (p2 : Int32) (σ : jp_I) (τ : jp_J) : Option (Int32 × jp_I × jp_J) :=
  (fX7_grid n nc p1 p2 σ τ).bind fun (o, σ1, τ1) => match o with
    | .inl _v => some (0, σ1, τ1)
    | .inr k => if k = 0 then some (1, σ1, τ1) else none
set_option maxHeartbeats 4000000 in
set_option maxRecDepth 20000 in
theorem ctL_grid {l : Launch} {Γ : jp_G} {Z : Nat → Option jp_Sh} {n : Nat} {nc : Nat} (hX0 : jp_hC Z n nc) (hst : l.stackTraces = false) {p1 : Int32} {p2 : Int32} {σ σ0 : jp_I} {τ τ0 : jp_J} {r0 : Int32} (hf : fL_grid n nc p1 p2 σ τ = some (r0, σ0, τ0)) : jq_M l yL_grid cL_grid 4 [(0, 6, 9, 13)] 7 156 1 6 Γ Z σ τ [.ref (Γ.2.2.1 0), .int p1, .int p2] r0 σ0 τ0 := by
  refine jq_mk (lv := [(0, .ref (Γ.2.2.1 0)), (1, .int p1), (2, .int p2)]) (by decide) (Nat.le_of_ble_eq_true rfl) rfl fun p e s m args below meth c B ht => ?_
  obtain ⟨hx, hb, hml, hown, hts, hr, hlk, hE⟩ := id B
  unfold fL_grid at hf
  intro H locs ls hP hS hl
  obtain ⟨⟨o, σ1, τ1⟩, h1, hf⟩ := jp_bind hf
  dsimp only at hf
  refine lv_aload_n hx hb dL_grid_0 rfl (lv_at hl 0 rfl) ?_
  refine lv_iload_n hx hb dL_grid_1 rfl (lv_at hl 1 rfl) ?_
  refine lv_iload_n hx hb dL_grid_2 rfl (lv_at hl 2 rfl) ?_
  refine jq_callVX (rest := []) B hP hS hl (ctX7_grid hX0 hst h1) hX0.1 rfl mw_163 mw_160 mw_161 mw_162 mw_2 ddX7_grid ⟨Nat.le_of_ble_eq_true rfl, Nat.le_of_ble_eq_true rfl⟩ ⟨Nat.le_of_ble_eq_true rfl, Nat.le_of_ble_eq_true rfl⟩ rfl (Nat.le_of_ble_eq_true rfl) dL_grid_3 (fun k ek H locs hP hS q ce hce hcv hcl => ?_) (fun v ev H locs hP hS => ?_)
  · subst ek
    dsimp only at hf
    by_cases hk0 : k = 0
    · subst hk0
      rw [if_pos rfl] at hf
      refine jq_catch (E := jp_xc 0) (name := jp_xc 0) (own := RL) hown hce hcv hcl ⟨0, 6, 9, 13⟩ [] (by decide) (by decide) (hts _ mw_159) (jq_cast hE 0 (by decide)) (.inl ht) ?_
      refine lv_astore_n (lv' := [(3, .ref q), (0, .ref (Γ.2.2.1 0)), (1, .int p1), (2, .int p2)]) hx hb dL_grid_9 rfl hl (by decide) rfl (fun ls hl => ?_)
      refine lv_iconst (v := 1) hx hb dL_grid_10 (by decide) ?_
      exact jq_endi B hP hS (Nat.le_of_ble_eq_true rfl) (Nat.le_of_ble_eq_true rfl) dL_grid_11 (jp_inj hf)
    · rw [if_neg hk0] at hf
      cases hf
  · subst ev
    dsimp only at hf
    refine lv_goto (tgt := 12) hx hb dL_grid_6 (by decide) ?_
    refine lv_iconst (v := 0) hx hb dL_grid_12 (by decide) ?_
    exact jq_endi B hP hS (Nat.le_of_ble_eq_true rfl) (Nat.le_of_ble_eq_true rfl) dL_grid_13 (jp_inj hf)
-- L_wall
def fL_wall (n : Nat) (nc : Nat) (p1 : Int32) (p2 : Int32) (p3 : Int32) (σ : jp_I) (τ : jp_J) : Option (Int32 × jp_I × jp_J) :=
  (fX7_wall n nc p1 p2 p3 σ τ).bind fun (o, σ1, τ1) => match o with
    | .inl v => if v = 0 then some (0, σ1, jp_upl τ1 30 (0 : Int32).toNatClampNeg 0) else some (0, σ1, jp_upl τ1 30 (0 : Int32).toNatClampNeg 1)
    | .inr k => if k = 2 then some (1, σ1, τ1) else if k = 1 then some (2, σ1, τ1) else none
set_option maxHeartbeats 4000000 in
set_option maxRecDepth 20000 in
theorem ctL_wall {l : Launch} {Γ : jp_G} {Z : Nat → Option jp_Sh} {n : Nat} {nc : Nat} (hX0 : jp_hC Z n nc) (hO : Z 30 = some (3, 1, [])) (hst : l.stackTraces = false) {p1 : Int32} {p2 : Int32} {p3 : Int32} {σ σ0 : jp_I} {τ τ0 : jp_J} {r0 : Int32} (hf : fL_wall n nc p1 p2 p3 σ τ = some (r0, σ0, τ0)) : jq_M l yL_wall cL_wall 6 [(0, 19, 22, 19), (0, 19, 26, 21)] 8 137 1 6 Γ Z σ τ [.ref (Γ.2.2.1 0), .int p1, .int p2, .int p3, .ref (Γ.2.2.1 30)] r0 σ0 τ0 := by
  refine jq_mk (lv := [(0, .ref (Γ.2.2.1 0)), (1, .int p1), (2, .int p2), (3, .int p3), (4, .ref (Γ.2.2.1 30))]) (by decide) (Nat.le_of_ble_eq_true rfl) rfl fun p e s m args below meth c B ht => ?_
  obtain ⟨hx, hb, hml, hown, hts, hr, hlk, hE⟩ := id B
  unfold fL_wall at hf
  intro H locs ls hP hS hl
  obtain ⟨⟨o, σ1, τ1⟩, h1, hf⟩ := jp_bind hf
  dsimp only at hf
  refine lv_aload hx hb dL_wall_0 (lv_at hl 4 rfl) ?_
  refine lv_iconst (v := 0) hx hb dL_wall_2 (by decide) ?_
  refine lv_aload_n hx hb dL_wall_3 rfl (lv_at hl 0 rfl) ?_
  refine lv_iload_n hx hb dL_wall_4 rfl (lv_at hl 1 rfl) ?_
  refine lv_iload_n hx hb dL_wall_5 rfl (lv_at hl 2 rfl) ?_
  refine lv_iload_n hx hb dL_wall_6 rfl (lv_at hl 3 rfl) ?_
  refine jq_callVX (rest := [.int 0, .ref (Γ.2.2.1 30)]) B hP hS hl (ctX7_wall hX0 hst h1) hX0.1 rfl mw_186 mw_183 mw_184 mw_185 mw_2 ddX7_wall ⟨Nat.le_of_ble_eq_true rfl, Nat.le_of_ble_eq_true rfl⟩ ⟨Nat.le_of_ble_eq_true rfl, Nat.le_of_ble_eq_true rfl⟩ rfl (Nat.le_of_ble_eq_true rfl) dL_wall_7 (fun k ek H locs hP hS q ce hce hcv hcl => ?_) (fun v ev H locs hP hS => ?_)
  · subst ek
    dsimp only at hf
    by_cases hk0 : k = 2
    · subst hk0
      rw [if_pos rfl] at hf
      refine jq_catch (E := jp_xc 2) (name := jp_xc 2) (own := RL) hown hce hcv hcl ⟨0, 19, 22, 19⟩ [⟨0, 19, 26, 21⟩] (by decide) (by decide) (hts _ mw_181) (jq_cast hE 2 (by decide)) (.inl ht) ?_
      refine lv_astore (lv' := [(5, .ref q), (0, .ref (Γ.2.2.1 0)), (1, .int p1), (2, .int p2), (3, .int p3), (4, .ref (Γ.2.2.1 30))]) hx hb dL_wall_22 hl (by decide) rfl (fun ls hl => ?_)
      refine lv_iconst (v := 1) hx hb dL_wall_24 (by decide) ?_
      exact jq_endi B hP hS (Nat.le_of_ble_eq_true rfl) (Nat.le_of_ble_eq_true rfl) dL_wall_25 (jp_inj hf)
    · skip
      by_cases hk1 : k = 1
      · subst hk1
        rw [if_neg (by decide), if_pos rfl] at hf
        refine jq_catch (E := jp_xc 1) (name := jp_xc 1) (own := RL) hown hce hcv hcl ⟨0, 19, 26, 21⟩ [] (by decide) (by decide) (hts _ mw_182) (jq_cast hE 1 (by decide)) (.inr ⟨⟨0, 19, 22, 19⟩, jp_xc 2, ht, by decide, by decide, hts _ mw_181, jq_nc hE (by decide)⟩) ?_
        refine lv_astore (lv' := [(5, .ref q), (0, .ref (Γ.2.2.1 0)), (1, .int p1), (2, .int p2), (3, .int p3), (4, .ref (Γ.2.2.1 30))]) hx hb dL_wall_26 hl (by decide) rfl (fun ls hl => ?_)
        refine lv_iconst (v := 2) hx hb dL_wall_28 (by decide) ?_
        exact jq_endi B hP hS (Nat.le_of_ble_eq_true rfl) (Nat.le_of_ble_eq_true rfl) dL_wall_29 (jp_inj hf)
      · rw [if_neg hk1] at hf
        rw [if_neg hk0] at hf
        cases hf
  · subst ev
    dsimp only at hf
    refine lv_if_eq (tgt := 17) hx hb dL_wall_10 (by decide) (fun c0 => ?_) (fun c0 => ?_)
    · rw [if_pos c0] at hf
      refine lv_lconst (v := 0) hx hb dL_wall_17 (by decide) ?_
      refine jq_last B hP hS hO (jp_ok_vp (by decide)) dL_wall_18 (fun H locs hP hS => ?_)
      refine lv_goto (tgt := 30) hx hb dL_wall_19 (by decide) ?_
      refine lv_iconst (v := 0) hx hb dL_wall_30 (by decide) ?_
      exact jq_endi B hP hS (Nat.le_of_ble_eq_true rfl) (Nat.le_of_ble_eq_true rfl) dL_wall_31 (jp_inj hf)
    · rw [if_neg c0] at hf
      refine lv_lconst (v := 1) hx hb dL_wall_13 (by decide) ?_
      refine lv_goto (tgt := 18) hx hb dL_wall_14 (by decide) ?_
      refine jq_last B hP hS hO (jp_ok_vp (by decide)) dL_wall_18 (fun H locs hP hS => ?_)
      refine lv_goto (tgt := 30) hx hb dL_wall_19 (by decide) ?_
      refine lv_iconst (v := 0) hx hb dL_wall_30 (by decide) ?_
      exact jq_endi B hP hS (Nat.le_of_ble_eq_true rfl) (Nat.le_of_ble_eq_true rfl) dL_wall_31 (jp_inj hf)
-- L_start
def fL_start (n : Nat) (nc : Nat) (p1 : Int32) (p2 : Int32) (p3 : Int32) (σ : jp_I) (τ : jp_J) : Option (Int32 × jp_I × jp_J) :=
  (fX7_start n nc p1 p2 p3 σ τ).bind fun (o, σ1, τ1) => match o with
    | .inl v => if v = 0 then some (0, σ1, jp_upl τ1 30 (0 : Int32).toNatClampNeg 0) else some (0, σ1, jp_upl τ1 30 (0 : Int32).toNatClampNeg 1)
    | .inr k => if k = 0 then some (1, σ1, τ1) else if k = 1 then some (2, σ1, τ1) else none
set_option maxHeartbeats 4000000 in
set_option maxRecDepth 20000 in
theorem ctL_start {l : Launch} {Γ : jp_G} {Z : Nat → Option jp_Sh} {n : Nat} {nc : Nat} (hX0 : jp_hC Z n nc) (hO : Z 30 = some (3, 1, [])) (hst : l.stackTraces = false) {p1 : Int32} {p2 : Int32} {p3 : Int32} {σ σ0 : jp_I} {τ τ0 : jp_J} {r0 : Int32} (hf : fL_start n nc p1 p2 p3 σ τ = some (r0, σ0, τ0)) : jq_M l yL_start cL_start 6 [(0, 19, 22, 13), (0, 19, 26, 21)] 9 152 2 12 Γ Z σ τ [.ref (Γ.2.2.1 0), .int p1, .int p2, .int p3, .ref (Γ.2.2.1 30)] r0 σ0 τ0 := by
  refine jq_mk (lv := [(0, .ref (Γ.2.2.1 0)), (1, .int p1), (2, .int p2), (3, .int p3), (4, .ref (Γ.2.2.1 30))]) (by decide) (Nat.le_of_ble_eq_true rfl) rfl fun p e s m args below meth c B ht => ?_
  obtain ⟨hx, hb, hml, hown, hts, hr, hlk, hE⟩ := id B
  unfold fL_start at hf
  intro H locs ls hP hS hl
  obtain ⟨⟨o, σ1, τ1⟩, h1, hf⟩ := jp_bind hf
  dsimp only at hf
  refine lv_aload hx hb dL_start_0 (lv_at hl 4 rfl) ?_
  refine lv_iconst (v := 0) hx hb dL_start_2 (by decide) ?_
  refine lv_aload_n hx hb dL_start_3 rfl (lv_at hl 0 rfl) ?_
  refine lv_iload_n hx hb dL_start_4 rfl (lv_at hl 1 rfl) ?_
  refine lv_iload_n hx hb dL_start_5 rfl (lv_at hl 2 rfl) ?_
  refine lv_iload_n hx hb dL_start_6 rfl (lv_at hl 3 rfl) ?_
  refine jq_callVX (rest := [.int 0, .ref (Γ.2.2.1 30)]) B hP hS hl (ctX7_start hX0 hst h1) hX0.1 rfl mw_216 mw_213 mw_214 mw_215 mw_2 ddX7_start ⟨Nat.le_of_ble_eq_true rfl, Nat.le_of_ble_eq_true rfl⟩ ⟨Nat.le_of_ble_eq_true rfl, Nat.le_of_ble_eq_true rfl⟩ rfl (Nat.le_of_ble_eq_true rfl) dL_start_7 (fun k ek H locs hP hS q ce hce hcv hcl => ?_) (fun v ev H locs hP hS => ?_)
  · subst ek
    dsimp only at hf
    by_cases hk0 : k = 0
    · subst hk0
      rw [if_pos rfl] at hf
      refine jq_catch (E := jp_xc 0) (name := jp_xc 0) (own := RL) hown hce hcv hcl ⟨0, 19, 22, 13⟩ [⟨0, 19, 26, 21⟩] (by decide) (by decide) (hts _ mw_159) (jq_cast hE 0 (by decide)) (.inl ht) ?_
      refine lv_astore (lv' := [(5, .ref q), (0, .ref (Γ.2.2.1 0)), (1, .int p1), (2, .int p2), (3, .int p3), (4, .ref (Γ.2.2.1 30))]) hx hb dL_start_22 hl (by decide) rfl (fun ls hl => ?_)
      refine lv_iconst (v := 1) hx hb dL_start_24 (by decide) ?_
      exact jq_endi B hP hS (Nat.le_of_ble_eq_true rfl) (Nat.le_of_ble_eq_true rfl) dL_start_25 (jp_inj hf)
    · skip
      by_cases hk1 : k = 1
      · subst hk1
        rw [if_neg (by decide), if_pos rfl] at hf
        refine jq_catch (E := jp_xc 1) (name := jp_xc 1) (own := RL) hown hce hcv hcl ⟨0, 19, 26, 21⟩ [] (by decide) (by decide) (hts _ mw_182) (jq_cast hE 1 (by decide)) (.inr ⟨⟨0, 19, 22, 13⟩, jp_xc 0, ht, by decide, by decide, hts _ mw_159, jq_nc hE (by decide)⟩) ?_
        refine lv_astore (lv' := [(5, .ref q), (0, .ref (Γ.2.2.1 0)), (1, .int p1), (2, .int p2), (3, .int p3), (4, .ref (Γ.2.2.1 30))]) hx hb dL_start_26 hl (by decide) rfl (fun ls hl => ?_)
        refine lv_iconst (v := 2) hx hb dL_start_28 (by decide) ?_
        exact jq_endi B hP hS (Nat.le_of_ble_eq_true rfl) (Nat.le_of_ble_eq_true rfl) dL_start_29 (jp_inj hf)
      · rw [if_neg hk1] at hf
        rw [if_neg hk0] at hf
        cases hf
  · subst ev
    dsimp only at hf
    refine lv_if_eq (tgt := 17) hx hb dL_start_10 (by decide) (fun c0 => ?_) (fun c0 => ?_)
    · rw [if_pos c0] at hf
      refine lv_lconst (v := 0) hx hb dL_start_17 (by decide) ?_
      refine jq_last B hP hS hO (jp_ok_vp (by decide)) dL_start_18 (fun H locs hP hS => ?_)
      refine lv_goto (tgt := 30) hx hb dL_start_19 (by decide) ?_
      refine lv_iconst (v := 0) hx hb dL_start_30 (by decide) ?_
      exact jq_endi B hP hS (Nat.le_of_ble_eq_true rfl) (Nat.le_of_ble_eq_true rfl) dL_start_31 (jp_inj hf)
    · rw [if_neg c0] at hf
      refine lv_lconst (v := 1) hx hb dL_start_13 (by decide) ?_
      refine lv_goto (tgt := 18) hx hb dL_start_14 (by decide) ?_
      refine jq_last B hP hS hO (jp_ok_vp (by decide)) dL_start_18 (fun H locs hP hS => ?_)
      refine lv_goto (tgt := 30) hx hb dL_start_19 (by decide) ?_
      refine lv_iconst (v := 0) hx hb dL_start_30 (by decide) ?_
      exact jq_endi B hP hS (Nat.le_of_ble_eq_true rfl) (Nat.le_of_ble_eq_true rfl) dL_start_31 (jp_inj hf)
-- L_end
def fL_end (n : Nat) (nc : Nat) (p1 : Int32) (p2 : Int32) (p3 : Int32) (σ : jp_I) (τ : jp_J) : Option (Int32 × jp_I × jp_J) :=
  (fX7_end n nc p1 p2 p3 σ τ).bind fun (o, σ1, τ1) => match o with
    | .inl v => if v = 0 then some (0, σ1, jp_upl τ1 30 (0 : Int32).toNatClampNeg 0) else some (0, σ1, jp_upl τ1 30 (0 : Int32).toNatClampNeg 1)
    | .inr k => if k = 0 then some (1, σ1, τ1) else if k = 1 then some (2, σ1, τ1) else none
set_option maxHeartbeats 4000000 in
set_option maxRecDepth 20000 in
theorem ctL_end {l : Launch} {Γ : jp_G} {Z : Nat → Option jp_Sh} {n : Nat} {nc : Nat} (hX0 : jp_hC Z n nc) (hO : Z 30 = some (3, 1, [])) (hst : l.stackTraces = false) {p1 : Int32} {p2 : Int32} {p3 : Int32} {σ σ0 : jp_I} {τ τ0 : jp_J} {r0 : Int32} (hf : fL_end n nc p1 p2 p3 σ τ = some (r0, σ0, τ0)) : jq_M l yL_end cL_end 6 [(0, 19, 22, 13), (0, 19, 26, 21)] 9 152 2 12 Γ Z σ τ [.ref (Γ.2.2.1 0), .int p1, .int p2, .int p3, .ref (Γ.2.2.1 30)] r0 σ0 τ0 := by
  refine jq_mk (lv := [(0, .ref (Γ.2.2.1 0)), (1, .int p1), (2, .int p2), (3, .int p3), (4, .ref (Γ.2.2.1 30))]) (by decide) (Nat.le_of_ble_eq_true rfl) rfl fun p e s m args below meth c B ht => ?_
  obtain ⟨hx, hb, hml, hown, hts, hr, hlk, hE⟩ := id B
  unfold fL_end at hf
  intro H locs ls hP hS hl
  obtain ⟨⟨o, σ1, τ1⟩, h1, hf⟩ := jp_bind hf
  dsimp only at hf
  refine lv_aload hx hb dL_end_0 (lv_at hl 4 rfl) ?_
  refine lv_iconst (v := 0) hx hb dL_end_2 (by decide) ?_
  refine lv_aload_n hx hb dL_end_3 rfl (lv_at hl 0 rfl) ?_
  refine lv_iload_n hx hb dL_end_4 rfl (lv_at hl 1 rfl) ?_
  refine lv_iload_n hx hb dL_end_5 rfl (lv_at hl 2 rfl) ?_
  refine lv_iload_n hx hb dL_end_6 rfl (lv_at hl 3 rfl) ?_
  refine jq_callVX (rest := [.int 0, .ref (Γ.2.2.1 30)]) B hP hS hl (ctX7_end hX0 hst h1) hX0.1 rfl mw_240 mw_237 mw_238 mw_239 mw_2 ddX7_end ⟨Nat.le_of_ble_eq_true rfl, Nat.le_of_ble_eq_true rfl⟩ ⟨Nat.le_of_ble_eq_true rfl, Nat.le_of_ble_eq_true rfl⟩ rfl (Nat.le_of_ble_eq_true rfl) dL_end_7 (fun k ek H locs hP hS q ce hce hcv hcl => ?_) (fun v ev H locs hP hS => ?_)
  · subst ek
    dsimp only at hf
    by_cases hk0 : k = 0
    · subst hk0
      rw [if_pos rfl] at hf
      refine jq_catch (E := jp_xc 0) (name := jp_xc 0) (own := RL) hown hce hcv hcl ⟨0, 19, 22, 13⟩ [⟨0, 19, 26, 21⟩] (by decide) (by decide) (hts _ mw_159) (jq_cast hE 0 (by decide)) (.inl ht) ?_
      refine lv_astore (lv' := [(5, .ref q), (0, .ref (Γ.2.2.1 0)), (1, .int p1), (2, .int p2), (3, .int p3), (4, .ref (Γ.2.2.1 30))]) hx hb dL_end_22 hl (by decide) rfl (fun ls hl => ?_)
      refine lv_iconst (v := 1) hx hb dL_end_24 (by decide) ?_
      exact jq_endi B hP hS (Nat.le_of_ble_eq_true rfl) (Nat.le_of_ble_eq_true rfl) dL_end_25 (jp_inj hf)
    · skip
      by_cases hk1 : k = 1
      · subst hk1
        rw [if_neg (by decide), if_pos rfl] at hf
        refine jq_catch (E := jp_xc 1) (name := jp_xc 1) (own := RL) hown hce hcv hcl ⟨0, 19, 26, 21⟩ [] (by decide) (by decide) (hts _ mw_182) (jq_cast hE 1 (by decide)) (.inr ⟨⟨0, 19, 22, 13⟩, jp_xc 0, ht, by decide, by decide, hts _ mw_159, jq_nc hE (by decide)⟩) ?_
        refine lv_astore (lv' := [(5, .ref q), (0, .ref (Γ.2.2.1 0)), (1, .int p1), (2, .int p2), (3, .int p3), (4, .ref (Γ.2.2.1 30))]) hx hb dL_end_26 hl (by decide) rfl (fun ls hl => ?_)
        refine lv_iconst (v := 2) hx hb dL_end_28 (by decide) ?_
        exact jq_endi B hP hS (Nat.le_of_ble_eq_true rfl) (Nat.le_of_ble_eq_true rfl) dL_end_29 (jp_inj hf)
      · rw [if_neg hk1] at hf
        rw [if_neg hk0] at hf
        cases hf
  · subst ev
    dsimp only at hf
    refine lv_if_eq (tgt := 17) hx hb dL_end_10 (by decide) (fun c0 => ?_) (fun c0 => ?_)
    · rw [if_pos c0] at hf
      refine lv_lconst (v := 0) hx hb dL_end_17 (by decide) ?_
      refine jq_last B hP hS hO (jp_ok_vp (by decide)) dL_end_18 (fun H locs hP hS => ?_)
      refine lv_goto (tgt := 30) hx hb dL_end_19 (by decide) ?_
      refine lv_iconst (v := 0) hx hb dL_end_30 (by decide) ?_
      exact jq_endi B hP hS (Nat.le_of_ble_eq_true rfl) (Nat.le_of_ble_eq_true rfl) dL_end_31 (jp_inj hf)
    · rw [if_neg c0] at hf
      refine lv_lconst (v := 1) hx hb dL_end_13 (by decide) ?_
      refine lv_goto (tgt := 18) hx hb dL_end_14 (by decide) ?_
      refine jq_last B hP hS hO (jp_ok_vp (by decide)) dL_end_18 (fun H locs hP hS => ?_)
      refine lv_goto (tgt := 30) hx hb dL_end_19 (by decide) ?_
      refine lv_iconst (v := 0) hx hb dL_end_30 (by decide) ?_
      exact jq_endi B hP hS (Nat.le_of_ble_eq_true rfl) (Nat.le_of_ble_eq_true rfl) dL_end_31 (jp_inj hf)
-- L_seed
def fL_seed (n : Nat) (nc : Nat) (p1 : Int32) (σ : jp_I) (τ : jp_J) : Option (Int32 × jp_I × jp_J) :=
  (fX7_seed n nc p1 σ τ).bind fun (o, σ1, τ1) => match o with
    | .inl _v => some (0, σ1, τ1)
    | .inr k => if k = 0 then some (1, σ1, τ1) else none
set_option maxHeartbeats 4000000 in
set_option maxRecDepth 20000 in
theorem ctL_seed {l : Launch} {Γ : jp_G} {Z : Nat → Option jp_Sh} {n : Nat} {nc : Nat} (hX0 : jp_hC Z n nc) (hst : l.stackTraces = false) {p1 : Int32} {σ σ0 : jp_I} {τ τ0 : jp_J} {r0 : Int32} (hf : fL_seed n nc p1 σ τ = some (r0, σ0, τ0)) : jq_M l yL_seed cL_seed 3 [(0, 5, 8, 13)] 7 103 1 6 Γ Z σ τ [.ref (Γ.2.2.1 0), .int p1] r0 σ0 τ0 := by
  refine jq_mk (lv := [(0, .ref (Γ.2.2.1 0)), (1, .int p1)]) (by decide) (Nat.le_of_ble_eq_true rfl) rfl fun p e s m args below meth c B ht => ?_
  obtain ⟨hx, hb, hml, hown, hts, hr, hlk, hE⟩ := id B
  unfold fL_seed at hf
  intro H locs ls hP hS hl
  obtain ⟨⟨o, σ1, τ1⟩, h1, hf⟩ := jp_bind hf
  dsimp only at hf
  refine lv_aload_n hx hb dL_seed_0 rfl (lv_at hl 0 rfl) ?_
  refine lv_iload_n hx hb dL_seed_1 rfl (lv_at hl 1 rfl) ?_
  refine jq_callVX (rest := []) B hP hS hl (ctX7_seed hX0 hst h1) hX0.1 rfl mw_259 mw_256 mw_257 mw_258 mw_2 ddX7_seed ⟨Nat.le_of_ble_eq_true rfl, Nat.le_of_ble_eq_true rfl⟩ ⟨Nat.le_of_ble_eq_true rfl, Nat.le_of_ble_eq_true rfl⟩ rfl (Nat.le_of_ble_eq_true rfl) dL_seed_2 (fun k ek H locs hP hS q ce hce hcv hcl => ?_) (fun v ev H locs hP hS => ?_)
  · subst ek
    dsimp only at hf
    by_cases hk0 : k = 0
    · subst hk0
      rw [if_pos rfl] at hf
      refine jq_catch (E := jp_xc 0) (name := jp_xc 0) (own := RL) hown hce hcv hcl ⟨0, 5, 8, 13⟩ [] (by decide) (by decide) (hts _ mw_159) (jq_cast hE 0 (by decide)) (.inl ht) ?_
      refine lv_astore_n (lv' := [(2, .ref q), (0, .ref (Γ.2.2.1 0)), (1, .int p1)]) hx hb dL_seed_8 rfl hl (by decide) rfl (fun ls hl => ?_)
      refine lv_iconst (v := 1) hx hb dL_seed_9 (by decide) ?_
      exact jq_endi B hP hS (Nat.le_of_ble_eq_true rfl) (Nat.le_of_ble_eq_true rfl) dL_seed_10 (jp_inj hf)
    · rw [if_neg hk0] at hf
      cases hf
  · subst ev
    dsimp only at hf
    refine lv_goto (tgt := 11) hx hb dL_seed_5 (by decide) ?_
    refine lv_iconst (v := 0) hx hb dL_seed_11 (by decide) ?_
    exact jq_endi B hP hS (Nat.le_of_ble_eq_true rfl) (Nat.le_of_ble_eq_true rfl) dL_seed_12 (jp_inj hf)
-- L_solveJ
def fL_solveJ (n : Nat) (nc : Nat) (nl : Nat) (p1 : Int32) (σ : jp_I) (τ : jp_J) : Option (Int32 × jp_I × jp_J) :=
  (fX7_solveJ n nc nl p1 σ τ).bind fun (o, σ1, τ1) => match o with
    | .inl v => some (0, σ1, jp_upl τ1 30 (0 : Int32).toNatClampNeg v.toInt64)
    | .inr k => if k = 0 then some (1, σ1, τ1) else if k = 1 then some (2, σ1, τ1) else none
set_option maxHeartbeats 4000000 in
set_option maxRecDepth 20000 in
theorem ctL_solveJ {l : Launch} {Γ : jp_G} {Z : Nat → Option jp_Sh} {n : Nat} {nc : Nat} {nl : Nat} (hX0 : jp_hC Z n nc) (hX1 : jp_hJ Z n nc nl) (hO : Z 30 = some (3, 1, [])) (hst : l.stackTraces = false) {p1 : Int32} {σ σ0 : jp_I} {τ τ0 : jp_J} {r0 : Int32} (hf : fL_solveJ n nc nl p1 σ τ = some (r0, σ0, τ0)) : jq_M l yL_solve cL_solve 4 [(0, 9, 12, 13), (0, 9, 15, 21)] 8 166 1 6 Γ Z σ τ [.ref (Γ.2.2.1 0), .int p1, .ref (Γ.2.2.1 30)] r0 σ0 τ0 := by
  refine jq_mk (lv := [(0, .ref (Γ.2.2.1 0)), (1, .int p1), (2, .ref (Γ.2.2.1 30))]) (by decide) (Nat.le_of_ble_eq_true rfl) rfl fun p e s m args below meth c B ht => ?_
  obtain ⟨hx, hb, hml, hown, hts, hr, hlk, hE⟩ := id B
  unfold fL_solveJ at hf
  intro H locs ls hP hS hl
  obtain ⟨⟨o, σ1, τ1⟩, h1, hf⟩ := jp_bind hf
  dsimp only at hf
  refine lv_aload_n hx hb dL_solve_0 rfl (lv_at hl 2 rfl) ?_
  refine lv_iconst (v := 0) hx hb dL_solve_1 (by decide) ?_
  refine lv_aload_n hx hb dL_solve_2 rfl (lv_at hl 0 rfl) ?_
  refine lv_iload_n hx hb dL_solve_3 rfl (lv_at hl 1 rfl) ?_
  refine jq_callVX (rest := [.int 0, .ref (Γ.2.2.1 30)]) B hP hS hl (ctX7_solveJ hX0 hX1 hst h1) hX0.1 rfl mw_270 mw_267 mw_268 mw_269 mw_2 ddX7_solve ⟨Nat.le_of_ble_eq_true rfl, Nat.le_of_ble_eq_true rfl⟩ ⟨Nat.le_of_ble_eq_true rfl, Nat.le_of_ble_eq_true rfl⟩ rfl (Nat.le_of_ble_eq_true rfl) dL_solve_4 (fun k ek H locs hP hS q ce hce hcv hcl => ?_) (fun v ev H locs hP hS => ?_)
  · subst ek
    dsimp only at hf
    by_cases hk0 : k = 0
    · subst hk0
      rw [if_pos rfl] at hf
      refine jq_catch (E := jp_xc 0) (name := jp_xc 0) (own := RL) hown hce hcv hcl ⟨0, 9, 12, 13⟩ [⟨0, 9, 15, 21⟩] (by decide) (by decide) (hts _ mw_159) (jq_cast hE 0 (by decide)) (.inl ht) ?_
      refine lv_astore_n (lv' := [(3, .ref q), (0, .ref (Γ.2.2.1 0)), (1, .int p1), (2, .ref (Γ.2.2.1 30))]) hx hb dL_solve_12 rfl hl (by decide) rfl (fun ls hl => ?_)
      refine lv_iconst (v := 1) hx hb dL_solve_13 (by decide) ?_
      exact jq_endi B hP hS (Nat.le_of_ble_eq_true rfl) (Nat.le_of_ble_eq_true rfl) dL_solve_14 (jp_inj hf)
    · skip
      by_cases hk1 : k = 1
      · subst hk1
        rw [if_neg (by decide), if_pos rfl] at hf
        refine jq_catch (E := jp_xc 1) (name := jp_xc 1) (own := RL) hown hce hcv hcl ⟨0, 9, 15, 21⟩ [] (by decide) (by decide) (hts _ mw_182) (jq_cast hE 1 (by decide)) (.inr ⟨⟨0, 9, 12, 13⟩, jp_xc 0, ht, by decide, by decide, hts _ mw_159, jq_nc hE (by decide)⟩) ?_
        refine lv_astore_n (lv' := [(3, .ref q), (0, .ref (Γ.2.2.1 0)), (1, .int p1), (2, .ref (Γ.2.2.1 30))]) hx hb dL_solve_15 rfl hl (by decide) rfl (fun ls hl => ?_)
        refine lv_iconst (v := 2) hx hb dL_solve_16 (by decide) ?_
        exact jq_endi B hP hS (Nat.le_of_ble_eq_true rfl) (Nat.le_of_ble_eq_true rfl) dL_solve_17 (jp_inj hf)
      · rw [if_neg hk1] at hf
        rw [if_neg hk0] at hf
        cases hf
  · subst ev
    dsimp only at hf
    refine lv_i2l hx hb dL_solve_7 rfl ?_
    refine jq_last B hP hS hO (jp_ok_vp (by decide)) dL_solve_8 (fun H locs hP hS => ?_)
    refine lv_goto (tgt := 18) hx hb dL_solve_9 (by decide) ?_
    refine lv_iconst (v := 0) hx hb dL_solve_18 (by decide) ?_
    exact jq_endi B hP hS (Nat.le_of_ble_eq_true rfl) (Nat.le_of_ble_eq_true rfl) dL_solve_19 (jp_inj hf)
-- L_solveP
def fL_solveP (n : Nat) (nc : Nat) (p1 : Int32) (σ : jp_I) (τ : jp_J) : Option (Int32 × jp_I × jp_J) :=
  (fX7_solveP n nc p1 σ τ).bind fun (o, σ1, τ1) => match o with
    | .inl v => some (0, σ1, jp_upl τ1 30 (0 : Int32).toNatClampNeg v.toInt64)
    | .inr k => if k = 0 then some (1, σ1, τ1) else if k = 1 then some (2, σ1, τ1) else none
set_option maxHeartbeats 4000000 in
set_option maxRecDepth 20000 in
theorem ctL_solveP {l : Launch} {Γ : jp_G} {Z : Nat → Option jp_Sh} {n : Nat} {nc : Nat} (hX0 : jp_hC Z n nc) (hX1 : jp_hP Z n nc) (hO : Z 30 = some (3, 1, [])) (hst : l.stackTraces = false) {p1 : Int32} {σ σ0 : jp_I} {τ τ0 : jp_J} {r0 : Int32} (hf : fL_solveP n nc p1 σ τ = some (r0, σ0, τ0)) : jq_M l yL_solve cL_solve 4 [(0, 9, 12, 13), (0, 9, 15, 21)] 8 170 1 6 Γ Z σ τ [.ref (Γ.2.2.1 0), .int p1, .ref (Γ.2.2.1 30)] r0 σ0 τ0 := by
  refine jq_mk (lv := [(0, .ref (Γ.2.2.1 0)), (1, .int p1), (2, .ref (Γ.2.2.1 30))]) (by decide) (Nat.le_of_ble_eq_true rfl) rfl fun p e s m args below meth c B ht => ?_
  obtain ⟨hx, hb, hml, hown, hts, hr, hlk, hE⟩ := id B
  unfold fL_solveP at hf
  intro H locs ls hP hS hl
  obtain ⟨⟨o, σ1, τ1⟩, h1, hf⟩ := jp_bind hf
  dsimp only at hf
  refine lv_aload_n hx hb dL_solve_0 rfl (lv_at hl 2 rfl) ?_
  refine lv_iconst (v := 0) hx hb dL_solve_1 (by decide) ?_
  refine lv_aload_n hx hb dL_solve_2 rfl (lv_at hl 0 rfl) ?_
  refine lv_iload_n hx hb dL_solve_3 rfl (lv_at hl 1 rfl) ?_
  refine jq_callVX (rest := [.int 0, .ref (Γ.2.2.1 30)]) B hP hS hl (ctX7_solveP hX0 hX1 hst h1) hX0.1 rfl mw_270 mw_267 mw_268 mw_269 mw_2 ddX7_solve ⟨Nat.le_of_ble_eq_true rfl, Nat.le_of_ble_eq_true rfl⟩ ⟨Nat.le_of_ble_eq_true rfl, Nat.le_of_ble_eq_true rfl⟩ rfl (Nat.le_of_ble_eq_true rfl) dL_solve_4 (fun k ek H locs hP hS q ce hce hcv hcl => ?_) (fun v ev H locs hP hS => ?_)
  · subst ek
    dsimp only at hf
    by_cases hk0 : k = 0
    · subst hk0
      rw [if_pos rfl] at hf
      refine jq_catch (E := jp_xc 0) (name := jp_xc 0) (own := RL) hown hce hcv hcl ⟨0, 9, 12, 13⟩ [⟨0, 9, 15, 21⟩] (by decide) (by decide) (hts _ mw_159) (jq_cast hE 0 (by decide)) (.inl ht) ?_
      refine lv_astore_n (lv' := [(3, .ref q), (0, .ref (Γ.2.2.1 0)), (1, .int p1), (2, .ref (Γ.2.2.1 30))]) hx hb dL_solve_12 rfl hl (by decide) rfl (fun ls hl => ?_)
      refine lv_iconst (v := 1) hx hb dL_solve_13 (by decide) ?_
      exact jq_endi B hP hS (Nat.le_of_ble_eq_true rfl) (Nat.le_of_ble_eq_true rfl) dL_solve_14 (jp_inj hf)
    · skip
      by_cases hk1 : k = 1
      · subst hk1
        rw [if_neg (by decide), if_pos rfl] at hf
        refine jq_catch (E := jp_xc 1) (name := jp_xc 1) (own := RL) hown hce hcv hcl ⟨0, 9, 15, 21⟩ [] (by decide) (by decide) (hts _ mw_182) (jq_cast hE 1 (by decide)) (.inr ⟨⟨0, 9, 12, 13⟩, jp_xc 0, ht, by decide, by decide, hts _ mw_159, jq_nc hE (by decide)⟩) ?_
        refine lv_astore_n (lv' := [(3, .ref q), (0, .ref (Γ.2.2.1 0)), (1, .int p1), (2, .ref (Γ.2.2.1 30))]) hx hb dL_solve_15 rfl hl (by decide) rfl (fun ls hl => ?_)
        refine lv_iconst (v := 2) hx hb dL_solve_16 (by decide) ?_
        exact jq_endi B hP hS (Nat.le_of_ble_eq_true rfl) (Nat.le_of_ble_eq_true rfl) dL_solve_17 (jp_inj hf)
      · rw [if_neg hk1] at hf
        rw [if_neg hk0] at hf
        cases hf
  · subst ev
    dsimp only at hf
    refine lv_i2l hx hb dL_solve_7 rfl ?_
    refine jq_last B hP hS hO (jp_ok_vp (by decide)) dL_solve_8 (fun H locs hP hS => ?_)
    refine lv_goto (tgt := 18) hx hb dL_solve_9 (by decide) ?_
    refine lv_iconst (v := 0) hx hb dL_solve_18 (by decide) ?_
    exact jq_endi B hP hS (Nat.le_of_ble_eq_true rfl) (Nat.le_of_ble_eq_true rfl) dL_solve_19 (jp_inj hf)
-- L_at
def fL_at (n : Nat) (nc : Nat) (p1 : Int32) (p2 : Int32) (p3 : Int32) (σ : jp_I) (τ : jp_J) : Option (Int32 × jp_I × jp_J) :=
  (fX7_at n nc p1 p2 p3 σ τ).bind fun (o, σ1, τ1) => match o with
    | .inl v => some (0, σ1, jp_upl τ1 30 (0 : Int32).toNatClampNeg v.toInt64)
    | .inr k => if k = 0 then some (1, σ1, τ1) else if k = 1 then some (2, σ1, τ1) else none
set_option maxHeartbeats 4000000 in
set_option maxRecDepth 20000 in
theorem ctL_at {l : Launch} {Γ : jp_G} {Z : Nat → Option jp_Sh} {n : Nat} {nc : Nat} (hX0 : jp_hC Z n nc) (hO : Z 30 = some (3, 1, [])) (hst : l.stackTraces = false) {p1 : Int32} {p2 : Int32} {p3 : Int32} {σ σ0 : jp_I} {τ τ0 : jp_J} {r0 : Int32} (hf : fL_at n nc p1 p2 p3 σ τ = some (r0, σ0, τ0)) : jq_M l yL_at cL_at 6 [(0, 12, 15, 13), (0, 12, 19, 21)] 8 127 2 12 Γ Z σ τ [.ref (Γ.2.2.1 0), .int p1, .int p2, .int p3, .ref (Γ.2.2.1 30)] r0 σ0 τ0 := by
  refine jq_mk (lv := [(0, .ref (Γ.2.2.1 0)), (1, .int p1), (2, .int p2), (3, .int p3), (4, .ref (Γ.2.2.1 30))]) (by decide) (Nat.le_of_ble_eq_true rfl) rfl fun p e s m args below meth c B ht => ?_
  obtain ⟨hx, hb, hml, hown, hts, hr, hlk, hE⟩ := id B
  unfold fL_at at hf
  intro H locs ls hP hS hl
  obtain ⟨⟨o, σ1, τ1⟩, h1, hf⟩ := jp_bind hf
  dsimp only at hf
  refine lv_aload hx hb dL_at_0 (lv_at hl 4 rfl) ?_
  refine lv_iconst (v := 0) hx hb dL_at_2 (by decide) ?_
  refine lv_aload_n hx hb dL_at_3 rfl (lv_at hl 0 rfl) ?_
  refine lv_iload_n hx hb dL_at_4 rfl (lv_at hl 1 rfl) ?_
  refine lv_iload_n hx hb dL_at_5 rfl (lv_at hl 2 rfl) ?_
  refine lv_iload_n hx hb dL_at_6 rfl (lv_at hl 3 rfl) ?_
  refine jq_callVX (rest := [.int 0, .ref (Γ.2.2.1 30)]) B hP hS hl (ctX7_at hX0 hst h1) hX0.1 rfl mw_484 mw_481 mw_482 mw_483 mw_2 ddX7_at ⟨Nat.le_of_ble_eq_true rfl, Nat.le_of_ble_eq_true rfl⟩ ⟨Nat.le_of_ble_eq_true rfl, Nat.le_of_ble_eq_true rfl⟩ rfl (Nat.le_of_ble_eq_true rfl) dL_at_7 (fun k ek H locs hP hS q ce hce hcv hcl => ?_) (fun v ev H locs hP hS => ?_)
  · subst ek
    dsimp only at hf
    by_cases hk0 : k = 0
    · subst hk0
      rw [if_pos rfl] at hf
      refine jq_catch (E := jp_xc 0) (name := jp_xc 0) (own := RL) hown hce hcv hcl ⟨0, 12, 15, 13⟩ [⟨0, 12, 19, 21⟩] (by decide) (by decide) (hts _ mw_159) (jq_cast hE 0 (by decide)) (.inl ht) ?_
      refine lv_astore (lv' := [(5, .ref q), (0, .ref (Γ.2.2.1 0)), (1, .int p1), (2, .int p2), (3, .int p3), (4, .ref (Γ.2.2.1 30))]) hx hb dL_at_15 hl (by decide) rfl (fun ls hl => ?_)
      refine lv_iconst (v := 1) hx hb dL_at_17 (by decide) ?_
      exact jq_endi B hP hS (Nat.le_of_ble_eq_true rfl) (Nat.le_of_ble_eq_true rfl) dL_at_18 (jp_inj hf)
    · skip
      by_cases hk1 : k = 1
      · subst hk1
        rw [if_neg (by decide), if_pos rfl] at hf
        refine jq_catch (E := jp_xc 1) (name := jp_xc 1) (own := RL) hown hce hcv hcl ⟨0, 12, 19, 21⟩ [] (by decide) (by decide) (hts _ mw_182) (jq_cast hE 1 (by decide)) (.inr ⟨⟨0, 12, 15, 13⟩, jp_xc 0, ht, by decide, by decide, hts _ mw_159, jq_nc hE (by decide)⟩) ?_
        refine lv_astore (lv' := [(5, .ref q), (0, .ref (Γ.2.2.1 0)), (1, .int p1), (2, .int p2), (3, .int p3), (4, .ref (Γ.2.2.1 30))]) hx hb dL_at_19 hl (by decide) rfl (fun ls hl => ?_)
        refine lv_iconst (v := 2) hx hb dL_at_21 (by decide) ?_
        exact jq_endi B hP hS (Nat.le_of_ble_eq_true rfl) (Nat.le_of_ble_eq_true rfl) dL_at_22 (jp_inj hf)
      · rw [if_neg hk1] at hf
        rw [if_neg hk0] at hf
        cases hf
  · subst ev
    dsimp only at hf
    refine lv_i2l hx hb dL_at_10 rfl ?_
    refine jq_last B hP hS hO (jp_ok_vp (by decide)) dL_at_11 (fun H locs hP hS => ?_)
    refine lv_goto (tgt := 23) hx hb dL_at_12 (by decide) ?_
    refine lv_iconst (v := 0) hx hb dL_at_23 (by decide) ?_
    exact jq_endi B hP hS (Nat.le_of_ble_eq_true rfl) (Nat.le_of_ble_eq_true rfl) dL_at_24 (jp_inj hf)
-- L_last
def fL_last (n : Nat) (nc : Nat) (σ : jp_I) (τ : jp_J) : Option (Int32 × jp_I × jp_J) :=
  (fX7_last n nc σ τ).bind fun (o, σ1, τ1) => match o with
    | .inl v => some (0, σ1, jp_upl τ1 30 (0 : Int32).toNatClampNeg v.toInt64)
    | .inr k => if k = 1 then some (1, σ1, τ1) else none
set_option maxHeartbeats 4000000 in
set_option maxRecDepth 20000 in
theorem ctL_last {l : Launch} {Γ : jp_G} {Z : Nat → Option jp_Sh} {n : Nat} {nc : Nat} (hX0 : jp_hC Z n nc) (hO : Z 30 = some (3, 1, [])) (hst : l.stackTraces = false) {σ σ0 : jp_I} {τ τ0 : jp_J} {r0 : Int32} (hf : fL_last n nc σ τ = some (r0, σ0, τ0)) : jq_M l yL_last cL_last 3 [(0, 8, 11, 21)] 8 122 1 6 Γ Z σ τ [.ref (Γ.2.2.1 0), .ref (Γ.2.2.1 30)] r0 σ0 τ0 := by
  refine jq_mk (lv := [(0, .ref (Γ.2.2.1 0)), (1, .ref (Γ.2.2.1 30))]) (by decide) (Nat.le_of_ble_eq_true rfl) rfl fun p e s m args below meth c B ht => ?_
  obtain ⟨hx, hb, hml, hown, hts, hr, hlk, hE⟩ := id B
  unfold fL_last at hf
  intro H locs ls hP hS hl
  obtain ⟨⟨o, σ1, τ1⟩, h1, hf⟩ := jp_bind hf
  dsimp only at hf
  refine lv_aload_n hx hb dL_last_0 rfl (lv_at hl 1 rfl) ?_
  refine lv_iconst (v := 0) hx hb dL_last_1 (by decide) ?_
  refine lv_aload_n hx hb dL_last_2 rfl (lv_at hl 0 rfl) ?_
  refine jq_callVX (rest := [.int 0, .ref (Γ.2.2.1 30)]) B hP hS hl (ctX7_last hX0 hst h1) hX0.1 rfl mw_499 mw_496 mw_497 mw_498 mw_2 ddX7_last ⟨Nat.le_of_ble_eq_true rfl, Nat.le_of_ble_eq_true rfl⟩ ⟨Nat.le_of_ble_eq_true rfl, Nat.le_of_ble_eq_true rfl⟩ rfl (Nat.le_of_ble_eq_true rfl) dL_last_3 (fun k ek H locs hP hS q ce hce hcv hcl => ?_) (fun v ev H locs hP hS => ?_)
  · subst ek
    dsimp only at hf
    by_cases hk0 : k = 1
    · subst hk0
      rw [if_pos rfl] at hf
      refine jq_catch (E := jp_xc 1) (name := jp_xc 1) (own := RL) hown hce hcv hcl ⟨0, 8, 11, 21⟩ [] (by decide) (by decide) (hts _ mw_182) (jq_cast hE 1 (by decide)) (.inl ht) ?_
      refine lv_astore_n (lv' := [(2, .ref q), (0, .ref (Γ.2.2.1 0)), (1, .ref (Γ.2.2.1 30))]) hx hb dL_last_11 rfl hl (by decide) rfl (fun ls hl => ?_)
      refine lv_iconst (v := 1) hx hb dL_last_12 (by decide) ?_
      exact jq_endi B hP hS (Nat.le_of_ble_eq_true rfl) (Nat.le_of_ble_eq_true rfl) dL_last_13 (jp_inj hf)
    · rw [if_neg hk0] at hf
      cases hf
  · subst ev
    dsimp only at hf
    refine lv_i2l hx hb dL_last_6 rfl ?_
    refine jq_last B hP hS hO (jp_ok_vp (by decide)) dL_last_7 (fun H locs hP hS => ?_)
    refine lv_goto (tgt := 14) hx hb dL_last_8 (by decide) ?_
    refine lv_iconst (v := 0) hx hb dL_last_14 (by decide) ?_
    exact jq_endi B hP hS (Nat.le_of_ble_eq_true rfl) (Nat.le_of_ble_eq_true rfl) dL_last_15 (jp_inj hf)
-- L_alone
def fL_alone (n : Nat) (nc : Nat) (p1 : Int32) (σ : jp_I) (τ : jp_J) : Option (Int32 × jp_I × jp_J) :=
  (fX7_alone n nc p1 σ τ).bind fun (o, σ1, τ1) => match o with
    | .inl v => some (0, σ1, jp_upl τ1 30 (0 : Int32).toNatClampNeg v.toInt64)
    | .inr k => if k = 0 then some (1, σ1, τ1) else if k = 1 then some (2, σ1, τ1) else none
set_option maxHeartbeats 4000000 in
set_option maxRecDepth 20000 in
theorem ctL_alone {l : Launch} {Γ : jp_G} {Z : Nat → Option jp_Sh} {n : Nat} {nc : Nat} (hX0 : jp_hC Z n nc) (hO : Z 30 = some (3, 1, [])) (hst : l.stackTraces = false) {p1 : Int32} {σ σ0 : jp_I} {τ τ0 : jp_J} {r0 : Int32} (hf : fL_alone n nc p1 σ τ = some (r0, σ0, τ0)) : jq_M l yL_alone cL_alone 4 [(0, 9, 12, 13), (0, 9, 15, 21)] 8 134 2 12 Γ Z σ τ [.ref (Γ.2.2.1 0), .int p1, .ref (Γ.2.2.1 30)] r0 σ0 τ0 := by
  refine jq_mk (lv := [(0, .ref (Γ.2.2.1 0)), (1, .int p1), (2, .ref (Γ.2.2.1 30))]) (by decide) (Nat.le_of_ble_eq_true rfl) rfl fun p e s m args below meth c B ht => ?_
  obtain ⟨hx, hb, hml, hown, hts, hr, hlk, hE⟩ := id B
  unfold fL_alone at hf
  intro H locs ls hP hS hl
  obtain ⟨⟨o, σ1, τ1⟩, h1, hf⟩ := jp_bind hf
  dsimp only at hf
  refine lv_aload_n hx hb dL_alone_0 rfl (lv_at hl 2 rfl) ?_
  refine lv_iconst (v := 0) hx hb dL_alone_1 (by decide) ?_
  refine lv_aload_n hx hb dL_alone_2 rfl (lv_at hl 0 rfl) ?_
  refine lv_iload_n hx hb dL_alone_3 rfl (lv_at hl 1 rfl) ?_
  refine jq_callVX (rest := [.int 0, .ref (Γ.2.2.1 30)]) B hP hS hl (ctX7_alone hX0 hst h1) hX0.1 rfl mw_510 mw_507 mw_508 mw_509 mw_2 ddX7_alone ⟨Nat.le_of_ble_eq_true rfl, Nat.le_of_ble_eq_true rfl⟩ ⟨Nat.le_of_ble_eq_true rfl, Nat.le_of_ble_eq_true rfl⟩ rfl (Nat.le_of_ble_eq_true rfl) dL_alone_4 (fun k ek H locs hP hS q ce hce hcv hcl => ?_) (fun v ev H locs hP hS => ?_)
  · subst ek
    dsimp only at hf
    by_cases hk0 : k = 0
    · subst hk0
      rw [if_pos rfl] at hf
      refine jq_catch (E := jp_xc 0) (name := jp_xc 0) (own := RL) hown hce hcv hcl ⟨0, 9, 12, 13⟩ [⟨0, 9, 15, 21⟩] (by decide) (by decide) (hts _ mw_159) (jq_cast hE 0 (by decide)) (.inl ht) ?_
      refine lv_astore_n (lv' := [(3, .ref q), (0, .ref (Γ.2.2.1 0)), (1, .int p1), (2, .ref (Γ.2.2.1 30))]) hx hb dL_alone_12 rfl hl (by decide) rfl (fun ls hl => ?_)
      refine lv_iconst (v := 1) hx hb dL_alone_13 (by decide) ?_
      exact jq_endi B hP hS (Nat.le_of_ble_eq_true rfl) (Nat.le_of_ble_eq_true rfl) dL_alone_14 (jp_inj hf)
    · skip
      by_cases hk1 : k = 1
      · subst hk1
        rw [if_neg (by decide), if_pos rfl] at hf
        refine jq_catch (E := jp_xc 1) (name := jp_xc 1) (own := RL) hown hce hcv hcl ⟨0, 9, 15, 21⟩ [] (by decide) (by decide) (hts _ mw_182) (jq_cast hE 1 (by decide)) (.inr ⟨⟨0, 9, 12, 13⟩, jp_xc 0, ht, by decide, by decide, hts _ mw_159, jq_nc hE (by decide)⟩) ?_
        refine lv_astore_n (lv' := [(3, .ref q), (0, .ref (Γ.2.2.1 0)), (1, .int p1), (2, .ref (Γ.2.2.1 30))]) hx hb dL_alone_15 rfl hl (by decide) rfl (fun ls hl => ?_)
        refine lv_iconst (v := 2) hx hb dL_alone_16 (by decide) ?_
        exact jq_endi B hP hS (Nat.le_of_ble_eq_true rfl) (Nat.le_of_ble_eq_true rfl) dL_alone_17 (jp_inj hf)
      · rw [if_neg hk1] at hf
        rw [if_neg hk0] at hf
        cases hf
  · subst ev
    dsimp only at hf
    refine lv_i2l hx hb dL_alone_7 rfl ?_
    refine jq_last B hP hS hO (jp_ok_vp (by decide)) dL_alone_8 (fun H locs hP hS => ?_)
    refine lv_goto (tgt := 18) hx hb dL_alone_9 (by decide) ?_
    refine lv_iconst (v := 0) hx hb dL_alone_18 (by decide) ?_
    exact jq_endi B hP hS (Nat.le_of_ble_eq_true rfl) (Nat.le_of_ble_eq_true rfl) dL_alone_19 (jp_inj hf)
-- L_bound
def fL_bound (n : Nat) (nc : Nat) (σ : jp_I) (τ : jp_J) : Option (Int32 × jp_I × jp_J) :=
  (fX7_bound n nc σ τ).bind fun (o, σ1, τ1) => match o with
    | .inl v => some (0, σ1, jp_upl τ1 30 (0 : Int32).toNatClampNeg v.toInt64)
    | .inr k => if k = 1 then some (1, σ1, τ1) else none
set_option maxHeartbeats 4000000 in
set_option maxRecDepth 20000 in
theorem ctL_bound {l : Launch} {Γ : jp_G} {Z : Nat → Option jp_Sh} {n : Nat} {nc : Nat} (hX0 : jp_hC Z n nc) (hO : Z 30 = some (3, 1, [])) (hst : l.stackTraces = false) {σ σ0 : jp_I} {τ τ0 : jp_J} {r0 : Int32} (hf : fL_bound n nc σ τ = some (r0, σ0, τ0)) : jq_M l yL_bound cL_bound 3 [(0, 8, 11, 21)] 8 156 1 6 Γ Z σ τ [.ref (Γ.2.2.1 0), .ref (Γ.2.2.1 30)] r0 σ0 τ0 := by
  refine jq_mk (lv := [(0, .ref (Γ.2.2.1 0)), (1, .ref (Γ.2.2.1 30))]) (by decide) (Nat.le_of_ble_eq_true rfl) rfl fun p e s m args below meth c B ht => ?_
  obtain ⟨hx, hb, hml, hown, hts, hr, hlk, hE⟩ := id B
  unfold fL_bound at hf
  intro H locs ls hP hS hl
  obtain ⟨⟨o, σ1, τ1⟩, h1, hf⟩ := jp_bind hf
  dsimp only at hf
  refine lv_aload_n hx hb dL_bound_0 rfl (lv_at hl 1 rfl) ?_
  refine lv_iconst (v := 0) hx hb dL_bound_1 (by decide) ?_
  refine lv_aload_n hx hb dL_bound_2 rfl (lv_at hl 0 rfl) ?_
  refine jq_callVX (rest := [.int 0, .ref (Γ.2.2.1 30)]) B hP hS hl (ctX7_bound hX0 hst h1) hX0.1 rfl mw_536 mw_533 mw_534 mw_535 mw_2 ddX7_bound ⟨Nat.le_of_ble_eq_true rfl, Nat.le_of_ble_eq_true rfl⟩ ⟨Nat.le_of_ble_eq_true rfl, Nat.le_of_ble_eq_true rfl⟩ rfl (Nat.le_of_ble_eq_true rfl) dL_bound_3 (fun k ek H locs hP hS q ce hce hcv hcl => ?_) (fun v ev H locs hP hS => ?_)
  · subst ek
    dsimp only at hf
    by_cases hk0 : k = 1
    · subst hk0
      rw [if_pos rfl] at hf
      refine jq_catch (E := jp_xc 1) (name := jp_xc 1) (own := RL) hown hce hcv hcl ⟨0, 8, 11, 21⟩ [] (by decide) (by decide) (hts _ mw_182) (jq_cast hE 1 (by decide)) (.inl ht) ?_
      refine lv_astore_n (lv' := [(2, .ref q), (0, .ref (Γ.2.2.1 0)), (1, .ref (Γ.2.2.1 30))]) hx hb dL_bound_11 rfl hl (by decide) rfl (fun ls hl => ?_)
      refine lv_iconst (v := 1) hx hb dL_bound_12 (by decide) ?_
      exact jq_endi B hP hS (Nat.le_of_ble_eq_true rfl) (Nat.le_of_ble_eq_true rfl) dL_bound_13 (jp_inj hf)
    · rw [if_neg hk0] at hf
      cases hf
  · subst ev
    dsimp only at hf
    refine lv_i2l hx hb dL_bound_6 rfl ?_
    refine jq_last B hP hS hO (jp_ok_vp (by decide)) dL_bound_7 (fun H locs hP hS => ?_)
    refine lv_goto (tgt := 14) hx hb dL_bound_8 (by decide) ?_
    refine lv_iconst (v := 0) hx hb dL_bound_14 (by decide) ?_
    exact jq_endi B hP hS (Nat.le_of_ble_eq_true rfl) (Nat.le_of_ble_eq_true rfl) dL_bound_15 (jp_inj hf)
-- L_share
def fL_share (n : Nat) (nc : Nat) (σ : jp_I) (τ : jp_J) : Option (Int32 × jp_I × jp_J) :=
  (fX7_share n nc σ τ).bind fun (o, σ1, τ1) => match o with
    | .inl v => some (0, σ1, jp_upl τ1 30 (0 : Int32).toNatClampNeg v.toInt64)
    | .inr k => if k = 1 then some (1, σ1, τ1) else if k = 3 then some (2, σ1, τ1) else none
set_option maxHeartbeats 4000000 in
set_option maxRecDepth 20000 in
theorem ctL_share {l : Launch} {Γ : jp_G} {Z : Nat → Option jp_Sh} {n : Nat} {nc : Nat} (hX0 : jp_hC Z n nc) (hO : Z 30 = some (3, 1, [])) (hst : l.stackTraces = false) {σ σ0 : jp_I} {τ τ0 : jp_J} {r0 : Int32} (hf : fL_share n nc σ τ = some (r0, σ0, τ0)) : jq_M l yL_share cL_share 3 [(0, 8, 11, 21), (0, 8, 14, 55)] 8 157 3 18 Γ Z σ τ [.ref (Γ.2.2.1 0), .ref (Γ.2.2.1 30)] r0 σ0 τ0 := by
  refine jq_mk (lv := [(0, .ref (Γ.2.2.1 0)), (1, .ref (Γ.2.2.1 30))]) (by decide) (Nat.le_of_ble_eq_true rfl) rfl fun p e s m args below meth c B ht => ?_
  obtain ⟨hx, hb, hml, hown, hts, hr, hlk, hE⟩ := id B
  unfold fL_share at hf
  intro H locs ls hP hS hl
  obtain ⟨⟨o, σ1, τ1⟩, h1, hf⟩ := jp_bind hf
  dsimp only at hf
  refine lv_aload_n hx hb dL_share_0 rfl (lv_at hl 1 rfl) ?_
  refine lv_iconst (v := 0) hx hb dL_share_1 (by decide) ?_
  refine lv_aload_n hx hb dL_share_2 rfl (lv_at hl 0 rfl) ?_
  refine jq_callVX (rest := [.int 0, .ref (Γ.2.2.1 30)]) B hP hS hl (ctX7_share hX0 hst h1) hX0.1 rfl mw_556 mw_553 mw_554 mw_555 mw_2 ddX7_share ⟨Nat.le_of_ble_eq_true rfl, Nat.le_of_ble_eq_true rfl⟩ ⟨Nat.le_of_ble_eq_true rfl, Nat.le_of_ble_eq_true rfl⟩ rfl (Nat.le_of_ble_eq_true rfl) dL_share_3 (fun k ek H locs hP hS q ce hce hcv hcl => ?_) (fun v ev H locs hP hS => ?_)
  · subst ek
    dsimp only at hf
    by_cases hk0 : k = 1
    · subst hk0
      rw [if_pos rfl] at hf
      refine jq_catch (E := jp_xc 1) (name := jp_xc 1) (own := RL) hown hce hcv hcl ⟨0, 8, 11, 21⟩ [⟨0, 8, 14, 55⟩] (by decide) (by decide) (hts _ mw_182) (jq_cast hE 1 (by decide)) (.inl ht) ?_
      refine lv_astore_n (lv' := [(2, .ref q), (0, .ref (Γ.2.2.1 0)), (1, .ref (Γ.2.2.1 30))]) hx hb dL_share_11 rfl hl (by decide) rfl (fun ls hl => ?_)
      refine lv_iconst (v := 1) hx hb dL_share_12 (by decide) ?_
      exact jq_endi B hP hS (Nat.le_of_ble_eq_true rfl) (Nat.le_of_ble_eq_true rfl) dL_share_13 (jp_inj hf)
    · skip
      by_cases hk1 : k = 3
      · subst hk1
        rw [if_neg (by decide), if_pos rfl] at hf
        refine jq_catch (E := jp_xc 3) (name := jp_xc 3) (own := RL) hown hce hcv hcl ⟨0, 8, 14, 55⟩ [] (by decide) (by decide) (hts _ mw_552) (jq_cast hE 3 (by decide)) (.inr ⟨⟨0, 8, 11, 21⟩, jp_xc 1, ht, by decide, by decide, hts _ mw_182, jq_nc hE (by decide)⟩) ?_
        refine lv_astore_n (lv' := [(2, .ref q), (0, .ref (Γ.2.2.1 0)), (1, .ref (Γ.2.2.1 30))]) hx hb dL_share_14 rfl hl (by decide) rfl (fun ls hl => ?_)
        refine lv_iconst (v := 2) hx hb dL_share_15 (by decide) ?_
        exact jq_endi B hP hS (Nat.le_of_ble_eq_true rfl) (Nat.le_of_ble_eq_true rfl) dL_share_16 (jp_inj hf)
      · rw [if_neg hk1] at hf
        rw [if_neg hk0] at hf
        cases hf
  · subst ev
    dsimp only at hf
    refine lv_i2l hx hb dL_share_6 rfl ?_
    refine jq_last B hP hS hO (jp_ok_vp (by decide)) dL_share_7 (fun H locs hP hS => ?_)
    refine lv_goto (tgt := 17) hx hb dL_share_8 (by decide) ?_
    refine lv_iconst (v := 0) hx hb dL_share_17 (by decide) ?_
    exact jq_endi B hP hS (Nat.le_of_ble_eq_true rfl) (Nat.le_of_ble_eq_true rfl) dL_share_18 (jp_inj hf)
