theorem jq_c17 {j : Nat} (h : j < 17) : j = 0 ∨ j = 1 ∨ j = 2 ∨ j = 3 ∨ j = 4 ∨ j = 5 ∨ j = 6 ∨ j = 7 ∨ j = 8 ∨ j = 9 ∨ j = 10 ∨ j = 11 ∨ j = 12 ∨ j = 13 ∨ j = 14 ∨ j = 15 ∨ j = 16 := by omega
-- the law from its entry to its loop's head
def jq_cv (L : Nat) (xs : Nat → Int32) : Int32 := if nI L ≤ 0 then 0 else xs 0
def jq_CP (Γ : jp_G) (Z : Nat → Option jp_Sh) (σ : jp_I) (τ : jp_J) (b L : Nat) (xs : Nat → Int32) (U : State) : Prop := jp_Pre Γ Z σ τ U ∧ va_X b L xs U U.heap ∧ b < U.heap.size ∧ ¬ jp_A Γ b
set_option maxHeartbeats 1000000 in
theorem ctL_cell {l : Launch} {Γ : jp_G} {Z : Nat → Option jp_Sh} {σ : jp_I} {τ : jp_J} {b L : Nat} {xs : Nat → Int32} : Met l yL_cell (jp_W yL_cell cL_cell 2 (some .int)) (jp_R 0 0) (va_Pc [.ref b, .int 0] (jq_CP Γ Z σ τ b L xs)) (jp_Q Γ Z (some (.int (jq_cv L xs))) σ τ) 0 0 (jp_A Γ) := by
  refine Met.ofW (cc := cL_cell) (maxL := 2) (ret := some .int) (by decide) rfl ?_
  intro p e s m args below meth c s₁ B hml hv
  obtain ⟨rfl, ⟨hP, hE⟩, hX, hbl, hbA⟩ := hv
  have hts := atoms_spec (ws := jp_W yL_cell cL_cell 2 (some .int)) B.pre
  have hl := lv_entry [.ref b, .int 0] (n := 2) (Nat.le_of_ble_eq_true rfl)
  rw [lg_entry_eq]
  have BB : jp_B Γ p s m #[.ref b, .int 0] meth c RL cL_cell 2 (some .int) := ⟨B.exec, B.bytes, hml, findClass_of_methodNamed B.named, fun w hw => hts w (List.mem_cons_of_mem _ hw), B.returns, B.notSynchronized, hE⟩
  obtain ⟨hx, hb, hml, hown, hts, hr, hlk, hE⟩ := id BB
  generalize (lg_sl ([.ref b, .int 0]) ++ List.replicate (2 - (lg_sl ([.ref b, .int 0])).length) Slot.unset).toArray = ls at hl ⊢
  have hl : lv_has ls 2 [(0, .ref b), (1, .int 0)] := hl
  have hS : va_S (jp_A Γ) s.heap s.heap [] := va_S.rf
  refine lv_iload_n hx hb dL_cell_0 rfl (lv_at hl 1 rfl) ?_
  refine lv_aload_n hx hb dL_cell_1 rfl (lv_at hl 0 rfl) ?_
  refine jq_slen BB hX hbl hbA hS dL_cell_2 ?_
  refine lv_icmp_ge (tgt := 12) hx hb dL_cell_3 (by decide) (fun c0 => ?_) (fun c0 => ?_)
  · refine lv_iconst (v := 0) hx hb dL_cell_12 (by decide) ?_
    exact jp_endi BB hP hS dL_cell_13 ⟨by rw [jq_cv, if_pos c0], rfl, rfl⟩
  · have hpos : 0 < L := by
      refine Nat.pos_of_ne_zero fun q => c0 ?_
      rw [q]; decide
    refine lv_aload_n hx hb dL_cell_6 rfl (lv_at hl 0 rfl) ?_
    refine lv_iload_n hx hb dL_cell_7 rfl (lv_at hl 1 rfl) ?_
    refine jq_sld BB hX hbl hbA hS (i := 0) (jp_ok_vp (by simp [jp_ok]; exact hpos)) dL_cell_8 ?_
    refine lv_goto (tgt := 13) hx hb dL_cell_9 (by decide) ?_
    exact jp_endi BB hP hS dL_cell_13 ⟨by rw [jq_cv, if_neg c0]; rfl, rfl, rfl⟩
theorem jq_callC {p : Program} {l : Launch} {e : Jvm.Env} {R : Room} {s : State} {m : MethodId} {args : Array Value} {below : List Frame} {meth : Method} {c : Code} {H : Heap} {locs : List Loc} {cells slots : Nat} {Q : State → Prop} {cc : ByteArray} {pc : Nat} {ls : Array Slot} {rest : List Value} {Γ : jp_G} {Z : Nat → Option jp_Sh} {σ : jp_I} {τ : jp_J} {n : Nat} {ret : Option FieldType} {lv : List (Nat × Value)} {b L : Nat} {xs : Nat → Int32}
    (B : jp_B Γ p s m args meth c RL cc n ret) (hP : jp_P Γ Z σ τ H) (hS : va_S (jp_A Γ) s.heap H locs) (hl : lv_has ls n lv) (hX : va_X b L xs s s.heap) (hbl : b < s.heap.size) (hbA : ¬ jp_A Γ b) (hR : 1 ≤ R.frames ∧ 21 ≤ R.locals) (hf : cells ≤ R.cells ∧ slots ≤ R.slots) (hW : (rest.map fun v => v.category).sum ≤ 8) (hdg : decode cc pc = .ok (.invokestatic 57, 3))
    (kk : ∀ (H1 : Heap) (locs1 : List Loc), jp_P Γ Z σ τ H1 → va_S (jp_A Γ) s.heap H1 locs1 → W p l e R s m args below meth c H1 locs1 cells slots Q (F0 m (pc + 3) ls (.int (jq_cv L xs) :: rest))) : W p l e R s m args below meth c H locs cells slots Q (F0 m pc ls (.int 0 :: .ref b :: rest)) := by
  have hts := B.2.2.2.2.1
  have hpre : PreS s H (va_Pc [.ref b, .int 0] (jq_CP Γ Z σ τ b L xs)) [.ref b, .int 0] :=
    ⟨fun a U g mk q => ⟨q.1, ⟨q.2.1.1, jp_E.same q.2.1.2 rfl rfl⟩, va_X.moved (Vm.Alike.refl U.vm) q.2.2.1, q.2.2.2⟩,
     fun U hU hW => ⟨rfl, ⟨by rw [hU]; exact hP, jp_E.moved B.2.2.2.2.2.2.2 hW (by rw [hU]; exact hS.1) (fun q h1 h2 => by rw [hU]; exact hS.2.1 q h1 h2)⟩, va_X.moved hW.alike (by rw [hU]; exact hX.kept (hS.2.1 b hbl hbA)), by rw [hU]; exact Nat.lt_of_lt_of_le hbl hS.1, hbA⟩⟩
  refine jp_after (av := [.ref b, .int 0]) (va_runS (As := [.ref b, .int 0]) (rest := rest) ⟨B.1, B.2.1, B.2.2.1, B.2.2.2.1, hts⟩ (ctL_cell (b := b) (L := L) (xs := xs)) ⟨callB_of 2 hts (jp_good (y := yL_cell) (cc := cc) (n := n) (ret := ret) mw_10) rfl rfl rfl (hts _ mw_9) (hts _ mw_7) ddL_cell ⟨hR.1, hR.2⟩, hts _ mw_8⟩ hpre rfl rfl hl.1 rfl (lv_room hW) hdg hf) hS kk
def jq_poJ (i : Nat) : Nat := if i = 0 then 0 else if i = 1 then 1 else if i = 2 then 2 else if i = 5 then 3 else if i = 6 then 4 else if i = 7 then 5 else if i = 8 then 6 else if i = 3 then 7 else if i = 4 then 8 else if i = 9 then 9 else if i = 10 then 10 else if i = 13 then 11 else if i = 14 then 12 else if i = 15 then 13 else if i = 11 then 14 else if i = 12 then 15 else if i = 20 then 16 else if i = 21 then 17 else if i = 22 then 18 else if i = 23 then 19 else if i = 24 then 20 else if i = 25 then 21 else if i = 26 then 22 else if i = 27 then 23 else if i = 30 then 24 else 0
def jq_ZJ (n : Nat) (nl : Nat) (nc : Nat) : Nat → Option jp_Sh := jp_zu (zX8_init (jp_zu (zX7_initJ n nl nc (jp_zu (fun _ => none) 0 (0, 7, [(0, 0), (3, 0), (3, 0), (3, 0), (3, 0)]))) 20 (0, 8, [(0, 0), (0, 0), (0, 0), (0, 0), (3, 0), (3, 0), (3, 0), (0, 0), (2, 0), (0, 0), (0, 0), (0, 0), (0, 0), (3, 0), (3, 0), (3, 0), (3, 0)]))) 30 (3, 1, [])
theorem jq_ZJ_C (n : Nat) (nl : Nat) (nc : Nat) : jp_hC (jq_ZJ n nl nc) n nc := ⟨(by unfold jq_ZJ; rw [jp_zu_n _ _ (by decide), zX8_init_n _ (by decide), jp_zu_n _ _ (by decide)]; exact zX7_initJ_0 n nl nc _), ⟨(by unfold jq_ZJ; rw [jp_zu_n _ _ (by decide), zX8_init_n _ (by decide), jp_zu_n _ _ (by decide)]; exact zX7_initJ_1 n nl nc _), (by unfold jq_ZJ; rw [jp_zu_n _ _ (by decide), zX8_init_n _ (by decide), jp_zu_n _ _ (by decide)]; exact zX7_initJ_3 n nl nc _), (by unfold jq_ZJ; rw [jp_zu_n _ _ (by decide), zX8_init_n _ (by decide), jp_zu_n _ _ (by decide)]; exact zX7_initJ_4 n nl nc _), ⟨(by unfold jq_ZJ; rw [jp_zu_n _ _ (by decide), zX8_init_n _ (by decide), jp_zu_n _ _ (by decide)]; exact zX7_initJ_2 n nl nc _), (by unfold jq_ZJ; rw [jp_zu_n _ _ (by decide), zX8_init_n _ (by decide), jp_zu_n _ _ (by decide)]; exact zX7_initJ_5 n nl nc _), (by unfold jq_ZJ; rw [jp_zu_n _ _ (by decide), zX8_init_n _ (by decide), jp_zu_n _ _ (by decide)]; exact zX7_initJ_6 n nl nc _), (by unfold jq_ZJ; rw [jp_zu_n _ _ (by decide), zX8_init_n _ (by decide), jp_zu_n _ _ (by decide)]; exact zX7_initJ_7 n nl nc _), (by unfold jq_ZJ; rw [jp_zu_n _ _ (by decide), zX8_init_n _ (by decide), jp_zu_n _ _ (by decide)]; exact zX7_initJ_8 n nl nc _)⟩⟩, ⟨(by unfold jq_ZJ; rw [jp_zu_n _ _ (by decide), zX8_init_n _ (by decide), jp_zu_n _ _ (by decide)]; exact zX7_initJ_9 n nl nc _), (by unfold jq_ZJ; rw [jp_zu_n _ _ (by decide), zX8_init_n _ (by decide), jp_zu_n _ _ (by decide)]; exact zX7_initJ_10 n nl nc _)⟩, ⟨(by unfold jq_ZJ; rw [jp_zu_n _ _ (by decide), zX8_init_n _ (by decide), jp_zu_n _ _ (by decide)]; exact zX7_initJ_11 n nl nc _), (by unfold jq_ZJ; rw [jp_zu_n _ _ (by decide), zX8_init_n _ (by decide), jp_zu_n _ _ (by decide)]; exact zX7_initJ_12 n nl nc _)⟩⟩
theorem jq_ZJ_J (n : Nat) (nl : Nat) (nc : Nat) : jp_hJ (jq_ZJ n nl nc) n nc nl := ⟨(by unfold jq_ZJ; rw [jp_zu_n _ _ (by decide), zX8_init_n _ (by decide), jp_zu_n _ _ (by decide)]; exact zX7_initJ_13 n nl nc _), (by unfold jq_ZJ; rw [jp_zu_n _ _ (by decide), zX8_init_n _ (by decide), jp_zu_n _ _ (by decide)]; exact zX7_initJ_14 n nl nc _), (by unfold jq_ZJ; rw [jp_zu_n _ _ (by decide), zX8_init_n _ (by decide), jp_zu_n _ _ (by decide)]; exact zX7_initJ_15 n nl nc _), ⟨(by unfold jq_ZJ; rw [jp_zu_n _ _ (by decide), zX8_init_n _ (by decide), jp_zu_n _ _ (by decide)]; exact zX7_initJ_1 n nl nc _), (by unfold jq_ZJ; rw [jp_zu_n _ _ (by decide), zX8_init_n _ (by decide), jp_zu_n _ _ (by decide)]; exact zX7_initJ_3 n nl nc _), (by unfold jq_ZJ; rw [jp_zu_n _ _ (by decide), zX8_init_n _ (by decide), jp_zu_n _ _ (by decide)]; exact zX7_initJ_4 n nl nc _), ⟨(by unfold jq_ZJ; rw [jp_zu_n _ _ (by decide), zX8_init_n _ (by decide), jp_zu_n _ _ (by decide)]; exact zX7_initJ_2 n nl nc _), (by unfold jq_ZJ; rw [jp_zu_n _ _ (by decide), zX8_init_n _ (by decide), jp_zu_n _ _ (by decide)]; exact zX7_initJ_5 n nl nc _), (by unfold jq_ZJ; rw [jp_zu_n _ _ (by decide), zX8_init_n _ (by decide), jp_zu_n _ _ (by decide)]; exact zX7_initJ_6 n nl nc _), (by unfold jq_ZJ; rw [jp_zu_n _ _ (by decide), zX8_init_n _ (by decide), jp_zu_n _ _ (by decide)]; exact zX7_initJ_7 n nl nc _), (by unfold jq_ZJ; rw [jp_zu_n _ _ (by decide), zX8_init_n _ (by decide), jp_zu_n _ _ (by decide)]; exact zX7_initJ_8 n nl nc _)⟩⟩, ⟨(by unfold jq_ZJ; rw [jp_zu_n _ _ (by decide), zX8_init_n _ (by decide), jp_zu_n _ _ (by decide)]; exact zX7_initJ_11 n nl nc _), (by unfold jq_ZJ; rw [jp_zu_n _ _ (by decide), zX8_init_n _ (by decide), jp_zu_n _ _ (by decide)]; exact zX7_initJ_12 n nl nc _)⟩⟩
theorem jq_ZJ_M (n : Nat) (nl : Nat) (nc : Nat) : jp_hM (jq_ZJ n nl nc) := ⟨(by unfold jq_ZJ; rw [jp_zu_n _ _ (by decide)]; exact zX8_init_20 _), (by unfold jq_ZJ; rw [jp_zu_n _ _ (by decide)]; exact zX8_init_21 _), (by unfold jq_ZJ; rw [jp_zu_n _ _ (by decide)]; exact zX8_init_22 _), (by unfold jq_ZJ; rw [jp_zu_n _ _ (by decide)]; exact zX8_init_23 _), (by unfold jq_ZJ; rw [jp_zu_n _ _ (by decide)]; exact zX8_init_24 _), (by unfold jq_ZJ; rw [jp_zu_n _ _ (by decide)]; exact zX8_init_25 _), (by unfold jq_ZJ; rw [jp_zu_n _ _ (by decide)]; exact zX8_init_26 _), (by unfold jq_ZJ; rw [jp_zu_n _ _ (by decide)]; exact zX8_init_27 _)⟩
theorem jq_ZJ_O (n : Nat) (nl : Nat) (nc : Nat) : jq_ZJ n nl nc 30 = some (3, 1, []) := jp_zu_s _ _ _
set_option maxHeartbeats 4000000 in
set_option maxRecDepth 20000 in
theorem jq_startJ {p : Program} {e : Jvm.Env} {s : State} {m : MethodId} {below : List Frame} {meth : Method} {c : Code} (l : Launch) (hst : l.stackTraces = false) {b L : Nat} {xs : Nat → Int32} (hL : L ≤ 2049) (C0 : lw_At p s m meth c b L xs) {n nl nc : Nat} {σ1 σ2 : jp_I} {τ1 τ2 : jp_J} (h1 : fX7_initJ n nl nc (jq_cv L xs) (jp_z (fun _ _ => 0) 0) (jp_zl (fun _ _ => 0) 0) = some (σ1, τ1)) (h2 : fX8_init (jq_cv L xs) (jp_z σ1 20) (jp_zl τ1 20) = some (σ2, τ2))
    {Inv : jp_I → jp_J → Prop} (hI : Inv σ2 (jp_zl τ2 30)) (hstep : ∀ (j : Nat) (σ : jp_I) (τ : jp_J), 1 ≤ j → j + 4 ≤ L → Inv σ τ → ∃ (σ' : jp_I) (τ' : jp_J), fRoundJ n nc nl L xs (nI j) σ τ = some (σ', τ') ∧ Inv σ' τ') : W p l e room_1 s m #[Value.ref b] below meth c s.heap [] 0 0 (lw_Z below #[Value.ref b] s) (entryFrame m ([Value.ref b] : List Value).toArray 7) := by
  obtain ⟨hx, hb, hr, hml, hown, hts0, hX, hbl, hlocks, hgv⟩ := id C0
  obtain ⟨D, cA, fx, hE0⟩ := jq_env C0
  have hEa := hE0 (fun i => if 40 ≤ i then fx i else s.heap.size + jq_poJ i) (fun i h => if_pos h)
  have had : ∀ i, i < 40 → (fun i => if 40 ≤ i then fx i else s.heap.size + jq_poJ i) i = s.heap.size + jq_poJ i := fun i h => if_neg (Nat.not_le.mpr h)
  generalize (fun i => if 40 ≤ i then fx i else s.heap.size + jq_poJ i) = ad at hEa had
  obtain ⟨Γ, hΓ⟩ : ∃ Γ : jp_G, Γ = (D, cA, ad, s.heap.size) := ⟨_, rfl⟩
  rw [← hΓ] at hEa
  have hΓa : Γ.2.2.1 = ad := by rw [hΓ]
  have hΓh : Γ.2.2.2 = s.heap.size := by rw [hΓ]
  have ha_0 : Γ.2.2.1 0 = s.heap.size + 0 := by rw [hΓa]; exact had 0 (by decide)
  have ha_1 : Γ.2.2.1 1 = s.heap.size + 1 := by rw [hΓa]; exact had 1 (by decide)
  have ha_2 : Γ.2.2.1 2 = s.heap.size + 2 := by rw [hΓa]; exact had 2 (by decide)
  have ha_5 : Γ.2.2.1 5 = s.heap.size + 3 := by rw [hΓa]; exact had 5 (by decide)
  have ha_6 : Γ.2.2.1 6 = s.heap.size + 4 := by rw [hΓa]; exact had 6 (by decide)
  have ha_7 : Γ.2.2.1 7 = s.heap.size + 5 := by rw [hΓa]; exact had 7 (by decide)
  have ha_8 : Γ.2.2.1 8 = s.heap.size + 6 := by rw [hΓa]; exact had 8 (by decide)
  have ha_3 : Γ.2.2.1 3 = s.heap.size + 7 := by rw [hΓa]; exact had 3 (by decide)
  have ha_4 : Γ.2.2.1 4 = s.heap.size + 8 := by rw [hΓa]; exact had 4 (by decide)
  have ha_9 : Γ.2.2.1 9 = s.heap.size + 9 := by rw [hΓa]; exact had 9 (by decide)
  have ha_10 : Γ.2.2.1 10 = s.heap.size + 10 := by rw [hΓa]; exact had 10 (by decide)
  have ha_13 : Γ.2.2.1 13 = s.heap.size + 11 := by rw [hΓa]; exact had 13 (by decide)
  have ha_14 : Γ.2.2.1 14 = s.heap.size + 12 := by rw [hΓa]; exact had 14 (by decide)
  have ha_15 : Γ.2.2.1 15 = s.heap.size + 13 := by rw [hΓa]; exact had 15 (by decide)
  have ha_11 : Γ.2.2.1 11 = s.heap.size + 14 := by rw [hΓa]; exact had 11 (by decide)
  have ha_12 : Γ.2.2.1 12 = s.heap.size + 15 := by rw [hΓa]; exact had 12 (by decide)
  have ha_20 : Γ.2.2.1 20 = s.heap.size + 16 := by rw [hΓa]; exact had 20 (by decide)
  have ha_21 : Γ.2.2.1 21 = s.heap.size + 17 := by rw [hΓa]; exact had 21 (by decide)
  have ha_22 : Γ.2.2.1 22 = s.heap.size + 18 := by rw [hΓa]; exact had 22 (by decide)
  have ha_23 : Γ.2.2.1 23 = s.heap.size + 19 := by rw [hΓa]; exact had 23 (by decide)
  have ha_24 : Γ.2.2.1 24 = s.heap.size + 20 := by rw [hΓa]; exact had 24 (by decide)
  have ha_25 : Γ.2.2.1 25 = s.heap.size + 21 := by rw [hΓa]; exact had 25 (by decide)
  have ha_26 : Γ.2.2.1 26 = s.heap.size + 22 := by rw [hΓa]; exact had 26 (by decide)
  have ha_27 : Γ.2.2.1 27 = s.heap.size + 23 := by rw [hΓa]; exact had 27 (by decide)
  have ha_30 : Γ.2.2.1 30 = s.heap.size + 24 := by rw [hΓa]; exact had 30 (by decide)
  have hsz : s.heap.size = s.heap.size := rfl
  have B : jp_B Γ p s m #[Value.ref b] meth c RL cL_law 7 (some .boolean) := ⟨hx, hb, hml, hown, fun w hw => hts0 w (jp_sub w hw), hr, hlocks, hEa⟩
  have hts := B.2.2.2.2.1
  have hbA : ¬ jp_A Γ b := by show ¬ Γ.2.2.2 ≤ b; rw [hΓh]; exact Nat.not_le.mpr hbl
  have hl := lv_entry ([.ref b]) (n := 7) (Nat.le_of_ble_eq_true rfl)
  rw [lg_entry_eq]
  generalize (lg_sl ([.ref b]) ++ List.replicate (7 - (lg_sl ([.ref b])).length) Slot.unset).toArray = ls at hl ⊢
  have hl : lv_has ls 7 [(0, .ref b)] := hl
  obtain ⟨H, hH⟩ : ∃ H, H = s.heap := ⟨_, rfl⟩
  obtain ⟨locs, hlocs⟩ : ∃ l0 : List Loc, l0 = [] := ⟨_, rfl⟩
  have hS : va_S (jp_A Γ) s.heap H locs := by rw [hH, hlocs]; exact va_S.rf
  have hP : jp_P Γ (fun _ => none) (fun _ _ => 0) (fun _ _ => 0) H := ⟨fun i sh h => (by cases h), fun i j h => absurd rfl h⟩
  have hz : H.size = s.heap.size + 0 := by rw [hH]; rfl
  show W p l e _ s m _ below meth c s.heap [] 0 0 _ _
  rw [← hlocs]
  conv => arg 11; rw [← hH]
  refine jp_new (fs := [(0, 0), (3, 0), (3, 0), (3, 0), (3, 0)]) B hP hS hz (id := 0) (ci := 7) rfl (jp_ad0 ha_0 hsz rfl) rfl jp_fX7 tyX7 tyX7_ok mw_0 mw_1 mw_2 (fun j hj => by rcases jp_c5 hj with rfl | rfl | rfl | rfl | rfl <;> simp [jp_fl, jp_fv, jp_z, jp_zl, vp_V, tyX7, defaultValue]) (Nat.le_of_ble_eq_true rfl) (Nat.le_of_ble_eq_true rfl) dL_law_0 (fun H hP hS hz => ?_)
  obtain ⟨Z_1, hZ_1⟩ : ∃ z, z = jp_zu (fun _ => none) 0 (0, 7, [(0, 0), (3, 0), (3, 0), (3, 0), (3, 0)]) := ⟨_, rfl⟩
  rw [← hZ_1] at hP
  have q_0 : Z_1 0 = some (0, 7, [(0, 0), (3, 0), (3, 0), (3, 0), (3, 0)]) := by rw [hZ_1]; exact jp_zu_s _ _ _
  have q_n : ∀ i, i ≠ 0 → Z_1 i = none := fun i h => by rw [hZ_1, jp_zu_n _ _ h]
  refine lv_dup hx hb dL_law_3 rfl ?_
  refine lv_aload_n hx hb dL_law_4 rfl (lv_at hl 0 rfl) ?_
  refine lv_iconst (v := 0) hx hb dL_law_5 (by decide) ?_
  refine jq_callC (rest := [.ref (Γ.2.2.1 0), .ref (Γ.2.2.1 0)]) B hP hS hl hX hbl hbA ⟨Nat.le_of_ble_eq_true rfl, Nat.le_of_ble_eq_true rfl⟩ ⟨Nat.le_of_ble_eq_true rfl, Nat.le_of_ble_eq_true rfl⟩ (Nat.le_of_ble_eq_true rfl) dL_law_6 (fun H locs hP hS => ?_)
  refine jp_size (last := 0) hP q_0 (jp_ad1 ha_0 hsz rfl) (fun hz => ?_)
  refine jp_callI (rest := [.ref (Γ.2.2.1 0)]) B hP hS hz hl (ctX7_initJ q_0 (q_n 1 (by decide)) (q_n 2 (by decide)) (q_n 5 (by decide)) (q_n 6 (by decide)) (q_n 7 (by decide)) (q_n 8 (by decide)) (q_n 3 (by decide)) (q_n 4 (by decide)) (q_n 9 (by decide)) (q_n 10 (by decide)) (q_n 13 (by decide)) (q_n 14 (by decide)) (q_n 15 (by decide)) (q_n 11 (by decide)) (q_n 12 (by decide)) (jp_ad1 ha_0 hsz rfl) (jp_ad2 ha_1 hsz rfl) (jp_ad2 ha_2 hsz rfl) (jp_ad2 ha_5 hsz rfl) (jp_ad2 ha_6 hsz rfl) (jp_ad2 ha_7 hsz rfl) (jp_ad2 ha_8 hsz rfl) (jp_ad2 ha_3 hsz rfl) (jp_ad2 ha_4 hsz rfl) (jp_ad2 ha_9 hsz rfl) (jp_ad2 ha_10 hsz rfl) (jp_ad2 ha_13 hsz rfl) (jp_ad2 ha_14 hsz rfl) (jp_ad2 ha_15 hsz rfl) (jp_ad2 ha_11 hsz rfl) (jp_ad2 ha_12 hsz rfl) h1) rfl mw_13 mw_11 mw_12 mw_2 ddX7_init ⟨Nat.le_of_ble_eq_true rfl, Nat.le_of_ble_eq_true rfl⟩ ⟨Nat.le_of_ble_eq_true rfl, Nat.le_of_ble_eq_true rfl⟩ rfl (Nat.le_of_ble_eq_true rfl) dL_law_9 (fun H locs hP hS => ?_)
  refine lv_astore_n (lv' := [(1, .ref (Γ.2.2.1 0)), (0, .ref b)]) hx hb dL_law_12 rfl hl (by decide) rfl (fun ls hl => ?_)
  obtain ⟨Z_2, hZ_2⟩ : ∃ z, z = zX7_initJ n nl nc Z_1 := ⟨_, rfl⟩
  rw [← hZ_2] at hP
  have q_l : Z_2 12 = some (1, nc, []) := by rw [hZ_2]; exact zX7_initJ_12 n nl nc _
  have q_n2 : ∀ i, ¬ i ∈ [0, 1, 2, 5, 6, 7, 8, 3, 4, 9, 10, 13, 14, 15, 11, 12] → Z_2 i = none := fun i h => by rw [hZ_2, zX7_initJ_n n nl nc _ h]; exact q_n i (fun q => h (by rw [q]; decide))
  refine jp_size (last := 12) hP q_l (jp_ad1 ha_12 hsz rfl) (fun hz => ?_)
  refine jp_new (fs := [(0, 0), (0, 0), (0, 0), (0, 0), (3, 0), (3, 0), (3, 0), (0, 0), (2, 0), (0, 0), (0, 0), (0, 0), (0, 0), (3, 0), (3, 0), (3, 0), (3, 0)]) B hP hS hz (id := 20) (ci := 8) (q_n2 20 (by decide)) (jp_ad0 ha_20 hsz rfl) rfl jp_fX8 tyX8 tyX8_ok mw_3 mw_4 mw_5 (fun j hj => by rcases jq_c17 hj with rfl | rfl | rfl | rfl | rfl | rfl | rfl | rfl | rfl | rfl | rfl | rfl | rfl | rfl | rfl | rfl | rfl <;> simp [jp_fl, jp_fv, jp_z, jp_zl, vp_V, tyX8, defaultValue]) (Nat.le_of_ble_eq_true rfl) (Nat.le_of_ble_eq_true rfl) dL_law_13 (fun H hP hS hz => ?_)
  obtain ⟨Z_3, hZ_3⟩ : ∃ z, z = jp_zu Z_2 20 (0, 8, [(0, 0), (0, 0), (0, 0), (0, 0), (3, 0), (3, 0), (3, 0), (0, 0), (2, 0), (0, 0), (0, 0), (0, 0), (0, 0), (3, 0), (3, 0), (3, 0), (3, 0)]) := ⟨_, rfl⟩
  rw [← hZ_3] at hP
  have q_20 : Z_3 20 = some (0, 8, [(0, 0), (0, 0), (0, 0), (0, 0), (3, 0), (3, 0), (3, 0), (0, 0), (2, 0), (0, 0), (0, 0), (0, 0), (0, 0), (3, 0), (3, 0), (3, 0), (3, 0)]) := by rw [hZ_3]; exact jp_zu_s _ _ _
  have q_n3 : ∀ i, ¬ i ∈ [20, 0, 1, 2, 5, 6, 7, 8, 3, 4, 9, 10, 13, 14, 15, 11, 12] → Z_3 i = none := fun i h => by rw [hZ_3, jp_zu_n _ _ (fun q => h (by rw [q]; decide))]; exact q_n2 i (fun q => h (List.mem_cons_of_mem _ q))
  refine lv_dup hx hb dL_law_16 rfl ?_
  refine lv_aload_n hx hb dL_law_17 rfl (lv_at hl 1 rfl) ?_
  refine lv_iconst (v := 0) hx hb dL_law_18 (by decide) ?_
  refine jq_callC (rest := [.ref (Γ.2.2.1 20), .ref (Γ.2.2.1 20)]) B hP hS hl hX hbl hbA ⟨Nat.le_of_ble_eq_true rfl, Nat.le_of_ble_eq_true rfl⟩ ⟨Nat.le_of_ble_eq_true rfl, Nat.le_of_ble_eq_true rfl⟩ (Nat.le_of_ble_eq_true rfl) dL_law_19 (fun H locs hP hS => ?_)
  refine jp_size (last := 20) hP q_20 (jp_ad1 ha_20 hsz rfl) (fun hz => ?_)
  refine jp_callI (rest := [.ref (Γ.2.2.1 20)]) B hP hS hz hl (ctX8_init q_20 (q_n3 21 (by decide)) (q_n3 22 (by decide)) (q_n3 23 (by decide)) (q_n3 24 (by decide)) (q_n3 25 (by decide)) (q_n3 26 (by decide)) (q_n3 27 (by decide)) (jp_ad1 ha_20 hsz rfl) (jp_ad2 ha_21 hsz rfl) (jp_ad2 ha_22 hsz rfl) (jp_ad2 ha_23 hsz rfl) (jp_ad2 ha_24 hsz rfl) (jp_ad2 ha_25 hsz rfl) (jp_ad2 ha_26 hsz rfl) (jp_ad2 ha_27 hsz rfl) h2) rfl mw_132 mw_130 mw_131 mw_5 ddX8_init ⟨Nat.le_of_ble_eq_true rfl, Nat.le_of_ble_eq_true rfl⟩ ⟨Nat.le_of_ble_eq_true rfl, Nat.le_of_ble_eq_true rfl⟩ rfl (Nat.le_of_ble_eq_true rfl) dL_law_22 (fun H locs hP hS => ?_)
  obtain ⟨Z_4, hZ_4⟩ : ∃ z, z = zX8_init Z_3 := ⟨_, rfl⟩
  rw [← hZ_4] at hP
  have q_27 : Z_4 27 = some (1, 1476, []) := by rw [hZ_4]; exact zX8_init_27 _
  have q_30 : Z_4 30 = none := by rw [hZ_4, zX8_init_n _ (by decide)]; exact q_n3 30 (by decide)
  refine lv_astore_n (lv' := [(2, .ref (Γ.2.2.1 20)), (1, .ref (Γ.2.2.1 0)), (0, .ref b)]) hx hb dL_law_25 rfl hl (by decide) rfl (fun ls hl => ?_)
  refine lv_iconst (v := 1) hx hb dL_law_26 (by decide) ?_
  refine jp_size (last := 27) hP q_27 (jp_ad1 ha_27 hsz rfl) (fun hz => ?_)
  refine jp_newl (M := 1) B hP hS hz (id := 30) q_30 (jp_ad0 ha_30 hsz rfl) mw_6 (by decide) (by decide) (Nat.le_refl _) (by decide) (Nat.le_of_ble_eq_true rfl) (Nat.le_of_ble_eq_true rfl) dL_law_27 (fun H hP hS hz => ?_)
  have hZe : jp_zu Z_4 30 (3, 1, []) = jq_ZJ n nl nc := by rw [hZ_4, hZ_3, hZ_2, hZ_1]; rfl
  have hP : jp_P Γ (jq_ZJ n nl nc) σ2 (jp_zl τ2 30) H := hZe ▸ hP
  refine lv_astore_n (lv' := [(3, .ref (Γ.2.2.1 30)), (2, .ref (Γ.2.2.1 20)), (1, .ref (Γ.2.2.1 0)), (0, .ref b)]) hx hb dL_law_29 rfl hl (by decide) rfl (fun ls hl => ?_)
  refine lv_iconst (v := 1) hx hb dL_law_30 (by decide) ?_
  refine lv_istore (lv' := [(4, .int 1), (3, .ref (Γ.2.2.1 30)), (2, .ref (Γ.2.2.1 20)), (1, .ref (Γ.2.2.1 0)), (0, .ref b)]) hx hb dL_law_31 hl (by decide) rfl (fun ls hl => ?_)
  have hl5 : lv_has ls 7 [(0, .ref b), (1, .ref (Γ.2.2.1 0)), (2, .ref (Γ.2.2.1 20)), (3, .ref (Γ.2.2.1 30)), (4, .int (nI 1))] := lv_sub hl [4, 3, 2, 1, 0] rfl
  refine jq_loop (Inv := Inv) (fR := fun i σ τ => fRoundJ n nc nl L xs i σ τ) B hX hbl hbA hL hstep ?_ ?_ 512 1 _ _ σ2 (jp_zl τ2 30) (by decide) (by decide) (by omega) (Nat.le_of_ble_eq_true rfl) (Nat.le_of_ble_eq_true rfl) hI H locs ls hP hS hl5
  · intro i cells slots σ σ' τ τ' hc0 hs0 hf kk
    exact wRoundJ B (jq_ZJ_C n nl nc) (jq_ZJ_J n nl nc) (jq_ZJ_M n nl nc) (jq_ZJ_O n nl nc) hst hX hbl hbA hc0 hs0 hf kk
  · intro cells slots H locs ls hc hs hS
    refine va_forget (fun q hq => by have := hS.2.2 q hq; rw [← hΓh]; exact this) ?_
    refine lv_iconst (v := 1) hx hb dL_law_890 (by decide) ?_
    exact W.widen hc hs (lw_ret hx hb hr hlocks dL_law_891)
def jq_poP (i : Nat) : Nat := if i = 0 then 0 else if i = 1 then 1 else if i = 2 then 2 else if i = 5 then 3 else if i = 6 then 4 else if i = 7 then 5 else if i = 8 then 6 else if i = 3 then 7 else if i = 4 then 8 else if i = 9 then 9 else if i = 10 then 10 else if i = 13 then 11 else if i = 16 then 12 else if i = 17 then 13 else if i = 14 then 14 else if i = 15 then 15 else if i = 11 then 16 else if i = 12 then 17 else if i = 20 then 18 else if i = 21 then 19 else if i = 22 then 20 else if i = 23 then 21 else if i = 24 then 22 else if i = 25 then 23 else if i = 26 then 24 else if i = 27 then 25 else if i = 30 then 26 else 0
def jq_ZP (n : Nat) (nc : Nat) : Nat → Option jp_Sh := jp_zu (zX8_init (jp_zu (zX7_initP n nc (jp_zu (fun _ => none) 0 (0, 7, [(0, 0), (3, 0), (3, 0), (3, 0), (3, 0)]))) 20 (0, 8, [(0, 0), (0, 0), (0, 0), (0, 0), (3, 0), (3, 0), (3, 0), (0, 0), (2, 0), (0, 0), (0, 0), (0, 0), (0, 0), (3, 0), (3, 0), (3, 0), (3, 0)]))) 30 (3, 1, [])
theorem jq_ZP_C (n : Nat) (nc : Nat) : jp_hC (jq_ZP n nc) n nc := ⟨(by unfold jq_ZP; rw [jp_zu_n _ _ (by decide), zX8_init_n _ (by decide), jp_zu_n _ _ (by decide)]; exact zX7_initP_0 n nc _), ⟨(by unfold jq_ZP; rw [jp_zu_n _ _ (by decide), zX8_init_n _ (by decide), jp_zu_n _ _ (by decide)]; exact zX7_initP_1 n nc _), (by unfold jq_ZP; rw [jp_zu_n _ _ (by decide), zX8_init_n _ (by decide), jp_zu_n _ _ (by decide)]; exact zX7_initP_3 n nc _), (by unfold jq_ZP; rw [jp_zu_n _ _ (by decide), zX8_init_n _ (by decide), jp_zu_n _ _ (by decide)]; exact zX7_initP_4 n nc _), ⟨(by unfold jq_ZP; rw [jp_zu_n _ _ (by decide), zX8_init_n _ (by decide), jp_zu_n _ _ (by decide)]; exact zX7_initP_2 n nc _), (by unfold jq_ZP; rw [jp_zu_n _ _ (by decide), zX8_init_n _ (by decide), jp_zu_n _ _ (by decide)]; exact zX7_initP_5 n nc _), (by unfold jq_ZP; rw [jp_zu_n _ _ (by decide), zX8_init_n _ (by decide), jp_zu_n _ _ (by decide)]; exact zX7_initP_6 n nc _), (by unfold jq_ZP; rw [jp_zu_n _ _ (by decide), zX8_init_n _ (by decide), jp_zu_n _ _ (by decide)]; exact zX7_initP_7 n nc _), (by unfold jq_ZP; rw [jp_zu_n _ _ (by decide), zX8_init_n _ (by decide), jp_zu_n _ _ (by decide)]; exact zX7_initP_8 n nc _)⟩⟩, ⟨(by unfold jq_ZP; rw [jp_zu_n _ _ (by decide), zX8_init_n _ (by decide), jp_zu_n _ _ (by decide)]; exact zX7_initP_9 n nc _), (by unfold jq_ZP; rw [jp_zu_n _ _ (by decide), zX8_init_n _ (by decide), jp_zu_n _ _ (by decide)]; exact zX7_initP_10 n nc _)⟩, ⟨(by unfold jq_ZP; rw [jp_zu_n _ _ (by decide), zX8_init_n _ (by decide), jp_zu_n _ _ (by decide)]; exact zX7_initP_11 n nc _), (by unfold jq_ZP; rw [jp_zu_n _ _ (by decide), zX8_init_n _ (by decide), jp_zu_n _ _ (by decide)]; exact zX7_initP_12 n nc _)⟩⟩
theorem jq_ZP_P (n : Nat) (nc : Nat) : jp_hP (jq_ZP n nc) n nc := ⟨(by unfold jq_ZP; rw [jp_zu_n _ _ (by decide), zX8_init_n _ (by decide), jp_zu_n _ _ (by decide)]; exact zX7_initP_13 n nc _), (by unfold jq_ZP; rw [jp_zu_n _ _ (by decide), zX8_init_n _ (by decide), jp_zu_n _ _ (by decide)]; exact zX7_initP_16 n nc _), (by unfold jq_ZP; rw [jp_zu_n _ _ (by decide), zX8_init_n _ (by decide), jp_zu_n _ _ (by decide)]; exact zX7_initP_17 n nc _), ⟨(by unfold jq_ZP; rw [jp_zu_n _ _ (by decide), zX8_init_n _ (by decide), jp_zu_n _ _ (by decide)]; exact zX7_initP_1 n nc _), (by unfold jq_ZP; rw [jp_zu_n _ _ (by decide), zX8_init_n _ (by decide), jp_zu_n _ _ (by decide)]; exact zX7_initP_3 n nc _), (by unfold jq_ZP; rw [jp_zu_n _ _ (by decide), zX8_init_n _ (by decide), jp_zu_n _ _ (by decide)]; exact zX7_initP_4 n nc _), ⟨(by unfold jq_ZP; rw [jp_zu_n _ _ (by decide), zX8_init_n _ (by decide), jp_zu_n _ _ (by decide)]; exact zX7_initP_2 n nc _), (by unfold jq_ZP; rw [jp_zu_n _ _ (by decide), zX8_init_n _ (by decide), jp_zu_n _ _ (by decide)]; exact zX7_initP_5 n nc _), (by unfold jq_ZP; rw [jp_zu_n _ _ (by decide), zX8_init_n _ (by decide), jp_zu_n _ _ (by decide)]; exact zX7_initP_6 n nc _), (by unfold jq_ZP; rw [jp_zu_n _ _ (by decide), zX8_init_n _ (by decide), jp_zu_n _ _ (by decide)]; exact zX7_initP_7 n nc _), (by unfold jq_ZP; rw [jp_zu_n _ _ (by decide), zX8_init_n _ (by decide), jp_zu_n _ _ (by decide)]; exact zX7_initP_8 n nc _)⟩⟩, ⟨(by unfold jq_ZP; rw [jp_zu_n _ _ (by decide), zX8_init_n _ (by decide), jp_zu_n _ _ (by decide)]; exact zX7_initP_9 n nc _), (by unfold jq_ZP; rw [jp_zu_n _ _ (by decide), zX8_init_n _ (by decide), jp_zu_n _ _ (by decide)]; exact zX7_initP_10 n nc _)⟩, ⟨(by unfold jq_ZP; rw [jp_zu_n _ _ (by decide), zX8_init_n _ (by decide), jp_zu_n _ _ (by decide)]; exact zX7_initP_11 n nc _), (by unfold jq_ZP; rw [jp_zu_n _ _ (by decide), zX8_init_n _ (by decide), jp_zu_n _ _ (by decide)]; exact zX7_initP_12 n nc _)⟩, ⟨(by unfold jq_ZP; rw [jp_zu_n _ _ (by decide), zX8_init_n _ (by decide), jp_zu_n _ _ (by decide)]; exact zX7_initP_14 n nc _), (by unfold jq_ZP; rw [jp_zu_n _ _ (by decide), zX8_init_n _ (by decide), jp_zu_n _ _ (by decide)]; exact zX7_initP_15 n nc _)⟩⟩
theorem jq_ZP_M (n : Nat) (nc : Nat) : jp_hM (jq_ZP n nc) := ⟨(by unfold jq_ZP; rw [jp_zu_n _ _ (by decide)]; exact zX8_init_20 _), (by unfold jq_ZP; rw [jp_zu_n _ _ (by decide)]; exact zX8_init_21 _), (by unfold jq_ZP; rw [jp_zu_n _ _ (by decide)]; exact zX8_init_22 _), (by unfold jq_ZP; rw [jp_zu_n _ _ (by decide)]; exact zX8_init_23 _), (by unfold jq_ZP; rw [jp_zu_n _ _ (by decide)]; exact zX8_init_24 _), (by unfold jq_ZP; rw [jp_zu_n _ _ (by decide)]; exact zX8_init_25 _), (by unfold jq_ZP; rw [jp_zu_n _ _ (by decide)]; exact zX8_init_26 _), (by unfold jq_ZP; rw [jp_zu_n _ _ (by decide)]; exact zX8_init_27 _)⟩
theorem jq_ZP_O (n : Nat) (nc : Nat) : jq_ZP n nc 30 = some (3, 1, []) := jp_zu_s _ _ _
set_option maxHeartbeats 4000000 in
set_option maxRecDepth 20000 in
theorem jq_startP {p : Program} {e : Jvm.Env} {s : State} {m : MethodId} {below : List Frame} {meth : Method} {c : Code} (l : Launch) (hst : l.stackTraces = false) {b L : Nat} {xs : Nat → Int32} (hL : L ≤ 2049) (C0 : lw_At p s m meth c b L xs) {n nc : Nat} {σ1 σ2 : jp_I} {τ1 τ2 : jp_J} (h1 : fX7_initP n nc (jq_cv L xs) (jp_z (fun _ _ => 0) 0) (jp_zl (fun _ _ => 0) 0) = some (σ1, τ1)) (h2 : fX8_init (jq_cv L xs) (jp_z σ1 20) (jp_zl τ1 20) = some (σ2, τ2))
    {Inv : jp_I → jp_J → Prop} (hI : Inv σ2 (jp_zl τ2 30)) (hstep : ∀ (j : Nat) (σ : jp_I) (τ : jp_J), 1 ≤ j → j + 4 ≤ L → Inv σ τ → ∃ (σ' : jp_I) (τ' : jp_J), fRoundP n nc L xs (nI j) σ τ = some (σ', τ') ∧ Inv σ' τ') : W p l e room_1 s m #[Value.ref b] below meth c s.heap [] 0 0 (lw_Z below #[Value.ref b] s) (entryFrame m ([Value.ref b] : List Value).toArray 7) := by
  obtain ⟨hx, hb, hr, hml, hown, hts0, hX, hbl, hlocks, hgv⟩ := id C0
  obtain ⟨D, cA, fx, hE0⟩ := jq_env C0
  have hEa := hE0 (fun i => if 40 ≤ i then fx i else s.heap.size + jq_poP i) (fun i h => if_pos h)
  have had : ∀ i, i < 40 → (fun i => if 40 ≤ i then fx i else s.heap.size + jq_poP i) i = s.heap.size + jq_poP i := fun i h => if_neg (Nat.not_le.mpr h)
  generalize (fun i => if 40 ≤ i then fx i else s.heap.size + jq_poP i) = ad at hEa had
  obtain ⟨Γ, hΓ⟩ : ∃ Γ : jp_G, Γ = (D, cA, ad, s.heap.size) := ⟨_, rfl⟩
  rw [← hΓ] at hEa
  have hΓa : Γ.2.2.1 = ad := by rw [hΓ]
  have hΓh : Γ.2.2.2 = s.heap.size := by rw [hΓ]
  have ha_0 : Γ.2.2.1 0 = s.heap.size + 0 := by rw [hΓa]; exact had 0 (by decide)
  have ha_1 : Γ.2.2.1 1 = s.heap.size + 1 := by rw [hΓa]; exact had 1 (by decide)
  have ha_2 : Γ.2.2.1 2 = s.heap.size + 2 := by rw [hΓa]; exact had 2 (by decide)
  have ha_5 : Γ.2.2.1 5 = s.heap.size + 3 := by rw [hΓa]; exact had 5 (by decide)
  have ha_6 : Γ.2.2.1 6 = s.heap.size + 4 := by rw [hΓa]; exact had 6 (by decide)
  have ha_7 : Γ.2.2.1 7 = s.heap.size + 5 := by rw [hΓa]; exact had 7 (by decide)
  have ha_8 : Γ.2.2.1 8 = s.heap.size + 6 := by rw [hΓa]; exact had 8 (by decide)
  have ha_3 : Γ.2.2.1 3 = s.heap.size + 7 := by rw [hΓa]; exact had 3 (by decide)
  have ha_4 : Γ.2.2.1 4 = s.heap.size + 8 := by rw [hΓa]; exact had 4 (by decide)
  have ha_9 : Γ.2.2.1 9 = s.heap.size + 9 := by rw [hΓa]; exact had 9 (by decide)
  have ha_10 : Γ.2.2.1 10 = s.heap.size + 10 := by rw [hΓa]; exact had 10 (by decide)
  have ha_13 : Γ.2.2.1 13 = s.heap.size + 11 := by rw [hΓa]; exact had 13 (by decide)
  have ha_16 : Γ.2.2.1 16 = s.heap.size + 12 := by rw [hΓa]; exact had 16 (by decide)
  have ha_17 : Γ.2.2.1 17 = s.heap.size + 13 := by rw [hΓa]; exact had 17 (by decide)
  have ha_14 : Γ.2.2.1 14 = s.heap.size + 14 := by rw [hΓa]; exact had 14 (by decide)
  have ha_15 : Γ.2.2.1 15 = s.heap.size + 15 := by rw [hΓa]; exact had 15 (by decide)
  have ha_11 : Γ.2.2.1 11 = s.heap.size + 16 := by rw [hΓa]; exact had 11 (by decide)
  have ha_12 : Γ.2.2.1 12 = s.heap.size + 17 := by rw [hΓa]; exact had 12 (by decide)
  have ha_20 : Γ.2.2.1 20 = s.heap.size + 18 := by rw [hΓa]; exact had 20 (by decide)
  have ha_21 : Γ.2.2.1 21 = s.heap.size + 19 := by rw [hΓa]; exact had 21 (by decide)
  have ha_22 : Γ.2.2.1 22 = s.heap.size + 20 := by rw [hΓa]; exact had 22 (by decide)
  have ha_23 : Γ.2.2.1 23 = s.heap.size + 21 := by rw [hΓa]; exact had 23 (by decide)
  have ha_24 : Γ.2.2.1 24 = s.heap.size + 22 := by rw [hΓa]; exact had 24 (by decide)
  have ha_25 : Γ.2.2.1 25 = s.heap.size + 23 := by rw [hΓa]; exact had 25 (by decide)
  have ha_26 : Γ.2.2.1 26 = s.heap.size + 24 := by rw [hΓa]; exact had 26 (by decide)
  have ha_27 : Γ.2.2.1 27 = s.heap.size + 25 := by rw [hΓa]; exact had 27 (by decide)
  have ha_30 : Γ.2.2.1 30 = s.heap.size + 26 := by rw [hΓa]; exact had 30 (by decide)
  have hsz : s.heap.size = s.heap.size := rfl
  have B : jp_B Γ p s m #[Value.ref b] meth c RL cL_law 7 (some .boolean) := ⟨hx, hb, hml, hown, fun w hw => hts0 w (jp_sub w hw), hr, hlocks, hEa⟩
  have hts := B.2.2.2.2.1
  have hbA : ¬ jp_A Γ b := by show ¬ Γ.2.2.2 ≤ b; rw [hΓh]; exact Nat.not_le.mpr hbl
  have hl := lv_entry ([.ref b]) (n := 7) (Nat.le_of_ble_eq_true rfl)
  rw [lg_entry_eq]
  generalize (lg_sl ([.ref b]) ++ List.replicate (7 - (lg_sl ([.ref b])).length) Slot.unset).toArray = ls at hl ⊢
  have hl : lv_has ls 7 [(0, .ref b)] := hl
  obtain ⟨H, hH⟩ : ∃ H, H = s.heap := ⟨_, rfl⟩
  obtain ⟨locs, hlocs⟩ : ∃ l0 : List Loc, l0 = [] := ⟨_, rfl⟩
  have hS : va_S (jp_A Γ) s.heap H locs := by rw [hH, hlocs]; exact va_S.rf
  have hP : jp_P Γ (fun _ => none) (fun _ _ => 0) (fun _ _ => 0) H := ⟨fun i sh h => (by cases h), fun i j h => absurd rfl h⟩
  have hz : H.size = s.heap.size + 0 := by rw [hH]; rfl
  show W p l e _ s m _ below meth c s.heap [] 0 0 _ _
  rw [← hlocs]
  conv => arg 11; rw [← hH]
  refine jp_new (fs := [(0, 0), (3, 0), (3, 0), (3, 0), (3, 0)]) B hP hS hz (id := 0) (ci := 7) rfl (jp_ad0 ha_0 hsz rfl) rfl jp_fX7 tyX7 tyX7_ok mw_0 mw_1 mw_2 (fun j hj => by rcases jp_c5 hj with rfl | rfl | rfl | rfl | rfl <;> simp [jp_fl, jp_fv, jp_z, jp_zl, vp_V, tyX7, defaultValue]) (Nat.le_of_ble_eq_true rfl) (Nat.le_of_ble_eq_true rfl) dL_law_0 (fun H hP hS hz => ?_)
  obtain ⟨Z_1, hZ_1⟩ : ∃ z, z = jp_zu (fun _ => none) 0 (0, 7, [(0, 0), (3, 0), (3, 0), (3, 0), (3, 0)]) := ⟨_, rfl⟩
  rw [← hZ_1] at hP
  have q_0 : Z_1 0 = some (0, 7, [(0, 0), (3, 0), (3, 0), (3, 0), (3, 0)]) := by rw [hZ_1]; exact jp_zu_s _ _ _
  have q_n : ∀ i, i ≠ 0 → Z_1 i = none := fun i h => by rw [hZ_1, jp_zu_n _ _ h]
  refine lv_dup hx hb dL_law_3 rfl ?_
  refine lv_aload_n hx hb dL_law_4 rfl (lv_at hl 0 rfl) ?_
  refine lv_iconst (v := 0) hx hb dL_law_5 (by decide) ?_
  refine jq_callC (rest := [.ref (Γ.2.2.1 0), .ref (Γ.2.2.1 0)]) B hP hS hl hX hbl hbA ⟨Nat.le_of_ble_eq_true rfl, Nat.le_of_ble_eq_true rfl⟩ ⟨Nat.le_of_ble_eq_true rfl, Nat.le_of_ble_eq_true rfl⟩ (Nat.le_of_ble_eq_true rfl) dL_law_6 (fun H locs hP hS => ?_)
  refine jp_size (last := 0) hP q_0 (jp_ad1 ha_0 hsz rfl) (fun hz => ?_)
  refine jp_callI (rest := [.ref (Γ.2.2.1 0)]) B hP hS hz hl (ctX7_initP q_0 (q_n 1 (by decide)) (q_n 2 (by decide)) (q_n 5 (by decide)) (q_n 6 (by decide)) (q_n 7 (by decide)) (q_n 8 (by decide)) (q_n 3 (by decide)) (q_n 4 (by decide)) (q_n 9 (by decide)) (q_n 10 (by decide)) (q_n 13 (by decide)) (q_n 16 (by decide)) (q_n 17 (by decide)) (q_n 14 (by decide)) (q_n 15 (by decide)) (q_n 11 (by decide)) (q_n 12 (by decide)) (jp_ad1 ha_0 hsz rfl) (jp_ad2 ha_1 hsz rfl) (jp_ad2 ha_2 hsz rfl) (jp_ad2 ha_5 hsz rfl) (jp_ad2 ha_6 hsz rfl) (jp_ad2 ha_7 hsz rfl) (jp_ad2 ha_8 hsz rfl) (jp_ad2 ha_3 hsz rfl) (jp_ad2 ha_4 hsz rfl) (jp_ad2 ha_9 hsz rfl) (jp_ad2 ha_10 hsz rfl) (jp_ad2 ha_13 hsz rfl) (jp_ad2 ha_16 hsz rfl) (jp_ad2 ha_17 hsz rfl) (jp_ad2 ha_14 hsz rfl) (jp_ad2 ha_15 hsz rfl) (jp_ad2 ha_11 hsz rfl) (jp_ad2 ha_12 hsz rfl) h1) rfl mw_13 mw_11 mw_12 mw_2 ddX7_init ⟨Nat.le_of_ble_eq_true rfl, Nat.le_of_ble_eq_true rfl⟩ ⟨Nat.le_of_ble_eq_true rfl, Nat.le_of_ble_eq_true rfl⟩ rfl (Nat.le_of_ble_eq_true rfl) dL_law_9 (fun H locs hP hS => ?_)
  refine lv_astore_n (lv' := [(1, .ref (Γ.2.2.1 0)), (0, .ref b)]) hx hb dL_law_12 rfl hl (by decide) rfl (fun ls hl => ?_)
  obtain ⟨Z_2, hZ_2⟩ : ∃ z, z = zX7_initP n nc Z_1 := ⟨_, rfl⟩
  rw [← hZ_2] at hP
  have q_l : Z_2 12 = some (1, nc, []) := by rw [hZ_2]; exact zX7_initP_12 n nc _
  have q_n2 : ∀ i, ¬ i ∈ [0, 1, 2, 5, 6, 7, 8, 3, 4, 9, 10, 13, 16, 17, 14, 15, 11, 12] → Z_2 i = none := fun i h => by rw [hZ_2, zX7_initP_n n nc _ h]; exact q_n i (fun q => h (by rw [q]; decide))
  refine jp_size (last := 12) hP q_l (jp_ad1 ha_12 hsz rfl) (fun hz => ?_)
  refine jp_new (fs := [(0, 0), (0, 0), (0, 0), (0, 0), (3, 0), (3, 0), (3, 0), (0, 0), (2, 0), (0, 0), (0, 0), (0, 0), (0, 0), (3, 0), (3, 0), (3, 0), (3, 0)]) B hP hS hz (id := 20) (ci := 8) (q_n2 20 (by decide)) (jp_ad0 ha_20 hsz rfl) rfl jp_fX8 tyX8 tyX8_ok mw_3 mw_4 mw_5 (fun j hj => by rcases jq_c17 hj with rfl | rfl | rfl | rfl | rfl | rfl | rfl | rfl | rfl | rfl | rfl | rfl | rfl | rfl | rfl | rfl | rfl <;> simp [jp_fl, jp_fv, jp_z, jp_zl, vp_V, tyX8, defaultValue]) (Nat.le_of_ble_eq_true rfl) (Nat.le_of_ble_eq_true rfl) dL_law_13 (fun H hP hS hz => ?_)
  obtain ⟨Z_3, hZ_3⟩ : ∃ z, z = jp_zu Z_2 20 (0, 8, [(0, 0), (0, 0), (0, 0), (0, 0), (3, 0), (3, 0), (3, 0), (0, 0), (2, 0), (0, 0), (0, 0), (0, 0), (0, 0), (3, 0), (3, 0), (3, 0), (3, 0)]) := ⟨_, rfl⟩
  rw [← hZ_3] at hP
  have q_20 : Z_3 20 = some (0, 8, [(0, 0), (0, 0), (0, 0), (0, 0), (3, 0), (3, 0), (3, 0), (0, 0), (2, 0), (0, 0), (0, 0), (0, 0), (0, 0), (3, 0), (3, 0), (3, 0), (3, 0)]) := by rw [hZ_3]; exact jp_zu_s _ _ _
  have q_n3 : ∀ i, ¬ i ∈ [20, 0, 1, 2, 5, 6, 7, 8, 3, 4, 9, 10, 13, 16, 17, 14, 15, 11, 12] → Z_3 i = none := fun i h => by rw [hZ_3, jp_zu_n _ _ (fun q => h (by rw [q]; decide))]; exact q_n2 i (fun q => h (List.mem_cons_of_mem _ q))
  refine lv_dup hx hb dL_law_16 rfl ?_
  refine lv_aload_n hx hb dL_law_17 rfl (lv_at hl 1 rfl) ?_
  refine lv_iconst (v := 0) hx hb dL_law_18 (by decide) ?_
  refine jq_callC (rest := [.ref (Γ.2.2.1 20), .ref (Γ.2.2.1 20)]) B hP hS hl hX hbl hbA ⟨Nat.le_of_ble_eq_true rfl, Nat.le_of_ble_eq_true rfl⟩ ⟨Nat.le_of_ble_eq_true rfl, Nat.le_of_ble_eq_true rfl⟩ (Nat.le_of_ble_eq_true rfl) dL_law_19 (fun H locs hP hS => ?_)
  refine jp_size (last := 20) hP q_20 (jp_ad1 ha_20 hsz rfl) (fun hz => ?_)
  refine jp_callI (rest := [.ref (Γ.2.2.1 20)]) B hP hS hz hl (ctX8_init q_20 (q_n3 21 (by decide)) (q_n3 22 (by decide)) (q_n3 23 (by decide)) (q_n3 24 (by decide)) (q_n3 25 (by decide)) (q_n3 26 (by decide)) (q_n3 27 (by decide)) (jp_ad1 ha_20 hsz rfl) (jp_ad2 ha_21 hsz rfl) (jp_ad2 ha_22 hsz rfl) (jp_ad2 ha_23 hsz rfl) (jp_ad2 ha_24 hsz rfl) (jp_ad2 ha_25 hsz rfl) (jp_ad2 ha_26 hsz rfl) (jp_ad2 ha_27 hsz rfl) h2) rfl mw_132 mw_130 mw_131 mw_5 ddX8_init ⟨Nat.le_of_ble_eq_true rfl, Nat.le_of_ble_eq_true rfl⟩ ⟨Nat.le_of_ble_eq_true rfl, Nat.le_of_ble_eq_true rfl⟩ rfl (Nat.le_of_ble_eq_true rfl) dL_law_22 (fun H locs hP hS => ?_)
  obtain ⟨Z_4, hZ_4⟩ : ∃ z, z = zX8_init Z_3 := ⟨_, rfl⟩
  rw [← hZ_4] at hP
  have q_27 : Z_4 27 = some (1, 1476, []) := by rw [hZ_4]; exact zX8_init_27 _
  have q_30 : Z_4 30 = none := by rw [hZ_4, zX8_init_n _ (by decide)]; exact q_n3 30 (by decide)
  refine lv_astore_n (lv' := [(2, .ref (Γ.2.2.1 20)), (1, .ref (Γ.2.2.1 0)), (0, .ref b)]) hx hb dL_law_25 rfl hl (by decide) rfl (fun ls hl => ?_)
  refine lv_iconst (v := 1) hx hb dL_law_26 (by decide) ?_
  refine jp_size (last := 27) hP q_27 (jp_ad1 ha_27 hsz rfl) (fun hz => ?_)
  refine jp_newl (M := 1) B hP hS hz (id := 30) q_30 (jp_ad0 ha_30 hsz rfl) mw_6 (by decide) (by decide) (Nat.le_refl _) (by decide) (Nat.le_of_ble_eq_true rfl) (Nat.le_of_ble_eq_true rfl) dL_law_27 (fun H hP hS hz => ?_)
  have hZe : jp_zu Z_4 30 (3, 1, []) = jq_ZP n nc := by rw [hZ_4, hZ_3, hZ_2, hZ_1]; rfl
  have hP : jp_P Γ (jq_ZP n nc) σ2 (jp_zl τ2 30) H := hZe ▸ hP
  refine lv_astore_n (lv' := [(3, .ref (Γ.2.2.1 30)), (2, .ref (Γ.2.2.1 20)), (1, .ref (Γ.2.2.1 0)), (0, .ref b)]) hx hb dL_law_29 rfl hl (by decide) rfl (fun ls hl => ?_)
  refine lv_iconst (v := 1) hx hb dL_law_30 (by decide) ?_
  refine lv_istore (lv' := [(4, .int 1), (3, .ref (Γ.2.2.1 30)), (2, .ref (Γ.2.2.1 20)), (1, .ref (Γ.2.2.1 0)), (0, .ref b)]) hx hb dL_law_31 hl (by decide) rfl (fun ls hl => ?_)
  have hl5 : lv_has ls 7 [(0, .ref b), (1, .ref (Γ.2.2.1 0)), (2, .ref (Γ.2.2.1 20)), (3, .ref (Γ.2.2.1 30)), (4, .int (nI 1))] := lv_sub hl [4, 3, 2, 1, 0] rfl
  refine jq_loop (Inv := Inv) (fR := fun i σ τ => fRoundP n nc L xs i σ τ) B hX hbl hbA hL hstep ?_ ?_ 512 1 _ _ σ2 (jp_zl τ2 30) (by decide) (by decide) (by omega) (Nat.le_of_ble_eq_true rfl) (Nat.le_of_ble_eq_true rfl) hI H locs ls hP hS hl5
  · intro i cells slots σ σ' τ τ' hc0 hs0 hf kk
    exact wRoundP B (jq_ZP_C n nc) (jq_ZP_P n nc) (jq_ZP_M n nc) (jq_ZP_O n nc) hst hX hbl hbA hc0 hs0 hf kk
  · intro cells slots H locs ls hc hs hS
    refine va_forget (fun q hq => by have := hS.2.2 q hq; rw [← hΓh]; exact this) ?_
    refine lv_iconst (v := 1) hx hb dL_law_890 (by decide) ?_
    exact W.widen hc hs (lw_ret hx hb hr hlocks dL_law_891)
