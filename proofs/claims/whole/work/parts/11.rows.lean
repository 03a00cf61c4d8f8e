section JPR
variable {p : Program} {l : Launch} {e : Jvm.Env} {R : Room} {s : State} {m : MethodId} {args : Array Value} {below : List Frame} {meth : Method} {c : Code} {H : Heap} {locs : List Loc} {cells slots : Nat} {Q : State → Prop} {cc : ByteArray} {pc : Nat} {ls : Array Slot} {rest : List Value} {Γ : jp_G} {Z : Nat → Option jp_Sh} {σ : jp_I} {τ : jp_J} {own : String} {n : Nat} {ret : Option FieldType}
variable {id ci k r index N : Nat} {C host : String} {T : u_T} {fs : List (Nat × Nat)}
theorem jp_P.one (hP : jp_P Γ Z σ τ H) {sh : jp_Sh} (hZ : Z id = some sh) : va_P Γ.1 vwCl [(Γ.2.2.1 id, jp_el Γ σ τ id sh)] H := by
  intro j q hq
  cases j with
  | zero => cases hq; exact (hP.1 id sh hZ).1
  | succ j => simp at hq
/-! getfield -/
theorem jp_get (B : jp_B Γ p s m args meth c own cc n ret) (hP : jp_P Γ Z σ τ H) (hZ : Z id = some (0, ci, fs)) {f : Nat × Nat} (hk : fs[k]? = some f) (hc : vwCl[ci]? = some (C, T, N)) (hkN : k < N) (hin : ∀ w ∈ u_ws C T N, w ∈ jp_ws) (hT : (T k).1 = C) (hlink : Cond.fieldLink own index C (T k).2.1 (T k).2.2.1 ∈ jp_ws) (hdg : decode cc pc = .ok (.getfield index, 3))
    (kk : W p l e R s m args below meth c H locs cells slots Q (F0 m (pc + 3) ls (jp_fv Γ.2.2.1 σ τ id k f :: rest))) : W p l e R s m args below meth c H locs cells slots Q (F0 m pc ls (.ref (Γ.2.2.1 id) :: rest)) :=
  va_get (D := Γ.1) (cl := vwCl) (ws := [(Γ.2.2.1 id, jp_el Γ σ τ id (0, ci, fs))]) (ci := ci) (fs := jp_fl Γ.2.2.1 σ τ id 0 fs) (C := C) (T := T) (N := N) B.1 B.2.1 B.2.2.2.2.1 hin B.2.2.2.1 B.2.2.2.2.2.2.2.1 (hP.one hZ) 0 rfl hc k hkN (B.2.2.2.2.1 _ hlink) (fun _ h9 => by rw [hT] at h9; exact h9) (by rw [jp_fl_get, hk, Nat.zero_add]; rfl) hdg kk
theorem jp_getN (B : jp_B Γ p s m args meth c own cc n ret) (hP : jp_P Γ Z σ τ H) (hZ : Z id = some (0, ci, fs)) {f : Nat × Nat} (hk : fs[k]? = some f) (hc : vwCl[ci]? = some (C, T, N)) (hkN : k < N) (hin : ∀ w ∈ u_ws C T N, w ∈ jp_ws) (hT : (T k).1 = C) (hlink : Cond.fieldLinkNest own index C (T k).2.1 (T k).2.2.1 host ∈ jp_ns) (hdg : decode cc pc = .ok (.getfield index, 3))
    (kk : W p l e R s m args below meth c H locs cells slots Q (F0 m (pc + 3) ls (jp_fv Γ.2.2.1 σ τ id k f :: rest))) : W p l e R s m args below meth c H locs cells slots Q (F0 m pc ls (.ref (Γ.2.2.1 id) :: rest)) :=
  va_getN (D := Γ.1) (cl := vwCl) (ws := [(Γ.2.2.1 id, jp_el Γ σ τ id (0, ci, fs))]) (ci := ci) (fs := jp_fl Γ.2.2.1 σ τ id 0 fs) (C := C) (T := T) (N := N) B.1 B.2.1 B.2.2.2.2.1 hin B.2.2.2.1 B.2.2.2.2.2.2.2.1 (hP.one hZ) 0 rfl hc k hkN (va_Nw.use rfl (B.2.2.2.2.2.2.2.2.1 _ hlink)) (fun _ h9 => by rw [hT] at h9; exact h9) (by rw [jp_fl_get, hk, Nat.zero_add]; rfl) hdg kk
theorem jp_geti (B : jp_B Γ p s m args meth c own cc n ret) (hP : jp_P Γ Z σ τ H) (hZ : Z id = some (0, ci, fs)) (hk : fs[k]? = some (0, r)) (hc : vwCl[ci]? = some (C, T, N)) (hkN : k < N) (hin : ∀ w ∈ u_ws C T N, w ∈ jp_ws) (hT : (T k).1 = C) (hlink : Cond.fieldLink own index C (T k).2.1 (T k).2.2.1 ∈ jp_ws) (hdg : decode cc pc = .ok (.getfield index, 3))
    (kk : W p l e R s m args below meth c H locs cells slots Q (F0 m (pc + 3) ls (.int (σ id k) :: rest))) : W p l e R s m args below meth c H locs cells slots Q (F0 m pc ls (.ref (Γ.2.2.1 id) :: rest)) := jp_get B hP hZ hk hc hkN hin hT hlink hdg kk
theorem jp_getr (B : jp_B Γ p s m args meth c own cc n ret) (hP : jp_P Γ Z σ τ H) (hZ : Z id = some (0, ci, fs)) (hk : fs[k]? = some (1, r)) (hc : vwCl[ci]? = some (C, T, N)) (hkN : k < N) (hin : ∀ w ∈ u_ws C T N, w ∈ jp_ws) (hT : (T k).1 = C) (hlink : Cond.fieldLink own index C (T k).2.1 (T k).2.2.1 ∈ jp_ws) (hdg : decode cc pc = .ok (.getfield index, 3))
    (kk : W p l e R s m args below meth c H locs cells slots Q (F0 m (pc + 3) ls (.ref (Γ.2.2.1 r) :: rest))) : W p l e R s m args below meth c H locs cells slots Q (F0 m pc ls (.ref (Γ.2.2.1 id) :: rest)) := jp_get B hP hZ hk hc hkN hin hT hlink hdg kk
theorem jp_getl (B : jp_B Γ p s m args meth c own cc n ret) (hP : jp_P Γ Z σ τ H) (hZ : Z id = some (0, ci, fs)) (hk : fs[k]? = some (2, r)) (hc : vwCl[ci]? = some (C, T, N)) (hkN : k < N) (hin : ∀ w ∈ u_ws C T N, w ∈ jp_ws) (hT : (T k).1 = C) (hlink : Cond.fieldLink own index C (T k).2.1 (T k).2.2.1 ∈ jp_ws) (hdg : decode cc pc = .ok (.getfield index, 3))
    (kk : W p l e R s m args below meth c H locs cells slots Q (F0 m (pc + 3) ls (.long (τ id k) :: rest))) : W p l e R s m args below meth c H locs cells slots Q (F0 m pc ls (.ref (Γ.2.2.1 id) :: rest)) := jp_get B hP hZ hk hc hkN hin hT hlink hdg kk
theorem jp_getiN (B : jp_B Γ p s m args meth c own cc n ret) (hP : jp_P Γ Z σ τ H) (hZ : Z id = some (0, ci, fs)) (hk : fs[k]? = some (0, r)) (hc : vwCl[ci]? = some (C, T, N)) (hkN : k < N) (hin : ∀ w ∈ u_ws C T N, w ∈ jp_ws) (hT : (T k).1 = C) (hlink : Cond.fieldLinkNest own index C (T k).2.1 (T k).2.2.1 host ∈ jp_ns) (hdg : decode cc pc = .ok (.getfield index, 3))
    (kk : W p l e R s m args below meth c H locs cells slots Q (F0 m (pc + 3) ls (.int (σ id k) :: rest))) : W p l e R s m args below meth c H locs cells slots Q (F0 m pc ls (.ref (Γ.2.2.1 id) :: rest)) := jp_getN B hP hZ hk hc hkN hin hT hlink hdg kk
theorem jp_getrN (B : jp_B Γ p s m args meth c own cc n ret) (hP : jp_P Γ Z σ τ H) (hZ : Z id = some (0, ci, fs)) (hk : fs[k]? = some (1, r)) (hc : vwCl[ci]? = some (C, T, N)) (hkN : k < N) (hin : ∀ w ∈ u_ws C T N, w ∈ jp_ws) (hT : (T k).1 = C) (hlink : Cond.fieldLinkNest own index C (T k).2.1 (T k).2.2.1 host ∈ jp_ns) (hdg : decode cc pc = .ok (.getfield index, 3))
    (kk : W p l e R s m args below meth c H locs cells slots Q (F0 m (pc + 3) ls (.ref (Γ.2.2.1 r) :: rest))) : W p l e R s m args below meth c H locs cells slots Q (F0 m pc ls (.ref (Γ.2.2.1 id) :: rest)) := jp_getN B hP hZ hk hc hkN hin hT hlink hdg kk
/-! putfield -/
theorem jp_fl_seti (ad : Nat → Nat) (hk : fs[k]? = some (0, r)) (v : Int32) : jp_fl ad (jp_up σ id k v) τ id 0 fs = (jp_fl ad σ τ id 0 fs).set k (.int v) := by
  apply List.ext_getElem?
  intro j
  have hl : k < (jp_fl ad σ τ id 0 fs).length := by rw [jp_fl_len]; exact (List.getElem?_eq_some_iff.mp hk).1
  by_cases hj : j = k
  · subst hj
    rw [List.getElem?_set_self hl, jp_fl_get, hk, Nat.zero_add]
    simp [jp_fv, jp_up, upd]
  · rw [List.getElem?_set_ne (fun q => hj q.symm), jp_fl_get, jp_fl_get, Nat.zero_add]
    cases fs[j]? with
    | none => rfl
    | some f =>
      simp only [Option.map_some]
      congr 1
      unfold jp_fv
      split <;> simp [jp_up, upd, hj]
theorem jp_fl_setl (ad : Nat → Nat) (hk : fs[k]? = some (2, r)) (v : Int64) : jp_fl ad σ (jp_upl τ id k v) id 0 fs = (jp_fl ad σ τ id 0 fs).set k (.long v) := by
  apply List.ext_getElem?
  intro j
  have hl : k < (jp_fl ad σ τ id 0 fs).length := by rw [jp_fl_len]; exact (List.getElem?_eq_some_iff.mp hk).1
  by_cases hj : j = k
  · subst hj
    rw [List.getElem?_set_self hl, jp_fl_get, hk, Nat.zero_add]
    simp [jp_fv, jp_upl, vp_updL]
  · rw [List.getElem?_set_ne (fun q => hj q.symm), jp_fl_get, jp_fl_get, Nat.zero_add]
    cases fs[j]? with
    | none => rfl
    | some f =>
      simp only [Option.map_some]
      congr 1
      unfold jp_fv
      split <;> simp [jp_upl, vp_updL, hj]
theorem jp_put (B : jp_B Γ p s m args meth c own cc n ret) (hP : jp_P Γ Z σ τ H) (hS : va_S (jp_A Γ) s.heap H locs) (hZ : Z id = some (0, ci, fs)) (hl : k < fs.length) (hc : vwCl[ci]? = some (C, T, N)) (hkN : k < N) (hin : ∀ w ∈ u_ws C T N, w ∈ jp_ws) (ty0 : Nat → FieldType) (hty : ∀ k, k < N → parseFieldDescriptor (T k).2.2.1 = some (ty0 k)) (hnm : ∀ a, a < N → ∀ b, b < N → a ≠ b → (T a).2.1 ≠ (T b).2.1) (hT : (T k).1 = C) (hlink : Cond.fieldLink own index C (T k).2.1 (T k).2.2.1 ∈ jp_ws) (hfin : (T k).2.2.2 = false) {ty : FieldType} {v : Value} (hd : parseFieldDescriptor (T k).2.2.1 = some ty) (hn : narrow ty v = v) (hfit : fits ty v = true)
    {σ' : jp_I} {τ' : jp_J} (hσ : ∀ i, i ≠ id → σ' i = σ i) (hτ : ∀ i, i ≠ id → τ' i = τ i) (hset : jp_fl Γ.2.2.1 σ' τ' id 0 fs = (jp_fl Γ.2.2.1 σ τ id 0 fs).set k v) (hdg : decode cc pc = .ok (.putfield index, 3))
    (kk : ∀ (H1 : Heap) (locs1 : List Loc), jp_P Γ Z σ' τ' H1 → va_S (jp_A Γ) s.heap H1 locs1 → W p l e R s m args below meth c H1 locs1 cells slots Q (F0 m (pc + 3) ls rest)) : W p l e R s m args below meth c H locs cells slots Q (F0 m pc ls (v :: .ref (Γ.2.2.1 id) :: rest)) := by
  have hts := B.2.2.2.2.1
  have hK := B.2.2.2.2.2.2.2.1
  have hap := va_apart (own := own) hts hin ty0 hty hnm hK hc
  obtain ⟨r9, h1, cell, q1, q2, q3, q4⟩ := (hP.1 id _ hZ).1
  have hr : r9 = (C, T, N) := Option.some.inj (h1.symm.trans hc)
  subst hr
  obtain ⟨hS9, hfc, kC, hkC, hkind⟩ := hK.1 ci _ hc
  obtain ⟨cf, kf, fi, f, hi, hsl⟩ := hS9 k hkN
  have hlay := hts _ (hin _ (u_in_lay hkN))
  unfold u_lay at hlay
  rw [if_neg (by rw [hfin]; decide)] at hlay
  have hst := (u_facts hfc hkC (u_lays hts hin hkN) hi).1
  have h6 := u_store hfc hkC hkind hlay hi hd hn hfit
  refine W.putK B.1 B.2.1 (f := f) ⟨B.2.2.2.1, hts _ hlink, ⟨_, _, _, by rw [hT] at hi; exact hi⟩, hst⟩ (by rw [q2]; exact h6) q1 q3 (by rw [hsl]; exact k2_hasslot (q4 k hkN)) rfl rfl hdg fun H' e1 e2 e3 => ?_
  rw [hsl] at e1 ⊢
  refine kk H' _ (hP.set hZ hσ hτ ?_ e3) (hS.put e2 e3 (hP.1 id _ hZ).2)
  refine ⟨_, hc, ?_⟩
  show t_OB _ _ _ _ _ (vp_V (jp_fl Γ.2.2.1 σ' τ' id 0 fs))
  rw [hset]
  exact t_OB.to (V := updV (vp_V (jp_fl Γ.2.2.1 σ τ id 0 fs)) k v) ⟨_, e1, q2, q3, t_set q4 hap hkN v⟩ (fun j _ => vp_updV_set (by rw [jp_fl_len]; exact hl) v j)
theorem jp_putN (B : jp_B Γ p s m args meth c own cc n ret) (hP : jp_P Γ Z σ τ H) (hS : va_S (jp_A Γ) s.heap H locs) (hZ : Z id = some (0, ci, fs)) (hl : k < fs.length) (hc : vwCl[ci]? = some (C, T, N)) (hkN : k < N) (hin : ∀ w ∈ u_ws C T N, w ∈ jp_ws) (ty0 : Nat → FieldType) (hty : ∀ k, k < N → parseFieldDescriptor (T k).2.2.1 = some (ty0 k)) (hnm : ∀ a, a < N → ∀ b, b < N → a ≠ b → (T a).2.1 ≠ (T b).2.1) (hT : (T k).1 = C) (hlink : Cond.fieldLinkNest own index C (T k).2.1 (T k).2.2.1 host ∈ jp_ns) (hfin : (T k).2.2.2 = false) {ty : FieldType} {v : Value} (hd : parseFieldDescriptor (T k).2.2.1 = some ty) (hn : narrow ty v = v) (hfit : fits ty v = true)
    {σ' : jp_I} {τ' : jp_J} (hσ : ∀ i, i ≠ id → σ' i = σ i) (hτ : ∀ i, i ≠ id → τ' i = τ i) (hset : jp_fl Γ.2.2.1 σ' τ' id 0 fs = (jp_fl Γ.2.2.1 σ τ id 0 fs).set k v) (hdg : decode cc pc = .ok (.putfield index, 3))
    (kk : ∀ (H1 : Heap) (locs1 : List Loc), jp_P Γ Z σ' τ' H1 → va_S (jp_A Γ) s.heap H1 locs1 → W p l e R s m args below meth c H1 locs1 cells slots Q (F0 m (pc + 3) ls rest)) : W p l e R s m args below meth c H locs cells slots Q (F0 m pc ls (v :: .ref (Γ.2.2.1 id) :: rest)) := by
  have hts := B.2.2.2.2.1
  have hK := B.2.2.2.2.2.2.2.1
  have hap := va_apart (own := own) hts hin ty0 hty hnm hK hc
  obtain ⟨r9, h1, cell, q1, q2, q3, q4⟩ := (hP.1 id _ hZ).1
  have hr : r9 = (C, T, N) := Option.some.inj (h1.symm.trans hc)
  subst hr
  obtain ⟨hS9, hfc, kC, hkC, hkind⟩ := hK.1 ci _ hc
  obtain ⟨cf, kf, fi, f, hi, hsl⟩ := hS9 k hkN
  have hlay := hts _ (hin _ (u_in_lay hkN))
  unfold u_lay at hlay
  rw [if_neg (by rw [hfin]; decide)] at hlay
  have hst := (u_facts hfc hkC (u_lays hts hin hkN) hi).1
  have h6 := u_store hfc hkC hkind hlay hi hd hn hfit
  refine va_WputK B.1 B.2.1 (f := f) B.2.2.2.1 (va_Nw.use rfl (B.2.2.2.2.2.2.2.2.1 _ hlink)) (by rw [hT] at hi; exact hi) hst (by rw [q2]; exact h6) q1 q3 (by rw [hsl]; exact k2_hasslot (q4 k hkN)) rfl rfl hdg fun H' e1 e2 e3 => ?_
  rw [hsl] at e1 ⊢
  refine kk H' _ (hP.set hZ hσ hτ ?_ e3) (hS.put e2 e3 (hP.1 id _ hZ).2)
  refine ⟨_, hc, ?_⟩
  show t_OB _ _ _ _ _ (vp_V (jp_fl Γ.2.2.1 σ' τ' id 0 fs))
  rw [hset]
  exact t_OB.to (V := updV (vp_V (jp_fl Γ.2.2.1 σ τ id 0 fs)) k v) ⟨_, e1, q2, q3, t_set q4 hap hkN v⟩ (fun j _ => vp_updV_set (by rw [jp_fl_len]; exact hl) v j)
theorem jp_puti (B : jp_B Γ p s m args meth c own cc n ret) (hP : jp_P Γ Z σ τ H) (hS : va_S (jp_A Γ) s.heap H locs) (hZ : Z id = some (0, ci, fs)) (hk : fs[k]? = some (0, r)) (hc : vwCl[ci]? = some (C, T, N)) (hkN : k < N) (hin : ∀ w ∈ u_ws C T N, w ∈ jp_ws) (ty0 : Nat → FieldType) (hty : ∀ k, k < N → parseFieldDescriptor (T k).2.2.1 = some (ty0 k)) (hnm : ∀ a, a < N → ∀ b, b < N → a ≠ b → (T a).2.1 ≠ (T b).2.1) (hT : (T k).1 = C) (hlink : Cond.fieldLink own index C (T k).2.1 (T k).2.2.1 ∈ jp_ws) (hfin : (T k).2.2.2 = false) {ty : FieldType} {v : Int32} (hd : parseFieldDescriptor (T k).2.2.1 = some ty) (hn : narrow ty (.int v) = .int v) (hfit : fits ty (.int v) = true) (hdg : decode cc pc = .ok (.putfield index, 3))
    (kk : ∀ (H1 : Heap) (locs1 : List Loc), jp_P Γ Z (jp_up σ id k v) τ H1 → va_S (jp_A Γ) s.heap H1 locs1 → W p l e R s m args below meth c H1 locs1 cells slots Q (F0 m (pc + 3) ls rest)) : W p l e R s m args below meth c H locs cells slots Q (F0 m pc ls (.int v :: .ref (Γ.2.2.1 id) :: rest)) :=
  jp_put B hP hS hZ (List.getElem?_eq_some_iff.mp hk).1 hc hkN hin ty0 hty hnm hT hlink hfin hd hn hfit (fun i h => jp_up_n σ v h) (fun i _ => rfl) (jp_fl_seti _ hk v) hdg kk
theorem jp_putiN (B : jp_B Γ p s m args meth c own cc n ret) (hP : jp_P Γ Z σ τ H) (hS : va_S (jp_A Γ) s.heap H locs) (hZ : Z id = some (0, ci, fs)) (hk : fs[k]? = some (0, r)) (hc : vwCl[ci]? = some (C, T, N)) (hkN : k < N) (hin : ∀ w ∈ u_ws C T N, w ∈ jp_ws) (ty0 : Nat → FieldType) (hty : ∀ k, k < N → parseFieldDescriptor (T k).2.2.1 = some (ty0 k)) (hnm : ∀ a, a < N → ∀ b, b < N → a ≠ b → (T a).2.1 ≠ (T b).2.1) (hT : (T k).1 = C) (hlink : Cond.fieldLinkNest own index C (T k).2.1 (T k).2.2.1 host ∈ jp_ns) (hfin : (T k).2.2.2 = false) {ty : FieldType} {v : Int32} (hd : parseFieldDescriptor (T k).2.2.1 = some ty) (hn : narrow ty (.int v) = .int v) (hfit : fits ty (.int v) = true) (hdg : decode cc pc = .ok (.putfield index, 3))
    (kk : ∀ (H1 : Heap) (locs1 : List Loc), jp_P Γ Z (jp_up σ id k v) τ H1 → va_S (jp_A Γ) s.heap H1 locs1 → W p l e R s m args below meth c H1 locs1 cells slots Q (F0 m (pc + 3) ls rest)) : W p l e R s m args below meth c H locs cells slots Q (F0 m pc ls (.int v :: .ref (Γ.2.2.1 id) :: rest)) :=
  jp_putN B hP hS hZ (List.getElem?_eq_some_iff.mp hk).1 hc hkN hin ty0 hty hnm hT hlink hfin hd hn hfit (fun i h => jp_up_n σ v h) (fun i _ => rfl) (jp_fl_seti _ hk v) hdg kk
theorem jp_putl (B : jp_B Γ p s m args meth c own cc n ret) (hP : jp_P Γ Z σ τ H) (hS : va_S (jp_A Γ) s.heap H locs) (hZ : Z id = some (0, ci, fs)) (hk : fs[k]? = some (2, r)) (hc : vwCl[ci]? = some (C, T, N)) (hkN : k < N) (hin : ∀ w ∈ u_ws C T N, w ∈ jp_ws) (ty0 : Nat → FieldType) (hty : ∀ k, k < N → parseFieldDescriptor (T k).2.2.1 = some (ty0 k)) (hnm : ∀ a, a < N → ∀ b, b < N → a ≠ b → (T a).2.1 ≠ (T b).2.1) (hT : (T k).1 = C) (hlink : Cond.fieldLink own index C (T k).2.1 (T k).2.2.1 ∈ jp_ws) (hfin : (T k).2.2.2 = false) {v : Int64} (hd : parseFieldDescriptor (T k).2.2.1 = some .long) (hdg : decode cc pc = .ok (.putfield index, 3))
    (kk : ∀ (H1 : Heap) (locs1 : List Loc), jp_P Γ Z σ (jp_upl τ id k v) H1 → va_S (jp_A Γ) s.heap H1 locs1 → W p l e R s m args below meth c H1 locs1 cells slots Q (F0 m (pc + 3) ls rest)) : W p l e R s m args below meth c H locs cells slots Q (F0 m pc ls (.long v :: .ref (Γ.2.2.1 id) :: rest)) :=
  jp_put B hP hS hZ (List.getElem?_eq_some_iff.mp hk).1 hc hkN hin ty0 hty hnm hT hlink hfin hd rfl rfl (fun i _ => rfl) (fun i h => jp_upl_n τ v h) (jp_fl_setl _ hk v) hdg kk
theorem jp_putlN (B : jp_B Γ p s m args meth c own cc n ret) (hP : jp_P Γ Z σ τ H) (hS : va_S (jp_A Γ) s.heap H locs) (hZ : Z id = some (0, ci, fs)) (hk : fs[k]? = some (2, r)) (hc : vwCl[ci]? = some (C, T, N)) (hkN : k < N) (hin : ∀ w ∈ u_ws C T N, w ∈ jp_ws) (ty0 : Nat → FieldType) (hty : ∀ k, k < N → parseFieldDescriptor (T k).2.2.1 = some (ty0 k)) (hnm : ∀ a, a < N → ∀ b, b < N → a ≠ b → (T a).2.1 ≠ (T b).2.1) (hT : (T k).1 = C) (hlink : Cond.fieldLinkNest own index C (T k).2.1 (T k).2.2.1 host ∈ jp_ns) (hfin : (T k).2.2.2 = false) {v : Int64} (hd : parseFieldDescriptor (T k).2.2.1 = some .long) (hdg : decode cc pc = .ok (.putfield index, 3))
    (kk : ∀ (H1 : Heap) (locs1 : List Loc), jp_P Γ Z σ (jp_upl τ id k v) H1 → va_S (jp_A Γ) s.heap H1 locs1 → W p l e R s m args below meth c H1 locs1 cells slots Q (F0 m (pc + 3) ls rest)) : W p l e R s m args below meth c H locs cells slots Q (F0 m pc ls (.long v :: .ref (Γ.2.2.1 id) :: rest)) :=
  jp_putN B hP hS hZ (List.getElem?_eq_some_iff.mp hk).1 hc hkN hin ty0 hty hnm hT hlink hfin hd rfl rfl (fun i _ => rfl) (fun i h => jp_upl_n τ v h) (jp_fl_setl _ hk v) hdg kk
/-! arrays -/
theorem jp_iald (B : jp_B Γ p s m args meth c own cc n ret) (hP : jp_P Γ Z σ τ H) (hZ : Z id = some (1, N, fs)) {i : Int32} (hin : vp_in i N) (hdg : decode cc pc = .ok (.iaload, 1))
    (kk : W p l e R s m args below meth c H locs cells slots Q (F0 m (pc + 1) ls (.int (σ id i.toNatClampNeg) :: rest))) : W p l e R s m args below meth c H locs cells slots Q (F0 m pc ls (.int i :: .ref (Γ.2.2.1 id) :: rest)) :=
  va_iald B.1 B.2.1 B.2.2.2.2.2.2.2.1 (hP.one hZ) 0 0 (f := σ id) rfl rfl hin hdg kk
theorem jp_zald (B : jp_B Γ p s m args meth c own cc n ret) (hP : jp_P Γ Z σ τ H) (hZ : Z id = some (2, N, fs)) {i : Int32} (hin : vp_in i N) (hdg : decode cc pc = .ok (.baload, 1))
    (kk : W p l e R s m args below meth c H locs cells slots Q (F0 m (pc + 1) ls (.int (σ id i.toNatClampNeg) :: rest))) : W p l e R s m args below meth c H locs cells slots Q (F0 m pc ls (.int i :: .ref (Γ.2.2.1 id) :: rest)) :=
  va_zald B.1 B.2.1 B.2.2.2.2.2.2.2.1 (hP.one hZ) 0 1 (f := σ id) rfl rfl hin hdg kk
theorem jp_lald (B : jp_B Γ p s m args meth c own cc n ret) (hP : jp_P Γ Z σ τ H) (hZ : Z id = some (3, N, fs)) {i : Int32} (hin : vp_in i N) (hdg : decode cc pc = .ok (.laload, 1))
    (kk : W p l e R s m args below meth c H locs cells slots Q (F0 m (pc + 1) ls (.long (τ id i.toNatClampNeg) :: rest))) : W p l e R s m args below meth c H locs cells slots Q (F0 m pc ls (.int i :: .ref (Γ.2.2.1 id) :: rest)) :=
  va_lald B.1 B.2.1 B.2.2.2.2.2.2.2.1 (hP.one hZ) 0 2 (f := τ id) rfl rfl hin hdg kk
theorem jp_alen (B : jp_B Γ p s m args meth c own cc n ret) (hP : jp_P Γ Z σ τ H) (hZ : Z id = some (1, N, fs)) (hdg : decode cc pc = .ok (.arraylength, 1))
    (kk : W p l e R s m args below meth c H locs cells slots Q (F0 m (pc + 1) ls (.int (nI N) :: rest))) : W p l e R s m args below meth c H locs cells slots Q (F0 m pc ls (.ref (Γ.2.2.1 id) :: rest)) :=
  va_alen B.1 B.2.1 B.2.2.2.2.2.2.2.1 (hP.one hZ) 0 0 (x := (N, .inl (σ id))) rfl rfl rfl hdg kk
theorem jp_iast (B : jp_B Γ p s m args meth c own cc n ret) (hP : jp_P Γ Z σ τ H) (hS : va_S (jp_A Γ) s.heap H locs) (hZ : Z id = some (1, N, fs)) {i x : Int32} (hin : vp_in i N) (hdg : decode cc pc = .ok (.iastore, 1))
    (kk : ∀ (H1 : Heap) (locs1 : List Loc), jp_P Γ Z (jp_up σ id i.toNatClampNeg x) τ H1 → va_S (jp_A Γ) s.heap H1 locs1 → W p l e R s m args below meth c H1 locs1 cells slots Q (F0 m (pc + 1) ls rest)) : W p l e R s m args below meth c H locs cells slots Q (F0 m pc ls (.int x :: .int i :: .ref (Γ.2.2.1 id) :: rest)) := by
  have hK := B.2.2.2.2.2.2.2.1
  refine W.iast B.1 B.2.1 (hP.1 id _ hZ).1 ((hK.2 0 _ rfl).1 N (fun j => .int (σ id j))) (fun q => by cases q) (by show ¬ (i < 0 ∨ (arrV _ _ _).slots.size ≤ _); rw [arrV_size]; exact hin) rfl rfl hdg fun H1 e z oq => ?_
  refine kk H1 _ (hP.set hZ (fun i h => jp_up_n σ x h) (fun i _ => rfl) ?_ oq) (hS.put z oq (hP.1 id _ hZ).2)
  show H1[Γ.2.2.1 id]? = some (vp_cell _ _)
  rw [e]
  show some (Cell.setSlot (vp_cell _ (N, .inl (σ id))) _ _) = some (vp_cell _ (N, .inl (jp_up σ id i.toNatClampNeg x id)))
  rw [vp_cell_i, vp_cell_i, arrV_store, jp_up_s]
  congr 2
  funext q
  by_cases hq : q = i.toNatClampNeg
  · subst hq
    simp [updV, upd]
  · simp [updV, upd, hq]
theorem jp_zast (B : jp_B Γ p s m args meth c own cc n ret) (hP : jp_P Γ Z σ τ H) (hS : va_S (jp_A Γ) s.heap H locs) (hZ : Z id = some (2, N, fs)) {i x : Int32} (hin : vp_in i N) (hx : vp_nar .boolean x = x) (hdg : decode cc pc = .ok (.bastore, 1))
    (kk : ∀ (H1 : Heap) (locs1 : List Loc), jp_P Γ Z (jp_up σ id i.toNatClampNeg x) τ H1 → va_S (jp_A Γ) s.heap H1 locs1 → W p l e R s m args below meth c H1 locs1 cells slots Q (F0 m (pc + 1) ls rest)) : W p l e R s m args below meth c H locs cells slots Q (F0 m pc ls (.int x :: .int i :: .ref (Γ.2.2.1 id) :: rest)) := by
  have hK := B.2.2.2.2.2.2.2.1
  refine W.zast B.1 B.2.1 (hP.1 id _ hZ).1 ((hK.2 1 _ rfl).1 N (fun j => .int (σ id j))) (fun q => by cases q) (by show ¬ (i < 0 ∨ (arrV _ _ _).slots.size ≤ _); rw [arrV_size]; exact hin) rfl rfl hdg fun H1 e z oq => ?_
  refine kk H1 _ (hP.set hZ (fun i h => jp_up_n σ x h) (fun i _ => rfl) ?_ oq) (hS.put z oq (hP.1 id _ hZ).2)
  show H1[Γ.2.2.1 id]? = some (vp_cell _ _)
  rw [e]
  show some (Cell.setSlot (vp_cell _ (N, .inl (σ id))) _ _) = some (vp_cell _ (N, .inl (jp_up σ id i.toNatClampNeg x id)))
  rw [vp_cell_i, vp_cell_i, arrV_store, jp_up_s]
  congr 2
  funext q
  by_cases hq : q = i.toNatClampNeg
  · subst hq
    simp only [updV, upd, if_pos]
    have h9 : narrow .boolean (.int x) = .int (vp_nar .boolean x) := rfl
    first | (rw [h9, hx]) | (simp [vp_nar] at hx; simp [hx])
  · simp [updV, upd, hq]
/-! calls -/
theorem jp_after {av : List Value} {res : Option Value} {σ' : jp_I} {τ' : jp_J} {a : Array Value} {st0 : List Value} (hr : va_Run p l e R s m args below meth c H locs cells slots 0 0 (F0 m pc ls st0) rest (jp_Q Γ Z res σ' τ' a) (jp_A Γ)) (hS : va_S (jp_A Γ) s.heap H locs)
    (kk : ∀ (H1 : Heap) (locs1 : List Loc), jp_P Γ Z σ' τ' H1 → va_S (jp_A Γ) s.heap H1 locs1 → W p l e R s m args below meth c H1 locs1 cells slots Q (F0 m (pc + 3) ls (res.toList ++ rest))) : W p l e R s m args below meth c H locs cells slots Q (F0 m pc ls st0) := by
  intro T hT X
  obtain ⟨v, st₀, t, T', L, h0, X', hL, e1, e2, ⟨hv, hp, hz, hk⟩, st⟩ := hr T hT X
  cases hv
  rw [h0] at hz hk
  rw [← e1] at hz hk hp
  obtain ⟨t2, a1, b1⟩ := kk T'.heap (locs ++ L) hp ⟨Nat.le_trans hS.1 hz, fun q h1 h2 => by rw [hk q (Nat.lt_of_lt_of_le h1 hS.1) h2]; exact hS.2.1 q h1 h2, fun q hq => by
      rcases List.mem_append.mp hq with h | h
      · exact hS.2.2 q h
      · exact hL q h⟩ T' rfl X'
  exact ⟨t2, st t2 a1, b1⟩
theorem jp_preS {av : List Value} (B : jp_B Γ p s m args meth c own cc n ret) (hP : jp_P Γ Z σ τ H) (hS : va_S (jp_A Γ) s.heap H locs) : PreS s H (va_Pc av (jp_Pre Γ Z σ τ)) av :=
  ⟨jp_blind, fun U hU hW => ⟨rfl, by rw [hU]; exact hP, jp_E.moved B.2.2.2.2.2.2.2 hW (by rw [hU]; exact hS.1) (fun q h1 h2 => by rw [hU]; exact hS.2.1 q h1 h2)⟩⟩
variable {y : MethodName} {cc' : ByteArray} {n' fr lo : Nat} {ret' : Option FieldType} {av : List Value} {res : Option Value} {σ' : jp_I} {τ' : jp_J} {lv : List (Nat × Value)}
/-- a static method of the same class -/
theorem jp_callS (B : jp_B Γ p s m args meth c own cc n ret) (hP : jp_P Γ Z σ τ H) (hS : va_S (jp_A Γ) s.heap H locs) (hl : lv_has ls n lv) (hM : jp_M l y cc' n' ret' fr lo Γ Z σ τ av res σ' τ') (hcode : Cond.code y cc' n' ret' ∈ jp_ws) (hlink : Cond.methodLink own index y ∈ jp_ws) (hst : Cond.static y ∈ jp_ws) (hini : Cond.initialized y.cls ∈ jp_ws)
    (hd : y.cls ≠ "java/lang/invoke/MethodHandle" ∧ y.cls ≠ "java/lang/invoke/VarHandle" ∧ (parseMethodDescriptor y.desc).map (fun d => d.parameters.length) = some av.length) (hR : fr + 1 ≤ R.frames ∧ 8 + (n' + 11) + lo ≤ R.locals) (hf : cells ≤ R.cells ∧ slots ≤ R.slots) {st0 : List Value} (hst0 : st0 = av.reverse ++ rest) (hW : (rest.map fun v => v.category).sum ≤ 8) (hdg : decode cc pc = .ok (.invokestatic index, 3))
    (kk : ∀ (H1 : Heap) (locs1 : List Loc), jp_P Γ Z σ' τ' H1 → va_S (jp_A Γ) s.heap H1 locs1 → W p l e R s m args below meth c H1 locs1 cells slots Q (F0 m (pc + 3) ls (res.toList ++ rest))) : W p l e R s m args below meth c H locs cells slots Q (F0 m pc ls st0) := by
  have hts := B.2.2.2.2.1
  refine jp_after (av := av) (va_runS (As := av) (rest := rest) ⟨B.1, B.2.1, B.2.2.1, B.2.2.2.1, hts⟩ hM ⟨callB_of av.length hts (jp_good (y := y) (cc := cc) (n := n) (ret := ret) hcode) rfl rfl rfl (hts _ hini) (hts _ hlink) hd hR, hts _ hst⟩ (jp_preS B hP hS) rfl rfl hl.1 hst0 (lv_room hW) hdg hf) hS kk
/-- a private static method of a nest mate -/
theorem jp_callSN (B : jp_B Γ p s m args meth c own cc n ret) (hP : jp_P Γ Z σ τ H) (hS : va_S (jp_A Γ) s.heap H locs) (hl : lv_has ls n lv) (hM : jp_M l y cc' n' ret' fr lo Γ Z σ τ av res σ' τ') (hcode : Cond.code y cc' n' ret' ∈ jp_ws) (hlink : Cond.methodLinkNest own index y host ∈ jp_ns) (hst : Cond.static y ∈ jp_ws) (hini : Cond.initialized y.cls ∈ jp_ws)
    (hd : y.cls ≠ "java/lang/invoke/MethodHandle" ∧ y.cls ≠ "java/lang/invoke/VarHandle" ∧ (parseMethodDescriptor y.desc).map (fun d => d.parameters.length) = some av.length) (hR : fr + 1 ≤ R.frames ∧ 8 + (n' + 11) + lo ≤ R.locals) (hf : cells ≤ R.cells ∧ slots ≤ R.slots) {st0 : List Value} (hst0 : st0 = av.reverse ++ rest) (hW : (rest.map fun v => v.category).sum ≤ 8) (hdg : decode cc pc = .ok (.invokestatic index, 3))
    (kk : ∀ (H1 : Heap) (locs1 : List Loc), jp_P Γ Z σ' τ' H1 → va_S (jp_A Γ) s.heap H1 locs1 → W p l e R s m args below meth c H1 locs1 cells slots Q (F0 m (pc + 3) ls (res.toList ++ rest))) : W p l e R s m args below meth c H locs cells slots Q (F0 m pc ls st0) := by
  have hts := B.2.2.2.2.1
  refine jp_after (av := av) (va_runSN (As := av) (rest := rest) ⟨B.1, B.2.1, B.2.2.1, B.2.2.2.1, hts⟩ hM ⟨va_cnB av.length hts (jp_good (y := y) (cc := cc) (n := n) (ret := ret) hcode) rfl rfl rfl (B.2.2.2.2.2.2.2.2.1 _ hlink) (hts _ hini) hd hR, hts _ hst, trivial⟩ (jp_preS B hP hS) rfl rfl hl.1 hst0 (lv_room hW) hdg hf) hS kk
theorem jp_recv (B : jp_B Γ p s m args meth c own cc n ret) (hP : jp_P Γ Z σ τ H) (hZ : Z id = some (0, ci, fs)) (hc : vwCl[ci]? = some (C, T, N)) : ∃ cell : Cell, H[Γ.2.2.1 id]? = some cell ∧ cell.vm.isStatics = false ∧ s.vm.findClass C = some cell.cls :=
  va_recv B.2.2.2.2.2.2.2.1 (hP.one hZ) (q0 := 0) hc rfl
/-- a method of the same class, by its object -/
theorem jp_callV (B : jp_B Γ p s m args meth c own cc n ret) (hP : jp_P Γ Z σ τ H) (hS : va_S (jp_A Γ) s.heap H locs) (hl : lv_has ls n lv) (hM : jp_M l y cc' n' ret' fr lo Γ Z σ τ (.ref (Γ.2.2.1 id) :: av) res σ' τ') (hZ : Z id = some (0, ci, fs)) (hc : vwCl[ci]? = some (y.cls, T, N)) (hcode : Cond.code y cc' n' ret' ∈ jp_ws) (hlink : Cond.methodLink own index y ∈ jp_ws) (hin : Cond.instanceMethod y ∈ jp_ws) (hse : Cond.selects y.cls y y ∈ jp_ws) (hini : Cond.initialized y.cls ∈ jp_ws)
    (hd : y.cls ≠ "java/lang/invoke/MethodHandle" ∧ y.cls ≠ "java/lang/invoke/VarHandle" ∧ (parseMethodDescriptor y.desc).map (fun d => d.parameters.length) = some av.length) (hR : fr + 1 ≤ R.frames ∧ 8 + (n' + 11) + lo ≤ R.locals) (hf : cells ≤ R.cells ∧ slots ≤ R.slots) {st0 : List Value} (hst0 : st0 = av.reverse ++ .ref (Γ.2.2.1 id) :: rest) (hW : (rest.map fun v => v.category).sum ≤ 8) (hdg : decode cc pc = .ok (.invokevirtual index, 3))
    (kk : ∀ (H1 : Heap) (locs1 : List Loc), jp_P Γ Z σ' τ' H1 → va_S (jp_A Γ) s.heap H1 locs1 → W p l e R s m args below meth c H1 locs1 cells slots Q (F0 m (pc + 3) ls (res.toList ++ rest))) : W p l e R s m args below meth c H locs cells slots Q (F0 m pc ls st0) := by
  have hts := B.2.2.2.2.1
  have hp := jp_preS (av := .ref (Γ.2.2.1 id) :: av) B hP hS
  refine jp_after (av := av) (va_runV (C := y.cls) (As := av) (rest := rest) ⟨B.1, B.2.1, B.2.2.1, B.2.2.2.1, hts⟩ hM ⟨callB_of av.length hts (jp_good (y := y) (cc := cc) (n := n) (ret := ret) hcode) rfl rfl rfl (hts _ hini) (hts _ hlink) hd hR, hts _ hin, hts _ hse⟩ ⟨hp.1, jp_recv B hP hZ hc, hp.2⟩ rfl rfl hl.1 hst0 (lv_room hW) hdg hf) hS kk
/-- a private method of a nest mate, by its object -/
theorem jp_callVN (B : jp_B Γ p s m args meth c own cc n ret) (hP : jp_P Γ Z σ τ H) (hS : va_S (jp_A Γ) s.heap H locs) (hl : lv_has ls n lv) (hM : jp_M l y cc' n' ret' fr lo Γ Z σ τ (.ref (Γ.2.2.1 id) :: av) res σ' τ') (hZ : Z id = some (0, ci, fs)) (hc : vwCl[ci]? = some (y.cls, T, N)) (hcode : Cond.code y cc' n' ret' ∈ jp_ws) (hlink : Cond.methodLinkNest own index y host ∈ jp_ns) (hin : Cond.instanceMethod y ∈ jp_ws) (hse : Cond.selects y.cls y y ∈ jp_ws) (hini : Cond.initialized y.cls ∈ jp_ws)
    (hd : y.cls ≠ "java/lang/invoke/MethodHandle" ∧ y.cls ≠ "java/lang/invoke/VarHandle" ∧ (parseMethodDescriptor y.desc).map (fun d => d.parameters.length) = some av.length) (hR : fr + 1 ≤ R.frames ∧ 8 + (n' + 11) + lo ≤ R.locals) (hf : cells ≤ R.cells ∧ slots ≤ R.slots) {st0 : List Value} (hst0 : st0 = av.reverse ++ .ref (Γ.2.2.1 id) :: rest) (hW : (rest.map fun v => v.category).sum ≤ 8) (hdg : decode cc pc = .ok (.invokevirtual index, 3))
    (kk : ∀ (H1 : Heap) (locs1 : List Loc), jp_P Γ Z σ' τ' H1 → va_S (jp_A Γ) s.heap H1 locs1 → W p l e R s m args below meth c H1 locs1 cells slots Q (F0 m (pc + 3) ls (res.toList ++ rest))) : W p l e R s m args below meth c H locs cells slots Q (F0 m pc ls st0) := by
  have hts := B.2.2.2.2.1
  have hp := jp_preS (av := .ref (Γ.2.2.1 id) :: av) B hP hS
  refine jp_after (av := av) (va_runVN (C := y.cls) (As := av) (rest := rest) ⟨B.1, B.2.1, B.2.2.1, B.2.2.2.1, hts⟩ hM ⟨va_cnB av.length hts (jp_good (y := y) (cc := cc) (n := n) (ret := ret) hcode) rfl rfl rfl (B.2.2.2.2.2.2.2.2.1 _ hlink) (hts _ hini) hd hR, hts _ hin, hts _ hse⟩ ⟨hp.1, jp_recv B hP hZ hc, hp.2⟩ rfl rfl hl.1 hst0 (lv_room hW) hdg hf) hS kk
/-! ends -/
theorem jp_reti {v : Int32} (B : jp_B Γ p s m args meth c own cc n (some .int)) (hP : jp_P Γ Z σ τ H) (hS : va_S (jp_A Γ) s.heap H locs) (hdg : decode cc pc = .ok (.ireturn, 1)) (h : res = some (.int v) ∧ σ' = σ ∧ τ' = τ) : W p l e R s m args below meth c H locs cells slots (MQ below (jp_Q Γ Z res σ' τ') args s cells slots (jp_A Γ)) (F0 m pc ls [.int v]) := by
  obtain ⟨rfl, rfl, rfl⟩ := h
  exact W.iret B.1 B.2.1 B.2.2.2.2.2.1 (fun t ht hW => ⟨rfl, by rw [ht]; exact hP, hS.F ht⟩) hS.2.2 hdg B.2.2.2.2.2.2.1
theorem jp_retz {v : Int32} (B : jp_B Γ p s m args meth c own cc n (some .boolean)) (hP : jp_P Γ Z σ τ H) (hS : va_S (jp_A Γ) s.heap H locs) (hn : narrow .boolean (.int v) = .int v) (hdg : decode cc pc = .ok (.ireturn, 1)) (h : res = some (.int v) ∧ σ' = σ ∧ τ' = τ) : W p l e R s m args below meth c H locs cells slots (MQ below (jp_Q Γ Z res σ' τ') args s cells slots (jp_A Γ)) (F0 m pc ls [.int v]) := by
  obtain ⟨rfl, rfl, rfl⟩ := h
  exact W.zret B.1 B.2.1 B.2.2.2.2.2.1 hn (fun t ht hW => ⟨rfl, by rw [ht]; exact hP, hS.F ht⟩) hS.2.2 hdg B.2.2.2.2.2.2.1
theorem jp_retv (B : jp_B Γ p s m args meth c own cc n none) (hP : jp_P Γ Z σ τ H) (hS : va_S (jp_A Γ) s.heap H locs) (hdg : decode cc pc = .ok (.return_, 1)) (h : res = none ∧ σ' = σ ∧ τ' = τ) : W p l e R s m args below meth c H locs cells slots (MQ below (jp_Q Γ Z res σ' τ') args s cells slots (jp_A Γ)) (F0 m pc ls []) := by
  obtain ⟨rfl, rfl, rfl⟩ := h
  exact W.vret B.1 B.2.1 B.2.2.2.2.2.1 (fun t ht hW => ⟨rfl, by rw [ht]; exact hP, hS.F ht⟩) hS.2.2 hdg B.2.2.2.2.2.2.1
end JPR
