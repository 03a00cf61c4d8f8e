/-! ===== making: constructors ===== -/
def jp_zu (Z : Nat → Option jp_Sh) (id : Nat) (sh : jp_Sh) : Nat → Option jp_Sh := fun i => if i = id then some sh else Z i
def jp_z (σ : jp_I) (id : Nat) : jp_I := fun i => if i = id then (fun _ => 0) else σ i
def jp_zl (τ : jp_J) (id : Nat) : jp_J := fun i => if i = id then (fun _ => 0) else τ i
theorem jp_z_n (σ : jp_I) {id i : Nat} (h : i ≠ id) : jp_z σ id i = σ i := by simp [jp_z, h]
theorem jp_z_s (σ : jp_I) (id : Nat) : jp_z σ id id = fun _ => 0 := by simp [jp_z]
theorem jp_zl_n (τ : jp_J) {id i : Nat} (h : i ≠ id) : jp_zl τ id i = τ i := by simp [jp_zl, h]
theorem jp_zl_s (τ : jp_J) (id : Nat) : jp_zl τ id id = fun _ => 0 := by simp [jp_zl]
theorem jp_zu_s (Z : Nat → Option jp_Sh) (id : Nat) (sh : jp_Sh) : jp_zu Z id sh id = some sh := by simp [jp_zu]
theorem jp_zu_n (Z : Nat → Option jp_Sh) {id i : Nat} (sh : jp_Sh) (h : i ≠ id) : jp_zu Z id sh i = Z i := by simp [jp_zu, h]
/-- a constructor's contract: with the heap of sz cells, it makes mc cells of at most ms slots -/
def jp_KP (Γ : jp_G) (Z : Nat → Option jp_Sh) (σ : jp_I) (τ : jp_J) (sz : Nat) (U : State) : Prop := U.heap.size = sz ∧ jp_Pre Γ Z σ τ U
def jp_K (l : Launch) (y : MethodName) (cc : ByteArray) (n : Nat) (fr lo mc ms : Nat) (Γ : jp_G) (Z : Nat → Option jp_Sh) (σ : jp_I) (τ : jp_J) (sz : Nat) (av : List Value) (Z' : Nat → Option jp_Sh) (σ' : jp_I) (τ' : jp_J) : Prop :=
  Met l y (jp_W y cc n none) (jp_RX fr lo mc ms) (va_Pc av (jp_KP Γ Z σ τ sz)) (jp_Q Γ Z' none σ' τ') mc ms (jp_A Γ)
theorem jp_blindK {av : List Value} {Γ : jp_G} {Z : Nat → Option jp_Sh} {σ : jp_I} {τ : jp_J} {sz : Nat} : FrameBlind (va_Pc av (jp_KP Γ Z σ τ sz)) :=
  fun a U g mk q => ⟨q.1, q.2.1, q.2.2.1, jp_E.same q.2.2.2 rfl rfl⟩
theorem jp_P.push {Γ : jp_G} {Z : Nat → Option jp_Sh} {σ σ' : jp_I} {τ τ' : jp_J} {H H1 : Heap} (h : jp_P Γ Z σ τ H) {id : Nat} {sh : jp_Sh} (hid : Z id = none) (ha : Γ.2.2.1 id = H.size) (h0 : Γ.2.2.2 ≤ H.size)
    (hs : ∀ i, i ≠ id → σ' i = σ i) (ht : ∀ i, i ≠ id → τ' i = τ i) (he : va_at Γ.1 vwCl (Γ.2.2.1 id, jp_el Γ σ' τ' id sh) H1) (oq : ∀ q : Nat, q < H.size → H1[q]? = H[q]?) : jp_P Γ (jp_zu Z id sh) σ' τ' H1 := by
  have hne : ∀ i, Z i ≠ none → i ≠ id := fun i hi q => hi (by rw [q]; exact hid)
  have hlt : ∀ i, Z i ≠ none → Γ.2.2.1 i < H.size := fun i hi => by
    cases hz : Z i with
    | none => exact absurd hz hi
    | some s0 => exact h.lt hz
  refine ⟨fun i sh' hi => ?_, fun i j hi hj hij => ?_⟩
  · by_cases hii : i = id
    · subst hii
      rw [jp_zu_s] at hi
      obtain rfl := Option.some.inj hi
      exact ⟨he, by rw [ha]; exact h0⟩
    · rw [jp_zu_n _ _ hii] at hi
      have h1 := h.1 i sh' hi
      refine ⟨?_, h1.2⟩
      rw [jp_el_congr Γ sh' (hs i hii) (ht i hii)]
      exact h1.1.kept (oq _ (h.lt hi))
  · by_cases hii : i = id <;> by_cases hjj : j = id
    · rw [hii, hjj]
    · rw [jp_zu_n _ _ hjj] at hj
      have := hlt j hj
      rw [hii, ha] at hij
      omega
    · rw [jp_zu_n _ _ hii] at hi
      have := hlt i hi
      rw [hjj, ha] at hij
      omega
    · rw [jp_zu_n _ _ hii] at hi
      rw [jp_zu_n _ _ hjj] at hj
      exact h.2 i j hi hj hij
/-- one id's shape and numbers are new -/
theorem jp_P.setZ {Γ : jp_G} {Z : Nat → Option jp_Sh} {σ σ' : jp_I} {τ τ' : jp_J} {H H1 : Heap} (h : jp_P Γ Z σ τ H) {id : Nat} {sh sh' : jp_Sh} (hz : Z id = some sh)
    (hs : ∀ i, i ≠ id → σ' i = σ i) (ht : ∀ i, i ≠ id → τ' i = τ i) (he : va_at Γ.1 vwCl (Γ.2.2.1 id, jp_el Γ σ' τ' id sh') H1) (oq : ∀ q : Nat, q ≠ Γ.2.2.1 id → H1[q]? = H[q]?) : jp_P Γ (jp_zu Z id sh') σ' τ' H1 := by
  have hn : ∀ i, jp_zu Z id sh' i ≠ none → Z i ≠ none := fun i hi => by
    by_cases hii : i = id
    · rw [hii, hz]; exact fun q => by cases q
    · rw [jp_zu_n _ _ hii] at hi; exact hi
  refine ⟨fun i sh2 hi => ?_, fun i j hi hj hij => h.2 i j (hn i hi) (hn j hj) hij⟩
  by_cases hii : i = id
  · subst hii
    rw [jp_zu_s] at hi
    obtain rfl := Option.some.inj hi
    exact ⟨he, (h.1 i sh hz).2⟩
  · rw [jp_zu_n _ _ hii] at hi
    have h1 := h.1 i sh2 hi
    refine ⟨?_, h1.2⟩
    rw [jp_el_congr Γ sh2 (hs i hii) (ht i hii)]
    exact h1.1.kept (oq _ fun q => hii (h.2 i id (by rw [hi]; exact fun z => by cases z) (by rw [hz]; exact fun z => by cases z) q))
section JPK
variable {p : Program} {l : Launch} {e : Jvm.Env} {R : Room} {s : State} {m : MethodId} {args : Array Value} {below : List Frame} {meth : Method} {c : Code} {H : Heap} {locs : List Loc} {cells slots : Nat} {Q : State → Prop} {cc : ByteArray} {pc : Nat} {ls : Array Slot} {rest : List Value} {Γ : jp_G} {Z : Nat → Option jp_Sh} {σ : jp_I} {τ : jp_J} {own : String} {n : Nat} {ret : Option FieldType}
variable {id ci k r index N : Nat} {C host : String} {T : u_T} {fs fs' : List (Nat × Nat)}
/-- how large the heap is: all that was made is counted, the last made lies there -/
theorem jp_size {last : Nat} {sh : jp_Sh} (hP : jp_P Γ Z σ τ H) (hZ : Z last = some sh) (ha : Γ.2.2.1 last + 1 = s.heap.size + cells) (kk : H.size = s.heap.size + cells → W p l e R s m args below meth c H locs cells slots Q (F0 m pc ls rest)) : W p l e R s m args below meth c H locs cells slots Q (F0 m pc ls rest) := by
  intro T0 hT X
  have h1 := X.heapSize
  rw [hT] at h1
  have h2 := hP.lt hZ
  exact kk (by omega) T0 hT X
theorem jp_new (B : jp_B Γ p s m args meth c own cc n ret) (hP : jp_P Γ Z σ τ H) (hS : va_S (jp_A Γ) s.heap H locs) (hz : H.size = s.heap.size + cells) (hid : Z id = none) (had : Γ.2.2.1 id = s.heap.size + cells) (hc : vwCl[ci]? = some (C, T, N)) (hin : ∀ w ∈ u_ws C T N, w ∈ jp_ws) (ty : Nat → FieldType) (hty : ∀ k, k < N → parseFieldDescriptor (T k).2.2.1 = some (ty k)) (hcl : Cond.classLink own index C ∈ jp_ws) (hinst : Cond.instantiable C N ∈ jp_ws) (hini : Cond.initialized C ∈ jp_ws)
    (hfs : ∀ j, j < N → defaultValue (ty j) = vp_V (jp_fl Γ.2.2.1 (jp_z σ id) (jp_zl τ id) id 0 fs) j) (hcells : cells + 1 ≤ R.cells) (hslots : slots + N ≤ R.slots) (hdg : decode cc pc = .ok (.new index, 3))
    (kk : ∀ H1 : Heap, jp_P Γ (jp_zu Z id (0, ci, fs)) (jp_z σ id) (jp_zl τ id) H1 → va_S (jp_A Γ) s.heap H1 locs → H1.size = s.heap.size + (cells + 1) → W p l e R s m args below meth c H1 locs (cells + 1) (slots + N) Q (F0 m (pc + 3) ls (.ref (Γ.2.2.1 id) :: rest))) : W p l e R s m args below meth c H locs cells slots Q (F0 m pc ls rest) := by
  have hts := B.2.2.2.2.1
  have hE := B.2.2.2.2.2.2.2
  have hKn := hE.1.1 ci _ hc
  refine W.newcK B.1 B.2.1 B.2.2.2.1 (hts _ hcl) (hts _ hinst) (hts _ hini) rfl hdg hcells hslots hKn.2.1 rfl fun H1 kC hkC e1 z1 o1 => ?_
  have ha : Γ.2.2.1 id = H.size := by rw [had, hz]
  have h0 : Γ.2.2.2 ≤ H.size := by rw [hz]; exact Nat.le_trans hE.2.2.1 (Nat.le_add_right _ _)
  have key := kk H1 (hP.push hid ha h0 (fun i h => jp_z_n σ h) (fun i h => jp_zl_n τ h) ⟨_, hc, by rw [ha]; exact (u_born ty hts hin hKn hkC e1 hty).to hfs⟩ o1) ⟨Nat.le_trans hS.1 (by omega), fun x h1 h2 => (o1 x (Nat.lt_of_lt_of_le h1 hS.1)).trans (hS.2.1 x h1 h2), hS.2.2⟩ (by omega)
  rw [ha] at key
  exact key
theorem jp_newi (B : jp_B Γ p s m args meth c own cc n ret) (hP : jp_P Γ Z σ τ H) (hS : va_S (jp_A Γ) s.heap H locs) (hz : H.size = s.heap.size + cells) (hid : Z id = none) (had : Γ.2.2.1 id = s.heap.size + cells) (harr : Cond.arrayClass .int ∈ jp_ws) {x : Int32} (hx : ¬ x < 0) {N0 M : Nat} (hN : x.toNatClampNeg = N0) (hM : N0 ≤ M) (hM2 : M ≤ 100000) (hcells : cells + 1 ≤ R.cells) (hslots : slots + M ≤ R.slots) (hdg : decode cc pc = .ok (.newarray .int, 2))
    (kk : ∀ H1 : Heap, jp_P Γ (jp_zu Z id (1, N0, [])) (jp_z σ id) τ H1 → va_S (jp_A Γ) s.heap H1 locs → H1.size = s.heap.size + (cells + 1) → W p l e R s m args below meth c H1 locs (cells + 1) (slots + M) Q (F0 m (pc + 2) ls (.ref (Γ.2.2.1 id) :: rest))) : W p l e R s m args below meth c H locs cells slots Q (F0 m pc ls (.int x :: rest)) := by
  subst hN
  have hts := B.2.2.2.2.1
  have hE := B.2.2.2.2.2.2.2
  refine va_newaK B.1 B.2.1 (atype := .int) (hts _ harr) rfl hdg rfl hx rfl (by show x.toNatClampNeg * 4 ≤ 536870912; omega) hcells (by omega) rfl fun H1 cA e1 z1 o1 hAr hNm => ?_
  have hcA : cA = Γ.2.1 0 := Option.some.inj (hNm.symm.trans (hE.1.2 0 _ rfl).2)
  have ha : Γ.2.2.1 id = H.size := by rw [had, hz]
  have h0 : Γ.2.2.2 ≤ H.size := by rw [hz]; exact Nat.le_trans hE.2.2.1 (Nat.le_add_right _ _)
  have key := kk H1 (hP.push hid ha h0 (fun i h => jp_z_n σ h) (fun i _ => rfl) (by
    show H1[Γ.2.2.1 id]? = some (vp_cell (Γ.2.1 0) (x.toNatClampNeg, .inl (jp_z σ id id)))
    rw [ha, e1, hcA, jp_z_s]
    rfl) o1) ⟨Nat.le_trans hS.1 (by omega), fun x h1 h2 => (o1 x (Nat.lt_of_lt_of_le h1 hS.1)).trans (hS.2.1 x h1 h2), hS.2.2⟩ (by omega)
  rw [ha] at key
  exact W.widen (Nat.le_refl _) (by omega) key
theorem jp_newz (B : jp_B Γ p s m args meth c own cc n ret) (hP : jp_P Γ Z σ τ H) (hS : va_S (jp_A Γ) s.heap H locs) (hz : H.size = s.heap.size + cells) (hid : Z id = none) (had : Γ.2.2.1 id = s.heap.size + cells) (harr : Cond.arrayClass .boolean ∈ jp_ws) {x : Int32} (hx : ¬ x < 0) {N0 M : Nat} (hN : x.toNatClampNeg = N0) (hM : N0 ≤ M) (hM2 : M ≤ 100000) (hcells : cells + 1 ≤ R.cells) (hslots : slots + M ≤ R.slots) (hdg : decode cc pc = .ok (.newarray .boolean, 2))
    (kk : ∀ H1 : Heap, jp_P Γ (jp_zu Z id (2, N0, [])) (jp_z σ id) τ H1 → va_S (jp_A Γ) s.heap H1 locs → H1.size = s.heap.size + (cells + 1) → W p l e R s m args below meth c H1 locs (cells + 1) (slots + M) Q (F0 m (pc + 2) ls (.ref (Γ.2.2.1 id) :: rest))) : W p l e R s m args below meth c H locs cells slots Q (F0 m pc ls (.int x :: rest)) := by
  subst hN
  have hts := B.2.2.2.2.1
  have hE := B.2.2.2.2.2.2.2
  refine va_newaK B.1 B.2.1 (atype := .boolean) (hts _ harr) rfl hdg rfl hx rfl (by show x.toNatClampNeg * 1 ≤ 536870912; omega) hcells (by omega) rfl fun H1 cA e1 z1 o1 hAr hNm => ?_
  have hcA : cA = Γ.2.1 1 := Option.some.inj (hNm.symm.trans (hE.1.2 1 _ rfl).2)
  have ha : Γ.2.2.1 id = H.size := by rw [had, hz]
  have h0 : Γ.2.2.2 ≤ H.size := by rw [hz]; exact Nat.le_trans hE.2.2.1 (Nat.le_add_right _ _)
  have key := kk H1 (hP.push hid ha h0 (fun i h => jp_z_n σ h) (fun i _ => rfl) (by
    show H1[Γ.2.2.1 id]? = some (vp_cell (Γ.2.1 1) (x.toNatClampNeg, .inl (jp_z σ id id)))
    rw [ha, e1, hcA, jp_z_s]
    rfl) o1) ⟨Nat.le_trans hS.1 (by omega), fun x h1 h2 => (o1 x (Nat.lt_of_lt_of_le h1 hS.1)).trans (hS.2.1 x h1 h2), hS.2.2⟩ (by omega)
  rw [ha] at key
  exact W.widen (Nat.le_refl _) (by omega) key
theorem jp_newl (B : jp_B Γ p s m args meth c own cc n ret) (hP : jp_P Γ Z σ τ H) (hS : va_S (jp_A Γ) s.heap H locs) (hz : H.size = s.heap.size + cells) (hid : Z id = none) (had : Γ.2.2.1 id = s.heap.size + cells) (harr : Cond.arrayClass .long ∈ jp_ws) {x : Int32} (hx : ¬ x < 0) {N0 M : Nat} (hN : x.toNatClampNeg = N0) (hM : N0 ≤ M) (hM2 : M ≤ 100000) (hcells : cells + 1 ≤ R.cells) (hslots : slots + M ≤ R.slots) (hdg : decode cc pc = .ok (.newarray .long, 2))
    (kk : ∀ H1 : Heap, jp_P Γ (jp_zu Z id (3, N0, [])) σ (jp_zl τ id) H1 → va_S (jp_A Γ) s.heap H1 locs → H1.size = s.heap.size + (cells + 1) → W p l e R s m args below meth c H1 locs (cells + 1) (slots + M) Q (F0 m (pc + 2) ls (.ref (Γ.2.2.1 id) :: rest))) : W p l e R s m args below meth c H locs cells slots Q (F0 m pc ls (.int x :: rest)) := by
  subst hN
  have hts := B.2.2.2.2.1
  have hE := B.2.2.2.2.2.2.2
  refine va_newaK B.1 B.2.1 (atype := .long) (hts _ harr) rfl hdg rfl hx rfl (by show x.toNatClampNeg * 8 ≤ 536870912; omega) hcells (by omega) rfl fun H1 cA e1 z1 o1 hAr hNm => ?_
  have hcA : cA = Γ.2.1 2 := Option.some.inj (hNm.symm.trans (hE.1.2 2 _ rfl).2)
  have ha : Γ.2.2.1 id = H.size := by rw [had, hz]
  have h0 : Γ.2.2.2 ≤ H.size := by rw [hz]; exact Nat.le_trans hE.2.2.1 (Nat.le_add_right _ _)
  have key := kk H1 (hP.push hid ha h0 (fun i _ => rfl) (fun i h => jp_zl_n τ h) (by
    show H1[Γ.2.2.1 id]? = some (vp_cell (Γ.2.1 2) (x.toNatClampNeg, .inr (.inl (jp_zl τ id id))))
    rw [ha, e1, hcA, jp_zl_s]
    rfl) o1) ⟨Nat.le_trans hS.1 (by omega), fun x h1 h2 => (o1 x (Nat.lt_of_lt_of_le h1 hS.1)).trans (hS.2.1 x h1 h2), hS.2.2⟩ (by omega)
  rw [ha] at key
  exact W.widen (Nat.le_refl _) (by omega) key
/-- a final field, in its constructor -/
theorem jp_putF (B : jp_B Γ p s m args meth c own cc n ret) (hin2 : meth.name = "<init>") (hP : jp_P Γ Z σ τ H) (hS : va_S (jp_A Γ) s.heap H locs) (hZ : Z id = some (0, ci, fs)) (hl : k < fs.length) (hc : vwCl[ci]? = some (C, T, N)) (hkN : k < N) (hin : ∀ w ∈ u_ws C T N, w ∈ jp_ws) (ty0 : Nat → FieldType) (hty : ∀ k, k < N → parseFieldDescriptor (T k).2.2.1 = some (ty0 k)) (hnm : ∀ a, a < N → ∀ b, b < N → a ≠ b → (T a).2.1 ≠ (T b).2.1) (hT : (T k).1 = C) (hCo : C = own) (hlink : Cond.fieldLink own index C (T k).2.1 (T k).2.2.1 ∈ jp_ws) (hfin : (T k).2.2.2 = true) {ty : FieldType} {v : Value} (hd : parseFieldDescriptor (T k).2.2.1 = some ty) (hn : narrow ty v = v) (hfit : fits ty v = true)
    {σ' : jp_I} {τ' : jp_J} (hσ : ∀ i, i ≠ id → σ' i = σ i) (hτ : ∀ i, i ≠ id → τ' i = τ i) (hset : jp_fl Γ.2.2.1 σ' τ' id 0 fs' = (jp_fl Γ.2.2.1 σ τ id 0 fs).set k v) (hdg : decode cc pc = .ok (.putfield index, 3))
    (kk : ∀ (H1 : Heap) (locs1 : List Loc), jp_P Γ (jp_zu Z id (0, ci, fs')) σ' τ' H1 → va_S (jp_A Γ) s.heap H1 locs1 → H1.size = H.size → W p l e R s m args below meth c H1 locs1 cells slots Q (F0 m (pc + 3) ls rest)) : W p l e R s m args below meth c H locs cells slots Q (F0 m pc ls (v :: .ref (Γ.2.2.1 id) :: rest)) := by
  have hts := B.2.2.2.2.1
  have hK := B.2.2.2.2.2.2.2.1
  have hap := va_apart (own := own) hts hin ty0 hty hnm hK hc
  obtain ⟨r9, h1, cell, q1, q2, q3, q4⟩ := (hP.1 id _ hZ).1
  have hr : r9 = (C, T, N) := Option.some.inj (h1.symm.trans hc)
  subst hr
  obtain ⟨hS9, hfc, kC, hkC, hkind⟩ := hK.1 ci _ hc
  obtain ⟨cf, kf, fi, f, hi, hsl⟩ := hS9 k hkN
  have hlay := hts _ (hin _ (u_in_lay hkN))
  unfold u_lay at hlay
  rw [if_pos hfin] at hlay
  have hst := (u_facts hfc hkC (u_lays hts hin hkN) hi).1
  have hcf : m.cls = cf := by
    obtain ⟨_, _, c', _, _, _, -, -, hf', -, -, -, hown2, -⟩ := Cond.laysFinal_spec hlay
    have e1 : c' = cf := by have := hi.symm.trans hf'; simp at this; exact this.1.symm
    rw [hT, hCo] at hown2
    rw [← e1]; exact Option.some.inj (B.2.2.2.1.symm.trans hown2)
  have h6 := u_fits hfc hkC hkind (Or.inr hlay) hi hd hn hfit
  refine W.putFinK B.1 B.2.1 B.2.2.2.1 (hts _ hlink) (by rw [hT] at hi; exact hi) hst hcf hin2 (by rw [q2]; exact h6) q1 q3 (by rw [hsl]; exact k2_hasslot (q4 k hkN)) rfl rfl hdg fun H' e1 e2 e3 => ?_
  rw [hsl] at e1 ⊢
  refine kk H' _ (hP.setZ hZ hσ hτ ?_ e3) (hS.put e2 e3 (hP.1 id _ hZ).2) e2
  refine ⟨_, hc, ?_⟩
  show t_OB _ _ _ _ _ (vp_V (jp_fl Γ.2.2.1 σ' τ' id 0 fs'))
  rw [hset]
  exact t_OB.to (V := updV (vp_V (jp_fl Γ.2.2.1 σ τ id 0 fs)) k v) ⟨_, e1, q2, q3, t_set q4 hap hkN v⟩ (fun j _ => vp_updV_set (by rw [jp_fl_len]; exact hl) v j)
theorem jp_fl_setr (ad : Nat → Nat) (hl : k < fs.length) (r : Nat) : jp_fl ad σ τ id 0 (fs.set k (1, r)) = (jp_fl ad σ τ id 0 fs).set k (.ref (ad r)) := by
  apply List.ext_getElem?
  intro j
  have hl2 : k < (jp_fl ad σ τ id 0 fs).length := by rw [jp_fl_len]; exact hl
  by_cases hj : j = k
  · subst hj
    rw [List.getElem?_set_self hl2, jp_fl_get, List.getElem?_set_self hl]
    rfl
  · rw [List.getElem?_set_ne (fun q => hj q.symm), jp_fl_get, jp_fl_get, List.getElem?_set_ne (fun q => hj q.symm)]
/-- a final field gets an object or an array -/
theorem jp_putr (B : jp_B Γ p s m args meth c own cc n ret) (hin2 : meth.name = "<init>") (hP : jp_P Γ Z σ τ H) (hS : va_S (jp_A Γ) s.heap H locs) (hZ : Z id = some (0, ci, fs)) (hl : k < fs.length) (hc : vwCl[ci]? = some (C, T, N)) (hkN : k < N) (hin : ∀ w ∈ u_ws C T N, w ∈ jp_ws) (ty0 : Nat → FieldType) (hty : ∀ k, k < N → parseFieldDescriptor (T k).2.2.1 = some (ty0 k)) (hnm : ∀ a, a < N → ∀ b, b < N → a ≠ b → (T a).2.1 ≠ (T b).2.1) (hT : (T k).1 = C) (hCo : C = own) (hlink : Cond.fieldLink own index C (T k).2.1 (T k).2.2.1 ∈ jp_ws) (hfin : (T k).2.2.2 = true) {ty : FieldType} (hd : parseFieldDescriptor (T k).2.2.1 = some ty) (hn : narrow ty (.ref (Γ.2.2.1 r)) = .ref (Γ.2.2.1 r)) (hfit : fits ty (.ref (Γ.2.2.1 r)) = true) (hfs : fs.set k (1, r) = fs') (hdg : decode cc pc = .ok (.putfield index, 3))
    (kk : ∀ (H1 : Heap) (locs1 : List Loc), jp_P Γ (jp_zu Z id (0, ci, fs')) σ τ H1 → va_S (jp_A Γ) s.heap H1 locs1 → H1.size = H.size → W p l e R s m args below meth c H1 locs1 cells slots Q (F0 m (pc + 3) ls rest)) : W p l e R s m args below meth c H locs cells slots Q (F0 m pc ls (.ref (Γ.2.2.1 r) :: .ref (Γ.2.2.1 id) :: rest)) :=
  jp_putF B hin2 hP hS hZ hl hc hkN hin ty0 hty hnm hT hCo hlink hfin hd hn hfit (fun i _ => rfl) (fun i _ => rfl) (by rw [← hfs]; exact jp_fl_setr _ hl r) hdg kk
/-- a final int -/
theorem jp_putiF (B : jp_B Γ p s m args meth c own cc n ret) (hin2 : meth.name = "<init>") (hP : jp_P Γ Z σ τ H) (hS : va_S (jp_A Γ) s.heap H locs) (hZ : Z id = some (0, ci, fs)) (hk : fs[k]? = some (0, r)) (hc : vwCl[ci]? = some (C, T, N)) (hkN : k < N) (hin : ∀ w ∈ u_ws C T N, w ∈ jp_ws) (ty0 : Nat → FieldType) (hty : ∀ k, k < N → parseFieldDescriptor (T k).2.2.1 = some (ty0 k)) (hnm : ∀ a, a < N → ∀ b, b < N → a ≠ b → (T a).2.1 ≠ (T b).2.1) (hT : (T k).1 = C) (hCo : C = own) (hlink : Cond.fieldLink own index C (T k).2.1 (T k).2.2.1 ∈ jp_ws) (hfin : (T k).2.2.2 = true) {v : Int32} (hd : parseFieldDescriptor (T k).2.2.1 = some .int) (hdg : decode cc pc = .ok (.putfield index, 3))
    (kk : ∀ (H1 : Heap) (locs1 : List Loc), jp_P Γ (jp_zu Z id (0, ci, fs)) (jp_up σ id k v) τ H1 → va_S (jp_A Γ) s.heap H1 locs1 → H1.size = H.size → W p l e R s m args below meth c H1 locs1 cells slots Q (F0 m (pc + 3) ls rest)) : W p l e R s m args below meth c H locs cells slots Q (F0 m pc ls (.int v :: .ref (Γ.2.2.1 id) :: rest)) :=
  jp_putF B hin2 hP hS hZ (List.getElem?_eq_some_iff.mp hk).1 hc hkN hin ty0 hty hnm hT hCo hlink hfin hd rfl rfl (fun i h => jp_up_n σ v h) (fun i _ => rfl) (jp_fl_seti _ hk v) hdg kk
/-- Object's constructor -/
theorem jp_obj (B : jp_B Γ p s m args meth c own cc n ret) {lv : List (Nat × Value)} (hl : lv_has ls n lv) {a : Addr} (hlink : Cond.methodLink own index objectInit ∈ jp_ws) (hinst : Cond.instanceMethod objectInit ∈ jp_ws) (hcode : Cond.code objectInit ⟨#[0xb1]⟩ 1 none ∈ jp_ws) (hfr : 1 ≤ R.frames) (hlo : (rest.map fun v => v.category).sum + 12 ≤ R.locals) (hdg : decode cc pc = .ok (.invokespecial index, 3))
    (kk : W p l e R s m args below meth c H locs cells slots Q (F0 m (pc + 3) ls rest)) : W p l e R s m args below meth c H locs cells slots Q (F0 m pc ls (.ref a :: rest)) :=
  W.objInit B.1 B.2.1 B.2.2.2.1 (B.2.2.2.2.1 _ hlink) (B.2.2.2.2.1 _ hinst) (B.2.2.2.2.1 _ hcode) rfl (hl.1.trans B.2.2.1.symm) rfl hdg hfr (by show 2 * 0 + _ + 12 ≤ _; omega) kk
variable {y : MethodName} {cc' : ByteArray} {n' fr lo mc ms : Nat} {av : List Value} {Z' : Nat → Option jp_Sh} {σ' : jp_I} {τ' : jp_J} {lv : List (Nat × Value)}
theorem jp_afterK {a : Array Value} {st0 : List Value} (hr : va_Run p l e R s m args below meth c H locs cells slots mc ms (F0 m pc ls st0) rest (jp_Q Γ Z' none σ' τ' a) (jp_A Γ)) (hS : va_S (jp_A Γ) s.heap H locs)
    (kk : ∀ (H1 : Heap) (locs1 : List Loc), jp_P Γ Z' σ' τ' H1 → va_S (jp_A Γ) s.heap H1 locs1 → W p l e R s m args below meth c H1 locs1 (cells + mc) (slots + ms) Q (F0 m (pc + 3) ls rest)) : W p l e R s m args below meth c H locs cells slots Q (F0 m pc ls st0) := by
  intro T hT X
  obtain ⟨v, st₀, t, T', L, h0, X', hL, e1, e2, ⟨hv, hp, hz, hk⟩, st⟩ := hr T hT X
  cases hv
  rw [h0] at hz hk
  rw [← e1] at hz hk hp
  obtain ⟨t2, a1, b1⟩ := kk T'.heap (locs ++ L) hp ⟨Nat.le_trans hS.1 hz, fun q h1 h2 => by rw [hk q (Nat.lt_of_lt_of_le h1 hS.1) h2]; exact hS.2.1 q h1 h2, fun q hq => by
      rcases List.mem_append.mp hq with h | h
      · exact hS.2.2 q h
      · exact hL q h⟩ T' rfl X'
  exact ⟨t2, st t2 a1, b1⟩
theorem jp_preK {av : List Value} (B : jp_B Γ p s m args meth c own cc n ret) (hP : jp_P Γ Z σ τ H) (hS : va_S (jp_A Γ) s.heap H locs) {sz : Nat} (hz : H.size = sz) : PreS s H (va_Pc av (jp_KP Γ Z σ τ sz)) av :=
  ⟨jp_blindK, fun U hU hW => ⟨rfl, by rw [hU]; exact hz, by rw [hU]; exact hP, jp_E.moved B.2.2.2.2.2.2.2 hW (by rw [hU]; exact hS.1) (fun q h1 h2 => by rw [hU]; exact hS.2.1 q h1 h2)⟩⟩
/-- a private constructor of a nest mate -/
theorem jp_callIN (B : jp_B Γ p s m args meth c own cc n ret) (hP : jp_P Γ Z σ τ H) (hS : va_S (jp_A Γ) s.heap H locs) (hz : H.size = s.heap.size + cells) (hl : lv_has ls n lv) (hM : jp_K l y cc' n' fr lo mc ms Γ Z σ τ (s.heap.size + cells) (.ref (Γ.2.2.1 id) :: av) Z' σ' τ') (hy : y.name = "<init>") (hcode : Cond.code y cc' n' none ∈ jp_ws) (hlink : Cond.methodLinkNest own index y host ∈ jp_ns) (hin : Cond.instanceMethod y ∈ jp_ws) (hini : Cond.initialized y.cls ∈ jp_ws)
    (hd : y.cls ≠ "java/lang/invoke/MethodHandle" ∧ y.cls ≠ "java/lang/invoke/VarHandle" ∧ (parseMethodDescriptor y.desc).map (fun d => d.parameters.length) = some av.length) (hR : fr + 1 ≤ R.frames ∧ 8 + (n' + 11) + lo ≤ R.locals) (hf : cells + mc ≤ R.cells ∧ slots + ms ≤ R.slots) {st0 : List Value} (hst0 : st0 = av.reverse ++ .ref (Γ.2.2.1 id) :: rest) (hW : (rest.map fun v => v.category).sum ≤ 8) (hdg : decode cc pc = .ok (.invokespecial index, 3))
    (kk : ∀ (H1 : Heap) (locs1 : List Loc), jp_P Γ Z' σ' τ' H1 → va_S (jp_A Γ) s.heap H1 locs1 → W p l e R s m args below meth c H1 locs1 (cells + mc) (slots + ms) Q (F0 m (pc + 3) ls rest)) : W p l e R s m args below meth c H locs cells slots Q (F0 m pc ls st0) := by
  have hts := B.2.2.2.2.1
  exact jp_afterK (va_runIN (b := Γ.2.2.1 id) (As := av) (rest := rest) ⟨B.1, B.2.1, B.2.2.1, B.2.2.2.1, hts⟩ hM ⟨va_cnB av.length hts (jp_good (y := y) (cc := cc) (n := n) (ret := ret) hcode) rfl rfl rfl (B.2.2.2.2.2.2.2.2.1 _ hlink) (hts _ hini) hd hR, hy, hts _ hin⟩ (jp_preK B hP hS hz) rfl rfl hl.1 hst0 (lv_room hW) hdg hf) hS kk
/-- a public constructor -/
theorem jp_callI (B : jp_B Γ p s m args meth c own cc n ret) (hP : jp_P Γ Z σ τ H) (hS : va_S (jp_A Γ) s.heap H locs) (hz : H.size = s.heap.size + cells) (hl : lv_has ls n lv) (hM : jp_K l y cc' n' fr lo mc ms Γ Z σ τ (s.heap.size + cells) (.ref (Γ.2.2.1 id) :: av) Z' σ' τ') (hy : y.name = "<init>") (hcode : Cond.code y cc' n' none ∈ jp_ws) (hlink : Cond.methodLink own index y ∈ jp_ws) (hin : Cond.instanceMethod y ∈ jp_ws) (hini : Cond.initialized y.cls ∈ jp_ws)
    (hd : y.cls ≠ "java/lang/invoke/MethodHandle" ∧ y.cls ≠ "java/lang/invoke/VarHandle" ∧ (parseMethodDescriptor y.desc).map (fun d => d.parameters.length) = some av.length) (hR : fr + 1 ≤ R.frames ∧ 8 + (n' + 11) + lo ≤ R.locals) (hf : cells + mc ≤ R.cells ∧ slots + ms ≤ R.slots) {st0 : List Value} (hst0 : st0 = av.reverse ++ .ref (Γ.2.2.1 id) :: rest) (hW : (rest.map fun v => v.category).sum ≤ 8) (hdg : decode cc pc = .ok (.invokespecial index, 3))
    (kk : ∀ (H1 : Heap) (locs1 : List Loc), jp_P Γ Z' σ' τ' H1 → va_S (jp_A Γ) s.heap H1 locs1 → W p l e R s m args below meth c H1 locs1 (cells + mc) (slots + ms) Q (F0 m (pc + 3) ls rest)) : W p l e R s m args below meth c H locs cells slots Q (F0 m pc ls st0) := by
  have hts := B.2.2.2.2.1
  exact jp_afterK (va_runI (b := Γ.2.2.1 id) (As := av) (rest := rest) ⟨B.1, B.2.1, B.2.2.1, B.2.2.2.1, hts⟩ hM ⟨callB_of av.length hts (jp_good (y := y) (cc := cc) (n := n) (ret := ret) hcode) rfl rfl rfl (hts _ hini) (hts _ hlink) hd hR, hy, hts _ hin⟩ (jp_preK B hP hS hz) rfl rfl hl.1 hst0 (lv_room hW) hdg hf) hS kk
theorem jp_endK (B : jp_B Γ p s m args meth c own cc n none) (hP : jp_P Γ Z σ τ H) (hS : va_S (jp_A Γ) s.heap H locs) (hc : cells ≤ mc) (hs : slots ≤ ms) (hdg : decode cc pc = .ok (.return_, 1)) (h : Z' = Z ∧ σ' = σ ∧ τ' = τ) : W p l e R s m args below meth c H locs cells slots (MQ below (jp_Q Γ Z' none σ' τ') args s mc ms (jp_A Γ)) (F0 m pc ls []) := by
  obtain ⟨rfl, rfl, rfl⟩ := h
  refine W.widen hc hs ?_
  exact W.vret B.1 B.2.1 B.2.2.2.2.2.1 (fun t ht hW => ⟨rfl, by rw [ht]; exact hP, hS.F ht⟩) hS.2.2 hdg B.2.2.2.2.2.2.1
end JPK
theorem jp_mkK {l : Launch} {y : MethodName} {cc : ByteArray} {n : Nat} {fr lo mc ms : Nat} {Γ : jp_G} {Z Z' : Nat → Option jp_Sh} {σ : jp_I} {τ : jp_J} {sz : Nat} {av : List Value} {σ' : jp_I} {τ' : jp_J} (hy : plainName y.cls = true) (hyn : y.name = "<init>") (hn : (lg_sl av).length ≤ n) {lv : List (Nat × Value)} (hlv : lv_args 0 av = lv)
    (body : ∀ (p : Program) (e : Jvm.Env) (s : State) (m : MethodId) (args : Array Value) (below : List Frame) (meth : Method) (c : Code), jp_B Γ p s m args meth c y.cls cc n none → meth.name = "<init>" → s.heap.size = sz → jp_P Γ Z σ τ s.heap → ∀ ls : Array Slot, lv_has ls n lv →
      W p l e (jp_RX fr lo mc ms) s m args below meth c s.heap [] 0 0 (MQ below (jp_Q Γ Z' none σ' τ') args s mc ms (jp_A Γ)) (F0 m 0 ls [])) : jp_K l y cc n fr lo mc ms Γ Z σ τ sz av Z' σ' τ' := by
  refine Met.ofW (cc := cc) (maxL := n) (ret := none) hy rfl ?_
  intro p e s m args below meth c s₁ B hml hv
  obtain ⟨rfl, hsz, hP, hE⟩ := hv
  have hts := atoms_spec (ws := jp_W y cc n none) B.pre
  have hl := lv_entry av (n := n) hn
  rw [lg_entry_eq]
  exact body p e s m _ below meth c ⟨B.exec, B.bytes, hml, findClass_of_methodNamed B.named, fun w hw => hts w (List.mem_cons_of_mem _ hw), B.returns, B.notSynchronized, hE⟩ ((name_of_methodNamed B.named B.method).1.trans hyn) hsz hP _ (hlv ▸ hl)

def jp_len (x : Int32) (N M : Nat) : Bool := !decide (x < 0) && (decide (x.toNatClampNeg = N) && decide (N ≤ M))
theorem jp_len_1 {x : Int32} {N M : Nat} (h : jp_len x N M = true) : ¬ x < 0 := by
  simp only [jp_len, Bool.and_eq_true, Bool.not_eq_true', decide_eq_false_iff_not, decide_eq_true_eq] at h
  exact h.1
theorem jp_len_2 {x : Int32} {N M : Nat} (h : jp_len x N M = true) : x.toNatClampNeg = N := by
  simp only [jp_len, Bool.and_eq_true, Bool.not_eq_true', decide_eq_false_iff_not, decide_eq_true_eq] at h
  exact h.2.1
theorem jp_len_3 {x : Int32} {N M : Nat} (h : jp_len x N M = true) : N ≤ M := by
  simp only [jp_len, Bool.and_eq_true, Bool.not_eq_true', decide_eq_false_iff_not, decide_eq_true_eq] at h
  exact h.2.2
theorem jp_injK {σ σ' : jp_I} {τ τ' : jp_J} (h : some (σ, τ) = some (σ', τ')) : σ' = σ ∧ τ' = τ := by
  cases h; exact ⟨rfl, rfl⟩

theorem jp_ad0 {A S z k c : Nat} (ha : A = z + k) (hs : S = z) (h : k = c) : A = S + c := by rw [ha, hs, h]
theorem jp_ad1 {A S z k c : Nat} (ha : A = z + k) (hs : S = z) (h : k + 1 = c) : A + 1 = S + c := by rw [ha, hs, ← h]; rfl
theorem jp_ad1t {A S z : Nat} (ha : A + 1 = z) (hs : S = z) : A + 1 = S + 0 := by rw [ha, hs]; rfl
theorem jp_ad2 {A S z k c d : Nat} (ha : A = z + k) (hs : S = z) (h : k = c + d) : A = S + c + d := by rw [ha, hs, h, Nat.add_assoc]
theorem jp_c1 {j : Nat} (h : j < 1) : j = 0 := by omega
theorem jp_c2 {j : Nat} (h : j < 2) : j = 0 ∨ j = 1 := by omega
theorem jp_c3 {j : Nat} (h : j < 3) : j = 0 ∨ j = 1 ∨ j = 2 := by omega
theorem jp_c4 {j : Nat} (h : j < 4) : j = 0 ∨ j = 1 ∨ j = 2 ∨ j = 3 := by omega
theorem jp_c5 {j : Nat} (h : j < 5) : j = 0 ∨ j = 1 ∨ j = 2 ∨ j = 3 ∨ j = 4 := by omega
theorem jp_c6 {j : Nat} (h : j < 6) : j = 0 ∨ j = 1 ∨ j = 2 ∨ j = 3 ∨ j = 4 ∨ j = 5 := by omega
theorem jp_c7 {j : Nat} (h : j < 7) : j = 0 ∨ j = 1 ∨ j = 2 ∨ j = 3 ∨ j = 4 ∨ j = 5 ∨ j = 6 := by omega
theorem jp_c8 {j : Nat} (h : j < 8) : j = 0 ∨ j = 1 ∨ j = 2 ∨ j = 3 ∨ j = 4 ∨ j = 5 ∨ j = 6 ∨ j = 7 := by omega
