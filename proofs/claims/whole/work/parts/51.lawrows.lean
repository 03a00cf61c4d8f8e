-- rows for the law: its wrappers (methods with a table of their own), its script, its long row
def jq_LW (y : MethodName) (cc : ByteArray) (n : Nat) (hh : List (Nat × Nat × Nat × Nat)) : List Cond := Cond.codeWith y cc n (some .int) hh :: jp_ws
def jq_M (l : Launch) (y : MethodName) (cc : ByteArray) (n : Nat) (hh : List (Nat × Nat × Nat × Nat)) (fr lo mc ms : Nat) (Γ : jp_G) (Z : Nat → Option jp_Sh) (σ : jp_I) (τ : jp_J) (av : List Value) (v : Int32) (σ' : jp_I) (τ' : jp_J) : Prop :=
  Met l y (jq_LW y cc n hh) (jp_RX fr lo mc ms) (va_Pc av (jp_Pre Γ Z σ τ)) (jp_Q Γ Z (some (.int v)) σ' τ') mc ms (jp_A Γ)
theorem jq_mk {l : Launch} {y : MethodName} {cc : ByteArray} {n : Nat} {hh : List (Nat × Nat × Nat × Nat)} {fr lo mc ms : Nat} {Γ : jp_G} {Z : Nat → Option jp_Sh} {σ : jp_I} {τ : jp_J} {av : List Value} {v : Int32} {σ' : jp_I} {τ' : jp_J} (hy : plainName y.cls = true) (hn : (lg_sl av).length ≤ n) {lv : List (Nat × Value)} (hlv : lv_args 0 av = lv)
    (body : ∀ (p : Program) (e : Jvm.Env) (s : State) (m : MethodId) (args : Array Value) (below : List Frame) (meth : Method) (c : Code), jp_B Γ p s m args meth c y.cls cc n (some .int) → c.exceptionTable.toList = tableOf hh →
      jp_atc p l e (jp_RX fr lo mc ms) s m args below meth c (MQ below (jp_Q Γ Z (some (.int v)) σ' τ') args s mc ms (jp_A Γ)) n Γ Z 0 0 0 lv [] σ τ) : jq_M l y cc n hh fr lo mc ms Γ Z σ τ av v σ' τ' := by
  refine va_MetW (cc := cc) (maxL := n) (ret := some .int) (hh := hh) hy rfl ?_
  intro p e s m args below meth c s₁ B hml hv
  obtain ⟨rfl, hP, hE⟩ := hv
  have hts := atoms_spec (ws := jq_LW y cc n hh) B.pre
  have ht := vx_table (x := y) B (hts _ List.mem_cons_self)
  have hl := lv_entry av (n := n) hn
  rw [lg_entry_eq]
  exact body p e s m _ below meth c ⟨B.exec, B.bytes, hml, findClass_of_methodNamed B.named, fun w hw => hts w (List.mem_cons_of_mem _ hw), B.returns, B.notSynchronized, hE⟩ ht s.heap [] _ hP va_S.rf (hlv ▸ hl)
theorem jq_good {y : MethodName} {cc : ByteArray} {n : Nat} {hh : List (Nat × Nat × Nat × Nat)} (h : Cond.codeWith y cc n (some .int) hh ∈ jp_ws) : GoodIn jp_ws (jq_LW y cc n hh) := by
  intro w hw
  rcases List.mem_cons.mp hw with rfl | hw
  · exact ⟨h, good_of_word (jp_gd _ h)⟩
  · exact ⟨hw, good_of_word (jp_gd _ hw)⟩
section JQR
variable {p : Program} {l : Launch} {e : Jvm.Env} {R : Room} {s : State} {m : MethodId} {args : Array Value} {below : List Frame} {meth : Method} {c : Code} {H : Heap} {locs : List Loc} {cells slots mc ms : Nat} {Q : State → Prop} {cc : ByteArray} {pc : Nat} {ls : Array Slot} {rest : List Value} {Γ : jp_G} {Z : Nat → Option jp_Sh} {σ σ' : jp_I} {τ τ' : jp_J} {own : String} {n : Nat} {ret : Option FieldType} {v r : Int32} {id N : Nat} {fs : List (Nat × Nat)}
theorem jq_endi (B : jp_B Γ p s m args meth c own cc n (some .int)) (hP : jp_P Γ Z σ τ H) (hS : va_S (jp_A Γ) s.heap H locs) (hc : cells ≤ mc) (hs : slots ≤ ms) (hdg : decode cc pc = .ok (.ireturn, 1)) (h : r = v ∧ σ' = σ ∧ τ' = τ) : W p l e R s m args below meth c H locs cells slots (MQ below (jp_Q Γ Z (some (.int r)) σ' τ') args s mc ms (jp_A Γ)) (F0 m pc ls [.int v]) := by
  obtain ⟨rfl, rfl, rfl⟩ := h
  refine W.widen hc hs ?_
  exact W.iret B.1 B.2.1 B.2.2.2.2.2.1 (fun t ht hW => ⟨rfl, by rw [ht]; exact hP, hS.F ht⟩) hS.2.2 hdg B.2.2.2.2.2.2.1
/-- a number into a long row -/
theorem jq_last (B : jp_B Γ p s m args meth c own cc n ret) (hP : jp_P Γ Z σ τ H) (hS : va_S (jp_A Γ) s.heap H locs) (hZ : Z id = some (3, N, fs)) {i : Int32} {x : Int64} (hin : vp_in i N) (hdg : decode cc pc = .ok (.lastore, 1))
    (kk : ∀ (H1 : Heap) (locs1 : List Loc), jp_P Γ Z σ (jp_upl τ id i.toNatClampNeg x) H1 → va_S (jp_A Γ) s.heap H1 locs1 → W p l e R s m args below meth c H1 locs1 cells slots Q (F0 m (pc + 1) ls rest)) : W p l e R s m args below meth c H locs cells slots Q (F0 m pc ls (.long x :: .int i :: .ref (Γ.2.2.1 id) :: rest)) := by
  have hK := B.2.2.2.2.2.2.2.1
  refine W.last B.1 B.2.1 (hP.1 id _ hZ).1 ((hK.2 2 _ rfl).1 N (fun j => .long (τ id j))) (fun q => by cases q) (by show ¬ (i < 0 ∨ (arrV _ _ _).slots.size ≤ _); rw [arrV_size]; exact hin) rfl rfl hdg fun H1 e z oq => ?_
  refine kk H1 _ (hP.set hZ (fun i _ => rfl) (fun i h => jp_upl_n τ x h) ?_ oq) (hS.put z oq (hP.1 id _ hZ).2)
  show H1[Γ.2.2.1 id]? = some (vp_cell _ _)
  rw [e]
  show some (Cell.setSlot (vp_cell _ (N, .inr (.inl (τ id)))) _ _) = some (vp_cell _ (N, .inr (.inl (jp_upl τ id i.toNatClampNeg x id))))
  rw [vp_cell_l, vp_cell_l, arrV_store, jp_upl_s]
  congr 2
  funext q
  by_cases hq : q = i.toNatClampNeg
  · subst hq
    simp [updV, vp_updL]
  · simp [updV, vp_updL, hq]
theorem jq_cast (hE : jp_E Γ s) (k : Nat) (hk : k < 4) : (Cond.castable (jp_xc k) (jp_xc k)).before args s = true :=
  va_Nw.use rfl (hE.2.2.2.2.2.2.2.1 _ (List.mem_filter.mpr ⟨List.contains_iff_mem.mp (jp_xl k hk).2.2, rfl⟩))
theorem jq_nc (hE : jp_E Γ s) {a b : String} (h : (a, b) ∈ jp_nc) : va_Nc a b s := hE.2.2.2.2.2.2.2.2.1 _ h
variable {y : MethodName} {cc' : ByteArray} {n' fr lo index ci : Nat} {ret' : Option FieldType} {av : List Value} {o' : Sum Int32 Nat} {σ1 : jp_I} {τ1 : jp_J} {T : u_T} {mc' ms' : Nat} {lv : List (Nat × Value)} {hh : List (Nat × Nat × Nat × Nat)}
/-- a call that may throw, in a method with a table -/
theorem jq_callVX (B : jp_B Γ p s m args meth c own cc n ret) (hP : jp_P Γ Z σ τ H) (hS : va_S (jp_A Γ) s.heap H locs) (hl : lv_has ls n lv) (hM : jp_X l y cc' n' ret' fr lo mc' ms' Γ Z σ τ (.ref (Γ.2.2.1 id) :: av) o' σ1 τ1) (hZ : Z id = some (0, ci, fs)) (hc : vwCl[ci]? = some (y.cls, T, N)) (hcode : Cond.code y cc' n' ret' ∈ jp_ws) (hlink : Cond.methodLink own index y ∈ jp_ws) (hin : Cond.instanceMethod y ∈ jp_ws) (hse : Cond.selects y.cls y y ∈ jp_ws) (hini : Cond.initialized y.cls ∈ jp_ws)
    (hd : y.cls ≠ "java/lang/invoke/MethodHandle" ∧ y.cls ≠ "java/lang/invoke/VarHandle" ∧ (parseMethodDescriptor y.desc).map (fun d => d.parameters.length) = some av.length) (hR : fr + 1 ≤ R.frames ∧ 8 + (n' + 11) + lo ≤ R.locals) (hf : cells + mc' ≤ R.cells ∧ slots + ms' ≤ R.slots) {st0 : List Value} (hst0 : st0 = av.reverse ++ .ref (Γ.2.2.1 id) :: rest) (hW : (rest.map fun v => v.category).sum ≤ 8) (hdg : decode cc pc = .ok (.invokevirtual index, 3))
    (kx : ∀ k : Nat, o' = .inr k → ∀ (H1 : Heap) (locs1 : List Loc), jp_P Γ Z σ1 τ1 H1 → va_S (jp_A Γ) s.heap H1 locs1 → ∀ (q : Addr) (ce : Cell), H1[q]? = some ce → ce.vm = .none → s.vm.findClass (jp_xc k) = some ce.cls → vx_W p l e R s m args below meth c H1 locs1 (cells + mc') (slots + ms') Q (F0 m pc ls rest) q)
    (kk : ∀ v : Int32, o' = .inl v → ∀ (H1 : Heap) (locs1 : List Loc), jp_P Γ Z σ1 τ1 H1 → va_S (jp_A Γ) s.heap H1 locs1 → W p l e R s m args below meth c H1 locs1 (cells + mc') (slots + ms') Q (F0 m (pc + 3) ls ((jp_res ret' v).toList ++ rest))) :
    W p l e R s m args below meth c H locs cells slots Q (F0 m pc ls st0) := by
  have hts := B.2.2.2.2.1
  have hp := jp_preS (av := .ref (Γ.2.2.1 id) :: av) B hP hS
  have hr := vx_runV (C := y.cls) (As := av) (rest := rest) (g := F0 m pc ls st0) (below := below) (meth := meth) (locs := locs) (e := e) (cells := cells) (slots := slots) ⟨B.1, B.2.1, B.2.2.1, B.2.2.2.1, hts⟩ hM ⟨callB_of av.length hts (jp_good (y := y) (cc := cc) (n := n) (ret := ret) hcode) rfl rfl rfl (hts _ hini) (hts _ hlink) hd hR, hts _ hin, hts _ hse⟩ ⟨hp.1, jp_recv B hP hZ hc, hp.2⟩ rfl rfl hl.1 hst0 (lv_room hW) hdg hf
  intro T0 hT0 X
  have hk9 : ∀ {st₀ t T' : State} {L : List Loc}, st₀.heap = H → T'.heap = t.heap → va_F (jp_A Γ) st₀ t → (∀ z ∈ L, jp_A Γ z.base) → va_S (jp_A Γ) s.heap T'.heap (locs ++ L) := fun h0 e1 hF hL => by
    obtain ⟨hz, hk⟩ := hF
    rw [h0] at hz hk
    rw [e1]
    exact ⟨Nat.le_trans hS.1 hz, fun q h1 h2 => by rw [hk q (Nat.lt_of_lt_of_le h1 hS.1) h2]; exact hS.2.1 q h1 h2, fun q hq => by
      rcases List.mem_append.mp hq with h | h
      · exact hS.2.2 q h
      · exact hL q h⟩
  rcases hr T0 hT0 X with ⟨v, st₀, t, T', L, h0, X', hL, e1, e2, ⟨v9, ho, hv, hp, hF⟩, st⟩ | ⟨q, st₀, t, T', L, E, ce, h0, X', hL, e1, e2, ⟨k, ho, hE, hp, hF⟩, hce, hcv, hcl, st⟩
  · cases hv
    obtain ⟨t2, a1, b1⟩ := kk v9 ho T'.heap (locs ++ L) (by rw [e1]; exact hp) (hk9 h0 e1 hF hL) T' rfl X'
    exact ⟨t2, st t2 a1, b1⟩
  · subst hE
    obtain ⟨t2, a1, b1⟩ := kx k ho T'.heap (locs ++ L) (by rw [e1]; exact hp) (hk9 h0 e1 hF hL) q ce (by rw [e1]; exact hce) hcv hcl T' rfl X'
    exact ⟨t2, st.trans a1, b1⟩
/-- a wrapper, called by the law -/
theorem jq_callW (B : jp_B Γ p s m args meth c own cc n ret) (hP : jp_P Γ Z σ τ H) (hS : va_S (jp_A Γ) s.heap H locs) (hl : lv_has ls n lv) (hM : jq_M l y cc' n' hh fr lo mc' ms' Γ Z σ τ av v σ1 τ1) (hcode : Cond.codeWith y cc' n' (some .int) hh ∈ jp_ws) (hlink : Cond.methodLink own index y ∈ jp_ws) (hst : Cond.static y ∈ jp_ws) (hini : Cond.initialized y.cls ∈ jp_ws)
    (hd : y.cls ≠ "java/lang/invoke/MethodHandle" ∧ y.cls ≠ "java/lang/invoke/VarHandle" ∧ (parseMethodDescriptor y.desc).map (fun d => d.parameters.length) = some av.length) (hR : fr + 1 ≤ R.frames ∧ 8 + (n' + 11) + lo ≤ R.locals) {cx sx : Nat} (hmc : mc' ≤ cx) (hms : ms' ≤ sx) (hf : cells + cx ≤ R.cells ∧ slots + sx ≤ R.slots) {st0 : List Value} (hst0 : st0 = av.reverse ++ rest) (hW : (rest.map fun v => v.category).sum ≤ 8) (hdg : decode cc pc = .ok (.invokestatic index, 3))
    (kk : ∀ (H1 : Heap) (locs1 : List Loc), jp_P Γ Z σ1 τ1 H1 → va_S (jp_A Γ) s.heap H1 locs1 → W p l e R s m args below meth c H1 locs1 (cells + cx) (slots + sx) Q (F0 m (pc + 3) ls (.int v :: rest))) : W p l e R s m args below meth c H locs cells slots Q (F0 m pc ls st0) := by
  have hts := B.2.2.2.2.1
  have hg : GoodIn jp_ws (va_wsS own index y (jq_LW y cc' n' hh)) := by
    intro w hw
    unfold va_wsS at hw
    rcases List.mem_append.mp hw with hw | hw
    · simp only [List.mem_cons, List.not_mem_nil, or_false] at hw
      rcases hw with rfl | rfl | rfl
      · exact ⟨hlink, good_of_word (jp_gd _ hlink)⟩
      · exact ⟨hst, good_of_word (jp_gd _ hst)⟩
      · exact ⟨hini, good_of_word (jp_gd _ hini)⟩
    · exact jq_good hcode w hw
  have hr := vx_runSW (p := p) (R := R) (As := av) (rest := rest) (g := F0 m pc ls st0) (below := below) (meth := meth) (locs := locs) (e := e) (cells := cells) (slots := slots) (hh := hh) (bytes := cc') (maxL := n') (ret := some .int) ⟨B.1, B.2.1, B.2.2.1, B.2.2.2.1, hts⟩ hM (vx_cwSW av.length hts hg rfl rfl rfl hd hR) (jp_preS B hP hS) rfl rfl hl.1 hst0 (lv_room hW) hdg ⟨by omega, by omega⟩
  intro T0 hT X
  obtain ⟨v9, st₀, t, T', L, h0, X', hL, e1, e2, ⟨hv, hp, hz, hk⟩, st⟩ := hr T0 hT X
  cases hv
  rw [h0] at hz hk
  rw [← e1] at hz hk hp
  obtain ⟨t2, a1, b1⟩ := W.widen (Nat.add_le_add_left hmc cells) (Nat.add_le_add_left hms slots) (kk T'.heap (locs ++ L) hp ⟨Nat.le_trans hS.1 hz, fun q h1 h2 => by rw [hk q (Nat.lt_of_lt_of_le h1 hS.1) h2]; exact hS.2.1 q h1 h2, fun q hq => by
      rcases List.mem_append.mp hq with h | h
      · exact hS.2.2 q h
      · exact hL q h⟩) T' rfl X'
  exact ⟨t2, st t2 a1, b1⟩
/-- the law's script -/
theorem jq_sld (B : jp_B Γ p s m args meth c own cc n ret) {b L : Nat} {xs : Nat → Int32} (hX : va_X b L xs s s.heap) (hbl : b < s.heap.size) (hbA : ¬ jp_A Γ b) (hS : va_S (jp_A Γ) s.heap H locs) {i : Int32} (hin : vp_in i L) (hdg : decode cc pc = .ok (.iaload, 1))
    (kk : W p l e R s m args below meth c H locs cells slots Q (F0 m (pc + 1) ls (.int (xs i.toNatClampNeg) :: rest))) : W p l e R s m args below meth c H locs cells slots Q (F0 m pc ls (.int i :: .ref b :: rest)) :=
  va_sld B.1 B.2.1 hX hbl hbA hS hin hdg kk
theorem jq_slen (B : jp_B Γ p s m args meth c own cc n ret) {b L : Nat} {xs : Nat → Int32} (hX : va_X b L xs s s.heap) (hbl : b < s.heap.size) (hbA : ¬ jp_A Γ b) (hS : va_S (jp_A Γ) s.heap H locs) (hdg : decode cc pc = .ok (.arraylength, 1))
    (kk : W p l e R s m args below meth c H locs cells slots Q (F0 m (pc + 1) ls (.int (nI L) :: rest))) : W p l e R s m args below meth c H locs cells slots Q (F0 m pc ls (.ref b :: rest)) :=
  va_slen B.1 B.2.1 hX hbl hbA hS hdg kk
end JQR
