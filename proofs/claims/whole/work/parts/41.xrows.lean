/-! ===== contracts of methods that return or throw: o is .inl v (returned v) or .inr k (thrown, the class jp_xc k) ===== -/
def jp_res (ret : Option FieldType) (v : Int32) : Option Value := match ret with
  | none => none
  | some _ => some (.int v)
def jp_XQ (Γ : jp_G) (Z : Nat → Option jp_Sh) (ret : Option FieldType) (o : Sum Int32 Nat) (σ : jp_I) (τ : jp_J) : Array Value → State → Outcome → State → Prop := fun a st oc t => ∃ v : Int32, o = .inl v ∧ jp_Q Γ Z (jp_res ret v) σ τ a st oc t
def jp_XX (Γ : jp_G) (Z : Nat → Option jp_Sh) (o : Sum Int32 Nat) (σ : jp_I) (τ : jp_J) : String → State → State → Prop := fun E st t => ∃ k : Nat, o = .inr k ∧ E = jp_xc k ∧ jp_P Γ Z σ τ t.heap ∧ va_F (jp_A Γ) st t
abbrev jp_RX (fr lo mc ms : Nat) : Room := { frames := fr, cells := mc, slots := ms, locals := lo }
def jp_X (l : Launch) (y : MethodName) (cc : ByteArray) (n : Nat) (ret : Option FieldType) (fr lo mc ms : Nat) (Γ : jp_G) (Z : Nat → Option jp_Sh) (σ : jp_I) (τ : jp_J) (av : List Value) (o : Sum Int32 Nat) (σ' : jp_I) (τ' : jp_J) : Prop :=
  vx_Met l y (jp_W y cc n ret) (jp_RX fr lo mc ms) (va_Pc av (jp_Pre Γ Z σ τ)) (jp_XQ Γ Z ret o σ' τ') (jp_XX Γ Z o σ' τ') mc ms (jp_A Γ)
theorem jp_injX {v r : Sum Int32 Nat} {σ σ' : jp_I} {τ τ' : jp_J} (h : some (v, σ, τ) = some (r, σ', τ')) : r = v ∧ σ' = σ ∧ τ' = τ := by
  cases h; exact ⟨rfl, rfl, rfl⟩
section JPW
variable (p : Program) (l : Launch) (e : Jvm.Env) (R : Room) (s : State) (m : MethodId) (args : Array Value) (below : List Frame) (meth : Method) (c : Code) (Q : State → Prop) (n : Nat) (Γ : jp_G) (Z : Nat → Option jp_Sh)
def jp_atc (cells slots : Nat) (pc : Nat) (lv : List (Nat × Value)) (st : List Value) (σ : jp_I) (τ : jp_J) : Prop :=
  ∀ (H : Heap) (locs : List Loc) (ls : Array Slot), jp_P Γ Z σ τ H → va_S (jp_A Γ) s.heap H locs → lv_has ls n lv → W p l e R s m args below meth c H locs cells slots Q (F0 m pc ls st)
end JPW
theorem jp_mkX {l : Launch} {y : MethodName} {cc : ByteArray} {n : Nat} {ret : Option FieldType} {fr lo mc ms : Nat} {Γ : jp_G} {Z : Nat → Option jp_Sh} {σ : jp_I} {τ : jp_J} {av : List Value} {o : Sum Int32 Nat} {σ' : jp_I} {τ' : jp_J} (hy : plainName y.cls = true) (hn : (lg_sl av).length ≤ n) {lv : List (Nat × Value)} (hlv : lv_args 0 av = lv)
    (body : ∀ (p : Program) (e : Jvm.Env) (s : State) (m : MethodId) (args : Array Value) (below : List Frame) (meth : Method) (c : Code), jp_B Γ p s m args meth c y.cls cc n ret → (∀ x ∈ c.exceptionTable.toList, False) →
      jp_atc p l e (jp_RX fr lo mc ms) s m args below meth c (vx_MQ below (jp_XQ Γ Z ret o σ' τ') (jp_XX Γ Z o σ' τ') args s mc ms (jp_A Γ)) n Γ Z 0 0 0 lv [] σ τ) : jp_X l y cc n ret fr lo mc ms Γ Z σ τ av o σ' τ' := by
  refine vx_ofW (cc := cc) (maxL := n) (ret := ret) hy rfl ?_
  intro p e s m args below meth c s₁ B hml ht hv
  obtain ⟨rfl, hP, hE⟩ := hv
  have hts := atoms_spec (ws := jp_W y cc n ret) B.pre
  have hl := lv_entry av (n := n) hn
  rw [lg_entry_eq]
  exact body p e s m _ below meth c ⟨B.exec, B.bytes, hml, findClass_of_methodNamed B.named, fun w hw => hts w (List.mem_cons_of_mem _ hw), B.returns, B.notSynchronized, hE⟩ ht s.heap [] _ hP va_S.rf (hlv ▸ hl)
theorem jp_xg (k : Nat) (hk : k < 4) : (∀ w ∈ (vx_atS RX7 (jp_xic k) (jp_xc k) (jp_xn k)).filter goodWord, w ∈ jp_ws) ∧ (∀ w ∈ (vx_atS RX7 (jp_xic k) (jp_xc k) (jp_xn k)).filter (fun w => !goodWord w), w ∈ jp_cs) ∧ (∀ w ∈ Cond.classLink RX7 (jp_xik k) (jp_xc k) :: Cond.initialized (jp_xc k) :: vx_atS RX7 (jp_xic k) (jp_xc k) (jp_xn k), vx_ot w = true) ∧ Cond.classLink RX7 (jp_xik k) (jp_xc k) ∈ jp_ws ∧ Cond.initialized (jp_xc k) ∈ jp_ws ∧ Bundle.fit (jp_xc k) = true ∧ (∀ n ∈ jp_xn k, Bundle.fit n = true) := by
  have g : ∀ {L : List Cond}, (L.filter goodWord).all (fun w => decide (w ∈ lw_tbl)) = true → ∀ w ∈ L.filter goodWord, w ∈ jp_ws := fun h w hw => List.mem_filter.mpr ⟨of_decide_eq_true (List.all_eq_true.mp h w hw), (List.mem_filter.mp hw).2⟩
  have b : ∀ {L : List Cond}, (L.filter (fun w => !goodWord w)).all (fun w => decide (w ∈ lw_tbl) && jp_isC w) = true → ∀ w ∈ L.filter (fun w => !goodWord w), w ∈ jp_cs := fun h w hw => by
    have h1 := List.all_eq_true.mp h w hw
    simp only [Bool.and_eq_true, decide_eq_true_eq] at h1
    exact List.mem_filter.mpr h1
  have hl := jp_xl k hk
  refine ⟨?_, ?_, ?_, List.mem_filter.mpr ⟨List.contains_iff_mem.mp hl.1, rfl⟩, List.mem_filter.mpr ⟨List.contains_iff_mem.mp hl.2.1, rfl⟩, ?_, ?_⟩
  · rcases (show k = 0 ∨ k = 1 ∨ k = 2 ∨ k = 3 by omega) with rfl | rfl | rfl | rfl
    · exact g jp_xg0
    · exact g jp_xg1
    · exact g jp_xg2
    · exact g jp_xg3
  · rcases (show k = 0 ∨ k = 1 ∨ k = 2 ∨ k = 3 by omega) with rfl | rfl | rfl | rfl
    · exact b jp_xb0
    · exact b jp_xb1
    · exact b jp_xb2
    · exact b jp_xb3
  · rcases (show k = 0 ∨ k = 1 ∨ k = 2 ∨ k = 3 by omega) with rfl | rfl | rfl | rfl
    · exact List.all_eq_true.mp jp_xo0
    · exact List.all_eq_true.mp jp_xo1
    · exact List.all_eq_true.mp jp_xo2
    · exact List.all_eq_true.mp jp_xo3
  · rcases (show k = 0 ∨ k = 1 ∨ k = 2 ∨ k = 3 by omega) with rfl | rfl | rfl | rfl <;> decide +kernel
  · rcases (show k = 0 ∨ k = 1 ∨ k = 2 ∨ k = 3 by omega) with rfl | rfl | rfl | rfl <;> decide +kernel
section JPE
variable {p : Program} {l : Launch} {e : Jvm.Env} {R : Room} {s : State} {m : MethodId} {args : Array Value} {below : List Frame} {meth : Method} {c : Code} {H : Heap} {locs : List Loc} {cells slots mc ms : Nat} {cc : ByteArray} {pc : Nat} {ls : Array Slot} {Γ : jp_G} {Z : Nat → Option jp_Sh} {σ σ' : jp_I} {τ τ' : jp_J} {own : String} {n : Nat} {v : Int32} {o : Sum Int32 Nat} {ret : Option FieldType} {lv : List (Nat × Value)} {rest : List Value}
theorem jp_endiX (B : jp_B Γ p s m args meth c own cc n (some .int)) (hP : jp_P Γ Z σ τ H) (hS : va_S (jp_A Γ) s.heap H locs) (hc : cells ≤ mc) (hs : slots ≤ ms) (hdg : decode cc pc = .ok (.ireturn, 1)) (h : o = .inl v ∧ σ' = σ ∧ τ' = τ) : W p l e R s m args below meth c H locs cells slots (vx_MQ below (jp_XQ Γ Z (some .int) o σ' τ') (jp_XX Γ Z o σ' τ') args s mc ms (jp_A Γ)) (F0 m pc ls [.int v]) := by
  obtain ⟨rfl, rfl, rfl⟩ := h
  refine vx_ret (W.widen hc hs ?_)
  exact W.iret B.1 B.2.1 B.2.2.2.2.2.1 (fun t ht hW => ⟨v, rfl, rfl, by rw [ht]; exact hP, hS.F ht⟩) hS.2.2 hdg B.2.2.2.2.2.2.1
theorem jp_endzX (B : jp_B Γ p s m args meth c own cc n (some .boolean)) (hP : jp_P Γ Z σ τ H) (hS : va_S (jp_A Γ) s.heap H locs) (hc : cells ≤ mc) (hs : slots ≤ ms) (hv : jp_isb v = true) (hdg : decode cc pc = .ok (.ireturn, 1)) (h : o = .inl v ∧ σ' = σ ∧ τ' = τ) : W p l e R s m args below meth c H locs cells slots (vx_MQ below (jp_XQ Γ Z (some .boolean) o σ' τ') (jp_XX Γ Z o σ' τ') args s mc ms (jp_A Γ)) (F0 m pc ls [.int v]) := by
  obtain ⟨rfl, rfl, rfl⟩ := h
  refine vx_ret (W.widen hc hs ?_)
  exact W.zret B.1 B.2.1 B.2.2.2.2.2.1 (jp_isb_n hv) (fun t ht hW => ⟨v, rfl, rfl, by rw [ht]; exact hP, hS.F ht⟩) hS.2.2 hdg B.2.2.2.2.2.2.1
theorem jp_endvX (B : jp_B Γ p s m args meth c own cc n none) (hP : jp_P Γ Z σ τ H) (hS : va_S (jp_A Γ) s.heap H locs) (hc : cells ≤ mc) (hs : slots ≤ ms) (hdg : decode cc pc = .ok (.return_, 1)) (h : o = .inl v ∧ σ' = σ ∧ τ' = τ) : W p l e R s m args below meth c H locs cells slots (vx_MQ below (jp_XQ Γ Z none o σ' τ') (jp_XX Γ Z o σ' τ') args s mc ms (jp_A Γ)) (F0 m pc ls []) := by
  obtain ⟨rfl, rfl, rfl⟩ := h
  refine vx_ret (W.widen hc hs ?_)
  exact W.vret B.1 B.2.1 B.2.2.2.2.2.1 (fun t ht hW => ⟨v, rfl, rfl, by rw [ht]; exact hP, hS.F ht⟩) hS.2.2 hdg B.2.2.2.2.2.2.1
set_option maxHeartbeats 1000000 in
/-- throw new E("text") -/
theorem jp_throw (k : Nat) (hk : k < 4) (B : jp_B Γ p s m args meth c RX7 cc n ret) (hT : ∀ x ∈ c.exceptionTable.toList, False) (hst : l.stackTraces = false) (hP : jp_P Γ Z σ τ H) (hS : va_S (jp_A Γ) s.heap H locs) (hl : lv_has ls n lv) {is sid : Nat} {text : String} (hstr : (is, text, sid) ∈ jp_str)
    (d0 : decode cc pc = .ok (.new (jp_xik k), 3)) (d3 : decode cc (pc + 3) = .ok (.dup, 1)) (d4 : decode cc (pc + 4) = .ok (.ldc is, 2)) (d6 : decode cc (pc + 6) = .ok (.invokespecial (jp_xic k), 3)) (d9 : decode cc (pc + 9) = .ok (.athrow, 1))
    (hfr : (jp_xn k).length + 3 < R.frames) (hlo : (rest.map fun v => v.category).sum + (13 * ((jp_xn k).length + 1) + 43) ≤ R.locals) (hc : cells + 1 ≤ R.cells) (hs : slots + 6 ≤ R.slots) (hmc : cells + 1 ≤ mc) (hms : slots + 6 ≤ ms) (h : o = .inr k ∧ σ' = σ ∧ τ' = τ) :
    W p l e R s m args below meth c H locs cells slots (vx_MQ below (jp_XQ Γ Z ret o σ' τ') (jp_XX Γ Z o σ' τ') args s mc ms (jp_A Γ)) (F0 m pc ls rest) := by
  obtain ⟨rfl, rfl, rfl⟩ := h
  obtain ⟨g1, g2, g3, g4, g5, g6, g7⟩ := jp_xg k hk
  have hts := B.2.2.2.2.1
  have hE := B.2.2.2.2.2.2.2
  have hY := hE.2.2.2
  refine vx_throwS (A := jp_A Γ) B.1 B.2.1 hst (own := RX7) (cls := jp_xc k) (text := text) (names := jp_xn k) (ik := jp_xik k) (is := is) (ic := jp_xic k) (mc := mc) (ms := ms) (sa := Γ.2.2.1 sid) B.2.2.2.1 g6 g7 (hts _ g4) (hts _ g5) (hY.2.2.2.1 _ hstr) ?_ g3 hY.2.1 hY.2.2.1 hS (hl.1.trans B.2.2.1.symm) d0 d3 d4 d6 d9 (fun x hx => (hT x hx).elim) hfr hlo hc hs B.2.2.2.2.2.2.1 ?_ hS.2.2 hmc hms
  · intro w hw
    by_cases hg : goodWord w = true
    · exact hts w (g1 w (List.mem_filter.mpr ⟨hw, hg⟩))
    · have hw2 := g2 w (List.mem_filter.mpr ⟨hw, by simp [hg]⟩)
      exact va_Nw.use (jp_isC_tab (List.mem_filter.mp hw2).2) (hY.2.2.2.2.1 w hw2)
  · intro t _ hz hkp
    exact ⟨k, rfl, rfl, hP.kept hkp, Nat.le_trans hS.1 hz, fun q h1 h2 => by rw [hkp q (Nat.lt_of_lt_of_le h1 hS.1)]; exact hS.2.1 q h1 h2⟩
/-- behind a call that may throw: it returned, or it goes on to the caller -/
theorem jp_afterX {ret' : Option FieldType} {o' : Sum Int32 Nat} {σ1 : jp_I} {τ1 : jp_J} {a : Array Value} {st0 : List Value} {mc' ms' : Nat} (hr : vx_Run p l e R s m args below meth c H locs cells slots mc' ms' (F0 m pc ls st0) rest (jp_XQ Γ Z ret' o' σ1 τ1 a) (jp_XX Γ Z o' σ1 τ1) (jp_A Γ)) (hT : ∀ x ∈ c.exceptionTable.toList, False) (hlk : meth.locks = false) (hS : va_S (jp_A Γ) s.heap H locs) (hmc : cells + mc' ≤ mc) (hms : slots + ms' ≤ ms)
    (hx : ∀ k, o' = .inr k → o = .inr k ∧ σ' = σ1 ∧ τ' = τ1)
    (kk : ∀ v : Int32, o' = .inl v → ∀ (H1 : Heap) (locs1 : List Loc), jp_P Γ Z σ1 τ1 H1 → va_S (jp_A Γ) s.heap H1 locs1 → W p l e R s m args below meth c H1 locs1 (cells + mc') (slots + ms') (vx_MQ below (jp_XQ Γ Z ret o σ' τ') (jp_XX Γ Z o σ' τ') args s mc ms (jp_A Γ)) (F0 m (pc + 3) ls ((jp_res ret' v).toList ++ rest))) :
    W p l e R s m args below meth c H locs cells slots (vx_MQ below (jp_XQ Γ Z ret o σ' τ') (jp_XX Γ Z o σ' τ') args s mc ms (jp_A Γ)) (F0 m pc ls st0) := by
  intro T hT0 X
  have hk9 : ∀ {st₀ t T' : State} {L : List Loc}, st₀.heap = H → T'.heap = t.heap → va_F (jp_A Γ) st₀ t → (∀ z ∈ L, jp_A Γ z.base) → va_S (jp_A Γ) s.heap T'.heap (locs ++ L) := fun h0 e1 hF hL => by
    obtain ⟨hz, hk⟩ := hF
    rw [h0] at hz hk
    rw [e1]
    exact ⟨Nat.le_trans hS.1 hz, fun q h1 h2 => by rw [hk q (Nat.lt_of_lt_of_le h1 hS.1) h2]; exact hS.2.1 q h1 h2, fun q hq => by
      rcases List.mem_append.mp hq with h | h
      · exact hS.2.2 q h
      · exact hL q h⟩
  rcases hr T hT0 X with ⟨v, st₀, t, T', L, h0, X', hL, e1, e2, ⟨v9, ho, hv, hp, hF⟩, st⟩ | ⟨q, st₀, t, T', L, E, ce, h0, X', hL, e1, e2, ⟨k, ho, hE, hp, hF⟩, hce, hcv, hcl, st⟩
  · cases hv
    obtain ⟨t2, a1, b1⟩ := kk v9 ho T'.heap (locs ++ L) (by rw [e1]; exact hp) (hk9 h0 e1 hF hL) T' rfl X'
    exact ⟨t2, st t2 a1, b1⟩
  · obtain ⟨rfl, rfl, rfl⟩ := hx k ho
    have hS1 := hk9 h0 e1 hF hL
    obtain ⟨t2, a1, b1⟩ := vx_out (p := p) (l := l) (e := e) (R := R) (args := args) (ls := ls) (rest := rest) (pc := pc) (Qc := jp_XQ Γ Z ret (.inr k) σ' τ') (XC := jp_XX Γ Z (.inr k) σ' τ') (mc := mc) (ms := ms) (free := jp_A Γ) (H := T'.heap) (locs := locs ++ L) (fun x hx => (hT x hx).elim) hlk (by rw [e1]; exact hce) hcv hcl (fun t9 ht9 _ => ⟨k, rfl, hE, by rw [ht9, e1]; exact hp, hS1.F ht9⟩) hS1.2.2 hmc hms T' rfl X'
    exact ⟨t2, st.trans a1, b1⟩
variable {y : MethodName} {cc' : ByteArray} {n' fr lo index id ci N : Nat} {ret' : Option FieldType} {av : List Value} {o' : Sum Int32 Nat} {σ1 : jp_I} {τ1 : jp_J} {T : u_T} {fs : List (Nat × Nat)} {mc' ms' : Nat}
/-- a method of the same class that may throw, by its object -/
theorem jp_callVX (B : jp_B Γ p s m args meth c own cc n ret) (hT : ∀ x ∈ c.exceptionTable.toList, False) (hP : jp_P Γ Z σ τ H) (hS : va_S (jp_A Γ) s.heap H locs) (hl : lv_has ls n lv) (hM : jp_X l y cc' n' ret' fr lo mc' ms' Γ Z σ τ (.ref (Γ.2.2.1 id) :: av) o' σ1 τ1) (hZ : Z id = some (0, ci, fs)) (hc : vwCl[ci]? = some (y.cls, T, N)) (hcode : Cond.code y cc' n' ret' ∈ jp_ws) (hlink : Cond.methodLink own index y ∈ jp_ws) (hin : Cond.instanceMethod y ∈ jp_ws) (hse : Cond.selects y.cls y y ∈ jp_ws) (hini : Cond.initialized y.cls ∈ jp_ws)
    (hd : y.cls ≠ "java/lang/invoke/MethodHandle" ∧ y.cls ≠ "java/lang/invoke/VarHandle" ∧ (parseMethodDescriptor y.desc).map (fun d => d.parameters.length) = some av.length) (hR : fr + 1 ≤ R.frames ∧ 8 + (n' + 11) + lo ≤ R.locals) (hf : cells + mc' ≤ R.cells ∧ slots + ms' ≤ R.slots) (hm : cells + mc' ≤ mc ∧ slots + ms' ≤ ms) {st0 : List Value} (hst0 : st0 = av.reverse ++ .ref (Γ.2.2.1 id) :: rest) (hW : (rest.map fun v => v.category).sum ≤ 8) (hdg : decode cc pc = .ok (.invokevirtual index, 3))
    (hx : ∀ k, o' = .inr k → o = .inr k ∧ σ' = σ1 ∧ τ' = τ1)
    (kk : ∀ v : Int32, o' = .inl v → ∀ (H1 : Heap) (locs1 : List Loc), jp_P Γ Z σ1 τ1 H1 → va_S (jp_A Γ) s.heap H1 locs1 → W p l e R s m args below meth c H1 locs1 (cells + mc') (slots + ms') (vx_MQ below (jp_XQ Γ Z ret o σ' τ') (jp_XX Γ Z o σ' τ') args s mc ms (jp_A Γ)) (F0 m (pc + 3) ls ((jp_res ret' v).toList ++ rest))) :
    W p l e R s m args below meth c H locs cells slots (vx_MQ below (jp_XQ Γ Z ret o σ' τ') (jp_XX Γ Z o σ' τ') args s mc ms (jp_A Γ)) (F0 m pc ls st0) := by
  have hts := B.2.2.2.2.1
  have hp := jp_preS (av := .ref (Γ.2.2.1 id) :: av) B hP hS
  exact jp_afterX (vx_runV (C := y.cls) (As := av) (rest := rest) ⟨B.1, B.2.1, B.2.2.1, B.2.2.2.1, hts⟩ hM ⟨callB_of av.length hts (jp_good (y := y) (cc := cc) (n := n) (ret := ret) hcode) rfl rfl rfl (hts _ hini) (hts _ hlink) hd hR, hts _ hin, hts _ hse⟩ ⟨hp.1, jp_recv B hP hZ hc, hp.2⟩ rfl rfl hl.1 hst0 (lv_room hW) hdg hf) hT B.2.2.2.2.2.2.1 hS hm.1 hm.2 hx kk
end JPE
