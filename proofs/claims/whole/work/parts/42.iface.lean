section JPF
variable {p : Program} {l : Launch} {e : Jvm.Env} {R : Room} {s : State} {m : MethodId} {args : Array Value} {below : List Frame} {meth : Method} {c : Code} {H : Heap} {locs : List Loc} {cells slots : Nat} {Q : State → Prop} {cc : ByteArray} {pc : Nat} {ls : Array Slot} {rest : List Value} {Γ : jp_G} {Z : Nat → Option jp_Sh} {σ : jp_I} {τ : jp_J} {own : String} {n : Nat} {ret : Option FieldType}
variable {id ci index count N : Nat} {T : u_T} {fs : List (Nat × Nat)} {x y : MethodName} {cc' : ByteArray} {n' fr lo : Nat} {ret' : Option FieldType} {av : List Value} {res : Option Value} {σ' : jp_I} {τ' : jp_J} {lv : List (Nat × Value)}
/-- through an interface, on an object whose class is known -/
theorem jp_callF (B : jp_B Γ p s m args meth c own cc n ret) (hP : jp_P Γ Z σ τ H) (hS : va_S (jp_A Γ) s.heap H locs) (hl : lv_has ls n lv) (hM : jp_M l y cc' n' ret' fr lo Γ Z σ τ (.ref (Γ.2.2.1 id) :: av) res σ' τ') (hZ : Z id = some (0, ci, fs)) (hc : vwCl[ci]? = some (y.cls, T, N)) (hcode : Cond.code y cc' n' ret' ∈ jp_ws) (hlink : Cond.methodLink own index x ∈ jp_ws) (hin : Cond.instanceMethod y ∈ jp_ws) (hse : Cond.selects y.cls x y ∈ jp_ws) (hini : Cond.initialized y.cls ∈ jp_ws) (hF : va_Fw y.cls x y s)
    (hd : x.cls ≠ "java/lang/invoke/MethodHandle" ∧ x.cls ≠ "java/lang/invoke/VarHandle" ∧ (parseMethodDescriptor x.desc).map (fun d => d.parameters.length) = some av.length) (hR : fr + 1 ≤ R.frames ∧ 8 + (n' + 11) + lo ≤ R.locals) (hf : cells ≤ R.cells ∧ slots ≤ R.slots) {st0 : List Value} (hst0 : st0 = av.reverse ++ .ref (Γ.2.2.1 id) :: rest) (hW : (rest.map fun v => v.category).sum ≤ 8) (hdg : decode cc pc = .ok (.invokeinterface index count, 5))
    (kk : ∀ (H1 : Heap) (locs1 : List Loc), jp_P Γ Z σ' τ' H1 → va_S (jp_A Γ) s.heap H1 locs1 → W p l e R s m args below meth c H1 locs1 cells slots Q (F0 m (pc + 5) ls (res.toList ++ rest))) : W p l e R s m args below meth c H locs cells slots Q (F0 m pc ls st0) := by
  have hts := B.2.2.2.2.1
  have hp := jp_preS (av := .ref (Γ.2.2.1 id) :: av) B hP hS
  have hg : GoodIn jp_ws (va_wsF own index y.cls x y (jp_W y cc' n' ret')) := by
    intro w hw
    rcases List.mem_append.mp hw with hw | hw
    · simp only [List.mem_cons, List.not_mem_nil, or_false] at hw
      rcases hw with rfl | rfl | rfl | rfl
      · exact ⟨hlink, good_of_word (jp_gd _ hlink)⟩
      · exact ⟨hse, good_of_word (jp_gd _ hse)⟩
      · exact ⟨hin, good_of_word (jp_gd _ hin)⟩
      · exact ⟨hini, good_of_word (jp_gd _ hini)⟩
    · exact jp_good (y := y) (cc := cc) (n := n) (ret := ret) hcode w hw
  have hcw := va_cwF (R := R) (rm := jp_R fr lo) (mc := 0) (ms := 0) av.length hts hg rfl rfl rfl hF hd hR
  have hr := va_runF (C := y.cls) (g := F0 m pc ls st0) (As := av) (rest := rest) (B.2.2.2.2.2.2.2.1.1 ci _ hc).2 ⟨B.1, B.2.1, B.2.2.1, B.2.2.2.1, hts⟩ hM hcw ⟨hp.1, jp_recv B hP hZ hc, hp.2⟩ rfl rfl hl.1 hst0 (lv_room hW) hdg hf (below := below) (meth := meth) (locs := locs) (e := e)
  intro T0 hT X
  obtain ⟨v, st₀, t, T', L, h0, X', hL, e1, e2, ⟨hv, hpp, hz, hk⟩, st⟩ := hr T0 hT X
  cases hv
  rw [h0] at hz hk
  rw [← e1] at hz hk hpp
  obtain ⟨t2, a1, b1⟩ := kk T'.heap (locs ++ L) hpp ⟨Nat.le_trans hS.1 hz, fun q h1 h2 => by rw [hk q (Nat.lt_of_lt_of_le h1 hS.1) h2]; exact hS.2.1 q h1 h2, fun q hq => by
      rcases List.mem_append.mp hq with h | h
      · exact hS.2.2 q h
      · exact hL q h⟩ T' rfl X'
  exact ⟨t2, st t2 a1, b1⟩
end JPF
theorem ddPlanner : (⟨RX3, "make", "(LJointPlans$Plan;I)V"⟩ : MethodName).cls ≠ "java/lang/invoke/MethodHandle" ∧ (⟨RX3, "make", "(LJointPlans$Plan;I)V"⟩ : MethodName).cls ≠ "java/lang/invoke/VarHandle" ∧ (parseMethodDescriptor (⟨RX3, "make", "(LJointPlans$Plan;I)V"⟩ : MethodName).desc).map (fun d => d.parameters.length) = some 2 := by decide +kernel
