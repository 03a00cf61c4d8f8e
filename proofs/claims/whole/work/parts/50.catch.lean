-- a thing thrown by a callee, caught by the method's own table: the row that takes it is the first, or the second behind one that doesn't
section JQC
variable {p : Program} {l : Launch} {e : Jvm.Env} {R : Room} {s : State} {m : MethodId} {args : Array Value} {below : List Frame} {meth : Method} {c : Code} {H : Heap} {locs : List Loc} {cells slots : Nat} {Q : State → Prop} {ls : Array Slot} {rest : List Value} {pc : Nat}
theorem jq_row {Qh : Handler → Pre} {E : CtlPost} {d : Bool} {acts : List Action} {S : State} {f : JFrame} {a : Addr} {x : ExceptionTableEntry} {t : List ExceptionTableEntry} {cT : ClassId} {cell : Cell} (hx : covers x f.pc = true) (h0 : x.catchType ≠ 0) (hl : S.vm.ClassLinks e.platform f.method.cls x.catchType cT) (hcell : S.heap[a]? = some cell) (hobj : ∀ k, cell.vm ≠ .statics k) (hk : ∃ k, S.vm.classes[cell.cls]? = some k) (hc : ∃ k, S.vm.classes[cT]? = some k) :
    wp (findHandler.go f a (x :: t)) Qh E e d acts S ↔ if S.vm.assignable cell.cls cT = true then Qh (.found x.handlerPc) d acts (S.setVm (S.vm.noted f.method.cls x.catchType (.cls cT))) else wp (findHandler.go f a t) Qh E e d acts (S.setVm (S.vm.noted f.method.cls x.catchType (.cls cT))) := by
  simp only [covers] at hx
  obtain ⟨ha, ht⟩ := (resolveClass_links e.toSetting hl).op (op := VmOp.resolveClass f.method.cls x.catchType) rfl
  have hal : S.vm.Alike (S.vm.noted f.method.cls x.catchType (.cls cT)) := (Vm.Alike.refl S.vm).noted _ _ _
  obtain ⟨k1, hk1⟩ := hk
  obtain ⟨k2, hk2⟩ := hc
  obtain ⟨k1', hk1', -⟩ := hal.2.2 _ _ hk1
  obtain ⟨k2', hk2', -⟩ := hal.2.2 _ _ hk2
  have hsame : (S.vm.noted f.method.cls x.catchType (.cls cT)).assignable cell.cls cT = S.vm.assignable cell.cls cT := by rw [hal.assignable]
  cases hfit : S.vm.assignable cell.cls cT <;> rw [hfit] at hsame <;> simp [findHandler.go, hx, h0, ha, ht, hcell, hobj, hk1', hk2', hsame, VmOp.dirties, VmOp.acts]
/-- one step: the handler is found, its tables noted -/
theorem jq_step {T : State} {g : JFrame} {a : Addr} {hpc : Nat} {vm' : Vm} (X : Stand p l e R s m args below meth c T locs cells slots) (hg : g.method = m)
    (hfind : ∀ (Qh : Handler → Pre) (E : CtlPost) (d : Bool) (acts : List Action), wp (findHandler g a) Qh E e d acts ((T.setTop g).pushFrame (.throwing a)) ↔ Qh (.found hpc) d acts (((T.setTop g).pushFrame (.throwing a)).setVm vm'))
    {target : State} (hrest : Steps p.tables e below ((T.setVm vm').setTop { g with pc := hpc, stack := [.ref a] }) target) : Steps p.tables e below ((T.setTop g).pushFrame (.throwing a)) target := by
  have h : At T g.method c below := by rw [hg]; exact X.here
  obtain ⟨hgo, hw⟩ := h.throwing a
  refine Steps.head hgo hw ?_
  have key : ∀ (S : State) (r : List Frame), (∀ (Qh : Handler → Pre) (E : CtlPost) (d : Bool) (acts : List Action), wp (findHandler g a) Qh E e d acts S ↔ Qh (.found hpc) d acts (S.setVm vm')) → (stepThrowing e S a (.java g :: r)).Is ((S.setVm vm').setFrames (.java { g with pc := hpc, stack := [.ref a] } :: r)) [] := by
    intro S r hq
    simp only [stepThrowing, searchFrame, vmDo]
    generalize hr : Sem.go _ e false [] S = res
    obtain ⟨as, rfl, ha⟩ := Sem.eq_ok_of hr (a := Handler.found hpc) (s' := S.setVm vm') (acts' := []) (by simp [hq _ _ _ _])
    exact ⟨rfl, ha⟩
  rw [stepThread_throwing (frames_entered h.top _), (key _ _ hfind).1]
  obtain ⟨g₀, hfr⟩ := X.frames_eq
  have hfr' : (T.setVm vm').frames = .java g₀ :: below := hfr
  have hcomm : ∀ (u : State) (F G : List Frame), ((u.setFrames F).setVm vm').setFrames G = (u.setVm vm').setFrames G := fun u F G => by
    have h1 : (u.setFrames F).setVm vm' = (u.setVm vm').setFrames F := rfl
    rw [h1, State.setFrames_setFrames]
  rw [State.setTop_of_frames _ hfr'] at hrest
  rw [hfr, List.tail_cons, State.pushFrame, hcomm, State.setTop_of_frames _ hfr, hcomm]
  exact hrest
/-- the rows of the table, each with what it does with the thing thrown: n rows that hand it on, then one that takes it -/
theorem jq_catch {own E : String} {ce : Cell} {q : Addr} (hown : s.vm.findClass own = some m.cls) (hcell : H[q]? = some ce) (hv : ce.vm = .none) (hcl : s.vm.findClass E = some ce.cls) (x : ExceptionTableEntry) (suf : List ExceptionTableEntry) {name : String} (hx : covers x pc = true) (h0 : x.catchType ≠ 0) (hlink : (Cond.classLink own x.catchType name).before args s = true) (hcast : (Cond.castable E name).before args s = true)
    (hsplit : c.exceptionTable.toList = x :: suf ∨ ∃ (z : ExceptionTableEntry) (nm : String), c.exceptionTable.toList = z :: x :: suf ∧ covers z pc = true ∧ z.catchType ≠ 0 ∧ (Cond.classLink own z.catchType nm).before args s = true ∧ va_Nc E nm s)
    (kk : W p l e R s m args below meth c H locs cells slots Q (F0 m x.handlerPc ls [.ref q])) : vx_W p l e R s m args below meth c H locs cells slots Q (F0 m pc ls rest) q := by
  intro T hT X
  have hpl : e.platform.magicAccessors = ({} : Platform).magicAccessors := by rw [X.admits.platform]
  obtain ⟨c3, c4, hc3, hc4, hasg⟩ := Cond.castable_spec hcast
  cases Option.some.inj (hc3.symm.trans hcl)
  obtain ⟨c5, hc5, hcl5⟩ := Cond.classLink_spec hown hlink e.platform hpl
  cases Option.some.inj (hc4.symm.trans hc5)
  have hobj : ∀ k, ce.vm ≠ .statics k := fun k h => by rw [hv] at h; cases h
  obtain ⟨k0, hk0⟩ := Vm.classAt_of_findClass hcl
  obtain ⟨dk, _, _, kt, hd, _, _, _, _, hkt, _, hopen⟩ := hcl5.here
  have hcellT : T.heap[q]? = some ce := by rw [hT]; exact hcell
  -- what one row of the table needs, at any warmed tables
  have row : ∀ (S : State), s.WarmedH S.vm → S.heap[q]? = some ce → ∀ (Qh : Handler → Pre) (E : CtlPost) (d : Bool) (acts : List Action), wp (findHandler.go (F0 m pc ls rest) q (x :: suf)) Qh E e d acts S ↔ Qh (.found x.handlerPc) d acts (S.setVm (S.vm.noted m.cls x.catchType (.cls c4))) := by
    intro S hW hS Qh E9 d acts
    obtain ⟨k0', hk0', -⟩ := hW.alike.2.2 _ _ hk0
    obtain ⟨kt', hkt', -⟩ := hW.alike.2.2 _ _ hkt
    have h9 : S.vm.assignable ce.cls c4 = true := by rw [hW.alike.assignable]; exact hasg
    rw [jq_row (f := F0 m pc ls rest) hx h0 (hW.classLinks hcl5) hS hobj ⟨k0', hk0'⟩ ⟨kt', hkt'⟩, if_pos h9]
  have go : ∃ vm', s.WarmedH vm' ∧ ∀ (Qh : Handler → Pre) (E : CtlPost) (d : Bool) (acts : List Action), wp (findHandler (F0 m pc ls rest) q) Qh E e d acts ((T.setTop (F0 m pc ls rest)).pushFrame (.throwing q)) ↔ Qh (.found x.handlerPc) d acts (((T.setTop (F0 m pc ls rest)).pushFrame (.throwing q)).setVm vm') := by
    have hvmS : ((T.setTop (F0 m pc ls rest)).pushFrame (.throwing q)).vm = T.vm := Stand.throwing_vm T _ q
    have hhS : ((T.setTop (F0 m pc ls rest)).pushFrame (.throwing q)).heap = T.heap := Stand.throwing_heap T _ q
    generalize ((T.setTop (F0 m pc ls rest)).pushFrame (.throwing q)) = S at hvmS hhS
    have hWS : s.WarmedH S.vm := by rw [hvmS]; exact X.warmed
    have hcS : S.heap[q]? = some ce := by rw [hhS]; exact hcellT
    have hm9 : S.vm.method? (F0 m pc ls rest).method = some meth := by rw [hvmS]; exact X.method'
    rcases hsplit with hs1 | ⟨z, nm, hs2, hz, hz0, hzl, hzn⟩
    · refine ⟨S.vm.noted m.cls x.catchType (.cls c4), hWS.noted hd hopen (State.rightAt_cls hcl5), fun Qh E9 d acts => ?_⟩
      rw [W.findHandler_eq hm9 X.code, hs1]
      exact row S hWS hcS Qh E9 d acts
    · obtain ⟨c6, hc6, hcl6⟩ := Cond.classLink_spec hown hzl e.platform hpl
      obtain ⟨a8, b8, h1, h2, h3⟩ := hzn
      cases Option.some.inj (h1.symm.trans hcl)
      cases Option.some.inj (h2.symm.trans hc6)
      obtain ⟨dk6, _, _, kt6, hd6, _, _, _, _, hkt6, _, hopen6⟩ := hcl6.here
      have hW1 : s.WarmedH (S.vm.noted m.cls z.catchType (.cls c6)) := hWS.noted hd6 hopen6 (State.rightAt_cls hcl6)
      obtain ⟨k0', hk0', -⟩ := hWS.alike.2.2 _ _ hk0
      obtain ⟨kt', hkt', -⟩ := hWS.alike.2.2 _ _ hkt6
      have h9 : ¬ S.vm.assignable ce.cls c6 = true := by rw [hWS.alike.assignable, h3]; exact fun h => by cases h
      refine ⟨(S.setVm (S.vm.noted m.cls z.catchType (.cls c6))).vm.noted m.cls x.catchType (.cls c4), State.WarmedH.noted hW1 hd hopen (State.rightAt_cls hcl5), fun Qh E9 d acts => ?_⟩
      rw [W.findHandler_eq hm9 X.code, hs2, jq_row (f := F0 m pc ls rest) hz hz0 (hWS.classLinks hcl6) hcS hobj ⟨k0', hk0'⟩ ⟨kt', hkt'⟩, if_neg h9]
      exact row (S.setVm (S.vm.noted m.cls z.catchType (.cls c6))) hW1 hcS Qh E9 d acts
  obtain ⟨vm', hW', hq⟩ := go
  obtain ⟨t, a1, b1⟩ := kk (T.setVm vm') hT (X.noted hW')
  exact ⟨t, jq_step X rfl hq a1, b1⟩
end JQC
