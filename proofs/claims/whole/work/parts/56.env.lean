-- the start: the skeleton's words, then what goes along unseen (jp_E)
/-! THE CLAIM OUT OF ONE WALK OF THE LAW'S BODY. Your part is whole_start (and what it stands on); all else here is the same for every law, but numbers. -/
def R_law : String := "JointPlansLaw"
def lw_P (b : Addr) (xs : List Int32) (args : Array Value) (s : State) : Prop := args = #[.ref b] ∧ s.IntsAt b xs ∧ xs.length ≤ 2049 ∧ (Jvm.Cond.and given_1 narrow_1).before args s = true
def lw_Q (_ : Array Value) (s : State) (o : Outcome) (t : State) : Prop := o = .returned (some (.int 1)) ∧ Framed s o t [] 601024 7293000
def lw_Z (below : List Frame) (a : Array Value) (s : State) : State → Prop := fun t => ∃ o, t.status = .running ∧ Ended t below o ∧ lw_Q a s o t
/-- the law's own end, with 1 on the stack, nothing written that was there before, its room as the claim has it -/
theorem lw_ret {p : Program} {l : Launch} {e : Env} {s : State} {m : MethodId} {below : List Frame} {meth : Method} {c : Code} {b : Nat} (hx : p.tables.exec = Jvm.exec) (hb : c.code = code) (hr : meth.sig.returnType = ret) (hlocks : meth.locks = false) {pc : Nat} {H : Heap} {ls : Array Slot} (hdg : decode code pc = .ok (.ireturn, 1)) : W p l e room_1 s m #[Value.ref b] below meth c H [] 601024 7293000 (lw_Z below #[Value.ref b] s) (F0 m pc ls [.int 1]) := by
  intro T hT X
  obtain ⟨fs, hret, hrun, hended, hW, hframe⟩ := X.leave (v := some (.int 1)) (hlocks := hlocks) (fun h => by rw [hr] at h; cases h)
  have hmeth' : T.vm.method? m = some meth := X.method'
  refine ⟨T.setFrames fs, ?_, .returned (some (.int 1)), hrun, hended, rfl, ⟨_, rfl⟩, hW, hframe⟩
  jvm_step X.here [X.here.top, hx, hb, hdg, hmeth', hr, ret, narrow_b1]
  (try refine ⟨rfl, ?_⟩); (try refine ⟨rfl, ?_⟩)
  first | (intro acts; rw [hret _ acts rfl rfl rfl]) | rw [hret _ _ rfl rfl rfl]
  exact Steps.refl _
/-- what holds at the law's entry: the machine, the code, the tables' words (any of lw_tbl by 'hts w (by decide +kernel)'), the script of L ints xs at the cell b, what the Statement gives of the start (any of its parts by flat_of_before) -/
def lw_At (p : Program) (s : State) (m : MethodId) (meth : Method) (c : Code) (b L : Nat) (xs : Nat → Int32) : Prop :=
  p.tables.exec = Jvm.exec ∧ c.code = code ∧ meth.sig.returnType = ret ∧ c.maxLocals = 7 ∧ s.vm.findClass R_law = some m.cls ∧ (∀ w ∈ lw_tbl, w.before #[Value.ref b] s = true) ∧ va_X b L xs s s.heap ∧ b < s.heap.size ∧ meth.locks = false ∧ (Jvm.Cond.and given_1 narrow_1).before #[Value.ref b] s = true
set_option maxHeartbeats 4000000 in
set_option maxRecDepth 100000 in
theorem jq_env {p : Program} {s : State} {m : MethodId} {meth : Method} {c : Code} {b L : Nat} {xs : Nat → Int32} (C0 : lw_At p s m meth c b L xs) : ∃ (D : va_G) (cA : Nat → ClassId) (fx : Nat → Nat), ∀ ad : Nat → Nat, (∀ i, 40 ≤ i → ad i = fx i) → jp_E (D, cA, ad, s.heap.size) s := by
  obtain ⟨hx, hb, hr, hml, hown, hts, hX, hbl, hlocks, hgv⟩ := id C0
  have hs := flat_of_before _ hgv
  have hws : ∀ w ∈ jp_ws, w.before #[Value.ref b] s = true := fun w hw => hts w (jp_sub w hw)
  have hA : ∀ a : Nat, a < s.heap.size → ¬ (fun q : Nat => s.heap.size ≤ q) a := fun a h => Nat.not_le.mpr h
  obtain ⟨c0, iS0, hK0⟩ := u_known (C := RJx00060) (T := TJx00060) (N := 6) (n := 6) hws jp_fJx00060 (hws _ mw_190)
  obtain ⟨c1, iS1, hK1⟩ := u_known (C := RX0) (T := TX0) (N := 7) (n := 7) hws jp_fX0 (hws _ mw_48)
  obtain ⟨c2, iS2, hK2⟩ := u_known (C := RX1) (T := TX1) (N := 7) (n := 7) hws jp_fX1 (hws _ mw_34)
  obtain ⟨c3, iS3, hK3⟩ := u_known (C := RX2) (T := TX2) (N := 4) (n := 4) hws jp_fX2 (hws _ mw_41)
  obtain ⟨c4, iS4, hK4⟩ := u_known (C := RX4) (T := TX4) (N := 5) (n := 5) hws jp_fX4 (hws _ mw_37)
  obtain ⟨c5, iS5, hK5⟩ := u_known (C := RX5) (T := TX5) (N := 5) (n := 5) hws jp_fX5 (hws _ mw_26)
  obtain ⟨c6, iS6, hK6⟩ := u_known (C := RX6) (T := TX6) (N := 2) (n := 2) hws jp_fX6 (hws _ mw_30)
  obtain ⟨c7, iS7, hK7⟩ := u_known (C := RX7) (T := TX7) (N := 5) (n := 5) hws jp_fX7 (hws _ mw_1)
  obtain ⟨c8, iS8, hK8⟩ := u_known (C := RX8) (T := TX8) (N := 17) (n := 17) hws jp_fX8 (hws _ mw_4)
  obtain ⟨a0, kA0, cp0, f0, g0, h0⟩ := Cond.arrayClass_spec (hws _ mw_53)
  obtain ⟨a1, kA1, cp1, f1, g1, h1⟩ := Cond.arrayClass_spec (hws _ mw_137)
  obtain ⟨a2, kA2, cp2, f2, g2, h2⟩ := Cond.arrayClass_spec (hws _ mw_6)
  have etX : ∀ j : Nat, j < 5 → (Term.elem (.static "JointPlans" "MOVE_X" "[I") (.int (Int32.ofNat j))).eval #[Value.ref b] s none [] s = some (.int (jp_mx j)) := by
    intro j hj
    rcases jp_c5 hj with rfl | rfl | rfl | rfl | rfl
    · exact va_eqt (hs (.eq (.elem (.static "JointPlans" "MOVE_X" "[I") (.int (0 : Int32))) (.int (0 : Int32))) (by decide +kernel))
    · exact va_eqt (hs (.eq (.elem (.static "JointPlans" "MOVE_X" "[I") (.int (1 : Int32))) (.int (0 : Int32))) (by decide +kernel))
    · exact va_eqt (hs (.eq (.elem (.static "JointPlans" "MOVE_X" "[I") (.int (2 : Int32))) (.int (1 : Int32))) (by decide +kernel))
    · exact va_eqt (hs (.eq (.elem (.static "JointPlans" "MOVE_X" "[I") (.int (3 : Int32))) (.int (0 : Int32))) (by decide +kernel))
    · exact va_eqt (hs (.eq (.elem (.static "JointPlans" "MOVE_X" "[I") (.int (4 : Int32))) (.int (-1 : Int32))) (by decide +kernel))
  obtain ⟨tX, evtX, hTtX⟩ := va_Tof (args := #[Value.ref b]) (s := s) (tm := .static "JointPlans" "MOVE_X" "[I") (ty := .int) (N := 5) (f := fun j => .int (jp_mx j)) (A := fun q : Nat => s.heap.size ≤ q) (by decide) (hs (.arrayOf (.static "JointPlans" "MOVE_X" "[I") .int) (by decide +kernel)) (va_eqt (hs (.eq (.length (.static "JointPlans" "MOVE_X" "[I")) (.int (5 : Int32))) (by decide +kernel))) etX hA
  have hZtX := va_Zof (A := fun q : Nat => s.heap.size ≤ q) (hts _ (List.mem_of_getElem? (i := 187) (by decide +kernel))) (hws _ mw_2) evtX hA
  have etY : ∀ j : Nat, j < 5 → (Term.elem (.static "JointPlans" "MOVE_Y" "[I") (.int (Int32.ofNat j))).eval #[Value.ref b] s none [] s = some (.int (jp_my j)) := by
    intro j hj
    rcases jp_c5 hj with rfl | rfl | rfl | rfl | rfl
    · exact va_eqt (hs (.eq (.elem (.static "JointPlans" "MOVE_Y" "[I") (.int (0 : Int32))) (.int (0 : Int32))) (by decide +kernel))
    · exact va_eqt (hs (.eq (.elem (.static "JointPlans" "MOVE_Y" "[I") (.int (1 : Int32))) (.int (-1 : Int32))) (by decide +kernel))
    · exact va_eqt (hs (.eq (.elem (.static "JointPlans" "MOVE_Y" "[I") (.int (2 : Int32))) (.int (0 : Int32))) (by decide +kernel))
    · exact va_eqt (hs (.eq (.elem (.static "JointPlans" "MOVE_Y" "[I") (.int (3 : Int32))) (.int (1 : Int32))) (by decide +kernel))
    · exact va_eqt (hs (.eq (.elem (.static "JointPlans" "MOVE_Y" "[I") (.int (4 : Int32))) (.int (0 : Int32))) (by decide +kernel))
  obtain ⟨tY, evtY, hTtY⟩ := va_Tof (args := #[Value.ref b]) (s := s) (tm := .static "JointPlans" "MOVE_Y" "[I") (ty := .int) (N := 5) (f := fun j => .int (jp_my j)) (A := fun q : Nat => s.heap.size ≤ q) (by decide) (hs (.arrayOf (.static "JointPlans" "MOVE_Y" "[I") .int) (by decide +kernel)) (va_eqt (hs (.eq (.length (.static "JointPlans" "MOVE_Y" "[I")) (.int (5 : Int32))) (by decide +kernel))) etY hA
  have hZtY := va_Zof (A := fun q : Nat => s.heap.size ≤ q) (hts _ (List.mem_of_getElem? (i := 192) (by decide +kernel))) (hws _ mw_2) evtY hA
  have hq5 : vx_Zq Bundle.tN "UNASSIGNED_STACK" Bundle.steD (fun q : Nat => s.heap.size ≤ q) s s.heap := vx_Zqof (hts _ (List.mem_of_getElem? (i := 375) (by decide +kernel))) (hts (.initialized Bundle.tN) (by decide +kernel)) (hs _ (by decide +kernel)) hA
  have hq6 : vx_Zq Bundle.tN "SUPPRESSED_SENTINEL" Bundle.listD (fun q : Nat => s.heap.size ≤ q) s s.heap := vx_Zqof (hts _ (List.mem_of_getElem? (i := 377) (by decide +kernel))) (hts (.initialized Bundle.tN) (by decide +kernel)) (hs _ (by decide +kernel)) hA
  have hRX7 : ∃ cur, s.vm.findClass RX7 = some cur := ⟨_, hK7.2.1⟩
  obtain ⟨cur, hcur⟩ := hRX7
  have htx : ∀ q ∈ jp_str, ∃ a : Nat, vk_R RX7 q.1 q.2.1 a s := by
    intro q hq
    have h1 : (Cond.stringRef RX7 q.1 q.2.1).before #[Value.ref b] s = true := hts _ (by
      have h2 : jp_str.all (fun q => decide (Cond.stringRef RX7 q.1 q.2.1 ∈ lw_tbl)) = true := by decide +kernel
      exact of_decide_eq_true (List.all_eq_true.mp h2 q hq))
    obtain ⟨_, _, _, a, -, -, -, -, -, hev⟩ := Cond.stringRef_spec hcur h1
    exact ⟨a, vk_R.of (A := #[Value.ref b]) h1 hev⟩
  obtain ⟨x50, hx50⟩ := htx (70, "a grid's sides are 1 .. 6", 50) (by decide)
  obtain ⟨x51, hx51⟩ := htx (89, "no such cell", 51) (by decide)
  obtain ⟨x52, hx52⟩ := htx (105, "a start or an end is there", 52) (by decide)
  obtain ⟨x53, hx53⟩ := htx (194, "no such robot", 53) (by decide)
  obtain ⟨x54, hx54⟩ := htx (188, "a wall is there", 54) (by decide)
  obtain ⟨x55, hx55⟩ := htx (120, "a seed is 0 at least", 55) (by decide)
  obtain ⟨x56, hx56⟩ := htx (126, "restarts are 0 .. 5", 56) (by decide)
  obtain ⟨x57, hx57⟩ := htx (196, "a robot is without start or end", 57) (by decide)
  obtain ⟨x58, hx58⟩ := htx (147, "t is 0 at least, axis 0 or 1", 58) (by decide)
  obtain ⟨x59, hx59⟩ := htx (198, "there is no plan", 59) (by decide)
  obtain ⟨x60, hx60⟩ := htx (162, "the robot has no start or no end", 60) (by decide)
  obtain ⟨x61, hx61⟩ := htx (173, "the plan's cost is 0", 61) (by decide)
  refine ⟨(fun k => if k = 0 then c0 else if k = 1 then c1 else if k = 2 then c2 else if k = 3 then c3 else if k = 4 then c4 else if k = 5 then c5 else if k = 6 then c6 else if k = 7 then c7 else c8, fun k => if k = 0 then iS0 else if k = 1 then iS1 else if k = 2 then iS2 else if k = 3 then iS3 else if k = 4 then iS4 else if k = 5 then iS5 else if k = 6 then iS6 else if k = 7 then iS7 else iS8), (fun k => if k = 0 then a0 else if k = 1 then a1 else a2), (fun i => if i = 40 then tX else if i = 41 then tY else if i = 50 then x50 else if i = 51 then x51 else if i = 52 then x52 else if i = 53 then x53 else if i = 54 then x54 else if i = 55 then x55 else if i = 56 then x56 else if i = 57 then x57 else if i = 58 then x58 else if i = 59 then x59 else if i = 60 then x60 else if i = 61 then x61 else 0), fun ad had => ?_⟩
  have h40 : ad 40 = tX := had 40 (by decide)
  have h41 : ad 41 = tY := had 41 (by decide)
  refine ⟨⟨?_, ?_⟩, fun w hw => va_Nw.of (jp_isN_tab (List.mem_filter.mp hw).2) (hts w (List.mem_filter.mp hw).1), Nat.le_refl _, ⟨?_, ?_, ?_, ?_⟩, hq5, hq6, ?_, fun w hw => va_Nw.of (jp_isC_tab (List.mem_filter.mp hw).2) (hts w (List.mem_filter.mp hw).1), ?_, ?_, ?_⟩
  · intro k q hq
    match k, hq with
    | 0, hq => cases hq; exact hK0
    | 1, hq => cases hq; exact hK1
    | 2, hq => cases hq; exact hK2
    | 3, hq => cases hq; exact hK3
    | 4, hq => cases hq; exact hK4
    | 5, hq => cases hq; exact hK5
    | 6, hq => cases hq; exact hK6
    | 7, hq => cases hq; exact hK7
    | 8, hq => cases hq; exact hK8
    | k + 9, hq => simp at hq
  · intro k q hq
    match k, hq with
    | 0, hq => cases hq; exact ⟨fun n z => ⟨fun k h => (by cases h), kA0, g0, cp0, h0⟩, f0⟩
    | 1, hq => cases hq; exact ⟨fun n z => ⟨fun k h => (by cases h), kA1, g1, cp1, h1⟩, f1⟩
    | 2, hq => cases hq; exact ⟨fun n z => ⟨fun k h => (by cases h), kA2, g2, cp2, h2⟩, f2⟩
    | k + 3, hq => simp at hq
  · show va_Z _ _ _ (.ref (ad 40)) _ s s.heap
    rw [h40]; exact hZtX
  · show va_T .int (ad 40) 5 _ _ s s.heap
    rw [h40]; exact hTtX
  · show va_Z _ _ _ (.ref (ad 41)) _ s s.heap
    rw [h41]; exact hZtY
  · show va_T .int (ad 41) 5 _ _ s s.heap
    rw [h41]; exact hTtY
  · intro q hq
    show vk_R RX7 q.1 q.2.1 (ad q.2.2) s
    have h0 : ∀ (i x : Nat) (k : Nat) (t : String), vk_R RX7 k t x s → ad i = x → vk_R RX7 k t (ad i) s := fun i x k t h1 h2 => by rw [h2]; exact h1
    simp only [jp_str, List.mem_cons, List.not_mem_nil, or_false] at hq
    rcases hq with rfl | rfl | rfl | rfl | rfl | rfl | rfl | rfl | rfl | rfl | rfl | rfl
    · exact h0 50 x50 _ _ hx50 (had 50 (by decide))
    · exact h0 51 x51 _ _ hx51 (had 51 (by decide))
    · exact h0 52 x52 _ _ hx52 (had 52 (by decide))
    · exact h0 53 x53 _ _ hx53 (had 53 (by decide))
    · exact h0 54 x54 _ _ hx54 (had 54 (by decide))
    · exact h0 55 x55 _ _ hx55 (had 55 (by decide))
    · exact h0 56 x56 _ _ hx56 (had 56 (by decide))
    · exact h0 57 x57 _ _ hx57 (had 57 (by decide))
    · exact h0 58 x58 _ _ hx58 (had 58 (by decide))
    · exact h0 59 x59 _ _ hx59 (had 59 (by decide))
    · exact h0 60 x60 _ _ hx60 (had 60 (by decide))
    · exact h0 61 x61 _ _ hx61 (had 61 (by decide))
  · intro q hq
    simp only [jp_nc, List.mem_cons, List.not_mem_nil, or_false] at hq
    rcases hq with rfl | rfl | rfl
    · exact va_Nc.of (args := #[Value.ref b]) (hs (.not (.castable "java/lang/IllegalStateException" "java/lang/IllegalArgumentException")) (by decide +kernel))
    · exact va_Nc.of (args := #[Value.ref b]) (hs (.not (.castable "java/lang/IllegalStateException" "java/lang/ArrayIndexOutOfBoundsException")) (by decide +kernel))
    · exact va_Nc.of (args := #[Value.ref b]) (hs (.not (.castable "java/lang/ArithmeticException" "java/lang/IllegalStateException")) (by decide +kernel))
  · exact va_Fw.of (A := #[Value.ref b]) (hts _ (by decide +kernel)) (hts _ (by decide +kernel)) (hts _ (by decide +kernel)) (hts _ (by decide +kernel)) (hts _ (by decide +kernel))
  · exact va_Fw.of (A := #[Value.ref b]) (hts _ (by decide +kernel)) (hts _ (by decide +kernel)) (hts _ (by decide +kernel)) (hts _ (by decide +kernel)) (hts _ (by decide +kernel))
