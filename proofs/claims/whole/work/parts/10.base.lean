/-- the classes whose objects the memory holds, by their places -/
abbrev vwCl : List vw_C := [(RJx00060, TJx00060, 6), (RX0, TX0, 7), (RX1, TX1, 7), (RX2, TX2, 4), (RX4, TX4, 5), (RX5, TX5, 5), (RX6, TX6, 2), (RX7, TX7, 5), (RX8, TX8, 17)]
/-! ===== the memory of the law's objects: ids, their shapes, their numbers ===== -/
/-- a shape: a tag (0 an object, 1 an int array, 2 a boolean array, 3 a long array), the class's place in vwCl or the length, the fields (kind 0 int, 1 a reference to that id, 2 long, 3 null) -/
abbrev jp_Sh : Type := Nat × Nat × List (Nat × Nat)
abbrev jp_I : Type := Nat → Nat → Int32
abbrev jp_J : Type := Nat → Nat → Int64
/-- what stays for a whole run: the classes' numbers and slots, the array classes, the address of each id, the heap's size at the law's entry -/
abbrev jp_G : Type := va_G × (Nat → ClassId) × (Nat → Nat) × Nat
abbrev jp_G.ad (Γ : jp_G) : Nat → Nat := Γ.2.2.1
abbrev jp_G.h0 (Γ : jp_G) : Nat := Γ.2.2.2
abbrev jp_A (Γ : jp_G) : Nat → Prop := fun q => Γ.2.2.2 ≤ q
def jp_fv (ad : Nat → Nat) (σ : jp_I) (τ : jp_J) (id k : Nat) (f : Nat × Nat) : Value := match f.1 with
  | 0 => .int (σ id k)
  | 1 => .ref (ad f.2)
  | 2 => .long (τ id k)
  | _ => .null
def jp_fl (ad : Nat → Nat) (σ : jp_I) (τ : jp_J) (id : Nat) : Nat → List (Nat × Nat) → List Value
  | _, [] => []
  | k, f :: fs => jp_fv ad σ τ id k f :: jp_fl ad σ τ id (k + 1) fs
theorem jp_fl_get (ad : Nat → Nat) (σ : jp_I) (τ : jp_J) (id : Nat) : ∀ (fs : List (Nat × Nat)) (k j : Nat), (jp_fl ad σ τ id k fs)[j]? = (fs[j]?).map (jp_fv ad σ τ id (k + j))
  | [], k, j => by simp [jp_fl]
  | f :: fs, k, 0 => by simp [jp_fl]
  | f :: fs, k, j + 1 => by
    rw [jp_fl, List.getElem?_cons_succ, List.getElem?_cons_succ, jp_fl_get ad σ τ id fs (k + 1) j, Nat.add_assoc, Nat.add_comm 1 j]
theorem jp_fl_len (ad : Nat → Nat) (σ : jp_I) (τ : jp_J) (id : Nat) : ∀ (fs : List (Nat × Nat)) (k : Nat), (jp_fl ad σ τ id k fs).length = fs.length
  | [], k => rfl
  | f :: fs, k => by rw [jp_fl, List.length_cons, List.length_cons, jp_fl_len ad σ τ id fs (k + 1)]
def jp_el (Γ : jp_G) (σ : jp_I) (τ : jp_J) (id : Nat) (sh : jp_Sh) : va_E := match sh.1 with
  | 0 => .inr (sh.2.1, jp_fl Γ.2.2.1 σ τ id 0 sh.2.2)
  | 1 => .inl (Γ.2.1 0, (sh.2.1, .inl (σ id)))
  | 2 => .inl (Γ.2.1 1, (sh.2.1, .inl (σ id)))
  | _ => .inl (Γ.2.1 2, (sh.2.1, .inr (.inl (τ id))))
/-- the heap holds the ids of Z, with the numbers σ and τ -/
def jp_P (Γ : jp_G) (Z : Nat → Option jp_Sh) (σ : jp_I) (τ : jp_J) (H : Heap) : Prop :=
  (∀ (id : Nat) (sh : jp_Sh), Z id = some sh → va_at Γ.1 vwCl (Γ.2.2.1 id, jp_el Γ σ τ id sh) H ∧ Γ.2.2.2 ≤ Γ.2.2.1 id) ∧
  ∀ i j : Nat, Z i ≠ none → Z j ≠ none → Γ.2.2.1 i = Γ.2.2.1 j → i = j
def jp_up (σ : jp_I) (id k : Nat) (v : Int32) : jp_I := fun i => if i = id then upd (σ i) k v else σ i
def jp_upl (τ : jp_J) (id k : Nat) (v : Int64) : jp_J := fun i => if i = id then vp_updL (τ i) k v else τ i
theorem jp_up_s (σ : jp_I) (id k : Nat) (v : Int32) : jp_up σ id k v id = upd (σ id) k v := by simp [jp_up]
theorem jp_up_n (σ : jp_I) {id k i : Nat} (v : Int32) (h : i ≠ id) : jp_up σ id k v i = σ i := by simp [jp_up, h]
theorem jp_upl_s (τ : jp_J) (id k : Nat) (v : Int64) : jp_upl τ id k v id = vp_updL (τ id) k v := by simp [jp_upl]
theorem jp_upl_n (τ : jp_J) {id k i : Nat} (v : Int64) (h : i ≠ id) : jp_upl τ id k v i = τ i := by simp [jp_upl, h]
/-- the same element where the numbers of that id are the same -/
theorem jp_el_congr (Γ : jp_G) {σ σ' : jp_I} {τ τ' : jp_J} {id : Nat} (sh : jp_Sh) (h : σ' id = σ id) (h2 : τ' id = τ id) : jp_el Γ σ' τ' id sh = jp_el Γ σ τ id sh := by
  have hf : ∀ (fs : List (Nat × Nat)) (k : Nat), jp_fl Γ.2.2.1 σ' τ' id k fs = jp_fl Γ.2.2.1 σ τ id k fs := by
    intro fs
    induction fs with
    | nil => intro k; rfl
    | cons f fs ih =>
      intro k
      rw [jp_fl, jp_fl, ih (k + 1)]
      congr 1
      unfold jp_fv
      split <;> simp [h, h2]
  unfold jp_el
  split <;> simp [h, h2, hf]
theorem jp_P.lt {Γ : jp_G} {Z : Nat → Option jp_Sh} {σ : jp_I} {τ : jp_J} {H : Heap} (h : jp_P Γ Z σ τ H) {id : Nat} {sh : jp_Sh} (hz : Z id = some sh) : Γ.2.2.1 id < H.size := (h.1 id sh hz).1.lt
/-- one id's numbers are new, its cell holds them, no other cell has changed -/
theorem jp_P.set {Γ : jp_G} {Z : Nat → Option jp_Sh} {σ σ' : jp_I} {τ τ' : jp_J} {H H1 : Heap} (h : jp_P Γ Z σ τ H) {id : Nat} {sh : jp_Sh} (hz : Z id = some sh)
    (hs : ∀ i, i ≠ id → σ' i = σ i) (ht : ∀ i, i ≠ id → τ' i = τ i) (he : va_at Γ.1 vwCl (Γ.2.2.1 id, jp_el Γ σ' τ' id sh) H1) (oq : ∀ q : Nat, q ≠ Γ.2.2.1 id → H1[q]? = H[q]?) : jp_P Γ Z σ' τ' H1 := by
  refine ⟨fun i sh' hi => ?_, h.2⟩
  by_cases hii : i = id
  · subst hii
    rw [hz] at hi
    obtain rfl := Option.some.inj hi
    exact ⟨he, (h.1 i sh hz).2⟩
  · have h1 := h.1 i sh' hi
    refine ⟨?_, h1.2⟩
    rw [jp_el_congr Γ sh' (hs i hii) (ht i hii)]
    refine h1.1.kept (oq _ fun q => hii (h.2 i id (by rw [hi]; exact fun z => by cases z) (by rw [hz]; exact fun z => by cases z) q))
theorem jp_P.kept {Γ : jp_G} {Z : Nat → Option jp_Sh} {σ : jp_I} {τ : jp_J} {H H1 : Heap} (h : jp_P Γ Z σ τ H) (hk : ∀ q : Nat, q < H.size → H1[q]? = H[q]?) : jp_P Γ Z σ τ H1 :=
  ⟨fun i sh hi => ⟨(h.1 i sh hi).1.kept (hk _ (h.lt hi)), (h.1 i sh hi).2⟩, h.2⟩
/-! ===== what goes along unseen: the tables' words that aren't good ones, the statics, the texts ===== -/
def jp_mx : Nat → Int32 := fun j => if j = 2 then 1 else if j = 4 then -1 else 0
def jp_my : Nat → Int32 := fun j => if j = 1 then -1 else if j = 3 then 1 else 0
/-- the texts of the class's exceptions: the entry, the text, the id under which the address stands -/
def jp_str : List (Nat × String × Nat) := [(70, "a grid's sides are 1 .. 6", 50), (89, "no such cell", 51), (105, "a start or an end is there", 52), (194, "no such robot", 53), (188, "a wall is there", 54), (120, "a seed is 0 at least", 55), (126, "restarts are 0 .. 5", 56), (196, "a robot is without start or end", 57), (147, "t is 0 at least, axis 0 or 1", 58), (198, "there is no plan", 59), (162, "the robot has no start or no end", 60), (173, "the plan's cost is 0", 61)]
def jp_isC (w : Cond) : Bool := match w with
  | .castable _ _ => true
  | .declares _ => true
  | _ => false
def jp_cs : List Cond := lw_tbl.filter jp_isC
theorem jp_cin {w : Cond} {i : Nat} (h : lw_tbl[i]? = some w) (g : jp_isC w = true) : w ∈ jp_cs := List.mem_filter.mpr ⟨List.mem_of_getElem? h, g⟩
def jp_nc : List (String × String) := [("java/lang/IllegalStateException", "java/lang/IllegalArgumentException"), ("java/lang/IllegalStateException", "java/lang/ArrayIndexOutOfBoundsException"), ("java/lang/ArithmeticException", "java/lang/IllegalStateException")]
def jp_fw (U : State) : Prop := va_Fw RX1 ⟨RX3, "make", "(LJointPlans$Plan;I)V"⟩ yX1_make U ∧ va_Fw RX4 ⟨RX3, "make", "(LJointPlans$Plan;I)V"⟩ yX4_make U
/-- ids 40, 41: the two static arrays; 50 and on: the texts -/
def jp_Y (Γ : jp_G) (U : State) : Prop :=
  (va_Z "JointPlans" "MOVE_X" "[I" (.ref (Γ.2.2.1 40)) (jp_A Γ) U U.heap ∧ va_T .int (Γ.2.2.1 40) 5 (fun j => .int (jp_mx j)) (jp_A Γ) U U.heap ∧
    va_Z "JointPlans" "MOVE_Y" "[I" (.ref (Γ.2.2.1 41)) (jp_A Γ) U U.heap ∧ va_T .int (Γ.2.2.1 41) 5 (fun j => .int (jp_my j)) (jp_A Γ) U U.heap) ∧
  vx_Zq Bundle.tN "UNASSIGNED_STACK" Bundle.steD (jp_A Γ) U U.heap ∧ vx_Zq Bundle.tN "SUPPRESSED_SENTINEL" Bundle.listD (jp_A Γ) U U.heap ∧
  (∀ q ∈ jp_str, vk_R RX7 q.1 q.2.1 (Γ.2.2.1 q.2.2) U) ∧ (∀ w ∈ jp_cs, va_Nw w U) ∧ (∀ q ∈ jp_nc, va_Nc q.1 q.2 U) ∧ jp_fw U
def jp_E (Γ : jp_G) (U : State) : Prop :=
  va_K Γ.1 vwCl [(Γ.2.1 0, .int), (Γ.2.1 1, .boolean), (Γ.2.1 2, .long)] U ∧ (∀ w ∈ jp_ns, va_Nw w U) ∧ Γ.2.2.2 ≤ U.heap.size ∧ jp_Y Γ U
theorem jp_C.warm {s U : State} (hW : s.WarmedH U.vm) {w : Cond} (hw : jp_isC w = true) (h : va_Nw w s) : va_Nw w U := by
  unfold jp_isC at hw
  split at hw
  · exact va_Nw.warmC hW h
  · exact va_Nw.warmD hW h
  · cases hw
theorem jp_isC_tab {w : Cond} (hw : jp_isC w = true) : w.onTables = true := by
  unfold jp_isC at hw
  split at hw
  · rfl
  · rfl
  · cases hw
theorem jp_fwx : (⟨RX3, "make", "(LJointPlans$Plan;I)V"⟩ : MethodName).cls ≠ "java/lang/invoke/MethodHandle" ∧ (⟨RX3, "make", "(LJointPlans$Plan;I)V"⟩ : MethodName).cls ≠ "java/lang/invoke/VarHandle" := by decide +kernel
theorem jp_Y.moved {Γ : jp_G} {s U : State} (h : jp_Y Γ s) (hW : s.WarmedH U.vm) (hk : ∀ q : Nat, q < s.heap.size → ¬ jp_A Γ q → U.heap[q]? = s.heap[q]?) : jp_Y Γ U := by
  obtain ⟨⟨h1, h2, h3, h4⟩, h5, h6, h7, h8, h9, h10, h11⟩ := h
  exact ⟨⟨va_Z.moved hW.alike (h1.kept hk), va_T.moved hW.alike (h2.kept hk), va_Z.moved hW.alike (h3.kept hk), va_T.moved hW.alike (h4.kept hk)⟩, vx_Zq.moved hW.alike (h5.kept hk), vx_Zq.moved hW.alike (h6.kept hk), fun q hq => vk_R.warm hW (h7 q hq), fun w hw => jp_C.warm hW (List.mem_filter.mp hw).2 (h8 w hw), fun q hq => va_Nc.moved hW.alike (h9 q hq), va_Fw.moved jp_fwx hW.alike h10, va_Fw.moved jp_fwx hW.alike h11⟩
theorem jp_Y.same {Γ : jp_G} {s U : State} (h : jp_Y Γ s) (hv : s.vm = U.vm) (hh : s.heap = U.heap) : jp_Y Γ U := by
  have hA : s.vm.Alike U.vm := by rw [hv]; exact Vm.Alike.refl _
  have hk : ∀ q : Nat, q < s.heap.size → ¬ jp_A Γ q → U.heap[q]? = s.heap[q]? := fun q _ _ => by rw [hh]
  obtain ⟨⟨h1, h2, h3, h4⟩, h5, h6, h7, h8, h9, h10, h11⟩ := h
  exact ⟨⟨va_Z.moved hA (h1.kept hk), va_T.moved hA (h2.kept hk), va_Z.moved hA (h3.kept hk), va_T.moved hA (h4.kept hk)⟩, vx_Zq.moved hA (h5.kept hk), vx_Zq.moved hA (h6.kept hk), fun q hq => vk_R.same hv.symm (h7 q hq), fun w hw => va_Nw.same (jp_isC_tab (List.mem_filter.mp hw).2) hv (h8 w hw), fun q hq => va_Nc.moved hA (h9 q hq), va_Fw.moved jp_fwx hA h10, va_Fw.moved jp_fwx hA h11⟩
theorem jp_N.warm {s U : State} (hW : s.WarmedH U.vm) {w : Cond} (hw : jp_isN w = true) (h : va_Nw w s) : va_Nw w U := by
  unfold jp_isN at hw
  split at hw
  · exact va_Nw.warmF hW h
  · exact va_Nw.warmM hW h
  · cases hw
theorem jp_E.moved {Γ : jp_G} {s U : State} (h : jp_E Γ s) (hW : s.WarmedH U.vm) (hz : s.heap.size ≤ U.heap.size) (hk : ∀ q : Nat, q < s.heap.size → ¬ jp_A Γ q → U.heap[q]? = s.heap[q]?) : jp_E Γ U :=
  ⟨va_K.moved hW.alike h.1, fun w hw => jp_N.warm hW (List.mem_filter.mp hw).2 (h.2.1 w hw), Nat.le_trans h.2.2.1 hz, h.2.2.2.moved hW hk⟩
theorem jp_isN_tab {w : Cond} (hw : jp_isN w = true) : w.onTables = true := by
  unfold jp_isN at hw
  split at hw
  · rfl
  · rfl
  · cases hw
theorem jp_E.same {Γ : jp_G} {s U : State} (h : jp_E Γ s) (hv : s.vm = U.vm) (hh : s.heap = U.heap) : jp_E Γ U :=
  ⟨va_K.moved (by rw [hv]; exact Vm.Alike.refl _) h.1, fun w hw => va_Nw.same (jp_isN_tab (List.mem_filter.mp hw).2) hv (h.2.1 w hw), by rw [← hh]; exact h.2.2.1, h.2.2.2.same hv hh⟩
/-! ===== a contract: from the memory (Z, σ, τ) the method answers res, and the memory is (Z, σ', τ') ===== -/
def jp_Pre (Γ : jp_G) (Z : Nat → Option jp_Sh) (σ : jp_I) (τ : jp_J) (U : State) : Prop := jp_P Γ Z σ τ U.heap ∧ jp_E Γ U
def jp_Q (Γ : jp_G) (Z : Nat → Option jp_Sh) (res : Option Value) (σ : jp_I) (τ : jp_J) : Array Value → State → Outcome → State → Prop := fun _ st oc t => oc = .returned res ∧ jp_P Γ Z σ τ t.heap ∧ va_F (jp_A Γ) st t
def jp_W (y : MethodName) (cc : ByteArray) (n : Nat) (ret : Option FieldType) : List Cond := Cond.code y cc n ret :: jp_ws
abbrev jp_R (fr lo : Nat) : Room := { frames := fr, cells := 0, slots := 0, locals := lo }
def jp_M (l : Launch) (y : MethodName) (cc : ByteArray) (n : Nat) (ret : Option FieldType) (fr lo : Nat) (Γ : jp_G) (Z : Nat → Option jp_Sh) (σ : jp_I) (τ : jp_J) (av : List Value) (res : Option Value) (σ' : jp_I) (τ' : jp_J) : Prop :=
  Met l y (jp_W y cc n ret) (jp_R fr lo) (va_Pc av (jp_Pre Γ Z σ τ)) (jp_Q Γ Z res σ' τ') 0 0 (jp_A Γ)
theorem jp_blind {av : List Value} {Γ : jp_G} {Z : Nat → Option jp_Sh} {σ : jp_I} {τ : jp_J} : FrameBlind (va_Pc av (jp_Pre Γ Z σ τ)) :=
  fun a U g mk q => ⟨q.1, q.2.1, jp_E.same q.2.2 rfl rfl⟩
/-- what every row of a walk may use -/
def jp_B (Γ : jp_G) (p : Program) (s : State) (m : MethodId) (args : Array Value) (meth : Method) (c : Code) (own : String) (cc : ByteArray) (n : Nat) (ret : Option FieldType) : Prop :=
  p.tables.exec = Jvm.exec ∧ c.code = cc ∧ c.maxLocals = n ∧ s.vm.findClass own = some m.cls ∧ (∀ w ∈ jp_ws, w.before args s = true) ∧ meth.sig.returnType = ret ∧ meth.locks = false ∧ jp_E Γ s
theorem jp_good {y : MethodName} {cc : ByteArray} {n : Nat} {ret : Option FieldType} {y' : MethodName} {cc' : ByteArray} {n' : Nat} {ret' : Option FieldType} (h : Cond.code y' cc' n' ret' ∈ jp_ws) : GoodIn jp_ws (jp_W y' cc' n' ret') := by
  intro w hw
  rcases List.mem_cons.mp hw with rfl | hw
  · exact ⟨h, good_of_word (jp_gd _ h)⟩
  · exact ⟨hw, good_of_word (jp_gd _ hw)⟩
set_option maxHeartbeats 1000000 in
/-- a contract, out of a walk -/
theorem jp_intro {l : Launch} {y : MethodName} {cc : ByteArray} {n : Nat} {ret : Option FieldType} {fr lo : Nat} {Γ : jp_G} {Z : Nat → Option jp_Sh} {σ : jp_I} {τ : jp_J} {av : List Value} {res : Option Value} {σ' : jp_I} {τ' : jp_J} (hy : plainName y.cls = true) (hn : (lg_sl av).length ≤ n)
    (body : ∀ (p : Program) (e : Jvm.Env) (s : State) (m : MethodId) (args : Array Value) (below : List Frame) (meth : Method) (c : Code), jp_B Γ p s m args meth c y.cls cc n ret → jp_P Γ Z σ τ s.heap → ∀ ls : Array Slot, lv_has ls n (lv_args 0 av) →
      W p l e (jp_R fr lo) s m args below meth c s.heap [] 0 0 (MQ below (jp_Q Γ Z res σ' τ') args s 0 0 (jp_A Γ)) (F0 m 0 ls [])) : jp_M l y cc n ret fr lo Γ Z σ τ av res σ' τ' := by
  refine Met.ofW (cc := cc) (maxL := n) (ret := ret) hy rfl ?_
  intro p e s m args below meth c s₁ B hml hv
  obtain ⟨rfl, hP, hE⟩ := hv
  have hts := atoms_spec (ws := jp_W y cc n ret) B.pre
  have hl := lv_entry av (n := n) hn
  rw [lg_entry_eq]
  exact body p e s m _ below meth c ⟨B.exec, B.bytes, hml, findClass_of_methodNamed B.named, fun w hw => hts w (List.mem_cons_of_mem _ hw), B.returns, B.notSynchronized, hE⟩ hP _ hl
