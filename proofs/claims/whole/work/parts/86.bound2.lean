-- swaps barred, one floor: a junction, a dead end, a ring
section JB
variable {G : gG} {bar : Bool}
def jun (G : gG) (j x y z : Nat) : Prop := adj j x = true ∧ adj j y = true ∧ adj j z = true ∧ opn G x = true ∧ opn G y = true ∧ opn G z = true ∧ x ≠ y ∧ y ≠ z ∧ x ≠ z
/-- the nearer robot goes to the junction and steps aside, the other comes -/
theorem hub1 {j x y z a b da db : Nat} (hJ : jun G j x y z) (hj : opn G j = true) (hs : jval 2 G (a, b)) (ha : ds (opn G) j a da) (hb : ds (opn G) j b db) (hle : da ≤ db) (hda : da ≤ 35) (hdb : db ≤ 35) : ∃ u n, (u = x ∨ u = y ∨ u = z) ∧ n ≤ 71 ∧ jw G bar n (a, b) (u, j) := by
  obtain ⟨jx, jy, jz, ox, oy, oz, xy, yz, xz⟩ := hJ
  have hab : a ≠ b := (hs.2.1 rfl).2
  have hbo : opn G b = true := (hs.2.1 rfl).1
  have hj36 := opn_lt hj
  have w1 : wk (opb G b) da a j := wk_T ha.1 fun i c hi h1 h2 => opb_iff.mpr ⟨wk_r h1, fun q => by
    rw [q] at h1 h2
    have := hb.2 _ h2
    have h0 : i = 0 := by omega
    rw [h0] at h1
    exact hab h1.1⟩
  have hbj : b ≠ j := (opb_iff.mp (wk_r w1)).2.symm
  obtain ⟨m, rfl⟩ : ∃ m, db = m + 1 := ⟨db - 1, by
    have : db ≠ 0 := fun q => by rw [q] at hb; exact hbj (ds_0 hb)
    omega⟩
  obtain ⟨w, w2, w3⟩ := wk_last hb.1
  -- a side that isn't w
  obtain ⟨u, hu, huw, huj, huo⟩ : ∃ u, (u = x ∨ u = y ∨ u = z) ∧ u ≠ w ∧ adj j u = true ∧ opn G u = true := by
    by_cases q : x = w
    · exact ⟨y, Or.inr (Or.inl rfl), fun r => xy (q.trans r.symm), jy, oy⟩
    · exact ⟨x, Or.inl rfl, q, jx, ox⟩
  have hu36 := opn_lt huo
  have huj2 : adj u j = true := adj_symm hj36 hu36 huj
  have hune : u ≠ j := fun q => adj_ne hj36 huj q.symm
  have w4 : wk (opb G u) m b w := wk_T w2 fun i c hi h1 h2 => opb_iff.mpr ⟨wk_r h1, fun q => by
    rw [q] at h1 h2
    have := hb.2 (i + 1) (wk_snoc h1 huj2 hj)
    have h0 : m - i = 0 := by omega
    rw [h0] at h2
    exact huw h2.1⟩
  have w5 : wk (opb G u) (m + 1) b j := wk_snoc w4 w3 (opb_iff.mpr ⟨hj, fun q => hune q.symm⟩)
  have hbu : b ≠ u := (opb_iff.mp (wk_l w5)).2
  refine ⟨u, da + (1 + (m + 1)), hu, by omega, jw_trans (jw_A hbo w1) (jw_trans (n := m + 1) (t := (u, b)) ⟨(u, b), jst_mk (Or.inr ⟨huj, huo⟩) (Or.inl ⟨rfl, hbo⟩) (fun q => hbu q.symm) (fun q => hbu q.2.1.symm), rfl⟩ (jw_B huo w5))⟩
theorem jmA {a b c : Nat} (h : adj a c = true) (hc : opn G c = true) (hb : opn G b = true) (hne : c ≠ b) : jw G bar 1 (a, b) (c, b) := ⟨(c, b), jst_mk (Or.inr ⟨h, hc⟩) (Or.inl ⟨rfl, hb⟩) hne (fun q => hne q.2.1), rfl⟩
theorem jmB {a b d : Nat} (h : adj b d = true) (hd : opn G d = true) (ha : opn G a = true) (hne : d ≠ a) : jw G bar 1 (a, b) (a, d) := jw_sw (s := (b, a)) (t := (d, a)) (jmA h hd ha hne)
/-- at the junction they come to any two of its sides -/
theorem hub2 {j p q r u : Nat} (hJ : jun G j p q r) (hj : opn G j = true) (hu : u = p ∨ u = q ∨ u = r) : ∃ n, n ≤ 5 ∧ jw G bar n (u, j) (p, q) := by
  obtain ⟨jp, jq, jr, op, oq, or_, pq, qr, pr⟩ := hJ
  have hj36 := opn_lt hj
  have pj := adj_symm hj36 (opn_lt op) jp
  have qj := adj_symm hj36 (opn_lt oq) jq
  have rj := adj_symm hj36 (opn_lt or_) jr
  have np := adj_ne hj36 jp
  have nq := adj_ne hj36 jq
  have nr := adj_ne hj36 jr
  rcases hu with rfl | rfl | rfl
  · exact ⟨1, by decide, jmB jq oq op (fun w => pq w.symm)⟩
  · refine ⟨1 + (1 + (1 + (1 + 1))), by decide, jw_trans (jmB jr or_ oq (fun w => qr w.symm)) (jw_trans (jmA qj hj or_ nr) (jw_trans (jmA jp op or_ pr) (jw_trans (jmB rj hj op np) (jmB jq oq op (fun w => pq w.symm)))))⟩
  · exact ⟨1 + (1 + 1), by decide, jw_trans (jmB jq oq or_ qr) (jw_trans (jmA rj hj oq nq) (jmA jp op oq pq))⟩
theorem hub {j x y z a b ka kb : Nat} (hJ : jun G j x y z) (hj : opn G j = true) (hs : jval 2 G (a, b)) (ha : wk (opn G) ka a j) (hb : wk (opn G) kb b j) : ∃ n, n ≤ 76 ∧ jw G bar n (a, b) (x, y) := by
  obtain ⟨da, hda, ha⟩ := ds_ex op36 ha
  obtain ⟨db, hdb, hb⟩ := ds_ex op36 hb
  by_cases q : da ≤ db
  · obtain ⟨u, n, hu, hn, h1⟩ := hub1 (bar := bar) hJ hj hs ha hb q hda hdb
    obtain ⟨m, hm, h2⟩ := hub2 (bar := bar) hJ hj hu
    exact ⟨n + m, by omega, jw_trans h1 h2⟩
  · have hs' : jval 2 G (b, a) := ⟨(hs.2.1 rfl).1, fun _ => ⟨hs.1, fun w => (hs.2.1 rfl).2 w.symm⟩, fun w => absurd rfl w⟩
    obtain ⟨jx, jy, jz, ox, oy, oz, xy, yz, xz⟩ := id hJ
    have hJ' : jun G j y x z := ⟨jy, jx, jz, oy, ox, oz, fun w => xy w.symm, xz, yz⟩
    obtain ⟨u, n, hu, hn, h1⟩ := hub1 (bar := bar) hJ' hj hs' hb ha (by omega) hdb hda
    obtain ⟨m, hm, h2⟩ := hub2 (bar := bar) hJ' hj hu
    exact ⟨n + m, by omega, jw_sw (s := (b, a)) (t := (y, x)) (jw_trans h1 h2)⟩
theorem jb_jun {s t : jS} {N j x y z k : Nat} (hs : jval 2 G s) (h : jw G bar N s t) (hJ : jun G j x y z) (hj : opn G j = true) (hsj : wk (opn G) k s.1 j) {k2 : Nat} (hsj2 : wk (opn G) k2 s.2 j) : ∃ n, n ≤ 199 ∧ jw G bar n s t := by
  have ht := jw_val hs h
  obtain ⟨⟨k3, h3⟩, k4, h4⟩ := jw_wk hs h
  obtain ⟨n, hn, g1⟩ := hub (bar := bar) hJ hj hs hsj hsj2
  obtain ⟨m, hm, g2⟩ := hub (bar := bar) hJ hj ht (wk_trans (wk_symm op36 h3) hsj) (wk_trans (wk_symm op36 h4) hsj2)
  exact ⟨n + m, by omega, jw_trans g1 (jw_back ht g2)⟩
-- no junction
def noj (G : gG) (a : Nat) : Prop := ∀ j x y z k, wk (opn G) k a j → ¬ jun G j x y z
/-- a dead end: each distance is one cell's -/
theorem end_inj {a e : Nat} (hno : noj G a) {ke : Nat} (hae : wk (opn G) ke a e) (hend : ∀ x y, adj e x = true → adj e y = true → opn G x = true → opn G y = true → x = y) : ∀ k c d, ds (opn G) e c k → ds (opn G) e d k → c = d := by
  intro k
  induction k with
  | zero => intro c d h1 h2; rw [ds_0 h1, ds_0 h2]
  | succ k ih =>
    intro c d h1 h2
    obtain ⟨c1, a1, b1⟩ := ds_down h1
    obtain ⟨d1, a2, b2⟩ := ds_down h2
    have e1 := ih c1 d1 b1 b2
    subst e1
    have hc := wk_l h1.1
    have hd := wk_l h2.1
    have hw := wk_l b1.1
    have s1 := adj_symm (opn_lt hc) (opn_lt hw) a1
    have s2 := adj_symm (opn_lt hd) (opn_lt hw) a2
    cases k with
    | zero =>
      have := ds_0 b1
      subst this
      exact hend c d s1 s2 hc hd
    | succ k =>
      obtain ⟨w0, a3, b3⟩ := ds_down b1
      refine Classical.byContradiction fun hne => ?_
      have n1 : w0 ≠ c := fun q => by rw [q] at b3; have := ds_uniq b3 h1; omega
      have n2 : w0 ≠ d := fun q => by rw [q] at b3; have := ds_uniq b3 h2; omega
      exact hno c1 w0 c d _ (wk_trans hae (wk_symm op36 b1.1)) ⟨a3, s1, s2, wk_l b3.1, hc, hd, n1, hne, n2⟩
/-- down from c to the cell at distance k: its cells lie between -/
theorem end_down {e c c' k k0 : Nat} (hinj : ∀ k c d, ds (opn G) e c k → ds (opn G) e d k → c = d) (hc : ds (opn G) e c k0) (hc' : ds (opn G) e c' k) (hk : k ≤ k0) : ∃ n, ∀ T : Nat → Bool, (∀ x l, ds (opn G) e x l → k ≤ l → l ≤ k0 → T x = true) → wk T n c c' := by
  obtain ⟨m, hm⟩ : ∃ m, k0 = m + k := ⟨k0 - k, by omega⟩
  subst hm
  obtain ⟨c2, h1, h2⟩ := wk_split hc.1
  have hd2 : ds (opn G) e c2 k := ⟨h2, fun x hx => by have := hc.2 _ (wk_trans h1 hx); omega⟩
  have := hinj k c2 c' hd2 hc'
  subst this
  refine ⟨m, fun T hT => wk_T h1 fun i x hi g1 g2 => ?_⟩
  have hx : ds (opn G) e x (m + k - i) := by
    refine ⟨?_, fun y hy => by have := hc.2 _ (wk_trans g1 hy); omega⟩
    have := wk_trans g2 h2
    rw [show m - i + k = m + k - i by omega] at this
    exact this
  exact hT x _ hx (by omega) (by omega)
theorem end_way {e c c' k k0 : Nat} (hinj : ∀ k c d, ds (opn G) e c k → ds (opn G) e d k → c = d) (hc : ds (opn G) e c k0) (hc' : ds (opn G) e c' k) (T : Nat → Bool) (hT6 : ∀ x, T x = true → x < 36) (hT : ∀ x l, ds (opn G) e x l → (k ≤ l ∨ k0 ≤ l) → (l ≤ k0 ∨ l ≤ k) → T x = true) : ∃ n, wk T n c c' := by
  by_cases q : k ≤ k0
  · obtain ⟨n, h⟩ := end_down hinj hc hc' q
    exact ⟨n, h T (fun x l h1 h2 h3 => hT x l h1 (Or.inl h2) (Or.inl h3))⟩
  · obtain ⟨n, h⟩ := end_down hinj hc' hc (by omega)
    exact ⟨n, wk_symm hT6 (h T (fun x l h1 h2 h3 => hT x l h1 (Or.inr h2) (Or.inr h3)))⟩
theorem end_go {e a b c d ka kb kc kd : Nat} (hinj : ∀ k c d, ds (opn G) e c k → ds (opn G) e d k → c = d) (ha : ds (opn G) e a ka) (hb : ds (opn G) e b kb) (hc : ds (opn G) e c kc) (hd : ds (opn G) e d kd) (h1 : ka < kb) (h2 : kc < kd) : ∃ n, n ≤ 70 ∧ jw G bar n (a, b) (c, d) := by
  have ne : ∀ {x y kx ky : Nat}, ds (opn G) e x kx → ds (opn G) e y ky → kx ≠ ky → x ≠ y := fun hx hy hne q => by
    rw [q] at hx
    exact hne (ds_uniq hx hy)
  by_cases q : kc ≤ ka
  · obtain ⟨n, g1⟩ := end_way hinj ha hc (opb G b) opb_36 (fun x l hx _ hl => opb_iff.mpr ⟨wk_l hx.1, ne hx hb (by omega)⟩)
    obtain ⟨m, g2⟩ := end_way hinj hb hd (opb G c) opb_36 (fun x l hx hl _ => opb_iff.mpr ⟨wk_l hx.1, ne hx hc (by omega)⟩)
    exact jw_two (wk_l hb.1) (wk_l hc.1) g1 g2
  · obtain ⟨n, g1⟩ := end_way hinj hb hd (opb G a) opb_36 (fun x l hx hl _ => opb_iff.mpr ⟨wk_l hx.1, ne hx ha (by omega)⟩)
    obtain ⟨m, g2⟩ := end_way hinj ha hc (opb G d) opb_36 (fun x l hx _ hl => opb_iff.mpr ⟨wk_l hx.1, ne hx hd (by omega)⟩)
    obtain ⟨n', hn, g1⟩ := wk_short opb_36 g1
    obtain ⟨m', hm, g2⟩ := wk_short opb_36 g2
    exact ⟨n' + m', by omega, jw_trans (jw_B (wk_l ha.1) g1) (jw_A (wk_l hd.1) g2)⟩
/-- swaps barred: the nearer to the end stays the nearer -/
theorem end_ord (hbar : bar = true) {e : Nat} (hinj : ∀ k c d, ds (opn G) e c k → ds (opn G) e d k → c = d) : ∀ {n : Nat} {s t : jS} {ka kb kc kd : Nat}, jval 2 G s → jw G bar n s t → ds (opn G) e s.1 ka → ds (opn G) e s.2 kb → ds (opn G) e t.1 kc → ds (opn G) e t.2 kd → ka < kb → kc < kd := by
  intro n
  induction n with
  | zero =>
    rintro s t ka kb kc kd _ rfl ha hb hc hd h
    rw [← ds_uniq ha hc, ← ds_uniq hb hd]; exact h
  | succ n ih =>
    rintro s t ka kb kc kd hs ⟨r, h1, h2⟩ ha hb hc hd h
    have hr := jst_val hs h1
    obtain ⟨⟨k1, g1⟩, k2, g2⟩ := jst_wk hs h1
    obtain ⟨ra, -, hra⟩ := ds_ex op36 (wk_trans (wk_symm op36 g1) ha.1)
    obtain ⟨rb, -, hrb⟩ := ds_ex op36 (wk_trans (wk_symm op36 g2) hb.1)
    refine ih hr h2 hra hrb hc hd ?_
    -- each changes by one at most
    have near : ∀ x y i kx ky, i < 5 → mvc G x i = some y → ds (opn G) e x kx → ds (opn G) e y ky → kx ≤ ky + 1 ∧ ky ≤ kx + 1 := by
      intro x y i kx ky hi hm hx hy
      obtain ⟨n1, n2⟩ := mvc_some hm
      by_cases z : i = 0
      · subst z
        have : nb x 0 = some x := rfl
        rw [this] at n1
        cases n1
        have := ds_uniq hx hy
        omega
      · exact ds_adj op36 hx hy (adj_iff.mpr ⟨i, by omega, hi, n1⟩)
    obtain ⟨i, j, hi, hj, m1, m2, m3⟩ := h1
    unfold nx1 at m2
    rw [if_pos rfl] at m2
    have n1 := near _ _ i _ _ hi m1 ha hra
    have n2 := near _ _ j _ _ hj m2 hb hrb
    have hne : ra ≠ rb := fun q => (m3 rfl).1 (hinj ra _ _ hra (q ▸ hrb))
    refine Classical.byContradiction fun hnl => ?_
    have e1 : ra = kb := by omega
    have e2 : rb = ka := by omega
    exact (m3 rfl).2 ⟨hbar, hinj _ _ _ hra (e1 ▸ hb), hinj _ _ _ hrb (e2 ▸ ha)⟩
theorem jb_end (hbar : bar = true) {s t : jS} {N e k1 k2 : Nat} (hs : jval 2 G s) (h : jw G bar N s t) (hno : noj G s.1) (h1 : wk (opn G) k1 s.1 e) (h2 : wk (opn G) k2 s.2 e) (hend : ∀ x y, adj e x = true → adj e y = true → opn G x = true → opn G y = true → x = y) : ∃ n, n ≤ 199 ∧ jw G bar n s t := by
  have ht := jw_val hs h
  obtain ⟨⟨k3, h3⟩, k4, h4⟩ := jw_wk hs h
  have hinj := end_inj hno h1 hend
  obtain ⟨ka, -, ha⟩ := ds_ex op36 h1
  obtain ⟨kb, -, hb⟩ := ds_ex op36 h2
  obtain ⟨kc, -, hc⟩ := ds_ex op36 (wk_trans (wk_symm op36 h3) h1)
  obtain ⟨kd, -, hd⟩ := ds_ex op36 (wk_trans (wk_symm op36 h4) h2)
  have hab : ka ≠ kb := fun q => (hs.2.1 rfl).2 (hinj ka _ _ ha (q ▸ hb))
  by_cases q : ka < kb
  · have := end_ord hbar hinj hs h ha hb hc hd q
    obtain ⟨n, hn, g⟩ := end_go (bar := bar) hinj ha hb hc hd q this
    exact ⟨n, by omega, g⟩
  · have hs' : jval 2 G (s.2, s.1) := ⟨(hs.2.1 rfl).1, fun _ => ⟨hs.1, fun w => (hs.2.1 rfl).2 w.symm⟩, fun w => absurd rfl w⟩
    have := end_ord hbar hinj (s := (s.2, s.1)) (t := (t.2, t.1)) hs' (jw_sw h) hb ha hd hc (by omega)
    obtain ⟨n, hn, g⟩ := end_go (bar := bar) hinj hb ha hd hc (by omega) this
    exact ⟨n, by omega, jw_sw (s := (s.2, s.1)) (t := (t.2, t.1)) g⟩
/-- a ring: without one cell it still hangs together -/
theorem ring_way {a v : Nat} (hno : noj G a) (htwo : ∀ c k, wk (opn G) k a c → ∃ x y, adj c x = true ∧ adj c y = true ∧ opn G x = true ∧ opn G y = true ∧ x ≠ y) {kv : Nat} (hv : wk (opn G) kv a v) {c d kc kd : Nat} (hc : wk (opn G) kc a c) (hd : wk (opn G) kd a d) (hcv : c ≠ v) (hdv : d ≠ v) : ∃ n, wk (opb G v) n c d := by
  have conn : ∀ {x k}, wk (opn G) k a x → ∃ l, l ≤ 35 ∧ ds (opn G) v x l := fun hx => ds_ex op36 (wk_trans (wk_symm op36 hx) hv)
  -- a farthest cell
  obtain ⟨t, K, ht, hmax⟩ : ∃ t K, ds (opn G) v t K ∧ ∀ x l, ds (opn G) v x l → l ≤ K := by
    have far : ∀ K, (∃ x l, ds (opn G) v x l ∧ 35 - K ≤ l) → (∀ x l, ds (opn G) v x l → l ≤ 35) → ∃ t L, ds (opn G) v t L ∧ ∀ x l, ds (opn G) v x l → l ≤ L := by
      intro K
      induction K with
      | zero =>
        rintro ⟨x, l, h1, h2⟩ h35
        exact ⟨x, l, h1, fun y m hy => by have := h35 y m hy; omega⟩
      | succ K ih =>
        rintro ⟨x, l, h1, h2⟩ h35
        by_cases q : ∃ x l, ds (opn G) v x l ∧ 35 - K ≤ l
        · exact ih q h35
        · refine ⟨x, l, h1, fun y m hy => ?_⟩
          have := Nat.lt_of_not_le (fun w => q ⟨y, m, hy, w⟩)
          omega
    refine far 35 ⟨v, 0, ⟨⟨rfl, wk_r hv⟩, fun m _ => Nat.zero_le _⟩, by omega⟩ (fun x l hx => ?_)
    obtain ⟨l', h1, h2⟩ := ds_ex op36 hx.1
    rw [ds_uniq hx h2]; exact h1
  have hK1 : 1 ≤ K := by
    obtain ⟨x, y, h1, -, h3, -⟩ := htwo v kv hv
    have hx := conn (wk_snoc hv h1 h3)
    obtain ⟨l, -, hl⟩ := hx
    have hl0 : l ≠ 0 := fun q => by rw [q] at hl; exact adj_ne (opn_lt (wk_r hv)) h1 (ds_0 hl).symm
    have := hmax x l hl
    omega
  have hat : ∀ {x l}, ds (opn G) v x l → ∃ k, wk (opn G) k a x := fun hx => ⟨_, wk_trans hv (wk_symm op36 hx.1)⟩
  -- neighbours are one nearer or one farther
  have lev : ∀ {x y l m}, ds (opn G) v x l → ds (opn G) v y m → adj x y = true → m = l + 1 ∨ l = m + 1 := by
    intro x y l m hx hy hxy
    have h1 := ds_adj op36 hx hy hxy
    have c1 := wk_col op36 hx.1
    have c2 := wk_col op36 hy.1
    have c3 := col_adj (opn_lt (wk_l hx.1)) hxy
    have := col_lt x
    have := col_lt y
    omega
  -- two cells of each level hang together with t, away from v
  have two : ∀ i, i + 1 ≤ K → 1 ≤ K - (i + 1) → ∃ x y, x ≠ y ∧ ds (opn G) v x (K - (i + 1)) ∧ ds (opn G) v y (K - (i + 1)) ∧ (∃ n, wk (opb G v) n x t) ∧ ∃ n, wk (opb G v) n y t := by
    have opbv : ∀ {x l}, ds (opn G) v x l → l ≠ 0 → opb G v x = true := fun hx hl => opb_iff.mpr ⟨wk_l hx.1, fun q => by
      rw [q] at hx
      have : ds (opn G) v v 0 := ⟨⟨rfl, wk_r hv⟩, fun m _ => Nat.zero_le _⟩
      exact hl (ds_uniq hx this)⟩
    intro i
    induction i with
    | zero =>
      intro h1 h2
      obtain ⟨k, hk⟩ := hat ht
      obtain ⟨x, y, a1, a2, a3, a4, a5⟩ := htwo t k hk
      have lv1 : ∀ w, adj t w = true → opn G w = true → ds (opn G) v w (K - (0 + 1)) := by
        intro w hw ho
        obtain ⟨l, -, hl⟩ := conn (wk_snoc hk hw ho)
        have := hmax w l hl
        rcases lev ht hl hw with q | q
        · omega
        · rw [show K - (0 + 1) = l by omega]; exact hl
      have hx := lv1 x a1 a3
      have hy := lv1 y a2 a4
      have ot : opb G v t = true := opbv ht (by omega)
      refine ⟨x, y, a5, hx, hy, ⟨1, opbv hx (by omega), t, adj_symm (opn_lt (wk_l ht.1)) (opn_lt a3) a1, rfl, ot⟩, ⟨1, opbv hy (by omega), t, adj_symm (opn_lt (wk_l ht.1)) (opn_lt a4) a2, rfl, ot⟩⟩
    | succ i ih =>
      intro h1 h2
      obtain ⟨x, y, b1, b2, b3, ⟨n1, b4⟩, n2, b5⟩ := ih (by omega) (by omega)
      rw [show K - (i + 1) = (K - (i + 1 + 1)) + 1 by omega] at b2 b3
      obtain ⟨x', c1, c2⟩ := ds_down b2
      obtain ⟨y', c3, c4⟩ := ds_down b3
      refine ⟨x', y', fun q => ?_, c2, c4, ⟨n1 + 1, opbv c2 (by omega), x, adj_symm (opn_lt (wk_l b2.1)) (opn_lt (wk_l c2.1)) c1, b4⟩, ⟨n2 + 1, opbv c4 (by omega), y, adj_symm (opn_lt (wk_l b3.1)) (opn_lt (wk_l c4.1)) c3, b5⟩⟩
      subst q
      obtain ⟨m, hm⟩ : ∃ m, K - (i + 1 + 1) = m + 1 := ⟨K - (i + 1 + 1) - 1, by omega⟩
      rw [hm] at c2 b2 b3
      obtain ⟨w, d1, d2⟩ := ds_down c2
      obtain ⟨k, hk⟩ := hat c2
      have e1 : w ≠ x := fun q => by rw [q] at d2; have := ds_uniq d2 b2; omega
      have e2 : w ≠ y := fun q => by rw [q] at d2; have := ds_uniq d2 b3; omega
      exact hno x' w x y k hk ⟨d1, adj_symm (opn_lt (wk_l b2.1)) (opn_lt (wk_l c2.1)) c1, adj_symm (opn_lt (wk_l b3.1)) (opn_lt (wk_l c2.1)) c3, wk_l d2.1, wk_l b2.1, wk_l b3.1, e1, b1, e2⟩
  -- both neighbours of v hang together with t
  have hK2 : 2 ≤ K := by
    refine Classical.byContradiction fun q => ?_
    have hKe : K = 1 := by omega
    subst hKe
    obtain ⟨k, hk⟩ := hat ht
    obtain ⟨x, y, a1, a2, a3, a4, a5⟩ := htwo t k hk
    have isv : ∀ w, adj t w = true → opn G w = true → w = v := by
      intro w hw ho
      obtain ⟨l, -, hl⟩ := conn (wk_snoc hk hw ho)
      have := hmax w l hl
      rcases lev ht hl hw with q2 | q2
      · omega
      · have : l = 0 := by omega
        rw [this] at hl
        exact ds_0 hl
    exact a5 ((isv x a1 a3).trans (isv y a2 a4).symm)
  obtain ⟨n1, n2, g1, g2, g3, ⟨m1, g4⟩, m2, g5⟩ := two (K - 2) (by omega) (by omega)
  rw [show K - (K - 2 + 1) = 1 by omega] at g2 g3
  have side : ∀ x, ds (opn G) v x 1 → adj v x = true := by
    intro x hx
    obtain ⟨w, h1, h2⟩ := ds_down hx
    have := ds_0 h2
    subst this
    exact adj_symm (opn_lt (wk_l hx.1)) (opn_lt (wk_l h2.1)) h1
  have all : ∀ l x, ds (opn G) v x (l + 1) → ∃ n, wk (opb G v) n x t := by
    intro l
    induction l with
    | zero =>
      intro x hx
      by_cases q1 : x = n1
      · rw [q1]; exact ⟨m1, g4⟩
      · by_cases q2 : x = n2
        · rw [q2]; exact ⟨m2, g5⟩
        · exact absurd ⟨side x hx, side n1 g2, side n2 g3, wk_l hx.1, wk_l g2.1, wk_l g3.1, q1, g1, q2⟩ (hno v x n1 n2 kv hv)
    | succ l ih =>
      intro x hx
      obtain ⟨w, h1, h2⟩ := ds_down hx
      obtain ⟨n, h3⟩ := ih w h2
      refine ⟨n + 1, opb_iff.mpr ⟨wk_l hx.1, fun q => ?_⟩, w, h1, h3⟩
      rw [q] at hx
      have : ds (opn G) v v 0 := ⟨⟨rfl, wk_r hv⟩, fun m _ => Nat.zero_le _⟩
      have := ds_uniq hx this
      omega
  have get : ∀ x k, wk (opn G) k a x → x ≠ v → ∃ n, wk (opb G v) n x t := by
    intro x k hx hxv
    obtain ⟨l, -, hl⟩ := conn hx
    cases l with
    | zero => exact absurd (ds_0 hl) hxv
    | succ l => exact all l x hl
  obtain ⟨n, h1⟩ := get c kc hc hcv
  obtain ⟨m, h2⟩ := get d kd hd hdv
  exact ⟨n + m, wk_trans h1 (wk_symm opb_36 h2)⟩
theorem jb_ring {s t : jS} {N k : Nat} (hs : jval 2 G s) (h : jw G bar N s t) (hno : noj G s.1) (hst : wk (opn G) k s.1 s.2) (htwo : ∀ c k, wk (opn G) k s.1 c → ∃ x y, adj c x = true ∧ adj c y = true ∧ opn G x = true ∧ opn G y = true ∧ x ≠ y) : ∃ n, n ≤ 199 ∧ jw G bar n s t := by
  have ht := jw_val hs h
  obtain ⟨⟨k3, h3⟩, k4, h4⟩ := jw_wk hs h
  have hb := wk_trans hst h4
  have h00 : wk (opn G) 0 s.1 s.1 := ⟨rfl, hs.1⟩
  have hab := (hs.2.1 rfl).2
  have hcd := (ht.2.1 rfl).2
  by_cases q : t.1 = s.2
  · obtain ⟨x, y, a1, a2, a3, a4, a5⟩ := htwo s.2 k hst
    obtain ⟨w, hw1, hw2, hw3⟩ : ∃ w, adj s.2 w = true ∧ opn G w = true ∧ w ≠ s.1 := by
      by_cases z : x = s.1
      · exact ⟨y, a2, a4, fun r => a5 (z.trans r.symm)⟩
      · exact ⟨x, a1, a3, z⟩
    have hww := wk_snoc hst hw1 hw2
    have hws : w ≠ s.2 := fun r => adj_ne (opn_lt (hs.2.1 rfl).1) hw1 r.symm
    obtain ⟨n, g1⟩ := ring_way hno htwo hww h00 h3 (fun r => hw3 r.symm) (by rw [q]; exact fun r => hws r.symm)
    obtain ⟨m, g2⟩ := ring_way hno htwo h3 hww hb (by rw [q]; exact hws) (fun r => hcd r.symm)
    obtain ⟨l, hl, g3⟩ := jw_two (bar := bar) hw2 ht.1 g1 g2
    exact ⟨1 + l, by omega, jw_trans (jmB hw1 hw2 hs.1 hw3) g3⟩
  · obtain ⟨n, g1⟩ := ring_way hno htwo hst h00 h3 hab q
    obtain ⟨m, g2⟩ := ring_way hno htwo h3 hst hb (fun r => q r.symm) (fun r => hcd r.symm)
    obtain ⟨l, hl, g3⟩ := jw_two (bar := bar) (a := s.1) (b := s.2) (c := t.1) (d := t.2) (hs.2.1 rfl).1 ht.1 g1 g2
    exact ⟨l, by omega, g3⟩
/-- two robots come from any joint state to any that they can reach within 199 steps -/
theorem jb_all {s t : jS} {N : Nat} (hs : jval 2 G s) (h : jw G bar N s t) : ∃ n, n ≤ 199 ∧ jw G bar n s t := by
  cases hbar : bar with
  | false =>
    rw [hbar] at h
    exact jb_free rfl hs h
  | true =>
    rw [hbar] at h
    by_cases c1 : ∃ k, wk (opn G) k s.1 s.2
    · obtain ⟨k, hk⟩ := c1
      by_cases c2 : noj G s.1
      · by_cases c3 : ∃ e k, wk (opn G) k s.1 e ∧ ∀ x y, adj e x = true → adj e y = true → opn G x = true → opn G y = true → x = y
        · obtain ⟨e, k1, h1, h2⟩ := c3
          exact jb_end rfl hs h c2 h1 (wk_trans (wk_symm op36 hk) h1) h2
        · refine jb_ring hs h c2 hk (fun c k1 hc => Classical.byContradiction fun q => c3 ⟨c, k1, hc, fun x y a1 a2 a3 a4 => Classical.byContradiction fun w => q ⟨x, y, a1, a2, a3, a4, w⟩⟩)
      · have : ∃ j x y z k, wk (opn G) k s.1 j ∧ jun G j x y z := Classical.byContradiction fun q => c2 fun j x y z k h1 h2 => q ⟨j, x, y, z, k, h1, h2⟩
        obtain ⟨j, x, y, z, k1, h1, h2⟩ := this
        exact jb_jun hs h h2 (wk_r h1) h1 (wk_trans (wk_symm op36 hk) h1)
    · obtain ⟨n, hn, g⟩ := jb_apart hs h (fun k hk => c1 ⟨k, hk⟩)
      exact ⟨n, by omega, g⟩
/-- one robot: the least cost is its way -/
theorem jb_one {R : Nat} {E s : jS} {v : Nat} (hR : R ≠ 2) (hs : jval R G s) (hE : jval R G E) (h : lst R G bar E v s) : v ≤ 35 := by
  have toE : ∀ k u s, jval R G s → jc R G bar E k u s → ∃ j, wk (opn G) j s.1 E.1 := by
    intro k
    induction k with
    | zero => rintro u s hs ⟨-, rfl⟩; exact ⟨0, rfl, hs.1⟩
    | succ k ih =>
      rintro u s hs ⟨s', u', ⟨i, j, hi, hj, hm⟩, -, h2⟩
      have hs' := jmv_val hs hm
      obtain ⟨n, hn⟩ := ih u' s' hs' h2
      obtain ⟨n1, n2⟩ := mvc_some hm.1
      by_cases z : i = 0
      · subst z
        have : nb s.1 0 = some s.1 := rfl
        rw [this] at n1
        have := Option.some.inj n1
        rw [this]
        exact ⟨n, hn⟩
      · exact ⟨n + 1, hs.1, s'.1, adj_iff.mpr ⟨i, by omega, hi, n1⟩, hn⟩
  have walk : ∀ j a, wk (opn G) j a E.1 → ∃ u, u ≤ j ∧ cst R G bar E u (a, 0) := by
    intro j
    induction j with
    | zero =>
      rintro a ⟨rfl, -⟩
      refine ⟨0, Nat.le_refl _, ?_⟩
      rw [show ((E.1, 0) : jS) = E from Prod.ext rfl (hE.2.2 hR).symm]
      exact cst_E
    | succ j ih =>
      rintro a ⟨h1, d, h2, h3⟩
      obtain ⟨u, hu, hc⟩ := ih d h3
      obtain ⟨i, hi, hm⟩ := adj_mvc h2 (wk_l h3)
      have hst : jst R G bar (a, 0) (d, 0) := ⟨i, 0, hi, by decide, hm, by unfold nx1; rw [if_neg hR, if_pos rfl], fun q => absurd q hR⟩
      refine ⟨_, ?_, cst_step hst hc⟩
      have p1 := ownc_le a d E.1
      have p2 : ownc 0 0 E.2 = 0 := by unfold ownc; rw [if_pos ⟨rfl, (hE.2.2 hR).symm⟩]
      unfold pay
      dsimp only
      omega
  obtain ⟨k, hk⟩ := h.1
  obtain ⟨j, hj⟩ := toE k v s hs hk
  obtain ⟨j', h1, h2⟩ := wk_short op36 hj
  obtain ⟨u, h3, h4⟩ := walk j' s.1 h2
  rw [show ((s.1, 0) : jS) = s from Prod.ext rfl (hs.2.2 hR).symm] at h4
  have := h.2 u h4
  omega
theorem jb_lst {R : Nat} {E s : jS} {v : Nat} (hs : jval R G s) (hE : jval R G E) (h : lst R G bar E v s) : jbd R v := by
  refine ⟨fun q => ?_, fun q => jb_one q hs hE h⟩
  subst q
  obtain ⟨k, hk⟩ := h.1
  obtain ⟨n, hn, g⟩ := jb_all hs (jc_jw hk)
  obtain ⟨u, hu, hc⟩ := jw_cst g
  have := h.2 u hc
  omega
end JB
