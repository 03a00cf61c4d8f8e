-- grid
def fC_grid (n : Nat) (nc : Nat) (L : Nat) (xs : Nat → Int32) (i : Int32) (σ : jp_I) (τ : jp_J) : Option (jp_I × jp_J) :=
  if jp_ok (i + 1) L = true then if jp_ok (i + 2) L = true then (fL_grid n nc (xs (i + 1).toNatClampNeg) (xs (i + 2).toNatClampNeg) σ τ).bind fun (a_3, σ_3, τ_3) => (fX8_grid (xs (i + 1).toNatClampNeg) (xs (i + 2).toNatClampNeg) σ_3 τ_3).bind fun (a_4, σ_4, τ_4) => (fX8_thrown σ_4 τ_4).bind fun (a_5, σ_5, τ_5) => if a_5 = a_3 then (some (σ_5, τ_5)) else (none) else none else none
set_option maxHeartbeats 4000000 in
set_option maxRecDepth 20000 in
theorem wC_grid {p : Program} {l : Launch} {e : Jvm.Env} {s : State} {m : MethodId} {args : Array Value} {below : List Frame} {meth : Method} {c : Code} {Q : State → Prop} {Γ : jp_G} {Z : Nat → Option jp_Sh} {cells slots b L : Nat} {xs : Nat → Int32} {n : Nat} {nc : Nat} (B : jp_B Γ p s m args meth c RL cL_law 7 (some .boolean)) (hX0 : jp_hC Z n nc) (hM : jp_hM Z) (hO : Z 30 = some (3, 1, [])) (hst : l.stackTraces = false) (hX : va_X b L xs s s.heap) (hbl : b < s.heap.size) (hbA : ¬ jp_A Γ b) (hc0 : cells + 3 ≤ room_1.cells) (hs0 : slots + 18 ≤ room_1.slots) {i : Int32} {σ σ' : jp_I} {τ τ' : jp_J} (hf : fC_grid n nc L xs i σ τ = some (σ', τ'))
    (kk : jp_atc p l e room_1 s m args below meth c Q 7 Γ Z (cells + 3) (slots + 18) 884 [(0, .ref b), (1, .ref (Γ.2.2.1 0)), (2, .ref (Γ.2.2.1 20)), (3, .ref (Γ.2.2.1 30)), (4, .int i)] [] σ' τ') : jp_atc p l e room_1 s m args below meth c Q 7 Γ Z cells slots 120 [(0, .ref b), (1, .ref (Γ.2.2.1 0)), (2, .ref (Γ.2.2.1 20)), (3, .ref (Γ.2.2.1 30)), (4, .int i)] [] σ τ := by
  obtain ⟨hx, hb, hml, hown, hts, hr, hlk, hE⟩ := id B
  unfold fC_grid at hf
  intro H locs ls hP hS hl
  refine lv_aload_n hx hb dL_law_120 rfl (lv_at hl 1 rfl) ?_
  refine lv_aload_n hx hb dL_law_121 rfl (lv_at hl 0 rfl) ?_
  refine lv_iload hx hb dL_law_122 (lv_at hl 4 rfl) ?_
  refine lv_iconst (v := 1) hx hb dL_law_124 (by decide) ?_
  refine lv_iadd hx hb dL_law_125 ?_
  obtain ⟨g_1, hf⟩ := jp_if hf
  refine jq_sld B hX hbl hbA hS (jp_ok_vp g_1) dL_law_126 ?_
  refine lv_aload_n hx hb dL_law_127 rfl (lv_at hl 0 rfl) ?_
  refine lv_iload hx hb dL_law_128 (lv_at hl 4 rfl) ?_
  refine lv_iconst (v := 2) hx hb dL_law_130 (by decide) ?_
  refine lv_iadd hx hb dL_law_131 ?_
  obtain ⟨g_2, hf⟩ := jp_if hf
  refine jq_sld B hX hbl hbA hS (jp_ok_vp g_2) dL_law_132 ?_
  obtain ⟨⟨a_3, σ_3, τ_3⟩, h_3, hf⟩ := jp_bind hf
  dsimp only at hf
  refine jq_callW (cx := 3) (sx := 18) (rest := []) B hP hS hl (ctL_grid hX0 hst h_3) mw_158 mw_156 mw_157 mw_9 ddL_grid ⟨Nat.le_of_ble_eq_true rfl, Nat.le_of_ble_eq_true rfl⟩ (Nat.le_of_ble_eq_true rfl) (Nat.le_of_ble_eq_true rfl) ⟨hc0, hs0⟩ rfl (Nat.le_of_ble_eq_true rfl) dL_law_133 (fun H locs hP hS => ?_)
  refine lv_istore (lv' := [(5, .int a_3), (0, .ref b), (1, .ref (Γ.2.2.1 0)), (2, .ref (Γ.2.2.1 20)), (3, .ref (Γ.2.2.1 30)), (4, .int i)]) hx hb dL_law_136 hl (by decide) rfl (fun ls hl => ?_)
  refine lv_aload_n hx hb dL_law_138 rfl (lv_at hl 3 rfl) ?_
  refine lv_aload_n hx hb dL_law_139 rfl (lv_at hl 1 rfl) ?_
  refine lv_iload hx hb dL_law_140 (lv_at hl 5 rfl) ?_
  refine lv_iconst (v := 1) hx hb dL_law_142 (by decide) ?_
  refine lv_iadd hx hb dL_law_143 ?_
  refine jq_sld B hX hbl hbA hS (jp_ok_vp g_1) dL_law_144 ?_
  refine lv_aload_n hx hb dL_law_145 rfl (lv_at hl 1 rfl) ?_
  refine lv_iload hx hb dL_law_146 (lv_at hl 5 rfl) ?_
  refine lv_iconst (v := 2) hx hb dL_law_148 (by decide) ?_
  refine lv_iadd hx hb dL_law_149 ?_
  refine jq_sld B hX hbl hbA hS (jp_ok_vp g_2) dL_law_150 ?_
  obtain ⟨⟨a_4, σ_4, τ_4⟩, h_4, hf⟩ := jp_bind hf
  dsimp only at hf
  refine jp_callV (rest := []) B hP hS hl (ctX8_grid hM h_4) hM.1 rfl mw_173 mw_170 mw_171 mw_172 mw_5 ddX8_grid ⟨Nat.le_of_ble_eq_true rfl, Nat.le_of_ble_eq_true rfl⟩ ⟨hc0, hs0⟩ rfl (Nat.le_of_ble_eq_true rfl) dL_law_151 (fun H locs hP hS => ?_)
  refine lv_aload_n hx hb dL_law_154 rfl (lv_at hl 3 rfl) ?_
  obtain ⟨⟨a_5, σ_5, τ_5⟩, h_5, hf⟩ := jp_bind hf
  dsimp only at hf
  refine jp_callV (rest := []) B hP hS hl (ctX8_thrown hM h_5) hM.1 rfl mw_177 mw_174 mw_175 mw_176 mw_5 ddX8_thrown ⟨Nat.le_of_ble_eq_true rfl, Nat.le_of_ble_eq_true rfl⟩ ⟨hc0, hs0⟩ rfl (Nat.le_of_ble_eq_true rfl) dL_law_155 (fun H locs hP hS => ?_)
  refine lv_iload hx hb dL_law_158 (lv_at hl 0 rfl) ?_
  refine lv_icmp_eq (tgt := 165) hx hb dL_law_160 (by decide) (fun c_6 => ?_) (fun c_6 => ?_)
  · rw [if_pos c_6] at hf
    refine lv_goto (tgt := 884) hx hb dL_law_165 (by decide) ?_
    obtain ⟨rfl, rfl⟩ := jp_injK hf
    exact kk H locs ls hP hS (lv_sub hl [1, 2, 3, 4, 5] rfl)
  · rw [if_neg c_6] at hf
    cases hf
-- wall
def fC_wall (n : Nat) (nc : Nat) (L : Nat) (xs : Nat → Int32) (i : Int32) (σ : jp_I) (τ : jp_J) : Option (jp_I × jp_J) :=
  if jp_ok (i + 1) L = true then if jp_ok (i + 2) L = true then if jp_ok (i + 3) L = true then if (xs (i + 3).toNatClampNeg) = 0 then ((fL_wall n nc (xs (i + 1).toNatClampNeg) (xs (i + 2).toNatClampNeg) 0 σ τ).bind fun (a_5, σ_5, τ_5) => (fX8_wall (xs (i + 1).toNatClampNeg) (xs (i + 2).toNatClampNeg) 0 σ_5 τ_5).bind fun (a_7, σ_7, τ_7) => (fX8_thrown σ_7 τ_7).bind fun (a_8, σ_8, τ_8) => if a_8 = a_5 then (if a_5 = 0 then (if a_7 = 0 then (if (lg_cmp (τ_8 30 (0 : Int32).toNatClampNeg) 0) = 0 then (some (σ_8, τ_8)) else (none)) else (if (lg_cmp (τ_8 30 (0 : Int32).toNatClampNeg) 1) = 0 then (some (σ_8, τ_8)) else (none))) else (some (σ_8, τ_8))) else (none)) else ((fL_wall n nc (xs (i + 1).toNatClampNeg) (xs (i + 2).toNatClampNeg) 1 σ τ).bind fun (a_14, σ_14, τ_14) => (fX8_wall (xs (i + 1).toNatClampNeg) (xs (i + 2).toNatClampNeg) 1 σ_14 τ_14).bind fun (a_16, σ_16, τ_16) => (fX8_thrown σ_16 τ_16).bind fun (a_17, σ_17, τ_17) => if a_17 = a_14 then (if a_14 = 0 then (if a_16 = 0 then (if (lg_cmp (τ_17 30 (0 : Int32).toNatClampNeg) 0) = 0 then (some (σ_17, τ_17)) else (none)) else (if (lg_cmp (τ_17 30 (0 : Int32).toNatClampNeg) 1) = 0 then (some (σ_17, τ_17)) else (none))) else (some (σ_17, τ_17))) else (none)) else none else none else none
set_option maxHeartbeats 4000000 in
set_option maxRecDepth 20000 in
theorem wC_wall {p : Program} {l : Launch} {e : Jvm.Env} {s : State} {m : MethodId} {args : Array Value} {below : List Frame} {meth : Method} {c : Code} {Q : State → Prop} {Γ : jp_G} {Z : Nat → Option jp_Sh} {cells slots b L : Nat} {xs : Nat → Int32} {n : Nat} {nc : Nat} (B : jp_B Γ p s m args meth c RL cL_law 7 (some .boolean)) (hX0 : jp_hC Z n nc) (hM : jp_hM Z) (hO : Z 30 = some (3, 1, [])) (hst : l.stackTraces = false) (hX : va_X b L xs s s.heap) (hbl : b < s.heap.size) (hbA : ¬ jp_A Γ b) (hc0 : cells + 3 ≤ room_1.cells) (hs0 : slots + 18 ≤ room_1.slots) {i : Int32} {σ σ' : jp_I} {τ τ' : jp_J} (hf : fC_wall n nc L xs i σ τ = some (σ', τ'))
    (kk : jp_atc p l e room_1 s m args below meth c Q 7 Γ Z (cells + 3) (slots + 18) 884 [(0, .ref b), (1, .ref (Γ.2.2.1 0)), (2, .ref (Γ.2.2.1 20)), (3, .ref (Γ.2.2.1 30)), (4, .int i)] [] σ' τ') : jp_atc p l e room_1 s m args below meth c Q 7 Γ Z cells slots 168 [(0, .ref b), (1, .ref (Γ.2.2.1 0)), (2, .ref (Γ.2.2.1 20)), (3, .ref (Γ.2.2.1 30)), (4, .int i)] [] σ τ := by
  obtain ⟨hx, hb, hml, hown, hts, hr, hlk, hE⟩ := id B
  unfold fC_wall at hf
  intro H locs ls hP hS hl
  refine lv_aload_n hx hb dL_law_168 rfl (lv_at hl 1 rfl) ?_
  refine lv_aload_n hx hb dL_law_169 rfl (lv_at hl 0 rfl) ?_
  refine lv_iload hx hb dL_law_170 (lv_at hl 4 rfl) ?_
  refine lv_iconst (v := 1) hx hb dL_law_172 (by decide) ?_
  refine lv_iadd hx hb dL_law_173 ?_
  obtain ⟨g_1, hf⟩ := jp_if hf
  refine jq_sld B hX hbl hbA hS (jp_ok_vp g_1) dL_law_174 ?_
  refine lv_aload_n hx hb dL_law_175 rfl (lv_at hl 0 rfl) ?_
  refine lv_iload hx hb dL_law_176 (lv_at hl 4 rfl) ?_
  refine lv_iconst (v := 2) hx hb dL_law_178 (by decide) ?_
  refine lv_iadd hx hb dL_law_179 ?_
  obtain ⟨g_2, hf⟩ := jp_if hf
  refine jq_sld B hX hbl hbA hS (jp_ok_vp g_2) dL_law_180 ?_
  refine lv_aload_n hx hb dL_law_181 rfl (lv_at hl 0 rfl) ?_
  refine lv_iload hx hb dL_law_182 (lv_at hl 4 rfl) ?_
  refine lv_iconst (v := 3) hx hb dL_law_184 (by decide) ?_
  refine lv_iadd hx hb dL_law_185 ?_
  obtain ⟨g_3, hf⟩ := jp_if hf
  refine jq_sld B hX hbl hbA hS (jp_ok_vp g_3) dL_law_186 ?_
  refine lv_if_eq (tgt := 194) hx hb dL_law_187 (by decide) (fun c_4 => ?_) (fun c_4 => ?_)
  · rw [if_pos c_4] at hf
    refine lv_iconst (v := 0) hx hb dL_law_194 (by decide) ?_
    refine lv_aload_n hx hb dL_law_195 rfl (lv_at hl 3 rfl) ?_
    obtain ⟨⟨a_5, σ_5, τ_5⟩, h_5, hf⟩ := jp_bind hf
    dsimp only at hf
    refine jq_callW (cx := 3) (sx := 18) (rest := []) B hP hS hl (ctL_wall hX0 hO hst h_5) mw_180 mw_178 mw_179 mw_9 ddL_wall ⟨Nat.le_of_ble_eq_true rfl, Nat.le_of_ble_eq_true rfl⟩ (Nat.le_of_ble_eq_true rfl) (Nat.le_of_ble_eq_true rfl) ⟨hc0, hs0⟩ rfl (Nat.le_of_ble_eq_true rfl) dL_law_196 (fun H locs hP hS => ?_)
    refine lv_istore (lv' := [(5, .int a_5), (0, .ref b), (1, .ref (Γ.2.2.1 0)), (2, .ref (Γ.2.2.1 20)), (3, .ref (Γ.2.2.1 30)), (4, .int i)]) hx hb dL_law_199 hl (by decide) rfl (fun ls hl => ?_)
    refine lv_aload_n hx hb dL_law_201 rfl (lv_at hl 3 rfl) ?_
    refine lv_aload_n hx hb dL_law_202 rfl (lv_at hl 1 rfl) ?_
    refine lv_iload hx hb dL_law_203 (lv_at hl 5 rfl) ?_
    refine lv_iconst (v := 1) hx hb dL_law_205 (by decide) ?_
    refine lv_iadd hx hb dL_law_206 ?_
    refine jq_sld B hX hbl hbA hS (jp_ok_vp g_1) dL_law_207 ?_
    refine lv_aload_n hx hb dL_law_208 rfl (lv_at hl 1 rfl) ?_
    refine lv_iload hx hb dL_law_209 (lv_at hl 5 rfl) ?_
    refine lv_iconst (v := 2) hx hb dL_law_211 (by decide) ?_
    refine lv_iadd hx hb dL_law_212 ?_
    refine jq_sld B hX hbl hbA hS (jp_ok_vp g_2) dL_law_213 ?_
    refine lv_aload_n hx hb dL_law_214 rfl (lv_at hl 1 rfl) ?_
    refine lv_iload hx hb dL_law_215 (lv_at hl 5 rfl) ?_
    refine lv_iconst (v := 3) hx hb dL_law_217 (by decide) ?_
    refine lv_iadd hx hb dL_law_218 ?_
    refine jq_sld B hX hbl hbA hS (jp_ok_vp g_3) dL_law_219 ?_
    refine lv_if_eq (tgt := 227) hx hb dL_law_220 (by decide) (fun c_6 => ?_) (fun c_6 => ?_)
    · skip
      refine lv_iconst (v := 0) hx hb dL_law_227 (by decide) ?_
      obtain ⟨⟨a_7, σ_7, τ_7⟩, h_7, hf⟩ := jp_bind hf
      dsimp only at hf
      refine jp_callV (rest := []) B hP hS hl (ctX8_wall hM h_7) hM.1 rfl mw_201 mw_198 mw_199 mw_200 mw_5 ddX8_wall ⟨Nat.le_of_ble_eq_true rfl, Nat.le_of_ble_eq_true rfl⟩ ⟨hc0, hs0⟩ rfl (Nat.le_of_ble_eq_true rfl) dL_law_228 (fun H locs hP hS => ?_)
      refine lv_istore (lv' := [(6, .int a_7), (5, .int a_5), (0, .ref b), (1, .ref (Γ.2.2.1 0)), (2, .ref (Γ.2.2.1 20)), (3, .ref (Γ.2.2.1 30)), (4, .int i)]) hx hb dL_law_231 hl (by decide) rfl (fun ls hl => ?_)
      refine lv_aload_n hx hb dL_law_233 rfl (lv_at hl 4 rfl) ?_
      obtain ⟨⟨a_8, σ_8, τ_8⟩, h_8, hf⟩ := jp_bind hf
      dsimp only at hf
      refine jp_callV (rest := []) B hP hS hl (ctX8_thrown hM h_8) hM.1 rfl mw_177 mw_174 mw_175 mw_176 mw_5 ddX8_thrown ⟨Nat.le_of_ble_eq_true rfl, Nat.le_of_ble_eq_true rfl⟩ ⟨hc0, hs0⟩ rfl (Nat.le_of_ble_eq_true rfl) dL_law_234 (fun H locs hP hS => ?_)
      refine lv_iload hx hb dL_law_237 (lv_at hl 1 rfl) ?_
      refine lv_icmp_eq (tgt := 244) hx hb dL_law_239 (by decide) (fun c_9 => ?_) (fun c_9 => ?_)
      · rw [if_pos c_9] at hf
        refine lv_iload hx hb dL_law_244 (lv_at hl 1 rfl) ?_
        refine lv_if_ne (tgt := 268) hx hb dL_law_246 (by decide) (fun c_10 => ?_) (fun c_10 => ?_)
        · rw [if_neg c_10] at hf
          refine lv_goto (tgt := 884) hx hb dL_law_268 (by decide) ?_
          obtain ⟨rfl, rfl⟩ := jp_injK hf
          exact kk H locs ls hP hS (lv_sub hl [2, 3, 4, 5, 6] rfl)
        · rw [if_pos c_10] at hf
          refine lv_aload_n hx hb dL_law_249 rfl (lv_at hl 5 rfl) ?_
          refine lv_iconst (v := 0) hx hb dL_law_250 (by decide) ?_
          refine jp_lald B hP hO (jp_ok_vp (by decide)) dL_law_251 ?_
          refine lv_iload hx hb dL_law_252 (lv_at hl 0 rfl) ?_
          refine lv_if_eq (tgt := 261) hx hb dL_law_254 (by decide) (fun c_11 => ?_) (fun c_11 => ?_)
          · rw [if_pos c_11] at hf
            refine lv_lconst (v := 0) hx hb dL_law_261 (by decide) ?_
            refine W.lcmp hx hb dL_law_262 ?_
            refine lv_if_eq (tgt := 268) hx hb dL_law_263 (by decide) (fun c_12 => ?_) (fun c_12 => ?_)
            · rw [if_pos c_12] at hf
              refine lv_goto (tgt := 884) hx hb dL_law_268 (by decide) ?_
              obtain ⟨rfl, rfl⟩ := jp_injK hf
              exact kk H locs ls hP hS (lv_sub hl [2, 3, 4, 5, 6] rfl)
            · rw [if_neg c_12] at hf
              cases hf
          · rw [if_neg c_11] at hf
            refine lv_lconst (v := 1) hx hb dL_law_257 (by decide) ?_
            refine lv_goto (tgt := 262) hx hb dL_law_258 (by decide) ?_
            refine W.lcmp hx hb dL_law_262 ?_
            refine lv_if_eq (tgt := 268) hx hb dL_law_263 (by decide) (fun c_13 => ?_) (fun c_13 => ?_)
            · rw [if_pos c_13] at hf
              refine lv_goto (tgt := 884) hx hb dL_law_268 (by decide) ?_
              obtain ⟨rfl, rfl⟩ := jp_injK hf
              exact kk H locs ls hP hS (lv_sub hl [2, 3, 4, 5, 6] rfl)
            · rw [if_neg c_13] at hf
              cases hf
      · rw [if_neg c_9] at hf
        cases hf
    · exact absurd c_4 c_6
  · rw [if_neg c_4] at hf
    refine lv_iconst (v := 1) hx hb dL_law_190 (by decide) ?_
    refine lv_goto (tgt := 195) hx hb dL_law_191 (by decide) ?_
    refine lv_aload_n hx hb dL_law_195 rfl (lv_at hl 3 rfl) ?_
    obtain ⟨⟨a_14, σ_14, τ_14⟩, h_14, hf⟩ := jp_bind hf
    dsimp only at hf
    refine jq_callW (cx := 3) (sx := 18) (rest := []) B hP hS hl (ctL_wall hX0 hO hst h_14) mw_180 mw_178 mw_179 mw_9 ddL_wall ⟨Nat.le_of_ble_eq_true rfl, Nat.le_of_ble_eq_true rfl⟩ (Nat.le_of_ble_eq_true rfl) (Nat.le_of_ble_eq_true rfl) ⟨hc0, hs0⟩ rfl (Nat.le_of_ble_eq_true rfl) dL_law_196 (fun H locs hP hS => ?_)
    refine lv_istore (lv' := [(5, .int a_14), (0, .ref b), (1, .ref (Γ.2.2.1 0)), (2, .ref (Γ.2.2.1 20)), (3, .ref (Γ.2.2.1 30)), (4, .int i)]) hx hb dL_law_199 hl (by decide) rfl (fun ls hl => ?_)
    refine lv_aload_n hx hb dL_law_201 rfl (lv_at hl 3 rfl) ?_
    refine lv_aload_n hx hb dL_law_202 rfl (lv_at hl 1 rfl) ?_
    refine lv_iload hx hb dL_law_203 (lv_at hl 5 rfl) ?_
    refine lv_iconst (v := 1) hx hb dL_law_205 (by decide) ?_
    refine lv_iadd hx hb dL_law_206 ?_
    refine jq_sld B hX hbl hbA hS (jp_ok_vp g_1) dL_law_207 ?_
    refine lv_aload_n hx hb dL_law_208 rfl (lv_at hl 1 rfl) ?_
    refine lv_iload hx hb dL_law_209 (lv_at hl 5 rfl) ?_
    refine lv_iconst (v := 2) hx hb dL_law_211 (by decide) ?_
    refine lv_iadd hx hb dL_law_212 ?_
    refine jq_sld B hX hbl hbA hS (jp_ok_vp g_2) dL_law_213 ?_
    refine lv_aload_n hx hb dL_law_214 rfl (lv_at hl 1 rfl) ?_
    refine lv_iload hx hb dL_law_215 (lv_at hl 5 rfl) ?_
    refine lv_iconst (v := 3) hx hb dL_law_217 (by decide) ?_
    refine lv_iadd hx hb dL_law_218 ?_
    refine jq_sld B hX hbl hbA hS (jp_ok_vp g_3) dL_law_219 ?_
    refine lv_if_eq (tgt := 227) hx hb dL_law_220 (by decide) (fun c_15 => ?_) (fun c_15 => ?_)
    · exact absurd c_15 c_4
    · skip
      refine lv_iconst (v := 1) hx hb dL_law_223 (by decide) ?_
      refine lv_goto (tgt := 228) hx hb dL_law_224 (by decide) ?_
      obtain ⟨⟨a_16, σ_16, τ_16⟩, h_16, hf⟩ := jp_bind hf
      dsimp only at hf
      refine jp_callV (rest := []) B hP hS hl (ctX8_wall hM h_16) hM.1 rfl mw_201 mw_198 mw_199 mw_200 mw_5 ddX8_wall ⟨Nat.le_of_ble_eq_true rfl, Nat.le_of_ble_eq_true rfl⟩ ⟨hc0, hs0⟩ rfl (Nat.le_of_ble_eq_true rfl) dL_law_228 (fun H locs hP hS => ?_)
      refine lv_istore (lv' := [(6, .int a_16), (5, .int a_14), (0, .ref b), (1, .ref (Γ.2.2.1 0)), (2, .ref (Γ.2.2.1 20)), (3, .ref (Γ.2.2.1 30)), (4, .int i)]) hx hb dL_law_231 hl (by decide) rfl (fun ls hl => ?_)
      refine lv_aload_n hx hb dL_law_233 rfl (lv_at hl 4 rfl) ?_
      obtain ⟨⟨a_17, σ_17, τ_17⟩, h_17, hf⟩ := jp_bind hf
      dsimp only at hf
      refine jp_callV (rest := []) B hP hS hl (ctX8_thrown hM h_17) hM.1 rfl mw_177 mw_174 mw_175 mw_176 mw_5 ddX8_thrown ⟨Nat.le_of_ble_eq_true rfl, Nat.le_of_ble_eq_true rfl⟩ ⟨hc0, hs0⟩ rfl (Nat.le_of_ble_eq_true rfl) dL_law_234 (fun H locs hP hS => ?_)
      refine lv_iload hx hb dL_law_237 (lv_at hl 1 rfl) ?_
      refine lv_icmp_eq (tgt := 244) hx hb dL_law_239 (by decide) (fun c_18 => ?_) (fun c_18 => ?_)
      · rw [if_pos c_18] at hf
        refine lv_iload hx hb dL_law_244 (lv_at hl 1 rfl) ?_
        refine lv_if_ne (tgt := 268) hx hb dL_law_246 (by decide) (fun c_19 => ?_) (fun c_19 => ?_)
        · rw [if_neg c_19] at hf
          refine lv_goto (tgt := 884) hx hb dL_law_268 (by decide) ?_
          obtain ⟨rfl, rfl⟩ := jp_injK hf
          exact kk H locs ls hP hS (lv_sub hl [2, 3, 4, 5, 6] rfl)
        · rw [if_pos c_19] at hf
          refine lv_aload_n hx hb dL_law_249 rfl (lv_at hl 5 rfl) ?_
          refine lv_iconst (v := 0) hx hb dL_law_250 (by decide) ?_
          refine jp_lald B hP hO (jp_ok_vp (by decide)) dL_law_251 ?_
          refine lv_iload hx hb dL_law_252 (lv_at hl 0 rfl) ?_
          refine lv_if_eq (tgt := 261) hx hb dL_law_254 (by decide) (fun c_20 => ?_) (fun c_20 => ?_)
          · rw [if_pos c_20] at hf
            refine lv_lconst (v := 0) hx hb dL_law_261 (by decide) ?_
            refine W.lcmp hx hb dL_law_262 ?_
            refine lv_if_eq (tgt := 268) hx hb dL_law_263 (by decide) (fun c_21 => ?_) (fun c_21 => ?_)
            · rw [if_pos c_21] at hf
              refine lv_goto (tgt := 884) hx hb dL_law_268 (by decide) ?_
              obtain ⟨rfl, rfl⟩ := jp_injK hf
              exact kk H locs ls hP hS (lv_sub hl [2, 3, 4, 5, 6] rfl)
            · rw [if_neg c_21] at hf
              cases hf
          · rw [if_neg c_20] at hf
            refine lv_lconst (v := 1) hx hb dL_law_257 (by decide) ?_
            refine lv_goto (tgt := 262) hx hb dL_law_258 (by decide) ?_
            refine W.lcmp hx hb dL_law_262 ?_
            refine lv_if_eq (tgt := 268) hx hb dL_law_263 (by decide) (fun c_22 => ?_) (fun c_22 => ?_)
            · rw [if_pos c_22] at hf
              refine lv_goto (tgt := 884) hx hb dL_law_268 (by decide) ?_
              obtain ⟨rfl, rfl⟩ := jp_injK hf
              exact kk H locs ls hP hS (lv_sub hl [2, 3, 4, 5, 6] rfl)
            · rw [if_neg c_22] at hf
              cases hf
      · rw [if_neg c_18] at hf
        cases hf
-- start
def fC_start (n : Nat) (nc : Nat) (L : Nat) (xs : Nat → Int32) (i : Int32) (σ : jp_I) (τ : jp_J) : Option (jp_I × jp_J) :=
  if jp_ok (i + 1) L = true then if jp_ok (i + 2) L = true then if jp_ok (i + 3) L = true then (fL_start n nc (xs (i + 1).toNatClampNeg) (xs (i + 2).toNatClampNeg) (xs (i + 3).toNatClampNeg) σ τ).bind fun (a_4, σ_4, τ_4) => (fX8_start (xs (i + 1).toNatClampNeg) (xs (i + 2).toNatClampNeg) (xs (i + 3).toNatClampNeg) σ_4 τ_4).bind fun (a_5, σ_5, τ_5) => (fX8_thrown σ_5 τ_5).bind fun (a_6, σ_6, τ_6) => if a_6 = a_4 then (if a_4 = 0 then (if a_5 = 0 then (if (lg_cmp (τ_6 30 (0 : Int32).toNatClampNeg) 0) = 0 then (some (σ_6, τ_6)) else (none)) else (if (lg_cmp (τ_6 30 (0 : Int32).toNatClampNeg) 1) = 0 then (some (σ_6, τ_6)) else (none))) else (some (σ_6, τ_6))) else (none) else none else none else none
set_option maxHeartbeats 4000000 in
set_option maxRecDepth 20000 in
theorem wC_start {p : Program} {l : Launch} {e : Jvm.Env} {s : State} {m : MethodId} {args : Array Value} {below : List Frame} {meth : Method} {c : Code} {Q : State → Prop} {Γ : jp_G} {Z : Nat → Option jp_Sh} {cells slots b L : Nat} {xs : Nat → Int32} {n : Nat} {nc : Nat} (B : jp_B Γ p s m args meth c RL cL_law 7 (some .boolean)) (hX0 : jp_hC Z n nc) (hM : jp_hM Z) (hO : Z 30 = some (3, 1, [])) (hst : l.stackTraces = false) (hX : va_X b L xs s s.heap) (hbl : b < s.heap.size) (hbA : ¬ jp_A Γ b) (hc0 : cells + 3 ≤ room_1.cells) (hs0 : slots + 18 ≤ room_1.slots) {i : Int32} {σ σ' : jp_I} {τ τ' : jp_J} (hf : fC_start n nc L xs i σ τ = some (σ', τ'))
    (kk : jp_atc p l e room_1 s m args below meth c Q 7 Γ Z (cells + 3) (slots + 18) 884 [(0, .ref b), (1, .ref (Γ.2.2.1 0)), (2, .ref (Γ.2.2.1 20)), (3, .ref (Γ.2.2.1 30)), (4, .int i)] [] σ' τ') : jp_atc p l e room_1 s m args below meth c Q 7 Γ Z cells slots 271 [(0, .ref b), (1, .ref (Γ.2.2.1 0)), (2, .ref (Γ.2.2.1 20)), (3, .ref (Γ.2.2.1 30)), (4, .int i)] [] σ τ := by
  obtain ⟨hx, hb, hml, hown, hts, hr, hlk, hE⟩ := id B
  unfold fC_start at hf
  intro H locs ls hP hS hl
  refine lv_aload_n hx hb dL_law_271 rfl (lv_at hl 1 rfl) ?_
  refine lv_aload_n hx hb dL_law_272 rfl (lv_at hl 0 rfl) ?_
  refine lv_iload hx hb dL_law_273 (lv_at hl 4 rfl) ?_
  refine lv_iconst (v := 1) hx hb dL_law_275 (by decide) ?_
  refine lv_iadd hx hb dL_law_276 ?_
  obtain ⟨g_1, hf⟩ := jp_if hf
  refine jq_sld B hX hbl hbA hS (jp_ok_vp g_1) dL_law_277 ?_
  refine lv_aload_n hx hb dL_law_278 rfl (lv_at hl 0 rfl) ?_
  refine lv_iload hx hb dL_law_279 (lv_at hl 4 rfl) ?_
  refine lv_iconst (v := 2) hx hb dL_law_281 (by decide) ?_
  refine lv_iadd hx hb dL_law_282 ?_
  obtain ⟨g_2, hf⟩ := jp_if hf
  refine jq_sld B hX hbl hbA hS (jp_ok_vp g_2) dL_law_283 ?_
  refine lv_aload_n hx hb dL_law_284 rfl (lv_at hl 0 rfl) ?_
  refine lv_iload hx hb dL_law_285 (lv_at hl 4 rfl) ?_
  refine lv_iconst (v := 3) hx hb dL_law_287 (by decide) ?_
  refine lv_iadd hx hb dL_law_288 ?_
  obtain ⟨g_3, hf⟩ := jp_if hf
  refine jq_sld B hX hbl hbA hS (jp_ok_vp g_3) dL_law_289 ?_
  refine lv_aload_n hx hb dL_law_290 rfl (lv_at hl 3 rfl) ?_
  obtain ⟨⟨a_4, σ_4, τ_4⟩, h_4, hf⟩ := jp_bind hf
  dsimp only at hf
  refine jq_callW (cx := 3) (sx := 18) (rest := []) B hP hS hl (ctL_start hX0 hO hst h_4) mw_212 mw_210 mw_211 mw_9 ddL_start ⟨Nat.le_of_ble_eq_true rfl, Nat.le_of_ble_eq_true rfl⟩ (Nat.le_of_ble_eq_true rfl) (Nat.le_of_ble_eq_true rfl) ⟨hc0, hs0⟩ rfl (Nat.le_of_ble_eq_true rfl) dL_law_291 (fun H locs hP hS => ?_)
  refine lv_istore (lv' := [(5, .int a_4), (0, .ref b), (1, .ref (Γ.2.2.1 0)), (2, .ref (Γ.2.2.1 20)), (3, .ref (Γ.2.2.1 30)), (4, .int i)]) hx hb dL_law_294 hl (by decide) rfl (fun ls hl => ?_)
  refine lv_aload_n hx hb dL_law_296 rfl (lv_at hl 3 rfl) ?_
  refine lv_aload_n hx hb dL_law_297 rfl (lv_at hl 1 rfl) ?_
  refine lv_iload hx hb dL_law_298 (lv_at hl 5 rfl) ?_
  refine lv_iconst (v := 1) hx hb dL_law_300 (by decide) ?_
  refine lv_iadd hx hb dL_law_301 ?_
  refine jq_sld B hX hbl hbA hS (jp_ok_vp g_1) dL_law_302 ?_
  refine lv_aload_n hx hb dL_law_303 rfl (lv_at hl 1 rfl) ?_
  refine lv_iload hx hb dL_law_304 (lv_at hl 5 rfl) ?_
  refine lv_iconst (v := 2) hx hb dL_law_306 (by decide) ?_
  refine lv_iadd hx hb dL_law_307 ?_
  refine jq_sld B hX hbl hbA hS (jp_ok_vp g_2) dL_law_308 ?_
  refine lv_aload_n hx hb dL_law_309 rfl (lv_at hl 1 rfl) ?_
  refine lv_iload hx hb dL_law_310 (lv_at hl 5 rfl) ?_
  refine lv_iconst (v := 3) hx hb dL_law_312 (by decide) ?_
  refine lv_iadd hx hb dL_law_313 ?_
  refine jq_sld B hX hbl hbA hS (jp_ok_vp g_3) dL_law_314 ?_
  obtain ⟨⟨a_5, σ_5, τ_5⟩, h_5, hf⟩ := jp_bind hf
  dsimp only at hf
  refine jp_callV (rest := []) B hP hS hl (ctX8_start hM h_5) hM.1 rfl mw_229 mw_226 mw_227 mw_228 mw_5 ddX8_start ⟨Nat.le_of_ble_eq_true rfl, Nat.le_of_ble_eq_true rfl⟩ ⟨hc0, hs0⟩ rfl (Nat.le_of_ble_eq_true rfl) dL_law_315 (fun H locs hP hS => ?_)
  refine lv_istore (lv' := [(6, .int a_5), (5, .int a_4), (0, .ref b), (1, .ref (Γ.2.2.1 0)), (2, .ref (Γ.2.2.1 20)), (3, .ref (Γ.2.2.1 30)), (4, .int i)]) hx hb dL_law_318 hl (by decide) rfl (fun ls hl => ?_)
  refine lv_aload_n hx hb dL_law_320 rfl (lv_at hl 4 rfl) ?_
  obtain ⟨⟨a_6, σ_6, τ_6⟩, h_6, hf⟩ := jp_bind hf
  dsimp only at hf
  refine jp_callV (rest := []) B hP hS hl (ctX8_thrown hM h_6) hM.1 rfl mw_177 mw_174 mw_175 mw_176 mw_5 ddX8_thrown ⟨Nat.le_of_ble_eq_true rfl, Nat.le_of_ble_eq_true rfl⟩ ⟨hc0, hs0⟩ rfl (Nat.le_of_ble_eq_true rfl) dL_law_321 (fun H locs hP hS => ?_)
  refine lv_iload hx hb dL_law_324 (lv_at hl 1 rfl) ?_
  refine lv_icmp_eq (tgt := 331) hx hb dL_law_326 (by decide) (fun c_7 => ?_) (fun c_7 => ?_)
  · rw [if_pos c_7] at hf
    refine lv_iload hx hb dL_law_331 (lv_at hl 1 rfl) ?_
    refine lv_if_ne (tgt := 355) hx hb dL_law_333 (by decide) (fun c_8 => ?_) (fun c_8 => ?_)
    · rw [if_neg c_8] at hf
      refine lv_goto (tgt := 884) hx hb dL_law_355 (by decide) ?_
      obtain ⟨rfl, rfl⟩ := jp_injK hf
      exact kk H locs ls hP hS (lv_sub hl [2, 3, 4, 5, 6] rfl)
    · rw [if_pos c_8] at hf
      refine lv_aload_n hx hb dL_law_336 rfl (lv_at hl 5 rfl) ?_
      refine lv_iconst (v := 0) hx hb dL_law_337 (by decide) ?_
      refine jp_lald B hP hO (jp_ok_vp (by decide)) dL_law_338 ?_
      refine lv_iload hx hb dL_law_339 (lv_at hl 0 rfl) ?_
      refine lv_if_eq (tgt := 348) hx hb dL_law_341 (by decide) (fun c_9 => ?_) (fun c_9 => ?_)
      · rw [if_pos c_9] at hf
        refine lv_lconst (v := 0) hx hb dL_law_348 (by decide) ?_
        refine W.lcmp hx hb dL_law_349 ?_
        refine lv_if_eq (tgt := 355) hx hb dL_law_350 (by decide) (fun c_10 => ?_) (fun c_10 => ?_)
        · rw [if_pos c_10] at hf
          refine lv_goto (tgt := 884) hx hb dL_law_355 (by decide) ?_
          obtain ⟨rfl, rfl⟩ := jp_injK hf
          exact kk H locs ls hP hS (lv_sub hl [2, 3, 4, 5, 6] rfl)
        · rw [if_neg c_10] at hf
          cases hf
      · rw [if_neg c_9] at hf
        refine lv_lconst (v := 1) hx hb dL_law_344 (by decide) ?_
        refine lv_goto (tgt := 349) hx hb dL_law_345 (by decide) ?_
        refine W.lcmp hx hb dL_law_349 ?_
        refine lv_if_eq (tgt := 355) hx hb dL_law_350 (by decide) (fun c_11 => ?_) (fun c_11 => ?_)
        · rw [if_pos c_11] at hf
          refine lv_goto (tgt := 884) hx hb dL_law_355 (by decide) ?_
          obtain ⟨rfl, rfl⟩ := jp_injK hf
          exact kk H locs ls hP hS (lv_sub hl [2, 3, 4, 5, 6] rfl)
        · rw [if_neg c_11] at hf
          cases hf
  · rw [if_neg c_7] at hf
    cases hf
-- end
def fC_end (n : Nat) (nc : Nat) (L : Nat) (xs : Nat → Int32) (i : Int32) (σ : jp_I) (τ : jp_J) : Option (jp_I × jp_J) :=
  if jp_ok (i + 1) L = true then if jp_ok (i + 2) L = true then if jp_ok (i + 3) L = true then (fL_end n nc (xs (i + 1).toNatClampNeg) (xs (i + 2).toNatClampNeg) (xs (i + 3).toNatClampNeg) σ τ).bind fun (a_4, σ_4, τ_4) => (fX8_end (xs (i + 1).toNatClampNeg) (xs (i + 2).toNatClampNeg) (xs (i + 3).toNatClampNeg) σ_4 τ_4).bind fun (a_5, σ_5, τ_5) => (fX8_thrown σ_5 τ_5).bind fun (a_6, σ_6, τ_6) => if a_6 = a_4 then (if a_4 = 0 then (if a_5 = 0 then (if (lg_cmp (τ_6 30 (0 : Int32).toNatClampNeg) 0) = 0 then (some (σ_6, τ_6)) else (none)) else (if (lg_cmp (τ_6 30 (0 : Int32).toNatClampNeg) 1) = 0 then (some (σ_6, τ_6)) else (none))) else (some (σ_6, τ_6))) else (none) else none else none else none
set_option maxHeartbeats 4000000 in
set_option maxRecDepth 20000 in
theorem wC_end {p : Program} {l : Launch} {e : Jvm.Env} {s : State} {m : MethodId} {args : Array Value} {below : List Frame} {meth : Method} {c : Code} {Q : State → Prop} {Γ : jp_G} {Z : Nat → Option jp_Sh} {cells slots b L : Nat} {xs : Nat → Int32} {n : Nat} {nc : Nat} (B : jp_B Γ p s m args meth c RL cL_law 7 (some .boolean)) (hX0 : jp_hC Z n nc) (hM : jp_hM Z) (hO : Z 30 = some (3, 1, [])) (hst : l.stackTraces = false) (hX : va_X b L xs s s.heap) (hbl : b < s.heap.size) (hbA : ¬ jp_A Γ b) (hc0 : cells + 3 ≤ room_1.cells) (hs0 : slots + 18 ≤ room_1.slots) {i : Int32} {σ σ' : jp_I} {τ τ' : jp_J} (hf : fC_end n nc L xs i σ τ = some (σ', τ'))
    (kk : jp_atc p l e room_1 s m args below meth c Q 7 Γ Z (cells + 3) (slots + 18) 884 [(0, .ref b), (1, .ref (Γ.2.2.1 0)), (2, .ref (Γ.2.2.1 20)), (3, .ref (Γ.2.2.1 30)), (4, .int i)] [] σ' τ') : jp_atc p l e room_1 s m args below meth c Q 7 Γ Z cells slots 358 [(0, .ref b), (1, .ref (Γ.2.2.1 0)), (2, .ref (Γ.2.2.1 20)), (3, .ref (Γ.2.2.1 30)), (4, .int i)] [] σ τ := by
  obtain ⟨hx, hb, hml, hown, hts, hr, hlk, hE⟩ := id B
  unfold fC_end at hf
  intro H locs ls hP hS hl
  refine lv_aload_n hx hb dL_law_358 rfl (lv_at hl 1 rfl) ?_
  refine lv_aload_n hx hb dL_law_359 rfl (lv_at hl 0 rfl) ?_
  refine lv_iload hx hb dL_law_360 (lv_at hl 4 rfl) ?_
  refine lv_iconst (v := 1) hx hb dL_law_362 (by decide) ?_
  refine lv_iadd hx hb dL_law_363 ?_
  obtain ⟨g_1, hf⟩ := jp_if hf
  refine jq_sld B hX hbl hbA hS (jp_ok_vp g_1) dL_law_364 ?_
  refine lv_aload_n hx hb dL_law_365 rfl (lv_at hl 0 rfl) ?_
  refine lv_iload hx hb dL_law_366 (lv_at hl 4 rfl) ?_
  refine lv_iconst (v := 2) hx hb dL_law_368 (by decide) ?_
  refine lv_iadd hx hb dL_law_369 ?_
  obtain ⟨g_2, hf⟩ := jp_if hf
  refine jq_sld B hX hbl hbA hS (jp_ok_vp g_2) dL_law_370 ?_
  refine lv_aload_n hx hb dL_law_371 rfl (lv_at hl 0 rfl) ?_
  refine lv_iload hx hb dL_law_372 (lv_at hl 4 rfl) ?_
  refine lv_iconst (v := 3) hx hb dL_law_374 (by decide) ?_
  refine lv_iadd hx hb dL_law_375 ?_
  obtain ⟨g_3, hf⟩ := jp_if hf
  refine jq_sld B hX hbl hbA hS (jp_ok_vp g_3) dL_law_376 ?_
  refine lv_aload_n hx hb dL_law_377 rfl (lv_at hl 3 rfl) ?_
  obtain ⟨⟨a_4, σ_4, τ_4⟩, h_4, hf⟩ := jp_bind hf
  dsimp only at hf
  refine jq_callW (cx := 3) (sx := 18) (rest := []) B hP hS hl (ctL_end hX0 hO hst h_4) mw_236 mw_234 mw_235 mw_9 ddL_end ⟨Nat.le_of_ble_eq_true rfl, Nat.le_of_ble_eq_true rfl⟩ (Nat.le_of_ble_eq_true rfl) (Nat.le_of_ble_eq_true rfl) ⟨hc0, hs0⟩ rfl (Nat.le_of_ble_eq_true rfl) dL_law_378 (fun H locs hP hS => ?_)
  refine lv_istore (lv' := [(5, .int a_4), (0, .ref b), (1, .ref (Γ.2.2.1 0)), (2, .ref (Γ.2.2.1 20)), (3, .ref (Γ.2.2.1 30)), (4, .int i)]) hx hb dL_law_381 hl (by decide) rfl (fun ls hl => ?_)
  refine lv_aload_n hx hb dL_law_383 rfl (lv_at hl 3 rfl) ?_
  refine lv_aload_n hx hb dL_law_384 rfl (lv_at hl 1 rfl) ?_
  refine lv_iload hx hb dL_law_385 (lv_at hl 5 rfl) ?_
  refine lv_iconst (v := 1) hx hb dL_law_387 (by decide) ?_
  refine lv_iadd hx hb dL_law_388 ?_
  refine jq_sld B hX hbl hbA hS (jp_ok_vp g_1) dL_law_389 ?_
  refine lv_aload_n hx hb dL_law_390 rfl (lv_at hl 1 rfl) ?_
  refine lv_iload hx hb dL_law_391 (lv_at hl 5 rfl) ?_
  refine lv_iconst (v := 2) hx hb dL_law_393 (by decide) ?_
  refine lv_iadd hx hb dL_law_394 ?_
  refine jq_sld B hX hbl hbA hS (jp_ok_vp g_2) dL_law_395 ?_
  refine lv_aload_n hx hb dL_law_396 rfl (lv_at hl 1 rfl) ?_
  refine lv_iload hx hb dL_law_397 (lv_at hl 5 rfl) ?_
  refine lv_iconst (v := 3) hx hb dL_law_399 (by decide) ?_
  refine lv_iadd hx hb dL_law_400 ?_
  refine jq_sld B hX hbl hbA hS (jp_ok_vp g_3) dL_law_401 ?_
  obtain ⟨⟨a_5, σ_5, τ_5⟩, h_5, hf⟩ := jp_bind hf
  dsimp only at hf
  refine jp_callV (rest := []) B hP hS hl (ctX8_end hM h_5) hM.1 rfl mw_244 mw_241 mw_242 mw_243 mw_5 ddX8_end ⟨Nat.le_of_ble_eq_true rfl, Nat.le_of_ble_eq_true rfl⟩ ⟨hc0, hs0⟩ rfl (Nat.le_of_ble_eq_true rfl) dL_law_402 (fun H locs hP hS => ?_)
  refine lv_istore (lv' := [(6, .int a_5), (5, .int a_4), (0, .ref b), (1, .ref (Γ.2.2.1 0)), (2, .ref (Γ.2.2.1 20)), (3, .ref (Γ.2.2.1 30)), (4, .int i)]) hx hb dL_law_405 hl (by decide) rfl (fun ls hl => ?_)
  refine lv_aload_n hx hb dL_law_407 rfl (lv_at hl 4 rfl) ?_
  obtain ⟨⟨a_6, σ_6, τ_6⟩, h_6, hf⟩ := jp_bind hf
  dsimp only at hf
  refine jp_callV (rest := []) B hP hS hl (ctX8_thrown hM h_6) hM.1 rfl mw_177 mw_174 mw_175 mw_176 mw_5 ddX8_thrown ⟨Nat.le_of_ble_eq_true rfl, Nat.le_of_ble_eq_true rfl⟩ ⟨hc0, hs0⟩ rfl (Nat.le_of_ble_eq_true rfl) dL_law_408 (fun H locs hP hS => ?_)
  refine lv_iload hx hb dL_law_411 (lv_at hl 1 rfl) ?_
  refine lv_icmp_eq (tgt := 418) hx hb dL_law_413 (by decide) (fun c_7 => ?_) (fun c_7 => ?_)
  · rw [if_pos c_7] at hf
    refine lv_iload hx hb dL_law_418 (lv_at hl 1 rfl) ?_
    refine lv_if_ne (tgt := 442) hx hb dL_law_420 (by decide) (fun c_8 => ?_) (fun c_8 => ?_)
    · rw [if_neg c_8] at hf
      refine lv_goto (tgt := 884) hx hb dL_law_442 (by decide) ?_
      obtain ⟨rfl, rfl⟩ := jp_injK hf
      exact kk H locs ls hP hS (lv_sub hl [2, 3, 4, 5, 6] rfl)
    · rw [if_pos c_8] at hf
      refine lv_aload_n hx hb dL_law_423 rfl (lv_at hl 5 rfl) ?_
      refine lv_iconst (v := 0) hx hb dL_law_424 (by decide) ?_
      refine jp_lald B hP hO (jp_ok_vp (by decide)) dL_law_425 ?_
      refine lv_iload hx hb dL_law_426 (lv_at hl 0 rfl) ?_
      refine lv_if_eq (tgt := 435) hx hb dL_law_428 (by decide) (fun c_9 => ?_) (fun c_9 => ?_)
      · rw [if_pos c_9] at hf
        refine lv_lconst (v := 0) hx hb dL_law_435 (by decide) ?_
        refine W.lcmp hx hb dL_law_436 ?_
        refine lv_if_eq (tgt := 442) hx hb dL_law_437 (by decide) (fun c_10 => ?_) (fun c_10 => ?_)
        · rw [if_pos c_10] at hf
          refine lv_goto (tgt := 884) hx hb dL_law_442 (by decide) ?_
          obtain ⟨rfl, rfl⟩ := jp_injK hf
          exact kk H locs ls hP hS (lv_sub hl [2, 3, 4, 5, 6] rfl)
        · rw [if_neg c_10] at hf
          cases hf
      · rw [if_neg c_9] at hf
        refine lv_lconst (v := 1) hx hb dL_law_431 (by decide) ?_
        refine lv_goto (tgt := 436) hx hb dL_law_432 (by decide) ?_
        refine W.lcmp hx hb dL_law_436 ?_
        refine lv_if_eq (tgt := 442) hx hb dL_law_437 (by decide) (fun c_11 => ?_) (fun c_11 => ?_)
        · rw [if_pos c_11] at hf
          refine lv_goto (tgt := 884) hx hb dL_law_442 (by decide) ?_
          obtain ⟨rfl, rfl⟩ := jp_injK hf
          exact kk H locs ls hP hS (lv_sub hl [2, 3, 4, 5, 6] rfl)
        · rw [if_neg c_11] at hf
          cases hf
  · rw [if_neg c_7] at hf
    cases hf
-- swap
def fC_swap (n : Nat) (nc : Nat) (L : Nat) (xs : Nat → Int32) (i : Int32) (σ : jp_I) (τ : jp_J) : Option (jp_I × jp_J) :=
  if jp_ok (i + 1) L = true then if (xs (i + 1).toNatClampNeg) = 0 then ((fX7_swap n nc 0 σ τ).bind fun (a_3, σ_3, τ_3) => (fX8_swap 0 σ_3 τ_3).bind fun (a_5, σ_5, τ_5) => if a_3 = a_5 then (some (σ_5, τ_5)) else (none)) else ((fX7_swap n nc 1 σ τ).bind fun (a_7, σ_7, τ_7) => (fX8_swap 1 σ_7 τ_7).bind fun (a_9, σ_9, τ_9) => if a_7 = a_9 then (some (σ_9, τ_9)) else (none)) else none
set_option maxHeartbeats 4000000 in
set_option maxRecDepth 20000 in
theorem wC_swap {p : Program} {l : Launch} {e : Jvm.Env} {s : State} {m : MethodId} {args : Array Value} {below : List Frame} {meth : Method} {c : Code} {Q : State → Prop} {Γ : jp_G} {Z : Nat → Option jp_Sh} {cells slots b L : Nat} {xs : Nat → Int32} {n : Nat} {nc : Nat} (B : jp_B Γ p s m args meth c RL cL_law 7 (some .boolean)) (hX0 : jp_hC Z n nc) (hM : jp_hM Z) (hO : Z 30 = some (3, 1, [])) (hst : l.stackTraces = false) (hX : va_X b L xs s s.heap) (hbl : b < s.heap.size) (hbA : ¬ jp_A Γ b) (hc0 : cells + 3 ≤ room_1.cells) (hs0 : slots + 18 ≤ room_1.slots) {i : Int32} {σ σ' : jp_I} {τ τ' : jp_J} (hf : fC_swap n nc L xs i σ τ = some (σ', τ'))
    (kk : jp_atc p l e room_1 s m args below meth c Q 7 Γ Z (cells + 3) (slots + 18) 884 [(0, .ref b), (1, .ref (Γ.2.2.1 0)), (2, .ref (Γ.2.2.1 20)), (3, .ref (Γ.2.2.1 30)), (4, .int i)] [] σ' τ') : jp_atc p l e room_1 s m args below meth c Q 7 Γ Z cells slots 445 [(0, .ref b), (1, .ref (Γ.2.2.1 0)), (2, .ref (Γ.2.2.1 20)), (3, .ref (Γ.2.2.1 30)), (4, .int i)] [] σ τ := by
  obtain ⟨hx, hb, hml, hown, hts, hr, hlk, hE⟩ := id B
  unfold fC_swap at hf
  intro H locs ls hP hS hl
  refine lv_aload_n hx hb dL_law_445 rfl (lv_at hl 1 rfl) ?_
  refine lv_aload_n hx hb dL_law_446 rfl (lv_at hl 0 rfl) ?_
  refine lv_iload hx hb dL_law_447 (lv_at hl 4 rfl) ?_
  refine lv_iconst (v := 1) hx hb dL_law_449 (by decide) ?_
  refine lv_iadd hx hb dL_law_450 ?_
  obtain ⟨g_1, hf⟩ := jp_if hf
  refine jq_sld B hX hbl hbA hS (jp_ok_vp g_1) dL_law_451 ?_
  refine lv_if_eq (tgt := 459) hx hb dL_law_452 (by decide) (fun c_2 => ?_) (fun c_2 => ?_)
  · rw [if_pos c_2] at hf
    refine lv_iconst (v := 0) hx hb dL_law_459 (by decide) ?_
    obtain ⟨⟨a_3, σ_3, τ_3⟩, h_3, hf⟩ := jp_bind hf
    dsimp only at hf
    refine jp_callV (rest := []) B hP hS hl (ctX7_swap hX0 h_3) hX0.1 rfl mw_248 mw_245 mw_246 mw_247 mw_2 ddX7_swap ⟨Nat.le_of_ble_eq_true rfl, Nat.le_of_ble_eq_true rfl⟩ ⟨Nat.le_trans (Nat.le_add_right _ _) hc0, Nat.le_trans (Nat.le_add_right _ _) hs0⟩ rfl (Nat.le_of_ble_eq_true rfl) dL_law_460 (fun H locs hP hS => ?_)
    refine lv_aload_n hx hb dL_law_463 rfl (lv_at hl 2 rfl) ?_
    refine lv_aload_n hx hb dL_law_464 rfl (lv_at hl 0 rfl) ?_
    refine lv_iload hx hb dL_law_465 (lv_at hl 4 rfl) ?_
    refine lv_iconst (v := 1) hx hb dL_law_467 (by decide) ?_
    refine lv_iadd hx hb dL_law_468 ?_
    refine jq_sld B hX hbl hbA hS (jp_ok_vp g_1) dL_law_469 ?_
    refine lv_if_eq (tgt := 477) hx hb dL_law_470 (by decide) (fun c_4 => ?_) (fun c_4 => ?_)
    · skip
      refine lv_iconst (v := 0) hx hb dL_law_477 (by decide) ?_
      obtain ⟨⟨a_5, σ_5, τ_5⟩, h_5, hf⟩ := jp_bind hf
      dsimp only at hf
      refine jp_callV (rest := [.int a_3]) B hP hS hl (ctX8_swap hM h_5) hM.1 rfl mw_252 mw_249 mw_250 mw_251 mw_5 ddX8_swap ⟨Nat.le_of_ble_eq_true rfl, Nat.le_of_ble_eq_true rfl⟩ ⟨Nat.le_trans (Nat.le_add_right _ _) hc0, Nat.le_trans (Nat.le_add_right _ _) hs0⟩ rfl (Nat.le_of_ble_eq_true rfl) dL_law_478 (fun H locs hP hS => ?_)
      refine lv_icmp_eq (tgt := 884) hx hb dL_law_481 (by decide) (fun c_6 => ?_) (fun c_6 => ?_)
      · rw [if_pos c_6] at hf
        obtain ⟨rfl, rfl⟩ := jp_injK hf
        refine W.widen (Nat.le_add_right cells 3) (Nat.le_add_right slots 18) ?_
        exact kk H locs ls hP hS (lv_sub hl [0, 1, 2, 3, 4] rfl)
      · rw [if_neg c_6] at hf
        cases hf
    · exact absurd c_2 c_4
  · rw [if_neg c_2] at hf
    refine lv_iconst (v := 1) hx hb dL_law_455 (by decide) ?_
    refine lv_goto (tgt := 460) hx hb dL_law_456 (by decide) ?_
    obtain ⟨⟨a_7, σ_7, τ_7⟩, h_7, hf⟩ := jp_bind hf
    dsimp only at hf
    refine jp_callV (rest := []) B hP hS hl (ctX7_swap hX0 h_7) hX0.1 rfl mw_248 mw_245 mw_246 mw_247 mw_2 ddX7_swap ⟨Nat.le_of_ble_eq_true rfl, Nat.le_of_ble_eq_true rfl⟩ ⟨Nat.le_trans (Nat.le_add_right _ _) hc0, Nat.le_trans (Nat.le_add_right _ _) hs0⟩ rfl (Nat.le_of_ble_eq_true rfl) dL_law_460 (fun H locs hP hS => ?_)
    refine lv_aload_n hx hb dL_law_463 rfl (lv_at hl 2 rfl) ?_
    refine lv_aload_n hx hb dL_law_464 rfl (lv_at hl 0 rfl) ?_
    refine lv_iload hx hb dL_law_465 (lv_at hl 4 rfl) ?_
    refine lv_iconst (v := 1) hx hb dL_law_467 (by decide) ?_
    refine lv_iadd hx hb dL_law_468 ?_
    refine jq_sld B hX hbl hbA hS (jp_ok_vp g_1) dL_law_469 ?_
    refine lv_if_eq (tgt := 477) hx hb dL_law_470 (by decide) (fun c_8 => ?_) (fun c_8 => ?_)
    · exact absurd c_8 c_2
    · skip
      refine lv_iconst (v := 1) hx hb dL_law_473 (by decide) ?_
      refine lv_goto (tgt := 478) hx hb dL_law_474 (by decide) ?_
      obtain ⟨⟨a_9, σ_9, τ_9⟩, h_9, hf⟩ := jp_bind hf
      dsimp only at hf
      refine jp_callV (rest := [.int a_7]) B hP hS hl (ctX8_swap hM h_9) hM.1 rfl mw_252 mw_249 mw_250 mw_251 mw_5 ddX8_swap ⟨Nat.le_of_ble_eq_true rfl, Nat.le_of_ble_eq_true rfl⟩ ⟨Nat.le_trans (Nat.le_add_right _ _) hc0, Nat.le_trans (Nat.le_add_right _ _) hs0⟩ rfl (Nat.le_of_ble_eq_true rfl) dL_law_478 (fun H locs hP hS => ?_)
      refine lv_icmp_eq (tgt := 884) hx hb dL_law_481 (by decide) (fun c_10 => ?_) (fun c_10 => ?_)
      · rw [if_pos c_10] at hf
        obtain ⟨rfl, rfl⟩ := jp_injK hf
        refine W.widen (Nat.le_add_right cells 3) (Nat.le_add_right slots 18) ?_
        exact kk H locs ls hP hS (lv_sub hl [0, 1, 2, 3, 4] rfl)
      · rw [if_neg c_10] at hf
        cases hf
-- seed
def fC_seed (n : Nat) (nc : Nat) (L : Nat) (xs : Nat → Int32) (i : Int32) (σ : jp_I) (τ : jp_J) : Option (jp_I × jp_J) :=
  if jp_ok (i + 1) L = true then (fL_seed n nc (xs (i + 1).toNatClampNeg) σ τ).bind fun (a_2, σ_2, τ_2) => (fX8_seed (xs (i + 1).toNatClampNeg) σ_2 τ_2).bind fun (a_3, σ_3, τ_3) => (fX8_thrown σ_3 τ_3).bind fun (a_4, σ_4, τ_4) => if a_4 = a_2 then (some (σ_4, τ_4)) else (none) else none
set_option maxHeartbeats 4000000 in
set_option maxRecDepth 20000 in
theorem wC_seed {p : Program} {l : Launch} {e : Jvm.Env} {s : State} {m : MethodId} {args : Array Value} {below : List Frame} {meth : Method} {c : Code} {Q : State → Prop} {Γ : jp_G} {Z : Nat → Option jp_Sh} {cells slots b L : Nat} {xs : Nat → Int32} {n : Nat} {nc : Nat} (B : jp_B Γ p s m args meth c RL cL_law 7 (some .boolean)) (hX0 : jp_hC Z n nc) (hM : jp_hM Z) (hO : Z 30 = some (3, 1, [])) (hst : l.stackTraces = false) (hX : va_X b L xs s s.heap) (hbl : b < s.heap.size) (hbA : ¬ jp_A Γ b) (hc0 : cells + 3 ≤ room_1.cells) (hs0 : slots + 18 ≤ room_1.slots) {i : Int32} {σ σ' : jp_I} {τ τ' : jp_J} (hf : fC_seed n nc L xs i σ τ = some (σ', τ'))
    (kk : jp_atc p l e room_1 s m args below meth c Q 7 Γ Z (cells + 3) (slots + 18) 884 [(0, .ref b), (1, .ref (Γ.2.2.1 0)), (2, .ref (Γ.2.2.1 20)), (3, .ref (Γ.2.2.1 30)), (4, .int i)] [] σ' τ') : jp_atc p l e room_1 s m args below meth c Q 7 Γ Z cells slots 486 [(0, .ref b), (1, .ref (Γ.2.2.1 0)), (2, .ref (Γ.2.2.1 20)), (3, .ref (Γ.2.2.1 30)), (4, .int i)] [] σ τ := by
  obtain ⟨hx, hb, hml, hown, hts, hr, hlk, hE⟩ := id B
  unfold fC_seed at hf
  intro H locs ls hP hS hl
  refine lv_aload_n hx hb dL_law_486 rfl (lv_at hl 1 rfl) ?_
  refine lv_aload_n hx hb dL_law_487 rfl (lv_at hl 0 rfl) ?_
  refine lv_iload hx hb dL_law_488 (lv_at hl 4 rfl) ?_
  refine lv_iconst (v := 1) hx hb dL_law_490 (by decide) ?_
  refine lv_iadd hx hb dL_law_491 ?_
  obtain ⟨g_1, hf⟩ := jp_if hf
  refine jq_sld B hX hbl hbA hS (jp_ok_vp g_1) dL_law_492 ?_
  obtain ⟨⟨a_2, σ_2, τ_2⟩, h_2, hf⟩ := jp_bind hf
  dsimp only at hf
  refine jq_callW (cx := 3) (sx := 18) (rest := []) B hP hS hl (ctL_seed hX0 hst h_2) mw_255 mw_253 mw_254 mw_9 ddL_seed ⟨Nat.le_of_ble_eq_true rfl, Nat.le_of_ble_eq_true rfl⟩ (Nat.le_of_ble_eq_true rfl) (Nat.le_of_ble_eq_true rfl) ⟨hc0, hs0⟩ rfl (Nat.le_of_ble_eq_true rfl) dL_law_493 (fun H locs hP hS => ?_)
  refine lv_istore (lv' := [(5, .int a_2), (0, .ref b), (1, .ref (Γ.2.2.1 0)), (2, .ref (Γ.2.2.1 20)), (3, .ref (Γ.2.2.1 30)), (4, .int i)]) hx hb dL_law_496 hl (by decide) rfl (fun ls hl => ?_)
  refine lv_aload_n hx hb dL_law_498 rfl (lv_at hl 3 rfl) ?_
  refine lv_aload_n hx hb dL_law_499 rfl (lv_at hl 1 rfl) ?_
  refine lv_iload hx hb dL_law_500 (lv_at hl 5 rfl) ?_
  refine lv_iconst (v := 1) hx hb dL_law_502 (by decide) ?_
  refine lv_iadd hx hb dL_law_503 ?_
  refine jq_sld B hX hbl hbA hS (jp_ok_vp g_1) dL_law_504 ?_
  obtain ⟨⟨a_3, σ_3, τ_3⟩, h_3, hf⟩ := jp_bind hf
  dsimp only at hf
  refine jp_callV (rest := []) B hP hS hl (ctX8_seed hM h_3) hM.1 rfl mw_263 mw_260 mw_261 mw_262 mw_5 ddX8_seed ⟨Nat.le_of_ble_eq_true rfl, Nat.le_of_ble_eq_true rfl⟩ ⟨hc0, hs0⟩ rfl (Nat.le_of_ble_eq_true rfl) dL_law_505 (fun H locs hP hS => ?_)
  refine lv_aload_n hx hb dL_law_508 rfl (lv_at hl 3 rfl) ?_
  obtain ⟨⟨a_4, σ_4, τ_4⟩, h_4, hf⟩ := jp_bind hf
  dsimp only at hf
  refine jp_callV (rest := []) B hP hS hl (ctX8_thrown hM h_4) hM.1 rfl mw_177 mw_174 mw_175 mw_176 mw_5 ddX8_thrown ⟨Nat.le_of_ble_eq_true rfl, Nat.le_of_ble_eq_true rfl⟩ ⟨hc0, hs0⟩ rfl (Nat.le_of_ble_eq_true rfl) dL_law_509 (fun H locs hP hS => ?_)
  refine lv_iload hx hb dL_law_512 (lv_at hl 0 rfl) ?_
  refine lv_icmp_eq (tgt := 519) hx hb dL_law_514 (by decide) (fun c_5 => ?_) (fun c_5 => ?_)
  · rw [if_pos c_5] at hf
    refine lv_goto (tgt := 884) hx hb dL_law_519 (by decide) ?_
    obtain ⟨rfl, rfl⟩ := jp_injK hf
    exact kk H locs ls hP hS (lv_sub hl [1, 2, 3, 4, 5] rfl)
  · rw [if_neg c_5] at hf
    cases hf
-- solve
def fC_solveJ (n : Nat) (nc : Nat) (nl : Nat) (L : Nat) (xs : Nat → Int32) (i : Int32) (σ : jp_I) (τ : jp_J) : Option (jp_I × jp_J) :=
  if jp_ok (i + 1) L = true then (fL_solveJ n nc nl (xs (i + 1).toNatClampNeg) σ τ).bind fun (a_2, σ_2, τ_2) => (fX8_solve (xs (i + 1).toNatClampNeg) σ_2 τ_2).bind fun (a_3, σ_3, τ_3) => (fX8_thrown σ_3 τ_3).bind fun (a_4, σ_4, τ_4) => if a_4 = a_2 then (if a_2 = 0 then (if (lg_cmp (τ_4 30 (0 : Int32).toNatClampNeg) a_3.toInt64) = 0 then (some (σ_4, τ_4)) else (none)) else (some (σ_4, τ_4))) else (none) else none
set_option maxHeartbeats 4000000 in
set_option maxRecDepth 20000 in
theorem wC_solveJ {p : Program} {l : Launch} {e : Jvm.Env} {s : State} {m : MethodId} {args : Array Value} {below : List Frame} {meth : Method} {c : Code} {Q : State → Prop} {Γ : jp_G} {Z : Nat → Option jp_Sh} {cells slots b L : Nat} {xs : Nat → Int32} {n : Nat} {nc : Nat} {nl : Nat} (B : jp_B Γ p s m args meth c RL cL_law 7 (some .boolean)) (hX0 : jp_hC Z n nc) (hX1 : jp_hJ Z n nc nl) (hM : jp_hM Z) (hO : Z 30 = some (3, 1, [])) (hst : l.stackTraces = false) (hX : va_X b L xs s s.heap) (hbl : b < s.heap.size) (hbA : ¬ jp_A Γ b) (hc0 : cells + 3 ≤ room_1.cells) (hs0 : slots + 18 ≤ room_1.slots) {i : Int32} {σ σ' : jp_I} {τ τ' : jp_J} (hf : fC_solveJ n nc nl L xs i σ τ = some (σ', τ'))
    (kk : jp_atc p l e room_1 s m args below meth c Q 7 Γ Z (cells + 3) (slots + 18) 884 [(0, .ref b), (1, .ref (Γ.2.2.1 0)), (2, .ref (Γ.2.2.1 20)), (3, .ref (Γ.2.2.1 30)), (4, .int i)] [] σ' τ') : jp_atc p l e room_1 s m args below meth c Q 7 Γ Z cells slots 522 [(0, .ref b), (1, .ref (Γ.2.2.1 0)), (2, .ref (Γ.2.2.1 20)), (3, .ref (Γ.2.2.1 30)), (4, .int i)] [] σ τ := by
  obtain ⟨hx, hb, hml, hown, hts, hr, hlk, hE⟩ := id B
  unfold fC_solveJ at hf
  intro H locs ls hP hS hl
  refine lv_aload_n hx hb dL_law_522 rfl (lv_at hl 1 rfl) ?_
  refine lv_aload_n hx hb dL_law_523 rfl (lv_at hl 0 rfl) ?_
  refine lv_iload hx hb dL_law_524 (lv_at hl 4 rfl) ?_
  refine lv_iconst (v := 1) hx hb dL_law_526 (by decide) ?_
  refine lv_iadd hx hb dL_law_527 ?_
  obtain ⟨g_1, hf⟩ := jp_if hf
  refine jq_sld B hX hbl hbA hS (jp_ok_vp g_1) dL_law_528 ?_
  refine lv_aload_n hx hb dL_law_529 rfl (lv_at hl 3 rfl) ?_
  obtain ⟨⟨a_2, σ_2, τ_2⟩, h_2, hf⟩ := jp_bind hf
  dsimp only at hf
  refine jq_callW (cx := 3) (sx := 18) (rest := []) B hP hS hl (ctL_solveJ hX0 hX1 hO hst h_2) mw_266 mw_264 mw_265 mw_9 ddL_solve ⟨Nat.le_of_ble_eq_true rfl, Nat.le_of_ble_eq_true rfl⟩ (Nat.le_of_ble_eq_true rfl) (Nat.le_of_ble_eq_true rfl) ⟨hc0, hs0⟩ rfl (Nat.le_of_ble_eq_true rfl) dL_law_530 (fun H locs hP hS => ?_)
  refine lv_istore (lv' := [(5, .int a_2), (0, .ref b), (1, .ref (Γ.2.2.1 0)), (2, .ref (Γ.2.2.1 20)), (3, .ref (Γ.2.2.1 30)), (4, .int i)]) hx hb dL_law_533 hl (by decide) rfl (fun ls hl => ?_)
  refine lv_aload_n hx hb dL_law_535 rfl (lv_at hl 3 rfl) ?_
  refine lv_aload_n hx hb dL_law_536 rfl (lv_at hl 1 rfl) ?_
  refine lv_iload hx hb dL_law_537 (lv_at hl 5 rfl) ?_
  refine lv_iconst (v := 1) hx hb dL_law_539 (by decide) ?_
  refine lv_iadd hx hb dL_law_540 ?_
  refine jq_sld B hX hbl hbA hS (jp_ok_vp g_1) dL_law_541 ?_
  obtain ⟨⟨a_3, σ_3, τ_3⟩, h_3, hf⟩ := jp_bind hf
  dsimp only at hf
  refine jp_callV (rest := []) B hP hS hl (ctX8_solve hM h_3) hM.1 rfl mw_405 mw_402 mw_403 mw_404 mw_5 ddX8_solve ⟨Nat.le_of_ble_eq_true rfl, Nat.le_of_ble_eq_true rfl⟩ ⟨hc0, hs0⟩ rfl (Nat.le_of_ble_eq_true rfl) dL_law_542 (fun H locs hP hS => ?_)
  refine lv_istore (lv' := [(6, .int a_3), (5, .int a_2), (0, .ref b), (1, .ref (Γ.2.2.1 0)), (2, .ref (Γ.2.2.1 20)), (3, .ref (Γ.2.2.1 30)), (4, .int i)]) hx hb dL_law_545 hl (by decide) rfl (fun ls hl => ?_)
  refine lv_aload_n hx hb dL_law_547 rfl (lv_at hl 4 rfl) ?_
  obtain ⟨⟨a_4, σ_4, τ_4⟩, h_4, hf⟩ := jp_bind hf
  dsimp only at hf
  refine jp_callV (rest := []) B hP hS hl (ctX8_thrown hM h_4) hM.1 rfl mw_177 mw_174 mw_175 mw_176 mw_5 ddX8_thrown ⟨Nat.le_of_ble_eq_true rfl, Nat.le_of_ble_eq_true rfl⟩ ⟨hc0, hs0⟩ rfl (Nat.le_of_ble_eq_true rfl) dL_law_548 (fun H locs hP hS => ?_)
  refine lv_iload hx hb dL_law_551 (lv_at hl 1 rfl) ?_
  refine lv_icmp_eq (tgt := 558) hx hb dL_law_553 (by decide) (fun c_5 => ?_) (fun c_5 => ?_)
  · rw [if_pos c_5] at hf
    refine lv_iload hx hb dL_law_558 (lv_at hl 1 rfl) ?_
    refine lv_if_ne (tgt := 575) hx hb dL_law_560 (by decide) (fun c_6 => ?_) (fun c_6 => ?_)
    · rw [if_neg c_6] at hf
      refine lv_goto (tgt := 884) hx hb dL_law_575 (by decide) ?_
      obtain ⟨rfl, rfl⟩ := jp_injK hf
      exact kk H locs ls hP hS (lv_sub hl [2, 3, 4, 5, 6] rfl)
    · rw [if_pos c_6] at hf
      refine lv_aload_n hx hb dL_law_563 rfl (lv_at hl 5 rfl) ?_
      refine lv_iconst (v := 0) hx hb dL_law_564 (by decide) ?_
      refine jp_lald B hP hO (jp_ok_vp (by decide)) dL_law_565 ?_
      refine lv_iload hx hb dL_law_566 (lv_at hl 0 rfl) ?_
      refine lv_i2l hx hb dL_law_568 rfl ?_
      refine W.lcmp hx hb dL_law_569 ?_
      refine lv_if_eq (tgt := 575) hx hb dL_law_570 (by decide) (fun c_7 => ?_) (fun c_7 => ?_)
      · rw [if_pos c_7] at hf
        refine lv_goto (tgt := 884) hx hb dL_law_575 (by decide) ?_
        obtain ⟨rfl, rfl⟩ := jp_injK hf
        exact kk H locs ls hP hS (lv_sub hl [2, 3, 4, 5, 6] rfl)
      · rw [if_neg c_7] at hf
        cases hf
  · rw [if_neg c_5] at hf
    cases hf
def fC_solveP (n : Nat) (nc : Nat) (L : Nat) (xs : Nat → Int32) (i : Int32) (σ : jp_I) (τ : jp_J) : Option (jp_I × jp_J) :=
  if jp_ok (i + 1) L = true then (fL_solveP n nc (xs (i + 1).toNatClampNeg) σ τ).bind fun (a_2, σ_2, τ_2) => (fX8_solve (xs (i + 1).toNatClampNeg) σ_2 τ_2).bind fun (a_3, σ_3, τ_3) => (fX8_thrown σ_3 τ_3).bind fun (a_4, σ_4, τ_4) => if a_4 = a_2 then (if a_2 = 0 then (if (lg_cmp (τ_4 30 (0 : Int32).toNatClampNeg) a_3.toInt64) = 0 then (some (σ_4, τ_4)) else (none)) else (some (σ_4, τ_4))) else (none) else none
set_option maxHeartbeats 4000000 in
set_option maxRecDepth 20000 in
theorem wC_solveP {p : Program} {l : Launch} {e : Jvm.Env} {s : State} {m : MethodId} {args : Array Value} {below : List Frame} {meth : Method} {c : Code} {Q : State → Prop} {Γ : jp_G} {Z : Nat → Option jp_Sh} {cells slots b L : Nat} {xs : Nat → Int32} {n : Nat} {nc : Nat} (B : jp_B Γ p s m args meth c RL cL_law 7 (some .boolean)) (hX0 : jp_hC Z n nc) (hX1 : jp_hP Z n nc) (hM : jp_hM Z) (hO : Z 30 = some (3, 1, [])) (hst : l.stackTraces = false) (hX : va_X b L xs s s.heap) (hbl : b < s.heap.size) (hbA : ¬ jp_A Γ b) (hc0 : cells + 3 ≤ room_1.cells) (hs0 : slots + 18 ≤ room_1.slots) {i : Int32} {σ σ' : jp_I} {τ τ' : jp_J} (hf : fC_solveP n nc L xs i σ τ = some (σ', τ'))
    (kk : jp_atc p l e room_1 s m args below meth c Q 7 Γ Z (cells + 3) (slots + 18) 884 [(0, .ref b), (1, .ref (Γ.2.2.1 0)), (2, .ref (Γ.2.2.1 20)), (3, .ref (Γ.2.2.1 30)), (4, .int i)] [] σ' τ') : jp_atc p l e room_1 s m args below meth c Q 7 Γ Z cells slots 522 [(0, .ref b), (1, .ref (Γ.2.2.1 0)), (2, .ref (Γ.2.2.1 20)), (3, .ref (Γ.2.2.1 30)), (4, .int i)] [] σ τ := by
  obtain ⟨hx, hb, hml, hown, hts, hr, hlk, hE⟩ := id B
  unfold fC_solveP at hf
  intro H locs ls hP hS hl
  refine lv_aload_n hx hb dL_law_522 rfl (lv_at hl 1 rfl) ?_
  refine lv_aload_n hx hb dL_law_523 rfl (lv_at hl 0 rfl) ?_
  refine lv_iload hx hb dL_law_524 (lv_at hl 4 rfl) ?_
  refine lv_iconst (v := 1) hx hb dL_law_526 (by decide) ?_
  refine lv_iadd hx hb dL_law_527 ?_
  obtain ⟨g_1, hf⟩ := jp_if hf
  refine jq_sld B hX hbl hbA hS (jp_ok_vp g_1) dL_law_528 ?_
  refine lv_aload_n hx hb dL_law_529 rfl (lv_at hl 3 rfl) ?_
  obtain ⟨⟨a_2, σ_2, τ_2⟩, h_2, hf⟩ := jp_bind hf
  dsimp only at hf
  refine jq_callW (cx := 3) (sx := 18) (rest := []) B hP hS hl (ctL_solveP hX0 hX1 hO hst h_2) mw_266 mw_264 mw_265 mw_9 ddL_solve ⟨Nat.le_of_ble_eq_true rfl, Nat.le_of_ble_eq_true rfl⟩ (Nat.le_of_ble_eq_true rfl) (Nat.le_of_ble_eq_true rfl) ⟨hc0, hs0⟩ rfl (Nat.le_of_ble_eq_true rfl) dL_law_530 (fun H locs hP hS => ?_)
  refine lv_istore (lv' := [(5, .int a_2), (0, .ref b), (1, .ref (Γ.2.2.1 0)), (2, .ref (Γ.2.2.1 20)), (3, .ref (Γ.2.2.1 30)), (4, .int i)]) hx hb dL_law_533 hl (by decide) rfl (fun ls hl => ?_)
  refine lv_aload_n hx hb dL_law_535 rfl (lv_at hl 3 rfl) ?_
  refine lv_aload_n hx hb dL_law_536 rfl (lv_at hl 1 rfl) ?_
  refine lv_iload hx hb dL_law_537 (lv_at hl 5 rfl) ?_
  refine lv_iconst (v := 1) hx hb dL_law_539 (by decide) ?_
  refine lv_iadd hx hb dL_law_540 ?_
  refine jq_sld B hX hbl hbA hS (jp_ok_vp g_1) dL_law_541 ?_
  obtain ⟨⟨a_3, σ_3, τ_3⟩, h_3, hf⟩ := jp_bind hf
  dsimp only at hf
  refine jp_callV (rest := []) B hP hS hl (ctX8_solve hM h_3) hM.1 rfl mw_405 mw_402 mw_403 mw_404 mw_5 ddX8_solve ⟨Nat.le_of_ble_eq_true rfl, Nat.le_of_ble_eq_true rfl⟩ ⟨hc0, hs0⟩ rfl (Nat.le_of_ble_eq_true rfl) dL_law_542 (fun H locs hP hS => ?_)
  refine lv_istore (lv' := [(6, .int a_3), (5, .int a_2), (0, .ref b), (1, .ref (Γ.2.2.1 0)), (2, .ref (Γ.2.2.1 20)), (3, .ref (Γ.2.2.1 30)), (4, .int i)]) hx hb dL_law_545 hl (by decide) rfl (fun ls hl => ?_)
  refine lv_aload_n hx hb dL_law_547 rfl (lv_at hl 4 rfl) ?_
  obtain ⟨⟨a_4, σ_4, τ_4⟩, h_4, hf⟩ := jp_bind hf
  dsimp only at hf
  refine jp_callV (rest := []) B hP hS hl (ctX8_thrown hM h_4) hM.1 rfl mw_177 mw_174 mw_175 mw_176 mw_5 ddX8_thrown ⟨Nat.le_of_ble_eq_true rfl, Nat.le_of_ble_eq_true rfl⟩ ⟨hc0, hs0⟩ rfl (Nat.le_of_ble_eq_true rfl) dL_law_548 (fun H locs hP hS => ?_)
  refine lv_iload hx hb dL_law_551 (lv_at hl 1 rfl) ?_
  refine lv_icmp_eq (tgt := 558) hx hb dL_law_553 (by decide) (fun c_5 => ?_) (fun c_5 => ?_)
  · rw [if_pos c_5] at hf
    refine lv_iload hx hb dL_law_558 (lv_at hl 1 rfl) ?_
    refine lv_if_ne (tgt := 575) hx hb dL_law_560 (by decide) (fun c_6 => ?_) (fun c_6 => ?_)
    · rw [if_neg c_6] at hf
      refine lv_goto (tgt := 884) hx hb dL_law_575 (by decide) ?_
      obtain ⟨rfl, rfl⟩ := jp_injK hf
      exact kk H locs ls hP hS (lv_sub hl [2, 3, 4, 5, 6] rfl)
    · rw [if_pos c_6] at hf
      refine lv_aload_n hx hb dL_law_563 rfl (lv_at hl 5 rfl) ?_
      refine lv_iconst (v := 0) hx hb dL_law_564 (by decide) ?_
      refine jp_lald B hP hO (jp_ok_vp (by decide)) dL_law_565 ?_
      refine lv_iload hx hb dL_law_566 (lv_at hl 0 rfl) ?_
      refine lv_i2l hx hb dL_law_568 rfl ?_
      refine W.lcmp hx hb dL_law_569 ?_
      refine lv_if_eq (tgt := 575) hx hb dL_law_570 (by decide) (fun c_7 => ?_) (fun c_7 => ?_)
      · rw [if_pos c_7] at hf
        refine lv_goto (tgt := 884) hx hb dL_law_575 (by decide) ?_
        obtain ⟨rfl, rfl⟩ := jp_injK hf
        exact kk H locs ls hP hS (lv_sub hl [2, 3, 4, 5, 6] rfl)
      · rw [if_neg c_7] at hf
        cases hf
  · rw [if_neg c_5] at hf
    cases hf
-- exact
def fC_exact (n : Nat) (nc : Nat) (L : Nat) (xs : Nat → Int32) (i : Int32) (σ : jp_I) (τ : jp_J) : Option (jp_I × jp_J) :=
  (fX7_exact n nc σ τ).bind fun (a_1, σ_1, τ_1) => (fX8_exact σ_1 τ_1).bind fun (a_2, σ_2, τ_2) => if a_1 = a_2 then (some (σ_2, τ_2)) else (none)
set_option maxHeartbeats 4000000 in
set_option maxRecDepth 20000 in
theorem wC_exact {p : Program} {l : Launch} {e : Jvm.Env} {s : State} {m : MethodId} {args : Array Value} {below : List Frame} {meth : Method} {c : Code} {Q : State → Prop} {Γ : jp_G} {Z : Nat → Option jp_Sh} {cells slots b L : Nat} {xs : Nat → Int32} {n : Nat} {nc : Nat} (B : jp_B Γ p s m args meth c RL cL_law 7 (some .boolean)) (hX0 : jp_hC Z n nc) (hM : jp_hM Z) (hO : Z 30 = some (3, 1, [])) (hst : l.stackTraces = false) (hX : va_X b L xs s s.heap) (hbl : b < s.heap.size) (hbA : ¬ jp_A Γ b) (hc0 : cells + 3 ≤ room_1.cells) (hs0 : slots + 18 ≤ room_1.slots) {i : Int32} {σ σ' : jp_I} {τ τ' : jp_J} (hf : fC_exact n nc L xs i σ τ = some (σ', τ'))
    (kk : jp_atc p l e room_1 s m args below meth c Q 7 Γ Z (cells + 3) (slots + 18) 884 [(0, .ref b), (1, .ref (Γ.2.2.1 0)), (2, .ref (Γ.2.2.1 20)), (3, .ref (Γ.2.2.1 30)), (4, .int i)] [] σ' τ') : jp_atc p l e room_1 s m args below meth c Q 7 Γ Z cells slots 578 [(0, .ref b), (1, .ref (Γ.2.2.1 0)), (2, .ref (Γ.2.2.1 20)), (3, .ref (Γ.2.2.1 30)), (4, .int i)] [] σ τ := by
  obtain ⟨hx, hb, hml, hown, hts, hr, hlk, hE⟩ := id B
  unfold fC_exact at hf
  intro H locs ls hP hS hl
  refine lv_aload_n hx hb dL_law_578 rfl (lv_at hl 1 rfl) ?_
  obtain ⟨⟨a_1, σ_1, τ_1⟩, h_1, hf⟩ := jp_bind hf
  dsimp only at hf
  refine jp_callV (rest := []) B hP hS hl (ctX7_exact hX0 h_1) hX0.1 rfl mw_473 mw_470 mw_471 mw_472 mw_2 ddX7_exact ⟨Nat.le_of_ble_eq_true rfl, Nat.le_of_ble_eq_true rfl⟩ ⟨Nat.le_trans (Nat.le_add_right _ _) hc0, Nat.le_trans (Nat.le_add_right _ _) hs0⟩ rfl (Nat.le_of_ble_eq_true rfl) dL_law_579 (fun H locs hP hS => ?_)
  refine lv_aload_n hx hb dL_law_582 rfl (lv_at hl 2 rfl) ?_
  obtain ⟨⟨a_2, σ_2, τ_2⟩, h_2, hf⟩ := jp_bind hf
  dsimp only at hf
  refine jp_callV (rest := [.int a_1]) B hP hS hl (ctX8_exact hM h_2) hM.1 rfl mw_477 mw_474 mw_475 mw_476 mw_5 ddX8_exact ⟨Nat.le_of_ble_eq_true rfl, Nat.le_of_ble_eq_true rfl⟩ ⟨Nat.le_trans (Nat.le_add_right _ _) hc0, Nat.le_trans (Nat.le_add_right _ _) hs0⟩ rfl (Nat.le_of_ble_eq_true rfl) dL_law_583 (fun H locs hP hS => ?_)
  refine lv_icmp_eq (tgt := 884) hx hb dL_law_586 (by decide) (fun c_3 => ?_) (fun c_3 => ?_)
  · rw [if_pos c_3] at hf
    obtain ⟨rfl, rfl⟩ := jp_injK hf
    refine W.widen (Nat.le_add_right cells 3) (Nat.le_add_right slots 18) ?_
    exact kk H locs ls hP hS (lv_sub hl [0, 1, 2, 3, 4] rfl)
  · rw [if_neg c_3] at hf
    cases hf
-- at
def fC_at (n : Nat) (nc : Nat) (L : Nat) (xs : Nat → Int32) (i : Int32) (σ : jp_I) (τ : jp_J) : Option (jp_I × jp_J) :=
  if jp_ok (i + 1) L = true then if jp_ok (i + 2) L = true then if jp_ok (i + 3) L = true then (fL_at n nc (xs (i + 1).toNatClampNeg) (xs (i + 2).toNatClampNeg) (xs (i + 3).toNatClampNeg) σ τ).bind fun (a_4, σ_4, τ_4) => (fX8_at (xs (i + 1).toNatClampNeg) (xs (i + 2).toNatClampNeg) (xs (i + 3).toNatClampNeg) σ_4 τ_4).bind fun (a_5, σ_5, τ_5) => (fX8_thrown σ_5 τ_5).bind fun (a_6, σ_6, τ_6) => if a_6 = a_4 then (if a_4 = 0 then (if (lg_cmp (τ_6 30 (0 : Int32).toNatClampNeg) a_5.toInt64) = 0 then (some (σ_6, τ_6)) else (none)) else (some (σ_6, τ_6))) else (none) else none else none else none
set_option maxHeartbeats 4000000 in
set_option maxRecDepth 20000 in
theorem wC_at {p : Program} {l : Launch} {e : Jvm.Env} {s : State} {m : MethodId} {args : Array Value} {below : List Frame} {meth : Method} {c : Code} {Q : State → Prop} {Γ : jp_G} {Z : Nat → Option jp_Sh} {cells slots b L : Nat} {xs : Nat → Int32} {n : Nat} {nc : Nat} (B : jp_B Γ p s m args meth c RL cL_law 7 (some .boolean)) (hX0 : jp_hC Z n nc) (hM : jp_hM Z) (hO : Z 30 = some (3, 1, [])) (hst : l.stackTraces = false) (hX : va_X b L xs s s.heap) (hbl : b < s.heap.size) (hbA : ¬ jp_A Γ b) (hc0 : cells + 3 ≤ room_1.cells) (hs0 : slots + 18 ≤ room_1.slots) {i : Int32} {σ σ' : jp_I} {τ τ' : jp_J} (hf : fC_at n nc L xs i σ τ = some (σ', τ'))
    (kk : jp_atc p l e room_1 s m args below meth c Q 7 Γ Z (cells + 3) (slots + 18) 884 [(0, .ref b), (1, .ref (Γ.2.2.1 0)), (2, .ref (Γ.2.2.1 20)), (3, .ref (Γ.2.2.1 30)), (4, .int i)] [] σ' τ') : jp_atc p l e room_1 s m args below meth c Q 7 Γ Z cells slots 591 [(0, .ref b), (1, .ref (Γ.2.2.1 0)), (2, .ref (Γ.2.2.1 20)), (3, .ref (Γ.2.2.1 30)), (4, .int i)] [] σ τ := by
  obtain ⟨hx, hb, hml, hown, hts, hr, hlk, hE⟩ := id B
  unfold fC_at at hf
  intro H locs ls hP hS hl
  refine lv_aload_n hx hb dL_law_591 rfl (lv_at hl 1 rfl) ?_
  refine lv_aload_n hx hb dL_law_592 rfl (lv_at hl 0 rfl) ?_
  refine lv_iload hx hb dL_law_593 (lv_at hl 4 rfl) ?_
  refine lv_iconst (v := 1) hx hb dL_law_595 (by decide) ?_
  refine lv_iadd hx hb dL_law_596 ?_
  obtain ⟨g_1, hf⟩ := jp_if hf
  refine jq_sld B hX hbl hbA hS (jp_ok_vp g_1) dL_law_597 ?_
  refine lv_aload_n hx hb dL_law_598 rfl (lv_at hl 0 rfl) ?_
  refine lv_iload hx hb dL_law_599 (lv_at hl 4 rfl) ?_
  refine lv_iconst (v := 2) hx hb dL_law_601 (by decide) ?_
  refine lv_iadd hx hb dL_law_602 ?_
  obtain ⟨g_2, hf⟩ := jp_if hf
  refine jq_sld B hX hbl hbA hS (jp_ok_vp g_2) dL_law_603 ?_
  refine lv_aload_n hx hb dL_law_604 rfl (lv_at hl 0 rfl) ?_
  refine lv_iload hx hb dL_law_605 (lv_at hl 4 rfl) ?_
  refine lv_iconst (v := 3) hx hb dL_law_607 (by decide) ?_
  refine lv_iadd hx hb dL_law_608 ?_
  obtain ⟨g_3, hf⟩ := jp_if hf
  refine jq_sld B hX hbl hbA hS (jp_ok_vp g_3) dL_law_609 ?_
  refine lv_aload_n hx hb dL_law_610 rfl (lv_at hl 3 rfl) ?_
  obtain ⟨⟨a_4, σ_4, τ_4⟩, h_4, hf⟩ := jp_bind hf
  dsimp only at hf
  refine jq_callW (cx := 3) (sx := 18) (rest := []) B hP hS hl (ctL_at hX0 hO hst h_4) mw_480 mw_478 mw_479 mw_9 ddL_at ⟨Nat.le_of_ble_eq_true rfl, Nat.le_of_ble_eq_true rfl⟩ (Nat.le_of_ble_eq_true rfl) (Nat.le_of_ble_eq_true rfl) ⟨hc0, hs0⟩ rfl (Nat.le_of_ble_eq_true rfl) dL_law_611 (fun H locs hP hS => ?_)
  refine lv_istore (lv' := [(5, .int a_4), (0, .ref b), (1, .ref (Γ.2.2.1 0)), (2, .ref (Γ.2.2.1 20)), (3, .ref (Γ.2.2.1 30)), (4, .int i)]) hx hb dL_law_614 hl (by decide) rfl (fun ls hl => ?_)
  refine lv_aload_n hx hb dL_law_616 rfl (lv_at hl 3 rfl) ?_
  refine lv_aload_n hx hb dL_law_617 rfl (lv_at hl 1 rfl) ?_
  refine lv_iload hx hb dL_law_618 (lv_at hl 5 rfl) ?_
  refine lv_iconst (v := 1) hx hb dL_law_620 (by decide) ?_
  refine lv_iadd hx hb dL_law_621 ?_
  refine jq_sld B hX hbl hbA hS (jp_ok_vp g_1) dL_law_622 ?_
  refine lv_aload_n hx hb dL_law_623 rfl (lv_at hl 1 rfl) ?_
  refine lv_iload hx hb dL_law_624 (lv_at hl 5 rfl) ?_
  refine lv_iconst (v := 2) hx hb dL_law_626 (by decide) ?_
  refine lv_iadd hx hb dL_law_627 ?_
  refine jq_sld B hX hbl hbA hS (jp_ok_vp g_2) dL_law_628 ?_
  refine lv_aload_n hx hb dL_law_629 rfl (lv_at hl 1 rfl) ?_
  refine lv_iload hx hb dL_law_630 (lv_at hl 5 rfl) ?_
  refine lv_iconst (v := 3) hx hb dL_law_632 (by decide) ?_
  refine lv_iadd hx hb dL_law_633 ?_
  refine jq_sld B hX hbl hbA hS (jp_ok_vp g_3) dL_law_634 ?_
  obtain ⟨⟨a_5, σ_5, τ_5⟩, h_5, hf⟩ := jp_bind hf
  dsimp only at hf
  refine jp_callV (rest := []) B hP hS hl (ctX8_at hM h_5) hM.1 rfl mw_492 mw_489 mw_490 mw_491 mw_5 ddX8_at ⟨Nat.le_of_ble_eq_true rfl, Nat.le_of_ble_eq_true rfl⟩ ⟨hc0, hs0⟩ rfl (Nat.le_of_ble_eq_true rfl) dL_law_635 (fun H locs hP hS => ?_)
  refine lv_istore (lv' := [(6, .int a_5), (5, .int a_4), (0, .ref b), (1, .ref (Γ.2.2.1 0)), (2, .ref (Γ.2.2.1 20)), (3, .ref (Γ.2.2.1 30)), (4, .int i)]) hx hb dL_law_638 hl (by decide) rfl (fun ls hl => ?_)
  refine lv_aload_n hx hb dL_law_640 rfl (lv_at hl 4 rfl) ?_
  obtain ⟨⟨a_6, σ_6, τ_6⟩, h_6, hf⟩ := jp_bind hf
  dsimp only at hf
  refine jp_callV (rest := []) B hP hS hl (ctX8_thrown hM h_6) hM.1 rfl mw_177 mw_174 mw_175 mw_176 mw_5 ddX8_thrown ⟨Nat.le_of_ble_eq_true rfl, Nat.le_of_ble_eq_true rfl⟩ ⟨hc0, hs0⟩ rfl (Nat.le_of_ble_eq_true rfl) dL_law_641 (fun H locs hP hS => ?_)
  refine lv_iload hx hb dL_law_644 (lv_at hl 1 rfl) ?_
  refine lv_icmp_eq (tgt := 651) hx hb dL_law_646 (by decide) (fun c_7 => ?_) (fun c_7 => ?_)
  · rw [if_pos c_7] at hf
    refine lv_iload hx hb dL_law_651 (lv_at hl 1 rfl) ?_
    refine lv_if_ne (tgt := 668) hx hb dL_law_653 (by decide) (fun c_8 => ?_) (fun c_8 => ?_)
    · rw [if_neg c_8] at hf
      refine lv_goto (tgt := 884) hx hb dL_law_668 (by decide) ?_
      obtain ⟨rfl, rfl⟩ := jp_injK hf
      exact kk H locs ls hP hS (lv_sub hl [2, 3, 4, 5, 6] rfl)
    · rw [if_pos c_8] at hf
      refine lv_aload_n hx hb dL_law_656 rfl (lv_at hl 5 rfl) ?_
      refine lv_iconst (v := 0) hx hb dL_law_657 (by decide) ?_
      refine jp_lald B hP hO (jp_ok_vp (by decide)) dL_law_658 ?_
      refine lv_iload hx hb dL_law_659 (lv_at hl 0 rfl) ?_
      refine lv_i2l hx hb dL_law_661 rfl ?_
      refine W.lcmp hx hb dL_law_662 ?_
      refine lv_if_eq (tgt := 668) hx hb dL_law_663 (by decide) (fun c_9 => ?_) (fun c_9 => ?_)
      · rw [if_pos c_9] at hf
        refine lv_goto (tgt := 884) hx hb dL_law_668 (by decide) ?_
        obtain ⟨rfl, rfl⟩ := jp_injK hf
        exact kk H locs ls hP hS (lv_sub hl [2, 3, 4, 5, 6] rfl)
      · rw [if_neg c_9] at hf
        cases hf
  · rw [if_neg c_7] at hf
    cases hf
-- last
def fC_last (n : Nat) (nc : Nat) (L : Nat) (xs : Nat → Int32) (i : Int32) (σ : jp_I) (τ : jp_J) : Option (jp_I × jp_J) :=
  (fL_last n nc σ τ).bind fun (a_1, σ_1, τ_1) => (fX8_last σ_1 τ_1).bind fun (a_2, σ_2, τ_2) => (fX8_thrown σ_2 τ_2).bind fun (a_3, σ_3, τ_3) => if a_3 = a_1 then (if a_1 = 0 then (if (lg_cmp (τ_3 30 (0 : Int32).toNatClampNeg) a_2.toInt64) = 0 then (some (σ_3, τ_3)) else (none)) else (some (σ_3, τ_3))) else (none)
set_option maxHeartbeats 4000000 in
set_option maxRecDepth 20000 in
theorem wC_last {p : Program} {l : Launch} {e : Jvm.Env} {s : State} {m : MethodId} {args : Array Value} {below : List Frame} {meth : Method} {c : Code} {Q : State → Prop} {Γ : jp_G} {Z : Nat → Option jp_Sh} {cells slots b L : Nat} {xs : Nat → Int32} {n : Nat} {nc : Nat} (B : jp_B Γ p s m args meth c RL cL_law 7 (some .boolean)) (hX0 : jp_hC Z n nc) (hM : jp_hM Z) (hO : Z 30 = some (3, 1, [])) (hst : l.stackTraces = false) (hX : va_X b L xs s s.heap) (hbl : b < s.heap.size) (hbA : ¬ jp_A Γ b) (hc0 : cells + 3 ≤ room_1.cells) (hs0 : slots + 18 ≤ room_1.slots) {i : Int32} {σ σ' : jp_I} {τ τ' : jp_J} (hf : fC_last n nc L xs i σ τ = some (σ', τ'))
    (kk : jp_atc p l e room_1 s m args below meth c Q 7 Γ Z (cells + 3) (slots + 18) 884 [(0, .ref b), (1, .ref (Γ.2.2.1 0)), (2, .ref (Γ.2.2.1 20)), (3, .ref (Γ.2.2.1 30)), (4, .int i)] [] σ' τ') : jp_atc p l e room_1 s m args below meth c Q 7 Γ Z cells slots 671 [(0, .ref b), (1, .ref (Γ.2.2.1 0)), (2, .ref (Γ.2.2.1 20)), (3, .ref (Γ.2.2.1 30)), (4, .int i)] [] σ τ := by
  obtain ⟨hx, hb, hml, hown, hts, hr, hlk, hE⟩ := id B
  unfold fC_last at hf
  intro H locs ls hP hS hl
  refine lv_aload_n hx hb dL_law_671 rfl (lv_at hl 1 rfl) ?_
  refine lv_aload_n hx hb dL_law_672 rfl (lv_at hl 3 rfl) ?_
  obtain ⟨⟨a_1, σ_1, τ_1⟩, h_1, hf⟩ := jp_bind hf
  dsimp only at hf
  refine jq_callW (cx := 3) (sx := 18) (rest := []) B hP hS hl (ctL_last hX0 hO hst h_1) mw_495 mw_493 mw_494 mw_9 ddL_last ⟨Nat.le_of_ble_eq_true rfl, Nat.le_of_ble_eq_true rfl⟩ (Nat.le_of_ble_eq_true rfl) (Nat.le_of_ble_eq_true rfl) ⟨hc0, hs0⟩ rfl (Nat.le_of_ble_eq_true rfl) dL_law_673 (fun H locs hP hS => ?_)
  refine lv_istore (lv' := [(5, .int a_1), (0, .ref b), (1, .ref (Γ.2.2.1 0)), (2, .ref (Γ.2.2.1 20)), (3, .ref (Γ.2.2.1 30)), (4, .int i)]) hx hb dL_law_676 hl (by decide) rfl (fun ls hl => ?_)
  refine lv_aload_n hx hb dL_law_678 rfl (lv_at hl 3 rfl) ?_
  obtain ⟨⟨a_2, σ_2, τ_2⟩, h_2, hf⟩ := jp_bind hf
  dsimp only at hf
  refine jp_callV (rest := []) B hP hS hl (ctX8_last hM h_2) hM.1 rfl mw_503 mw_500 mw_501 mw_502 mw_5 ddX8_last ⟨Nat.le_of_ble_eq_true rfl, Nat.le_of_ble_eq_true rfl⟩ ⟨hc0, hs0⟩ rfl (Nat.le_of_ble_eq_true rfl) dL_law_679 (fun H locs hP hS => ?_)
  refine lv_istore (lv' := [(6, .int a_2), (5, .int a_1), (0, .ref b), (1, .ref (Γ.2.2.1 0)), (2, .ref (Γ.2.2.1 20)), (3, .ref (Γ.2.2.1 30)), (4, .int i)]) hx hb dL_law_682 hl (by decide) rfl (fun ls hl => ?_)
  refine lv_aload_n hx hb dL_law_684 rfl (lv_at hl 4 rfl) ?_
  obtain ⟨⟨a_3, σ_3, τ_3⟩, h_3, hf⟩ := jp_bind hf
  dsimp only at hf
  refine jp_callV (rest := []) B hP hS hl (ctX8_thrown hM h_3) hM.1 rfl mw_177 mw_174 mw_175 mw_176 mw_5 ddX8_thrown ⟨Nat.le_of_ble_eq_true rfl, Nat.le_of_ble_eq_true rfl⟩ ⟨hc0, hs0⟩ rfl (Nat.le_of_ble_eq_true rfl) dL_law_685 (fun H locs hP hS => ?_)
  refine lv_iload hx hb dL_law_688 (lv_at hl 1 rfl) ?_
  refine lv_icmp_eq (tgt := 695) hx hb dL_law_690 (by decide) (fun c_4 => ?_) (fun c_4 => ?_)
  · rw [if_pos c_4] at hf
    refine lv_iload hx hb dL_law_695 (lv_at hl 1 rfl) ?_
    refine lv_if_ne (tgt := 712) hx hb dL_law_697 (by decide) (fun c_5 => ?_) (fun c_5 => ?_)
    · rw [if_neg c_5] at hf
      refine lv_goto (tgt := 884) hx hb dL_law_712 (by decide) ?_
      obtain ⟨rfl, rfl⟩ := jp_injK hf
      exact kk H locs ls hP hS (lv_sub hl [2, 3, 4, 5, 6] rfl)
    · rw [if_pos c_5] at hf
      refine lv_aload_n hx hb dL_law_700 rfl (lv_at hl 5 rfl) ?_
      refine lv_iconst (v := 0) hx hb dL_law_701 (by decide) ?_
      refine jp_lald B hP hO (jp_ok_vp (by decide)) dL_law_702 ?_
      refine lv_iload hx hb dL_law_703 (lv_at hl 0 rfl) ?_
      refine lv_i2l hx hb dL_law_705 rfl ?_
      refine W.lcmp hx hb dL_law_706 ?_
      refine lv_if_eq (tgt := 712) hx hb dL_law_707 (by decide) (fun c_6 => ?_) (fun c_6 => ?_)
      · rw [if_pos c_6] at hf
        refine lv_goto (tgt := 884) hx hb dL_law_712 (by decide) ?_
        obtain ⟨rfl, rfl⟩ := jp_injK hf
        exact kk H locs ls hP hS (lv_sub hl [2, 3, 4, 5, 6] rfl)
      · rw [if_neg c_6] at hf
        cases hf
  · rw [if_neg c_4] at hf
    cases hf
-- alone
def fC_alone (n : Nat) (nc : Nat) (L : Nat) (xs : Nat → Int32) (i : Int32) (σ : jp_I) (τ : jp_J) : Option (jp_I × jp_J) :=
  if jp_ok (i + 1) L = true then (fL_alone n nc (xs (i + 1).toNatClampNeg) σ τ).bind fun (a_2, σ_2, τ_2) => (fX8_alone (xs (i + 1).toNatClampNeg) σ_2 τ_2).bind fun (a_3, σ_3, τ_3) => (fX8_thrown σ_3 τ_3).bind fun (a_4, σ_4, τ_4) => if a_4 = a_2 then (if a_2 = 0 then (if (lg_cmp (τ_4 30 (0 : Int32).toNatClampNeg) a_3.toInt64) = 0 then (some (σ_4, τ_4)) else (none)) else (some (σ_4, τ_4))) else (none) else none
set_option maxHeartbeats 4000000 in
set_option maxRecDepth 20000 in
theorem wC_alone {p : Program} {l : Launch} {e : Jvm.Env} {s : State} {m : MethodId} {args : Array Value} {below : List Frame} {meth : Method} {c : Code} {Q : State → Prop} {Γ : jp_G} {Z : Nat → Option jp_Sh} {cells slots b L : Nat} {xs : Nat → Int32} {n : Nat} {nc : Nat} (B : jp_B Γ p s m args meth c RL cL_law 7 (some .boolean)) (hX0 : jp_hC Z n nc) (hM : jp_hM Z) (hO : Z 30 = some (3, 1, [])) (hst : l.stackTraces = false) (hX : va_X b L xs s s.heap) (hbl : b < s.heap.size) (hbA : ¬ jp_A Γ b) (hc0 : cells + 3 ≤ room_1.cells) (hs0 : slots + 18 ≤ room_1.slots) {i : Int32} {σ σ' : jp_I} {τ τ' : jp_J} (hf : fC_alone n nc L xs i σ τ = some (σ', τ'))
    (kk : jp_atc p l e room_1 s m args below meth c Q 7 Γ Z (cells + 3) (slots + 18) 884 [(0, .ref b), (1, .ref (Γ.2.2.1 0)), (2, .ref (Γ.2.2.1 20)), (3, .ref (Γ.2.2.1 30)), (4, .int i)] [] σ' τ') : jp_atc p l e room_1 s m args below meth c Q 7 Γ Z cells slots 715 [(0, .ref b), (1, .ref (Γ.2.2.1 0)), (2, .ref (Γ.2.2.1 20)), (3, .ref (Γ.2.2.1 30)), (4, .int i)] [] σ τ := by
  obtain ⟨hx, hb, hml, hown, hts, hr, hlk, hE⟩ := id B
  unfold fC_alone at hf
  intro H locs ls hP hS hl
  refine lv_aload_n hx hb dL_law_715 rfl (lv_at hl 1 rfl) ?_
  refine lv_aload_n hx hb dL_law_716 rfl (lv_at hl 0 rfl) ?_
  refine lv_iload hx hb dL_law_717 (lv_at hl 4 rfl) ?_
  refine lv_iconst (v := 1) hx hb dL_law_719 (by decide) ?_
  refine lv_iadd hx hb dL_law_720 ?_
  obtain ⟨g_1, hf⟩ := jp_if hf
  refine jq_sld B hX hbl hbA hS (jp_ok_vp g_1) dL_law_721 ?_
  refine lv_aload_n hx hb dL_law_722 rfl (lv_at hl 3 rfl) ?_
  obtain ⟨⟨a_2, σ_2, τ_2⟩, h_2, hf⟩ := jp_bind hf
  dsimp only at hf
  refine jq_callW (cx := 3) (sx := 18) (rest := []) B hP hS hl (ctL_alone hX0 hO hst h_2) mw_506 mw_504 mw_505 mw_9 ddL_alone ⟨Nat.le_of_ble_eq_true rfl, Nat.le_of_ble_eq_true rfl⟩ (Nat.le_of_ble_eq_true rfl) (Nat.le_of_ble_eq_true rfl) ⟨hc0, hs0⟩ rfl (Nat.le_of_ble_eq_true rfl) dL_law_723 (fun H locs hP hS => ?_)
  refine lv_istore (lv' := [(5, .int a_2), (0, .ref b), (1, .ref (Γ.2.2.1 0)), (2, .ref (Γ.2.2.1 20)), (3, .ref (Γ.2.2.1 30)), (4, .int i)]) hx hb dL_law_726 hl (by decide) rfl (fun ls hl => ?_)
  refine lv_aload_n hx hb dL_law_728 rfl (lv_at hl 3 rfl) ?_
  refine lv_aload_n hx hb dL_law_729 rfl (lv_at hl 1 rfl) ?_
  refine lv_iload hx hb dL_law_730 (lv_at hl 5 rfl) ?_
  refine lv_iconst (v := 1) hx hb dL_law_732 (by decide) ?_
  refine lv_iadd hx hb dL_law_733 ?_
  refine jq_sld B hX hbl hbA hS (jp_ok_vp g_1) dL_law_734 ?_
  obtain ⟨⟨a_3, σ_3, τ_3⟩, h_3, hf⟩ := jp_bind hf
  dsimp only at hf
  refine jp_callV (rest := []) B hP hS hl (ctX8_alone hM h_3) hM.1 rfl mw_525 mw_522 mw_523 mw_524 mw_5 ddX8_alone ⟨Nat.le_of_ble_eq_true rfl, Nat.le_of_ble_eq_true rfl⟩ ⟨hc0, hs0⟩ rfl (Nat.le_of_ble_eq_true rfl) dL_law_735 (fun H locs hP hS => ?_)
  refine lv_istore (lv' := [(6, .int a_3), (5, .int a_2), (0, .ref b), (1, .ref (Γ.2.2.1 0)), (2, .ref (Γ.2.2.1 20)), (3, .ref (Γ.2.2.1 30)), (4, .int i)]) hx hb dL_law_738 hl (by decide) rfl (fun ls hl => ?_)
  refine lv_aload_n hx hb dL_law_740 rfl (lv_at hl 4 rfl) ?_
  obtain ⟨⟨a_4, σ_4, τ_4⟩, h_4, hf⟩ := jp_bind hf
  dsimp only at hf
  refine jp_callV (rest := []) B hP hS hl (ctX8_thrown hM h_4) hM.1 rfl mw_177 mw_174 mw_175 mw_176 mw_5 ddX8_thrown ⟨Nat.le_of_ble_eq_true rfl, Nat.le_of_ble_eq_true rfl⟩ ⟨hc0, hs0⟩ rfl (Nat.le_of_ble_eq_true rfl) dL_law_741 (fun H locs hP hS => ?_)
  refine lv_iload hx hb dL_law_744 (lv_at hl 1 rfl) ?_
  refine lv_icmp_eq (tgt := 751) hx hb dL_law_746 (by decide) (fun c_5 => ?_) (fun c_5 => ?_)
  · rw [if_pos c_5] at hf
    refine lv_iload hx hb dL_law_751 (lv_at hl 1 rfl) ?_
    refine lv_if_ne (tgt := 768) hx hb dL_law_753 (by decide) (fun c_6 => ?_) (fun c_6 => ?_)
    · rw [if_neg c_6] at hf
      refine lv_goto (tgt := 884) hx hb dL_law_768 (by decide) ?_
      obtain ⟨rfl, rfl⟩ := jp_injK hf
      exact kk H locs ls hP hS (lv_sub hl [2, 3, 4, 5, 6] rfl)
    · rw [if_pos c_6] at hf
      refine lv_aload_n hx hb dL_law_756 rfl (lv_at hl 5 rfl) ?_
      refine lv_iconst (v := 0) hx hb dL_law_757 (by decide) ?_
      refine jp_lald B hP hO (jp_ok_vp (by decide)) dL_law_758 ?_
      refine lv_iload hx hb dL_law_759 (lv_at hl 0 rfl) ?_
      refine lv_i2l hx hb dL_law_761 rfl ?_
      refine W.lcmp hx hb dL_law_762 ?_
      refine lv_if_eq (tgt := 768) hx hb dL_law_763 (by decide) (fun c_7 => ?_) (fun c_7 => ?_)
      · rw [if_pos c_7] at hf
        refine lv_goto (tgt := 884) hx hb dL_law_768 (by decide) ?_
        obtain ⟨rfl, rfl⟩ := jp_injK hf
        exact kk H locs ls hP hS (lv_sub hl [2, 3, 4, 5, 6] rfl)
      · rw [if_neg c_7] at hf
        cases hf
  · rw [if_neg c_5] at hf
    cases hf
-- bound
def fC_bound (n : Nat) (nc : Nat) (L : Nat) (xs : Nat → Int32) (i : Int32) (σ : jp_I) (τ : jp_J) : Option (jp_I × jp_J) :=
  (fL_bound n nc σ τ).bind fun (a_1, σ_1, τ_1) => (fX8_bound σ_1 τ_1).bind fun (a_2, σ_2, τ_2) => (fX8_thrown σ_2 τ_2).bind fun (a_3, σ_3, τ_3) => if a_3 = a_1 then (if a_1 = 0 then (if (lg_cmp (τ_3 30 (0 : Int32).toNatClampNeg) a_2.toInt64) = 0 then (some (σ_3, τ_3)) else (none)) else (some (σ_3, τ_3))) else (none)
set_option maxHeartbeats 4000000 in
set_option maxRecDepth 20000 in
theorem wC_bound {p : Program} {l : Launch} {e : Jvm.Env} {s : State} {m : MethodId} {args : Array Value} {below : List Frame} {meth : Method} {c : Code} {Q : State → Prop} {Γ : jp_G} {Z : Nat → Option jp_Sh} {cells slots b L : Nat} {xs : Nat → Int32} {n : Nat} {nc : Nat} (B : jp_B Γ p s m args meth c RL cL_law 7 (some .boolean)) (hX0 : jp_hC Z n nc) (hM : jp_hM Z) (hO : Z 30 = some (3, 1, [])) (hst : l.stackTraces = false) (hX : va_X b L xs s s.heap) (hbl : b < s.heap.size) (hbA : ¬ jp_A Γ b) (hc0 : cells + 3 ≤ room_1.cells) (hs0 : slots + 18 ≤ room_1.slots) {i : Int32} {σ σ' : jp_I} {τ τ' : jp_J} (hf : fC_bound n nc L xs i σ τ = some (σ', τ'))
    (kk : jp_atc p l e room_1 s m args below meth c Q 7 Γ Z (cells + 3) (slots + 18) 884 [(0, .ref b), (1, .ref (Γ.2.2.1 0)), (2, .ref (Γ.2.2.1 20)), (3, .ref (Γ.2.2.1 30)), (4, .int i)] [] σ' τ') : jp_atc p l e room_1 s m args below meth c Q 7 Γ Z cells slots 771 [(0, .ref b), (1, .ref (Γ.2.2.1 0)), (2, .ref (Γ.2.2.1 20)), (3, .ref (Γ.2.2.1 30)), (4, .int i)] [] σ τ := by
  obtain ⟨hx, hb, hml, hown, hts, hr, hlk, hE⟩ := id B
  unfold fC_bound at hf
  intro H locs ls hP hS hl
  refine lv_aload_n hx hb dL_law_771 rfl (lv_at hl 1 rfl) ?_
  refine lv_aload_n hx hb dL_law_772 rfl (lv_at hl 3 rfl) ?_
  obtain ⟨⟨a_1, σ_1, τ_1⟩, h_1, hf⟩ := jp_bind hf
  dsimp only at hf
  refine jq_callW (cx := 3) (sx := 18) (rest := []) B hP hS hl (ctL_bound hX0 hO hst h_1) mw_532 mw_530 mw_531 mw_9 ddL_bound ⟨Nat.le_of_ble_eq_true rfl, Nat.le_of_ble_eq_true rfl⟩ (Nat.le_of_ble_eq_true rfl) (Nat.le_of_ble_eq_true rfl) ⟨hc0, hs0⟩ rfl (Nat.le_of_ble_eq_true rfl) dL_law_773 (fun H locs hP hS => ?_)
  refine lv_istore (lv' := [(5, .int a_1), (0, .ref b), (1, .ref (Γ.2.2.1 0)), (2, .ref (Γ.2.2.1 20)), (3, .ref (Γ.2.2.1 30)), (4, .int i)]) hx hb dL_law_776 hl (by decide) rfl (fun ls hl => ?_)
  refine lv_aload_n hx hb dL_law_778 rfl (lv_at hl 3 rfl) ?_
  obtain ⟨⟨a_2, σ_2, τ_2⟩, h_2, hf⟩ := jp_bind hf
  dsimp only at hf
  refine jp_callV (rest := []) B hP hS hl (ctX8_bound hM h_2) hM.1 rfl mw_544 mw_541 mw_542 mw_543 mw_5 ddX8_bound ⟨Nat.le_of_ble_eq_true rfl, Nat.le_of_ble_eq_true rfl⟩ ⟨hc0, hs0⟩ rfl (Nat.le_of_ble_eq_true rfl) dL_law_779 (fun H locs hP hS => ?_)
  refine lv_istore (lv' := [(6, .int a_2), (5, .int a_1), (0, .ref b), (1, .ref (Γ.2.2.1 0)), (2, .ref (Γ.2.2.1 20)), (3, .ref (Γ.2.2.1 30)), (4, .int i)]) hx hb dL_law_782 hl (by decide) rfl (fun ls hl => ?_)
  refine lv_aload_n hx hb dL_law_784 rfl (lv_at hl 4 rfl) ?_
  obtain ⟨⟨a_3, σ_3, τ_3⟩, h_3, hf⟩ := jp_bind hf
  dsimp only at hf
  refine jp_callV (rest := []) B hP hS hl (ctX8_thrown hM h_3) hM.1 rfl mw_177 mw_174 mw_175 mw_176 mw_5 ddX8_thrown ⟨Nat.le_of_ble_eq_true rfl, Nat.le_of_ble_eq_true rfl⟩ ⟨hc0, hs0⟩ rfl (Nat.le_of_ble_eq_true rfl) dL_law_785 (fun H locs hP hS => ?_)
  refine lv_iload hx hb dL_law_788 (lv_at hl 1 rfl) ?_
  refine lv_icmp_eq (tgt := 795) hx hb dL_law_790 (by decide) (fun c_4 => ?_) (fun c_4 => ?_)
  · rw [if_pos c_4] at hf
    refine lv_iload hx hb dL_law_795 (lv_at hl 1 rfl) ?_
    refine lv_if_ne (tgt := 812) hx hb dL_law_797 (by decide) (fun c_5 => ?_) (fun c_5 => ?_)
    · rw [if_neg c_5] at hf
      refine lv_goto (tgt := 884) hx hb dL_law_812 (by decide) ?_
      obtain ⟨rfl, rfl⟩ := jp_injK hf
      exact kk H locs ls hP hS (lv_sub hl [2, 3, 4, 5, 6] rfl)
    · rw [if_pos c_5] at hf
      refine lv_aload_n hx hb dL_law_800 rfl (lv_at hl 5 rfl) ?_
      refine lv_iconst (v := 0) hx hb dL_law_801 (by decide) ?_
      refine jp_lald B hP hO (jp_ok_vp (by decide)) dL_law_802 ?_
      refine lv_iload hx hb dL_law_803 (lv_at hl 0 rfl) ?_
      refine lv_i2l hx hb dL_law_805 rfl ?_
      refine W.lcmp hx hb dL_law_806 ?_
      refine lv_if_eq (tgt := 812) hx hb dL_law_807 (by decide) (fun c_6 => ?_) (fun c_6 => ?_)
      · rw [if_pos c_6] at hf
        refine lv_goto (tgt := 884) hx hb dL_law_812 (by decide) ?_
        obtain ⟨rfl, rfl⟩ := jp_injK hf
        exact kk H locs ls hP hS (lv_sub hl [2, 3, 4, 5, 6] rfl)
      · rw [if_neg c_6] at hf
        cases hf
  · rw [if_neg c_4] at hf
    cases hf
-- share
def fC_share (n : Nat) (nc : Nat) (L : Nat) (xs : Nat → Int32) (i : Int32) (σ : jp_I) (τ : jp_J) : Option (jp_I × jp_J) :=
  (fL_share n nc σ τ).bind fun (a_1, σ_1, τ_1) => (fX8_share σ_1 τ_1).bind fun (a_2, σ_2, τ_2) => (fX8_thrown σ_2 τ_2).bind fun (a_3, σ_3, τ_3) => if a_3 = a_1 then (if a_1 = 0 then (if (lg_cmp (τ_3 30 (0 : Int32).toNatClampNeg) a_2.toInt64) = 0 then (some (σ_3, τ_3)) else (none)) else (some (σ_3, τ_3))) else (none)
set_option maxHeartbeats 4000000 in
set_option maxRecDepth 20000 in
theorem wC_share {p : Program} {l : Launch} {e : Jvm.Env} {s : State} {m : MethodId} {args : Array Value} {below : List Frame} {meth : Method} {c : Code} {Q : State → Prop} {Γ : jp_G} {Z : Nat → Option jp_Sh} {cells slots b L : Nat} {xs : Nat → Int32} {n : Nat} {nc : Nat} (B : jp_B Γ p s m args meth c RL cL_law 7 (some .boolean)) (hX0 : jp_hC Z n nc) (hM : jp_hM Z) (hO : Z 30 = some (3, 1, [])) (hst : l.stackTraces = false) (hX : va_X b L xs s s.heap) (hbl : b < s.heap.size) (hbA : ¬ jp_A Γ b) (hc0 : cells + 3 ≤ room_1.cells) (hs0 : slots + 18 ≤ room_1.slots) {i : Int32} {σ σ' : jp_I} {τ τ' : jp_J} (hf : fC_share n nc L xs i σ τ = some (σ', τ'))
    (kk : jp_atc p l e room_1 s m args below meth c Q 7 Γ Z (cells + 3) (slots + 18) 884 [(0, .ref b), (1, .ref (Γ.2.2.1 0)), (2, .ref (Γ.2.2.1 20)), (3, .ref (Γ.2.2.1 30)), (4, .int i)] [] σ' τ') : jp_atc p l e room_1 s m args below meth c Q 7 Γ Z cells slots 815 [(0, .ref b), (1, .ref (Γ.2.2.1 0)), (2, .ref (Γ.2.2.1 20)), (3, .ref (Γ.2.2.1 30)), (4, .int i)] [] σ τ := by
  obtain ⟨hx, hb, hml, hown, hts, hr, hlk, hE⟩ := id B
  unfold fC_share at hf
  intro H locs ls hP hS hl
  refine lv_aload_n hx hb dL_law_815 rfl (lv_at hl 1 rfl) ?_
  refine lv_aload_n hx hb dL_law_816 rfl (lv_at hl 3 rfl) ?_
  obtain ⟨⟨a_1, σ_1, τ_1⟩, h_1, hf⟩ := jp_bind hf
  dsimp only at hf
  refine jq_callW (cx := 3) (sx := 18) (rest := []) B hP hS hl (ctL_share hX0 hO hst h_1) mw_551 mw_549 mw_550 mw_9 ddL_share ⟨Nat.le_of_ble_eq_true rfl, Nat.le_of_ble_eq_true rfl⟩ (Nat.le_of_ble_eq_true rfl) (Nat.le_of_ble_eq_true rfl) ⟨hc0, hs0⟩ rfl (Nat.le_of_ble_eq_true rfl) dL_law_817 (fun H locs hP hS => ?_)
  refine lv_istore (lv' := [(5, .int a_1), (0, .ref b), (1, .ref (Γ.2.2.1 0)), (2, .ref (Γ.2.2.1 20)), (3, .ref (Γ.2.2.1 30)), (4, .int i)]) hx hb dL_law_820 hl (by decide) rfl (fun ls hl => ?_)
  refine lv_aload_n hx hb dL_law_822 rfl (lv_at hl 3 rfl) ?_
  obtain ⟨⟨a_2, σ_2, τ_2⟩, h_2, hf⟩ := jp_bind hf
  dsimp only at hf
  refine jp_callV (rest := []) B hP hS hl (ctX8_share hM h_2) hM.1 rfl mw_562 mw_559 mw_560 mw_561 mw_5 ddX8_share ⟨Nat.le_of_ble_eq_true rfl, Nat.le_of_ble_eq_true rfl⟩ ⟨hc0, hs0⟩ rfl (Nat.le_of_ble_eq_true rfl) dL_law_823 (fun H locs hP hS => ?_)
  refine lv_istore (lv' := [(6, .int a_2), (5, .int a_1), (0, .ref b), (1, .ref (Γ.2.2.1 0)), (2, .ref (Γ.2.2.1 20)), (3, .ref (Γ.2.2.1 30)), (4, .int i)]) hx hb dL_law_826 hl (by decide) rfl (fun ls hl => ?_)
  refine lv_aload_n hx hb dL_law_828 rfl (lv_at hl 4 rfl) ?_
  obtain ⟨⟨a_3, σ_3, τ_3⟩, h_3, hf⟩ := jp_bind hf
  dsimp only at hf
  refine jp_callV (rest := []) B hP hS hl (ctX8_thrown hM h_3) hM.1 rfl mw_177 mw_174 mw_175 mw_176 mw_5 ddX8_thrown ⟨Nat.le_of_ble_eq_true rfl, Nat.le_of_ble_eq_true rfl⟩ ⟨hc0, hs0⟩ rfl (Nat.le_of_ble_eq_true rfl) dL_law_829 (fun H locs hP hS => ?_)
  refine lv_iload hx hb dL_law_832 (lv_at hl 1 rfl) ?_
  refine lv_icmp_eq (tgt := 839) hx hb dL_law_834 (by decide) (fun c_4 => ?_) (fun c_4 => ?_)
  · rw [if_pos c_4] at hf
    refine lv_iload hx hb dL_law_839 (lv_at hl 1 rfl) ?_
    refine lv_if_ne (tgt := 856) hx hb dL_law_841 (by decide) (fun c_5 => ?_) (fun c_5 => ?_)
    · rw [if_neg c_5] at hf
      refine lv_goto (tgt := 884) hx hb dL_law_856 (by decide) ?_
      obtain ⟨rfl, rfl⟩ := jp_injK hf
      exact kk H locs ls hP hS (lv_sub hl [2, 3, 4, 5, 6] rfl)
    · rw [if_pos c_5] at hf
      refine lv_aload_n hx hb dL_law_844 rfl (lv_at hl 5 rfl) ?_
      refine lv_iconst (v := 0) hx hb dL_law_845 (by decide) ?_
      refine jp_lald B hP hO (jp_ok_vp (by decide)) dL_law_846 ?_
      refine lv_iload hx hb dL_law_847 (lv_at hl 0 rfl) ?_
      refine lv_i2l hx hb dL_law_849 rfl ?_
      refine W.lcmp hx hb dL_law_850 ?_
      refine lv_if_eq (tgt := 856) hx hb dL_law_851 (by decide) (fun c_6 => ?_) (fun c_6 => ?_)
      · rw [if_pos c_6] at hf
        refine lv_goto (tgt := 884) hx hb dL_law_856 (by decide) ?_
        obtain ⟨rfl, rfl⟩ := jp_injK hf
        exact kk H locs ls hP hS (lv_sub hl [2, 3, 4, 5, 6] rfl)
      · rw [if_neg c_6] at hf
        cases hf
  · rw [if_neg c_4] at hf
    cases hf
-- count
def fC_count (n : Nat) (nc : Nat) (L : Nat) (xs : Nat → Int32) (i : Int32) (σ : jp_I) (τ : jp_J) : Option (jp_I × jp_J) :=
  if jp_ok (i + 1) L = true then (fX7_count n nc (xs (i + 1).toNatClampNeg) σ τ).bind fun (a_2, σ_2, τ_2) => (fX8_count (xs (i + 1).toNatClampNeg) σ_2 τ_2).bind fun (a_3, σ_3, τ_3) => if a_2 = a_3 then (some (σ_3, τ_3)) else (none) else none
set_option maxHeartbeats 4000000 in
set_option maxRecDepth 20000 in
theorem wC_count {p : Program} {l : Launch} {e : Jvm.Env} {s : State} {m : MethodId} {args : Array Value} {below : List Frame} {meth : Method} {c : Code} {Q : State → Prop} {Γ : jp_G} {Z : Nat → Option jp_Sh} {cells slots b L : Nat} {xs : Nat → Int32} {n : Nat} {nc : Nat} (B : jp_B Γ p s m args meth c RL cL_law 7 (some .boolean)) (hX0 : jp_hC Z n nc) (hM : jp_hM Z) (hO : Z 30 = some (3, 1, [])) (hst : l.stackTraces = false) (hX : va_X b L xs s s.heap) (hbl : b < s.heap.size) (hbA : ¬ jp_A Γ b) (hc0 : cells + 3 ≤ room_1.cells) (hs0 : slots + 18 ≤ room_1.slots) {i : Int32} {σ σ' : jp_I} {τ τ' : jp_J} (hf : fC_count n nc L xs i σ τ = some (σ', τ'))
    (kk : jp_atc p l e room_1 s m args below meth c Q 7 Γ Z (cells + 3) (slots + 18) 884 [(0, .ref b), (1, .ref (Γ.2.2.1 0)), (2, .ref (Γ.2.2.1 20)), (3, .ref (Γ.2.2.1 30)), (4, .int i)] [] σ' τ') : jp_atc p l e room_1 s m args below meth c Q 7 Γ Z cells slots 859 [(0, .ref b), (1, .ref (Γ.2.2.1 0)), (2, .ref (Γ.2.2.1 20)), (3, .ref (Γ.2.2.1 30)), (4, .int i)] [] σ τ := by
  obtain ⟨hx, hb, hml, hown, hts, hr, hlk, hE⟩ := id B
  unfold fC_count at hf
  intro H locs ls hP hS hl
  refine lv_aload_n hx hb dL_law_859 rfl (lv_at hl 1 rfl) ?_
  refine lv_aload_n hx hb dL_law_860 rfl (lv_at hl 0 rfl) ?_
  refine lv_iload hx hb dL_law_861 (lv_at hl 4 rfl) ?_
  refine lv_iconst (v := 1) hx hb dL_law_863 (by decide) ?_
  refine lv_iadd hx hb dL_law_864 ?_
  obtain ⟨g_1, hf⟩ := jp_if hf
  refine jq_sld B hX hbl hbA hS (jp_ok_vp g_1) dL_law_865 ?_
  obtain ⟨⟨a_2, σ_2, τ_2⟩, h_2, hf⟩ := jp_bind hf
  dsimp only at hf
  refine jp_callV (rest := []) B hP hS hl (ctX7_count hX0 h_2) hX0.1 rfl mw_566 mw_563 mw_564 mw_565 mw_2 ddX7_count ⟨Nat.le_of_ble_eq_true rfl, Nat.le_of_ble_eq_true rfl⟩ ⟨Nat.le_trans (Nat.le_add_right _ _) hc0, Nat.le_trans (Nat.le_add_right _ _) hs0⟩ rfl (Nat.le_of_ble_eq_true rfl) dL_law_866 (fun H locs hP hS => ?_)
  refine lv_aload_n hx hb dL_law_869 rfl (lv_at hl 2 rfl) ?_
  refine lv_aload_n hx hb dL_law_870 rfl (lv_at hl 0 rfl) ?_
  refine lv_iload hx hb dL_law_871 (lv_at hl 4 rfl) ?_
  refine lv_iconst (v := 1) hx hb dL_law_873 (by decide) ?_
  refine lv_iadd hx hb dL_law_874 ?_
  refine jq_sld B hX hbl hbA hS (jp_ok_vp g_1) dL_law_875 ?_
  obtain ⟨⟨a_3, σ_3, τ_3⟩, h_3, hf⟩ := jp_bind hf
  dsimp only at hf
  refine jp_callV (rest := [.int a_2]) B hP hS hl (ctX8_count hM h_3) hM.1 rfl mw_570 mw_567 mw_568 mw_569 mw_5 ddX8_count ⟨Nat.le_of_ble_eq_true rfl, Nat.le_of_ble_eq_true rfl⟩ ⟨Nat.le_trans (Nat.le_add_right _ _) hc0, Nat.le_trans (Nat.le_add_right _ _) hs0⟩ rfl (Nat.le_of_ble_eq_true rfl) dL_law_876 (fun H locs hP hS => ?_)
  refine lv_icmp_eq (tgt := 884) hx hb dL_law_879 (by decide) (fun c_4 => ?_) (fun c_4 => ?_)
  · rw [if_pos c_4] at hf
    obtain ⟨rfl, rfl⟩ := jp_injK hf
    refine W.widen (Nat.le_add_right cells 3) (Nat.le_add_right slots 18) ?_
    exact kk H locs ls hP hS (lv_sub hl [0, 1, 2, 3, 4] rfl)
  · rw [if_neg c_4] at hf
    cases hf
