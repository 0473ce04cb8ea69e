set_option maxHeartbeats 1000000 in
set_option maxRecDepth 100000 in
theorem law_add {p : Program} {l : Launch} {e : Env} {s : State} {m : MethodId} {below : List Frame} {meth : Method} {c : Code} {b L : Nat} {xs : Nat → Int32} {g : Ge} (C0 : lwC l p s m meth c b L xs g) {t : Nat} (ht : 6 * t + 6 ≤ L) (hn : lwG p l e s m below meth c b g (t + 1) 23) : lwG p l e s m below meth c b g t 136 := by
  obtain ⟨⟨hx, hb, hr, hml, hown, hts, hX, hbl, hlocks, hgv⟩, hC, hz, hfl, hL⟩ := C0
  intro a σ μ o H locs ls hR hW hS hl
  have htsW : ∀ w ∈ wsL_law, w.before #[Value.ref b] s = true := fun w h => hts w (wsL_law_in w h)
  have hbA : ¬ Az g b := fun h => by unfold Az at h; rw [hz] at h; exact absurd hbl (by omega)
  have hM := hR.M
  have ha := hR.ha
  unfold CC SS
  have hl : lv_has ls 7 [(4, .int (nI (6 * t))), (0, .ref b), (1, .ref (gA g 0)), (2, .ref (gA g 4)), (3, .ref (gA g 12))] := hl
  refine lv_aload_n hx hb dL_law_136 rfl (lv_at hl 2 rfl) ?_
  refine lv_aload_n hx hb dL_law_137 rfl (lv_at hl 1 rfl) ?_
  refine lv_iload hx hb dL_law_138 (lv_at hl 0 rfl) ?_
  refine lv_iconst (v := 1) hx hb dL_law_140 (by decide) ?_
  refine lv_iadd hx hb dL_law_141 ?_
  refine va_sld hx hb hX hbl hbA hS (s_in (k := 1) ht hL (by decide)) dL_law_142 ?_
  refine lv_aload_n hx hb dL_law_143 rfl (lv_at hl 1 rfl) ?_
  refine lv_iload hx hb dL_law_144 (lv_at hl 0 rfl) ?_
  refine lv_iconst (v := 2) hx hb dL_law_146 (by decide) ?_
  refine lv_iadd hx hb dL_law_147 ?_
  refine va_sld hx hb hX hbl hbA hS (s_in (k := 2) ht hL (by decide)) dL_law_148 ?_
  refine lv_aload_n hx hb dL_law_149 rfl (lv_at hl 1 rfl) ?_
  refine lv_iload hx hb dL_law_150 (lv_at hl 0 rfl) ?_
  refine lv_iconst (v := 3) hx hb dL_law_152 (by decide) ?_
  refine lv_iadd hx hb dL_law_153 ?_
  refine va_sld hx hb hX hbl hbA hS (s_in (k := 3) ht hL (by decide)) dL_law_154 ?_
  refine lv_aload_n hx hb dL_law_155 rfl (lv_at hl 1 rfl) ?_
  refine lv_iload hx hb dL_law_156 (lv_at hl 0 rfl) ?_
  refine lv_iconst (v := 4) hx hb dL_law_158 (by decide) ?_
  refine lv_iadd hx hb dL_law_159 ?_
  refine va_sld hx hb hX hbl hbA hS (s_in (k := 4) ht hL (by decide)) dL_law_160 ?_
  refine lv_aload_n hx hb dL_law_161 rfl (lv_at hl 1 rfl) ?_
  refine lv_iload hx hb dL_law_162 (lv_at hl 0 rfl) ?_
  refine lv_iconst (v := 5) hx hb dL_law_164 (by decide) ?_
  refine lv_iadd hx hb dL_law_165 ?_
  refine va_sld hx hb hX hbl hbA hS (s_in (k := 5) ht hL (by decide)) dL_law_166 ?_
  refine lv_aload_n hx hb dL_law_167 rfl (lv_at hl 4 rfl) ?_
  refine va_calli (vx_runSW (As := [.ref (gA g 0), .int ((xs (nI (6 * t) + 1).toNatClampNeg)), .int ((xs (nI (6 * t) + 2).toNatClampNeg)), .int ((xs (nI (6 * t) + 3).toNatClampNeg)), .int ((xs (nI (6 * t) + 4).toNatClampNeg)), .int ((xs (nI (6 * t) + 5).toNatClampNeg)), .ref (gA g 12)]) (rest := []) ⟨hx, hb, hml, hown, htsW⟩ (mtL_add l g σ μ o hfl (xs (nI (6 * t) + 1).toNatClampNeg) (xs (nI (6 * t) + 2).toNatClampNeg) (xs (nI (6 * t) + 3).toNatClampNeg) (xs (nI (6 * t) + 4).toNatClampNeg) (xs (nI (6 * t) + 5).toNatClampNeg)) (vx_cwSW 7 htsW gL_law_L_add rfl rfl rfl (by decide +kernel) ⟨Nat.le_of_ble_eq_true rfl, Nat.le_of_ble_eq_true rfl⟩) ⟨PW.blind, fun U hU hW9 => ⟨rfl, PW.at hC hS hW U hU hW9⟩⟩ rfl rfl hl.1 rfl (lv_room (Nat.le_of_ble_eq_true rfl)) dL_law_168 ⟨show 29 + 4 * t + 1 ≤ 638081 by omega, show 611 + 24 * t + 6 ≤ 7181861 by omega⟩) hS (fun _ _ h => h) (fun _ h => h) (fun k y t9 H locs ht9 hvm hq hB hz9 hk9 hS => ?_)
  have hF := op_add hR (xs (nI (6 * t) + 1).toNatClampNeg) (xs (nI (6 * t) + 2).toNatClampNeg) (xs (nI (6 * t) + 3).toNatClampNeg) (xs (nI (6 * t) + 4).toNatClampNeg) (xs (nI (6 * t) + 5).toNatClampNeg)
  obtain ⟨σ1, o1, a1, hk, hW, hR1, ho⟩ := opx (w := fun r => r.toInt64) hF (fun _ _ h => h.1) hq hB
  have hth := hF.2.1
  rw [ht9] at hW
  refine lv_istore (lv' := [(5, .int k), (4, .int (nI (6 * t))), (0, .ref b), (1, .ref (gA g 0)), (2, .ref (gA g 4)), (3, .ref (gA g 12))]) hx hb dL_law_171 hl (by decide) rfl (fun ls hl => ?_)
  refine lv_aload_n hx hb dL_law_173 rfl (lv_at hl 4 rfl) ?_
  refine lv_aload_n hx hb dL_law_174 rfl (lv_at hl 2 rfl) ?_
  refine lv_iload hx hb dL_law_175 (lv_at hl 1 rfl) ?_
  refine lv_iconst (v := 1) hx hb dL_law_177 (by decide) ?_
  refine lv_iadd hx hb dL_law_178 ?_
  refine va_sld hx hb hX hbl hbA hS (s_in (k := 1) ht hL (by decide)) dL_law_179 ?_
  refine lv_aload_n hx hb dL_law_180 rfl (lv_at hl 2 rfl) ?_
  refine lv_iload hx hb dL_law_181 (lv_at hl 1 rfl) ?_
  refine lv_iconst (v := 2) hx hb dL_law_183 (by decide) ?_
  refine lv_iadd hx hb dL_law_184 ?_
  refine va_sld hx hb hX hbl hbA hS (s_in (k := 2) ht hL (by decide)) dL_law_185 ?_
  refine lv_aload_n hx hb dL_law_186 rfl (lv_at hl 2 rfl) ?_
  refine lv_iload hx hb dL_law_187 (lv_at hl 1 rfl) ?_
  refine lv_iconst (v := 3) hx hb dL_law_189 (by decide) ?_
  refine lv_iadd hx hb dL_law_190 ?_
  refine va_sld hx hb hX hbl hbA hS (s_in (k := 3) ht hL (by decide)) dL_law_191 ?_
  refine lv_aload_n hx hb dL_law_192 rfl (lv_at hl 2 rfl) ?_
  refine lv_iload hx hb dL_law_193 (lv_at hl 1 rfl) ?_
  refine lv_iconst (v := 4) hx hb dL_law_195 (by decide) ?_
  refine lv_iadd hx hb dL_law_196 ?_
  refine va_sld hx hb hX hbl hbA hS (s_in (k := 4) ht hL (by decide)) dL_law_197 ?_
  refine lv_aload_n hx hb dL_law_198 rfl (lv_at hl 2 rfl) ?_
  refine lv_iload hx hb dL_law_199 (lv_at hl 1 rfl) ?_
  refine lv_iconst (v := 5) hx hb dL_law_201 (by decide) ?_
  refine lv_iadd hx hb dL_law_202 ?_
  refine va_sld hx hb hX hbl hbA hS (s_in (k := 5) ht hL (by decide)) dL_law_203 ?_
  refine va_calli (va_runV (As := [.int ((xs (nI (6 * t) + 1).toNatClampNeg)), .int ((xs (nI (6 * t) + 2).toNatClampNeg)), .int ((xs (nI (6 * t) + 3).toNatClampNeg)), .int ((xs (nI (6 * t) + 4).toNatClampNeg)), .int ((xs (nI (6 * t) + 5).toNatClampNeg))]) (rest := []) ⟨hx, hb, hml, hown, htsW⟩ (mtX3_add l g σ1 μ o1 (xs (nI (6 * t) + 1).toNatClampNeg) (xs (nI (6 * t) + 2).toNatClampNeg) (xs (nI (6 * t) + 3).toNatClampNeg) (xs (nI (6 * t) + 4).toNatClampNeg) (xs (nI (6 * t) + 5).toNatClampNeg) a hM ha) (cwV 5 htsW gL_law_X3_add rfl rfl rfl (by decide +kernel) ⟨Nat.le_of_ble_eq_true rfl, Nat.le_of_ble_eq_true rfl⟩) ⟨PW.blind, rcM hC hW, fun U hU hW9 => ⟨rfl, PW.at hC hS hW U hU hW9⟩⟩ rfl rfl hl.1 rfl (lv_room (Nat.le_of_ble_eq_true rfl)) dL_law_204 ⟨show 29 + 4 * t + 1 + 0 ≤ 638081 by omega, show 611 + 24 * t + 6 + 0 ≤ 7181861 by omega⟩) hS (fun _ _ h => h) (fun _ h => h) (fun r2 u2 t8 H locs ht8 hvm2 h2 hW hz8 hk8 hS => ?_)
  replace hW : Wd g σ1 (adM μ a (xs (nI (6 * t) + 1).toNatClampNeg) (xs (nI (6 * t) + 2).toNatClampNeg) (xs (nI (6 * t) + 3).toNatClampNeg) (xs (nI (6 * t) + 4).toNatClampNeg) (xs (nI (6 * t) + 5).toNatClampNeg)) o1 H := by rw [← ht8]; exact hW
  replace h2 : r2 = adR μ a (xs (nI (6 * t) + 1).toNatClampNeg) (xs (nI (6 * t) + 2).toNatClampNeg) (xs (nI (6 * t) + 3).toNatClampNeg) (xs (nI (6 * t) + 4).toNatClampNeg) (xs (nI (6 * t) + 5).toNatClampNeg) := h2
  refine lv_istore (lv' := [(6, .int r2), (5, .int k), (4, .int (nI (6 * t))), (0, .ref b), (1, .ref (gA g 0)), (2, .ref (gA g 4)), (3, .ref (gA g 12))]) hx hb dL_law_207 hl (by decide) rfl (fun ls hl => ?_)
  refine lv_aload_n hx hb dL_law_209 rfl (lv_at hl 5 rfl) ?_
  refine vp_callSi (va_Run.run (va_runV (As := []) (rest := []) ⟨hx, hb, hml, hown, htsW⟩ (mtX3_thrown l g σ1 ((adM μ a (xs (nI (6 * t) + 1).toNatClampNeg) (xs (nI (6 * t) + 2).toNatClampNeg) (xs (nI (6 * t) + 3).toNatClampNeg) (xs (nI (6 * t) + 4).toNatClampNeg) (xs (nI (6 * t) + 5).toNatClampNeg))) o1 ) (cwV 0 htsW gL_law_X3_thrown rfl rfl rfl (by decide +kernel) ⟨Nat.le_of_ble_eq_true rfl, Nat.le_of_ble_eq_true rfl⟩) ⟨PW.blind, rcM hC hW, fun U hU hW9 => ⟨rfl, PW.at hC hS hW U hU hW9⟩⟩ rfl rfl hl.1 rfl (lv_room (Nat.le_of_ble_eq_true rfl)) dL_law_210 ⟨show 29 + 4 * t + 1 + 0 + 0 ≤ 638081 by omega, show 611 + 24 * t + 6 + 0 + 0 ≤ 7181861 by omega⟩)) (fun r1 h1 => ?_)
  replace h1 : r1 = ((adM μ a (xs (nI (6 * t) + 1).toNatClampNeg) (xs (nI (6 * t) + 2).toNatClampNeg) (xs (nI (6 * t) + 3).toNatClampNeg) (xs (nI (6 * t) + 4).toNatClampNeg) (xs (nI (6 * t) + 5).toNatClampNeg))).1 12 := h1
  refine lv_iload hx hb dL_law_213 (lv_at hl 1 rfl) ?_
  refine lv_icmp_eq (tgt := 220) hx hb dL_law_215 (by decide) (fun c1 => ?_) (fun c1 => ?_)
  rotate_left
  · exact absurd (h1.trans (hth.trans hk.symm)) c1
  refine lv_iload hx hb dL_law_220 (lv_at hl 1 rfl) ?_
  refine lv_if_ne (tgt := 237) hx hb dL_law_222 (by decide) (fun c2 => ?_) (fun c2 => ?_)
  · skip
    refine lv_goto (tgt := 1100) hx hb dL_law_237 (by decide) ?_
    refine lv_iinc (v := nI (6 * (t + 1))) (lv' := [(4, .int (nI (6 * (t + 1)))), (6, .int r2), (5, .int k), (0, .ref b), (1, .ref (gA g 0)), (2, .ref (gA g 4)), (3, .ref (gA g 12))]) hx hb dL_law_1100 hl (k := 2) rfl (s_nx t) (by decide) rfl (fun ls hl => ?_)
    refine lv_goto (tgt := 23) hx hb dL_law_1103 (by decide) ?_
    refine W.widen (k := CC (t + 1)) (n := SS (t + 1)) (by unfold CC; omega) (by unfold SS; omega) ?_
    exact hn a1 σ1 (adM μ a (xs (nI (6 * t) + 1).toNatClampNeg) (xs (nI (6 * t) + 2).toNatClampNeg) (xs (nI (6 * t) + 3).toNatClampNeg) (xs (nI (6 * t) + 4).toNatClampNeg) (xs (nI (6 * t) + 5).toNatClampNeg)) o1 H locs ls hR1 hW hS (by exact lv_sub hl [0, 3, 4, 5, 6] rfl)
  · skip
    refine lv_aload_n hx hb dL_law_225 rfl (lv_at hl 6 rfl) ?_
    refine lv_iconst (v := 0) hx hb dL_law_226 (by decide) ?_
    refine oLd hx hb hC hW dL_law_227 ?_
    refine lv_iload hx hb dL_law_228 (lv_at hl 0 rfl) ?_
    refine lv_i2l hx hb dL_law_230 rfl ?_
    refine W.lcmp hx hb dL_law_231 ?_
    refine lv_if_eq (tgt := 237) hx hb dL_law_232 (by decide) (fun c3 => ?_) (fun c3 => absurd (by rw [ho c2, h2]; exact cmp_eq _) c3)
    refine lv_goto (tgt := 1100) hx hb dL_law_237 (by decide) ?_
    refine lv_iinc (v := nI (6 * (t + 1))) (lv' := [(4, .int (nI (6 * (t + 1)))), (6, .int r2), (5, .int k), (0, .ref b), (1, .ref (gA g 0)), (2, .ref (gA g 4)), (3, .ref (gA g 12))]) hx hb dL_law_1100 hl (k := 2) rfl (s_nx t) (by decide) rfl (fun ls hl => ?_)
    refine lv_goto (tgt := 23) hx hb dL_law_1103 (by decide) ?_
    refine W.widen (k := CC (t + 1)) (n := SS (t + 1)) (by unfold CC; omega) (by unfold SS; omega) ?_
    exact hn a1 σ1 (adM μ a (xs (nI (6 * t) + 1).toNatClampNeg) (xs (nI (6 * t) + 2).toNatClampNeg) (xs (nI (6 * t) + 3).toNatClampNeg) (xs (nI (6 * t) + 4).toNatClampNeg) (xs (nI (6 * t) + 5).toNatClampNeg)) o1 H locs ls hR1 hW hS (by exact lv_sub hl [0, 3, 4, 5, 6] rfl)

set_option maxHeartbeats 1000000 in
set_option maxRecDepth 100000 in
theorem law_remove {p : Program} {l : Launch} {e : Env} {s : State} {m : MethodId} {below : List Frame} {meth : Method} {c : Code} {b L : Nat} {xs : Nat → Int32} {g : Ge} (C0 : lwC l p s m meth c b L xs g) {t : Nat} (ht : 6 * t + 6 ≤ L) (hn : lwG p l e s m below meth c b g (t + 1) 23) : lwG p l e s m below meth c b g t 240 := by
  obtain ⟨⟨hx, hb, hr, hml, hown, hts, hX, hbl, hlocks, hgv⟩, hC, hz, hfl, hL⟩ := C0
  intro a σ μ o H locs ls hR hW hS hl
  have htsW : ∀ w ∈ wsL_law, w.before #[Value.ref b] s = true := fun w h => hts w (wsL_law_in w h)
  have hbA : ¬ Az g b := fun h => by unfold Az at h; rw [hz] at h; exact absurd hbl (by omega)
  have hM := hR.M
  have ha := hR.ha
  unfold CC SS
  have hl : lv_has ls 7 [(4, .int (nI (6 * t))), (0, .ref b), (1, .ref (gA g 0)), (2, .ref (gA g 4)), (3, .ref (gA g 12))] := hl
  refine lv_aload_n hx hb dL_law_240 rfl (lv_at hl 2 rfl) ?_
  refine lv_aload_n hx hb dL_law_241 rfl (lv_at hl 1 rfl) ?_
  refine lv_iload hx hb dL_law_242 (lv_at hl 0 rfl) ?_
  refine lv_iconst (v := 1) hx hb dL_law_244 (by decide) ?_
  refine lv_iadd hx hb dL_law_245 ?_
  refine va_sld hx hb hX hbl hbA hS (s_in (k := 1) ht hL (by decide)) dL_law_246 ?_
  refine lv_aload_n hx hb dL_law_247 rfl (lv_at hl 4 rfl) ?_
  refine va_calli (vx_runSW (As := [.ref (gA g 0), .int ((xs (nI (6 * t) + 1).toNatClampNeg)), .ref (gA g 12)]) (rest := []) ⟨hx, hb, hml, hown, htsW⟩ (mtL_remove l g σ μ o hfl (xs (nI (6 * t) + 1).toNatClampNeg)) (vx_cwSW 3 htsW gL_law_L_remove rfl rfl rfl (by decide +kernel) ⟨Nat.le_of_ble_eq_true rfl, Nat.le_of_ble_eq_true rfl⟩) ⟨PW.blind, fun U hU hW9 => ⟨rfl, PW.at hC hS hW U hU hW9⟩⟩ rfl rfl hl.1 rfl (lv_room (Nat.le_of_ble_eq_true rfl)) dL_law_248 ⟨show 29 + 4 * t + 1 ≤ 638081 by omega, show 611 + 24 * t + 6 ≤ 7181861 by omega⟩) hS (fun _ _ h => h) (fun _ h => h) (fun k y t9 H locs ht9 hvm hq hB hz9 hk9 hS => ?_)
  have hF := op_remove hR (xs (nI (6 * t) + 1).toNatClampNeg)
  obtain ⟨σ1, o1, a1, hk, hW, hR1, ho⟩ := opx (w := fun r => r.toInt64) hF (fun _ _ h => h.1) hq hB
  have hth := hF.2.1
  rw [ht9] at hW
  refine lv_istore (lv' := [(5, .int k), (4, .int (nI (6 * t))), (0, .ref b), (1, .ref (gA g 0)), (2, .ref (gA g 4)), (3, .ref (gA g 12))]) hx hb dL_law_251 hl (by decide) rfl (fun ls hl => ?_)
  refine lv_aload_n hx hb dL_law_253 rfl (lv_at hl 4 rfl) ?_
  refine lv_aload_n hx hb dL_law_254 rfl (lv_at hl 2 rfl) ?_
  refine lv_iload hx hb dL_law_255 (lv_at hl 1 rfl) ?_
  refine lv_iconst (v := 1) hx hb dL_law_257 (by decide) ?_
  refine lv_iadd hx hb dL_law_258 ?_
  refine va_sld hx hb hX hbl hbA hS (s_in (k := 1) ht hL (by decide)) dL_law_259 ?_
  refine va_calli (va_runV (As := [.int ((xs (nI (6 * t) + 1).toNatClampNeg))]) (rest := []) ⟨hx, hb, hml, hown, htsW⟩ (mtX3_remove l g σ1 μ o1 (xs (nI (6 * t) + 1).toNatClampNeg) a hM ha) (cwV 1 htsW gL_law_X3_remove rfl rfl rfl (by decide +kernel) ⟨Nat.le_of_ble_eq_true rfl, Nat.le_of_ble_eq_true rfl⟩) ⟨PW.blind, rcM hC hW, fun U hU hW9 => ⟨rfl, PW.at hC hS hW U hU hW9⟩⟩ rfl rfl hl.1 rfl (lv_room (Nat.le_of_ble_eq_true rfl)) dL_law_260 ⟨show 29 + 4 * t + 1 + 0 ≤ 638081 by omega, show 611 + 24 * t + 6 + 0 ≤ 7181861 by omega⟩) hS (fun _ _ h => h) (fun _ h => h) (fun r2 u2 t8 H locs ht8 hvm2 h2 hW hz8 hk8 hS => ?_)
  replace hW : Wd g σ1 (reM μ (xs (nI (6 * t) + 1).toNatClampNeg)) o1 H := by rw [← ht8]; exact hW
  replace h2 : r2 = reR μ a (xs (nI (6 * t) + 1).toNatClampNeg) := h2
  refine lv_istore (lv' := [(6, .int r2), (5, .int k), (4, .int (nI (6 * t))), (0, .ref b), (1, .ref (gA g 0)), (2, .ref (gA g 4)), (3, .ref (gA g 12))]) hx hb dL_law_263 hl (by decide) rfl (fun ls hl => ?_)
  refine lv_aload_n hx hb dL_law_265 rfl (lv_at hl 5 rfl) ?_
  refine vp_callSi (va_Run.run (va_runV (As := []) (rest := []) ⟨hx, hb, hml, hown, htsW⟩ (mtX3_thrown l g σ1 ((reM μ (xs (nI (6 * t) + 1).toNatClampNeg))) o1 ) (cwV 0 htsW gL_law_X3_thrown rfl rfl rfl (by decide +kernel) ⟨Nat.le_of_ble_eq_true rfl, Nat.le_of_ble_eq_true rfl⟩) ⟨PW.blind, rcM hC hW, fun U hU hW9 => ⟨rfl, PW.at hC hS hW U hU hW9⟩⟩ rfl rfl hl.1 rfl (lv_room (Nat.le_of_ble_eq_true rfl)) dL_law_266 ⟨show 29 + 4 * t + 1 + 0 + 0 ≤ 638081 by omega, show 611 + 24 * t + 6 + 0 + 0 ≤ 7181861 by omega⟩)) (fun r1 h1 => ?_)
  replace h1 : r1 = ((reM μ (xs (nI (6 * t) + 1).toNatClampNeg))).1 12 := h1
  refine lv_iload hx hb dL_law_269 (lv_at hl 1 rfl) ?_
  refine lv_icmp_eq (tgt := 276) hx hb dL_law_271 (by decide) (fun c1 => ?_) (fun c1 => ?_)
  rotate_left
  · exact absurd (h1.trans (hth.trans hk.symm)) c1
  refine lv_iload hx hb dL_law_276 (lv_at hl 1 rfl) ?_
  refine lv_if_ne (tgt := 293) hx hb dL_law_278 (by decide) (fun c2 => ?_) (fun c2 => ?_)
  · skip
    refine lv_goto (tgt := 1100) hx hb dL_law_293 (by decide) ?_
    refine lv_iinc (v := nI (6 * (t + 1))) (lv' := [(4, .int (nI (6 * (t + 1)))), (6, .int r2), (5, .int k), (0, .ref b), (1, .ref (gA g 0)), (2, .ref (gA g 4)), (3, .ref (gA g 12))]) hx hb dL_law_1100 hl (k := 2) rfl (s_nx t) (by decide) rfl (fun ls hl => ?_)
    refine lv_goto (tgt := 23) hx hb dL_law_1103 (by decide) ?_
    refine W.widen (k := CC (t + 1)) (n := SS (t + 1)) (by unfold CC; omega) (by unfold SS; omega) ?_
    exact hn a1 σ1 (reM μ (xs (nI (6 * t) + 1).toNatClampNeg)) o1 H locs ls hR1 hW hS (by exact lv_sub hl [0, 3, 4, 5, 6] rfl)
  · skip
    refine lv_aload_n hx hb dL_law_281 rfl (lv_at hl 6 rfl) ?_
    refine lv_iconst (v := 0) hx hb dL_law_282 (by decide) ?_
    refine oLd hx hb hC hW dL_law_283 ?_
    refine lv_iload hx hb dL_law_284 (lv_at hl 0 rfl) ?_
    refine lv_i2l hx hb dL_law_286 rfl ?_
    refine W.lcmp hx hb dL_law_287 ?_
    refine lv_if_eq (tgt := 293) hx hb dL_law_288 (by decide) (fun c3 => ?_) (fun c3 => absurd (by rw [ho c2, h2]; exact cmp_eq _) c3)
    refine lv_goto (tgt := 1100) hx hb dL_law_293 (by decide) ?_
    refine lv_iinc (v := nI (6 * (t + 1))) (lv' := [(4, .int (nI (6 * (t + 1)))), (6, .int r2), (5, .int k), (0, .ref b), (1, .ref (gA g 0)), (2, .ref (gA g 4)), (3, .ref (gA g 12))]) hx hb dL_law_1100 hl (k := 2) rfl (s_nx t) (by decide) rfl (fun ls hl => ?_)
    refine lv_goto (tgt := 23) hx hb dL_law_1103 (by decide) ?_
    refine W.widen (k := CC (t + 1)) (n := SS (t + 1)) (by unfold CC; omega) (by unfold SS; omega) ?_
    exact hn a1 σ1 (reM μ (xs (nI (6 * t) + 1).toNatClampNeg)) o1 H locs ls hR1 hW hS (by exact lv_sub hl [0, 3, 4, 5, 6] rfl)

set_option maxHeartbeats 1000000 in
set_option maxRecDepth 100000 in
theorem law_edit {p : Program} {l : Launch} {e : Env} {s : State} {m : MethodId} {below : List Frame} {meth : Method} {c : Code} {b L : Nat} {xs : Nat → Int32} {g : Ge} (C0 : lwC l p s m meth c b L xs g) {t : Nat} (ht : 6 * t + 6 ≤ L) (hn : lwG p l e s m below meth c b g (t + 1) 23) : lwG p l e s m below meth c b g t 296 := by
  obtain ⟨⟨hx, hb, hr, hml, hown, hts, hX, hbl, hlocks, hgv⟩, hC, hz, hfl, hL⟩ := C0
  intro a σ μ o H locs ls hR hW hS hl
  have htsW : ∀ w ∈ wsL_law, w.before #[Value.ref b] s = true := fun w h => hts w (wsL_law_in w h)
  have hbA : ¬ Az g b := fun h => by unfold Az at h; rw [hz] at h; exact absurd hbl (by omega)
  have hM := hR.M
  have ha := hR.ha
  unfold CC SS
  have hl : lv_has ls 7 [(4, .int (nI (6 * t))), (0, .ref b), (1, .ref (gA g 0)), (2, .ref (gA g 4)), (3, .ref (gA g 12))] := hl
  refine lv_aload_n hx hb dL_law_296 rfl (lv_at hl 2 rfl) ?_
  refine lv_aload_n hx hb dL_law_297 rfl (lv_at hl 1 rfl) ?_
  refine lv_iload hx hb dL_law_298 (lv_at hl 0 rfl) ?_
  refine lv_iconst (v := 1) hx hb dL_law_300 (by decide) ?_
  refine lv_iadd hx hb dL_law_301 ?_
  refine va_sld hx hb hX hbl hbA hS (s_in (k := 1) ht hL (by decide)) dL_law_302 ?_
  refine lv_aload_n hx hb dL_law_303 rfl (lv_at hl 1 rfl) ?_
  refine lv_iload hx hb dL_law_304 (lv_at hl 0 rfl) ?_
  refine lv_iconst (v := 2) hx hb dL_law_306 (by decide) ?_
  refine lv_iadd hx hb dL_law_307 ?_
  refine va_sld hx hb hX hbl hbA hS (s_in (k := 2) ht hL (by decide)) dL_law_308 ?_
  refine lv_aload_n hx hb dL_law_309 rfl (lv_at hl 4 rfl) ?_
  refine va_calli (vx_runSW (As := [.ref (gA g 0), .int ((xs (nI (6 * t) + 1).toNatClampNeg)), .int ((xs (nI (6 * t) + 2).toNatClampNeg)), .ref (gA g 12)]) (rest := []) ⟨hx, hb, hml, hown, htsW⟩ (mtL_edit l g σ μ o hfl (xs (nI (6 * t) + 1).toNatClampNeg) (xs (nI (6 * t) + 2).toNatClampNeg)) (vx_cwSW 4 htsW gL_law_L_edit rfl rfl rfl (by decide +kernel) ⟨Nat.le_of_ble_eq_true rfl, Nat.le_of_ble_eq_true rfl⟩) ⟨PW.blind, fun U hU hW9 => ⟨rfl, PW.at hC hS hW U hU hW9⟩⟩ rfl rfl hl.1 rfl (lv_room (Nat.le_of_ble_eq_true rfl)) dL_law_310 ⟨show 29 + 4 * t + 3 ≤ 638081 by omega, show 611 + 24 * t + 18 ≤ 7181861 by omega⟩) hS (fun _ _ h => h) (fun _ h => h) (fun k y t9 H locs ht9 hvm hq hB hz9 hk9 hS => ?_)
  have hF := op_edit hR (xs (nI (6 * t) + 1).toNatClampNeg) (xs (nI (6 * t) + 2).toNatClampNeg)
  obtain ⟨σ1, o1, a1, hk, hW, hR1, ho⟩ := opx (w := fun r => r.toInt64) hF (fun _ _ h => h.1) hq hB
  have hth := hF.2.1
  rw [ht9] at hW
  refine lv_istore (lv' := [(5, .int k), (4, .int (nI (6 * t))), (0, .ref b), (1, .ref (gA g 0)), (2, .ref (gA g 4)), (3, .ref (gA g 12))]) hx hb dL_law_313 hl (by decide) rfl (fun ls hl => ?_)
  refine lv_aload_n hx hb dL_law_315 rfl (lv_at hl 4 rfl) ?_
  refine lv_aload_n hx hb dL_law_316 rfl (lv_at hl 2 rfl) ?_
  refine lv_iload hx hb dL_law_317 (lv_at hl 1 rfl) ?_
  refine lv_iconst (v := 1) hx hb dL_law_319 (by decide) ?_
  refine lv_iadd hx hb dL_law_320 ?_
  refine va_sld hx hb hX hbl hbA hS (s_in (k := 1) ht hL (by decide)) dL_law_321 ?_
  refine lv_aload_n hx hb dL_law_322 rfl (lv_at hl 2 rfl) ?_
  refine lv_iload hx hb dL_law_323 (lv_at hl 1 rfl) ?_
  refine lv_iconst (v := 2) hx hb dL_law_325 (by decide) ?_
  refine lv_iadd hx hb dL_law_326 ?_
  refine va_sld hx hb hX hbl hbA hS (s_in (k := 2) ht hL (by decide)) dL_law_327 ?_
  refine va_calli (va_runV (As := [.int ((xs (nI (6 * t) + 1).toNatClampNeg)), .int ((xs (nI (6 * t) + 2).toNatClampNeg))]) (rest := []) ⟨hx, hb, hml, hown, htsW⟩ (mtX3_edit l g σ1 μ o1 (xs (nI (6 * t) + 1).toNatClampNeg) (xs (nI (6 * t) + 2).toNatClampNeg) a hM ha) (cwV 2 htsW gL_law_X3_edit rfl rfl rfl (by decide +kernel) ⟨Nat.le_of_ble_eq_true rfl, Nat.le_of_ble_eq_true rfl⟩) ⟨PW.blind, rcM hC hW, fun U hU hW9 => ⟨rfl, PW.at hC hS hW U hU hW9⟩⟩ rfl rfl hl.1 rfl (lv_room (Nat.le_of_ble_eq_true rfl)) dL_law_328 ⟨show 29 + 4 * t + 3 + 0 ≤ 638081 by omega, show 611 + 24 * t + 18 + 0 ≤ 7181861 by omega⟩) hS (fun _ _ h => h) (fun _ h => h) (fun r2 u2 t8 H locs ht8 hvm2 h2 hW hz8 hk8 hS => ?_)
  replace hW : Wd g σ1 (edM μ (xs (nI (6 * t) + 1).toNatClampNeg) (xs (nI (6 * t) + 2).toNatClampNeg)) o1 H := by rw [← ht8]; exact hW
  replace h2 : r2 = edR μ (xs (nI (6 * t) + 1).toNatClampNeg) (xs (nI (6 * t) + 2).toNatClampNeg) := h2
  refine lv_istore (lv' := [(6, .int r2), (5, .int k), (4, .int (nI (6 * t))), (0, .ref b), (1, .ref (gA g 0)), (2, .ref (gA g 4)), (3, .ref (gA g 12))]) hx hb dL_law_331 hl (by decide) rfl (fun ls hl => ?_)
  refine lv_aload_n hx hb dL_law_333 rfl (lv_at hl 5 rfl) ?_
  refine vp_callSi (va_Run.run (va_runV (As := []) (rest := []) ⟨hx, hb, hml, hown, htsW⟩ (mtX3_thrown l g σ1 ((edM μ (xs (nI (6 * t) + 1).toNatClampNeg) (xs (nI (6 * t) + 2).toNatClampNeg))) o1 ) (cwV 0 htsW gL_law_X3_thrown rfl rfl rfl (by decide +kernel) ⟨Nat.le_of_ble_eq_true rfl, Nat.le_of_ble_eq_true rfl⟩) ⟨PW.blind, rcM hC hW, fun U hU hW9 => ⟨rfl, PW.at hC hS hW U hU hW9⟩⟩ rfl rfl hl.1 rfl (lv_room (Nat.le_of_ble_eq_true rfl)) dL_law_334 ⟨show 29 + 4 * t + 3 + 0 + 0 ≤ 638081 by omega, show 611 + 24 * t + 18 + 0 + 0 ≤ 7181861 by omega⟩)) (fun r1 h1 => ?_)
  replace h1 : r1 = ((edM μ (xs (nI (6 * t) + 1).toNatClampNeg) (xs (nI (6 * t) + 2).toNatClampNeg))).1 12 := h1
  refine lv_iload hx hb dL_law_337 (lv_at hl 1 rfl) ?_
  refine lv_icmp_eq (tgt := 344) hx hb dL_law_339 (by decide) (fun c1 => ?_) (fun c1 => ?_)
  rotate_left
  · exact absurd (h1.trans (hth.trans hk.symm)) c1
  refine lv_iload hx hb dL_law_344 (lv_at hl 1 rfl) ?_
  refine lv_if_ne (tgt := 361) hx hb dL_law_346 (by decide) (fun c2 => ?_) (fun c2 => ?_)
  · skip
    refine lv_goto (tgt := 1100) hx hb dL_law_361 (by decide) ?_
    refine lv_iinc (v := nI (6 * (t + 1))) (lv' := [(4, .int (nI (6 * (t + 1)))), (6, .int r2), (5, .int k), (0, .ref b), (1, .ref (gA g 0)), (2, .ref (gA g 4)), (3, .ref (gA g 12))]) hx hb dL_law_1100 hl (k := 2) rfl (s_nx t) (by decide) rfl (fun ls hl => ?_)
    refine lv_goto (tgt := 23) hx hb dL_law_1103 (by decide) ?_
    refine W.widen (k := CC (t + 1)) (n := SS (t + 1)) (by unfold CC; omega) (by unfold SS; omega) ?_
    exact hn a1 σ1 (edM μ (xs (nI (6 * t) + 1).toNatClampNeg) (xs (nI (6 * t) + 2).toNatClampNeg)) o1 H locs ls hR1 hW hS (by exact lv_sub hl [0, 3, 4, 5, 6] rfl)
  · skip
    refine lv_aload_n hx hb dL_law_349 rfl (lv_at hl 6 rfl) ?_
    refine lv_iconst (v := 0) hx hb dL_law_350 (by decide) ?_
    refine oLd hx hb hC hW dL_law_351 ?_
    refine lv_iload hx hb dL_law_352 (lv_at hl 0 rfl) ?_
    refine lv_i2l hx hb dL_law_354 rfl ?_
    refine W.lcmp hx hb dL_law_355 ?_
    refine lv_if_eq (tgt := 361) hx hb dL_law_356 (by decide) (fun c3 => ?_) (fun c3 => absurd (by rw [ho c2, h2]; exact cmp_eq _) c3)
    refine lv_goto (tgt := 1100) hx hb dL_law_361 (by decide) ?_
    refine lv_iinc (v := nI (6 * (t + 1))) (lv' := [(4, .int (nI (6 * (t + 1)))), (6, .int r2), (5, .int k), (0, .ref b), (1, .ref (gA g 0)), (2, .ref (gA g 4)), (3, .ref (gA g 12))]) hx hb dL_law_1100 hl (k := 2) rfl (s_nx t) (by decide) rfl (fun ls hl => ?_)
    refine lv_goto (tgt := 23) hx hb dL_law_1103 (by decide) ?_
    refine W.widen (k := CC (t + 1)) (n := SS (t + 1)) (by unfold CC; omega) (by unfold SS; omega) ?_
    exact hn a1 σ1 (edM μ (xs (nI (6 * t) + 1).toNatClampNeg) (xs (nI (6 * t) + 2).toNatClampNeg)) o1 H locs ls hR1 hW hS (by exact lv_sub hl [0, 3, 4, 5, 6] rfl)

set_option maxHeartbeats 1000000 in
set_option maxRecDepth 100000 in
theorem law_choose {p : Program} {l : Launch} {e : Env} {s : State} {m : MethodId} {below : List Frame} {meth : Method} {c : Code} {b L : Nat} {xs : Nat → Int32} {g : Ge} (C0 : lwC l p s m meth c b L xs g) {t : Nat} (ht : 6 * t + 6 ≤ L) (hn : lwG p l e s m below meth c b g (t + 1) 23) : lwG p l e s m below meth c b g t 364 := by
  obtain ⟨⟨hx, hb, hr, hml, hown, hts, hX, hbl, hlocks, hgv⟩, hC, hz, hfl, hL⟩ := C0
  intro a σ μ o H locs ls hR hW hS hl
  have htsW : ∀ w ∈ wsL_law, w.before #[Value.ref b] s = true := fun w h => hts w (wsL_law_in w h)
  have hbA : ¬ Az g b := fun h => by unfold Az at h; rw [hz] at h; exact absurd hbl (by omega)
  have hM := hR.M
  have ha := hR.ha
  unfold CC SS
  have hl : lv_has ls 7 [(4, .int (nI (6 * t))), (0, .ref b), (1, .ref (gA g 0)), (2, .ref (gA g 4)), (3, .ref (gA g 12))] := hl
  refine lv_aload_n hx hb dL_law_364 rfl (lv_at hl 2 rfl) ?_
  refine lv_aload_n hx hb dL_law_365 rfl (lv_at hl 1 rfl) ?_
  refine lv_iload hx hb dL_law_366 (lv_at hl 0 rfl) ?_
  refine lv_iconst (v := 1) hx hb dL_law_368 (by decide) ?_
  refine lv_iadd hx hb dL_law_369 ?_
  refine va_sld hx hb hX hbl hbA hS (s_in (k := 1) ht hL (by decide)) dL_law_370 ?_
  refine lv_aload_n hx hb dL_law_371 rfl (lv_at hl 4 rfl) ?_
  refine va_calli (vx_runSW (As := [.ref (gA g 0), .int ((xs (nI (6 * t) + 1).toNatClampNeg)), .ref (gA g 12)]) (rest := []) ⟨hx, hb, hml, hown, htsW⟩ (mtL_choose l g σ μ o hfl (xs (nI (6 * t) + 1).toNatClampNeg)) (vx_cwSW 3 htsW gL_law_L_choose rfl rfl rfl (by decide +kernel) ⟨Nat.le_of_ble_eq_true rfl, Nat.le_of_ble_eq_true rfl⟩) ⟨PW.blind, fun U hU hW9 => ⟨rfl, PW.at hC hS hW U hU hW9⟩⟩ rfl rfl hl.1 rfl (lv_room (Nat.le_of_ble_eq_true rfl)) dL_law_372 ⟨show 29 + 4 * t + 2 ≤ 638081 by omega, show 611 + 24 * t + 12 ≤ 7181861 by omega⟩) hS (fun _ _ h => h) (fun _ h => h) (fun k y t9 H locs ht9 hvm hq hB hz9 hk9 hS => ?_)
  have hF := op_choose hR (xs (nI (6 * t) + 1).toNatClampNeg)
  obtain ⟨σ1, o1, a1, hk, hW, hR1, ho⟩ := opx (w := fun r => r.toInt64) hF (fun _ _ h => h.1) hq hB
  have hth := hF.2.1
  rw [ht9] at hW
  refine lv_istore (lv' := [(5, .int k), (4, .int (nI (6 * t))), (0, .ref b), (1, .ref (gA g 0)), (2, .ref (gA g 4)), (3, .ref (gA g 12))]) hx hb dL_law_375 hl (by decide) rfl (fun ls hl => ?_)
  refine lv_aload_n hx hb dL_law_377 rfl (lv_at hl 4 rfl) ?_
  refine lv_aload_n hx hb dL_law_378 rfl (lv_at hl 2 rfl) ?_
  refine lv_iload hx hb dL_law_379 (lv_at hl 1 rfl) ?_
  refine lv_iconst (v := 1) hx hb dL_law_381 (by decide) ?_
  refine lv_iadd hx hb dL_law_382 ?_
  refine va_sld hx hb hX hbl hbA hS (s_in (k := 1) ht hL (by decide)) dL_law_383 ?_
  refine va_calli (va_runV (As := [.int ((xs (nI (6 * t) + 1).toNatClampNeg))]) (rest := []) ⟨hx, hb, hml, hown, htsW⟩ (mtX3_choose l g σ1 μ o1 (xs (nI (6 * t) + 1).toNatClampNeg) a hM ha) (cwV 1 htsW gL_law_X3_choose rfl rfl rfl (by decide +kernel) ⟨Nat.le_of_ble_eq_true rfl, Nat.le_of_ble_eq_true rfl⟩) ⟨PW.blind, rcM hC hW, fun U hU hW9 => ⟨rfl, PW.at hC hS hW U hU hW9⟩⟩ rfl rfl hl.1 rfl (lv_room (Nat.le_of_ble_eq_true rfl)) dL_law_384 ⟨show 29 + 4 * t + 2 + 0 ≤ 638081 by omega, show 611 + 24 * t + 12 + 0 ≤ 7181861 by omega⟩) hS (fun _ _ h => h) (fun _ h => h) (fun r2 u2 t8 H locs ht8 hvm2 h2 hW hz8 hk8 hS => ?_)
  replace hW : Wd g σ1 (csM μ (xs (nI (6 * t) + 1).toNatClampNeg)) o1 H := by rw [← ht8]; exact hW
  replace h2 : r2 = csR μ (xs (nI (6 * t) + 1).toNatClampNeg) := h2
  refine lv_istore (lv' := [(6, .int r2), (5, .int k), (4, .int (nI (6 * t))), (0, .ref b), (1, .ref (gA g 0)), (2, .ref (gA g 4)), (3, .ref (gA g 12))]) hx hb dL_law_387 hl (by decide) rfl (fun ls hl => ?_)
  refine lv_aload_n hx hb dL_law_389 rfl (lv_at hl 5 rfl) ?_
  refine vp_callSi (va_Run.run (va_runV (As := []) (rest := []) ⟨hx, hb, hml, hown, htsW⟩ (mtX3_thrown l g σ1 ((csM μ (xs (nI (6 * t) + 1).toNatClampNeg))) o1 ) (cwV 0 htsW gL_law_X3_thrown rfl rfl rfl (by decide +kernel) ⟨Nat.le_of_ble_eq_true rfl, Nat.le_of_ble_eq_true rfl⟩) ⟨PW.blind, rcM hC hW, fun U hU hW9 => ⟨rfl, PW.at hC hS hW U hU hW9⟩⟩ rfl rfl hl.1 rfl (lv_room (Nat.le_of_ble_eq_true rfl)) dL_law_390 ⟨show 29 + 4 * t + 2 + 0 + 0 ≤ 638081 by omega, show 611 + 24 * t + 12 + 0 + 0 ≤ 7181861 by omega⟩)) (fun r1 h1 => ?_)
  replace h1 : r1 = ((csM μ (xs (nI (6 * t) + 1).toNatClampNeg))).1 12 := h1
  refine lv_iload hx hb dL_law_393 (lv_at hl 1 rfl) ?_
  refine lv_icmp_eq (tgt := 400) hx hb dL_law_395 (by decide) (fun c1 => ?_) (fun c1 => ?_)
  rotate_left
  · exact absurd (h1.trans (hth.trans hk.symm)) c1
  refine lv_iload hx hb dL_law_400 (lv_at hl 1 rfl) ?_
  refine lv_if_ne (tgt := 417) hx hb dL_law_402 (by decide) (fun c2 => ?_) (fun c2 => ?_)
  · skip
    refine lv_goto (tgt := 1100) hx hb dL_law_417 (by decide) ?_
    refine lv_iinc (v := nI (6 * (t + 1))) (lv' := [(4, .int (nI (6 * (t + 1)))), (6, .int r2), (5, .int k), (0, .ref b), (1, .ref (gA g 0)), (2, .ref (gA g 4)), (3, .ref (gA g 12))]) hx hb dL_law_1100 hl (k := 2) rfl (s_nx t) (by decide) rfl (fun ls hl => ?_)
    refine lv_goto (tgt := 23) hx hb dL_law_1103 (by decide) ?_
    refine W.widen (k := CC (t + 1)) (n := SS (t + 1)) (by unfold CC; omega) (by unfold SS; omega) ?_
    exact hn a1 σ1 (csM μ (xs (nI (6 * t) + 1).toNatClampNeg)) o1 H locs ls hR1 hW hS (by exact lv_sub hl [0, 3, 4, 5, 6] rfl)
  · skip
    refine lv_aload_n hx hb dL_law_405 rfl (lv_at hl 6 rfl) ?_
    refine lv_iconst (v := 0) hx hb dL_law_406 (by decide) ?_
    refine oLd hx hb hC hW dL_law_407 ?_
    refine lv_iload hx hb dL_law_408 (lv_at hl 0 rfl) ?_
    refine lv_i2l hx hb dL_law_410 rfl ?_
    refine W.lcmp hx hb dL_law_411 ?_
    refine lv_if_eq (tgt := 417) hx hb dL_law_412 (by decide) (fun c3 => ?_) (fun c3 => absurd (by rw [ho c2, h2]; exact cmp_eq _) c3)
    refine lv_goto (tgt := 1100) hx hb dL_law_417 (by decide) ?_
    refine lv_iinc (v := nI (6 * (t + 1))) (lv' := [(4, .int (nI (6 * (t + 1)))), (6, .int r2), (5, .int k), (0, .ref b), (1, .ref (gA g 0)), (2, .ref (gA g 4)), (3, .ref (gA g 12))]) hx hb dL_law_1100 hl (k := 2) rfl (s_nx t) (by decide) rfl (fun ls hl => ?_)
    refine lv_goto (tgt := 23) hx hb dL_law_1103 (by decide) ?_
    refine W.widen (k := CC (t + 1)) (n := SS (t + 1)) (by unfold CC; omega) (by unfold SS; omega) ?_
    exact hn a1 σ1 (csM μ (xs (nI (6 * t) + 1).toNatClampNeg)) o1 H locs ls hR1 hW hS (by exact lv_sub hl [0, 3, 4, 5, 6] rfl)

set_option maxHeartbeats 1000000 in
set_option maxRecDepth 100000 in
theorem law_chooseOnce {p : Program} {l : Launch} {e : Env} {s : State} {m : MethodId} {below : List Frame} {meth : Method} {c : Code} {b L : Nat} {xs : Nat → Int32} {g : Ge} (C0 : lwC l p s m meth c b L xs g) {t : Nat} (ht : 6 * t + 6 ≤ L) (hn : lwG p l e s m below meth c b g (t + 1) 23) : lwG p l e s m below meth c b g t 420 := by
  obtain ⟨⟨hx, hb, hr, hml, hown, hts, hX, hbl, hlocks, hgv⟩, hC, hz, hfl, hL⟩ := C0
  intro a σ μ o H locs ls hR hW hS hl
  have htsW : ∀ w ∈ wsL_law, w.before #[Value.ref b] s = true := fun w h => hts w (wsL_law_in w h)
  have hbA : ¬ Az g b := fun h => by unfold Az at h; rw [hz] at h; exact absurd hbl (by omega)
  have hM := hR.M
  have ha := hR.ha
  unfold CC SS
  have hl : lv_has ls 7 [(4, .int (nI (6 * t))), (0, .ref b), (1, .ref (gA g 0)), (2, .ref (gA g 4)), (3, .ref (gA g 12))] := hl
  refine lv_aload_n hx hb dL_law_420 rfl (lv_at hl 2 rfl) ?_
  refine lv_aload_n hx hb dL_law_421 rfl (lv_at hl 1 rfl) ?_
  refine lv_iload hx hb dL_law_422 (lv_at hl 0 rfl) ?_
  refine lv_iconst (v := 1) hx hb dL_law_424 (by decide) ?_
  refine lv_iadd hx hb dL_law_425 ?_
  refine va_sld hx hb hX hbl hbA hS (s_in (k := 1) ht hL (by decide)) dL_law_426 ?_
  refine lv_aload_n hx hb dL_law_427 rfl (lv_at hl 4 rfl) ?_
  refine va_calli (vx_runSW (As := [.ref (gA g 0), .int ((xs (nI (6 * t) + 1).toNatClampNeg)), .ref (gA g 12)]) (rest := []) ⟨hx, hb, hml, hown, htsW⟩ (mtL_chooseOnce l g σ μ o hfl (xs (nI (6 * t) + 1).toNatClampNeg)) (vx_cwSW 3 htsW gL_law_L_chooseOnce rfl rfl rfl (by decide +kernel) ⟨Nat.le_of_ble_eq_true rfl, Nat.le_of_ble_eq_true rfl⟩) ⟨PW.blind, fun U hU hW9 => ⟨rfl, PW.at hC hS hW U hU hW9⟩⟩ rfl rfl hl.1 rfl (lv_room (Nat.le_of_ble_eq_true rfl)) dL_law_428 ⟨show 29 + 4 * t + 1 ≤ 638081 by omega, show 611 + 24 * t + 6 ≤ 7181861 by omega⟩) hS (fun _ _ h => h) (fun _ h => h) (fun k y t9 H locs ht9 hvm hq hB hz9 hk9 hS => ?_)
  have hF := op_chooseOnce hR (xs (nI (6 * t) + 1).toNatClampNeg)
  obtain ⟨σ1, o1, a1, hk, hW, hR1, ho⟩ := opx (w := fun r => r.toInt64) hF (fun _ _ h => h.1) hq hB
  have hth := hF.2.1
  rw [ht9] at hW
  refine lv_istore (lv' := [(5, .int k), (4, .int (nI (6 * t))), (0, .ref b), (1, .ref (gA g 0)), (2, .ref (gA g 4)), (3, .ref (gA g 12))]) hx hb dL_law_431 hl (by decide) rfl (fun ls hl => ?_)
  refine lv_aload_n hx hb dL_law_433 rfl (lv_at hl 4 rfl) ?_
  refine lv_aload_n hx hb dL_law_434 rfl (lv_at hl 2 rfl) ?_
  refine lv_iload hx hb dL_law_435 (lv_at hl 1 rfl) ?_
  refine lv_iconst (v := 1) hx hb dL_law_437 (by decide) ?_
  refine lv_iadd hx hb dL_law_438 ?_
  refine va_sld hx hb hX hbl hbA hS (s_in (k := 1) ht hL (by decide)) dL_law_439 ?_
  refine va_calli (va_runV (As := [.int ((xs (nI (6 * t) + 1).toNatClampNeg))]) (rest := []) ⟨hx, hb, hml, hown, htsW⟩ (mtX3_chooseOnce l g σ1 μ o1 (xs (nI (6 * t) + 1).toNatClampNeg) a hM ha) (cwV 1 htsW gL_law_X3_chooseOnce rfl rfl rfl (by decide +kernel) ⟨Nat.le_of_ble_eq_true rfl, Nat.le_of_ble_eq_true rfl⟩) ⟨PW.blind, rcM hC hW, fun U hU hW9 => ⟨rfl, PW.at hC hS hW U hU hW9⟩⟩ rfl rfl hl.1 rfl (lv_room (Nat.le_of_ble_eq_true rfl)) dL_law_440 ⟨show 29 + 4 * t + 1 + 0 ≤ 638081 by omega, show 611 + 24 * t + 6 + 0 ≤ 7181861 by omega⟩) hS (fun _ _ h => h) (fun _ h => h) (fun r2 u2 t8 H locs ht8 hvm2 h2 hW hz8 hk8 hS => ?_)
  replace hW : Wd g σ1 (coM μ (xs (nI (6 * t) + 1).toNatClampNeg)) o1 H := by rw [← ht8]; exact hW
  replace h2 : r2 = coR μ (xs (nI (6 * t) + 1).toNatClampNeg) := h2
  refine lv_istore (lv' := [(6, .int r2), (5, .int k), (4, .int (nI (6 * t))), (0, .ref b), (1, .ref (gA g 0)), (2, .ref (gA g 4)), (3, .ref (gA g 12))]) hx hb dL_law_443 hl (by decide) rfl (fun ls hl => ?_)
  refine lv_aload_n hx hb dL_law_445 rfl (lv_at hl 5 rfl) ?_
  refine vp_callSi (va_Run.run (va_runV (As := []) (rest := []) ⟨hx, hb, hml, hown, htsW⟩ (mtX3_thrown l g σ1 ((coM μ (xs (nI (6 * t) + 1).toNatClampNeg))) o1 ) (cwV 0 htsW gL_law_X3_thrown rfl rfl rfl (by decide +kernel) ⟨Nat.le_of_ble_eq_true rfl, Nat.le_of_ble_eq_true rfl⟩) ⟨PW.blind, rcM hC hW, fun U hU hW9 => ⟨rfl, PW.at hC hS hW U hU hW9⟩⟩ rfl rfl hl.1 rfl (lv_room (Nat.le_of_ble_eq_true rfl)) dL_law_446 ⟨show 29 + 4 * t + 1 + 0 + 0 ≤ 638081 by omega, show 611 + 24 * t + 6 + 0 + 0 ≤ 7181861 by omega⟩)) (fun r1 h1 => ?_)
  replace h1 : r1 = ((coM μ (xs (nI (6 * t) + 1).toNatClampNeg))).1 12 := h1
  refine lv_iload hx hb dL_law_449 (lv_at hl 1 rfl) ?_
  refine lv_icmp_eq (tgt := 456) hx hb dL_law_451 (by decide) (fun c1 => ?_) (fun c1 => ?_)
  rotate_left
  · exact absurd (h1.trans (hth.trans hk.symm)) c1
  refine lv_iload hx hb dL_law_456 (lv_at hl 1 rfl) ?_
  refine lv_if_ne (tgt := 473) hx hb dL_law_458 (by decide) (fun c2 => ?_) (fun c2 => ?_)
  · skip
    refine lv_goto (tgt := 1100) hx hb dL_law_473 (by decide) ?_
    refine lv_iinc (v := nI (6 * (t + 1))) (lv' := [(4, .int (nI (6 * (t + 1)))), (6, .int r2), (5, .int k), (0, .ref b), (1, .ref (gA g 0)), (2, .ref (gA g 4)), (3, .ref (gA g 12))]) hx hb dL_law_1100 hl (k := 2) rfl (s_nx t) (by decide) rfl (fun ls hl => ?_)
    refine lv_goto (tgt := 23) hx hb dL_law_1103 (by decide) ?_
    refine W.widen (k := CC (t + 1)) (n := SS (t + 1)) (by unfold CC; omega) (by unfold SS; omega) ?_
    exact hn a1 σ1 (coM μ (xs (nI (6 * t) + 1).toNatClampNeg)) o1 H locs ls hR1 hW hS (by exact lv_sub hl [0, 3, 4, 5, 6] rfl)
  · skip
    refine lv_aload_n hx hb dL_law_461 rfl (lv_at hl 6 rfl) ?_
    refine lv_iconst (v := 0) hx hb dL_law_462 (by decide) ?_
    refine oLd hx hb hC hW dL_law_463 ?_
    refine lv_iload hx hb dL_law_464 (lv_at hl 0 rfl) ?_
    refine lv_i2l hx hb dL_law_466 rfl ?_
    refine W.lcmp hx hb dL_law_467 ?_
    refine lv_if_eq (tgt := 473) hx hb dL_law_468 (by decide) (fun c3 => ?_) (fun c3 => absurd (by rw [ho c2, h2]; exact cmp_eq _) c3)
    refine lv_goto (tgt := 1100) hx hb dL_law_473 (by decide) ?_
    refine lv_iinc (v := nI (6 * (t + 1))) (lv' := [(4, .int (nI (6 * (t + 1)))), (6, .int r2), (5, .int k), (0, .ref b), (1, .ref (gA g 0)), (2, .ref (gA g 4)), (3, .ref (gA g 12))]) hx hb dL_law_1100 hl (k := 2) rfl (s_nx t) (by decide) rfl (fun ls hl => ?_)
    refine lv_goto (tgt := 23) hx hb dL_law_1103 (by decide) ?_
    refine W.widen (k := CC (t + 1)) (n := SS (t + 1)) (by unfold CC; omega) (by unfold SS; omega) ?_
    exact hn a1 σ1 (coM μ (xs (nI (6 * t) + 1).toNatClampNeg)) o1 H locs ls hR1 hW hS (by exact lv_sub hl [0, 3, 4, 5, 6] rfl)
