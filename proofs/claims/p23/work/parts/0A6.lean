set_option maxHeartbeats 4000000 in
set_option maxRecDepth 100000 in
theorem rf_2 {p : Program} {l : Launch} {e : Env} {s : State} {m : MethodId} {below : List Frame} {meth : Method} {c : Code} {g : Ge} {σ : Sg} {μ : Mg} {o : Nat → Int64} {here gone : Int32} {en cl : Nat} (C0 : rfC p l s m meth c g σ here gone en cl) (kk : rfG p l e s m below meth c g σ μ o here gone 407 [(13, .int 1), (12, .int 2147483647), (11, .int 2147483647), (10, .int 2147483647), (9, .int 2147483647), (8, .int 2), (7, .int 2147483647), (6, .int (σ.2.2.1 0)), (5, .int (σ.1 6)), (4, .int (nxR σ)), (3, .int (nI (ct (thr σ.2.1) 16))), (0, .ref (gA g 0)), (1, .int here), (2, .int gone)] 96 576) : rfG p l e s m below meth c g σ μ o here gone 30 [(8, .int 2), (7, .int 2147483647), (6, .int (σ.2.2.1 0)), (5, .int (σ.1 6)), (4, .int (nxR σ)), (3, .int (nI (ct (thr σ.2.1) 16))), (0, .ref (gA g 0)), (1, .int here), (2, .int gone)] 74 444 := by
  obtain ⟨⟨hx, hb, hr, hml, hts, hown, hlocks⟩, hC, hfl, ⟨n2, n1, nM, nm, ng, hh, g1, hL⟩, e1, e2, e3, e4⟩ := C0
  have hk0 : narrow .boolean (.int (σ.2.2.1 0)) = .int (σ.2.2.1 0) := by rcases hL with q | q <;> rw [q] <;> rfl
  intro H locs ls hW hS hl
  have hl : lv_has ls 15 [(8, .int 2), (7, .int 2147483647), (6, .int (σ.2.2.1 0)), (5, .int (σ.1 6)), (4, .int (nxR σ)), (3, .int (nI (ct (thr σ.2.1) 16))), (0, .ref (gA g 0)), (1, .int here), (2, .int gone)] := hl
  refine lv_iload hx hb dL_refuses_30 (lv_at hl 0 rfl) ?_
  refine lv_iconst (v := 4) hx hb dL_refuses_32 (by decide) ?_
  refine lv_icmp_ge (tgt := 613) hx hb dL_refuses_33 (by decide) (fun c1 => absurd c1 (by decide)) (fun _ => ?_)
  refine lv_iload hx hb dL_refuses_36 (lv_at hl 0 rfl) ?_
  refine lv_if_ne (tgt := 46) hx hb dL_refuses_38 (by decide) (fun _ => ?_) (fun c2 => absurd c2 (by decide))
  refine lv_iload hx hb dL_refuses_46 (lv_at hl 0 rfl) ?_
  refine lv_iconst (v := 1) hx hb dL_refuses_48 (by decide) ?_
  refine lv_icmp_ne (tgt := 56) hx hb dL_refuses_49 (by decide) (fun _ => ?_) (fun c3 => absurd c3 (by decide))
  refine lv_iload hx hb dL_refuses_56 (lv_at hl 0 rfl) ?_
  refine lv_iconst (v := 2) hx hb dL_refuses_58 (by decide) ?_
  refine lv_icmp_ne (tgt := 67) hx hb dL_refuses_59 (by decide) (fun c4 => absurd c4 (by decide)) (fun _ => ?_)
  refine lv_iload hx hb dL_refuses_62 (lv_at hl 1 rfl) ?_
  refine lv_goto (tgt := 72) hx hb dL_refuses_64 (by decide) ?_
  refine lv_istore (lv' := [(9, .int 2147483647), (8, .int 2), (7, .int 2147483647), (6, .int (σ.2.2.1 0)), (5, .int (σ.1 6)), (4, .int (nxR σ)), (3, .int (nI (ct (thr σ.2.1) 16))), (0, .ref (gA g 0)), (1, .int here), (2, .int gone)]) hx hb dL_refuses_72 hl (by decide) rfl (fun ls hl => ?_)
  refine lv_iload hx hb dL_refuses_74 (lv_at hl 1 rfl) ?_
  refine lv_iconst (v := 2) hx hb dL_refuses_76 (by decide) ?_
  refine lv_icmp_ge (tgt := 84) hx hb dL_refuses_77 (by decide) (fun _ => ?_) (fun c5 => absurd c5 (by decide))
  refine lv_iload hx hb dL_refuses_84 (lv_at hl 0 rfl) ?_
  refine lv_istore (lv' := [(10, .int 2147483647), (9, .int 2147483647), (8, .int 2), (7, .int 2147483647), (6, .int (σ.2.2.1 0)), (5, .int (σ.1 6)), (4, .int (nxR σ)), (3, .int (nI (ct (thr σ.2.1) 16))), (0, .ref (gA g 0)), (1, .int here), (2, .int gone)]) hx hb dL_refuses_86 hl (by decide) rfl (fun ls hl => ?_)
  refine lv_iload hx hb dL_refuses_88 (lv_at hl 2 rfl) ?_
  refine lv_if_ne (tgt := 97) hx hb dL_refuses_90 (by decide) (fun _ => ?_) (fun c6 => absurd c6 (by decide))
  refine lv_iload hx hb dL_refuses_97 (lv_at hl 2 rfl) ?_
  refine lv_iconst (v := 1) hx hb dL_refuses_99 (by decide) ?_
  refine lv_icmp_ne (tgt := 108) hx hb dL_refuses_100 (by decide) (fun _ => ?_) (fun c7 => absurd c7 (by decide))
  refine lv_iload hx hb dL_refuses_108 (lv_at hl 1 rfl) ?_
  refine lv_istore (lv' := [(11, .int 2147483647), (10, .int 2147483647), (9, .int 2147483647), (8, .int 2), (7, .int 2147483647), (6, .int (σ.2.2.1 0)), (5, .int (σ.1 6)), (4, .int (nxR σ)), (3, .int (nI (ct (thr σ.2.1) 16))), (0, .ref (gA g 0)), (1, .int here), (2, .int gone)]) hx hb dL_refuses_110 hl (by decide) rfl (fun ls hl => ?_)
  refine lv_iload hx hb dL_refuses_112 (lv_at hl 3 rfl) ?_
  refine lv_if_ne (tgt := 121) hx hb dL_refuses_114 (by decide) (fun _ => ?_) (fun c8 => absurd c8 (by decide))
  refine lv_iload hx hb dL_refuses_121 (lv_at hl 3 rfl) ?_
  refine lv_iconst (v := 1) hx hb dL_refuses_123 (by decide) ?_
  refine lv_icmp_ne (tgt := 131) hx hb dL_refuses_124 (by decide) (fun _ => ?_) (fun c9 => absurd c9 (by decide))
  refine lv_iload hx hb dL_refuses_131 (lv_at hl 2 rfl) ?_
  refine lv_istore (lv' := [(12, .int 2147483647), (11, .int 2147483647), (10, .int 2147483647), (9, .int 2147483647), (8, .int 2), (7, .int 2147483647), (6, .int (σ.2.2.1 0)), (5, .int (σ.1 6)), (4, .int (nxR σ)), (3, .int (nI (ct (thr σ.2.1) 16))), (0, .ref (gA g 0)), (1, .int here), (2, .int gone)]) hx hb dL_refuses_133 hl (by decide) rfl (fun ls hl => ?_)
  refine lv_aload_n hx hb dL_refuses_135 rfl (lv_at hl 10 rfl) ?_
  refine lv_iload hx hb dL_refuses_136 (lv_at hl 0 rfl) ?_
  refine lv_iconst (v := 5) hx hb dL_refuses_138 (by decide) ?_
  refine lv_iconst (v := 5) hx hb dL_refuses_139 (by decide) ?_
  refine lv_iconst (v := 0) hx hb dL_refuses_140 (by decide) ?_
  refine lv_iconst (v := 0) hx hb dL_refuses_141 (by decide) ?_
  refine va_calli (vx_runSW (As := [.ref (gA g 0), .int 2147483647, .int 5, .int 5, .int 0, .int 0]) (rest := []) ⟨hx, hb, hml, hown, hts⟩ (mtL_addR l g σ μ o hfl 2147483647 5 5 0 0 1 (-72) (kAdd_1 (by decide)) (by decide)) (vx_cwSW 6 hts gL_refuses_L_add rfl rfl rfl (by decide +kernel) ⟨Nat.le_of_ble_eq_true rfl, Nat.le_of_ble_eq_true rfl⟩) ⟨PW.blind, fun U hU hW9 => ⟨rfl, PW.at hC hS hW U hU hW9⟩⟩ rfl rfl hl.1 rfl (lv_room (Nat.le_of_ble_eq_true rfl)) dL_refuses_142 ⟨Nat.le_of_ble_eq_true rfl, Nat.le_of_ble_eq_true rfl⟩) hS (fun _ _ h => h) (fun _ h => h) (fun r u t H locs ht hvm hq hW hz9 hk9 hS => ?_)
  obtain rfl : r = (-72) := hq
  replace hW : Wd g σ μ o H := by rw [← ht]; exact hW
  refine lv_bipush (v := (-72)) hx hb dL_refuses_145 (by decide) ?_
  refine lv_icmp_ne (tgt := 404) hx hb dL_refuses_147 (by decide) (fun c10 => absurd c10 (by decide)) (fun _ => ?_)
  refine lv_aload_n hx hb dL_refuses_150 rfl (lv_at hl 10 rfl) ?_
  refine lv_iconst (v := 0) hx hb dL_refuses_151 (by decide) ?_
  refine lv_iload hx hb dL_refuses_152 (lv_at hl 1 rfl) ?_
  refine lv_iconst (v := 5) hx hb dL_refuses_154 (by decide) ?_
  refine lv_iconst (v := 0) hx hb dL_refuses_155 (by decide) ?_
  refine lv_iconst (v := 0) hx hb dL_refuses_156 (by decide) ?_
  refine va_calli (vx_runSW (As := [.ref (gA g 0), .int 0, .int 2147483647, .int 5, .int 0, .int 0]) (rest := []) ⟨hx, hb, hml, hown, hts⟩ (mtL_addR l g σ μ o hfl 0 2147483647 5 0 0 1 (-72) (kAdd_1 (by decide)) (by decide)) (vx_cwSW 6 hts gL_refuses_L_add rfl rfl rfl (by decide +kernel) ⟨Nat.le_of_ble_eq_true rfl, Nat.le_of_ble_eq_true rfl⟩) ⟨PW.blind, fun U hU hW9 => ⟨rfl, PW.at hC hS hW U hU hW9⟩⟩ rfl rfl hl.1 rfl (lv_room (Nat.le_of_ble_eq_true rfl)) dL_refuses_157 ⟨Nat.le_of_ble_eq_true rfl, Nat.le_of_ble_eq_true rfl⟩) hS (fun _ _ h => h) (fun _ h => h) (fun r u t H locs ht hvm hq hW hz9 hk9 hS => ?_)
  obtain rfl : r = (-72) := hq
  replace hW : Wd g σ μ o H := by rw [← ht]; exact hW
  refine lv_bipush (v := (-72)) hx hb dL_refuses_160 (by decide) ?_
  refine lv_icmp_ne (tgt := 404) hx hb dL_refuses_162 (by decide) (fun c11 => absurd c11 (by decide)) (fun _ => ?_)
  refine lv_aload_n hx hb dL_refuses_165 rfl (lv_at hl 10 rfl) ?_
  refine lv_iconst (v := 0) hx hb dL_refuses_166 (by decide) ?_
  refine lv_iconst (v := 5) hx hb dL_refuses_167 (by decide) ?_
  refine lv_iload hx hb dL_refuses_168 (lv_at hl 4 rfl) ?_
  refine lv_if_ne (tgt := 177) hx hb dL_refuses_170 (by decide) (fun _ => ?_) (fun c12 => absurd c12 (by decide))
  refine lv_iload hx hb dL_refuses_177 (lv_at hl 4 rfl) ?_
  refine lv_iconst (v := 1) hx hb dL_refuses_179 (by decide) ?_
  refine lv_icmp_ne (tgt := 188) hx hb dL_refuses_180 (by decide) (fun _ => ?_) (fun c13 => absurd c13 (by decide))
  refine lv_iload hx hb dL_refuses_188 (lv_at hl 5 rfl) ?_
  refine lv_ineg hx hb dL_refuses_190 ?_
  refine lv_iconst (v := 0) hx hb dL_refuses_191 (by decide) ?_
  refine lv_iconst (v := 0) hx hb dL_refuses_192 (by decide) ?_
  refine va_calli (vx_runSW (As := [.ref (gA g 0), .int 0, .int 5, .int (-2147483647), .int 0, .int 0]) (rest := []) ⟨hx, hb, hml, hown, hts⟩ (mtL_addR l g σ μ o hfl 0 5 (-2147483647) 0 0 1 (-72) (kAdd_1 (by decide)) (by decide)) (vx_cwSW 6 hts gL_refuses_L_add rfl rfl rfl (by decide +kernel) ⟨Nat.le_of_ble_eq_true rfl, Nat.le_of_ble_eq_true rfl⟩) ⟨PW.blind, fun U hU hW9 => ⟨rfl, PW.at hC hS hW U hU hW9⟩⟩ rfl rfl hl.1 rfl (lv_room (Nat.le_of_ble_eq_true rfl)) dL_refuses_193 ⟨Nat.le_of_ble_eq_true rfl, Nat.le_of_ble_eq_true rfl⟩) hS (fun _ _ h => h) (fun _ h => h) (fun r u t H locs ht hvm hq hW hz9 hk9 hS => ?_)
  obtain rfl : r = (-72) := hq
  replace hW : Wd g σ μ o H := by rw [← ht]; exact hW
  refine lv_bipush (v := (-72)) hx hb dL_refuses_196 (by decide) ?_
  refine lv_icmp_ne (tgt := 404) hx hb dL_refuses_198 (by decide) (fun c14 => absurd c14 (by decide)) (fun _ => ?_)
  refine lv_aload_n hx hb dL_refuses_201 rfl (lv_at hl 10 rfl) ?_
  refine lv_iconst (v := 0) hx hb dL_refuses_202 (by decide) ?_
  refine lv_iconst (v := 5) hx hb dL_refuses_203 (by decide) ?_
  refine lv_iconst (v := 5) hx hb dL_refuses_204 (by decide) ?_
  refine lv_iload hx hb dL_refuses_205 (lv_at hl 0 rfl) ?_
  refine lv_iconst (v := 0) hx hb dL_refuses_207 (by decide) ?_
  refine va_calli (vx_runSW (As := [.ref (gA g 0), .int 0, .int 5, .int 5, .int 2147483647, .int 0]) (rest := []) ⟨hx, hb, hml, hown, hts⟩ (mtL_addR l g σ μ o hfl 0 5 5 2147483647 0 1 (-72) (kAdd_1 (by decide)) (by decide)) (vx_cwSW 6 hts gL_refuses_L_add rfl rfl rfl (by decide +kernel) ⟨Nat.le_of_ble_eq_true rfl, Nat.le_of_ble_eq_true rfl⟩) ⟨PW.blind, fun U hU hW9 => ⟨rfl, PW.at hC hS hW U hU hW9⟩⟩ rfl rfl hl.1 rfl (lv_room (Nat.le_of_ble_eq_true rfl)) dL_refuses_208 ⟨Nat.le_of_ble_eq_true rfl, Nat.le_of_ble_eq_true rfl⟩) hS (fun _ _ h => h) (fun _ h => h) (fun r u t H locs ht hvm hq hW hz9 hk9 hS => ?_)
  obtain rfl : r = (-72) := hq
  replace hW : Wd g σ μ o H := by rw [← ht]; exact hW
  refine lv_bipush (v := (-72)) hx hb dL_refuses_211 (by decide) ?_
  refine lv_icmp_ne (tgt := 404) hx hb dL_refuses_213 (by decide) (fun c15 => absurd c15 (by decide)) (fun _ => ?_)
  refine lv_aload_n hx hb dL_refuses_216 rfl (lv_at hl 10 rfl) ?_
  refine lv_iconst (v := 0) hx hb dL_refuses_217 (by decide) ?_
  refine lv_iconst (v := 5) hx hb dL_refuses_218 (by decide) ?_
  refine lv_iconst (v := 5) hx hb dL_refuses_219 (by decide) ?_
  refine lv_iconst (v := 0) hx hb dL_refuses_220 (by decide) ?_
  refine lv_iload hx hb dL_refuses_221 (lv_at hl 4 rfl) ?_
  refine lv_if_ne (tgt := 231) hx hb dL_refuses_223 (by decide) (fun _ => ?_) (fun c16 => absurd c16 (by decide))
  refine lv_iload hx hb dL_refuses_231 (lv_at hl 4 rfl) ?_
  refine lv_iconst (v := 1) hx hb dL_refuses_233 (by decide) ?_
  refine lv_icmp_ne (tgt := 242) hx hb dL_refuses_234 (by decide) (fun _ => ?_) (fun c17 => absurd c17 (by decide))
  refine lv_iload hx hb dL_refuses_242 (lv_at hl 3 rfl) ?_
  refine va_calli (vx_runSW (As := [.ref (gA g 0), .int 0, .int 5, .int 5, .int 0, .int 2147483647]) (rest := []) ⟨hx, hb, hml, hown, hts⟩ (mtL_addR l g σ μ o hfl 0 5 5 0 2147483647 1 (-72) (kAdd_1 (by decide)) (by decide)) (vx_cwSW 6 hts gL_refuses_L_add rfl rfl rfl (by decide +kernel) ⟨Nat.le_of_ble_eq_true rfl, Nat.le_of_ble_eq_true rfl⟩) ⟨PW.blind, fun U hU hW9 => ⟨rfl, PW.at hC hS hW U hU hW9⟩⟩ rfl rfl hl.1 rfl (lv_room (Nat.le_of_ble_eq_true rfl)) dL_refuses_244 ⟨Nat.le_of_ble_eq_true rfl, Nat.le_of_ble_eq_true rfl⟩) hS (fun _ _ h => h) (fun _ h => h) (fun r u t H locs ht hvm hq hW hz9 hk9 hS => ?_)
  obtain rfl : r = (-72) := hq
  replace hW : Wd g σ μ o H := by rw [← ht]; exact hW
  refine lv_bipush (v := (-72)) hx hb dL_refuses_247 (by decide) ?_
  refine lv_icmp_ne (tgt := 404) hx hb dL_refuses_249 (by decide) (fun c18 => absurd c18 (by decide)) (fun _ => ?_)
  refine lv_aload_n hx hb dL_refuses_252 rfl (lv_at hl 10 rfl) ?_
  refine lv_iconst (v := 1) hx hb dL_refuses_253 (by decide) ?_
  refine lv_iload hx hb dL_refuses_254 (lv_at hl 3 rfl) ?_
  refine lv_iconst (v := (-1)) hx hb dL_refuses_256 (by decide) ?_
  refine va_calli (vx_runSW (As := [.ref (gA g 0), .int 1, .int 2147483647, .int (-1)]) (rest := []) ⟨hx, hb, hml, hown, hts⟩ (mtL_act_1 l g σ μ o hfl 2147483647 (-1) 1 (-71) (kEd_1 nM) (by decide)) (vx_cwSW 4 hts gL_refuses_L_act rfl rfl rfl (by decide +kernel) ⟨Nat.le_of_ble_eq_true rfl, Nat.le_of_ble_eq_true rfl⟩) ⟨PW.blind, fun U hU hW9 => ⟨rfl, PW.at hC hS hW U hU hW9⟩⟩ rfl rfl hl.1 rfl (lv_room (Nat.le_of_ble_eq_true rfl)) dL_refuses_257 ⟨Nat.le_of_ble_eq_true rfl, Nat.le_of_ble_eq_true rfl⟩) hS (fun _ _ h => h) (fun _ h => h) (fun r u t H locs ht hvm hq hW hz9 hk9 hS => ?_)
  obtain rfl : r = (-71) := hq
  replace hW : Wd g σ μ o H := by rw [← ht]; exact hW
  refine lv_bipush (v := (-71)) hx hb dL_refuses_260 (by decide) ?_
  refine lv_icmp_ne (tgt := 404) hx hb dL_refuses_262 (by decide) (fun c19 => absurd c19 (by decide)) (fun _ => ?_)
  refine lv_aload_n hx hb dL_refuses_265 rfl (lv_at hl 10 rfl) ?_
  refine lv_iconst (v := 1) hx hb dL_refuses_266 (by decide) ?_
  refine lv_iload_n hx hb dL_refuses_267 rfl (lv_at hl 11 rfl) ?_
  refine lv_iload hx hb dL_refuses_268 (lv_at hl 1 rfl) ?_
  refine va_calli (vx_runSW (As := [.ref (gA g 0), .int 1, .int here, .int 2147483647]) (rest := []) ⟨hx, hb, hml, hown, hts⟩ (mtL_act_1 l g σ μ o hfl here 2147483647 2 (-72) (kEd_2 hh (by decide)) (by decide)) (vx_cwSW 4 hts gL_refuses_L_act rfl rfl rfl (by decide +kernel) ⟨Nat.le_of_ble_eq_true rfl, Nat.le_of_ble_eq_true rfl⟩) ⟨PW.blind, fun U hU hW9 => ⟨rfl, PW.at hC hS hW U hU hW9⟩⟩ rfl rfl hl.1 rfl (lv_room (Nat.le_of_ble_eq_true rfl)) dL_refuses_270 ⟨Nat.le_of_ble_eq_true rfl, Nat.le_of_ble_eq_true rfl⟩) hS (fun _ _ h => h) (fun _ h => h) (fun r u t H locs ht hvm hq hW hz9 hk9 hS => ?_)
  obtain rfl : r = (-72) := hq
  replace hW : Wd g σ μ o H := by rw [← ht]; exact hW
  refine lv_bipush (v := (-72)) hx hb dL_refuses_273 (by decide) ?_
  refine lv_icmp_ne (tgt := 404) hx hb dL_refuses_275 (by decide) (fun c20 => absurd c20 (by decide)) (fun _ => ?_)
  refine lv_aload_n hx hb dL_refuses_278 rfl (lv_at hl 10 rfl) ?_
  refine lv_iconst (v := 4) hx hb dL_refuses_279 (by decide) ?_
  refine lv_iload hx hb dL_refuses_280 (lv_at hl 1 rfl) ?_
  refine lv_bipush (v := 99) hx hb dL_refuses_282 (by decide) ?_
  refine va_calli (vx_runSW (As := [.ref (gA g 0), .int 4, .int 2147483647, .int 99]) (rest := []) ⟨hx, hb, hml, hown, hts⟩ (mtL_act_4 l g σ μ o hfl 2147483647 99 1 (-72) (kPa_1 (by decide)) (by decide)) (vx_cwSW 4 hts gL_refuses_L_act rfl rfl rfl (by decide +kernel) ⟨Nat.le_of_ble_eq_true rfl, Nat.le_of_ble_eq_true rfl⟩) ⟨PW.blind, fun U hU hW9 => ⟨rfl, PW.at hC hS hW U hU hW9⟩⟩ rfl rfl hl.1 rfl (lv_room (Nat.le_of_ble_eq_true rfl)) dL_refuses_284 ⟨Nat.le_of_ble_eq_true rfl, Nat.le_of_ble_eq_true rfl⟩) hS (fun _ _ h => h) (fun _ h => h) (fun r u t H locs ht hvm hq hW hz9 hk9 hS => ?_)
  obtain rfl : r = (-72) := hq
  replace hW : Wd g σ μ o H := by rw [← ht]; exact hW
  refine lv_bipush (v := (-72)) hx hb dL_refuses_287 (by decide) ?_
  refine lv_icmp_ne (tgt := 404) hx hb dL_refuses_289 (by decide) (fun c21 => absurd c21 (by decide)) (fun _ => ?_)
  refine lv_aload_n hx hb dL_refuses_292 rfl (lv_at hl 10 rfl) ?_
  refine lv_iconst (v := 4) hx hb dL_refuses_293 (by decide) ?_
  refine lv_iconst (v := 5) hx hb dL_refuses_294 (by decide) ?_
  refine lv_iload hx hb dL_refuses_295 (lv_at hl 4 rfl) ?_
  refine lv_if_ne (tgt := 304) hx hb dL_refuses_297 (by decide) (fun _ => ?_) (fun c22 => absurd c22 (by decide))
  refine lv_iload hx hb dL_refuses_304 (lv_at hl 1 rfl) ?_
  refine va_calli (vx_runSW (As := [.ref (gA g 0), .int 4, .int 5, .int 2147483647]) (rest := []) ⟨hx, hb, hml, hown, hts⟩ (mtL_act_4 l g σ μ o hfl 5 2147483647 1 (-72) (kPa_1 (by decide)) (by decide)) (vx_cwSW 4 hts gL_refuses_L_act rfl rfl rfl (by decide +kernel) ⟨Nat.le_of_ble_eq_true rfl, Nat.le_of_ble_eq_true rfl⟩) ⟨PW.blind, fun U hU hW9 => ⟨rfl, PW.at hC hS hW U hU hW9⟩⟩ rfl rfl hl.1 rfl (lv_room (Nat.le_of_ble_eq_true rfl)) dL_refuses_306 ⟨Nat.le_of_ble_eq_true rfl, Nat.le_of_ble_eq_true rfl⟩) hS (fun _ _ h => h) (fun _ h => h) (fun r u t H locs ht hvm hq hW hz9 hk9 hS => ?_)
  obtain rfl : r = (-72) := hq
  replace hW : Wd g σ μ o H := by rw [← ht]; exact hW
  refine lv_bipush (v := (-72)) hx hb dL_refuses_309 (by decide) ?_
  refine lv_icmp_ne (tgt := 404) hx hb dL_refuses_311 (by decide) (fun c23 => absurd c23 (by decide)) (fun _ => ?_)
  refine lv_aload_n hx hb dL_refuses_314 rfl (lv_at hl 10 rfl) ?_
  refine lv_bipush (v := 7) hx hb dL_refuses_315 (by decide) ?_
  refine lv_iload hx hb dL_refuses_317 (lv_at hl 4 rfl) ?_
  refine lv_if_ne (tgt := 326) hx hb dL_refuses_319 (by decide) (fun _ => ?_) (fun c24 => absurd c24 (by decide))
  refine lv_iload hx hb dL_refuses_326 (lv_at hl 4 rfl) ?_
  refine lv_iconst (v := 1) hx hb dL_refuses_328 (by decide) ?_
  refine lv_icmp_ne (tgt := 337) hx hb dL_refuses_329 (by decide) (fun _ => ?_) (fun c25 => absurd c25 (by decide))
  refine lv_iload hx hb dL_refuses_337 (lv_at hl 3 rfl) ?_
  refine lv_iconst (v := 0) hx hb dL_refuses_339 (by decide) ?_
  refine va_calli (vx_runSW (As := [.ref (gA g 0), .int 7, .int 2147483647, .int 0]) (rest := []) ⟨hx, hb, hml, hown, hts⟩ (mtL_act_7 l g σ μ o hfl 2147483647 0 en cl e1 e2 e3 e4 1 (-72) (kEn_1 (by decide)) (by decide)) (vx_cwSW 4 hts gL_refuses_L_act rfl rfl rfl (by decide +kernel) ⟨Nat.le_of_ble_eq_true rfl, Nat.le_of_ble_eq_true rfl⟩) ⟨PW.blind, fun U hU hW9 => ⟨rfl, PW.at hC hS hW U hU hW9⟩⟩ rfl rfl hl.1 rfl (lv_room (Nat.le_of_ble_eq_true rfl)) dL_refuses_340 ⟨Nat.le_of_ble_eq_true rfl, Nat.le_of_ble_eq_true rfl⟩) hS (fun _ _ h => h) (fun _ h => h) (fun r u t H locs ht hvm hq hW hz9 hk9 hS => ?_)
  obtain rfl : r = (-72) := hq
  replace hW : Wd g σ μ o H := by rw [← ht]; exact hW
  refine lv_bipush (v := (-72)) hx hb dL_refuses_343 (by decide) ?_
  refine lv_icmp_ne (tgt := 404) hx hb dL_refuses_345 (by decide) (fun c26 => absurd c26 (by decide)) (fun _ => ?_)
  refine lv_aload_n hx hb dL_refuses_348 rfl (lv_at hl 10 rfl) ?_
  refine lv_bipush (v := 8) hx hb dL_refuses_349 (by decide) ?_
  refine lv_iload hx hb dL_refuses_351 (lv_at hl 4 rfl) ?_
  refine lv_iconst (v := 1) hx hb dL_refuses_353 (by decide) ?_
  refine lv_icmp_ne (tgt := 361) hx hb dL_refuses_354 (by decide) (fun _ => ?_) (fun c27 => absurd c27 (by decide))
  refine lv_iload hx hb dL_refuses_361 (lv_at hl 3 rfl) ?_
  refine lv_iconst (v := 0) hx hb dL_refuses_363 (by decide) ?_
  refine va_calli (vx_runSW (As := [.ref (gA g 0), .int 8, .int 2147483647, .int 0]) (rest := []) ⟨hx, hb, hml, hown, hts⟩ (mtL_act_8 l g σ μ o hfl 2147483647 0 1 (-71) (kAt_out (by decide)) (by decide)) (vx_cwSW 4 hts gL_refuses_L_act rfl rfl rfl (by decide +kernel) ⟨Nat.le_of_ble_eq_true rfl, Nat.le_of_ble_eq_true rfl⟩) ⟨PW.blind, fun U hU hW9 => ⟨rfl, PW.at hC hS hW U hU hW9⟩⟩ rfl rfl hl.1 rfl (lv_room (Nat.le_of_ble_eq_true rfl)) dL_refuses_364 ⟨Nat.le_of_ble_eq_true rfl, Nat.le_of_ble_eq_true rfl⟩) hS (fun _ _ h => h) (fun _ h => h) (fun r u t H locs ht hvm hq hW hz9 hk9 hS => ?_)
  obtain rfl : r = (-71) := hq
  replace hW : Wd g σ μ o H := by rw [← ht]; exact hW
  refine lv_bipush (v := (-71)) hx hb dL_refuses_367 (by decide) ?_
  refine lv_icmp_ne (tgt := 404) hx hb dL_refuses_369 (by decide) (fun c28 => absurd c28 (by decide)) (fun _ => ?_)
  refine lv_aload_n hx hb dL_refuses_372 rfl (lv_at hl 10 rfl) ?_
  refine lv_bipush (v := 11) hx hb dL_refuses_373 (by decide) ?_
  refine lv_iload hx hb dL_refuses_375 (lv_at hl 3 rfl) ?_
  refine lv_iload_n hx hb dL_refuses_377 rfl (lv_at hl 11 rfl) ?_
  refine va_calli (vx_runSW (As := [.ref (gA g 0), .int 11, .int 2147483647, .int here]) (rest := []) ⟨hx, hb, hml, hown, hts⟩ (mtL_act_11 l g σ μ o hfl 2147483647 here 1 (-71) (kCm_a nM) (by decide)) (vx_cwSW 4 hts gL_refuses_L_act rfl rfl rfl (by decide +kernel) ⟨Nat.le_of_ble_eq_true rfl, Nat.le_of_ble_eq_true rfl⟩) ⟨PW.blind, fun U hU hW9 => ⟨rfl, PW.at hC hS hW U hU hW9⟩⟩ rfl rfl hl.1 rfl (lv_room (Nat.le_of_ble_eq_true rfl)) dL_refuses_378 ⟨Nat.le_of_ble_eq_true rfl, Nat.le_of_ble_eq_true rfl⟩) hS (fun _ _ h => h) (fun _ h => h) (fun r u t H locs ht hvm hq hW hz9 hk9 hS => ?_)
  obtain rfl : r = (-71) := hq
  replace hW : Wd g σ μ o H := by rw [← ht]; exact hW
  refine lv_bipush (v := (-71)) hx hb dL_refuses_381 (by decide) ?_
  refine lv_icmp_ne (tgt := 404) hx hb dL_refuses_383 (by decide) (fun c29 => absurd c29 (by decide)) (fun _ => ?_)
  refine lv_aload_n hx hb dL_refuses_386 rfl (lv_at hl 10 rfl) ?_
  refine lv_bipush (v := 11) hx hb dL_refuses_387 (by decide) ?_
  refine lv_iload_n hx hb dL_refuses_389 rfl (lv_at hl 11 rfl) ?_
  refine lv_iload hx hb dL_refuses_390 (lv_at hl 3 rfl) ?_
  refine va_calli (vx_runSW (As := [.ref (gA g 0), .int 11, .int here, .int 2147483647]) (rest := []) ⟨hx, hb, hml, hown, hts⟩ (mtL_act_11 l g σ μ o hfl here 2147483647 1 (-71) (kCm_b nM) (by decide)) (vx_cwSW 4 hts gL_refuses_L_act rfl rfl rfl (by decide +kernel) ⟨Nat.le_of_ble_eq_true rfl, Nat.le_of_ble_eq_true rfl⟩) ⟨PW.blind, fun U hU hW9 => ⟨rfl, PW.at hC hS hW U hU hW9⟩⟩ rfl rfl hl.1 rfl (lv_room (Nat.le_of_ble_eq_true rfl)) dL_refuses_392 ⟨Nat.le_of_ble_eq_true rfl, Nat.le_of_ble_eq_true rfl⟩) hS (fun _ _ h => h) (fun _ h => h) (fun r u t H locs ht hvm hq hW hz9 hk9 hS => ?_)
  obtain rfl : r = (-71) := hq
  replace hW : Wd g σ μ o H := by rw [← ht]; exact hW
  refine lv_bipush (v := (-71)) hx hb dL_refuses_395 (by decide) ?_
  refine lv_icmp_ne (tgt := 404) hx hb dL_refuses_397 (by decide) (fun c30 => absurd c30 (by decide)) (fun _ => ?_)
  refine lv_iconst (v := 1) hx hb dL_refuses_400 (by decide) ?_
  refine lv_goto (tgt := 405) hx hb dL_refuses_401 (by decide) ?_
  refine lv_istore (lv' := [(13, .int 1), (12, .int 2147483647), (11, .int 2147483647), (10, .int 2147483647), (9, .int 2147483647), (8, .int 2), (7, .int 2147483647), (6, .int (σ.2.2.1 0)), (5, .int (σ.1 6)), (4, .int (nxR σ)), (3, .int (nI (ct (thr σ.2.1) 16))), (0, .ref (gA g 0)), (1, .int here), (2, .int gone)]) hx hb dL_refuses_405 hl (by decide) rfl (fun ls hl => ?_)
  exact kk H locs ls hW hS (by exact lv_sub hl [0, 1, 2, 3, 4, 5, 6, 7, 8, 9, 10, 11, 12, 13] rfl)

set_option maxHeartbeats 4000000 in
set_option maxRecDepth 100000 in
theorem rf_2b {p : Program} {l : Launch} {e : Env} {s : State} {m : MethodId} {below : List Frame} {meth : Method} {c : Code} {g : Ge} {σ : Sg} {μ : Mg} {o : Nat → Int64} {here gone : Int32} {en cl : Nat} (C0 : rfC p l s m meth c g σ here gone en cl) (kk : rfG p l e s m below meth c g σ μ o here gone 30 [(8, .int 3), (7, .int 2147483647), (6, .int (σ.2.2.1 0)), (5, .int (σ.1 6)), (4, .int (nxR σ)), (3, .int (nI (ct (thr σ.2.1) 16))), (0, .ref (gA g 0)), (1, .int here), (2, .int gone)] 111 666) : rfG p l e s m below meth c g σ μ o here gone 407 [(13, .int 1), (12, .int 2147483647), (11, .int 2147483647), (10, .int 2147483647), (9, .int 2147483647), (8, .int 2), (7, .int 2147483647), (6, .int (σ.2.2.1 0)), (5, .int (σ.1 6)), (4, .int (nxR σ)), (3, .int (nI (ct (thr σ.2.1) 16))), (0, .ref (gA g 0)), (1, .int here), (2, .int gone)] 96 576 := by
  obtain ⟨⟨hx, hb, hr, hml, hts, hown, hlocks⟩, hC, hfl, ⟨n2, n1, nM, nm, ng, hh, g1, hL⟩, e1, e2, e3, e4⟩ := C0
  have hk0 : narrow .boolean (.int (σ.2.2.1 0)) = .int (σ.2.2.1 0) := by rcases hL with q | q <;> rw [q] <;> rfl
  intro H locs ls hW hS hl
  have hl : lv_has ls 15 [(13, .int 1), (12, .int 2147483647), (11, .int 2147483647), (10, .int 2147483647), (9, .int 2147483647), (8, .int 2), (7, .int 2147483647), (6, .int (σ.2.2.1 0)), (5, .int (σ.1 6)), (4, .int (nxR σ)), (3, .int (nI (ct (thr σ.2.1) 16))), (0, .ref (gA g 0)), (1, .int here), (2, .int gone)] := hl
  refine lv_iload hx hb dL_refuses_407 (lv_at hl 0 rfl) ?_
  refine lv_if_eq (tgt := 533) hx hb dL_refuses_409 (by decide) (fun c1 => absurd c1 (by decide)) (fun _ => ?_)
  refine lv_aload_n hx hb dL_refuses_412 rfl (lv_at hl 11 rfl) ?_
  refine lv_iconst (v := 5) hx hb dL_refuses_413 (by decide) ?_
  refine lv_iload hx hb dL_refuses_414 (lv_at hl 5 rfl) ?_
  refine lv_if_ne (tgt := 423) hx hb dL_refuses_416 (by decide) (fun _ => ?_) (fun c2 => absurd c2 (by decide))
  refine lv_iload hx hb dL_refuses_423 (lv_at hl 5 rfl) ?_
  refine lv_iconst (v := 1) hx hb dL_refuses_425 (by decide) ?_
  refine lv_icmp_ne (tgt := 434) hx hb dL_refuses_426 (by decide) (fun _ => ?_) (fun c3 => absurd c3 (by decide))
  refine lv_iload hx hb dL_refuses_434 (lv_at hl 4 rfl) ?_
  refine va_calli (vx_runSW (As := [.ref (gA g 0), .int 5, .int 2147483647]) (rest := []) ⟨hx, hb, hml, hown, hts⟩ (mtL_lockR l g σ μ o hfl 5 2147483647 1 (-72) (kLo_1 (by decide +kernel)) (by decide)) (vx_cwSW 3 hts gL_refuses_L_lock rfl rfl rfl (by decide +kernel) ⟨Nat.le_of_ble_eq_true rfl, Nat.le_of_ble_eq_true rfl⟩) ⟨PW.blind, fun U hU hW9 => ⟨rfl, PW.at hC hS hW U hU hW9⟩⟩ rfl rfl hl.1 rfl (lv_room (Nat.le_of_ble_eq_true rfl)) dL_refuses_436 ⟨Nat.le_of_ble_eq_true rfl, Nat.le_of_ble_eq_true rfl⟩) hS (fun _ _ h => h) (fun _ h => h) (fun r u t H locs ht hvm hq hW hz9 hk9 hS => ?_)
  obtain rfl : r = (-72) := hq
  replace hW : Wd g σ μ o H := by rw [← ht]; exact hW
  refine lv_bipush (v := (-72)) hx hb dL_refuses_439 (by decide) ?_
  refine lv_icmp_ne (tgt := 533) hx hb dL_refuses_441 (by decide) (fun c4 => absurd c4 (by decide)) (fun _ => ?_)
  refine lv_aload_n hx hb dL_refuses_444 rfl (lv_at hl 11 rfl) ?_
  refine lv_iload hx hb dL_refuses_445 (lv_at hl 5 rfl) ?_
  refine lv_if_ne (tgt := 454) hx hb dL_refuses_447 (by decide) (fun _ => ?_) (fun c5 => absurd c5 (by decide))
  refine lv_iload hx hb dL_refuses_454 (lv_at hl 5 rfl) ?_
  refine lv_iconst (v := 1) hx hb dL_refuses_456 (by decide) ?_
  refine lv_icmp_ne (tgt := 466) hx hb dL_refuses_457 (by decide) (fun _ => ?_) (fun c6 => absurd c6 (by decide))
  refine lv_iload hx hb dL_refuses_466 (lv_at hl 4 rfl) ?_
  refine lv_iconst (v := 3) hx hb dL_refuses_468 (by decide) ?_
  refine va_calli (vx_runSW (As := [.ref (gA g 0), .int 2147483647, .int 3]) (rest := []) ⟨hx, hb, hml, hown, hts⟩ (mtL_lockR l g σ μ o hfl 2147483647 3 1 (-72) (kLo_1 (by decide +kernel)) (by decide)) (vx_cwSW 3 hts gL_refuses_L_lock rfl rfl rfl (by decide +kernel) ⟨Nat.le_of_ble_eq_true rfl, Nat.le_of_ble_eq_true rfl⟩) ⟨PW.blind, fun U hU hW9 => ⟨rfl, PW.at hC hS hW U hU hW9⟩⟩ rfl rfl hl.1 rfl (lv_room (Nat.le_of_ble_eq_true rfl)) dL_refuses_469 ⟨Nat.le_of_ble_eq_true rfl, Nat.le_of_ble_eq_true rfl⟩) hS (fun _ _ h => h) (fun _ h => h) (fun r u t H locs ht hvm hq hW hz9 hk9 hS => ?_)
  obtain rfl : r = (-72) := hq
  replace hW : Wd g σ μ o H := by rw [← ht]; exact hW
  refine lv_bipush (v := (-72)) hx hb dL_refuses_472 (by decide) ?_
  refine lv_icmp_ne (tgt := 533) hx hb dL_refuses_474 (by decide) (fun c7 => absurd c7 (by decide)) (fun _ => ?_)
  refine lv_aload_n hx hb dL_refuses_477 rfl (lv_at hl 11 rfl) ?_
  refine lv_iconst (v := 2) hx hb dL_refuses_478 (by decide) ?_
  refine lv_iload hx hb dL_refuses_479 (lv_at hl 4 rfl) ?_
  refine lv_iconst (v := 0) hx hb dL_refuses_481 (by decide) ?_
  refine va_calli (vx_runSW (As := [.ref (gA g 0), .int 2, .int 2147483647, .int 0]) (rest := []) ⟨hx, hb, hml, hown, hts⟩ (mtL_act_2 l g σ μ o hfl 2147483647 0 1 (-71) (kCh_1 (okC_f nM (by decide))) (by decide)) (vx_cwSW 4 hts gL_refuses_L_act rfl rfl rfl (by decide +kernel) ⟨Nat.le_of_ble_eq_true rfl, Nat.le_of_ble_eq_true rfl⟩) ⟨PW.blind, fun U hU hW9 => ⟨rfl, PW.at hC hS hW U hU hW9⟩⟩ rfl rfl hl.1 rfl (lv_room (Nat.le_of_ble_eq_true rfl)) dL_refuses_482 ⟨Nat.le_of_ble_eq_true rfl, Nat.le_of_ble_eq_true rfl⟩) hS (fun _ _ h => h) (fun _ h => h) (fun r u t H locs ht hvm hq hW hz9 hk9 hS => ?_)
  obtain rfl : r = (-71) := hq
  replace hW : Wd g σ μ o H := by rw [← ht]; exact hW
  refine lv_bipush (v := (-71)) hx hb dL_refuses_485 (by decide) ?_
  refine lv_icmp_ne (tgt := 533) hx hb dL_refuses_487 (by decide) (fun c8 => absurd c8 (by decide)) (fun _ => ?_)
  refine lv_aload_n hx hb dL_refuses_490 rfl (lv_at hl 11 rfl) ?_
  refine lv_iconst (v := 3) hx hb dL_refuses_491 (by decide) ?_
  refine lv_iload hx hb dL_refuses_492 (lv_at hl 4 rfl) ?_
  refine lv_iconst (v := 0) hx hb dL_refuses_494 (by decide) ?_
  refine va_calli (vx_runSW (As := [.ref (gA g 0), .int 3, .int 2147483647, .int 0]) (rest := []) ⟨hx, hb, hml, hown, hts⟩ (mtL_act_3 l g σ μ o hfl 2147483647 0 1 (-71) (kCo_1 (okC_f nM (by decide))) (by decide)) (vx_cwSW 4 hts gL_refuses_L_act rfl rfl rfl (by decide +kernel) ⟨Nat.le_of_ble_eq_true rfl, Nat.le_of_ble_eq_true rfl⟩) ⟨PW.blind, fun U hU hW9 => ⟨rfl, PW.at hC hS hW U hU hW9⟩⟩ rfl rfl hl.1 rfl (lv_room (Nat.le_of_ble_eq_true rfl)) dL_refuses_495 ⟨Nat.le_of_ble_eq_true rfl, Nat.le_of_ble_eq_true rfl⟩) hS (fun _ _ h => h) (fun _ h => h) (fun r u t H locs ht hvm hq hW hz9 hk9 hS => ?_)
  obtain rfl : r = (-71) := hq
  replace hW : Wd g σ μ o H := by rw [← ht]; exact hW
  refine lv_bipush (v := (-71)) hx hb dL_refuses_498 (by decide) ?_
  refine lv_icmp_ne (tgt := 533) hx hb dL_refuses_500 (by decide) (fun c9 => absurd c9 (by decide)) (fun _ => ?_)
  refine lv_aload_n hx hb dL_refuses_503 rfl (lv_at hl 11 rfl) ?_
  refine lv_iconst (v := 0) hx hb dL_refuses_504 (by decide) ?_
  refine lv_iload hx hb dL_refuses_505 (lv_at hl 4 rfl) ?_
  refine lv_iconst (v := 0) hx hb dL_refuses_507 (by decide) ?_
  refine va_calli (vx_runSW (As := [.ref (gA g 0), .int 0, .int 2147483647, .int 0]) (rest := []) ⟨hx, hb, hml, hown, hts⟩ (mtL_act_0 l g σ μ o hfl 2147483647 0 1 (-71) (kRem_1 nM) (by decide)) (vx_cwSW 4 hts gL_refuses_L_act rfl rfl rfl (by decide +kernel) ⟨Nat.le_of_ble_eq_true rfl, Nat.le_of_ble_eq_true rfl⟩) ⟨PW.blind, fun U hU hW9 => ⟨rfl, PW.at hC hS hW U hU hW9⟩⟩ rfl rfl hl.1 rfl (lv_room (Nat.le_of_ble_eq_true rfl)) dL_refuses_508 ⟨Nat.le_of_ble_eq_true rfl, Nat.le_of_ble_eq_true rfl⟩) hS (fun _ _ h => h) (fun _ h => h) (fun r u t H locs ht hvm hq hW hz9 hk9 hS => ?_)
  obtain rfl : r = (-71) := hq
  replace hW : Wd g σ μ o H := by rw [← ht]; exact hW
  refine lv_bipush (v := (-71)) hx hb dL_refuses_511 (by decide) ?_
  refine lv_icmp_ne (tgt := 533) hx hb dL_refuses_513 (by decide) (fun c10 => absurd c10 (by decide)) (fun _ => ?_)
  refine lv_aload_n hx hb dL_refuses_516 rfl (lv_at hl 11 rfl) ?_
  refine lv_iconst (v := 0) hx hb dL_refuses_517 (by decide) ?_
  refine lv_iload hx hb dL_refuses_518 (lv_at hl 3 rfl) ?_
  refine lv_iconst (v := 0) hx hb dL_refuses_520 (by decide) ?_
  refine va_calli (vx_runSW (As := [.ref (gA g 0), .int 0, .int 2147483647, .int 0]) (rest := []) ⟨hx, hb, hml, hown, hts⟩ (mtL_act_0 l g σ μ o hfl 2147483647 0 1 (-71) (kRem_1 nM) (by decide)) (vx_cwSW 4 hts gL_refuses_L_act rfl rfl rfl (by decide +kernel) ⟨Nat.le_of_ble_eq_true rfl, Nat.le_of_ble_eq_true rfl⟩) ⟨PW.blind, fun U hU hW9 => ⟨rfl, PW.at hC hS hW U hU hW9⟩⟩ rfl rfl hl.1 rfl (lv_room (Nat.le_of_ble_eq_true rfl)) dL_refuses_521 ⟨Nat.le_of_ble_eq_true rfl, Nat.le_of_ble_eq_true rfl⟩) hS (fun _ _ h => h) (fun _ h => h) (fun r u t H locs ht hvm hq hW hz9 hk9 hS => ?_)
  obtain rfl : r = (-71) := hq
  replace hW : Wd g σ μ o H := by rw [← ht]; exact hW
  refine lv_bipush (v := (-71)) hx hb dL_refuses_524 (by decide) ?_
  refine lv_icmp_ne (tgt := 533) hx hb dL_refuses_526 (by decide) (fun c11 => absurd c11 (by decide)) (fun _ => ?_)
  refine lv_iconst (v := 1) hx hb dL_refuses_529 (by decide) ?_
  refine lv_goto (tgt := 534) hx hb dL_refuses_530 (by decide) ?_
  refine lv_istore (lv' := [(13, .int 1), (12, .int 2147483647), (11, .int 2147483647), (10, .int 2147483647), (9, .int 2147483647), (8, .int 2), (7, .int 2147483647), (6, .int (σ.2.2.1 0)), (5, .int (σ.1 6)), (4, .int (nxR σ)), (3, .int (nI (ct (thr σ.2.1) 16))), (0, .ref (gA g 0)), (1, .int here), (2, .int gone)]) hx hb dL_refuses_534 hl (by decide) rfl (fun ls hl => ?_)
  refine lv_bipush (v := 9) hx hb dL_refuses_536 (by decide) ?_
  refine lv_istore (lv' := [(14, .int 9), (13, .int 1), (12, .int 2147483647), (11, .int 2147483647), (10, .int 2147483647), (9, .int 2147483647), (8, .int 2), (7, .int 2147483647), (6, .int (σ.2.2.1 0)), (5, .int (σ.1 6)), (4, .int (nxR σ)), (3, .int (nI (ct (thr σ.2.1) 16))), (0, .ref (gA g 0)), (1, .int here), (2, .int gone)]) hx hb dL_refuses_538 hl (by decide) rfl (fun ls hl => ?_)
  refine lv_iload hx hb dL_refuses_540 (lv_at hl 0 rfl) ?_
  refine lv_bipush (v := 13) hx hb dL_refuses_542 (by decide) ?_
  refine lv_icmp_ge (tgt := 600) hx hb dL_refuses_544 (by decide) (fun c12 => absurd c12 (by decide)) (fun _ => ?_)
  refine lv_iload hx hb dL_refuses_547 (lv_at hl 1 rfl) ?_
  refine lv_if_eq (tgt := 591) hx hb dL_refuses_549 (by decide) (fun c13 => absurd c13 (by decide)) (fun _ => ?_)
  refine lv_iload hx hb dL_refuses_552 (lv_at hl 0 rfl) ?_
  refine lv_bipush (v := 11) hx hb dL_refuses_554 (by decide) ?_
  refine lv_icmp_eq (tgt := 587) hx hb dL_refuses_556 (by decide) (fun c14 => absurd c14 (by decide)) (fun _ => ?_)
  refine lv_aload_n hx hb dL_refuses_559 rfl (lv_at hl 12 rfl) ?_
  refine lv_iload hx hb dL_refuses_560 (lv_at hl 0 rfl) ?_
  refine lv_iload hx hb dL_refuses_562 (lv_at hl 5 rfl) ?_
  refine lv_iconst (v := 0) hx hb dL_refuses_564 (by decide) ?_
  refine va_calli (vx_runSW (As := [.ref (gA g 0), .int 9, .int 2147483647, .int 0]) (rest := []) ⟨hx, hb, hml, hown, hts⟩ (mtL_act_9 l g σ μ o hfl 2147483647 0 1 (-71) (kRem_1 nM) (by decide)) (vx_cwSW 4 hts gL_refuses_L_act rfl rfl rfl (by decide +kernel) ⟨Nat.le_of_ble_eq_true rfl, Nat.le_of_ble_eq_true rfl⟩) ⟨PW.blind, fun U hU hW9 => ⟨rfl, PW.at hC hS hW U hU hW9⟩⟩ rfl rfl hl.1 rfl (lv_room (Nat.le_of_ble_eq_true rfl)) dL_refuses_565 ⟨Nat.le_of_ble_eq_true rfl, Nat.le_of_ble_eq_true rfl⟩) hS (fun _ _ h => h) (fun _ h => h) (fun r u t H locs ht hvm hq hW hz9 hk9 hS => ?_)
  obtain rfl : r = (-71) := hq
  replace hW : Wd g σ μ o H := by rw [← ht]; exact hW
  refine lv_bipush (v := (-71)) hx hb dL_refuses_568 (by decide) ?_
  refine lv_icmp_ne (tgt := 591) hx hb dL_refuses_570 (by decide) (fun c15 => absurd c15 (by decide)) (fun _ => ?_)
  refine lv_aload_n hx hb dL_refuses_573 rfl (lv_at hl 12 rfl) ?_
  refine lv_iload hx hb dL_refuses_574 (lv_at hl 0 rfl) ?_
  refine lv_iload hx hb dL_refuses_576 (lv_at hl 4 rfl) ?_
  refine lv_iconst (v := 0) hx hb dL_refuses_578 (by decide) ?_
  refine va_calli (vx_runSW (As := [.ref (gA g 0), .int 9, .int 2147483647, .int 0]) (rest := []) ⟨hx, hb, hml, hown, hts⟩ (mtL_act_9 l g σ μ o hfl 2147483647 0 1 (-71) (kRem_1 nM) (by decide)) (vx_cwSW 4 hts gL_refuses_L_act rfl rfl rfl (by decide +kernel) ⟨Nat.le_of_ble_eq_true rfl, Nat.le_of_ble_eq_true rfl⟩) ⟨PW.blind, fun U hU hW9 => ⟨rfl, PW.at hC hS hW U hU hW9⟩⟩ rfl rfl hl.1 rfl (lv_room (Nat.le_of_ble_eq_true rfl)) dL_refuses_579 ⟨Nat.le_of_ble_eq_true rfl, Nat.le_of_ble_eq_true rfl⟩) hS (fun _ _ h => h) (fun _ h => h) (fun r u t H locs ht hvm hq hW hz9 hk9 hS => ?_)
  obtain rfl : r = (-71) := hq
  replace hW : Wd g σ μ o H := by rw [← ht]; exact hW
  refine lv_bipush (v := (-71)) hx hb dL_refuses_582 (by decide) ?_
  refine lv_icmp_ne (tgt := 591) hx hb dL_refuses_584 (by decide) (fun c16 => absurd c16 (by decide)) (fun _ => ?_)
  refine lv_iconst (v := 1) hx hb dL_refuses_587 (by decide) ?_
  refine lv_goto (tgt := 592) hx hb dL_refuses_588 (by decide) ?_
  refine lv_istore (lv' := [(13, .int 1), (14, .int 9), (12, .int 2147483647), (11, .int 2147483647), (10, .int 2147483647), (9, .int 2147483647), (8, .int 2), (7, .int 2147483647), (6, .int (σ.2.2.1 0)), (5, .int (σ.1 6)), (4, .int (nxR σ)), (3, .int (nI (ct (thr σ.2.1) 16))), (0, .ref (gA g 0)), (1, .int here), (2, .int gone)]) hx hb dL_refuses_592 hl (by decide) rfl (fun ls hl => ?_)
  refine lv_iinc (v := 10) (lv' := [(14, .int 10), (13, .int 1), (12, .int 2147483647), (11, .int 2147483647), (10, .int 2147483647), (9, .int 2147483647), (8, .int 2), (7, .int 2147483647), (6, .int (σ.2.2.1 0)), (5, .int (σ.1 6)), (4, .int (nxR σ)), (3, .int (nI (ct (thr σ.2.1) 16))), (0, .ref (gA g 0)), (1, .int here), (2, .int gone)]) hx hb dL_refuses_594 hl (k := 1) rfl (by decide) (by decide) rfl (fun ls hl => ?_)
  refine lv_goto (tgt := 540) hx hb dL_refuses_597 (by decide) ?_
  refine lv_iload hx hb dL_refuses_540 (lv_at hl 0 rfl) ?_
  refine lv_bipush (v := 13) hx hb dL_refuses_542 (by decide) ?_
  refine lv_icmp_ge (tgt := 600) hx hb dL_refuses_544 (by decide) (fun c17 => absurd c17 (by decide)) (fun _ => ?_)
  refine lv_iload hx hb dL_refuses_547 (lv_at hl 1 rfl) ?_
  refine lv_if_eq (tgt := 591) hx hb dL_refuses_549 (by decide) (fun c18 => absurd c18 (by decide)) (fun _ => ?_)
  refine lv_iload hx hb dL_refuses_552 (lv_at hl 0 rfl) ?_
  refine lv_bipush (v := 11) hx hb dL_refuses_554 (by decide) ?_
  refine lv_icmp_eq (tgt := 587) hx hb dL_refuses_556 (by decide) (fun c19 => absurd c19 (by decide)) (fun _ => ?_)
  refine lv_aload_n hx hb dL_refuses_559 rfl (lv_at hl 12 rfl) ?_
  refine lv_iload hx hb dL_refuses_560 (lv_at hl 0 rfl) ?_
  refine lv_iload hx hb dL_refuses_562 (lv_at hl 5 rfl) ?_
  refine lv_iconst (v := 0) hx hb dL_refuses_564 (by decide) ?_
  refine va_calli (vx_runSW (As := [.ref (gA g 0), .int 10, .int 2147483647, .int 0]) (rest := []) ⟨hx, hb, hml, hown, hts⟩ (mtL_act_10 l g σ μ o hfl 2147483647 0 1 (-71) (kRem_1 nM) (by decide)) (vx_cwSW 4 hts gL_refuses_L_act rfl rfl rfl (by decide +kernel) ⟨Nat.le_of_ble_eq_true rfl, Nat.le_of_ble_eq_true rfl⟩) ⟨PW.blind, fun U hU hW9 => ⟨rfl, PW.at hC hS hW U hU hW9⟩⟩ rfl rfl hl.1 rfl (lv_room (Nat.le_of_ble_eq_true rfl)) dL_refuses_565 ⟨Nat.le_of_ble_eq_true rfl, Nat.le_of_ble_eq_true rfl⟩) hS (fun _ _ h => h) (fun _ h => h) (fun r u t H locs ht hvm hq hW hz9 hk9 hS => ?_)
  obtain rfl : r = (-71) := hq
  replace hW : Wd g σ μ o H := by rw [← ht]; exact hW
  refine lv_bipush (v := (-71)) hx hb dL_refuses_568 (by decide) ?_
  refine lv_icmp_ne (tgt := 591) hx hb dL_refuses_570 (by decide) (fun c20 => absurd c20 (by decide)) (fun _ => ?_)
  refine lv_aload_n hx hb dL_refuses_573 rfl (lv_at hl 12 rfl) ?_
  refine lv_iload hx hb dL_refuses_574 (lv_at hl 0 rfl) ?_
  refine lv_iload hx hb dL_refuses_576 (lv_at hl 4 rfl) ?_
  refine lv_iconst (v := 0) hx hb dL_refuses_578 (by decide) ?_
  refine va_calli (vx_runSW (As := [.ref (gA g 0), .int 10, .int 2147483647, .int 0]) (rest := []) ⟨hx, hb, hml, hown, hts⟩ (mtL_act_10 l g σ μ o hfl 2147483647 0 1 (-71) (kRem_1 nM) (by decide)) (vx_cwSW 4 hts gL_refuses_L_act rfl rfl rfl (by decide +kernel) ⟨Nat.le_of_ble_eq_true rfl, Nat.le_of_ble_eq_true rfl⟩) ⟨PW.blind, fun U hU hW9 => ⟨rfl, PW.at hC hS hW U hU hW9⟩⟩ rfl rfl hl.1 rfl (lv_room (Nat.le_of_ble_eq_true rfl)) dL_refuses_579 ⟨Nat.le_of_ble_eq_true rfl, Nat.le_of_ble_eq_true rfl⟩) hS (fun _ _ h => h) (fun _ h => h) (fun r u t H locs ht hvm hq hW hz9 hk9 hS => ?_)
  obtain rfl : r = (-71) := hq
  replace hW : Wd g σ μ o H := by rw [← ht]; exact hW
  refine lv_bipush (v := (-71)) hx hb dL_refuses_582 (by decide) ?_
  refine lv_icmp_ne (tgt := 591) hx hb dL_refuses_584 (by decide) (fun c21 => absurd c21 (by decide)) (fun _ => ?_)
  refine lv_iconst (v := 1) hx hb dL_refuses_587 (by decide) ?_
  refine lv_goto (tgt := 592) hx hb dL_refuses_588 (by decide) ?_
  refine lv_istore (lv' := [(13, .int 1), (14, .int 10), (12, .int 2147483647), (11, .int 2147483647), (10, .int 2147483647), (9, .int 2147483647), (8, .int 2), (7, .int 2147483647), (6, .int (σ.2.2.1 0)), (5, .int (σ.1 6)), (4, .int (nxR σ)), (3, .int (nI (ct (thr σ.2.1) 16))), (0, .ref (gA g 0)), (1, .int here), (2, .int gone)]) hx hb dL_refuses_592 hl (by decide) rfl (fun ls hl => ?_)
  refine lv_iinc (v := 11) (lv' := [(14, .int 11), (13, .int 1), (12, .int 2147483647), (11, .int 2147483647), (10, .int 2147483647), (9, .int 2147483647), (8, .int 2), (7, .int 2147483647), (6, .int (σ.2.2.1 0)), (5, .int (σ.1 6)), (4, .int (nxR σ)), (3, .int (nI (ct (thr σ.2.1) 16))), (0, .ref (gA g 0)), (1, .int here), (2, .int gone)]) hx hb dL_refuses_594 hl (k := 1) rfl (by decide) (by decide) rfl (fun ls hl => ?_)
  refine lv_goto (tgt := 540) hx hb dL_refuses_597 (by decide) ?_
  refine lv_iload hx hb dL_refuses_540 (lv_at hl 0 rfl) ?_
  refine lv_bipush (v := 13) hx hb dL_refuses_542 (by decide) ?_
  refine lv_icmp_ge (tgt := 600) hx hb dL_refuses_544 (by decide) (fun c22 => absurd c22 (by decide)) (fun _ => ?_)
  refine lv_iload hx hb dL_refuses_547 (lv_at hl 1 rfl) ?_
  refine lv_if_eq (tgt := 591) hx hb dL_refuses_549 (by decide) (fun c23 => absurd c23 (by decide)) (fun _ => ?_)
  refine lv_iload hx hb dL_refuses_552 (lv_at hl 0 rfl) ?_
  refine lv_bipush (v := 11) hx hb dL_refuses_554 (by decide) ?_
  refine lv_icmp_eq (tgt := 587) hx hb dL_refuses_556 (by decide) (fun _ => ?_) (fun c24 => absurd c24 (by decide))
  refine lv_iconst (v := 1) hx hb dL_refuses_587 (by decide) ?_
  refine lv_goto (tgt := 592) hx hb dL_refuses_588 (by decide) ?_
  refine lv_istore (lv' := [(13, .int 1), (14, .int 11), (12, .int 2147483647), (11, .int 2147483647), (10, .int 2147483647), (9, .int 2147483647), (8, .int 2), (7, .int 2147483647), (6, .int (σ.2.2.1 0)), (5, .int (σ.1 6)), (4, .int (nxR σ)), (3, .int (nI (ct (thr σ.2.1) 16))), (0, .ref (gA g 0)), (1, .int here), (2, .int gone)]) hx hb dL_refuses_592 hl (by decide) rfl (fun ls hl => ?_)
  refine lv_iinc (v := 12) (lv' := [(14, .int 12), (13, .int 1), (12, .int 2147483647), (11, .int 2147483647), (10, .int 2147483647), (9, .int 2147483647), (8, .int 2), (7, .int 2147483647), (6, .int (σ.2.2.1 0)), (5, .int (σ.1 6)), (4, .int (nxR σ)), (3, .int (nI (ct (thr σ.2.1) 16))), (0, .ref (gA g 0)), (1, .int here), (2, .int gone)]) hx hb dL_refuses_594 hl (k := 1) rfl (by decide) (by decide) rfl (fun ls hl => ?_)
  refine lv_goto (tgt := 540) hx hb dL_refuses_597 (by decide) ?_
  refine lv_iload hx hb dL_refuses_540 (lv_at hl 0 rfl) ?_
  refine lv_bipush (v := 13) hx hb dL_refuses_542 (by decide) ?_
  refine lv_icmp_ge (tgt := 600) hx hb dL_refuses_544 (by decide) (fun c25 => absurd c25 (by decide)) (fun _ => ?_)
  refine lv_iload hx hb dL_refuses_547 (lv_at hl 1 rfl) ?_
  refine lv_if_eq (tgt := 591) hx hb dL_refuses_549 (by decide) (fun c26 => absurd c26 (by decide)) (fun _ => ?_)
  refine lv_iload hx hb dL_refuses_552 (lv_at hl 0 rfl) ?_
  refine lv_bipush (v := 11) hx hb dL_refuses_554 (by decide) ?_
  refine lv_icmp_eq (tgt := 587) hx hb dL_refuses_556 (by decide) (fun c27 => absurd c27 (by decide)) (fun _ => ?_)
  refine lv_aload_n hx hb dL_refuses_559 rfl (lv_at hl 12 rfl) ?_
  refine lv_iload hx hb dL_refuses_560 (lv_at hl 0 rfl) ?_
  refine lv_iload hx hb dL_refuses_562 (lv_at hl 5 rfl) ?_
  refine lv_iconst (v := 0) hx hb dL_refuses_564 (by decide) ?_
  refine va_calli (vx_runSW (As := [.ref (gA g 0), .int 12, .int 2147483647, .int 0]) (rest := []) ⟨hx, hb, hml, hown, hts⟩ (mtL_act_12 l g σ μ o hfl 2147483647 0 1 (-71) (kRem_1 nM) (by decide)) (vx_cwSW 4 hts gL_refuses_L_act rfl rfl rfl (by decide +kernel) ⟨Nat.le_of_ble_eq_true rfl, Nat.le_of_ble_eq_true rfl⟩) ⟨PW.blind, fun U hU hW9 => ⟨rfl, PW.at hC hS hW U hU hW9⟩⟩ rfl rfl hl.1 rfl (lv_room (Nat.le_of_ble_eq_true rfl)) dL_refuses_565 ⟨Nat.le_of_ble_eq_true rfl, Nat.le_of_ble_eq_true rfl⟩) hS (fun _ _ h => h) (fun _ h => h) (fun r u t H locs ht hvm hq hW hz9 hk9 hS => ?_)
  obtain rfl : r = (-71) := hq
  replace hW : Wd g σ μ o H := by rw [← ht]; exact hW
  refine lv_bipush (v := (-71)) hx hb dL_refuses_568 (by decide) ?_
  refine lv_icmp_ne (tgt := 591) hx hb dL_refuses_570 (by decide) (fun c28 => absurd c28 (by decide)) (fun _ => ?_)
  refine lv_aload_n hx hb dL_refuses_573 rfl (lv_at hl 12 rfl) ?_
  refine lv_iload hx hb dL_refuses_574 (lv_at hl 0 rfl) ?_
  refine lv_iload hx hb dL_refuses_576 (lv_at hl 4 rfl) ?_
  refine lv_iconst (v := 0) hx hb dL_refuses_578 (by decide) ?_
  refine va_calli (vx_runSW (As := [.ref (gA g 0), .int 12, .int 2147483647, .int 0]) (rest := []) ⟨hx, hb, hml, hown, hts⟩ (mtL_act_12 l g σ μ o hfl 2147483647 0 1 (-71) (kRem_1 nM) (by decide)) (vx_cwSW 4 hts gL_refuses_L_act rfl rfl rfl (by decide +kernel) ⟨Nat.le_of_ble_eq_true rfl, Nat.le_of_ble_eq_true rfl⟩) ⟨PW.blind, fun U hU hW9 => ⟨rfl, PW.at hC hS hW U hU hW9⟩⟩ rfl rfl hl.1 rfl (lv_room (Nat.le_of_ble_eq_true rfl)) dL_refuses_579 ⟨Nat.le_of_ble_eq_true rfl, Nat.le_of_ble_eq_true rfl⟩) hS (fun _ _ h => h) (fun _ h => h) (fun r u t H locs ht hvm hq hW hz9 hk9 hS => ?_)
  obtain rfl : r = (-71) := hq
  replace hW : Wd g σ μ o H := by rw [← ht]; exact hW
  refine lv_bipush (v := (-71)) hx hb dL_refuses_582 (by decide) ?_
  refine lv_icmp_ne (tgt := 591) hx hb dL_refuses_584 (by decide) (fun c29 => absurd c29 (by decide)) (fun _ => ?_)
  refine lv_iconst (v := 1) hx hb dL_refuses_587 (by decide) ?_
  refine lv_goto (tgt := 592) hx hb dL_refuses_588 (by decide) ?_
  refine lv_istore (lv' := [(13, .int 1), (14, .int 12), (12, .int 2147483647), (11, .int 2147483647), (10, .int 2147483647), (9, .int 2147483647), (8, .int 2), (7, .int 2147483647), (6, .int (σ.2.2.1 0)), (5, .int (σ.1 6)), (4, .int (nxR σ)), (3, .int (nI (ct (thr σ.2.1) 16))), (0, .ref (gA g 0)), (1, .int here), (2, .int gone)]) hx hb dL_refuses_592 hl (by decide) rfl (fun ls hl => ?_)
  refine lv_iinc (v := 13) (lv' := [(14, .int 13), (13, .int 1), (12, .int 2147483647), (11, .int 2147483647), (10, .int 2147483647), (9, .int 2147483647), (8, .int 2), (7, .int 2147483647), (6, .int (σ.2.2.1 0)), (5, .int (σ.1 6)), (4, .int (nxR σ)), (3, .int (nI (ct (thr σ.2.1) 16))), (0, .ref (gA g 0)), (1, .int here), (2, .int gone)]) hx hb dL_refuses_594 hl (k := 1) rfl (by decide) (by decide) rfl (fun ls hl => ?_)
  refine lv_goto (tgt := 540) hx hb dL_refuses_597 (by decide) ?_
  refine lv_iload hx hb dL_refuses_540 (lv_at hl 0 rfl) ?_
  refine lv_bipush (v := 13) hx hb dL_refuses_542 (by decide) ?_
  refine lv_icmp_ge (tgt := 600) hx hb dL_refuses_544 (by decide) (fun _ => ?_) (fun c30 => absurd c30 (by decide))
  refine lv_iload hx hb dL_refuses_600 (lv_at hl 1 rfl) ?_
  refine lv_if_ne (tgt := 607) hx hb dL_refuses_602 (by decide) (fun _ => ?_) (fun c31 => absurd c31 (by decide))
  refine lv_iinc (v := 3) (lv' := [(8, .int 3), (14, .int 13), (13, .int 1), (12, .int 2147483647), (11, .int 2147483647), (10, .int 2147483647), (9, .int 2147483647), (7, .int 2147483647), (6, .int (σ.2.2.1 0)), (5, .int (σ.1 6)), (4, .int (nxR σ)), (3, .int (nI (ct (thr σ.2.1) 16))), (0, .ref (gA g 0)), (1, .int here), (2, .int gone)]) hx hb dL_refuses_607 hl (k := 6) rfl (by decide) (by decide) rfl (fun ls hl => ?_)
  refine lv_goto (tgt := 30) hx hb dL_refuses_610 (by decide) ?_
  exact kk H locs ls hW hS (by exact lv_sub hl [0, 7, 8, 9, 10, 11, 12, 13, 14] rfl)

set_option maxHeartbeats 4000000 in
set_option maxRecDepth 100000 in
theorem rf_3 {p : Program} {l : Launch} {e : Env} {s : State} {m : MethodId} {below : List Frame} {meth : Method} {c : Code} {g : Ge} {σ : Sg} {μ : Mg} {o : Nat → Int64} {here gone : Int32} {en cl : Nat} (C0 : rfC p l s m meth c g σ here gone en cl) (kk : rfG p l e s m below meth c g σ μ o here gone 407 [(13, .int 1), (12, .int (-2147483648)), (11, .int (-2147483648)), (10, .int (-2147483648)), (9, .int (-2147483648)), (8, .int 3), (7, .int 2147483647), (6, .int (σ.2.2.1 0)), (5, .int (σ.1 6)), (4, .int (nxR σ)), (3, .int (nI (ct (thr σ.2.1) 16))), (0, .ref (gA g 0)), (1, .int here), (2, .int gone)] 133 798) : rfG p l e s m below meth c g σ μ o here gone 30 [(8, .int 3), (7, .int 2147483647), (6, .int (σ.2.2.1 0)), (5, .int (σ.1 6)), (4, .int (nxR σ)), (3, .int (nI (ct (thr σ.2.1) 16))), (0, .ref (gA g 0)), (1, .int here), (2, .int gone)] 111 666 := by
  obtain ⟨⟨hx, hb, hr, hml, hts, hown, hlocks⟩, hC, hfl, ⟨n2, n1, nM, nm, ng, hh, g1, hL⟩, e1, e2, e3, e4⟩ := C0
  have hk0 : narrow .boolean (.int (σ.2.2.1 0)) = .int (σ.2.2.1 0) := by rcases hL with q | q <;> rw [q] <;> rfl
  intro H locs ls hW hS hl
  have hl : lv_has ls 15 [(8, .int 3), (7, .int 2147483647), (6, .int (σ.2.2.1 0)), (5, .int (σ.1 6)), (4, .int (nxR σ)), (3, .int (nI (ct (thr σ.2.1) 16))), (0, .ref (gA g 0)), (1, .int here), (2, .int gone)] := hl
  refine lv_iload hx hb dL_refuses_30 (lv_at hl 0 rfl) ?_
  refine lv_iconst (v := 4) hx hb dL_refuses_32 (by decide) ?_
  refine lv_icmp_ge (tgt := 613) hx hb dL_refuses_33 (by decide) (fun c1 => absurd c1 (by decide)) (fun _ => ?_)
  refine lv_iload hx hb dL_refuses_36 (lv_at hl 0 rfl) ?_
  refine lv_if_ne (tgt := 46) hx hb dL_refuses_38 (by decide) (fun _ => ?_) (fun c2 => absurd c2 (by decide))
  refine lv_iload hx hb dL_refuses_46 (lv_at hl 0 rfl) ?_
  refine lv_iconst (v := 1) hx hb dL_refuses_48 (by decide) ?_
  refine lv_icmp_ne (tgt := 56) hx hb dL_refuses_49 (by decide) (fun _ => ?_) (fun c3 => absurd c3 (by decide))
  refine lv_iload hx hb dL_refuses_56 (lv_at hl 0 rfl) ?_
  refine lv_iconst (v := 2) hx hb dL_refuses_58 (by decide) ?_
  refine lv_icmp_ne (tgt := 67) hx hb dL_refuses_59 (by decide) (fun _ => ?_) (fun c4 => absurd c4 (by decide))
  refine lv_iload hx hb dL_refuses_67 (lv_at hl 1 rfl) ?_
  refine lv_ineg hx hb dL_refuses_69 ?_
  refine lv_iconst (v := 1) hx hb dL_refuses_70 (by decide) ?_
  refine lv_isub hx hb dL_refuses_71 ?_
  refine lv_topi (fun y5 hy5 => ?_)
  obtain rfl : y5 = (-2147483648) := hy5.trans (by decide)
  refine lv_istore (lv' := [(9, .int (-2147483648)), (8, .int 3), (7, .int 2147483647), (6, .int (σ.2.2.1 0)), (5, .int (σ.1 6)), (4, .int (nxR σ)), (3, .int (nI (ct (thr σ.2.1) 16))), (0, .ref (gA g 0)), (1, .int here), (2, .int gone)]) hx hb dL_refuses_72 hl (by decide) rfl (fun ls hl => ?_)
  refine lv_iload hx hb dL_refuses_74 (lv_at hl 1 rfl) ?_
  refine lv_iconst (v := 2) hx hb dL_refuses_76 (by decide) ?_
  refine lv_icmp_ge (tgt := 84) hx hb dL_refuses_77 (by decide) (fun _ => ?_) (fun c6 => absurd c6 (by decide))
  refine lv_iload hx hb dL_refuses_84 (lv_at hl 0 rfl) ?_
  refine lv_istore (lv' := [(10, .int (-2147483648)), (9, .int (-2147483648)), (8, .int 3), (7, .int 2147483647), (6, .int (σ.2.2.1 0)), (5, .int (σ.1 6)), (4, .int (nxR σ)), (3, .int (nI (ct (thr σ.2.1) 16))), (0, .ref (gA g 0)), (1, .int here), (2, .int gone)]) hx hb dL_refuses_86 hl (by decide) rfl (fun ls hl => ?_)
  refine lv_iload hx hb dL_refuses_88 (lv_at hl 2 rfl) ?_
  refine lv_if_ne (tgt := 97) hx hb dL_refuses_90 (by decide) (fun _ => ?_) (fun c7 => absurd c7 (by decide))
  refine lv_iload hx hb dL_refuses_97 (lv_at hl 2 rfl) ?_
  refine lv_iconst (v := 1) hx hb dL_refuses_99 (by decide) ?_
  refine lv_icmp_ne (tgt := 108) hx hb dL_refuses_100 (by decide) (fun _ => ?_) (fun c8 => absurd c8 (by decide))
  refine lv_iload hx hb dL_refuses_108 (lv_at hl 1 rfl) ?_
  refine lv_istore (lv' := [(11, .int (-2147483648)), (10, .int (-2147483648)), (9, .int (-2147483648)), (8, .int 3), (7, .int 2147483647), (6, .int (σ.2.2.1 0)), (5, .int (σ.1 6)), (4, .int (nxR σ)), (3, .int (nI (ct (thr σ.2.1) 16))), (0, .ref (gA g 0)), (1, .int here), (2, .int gone)]) hx hb dL_refuses_110 hl (by decide) rfl (fun ls hl => ?_)
  refine lv_iload hx hb dL_refuses_112 (lv_at hl 3 rfl) ?_
  refine lv_if_ne (tgt := 121) hx hb dL_refuses_114 (by decide) (fun _ => ?_) (fun c9 => absurd c9 (by decide))
  refine lv_iload hx hb dL_refuses_121 (lv_at hl 3 rfl) ?_
  refine lv_iconst (v := 1) hx hb dL_refuses_123 (by decide) ?_
  refine lv_icmp_ne (tgt := 131) hx hb dL_refuses_124 (by decide) (fun _ => ?_) (fun c10 => absurd c10 (by decide))
  refine lv_iload hx hb dL_refuses_131 (lv_at hl 2 rfl) ?_
  refine lv_istore (lv' := [(12, .int (-2147483648)), (11, .int (-2147483648)), (10, .int (-2147483648)), (9, .int (-2147483648)), (8, .int 3), (7, .int 2147483647), (6, .int (σ.2.2.1 0)), (5, .int (σ.1 6)), (4, .int (nxR σ)), (3, .int (nI (ct (thr σ.2.1) 16))), (0, .ref (gA g 0)), (1, .int here), (2, .int gone)]) hx hb dL_refuses_133 hl (by decide) rfl (fun ls hl => ?_)
  refine lv_aload_n hx hb dL_refuses_135 rfl (lv_at hl 10 rfl) ?_
  refine lv_iload hx hb dL_refuses_136 (lv_at hl 0 rfl) ?_
  refine lv_iconst (v := 5) hx hb dL_refuses_138 (by decide) ?_
  refine lv_iconst (v := 5) hx hb dL_refuses_139 (by decide) ?_
  refine lv_iconst (v := 0) hx hb dL_refuses_140 (by decide) ?_
  refine lv_iconst (v := 0) hx hb dL_refuses_141 (by decide) ?_
  refine va_calli (vx_runSW (As := [.ref (gA g 0), .int (-2147483648), .int 5, .int 5, .int 0, .int 0]) (rest := []) ⟨hx, hb, hml, hown, hts⟩ (mtL_addR l g σ μ o hfl (-2147483648) 5 5 0 0 1 (-72) (kAdd_1 (by decide)) (by decide)) (vx_cwSW 6 hts gL_refuses_L_add rfl rfl rfl (by decide +kernel) ⟨Nat.le_of_ble_eq_true rfl, Nat.le_of_ble_eq_true rfl⟩) ⟨PW.blind, fun U hU hW9 => ⟨rfl, PW.at hC hS hW U hU hW9⟩⟩ rfl rfl hl.1 rfl (lv_room (Nat.le_of_ble_eq_true rfl)) dL_refuses_142 ⟨Nat.le_of_ble_eq_true rfl, Nat.le_of_ble_eq_true rfl⟩) hS (fun _ _ h => h) (fun _ h => h) (fun r u t H locs ht hvm hq hW hz9 hk9 hS => ?_)
  obtain rfl : r = (-72) := hq
  replace hW : Wd g σ μ o H := by rw [← ht]; exact hW
  refine lv_bipush (v := (-72)) hx hb dL_refuses_145 (by decide) ?_
  refine lv_icmp_ne (tgt := 404) hx hb dL_refuses_147 (by decide) (fun c11 => absurd c11 (by decide)) (fun _ => ?_)
  refine lv_aload_n hx hb dL_refuses_150 rfl (lv_at hl 10 rfl) ?_
  refine lv_iconst (v := 0) hx hb dL_refuses_151 (by decide) ?_
  refine lv_iload hx hb dL_refuses_152 (lv_at hl 1 rfl) ?_
  refine lv_iconst (v := 5) hx hb dL_refuses_154 (by decide) ?_
  refine lv_iconst (v := 0) hx hb dL_refuses_155 (by decide) ?_
  refine lv_iconst (v := 0) hx hb dL_refuses_156 (by decide) ?_
  refine va_calli (vx_runSW (As := [.ref (gA g 0), .int 0, .int (-2147483648), .int 5, .int 0, .int 0]) (rest := []) ⟨hx, hb, hml, hown, hts⟩ (mtL_addR l g σ μ o hfl 0 (-2147483648) 5 0 0 1 (-72) (kAdd_1 (by decide)) (by decide)) (vx_cwSW 6 hts gL_refuses_L_add rfl rfl rfl (by decide +kernel) ⟨Nat.le_of_ble_eq_true rfl, Nat.le_of_ble_eq_true rfl⟩) ⟨PW.blind, fun U hU hW9 => ⟨rfl, PW.at hC hS hW U hU hW9⟩⟩ rfl rfl hl.1 rfl (lv_room (Nat.le_of_ble_eq_true rfl)) dL_refuses_157 ⟨Nat.le_of_ble_eq_true rfl, Nat.le_of_ble_eq_true rfl⟩) hS (fun _ _ h => h) (fun _ h => h) (fun r u t H locs ht hvm hq hW hz9 hk9 hS => ?_)
  obtain rfl : r = (-72) := hq
  replace hW : Wd g σ μ o H := by rw [← ht]; exact hW
  refine lv_bipush (v := (-72)) hx hb dL_refuses_160 (by decide) ?_
  refine lv_icmp_ne (tgt := 404) hx hb dL_refuses_162 (by decide) (fun c12 => absurd c12 (by decide)) (fun _ => ?_)
  refine lv_aload_n hx hb dL_refuses_165 rfl (lv_at hl 10 rfl) ?_
  refine lv_iconst (v := 0) hx hb dL_refuses_166 (by decide) ?_
  refine lv_iconst (v := 5) hx hb dL_refuses_167 (by decide) ?_
  refine lv_iload hx hb dL_refuses_168 (lv_at hl 4 rfl) ?_
  refine lv_if_ne (tgt := 177) hx hb dL_refuses_170 (by decide) (fun _ => ?_) (fun c13 => absurd c13 (by decide))
  refine lv_iload hx hb dL_refuses_177 (lv_at hl 4 rfl) ?_
  refine lv_iconst (v := 1) hx hb dL_refuses_179 (by decide) ?_
  refine lv_icmp_ne (tgt := 188) hx hb dL_refuses_180 (by decide) (fun _ => ?_) (fun c14 => absurd c14 (by decide))
  refine lv_iload hx hb dL_refuses_188 (lv_at hl 5 rfl) ?_
  refine lv_ineg hx hb dL_refuses_190 ?_
  refine lv_iconst (v := 0) hx hb dL_refuses_191 (by decide) ?_
  refine lv_iconst (v := 0) hx hb dL_refuses_192 (by decide) ?_
  refine va_calli (vx_runSW (As := [.ref (gA g 0), .int 0, .int 5, .int (-2147483647), .int 0, .int 0]) (rest := []) ⟨hx, hb, hml, hown, hts⟩ (mtL_addR l g σ μ o hfl 0 5 (-2147483647) 0 0 1 (-72) (kAdd_1 (by decide)) (by decide)) (vx_cwSW 6 hts gL_refuses_L_add rfl rfl rfl (by decide +kernel) ⟨Nat.le_of_ble_eq_true rfl, Nat.le_of_ble_eq_true rfl⟩) ⟨PW.blind, fun U hU hW9 => ⟨rfl, PW.at hC hS hW U hU hW9⟩⟩ rfl rfl hl.1 rfl (lv_room (Nat.le_of_ble_eq_true rfl)) dL_refuses_193 ⟨Nat.le_of_ble_eq_true rfl, Nat.le_of_ble_eq_true rfl⟩) hS (fun _ _ h => h) (fun _ h => h) (fun r u t H locs ht hvm hq hW hz9 hk9 hS => ?_)
  obtain rfl : r = (-72) := hq
  replace hW : Wd g σ μ o H := by rw [← ht]; exact hW
  refine lv_bipush (v := (-72)) hx hb dL_refuses_196 (by decide) ?_
  refine lv_icmp_ne (tgt := 404) hx hb dL_refuses_198 (by decide) (fun c15 => absurd c15 (by decide)) (fun _ => ?_)
  refine lv_aload_n hx hb dL_refuses_201 rfl (lv_at hl 10 rfl) ?_
  refine lv_iconst (v := 0) hx hb dL_refuses_202 (by decide) ?_
  refine lv_iconst (v := 5) hx hb dL_refuses_203 (by decide) ?_
  refine lv_iconst (v := 5) hx hb dL_refuses_204 (by decide) ?_
  refine lv_iload hx hb dL_refuses_205 (lv_at hl 0 rfl) ?_
  refine lv_iconst (v := 0) hx hb dL_refuses_207 (by decide) ?_
  refine va_calli (vx_runSW (As := [.ref (gA g 0), .int 0, .int 5, .int 5, .int (-2147483648), .int 0]) (rest := []) ⟨hx, hb, hml, hown, hts⟩ (mtL_addR l g σ μ o hfl 0 5 5 (-2147483648) 0 1 (-72) (kAdd_1 (by decide)) (by decide)) (vx_cwSW 6 hts gL_refuses_L_add rfl rfl rfl (by decide +kernel) ⟨Nat.le_of_ble_eq_true rfl, Nat.le_of_ble_eq_true rfl⟩) ⟨PW.blind, fun U hU hW9 => ⟨rfl, PW.at hC hS hW U hU hW9⟩⟩ rfl rfl hl.1 rfl (lv_room (Nat.le_of_ble_eq_true rfl)) dL_refuses_208 ⟨Nat.le_of_ble_eq_true rfl, Nat.le_of_ble_eq_true rfl⟩) hS (fun _ _ h => h) (fun _ h => h) (fun r u t H locs ht hvm hq hW hz9 hk9 hS => ?_)
  obtain rfl : r = (-72) := hq
  replace hW : Wd g σ μ o H := by rw [← ht]; exact hW
  refine lv_bipush (v := (-72)) hx hb dL_refuses_211 (by decide) ?_
  refine lv_icmp_ne (tgt := 404) hx hb dL_refuses_213 (by decide) (fun c16 => absurd c16 (by decide)) (fun _ => ?_)
  refine lv_aload_n hx hb dL_refuses_216 rfl (lv_at hl 10 rfl) ?_
  refine lv_iconst (v := 0) hx hb dL_refuses_217 (by decide) ?_
  refine lv_iconst (v := 5) hx hb dL_refuses_218 (by decide) ?_
  refine lv_iconst (v := 5) hx hb dL_refuses_219 (by decide) ?_
  refine lv_iconst (v := 0) hx hb dL_refuses_220 (by decide) ?_
  refine lv_iload hx hb dL_refuses_221 (lv_at hl 4 rfl) ?_
  refine lv_if_ne (tgt := 231) hx hb dL_refuses_223 (by decide) (fun _ => ?_) (fun c17 => absurd c17 (by decide))
  refine lv_iload hx hb dL_refuses_231 (lv_at hl 4 rfl) ?_
  refine lv_iconst (v := 1) hx hb dL_refuses_233 (by decide) ?_
  refine lv_icmp_ne (tgt := 242) hx hb dL_refuses_234 (by decide) (fun _ => ?_) (fun c18 => absurd c18 (by decide))
  refine lv_iload hx hb dL_refuses_242 (lv_at hl 3 rfl) ?_
  refine va_calli (vx_runSW (As := [.ref (gA g 0), .int 0, .int 5, .int 5, .int 0, .int (-2147483648)]) (rest := []) ⟨hx, hb, hml, hown, hts⟩ (mtL_addR l g σ μ o hfl 0 5 5 0 (-2147483648) 1 (-72) (kAdd_1 (by decide)) (by decide)) (vx_cwSW 6 hts gL_refuses_L_add rfl rfl rfl (by decide +kernel) ⟨Nat.le_of_ble_eq_true rfl, Nat.le_of_ble_eq_true rfl⟩) ⟨PW.blind, fun U hU hW9 => ⟨rfl, PW.at hC hS hW U hU hW9⟩⟩ rfl rfl hl.1 rfl (lv_room (Nat.le_of_ble_eq_true rfl)) dL_refuses_244 ⟨Nat.le_of_ble_eq_true rfl, Nat.le_of_ble_eq_true rfl⟩) hS (fun _ _ h => h) (fun _ h => h) (fun r u t H locs ht hvm hq hW hz9 hk9 hS => ?_)
  obtain rfl : r = (-72) := hq
  replace hW : Wd g σ μ o H := by rw [← ht]; exact hW
  refine lv_bipush (v := (-72)) hx hb dL_refuses_247 (by decide) ?_
  refine lv_icmp_ne (tgt := 404) hx hb dL_refuses_249 (by decide) (fun c19 => absurd c19 (by decide)) (fun _ => ?_)
  refine lv_aload_n hx hb dL_refuses_252 rfl (lv_at hl 10 rfl) ?_
  refine lv_iconst (v := 1) hx hb dL_refuses_253 (by decide) ?_
  refine lv_iload hx hb dL_refuses_254 (lv_at hl 3 rfl) ?_
  refine lv_iconst (v := (-1)) hx hb dL_refuses_256 (by decide) ?_
  refine va_calli (vx_runSW (As := [.ref (gA g 0), .int 1, .int (-2147483648), .int (-1)]) (rest := []) ⟨hx, hb, hml, hown, hts⟩ (mtL_act_1 l g σ μ o hfl (-2147483648) (-1) 1 (-71) (kEd_1 nm) (by decide)) (vx_cwSW 4 hts gL_refuses_L_act rfl rfl rfl (by decide +kernel) ⟨Nat.le_of_ble_eq_true rfl, Nat.le_of_ble_eq_true rfl⟩) ⟨PW.blind, fun U hU hW9 => ⟨rfl, PW.at hC hS hW U hU hW9⟩⟩ rfl rfl hl.1 rfl (lv_room (Nat.le_of_ble_eq_true rfl)) dL_refuses_257 ⟨Nat.le_of_ble_eq_true rfl, Nat.le_of_ble_eq_true rfl⟩) hS (fun _ _ h => h) (fun _ h => h) (fun r u t H locs ht hvm hq hW hz9 hk9 hS => ?_)
  obtain rfl : r = (-71) := hq
  replace hW : Wd g σ μ o H := by rw [← ht]; exact hW
  refine lv_bipush (v := (-71)) hx hb dL_refuses_260 (by decide) ?_
  refine lv_icmp_ne (tgt := 404) hx hb dL_refuses_262 (by decide) (fun c20 => absurd c20 (by decide)) (fun _ => ?_)
  refine lv_aload_n hx hb dL_refuses_265 rfl (lv_at hl 10 rfl) ?_
  refine lv_iconst (v := 1) hx hb dL_refuses_266 (by decide) ?_
  refine lv_iload_n hx hb dL_refuses_267 rfl (lv_at hl 11 rfl) ?_
  refine lv_iload hx hb dL_refuses_268 (lv_at hl 1 rfl) ?_
  refine va_calli (vx_runSW (As := [.ref (gA g 0), .int 1, .int here, .int (-2147483648)]) (rest := []) ⟨hx, hb, hml, hown, hts⟩ (mtL_act_1 l g σ μ o hfl here (-2147483648) 2 (-72) (kEd_2 hh (by decide)) (by decide)) (vx_cwSW 4 hts gL_refuses_L_act rfl rfl rfl (by decide +kernel) ⟨Nat.le_of_ble_eq_true rfl, Nat.le_of_ble_eq_true rfl⟩) ⟨PW.blind, fun U hU hW9 => ⟨rfl, PW.at hC hS hW U hU hW9⟩⟩ rfl rfl hl.1 rfl (lv_room (Nat.le_of_ble_eq_true rfl)) dL_refuses_270 ⟨Nat.le_of_ble_eq_true rfl, Nat.le_of_ble_eq_true rfl⟩) hS (fun _ _ h => h) (fun _ h => h) (fun r u t H locs ht hvm hq hW hz9 hk9 hS => ?_)
  obtain rfl : r = (-72) := hq
  replace hW : Wd g σ μ o H := by rw [← ht]; exact hW
  refine lv_bipush (v := (-72)) hx hb dL_refuses_273 (by decide) ?_
  refine lv_icmp_ne (tgt := 404) hx hb dL_refuses_275 (by decide) (fun c21 => absurd c21 (by decide)) (fun _ => ?_)
  refine lv_aload_n hx hb dL_refuses_278 rfl (lv_at hl 10 rfl) ?_
  refine lv_iconst (v := 4) hx hb dL_refuses_279 (by decide) ?_
  refine lv_iload hx hb dL_refuses_280 (lv_at hl 1 rfl) ?_
  refine lv_bipush (v := 99) hx hb dL_refuses_282 (by decide) ?_
  refine va_calli (vx_runSW (As := [.ref (gA g 0), .int 4, .int (-2147483648), .int 99]) (rest := []) ⟨hx, hb, hml, hown, hts⟩ (mtL_act_4 l g σ μ o hfl (-2147483648) 99 1 (-72) (kPa_1 (by decide)) (by decide)) (vx_cwSW 4 hts gL_refuses_L_act rfl rfl rfl (by decide +kernel) ⟨Nat.le_of_ble_eq_true rfl, Nat.le_of_ble_eq_true rfl⟩) ⟨PW.blind, fun U hU hW9 => ⟨rfl, PW.at hC hS hW U hU hW9⟩⟩ rfl rfl hl.1 rfl (lv_room (Nat.le_of_ble_eq_true rfl)) dL_refuses_284 ⟨Nat.le_of_ble_eq_true rfl, Nat.le_of_ble_eq_true rfl⟩) hS (fun _ _ h => h) (fun _ h => h) (fun r u t H locs ht hvm hq hW hz9 hk9 hS => ?_)
  obtain rfl : r = (-72) := hq
  replace hW : Wd g σ μ o H := by rw [← ht]; exact hW
  refine lv_bipush (v := (-72)) hx hb dL_refuses_287 (by decide) ?_
  refine lv_icmp_ne (tgt := 404) hx hb dL_refuses_289 (by decide) (fun c22 => absurd c22 (by decide)) (fun _ => ?_)
  refine lv_aload_n hx hb dL_refuses_292 rfl (lv_at hl 10 rfl) ?_
  refine lv_iconst (v := 4) hx hb dL_refuses_293 (by decide) ?_
  refine lv_iconst (v := 5) hx hb dL_refuses_294 (by decide) ?_
  refine lv_iload hx hb dL_refuses_295 (lv_at hl 4 rfl) ?_
  refine lv_if_ne (tgt := 304) hx hb dL_refuses_297 (by decide) (fun _ => ?_) (fun c23 => absurd c23 (by decide))
  refine lv_iload hx hb dL_refuses_304 (lv_at hl 1 rfl) ?_
  refine va_calli (vx_runSW (As := [.ref (gA g 0), .int 4, .int 5, .int (-2147483648)]) (rest := []) ⟨hx, hb, hml, hown, hts⟩ (mtL_act_4 l g σ μ o hfl 5 (-2147483648) 1 (-72) (kPa_1 (by decide)) (by decide)) (vx_cwSW 4 hts gL_refuses_L_act rfl rfl rfl (by decide +kernel) ⟨Nat.le_of_ble_eq_true rfl, Nat.le_of_ble_eq_true rfl⟩) ⟨PW.blind, fun U hU hW9 => ⟨rfl, PW.at hC hS hW U hU hW9⟩⟩ rfl rfl hl.1 rfl (lv_room (Nat.le_of_ble_eq_true rfl)) dL_refuses_306 ⟨Nat.le_of_ble_eq_true rfl, Nat.le_of_ble_eq_true rfl⟩) hS (fun _ _ h => h) (fun _ h => h) (fun r u t H locs ht hvm hq hW hz9 hk9 hS => ?_)
  obtain rfl : r = (-72) := hq
  replace hW : Wd g σ μ o H := by rw [← ht]; exact hW
  refine lv_bipush (v := (-72)) hx hb dL_refuses_309 (by decide) ?_
  refine lv_icmp_ne (tgt := 404) hx hb dL_refuses_311 (by decide) (fun c24 => absurd c24 (by decide)) (fun _ => ?_)
  refine lv_aload_n hx hb dL_refuses_314 rfl (lv_at hl 10 rfl) ?_
  refine lv_bipush (v := 7) hx hb dL_refuses_315 (by decide) ?_
  refine lv_iload hx hb dL_refuses_317 (lv_at hl 4 rfl) ?_
  refine lv_if_ne (tgt := 326) hx hb dL_refuses_319 (by decide) (fun _ => ?_) (fun c25 => absurd c25 (by decide))
  refine lv_iload hx hb dL_refuses_326 (lv_at hl 4 rfl) ?_
  refine lv_iconst (v := 1) hx hb dL_refuses_328 (by decide) ?_
  refine lv_icmp_ne (tgt := 337) hx hb dL_refuses_329 (by decide) (fun _ => ?_) (fun c26 => absurd c26 (by decide))
  refine lv_iload hx hb dL_refuses_337 (lv_at hl 3 rfl) ?_
  refine lv_iconst (v := 0) hx hb dL_refuses_339 (by decide) ?_
  refine va_calli (vx_runSW (As := [.ref (gA g 0), .int 7, .int (-2147483648), .int 0]) (rest := []) ⟨hx, hb, hml, hown, hts⟩ (mtL_act_7 l g σ μ o hfl (-2147483648) 0 en cl e1 e2 e3 e4 1 (-72) (kEn_1 (by decide)) (by decide)) (vx_cwSW 4 hts gL_refuses_L_act rfl rfl rfl (by decide +kernel) ⟨Nat.le_of_ble_eq_true rfl, Nat.le_of_ble_eq_true rfl⟩) ⟨PW.blind, fun U hU hW9 => ⟨rfl, PW.at hC hS hW U hU hW9⟩⟩ rfl rfl hl.1 rfl (lv_room (Nat.le_of_ble_eq_true rfl)) dL_refuses_340 ⟨Nat.le_of_ble_eq_true rfl, Nat.le_of_ble_eq_true rfl⟩) hS (fun _ _ h => h) (fun _ h => h) (fun r u t H locs ht hvm hq hW hz9 hk9 hS => ?_)
  obtain rfl : r = (-72) := hq
  replace hW : Wd g σ μ o H := by rw [← ht]; exact hW
  refine lv_bipush (v := (-72)) hx hb dL_refuses_343 (by decide) ?_
  refine lv_icmp_ne (tgt := 404) hx hb dL_refuses_345 (by decide) (fun c27 => absurd c27 (by decide)) (fun _ => ?_)
  refine lv_aload_n hx hb dL_refuses_348 rfl (lv_at hl 10 rfl) ?_
  refine lv_bipush (v := 8) hx hb dL_refuses_349 (by decide) ?_
  refine lv_iload hx hb dL_refuses_351 (lv_at hl 4 rfl) ?_
  refine lv_iconst (v := 1) hx hb dL_refuses_353 (by decide) ?_
  refine lv_icmp_ne (tgt := 361) hx hb dL_refuses_354 (by decide) (fun _ => ?_) (fun c28 => absurd c28 (by decide))
  refine lv_iload hx hb dL_refuses_361 (lv_at hl 3 rfl) ?_
  refine lv_iconst (v := 0) hx hb dL_refuses_363 (by decide) ?_
  refine va_calli (vx_runSW (As := [.ref (gA g 0), .int 8, .int (-2147483648), .int 0]) (rest := []) ⟨hx, hb, hml, hown, hts⟩ (mtL_act_8 l g σ μ o hfl (-2147483648) 0 1 (-71) (kAt_out (by decide)) (by decide)) (vx_cwSW 4 hts gL_refuses_L_act rfl rfl rfl (by decide +kernel) ⟨Nat.le_of_ble_eq_true rfl, Nat.le_of_ble_eq_true rfl⟩) ⟨PW.blind, fun U hU hW9 => ⟨rfl, PW.at hC hS hW U hU hW9⟩⟩ rfl rfl hl.1 rfl (lv_room (Nat.le_of_ble_eq_true rfl)) dL_refuses_364 ⟨Nat.le_of_ble_eq_true rfl, Nat.le_of_ble_eq_true rfl⟩) hS (fun _ _ h => h) (fun _ h => h) (fun r u t H locs ht hvm hq hW hz9 hk9 hS => ?_)
  obtain rfl : r = (-71) := hq
  replace hW : Wd g σ μ o H := by rw [← ht]; exact hW
  refine lv_bipush (v := (-71)) hx hb dL_refuses_367 (by decide) ?_
  refine lv_icmp_ne (tgt := 404) hx hb dL_refuses_369 (by decide) (fun c29 => absurd c29 (by decide)) (fun _ => ?_)
  refine lv_aload_n hx hb dL_refuses_372 rfl (lv_at hl 10 rfl) ?_
  refine lv_bipush (v := 11) hx hb dL_refuses_373 (by decide) ?_
  refine lv_iload hx hb dL_refuses_375 (lv_at hl 3 rfl) ?_
  refine lv_iload_n hx hb dL_refuses_377 rfl (lv_at hl 11 rfl) ?_
  refine va_calli (vx_runSW (As := [.ref (gA g 0), .int 11, .int (-2147483648), .int here]) (rest := []) ⟨hx, hb, hml, hown, hts⟩ (mtL_act_11 l g σ μ o hfl (-2147483648) here 1 (-71) (kCm_a nm) (by decide)) (vx_cwSW 4 hts gL_refuses_L_act rfl rfl rfl (by decide +kernel) ⟨Nat.le_of_ble_eq_true rfl, Nat.le_of_ble_eq_true rfl⟩) ⟨PW.blind, fun U hU hW9 => ⟨rfl, PW.at hC hS hW U hU hW9⟩⟩ rfl rfl hl.1 rfl (lv_room (Nat.le_of_ble_eq_true rfl)) dL_refuses_378 ⟨Nat.le_of_ble_eq_true rfl, Nat.le_of_ble_eq_true rfl⟩) hS (fun _ _ h => h) (fun _ h => h) (fun r u t H locs ht hvm hq hW hz9 hk9 hS => ?_)
  obtain rfl : r = (-71) := hq
  replace hW : Wd g σ μ o H := by rw [← ht]; exact hW
  refine lv_bipush (v := (-71)) hx hb dL_refuses_381 (by decide) ?_
  refine lv_icmp_ne (tgt := 404) hx hb dL_refuses_383 (by decide) (fun c30 => absurd c30 (by decide)) (fun _ => ?_)
  refine lv_aload_n hx hb dL_refuses_386 rfl (lv_at hl 10 rfl) ?_
  refine lv_bipush (v := 11) hx hb dL_refuses_387 (by decide) ?_
  refine lv_iload_n hx hb dL_refuses_389 rfl (lv_at hl 11 rfl) ?_
  refine lv_iload hx hb dL_refuses_390 (lv_at hl 3 rfl) ?_
  refine va_calli (vx_runSW (As := [.ref (gA g 0), .int 11, .int here, .int (-2147483648)]) (rest := []) ⟨hx, hb, hml, hown, hts⟩ (mtL_act_11 l g σ μ o hfl here (-2147483648) 1 (-71) (kCm_b nm) (by decide)) (vx_cwSW 4 hts gL_refuses_L_act rfl rfl rfl (by decide +kernel) ⟨Nat.le_of_ble_eq_true rfl, Nat.le_of_ble_eq_true rfl⟩) ⟨PW.blind, fun U hU hW9 => ⟨rfl, PW.at hC hS hW U hU hW9⟩⟩ rfl rfl hl.1 rfl (lv_room (Nat.le_of_ble_eq_true rfl)) dL_refuses_392 ⟨Nat.le_of_ble_eq_true rfl, Nat.le_of_ble_eq_true rfl⟩) hS (fun _ _ h => h) (fun _ h => h) (fun r u t H locs ht hvm hq hW hz9 hk9 hS => ?_)
  obtain rfl : r = (-71) := hq
  replace hW : Wd g σ μ o H := by rw [← ht]; exact hW
  refine lv_bipush (v := (-71)) hx hb dL_refuses_395 (by decide) ?_
  refine lv_icmp_ne (tgt := 404) hx hb dL_refuses_397 (by decide) (fun c31 => absurd c31 (by decide)) (fun _ => ?_)
  refine lv_iconst (v := 1) hx hb dL_refuses_400 (by decide) ?_
  refine lv_goto (tgt := 405) hx hb dL_refuses_401 (by decide) ?_
  refine lv_istore (lv' := [(13, .int 1), (12, .int (-2147483648)), (11, .int (-2147483648)), (10, .int (-2147483648)), (9, .int (-2147483648)), (8, .int 3), (7, .int 2147483647), (6, .int (σ.2.2.1 0)), (5, .int (σ.1 6)), (4, .int (nxR σ)), (3, .int (nI (ct (thr σ.2.1) 16))), (0, .ref (gA g 0)), (1, .int here), (2, .int gone)]) hx hb dL_refuses_405 hl (by decide) rfl (fun ls hl => ?_)
  exact kk H locs ls hW hS (by exact lv_sub hl [0, 1, 2, 3, 4, 5, 6, 7, 8, 9, 10, 11, 12, 13] rfl)

set_option maxHeartbeats 4000000 in
set_option maxRecDepth 100000 in
theorem rf_3b {p : Program} {l : Launch} {e : Env} {s : State} {m : MethodId} {below : List Frame} {meth : Method} {c : Code} {g : Ge} {σ : Sg} {μ : Mg} {o : Nat → Int64} {here gone : Int32} {en cl : Nat} (C0 : rfC p l s m meth c g σ here gone en cl) (kk : rfG p l e s m below meth c g σ μ o here gone 30 [(8, .int 4), (7, .int 2147483647), (6, .int (σ.2.2.1 0)), (5, .int (σ.1 6)), (4, .int (nxR σ)), (3, .int (nI (ct (thr σ.2.1) 16))), (0, .ref (gA g 0)), (1, .int here), (2, .int gone)] 148 888) : rfG p l e s m below meth c g σ μ o here gone 407 [(13, .int 1), (12, .int (-2147483648)), (11, .int (-2147483648)), (10, .int (-2147483648)), (9, .int (-2147483648)), (8, .int 3), (7, .int 2147483647), (6, .int (σ.2.2.1 0)), (5, .int (σ.1 6)), (4, .int (nxR σ)), (3, .int (nI (ct (thr σ.2.1) 16))), (0, .ref (gA g 0)), (1, .int here), (2, .int gone)] 133 798 := by
  obtain ⟨⟨hx, hb, hr, hml, hts, hown, hlocks⟩, hC, hfl, ⟨n2, n1, nM, nm, ng, hh, g1, hL⟩, e1, e2, e3, e4⟩ := C0
  have hk0 : narrow .boolean (.int (σ.2.2.1 0)) = .int (σ.2.2.1 0) := by rcases hL with q | q <;> rw [q] <;> rfl
  intro H locs ls hW hS hl
  have hl : lv_has ls 15 [(13, .int 1), (12, .int (-2147483648)), (11, .int (-2147483648)), (10, .int (-2147483648)), (9, .int (-2147483648)), (8, .int 3), (7, .int 2147483647), (6, .int (σ.2.2.1 0)), (5, .int (σ.1 6)), (4, .int (nxR σ)), (3, .int (nI (ct (thr σ.2.1) 16))), (0, .ref (gA g 0)), (1, .int here), (2, .int gone)] := hl
  refine lv_iload hx hb dL_refuses_407 (lv_at hl 0 rfl) ?_
  refine lv_if_eq (tgt := 533) hx hb dL_refuses_409 (by decide) (fun c1 => absurd c1 (by decide)) (fun _ => ?_)
  refine lv_aload_n hx hb dL_refuses_412 rfl (lv_at hl 11 rfl) ?_
  refine lv_iconst (v := 5) hx hb dL_refuses_413 (by decide) ?_
  refine lv_iload hx hb dL_refuses_414 (lv_at hl 5 rfl) ?_
  refine lv_if_ne (tgt := 423) hx hb dL_refuses_416 (by decide) (fun _ => ?_) (fun c2 => absurd c2 (by decide))
  refine lv_iload hx hb dL_refuses_423 (lv_at hl 5 rfl) ?_
  refine lv_iconst (v := 1) hx hb dL_refuses_425 (by decide) ?_
  refine lv_icmp_ne (tgt := 434) hx hb dL_refuses_426 (by decide) (fun _ => ?_) (fun c3 => absurd c3 (by decide))
  refine lv_iload hx hb dL_refuses_434 (lv_at hl 4 rfl) ?_
  refine va_calli (vx_runSW (As := [.ref (gA g 0), .int 5, .int (-2147483648)]) (rest := []) ⟨hx, hb, hml, hown, hts⟩ (mtL_lockR l g σ μ o hfl 5 (-2147483648) 1 (-72) (kLo_1 (by decide +kernel)) (by decide)) (vx_cwSW 3 hts gL_refuses_L_lock rfl rfl rfl (by decide +kernel) ⟨Nat.le_of_ble_eq_true rfl, Nat.le_of_ble_eq_true rfl⟩) ⟨PW.blind, fun U hU hW9 => ⟨rfl, PW.at hC hS hW U hU hW9⟩⟩ rfl rfl hl.1 rfl (lv_room (Nat.le_of_ble_eq_true rfl)) dL_refuses_436 ⟨Nat.le_of_ble_eq_true rfl, Nat.le_of_ble_eq_true rfl⟩) hS (fun _ _ h => h) (fun _ h => h) (fun r u t H locs ht hvm hq hW hz9 hk9 hS => ?_)
  obtain rfl : r = (-72) := hq
  replace hW : Wd g σ μ o H := by rw [← ht]; exact hW
  refine lv_bipush (v := (-72)) hx hb dL_refuses_439 (by decide) ?_
  refine lv_icmp_ne (tgt := 533) hx hb dL_refuses_441 (by decide) (fun c4 => absurd c4 (by decide)) (fun _ => ?_)
  refine lv_aload_n hx hb dL_refuses_444 rfl (lv_at hl 11 rfl) ?_
  refine lv_iload hx hb dL_refuses_445 (lv_at hl 5 rfl) ?_
  refine lv_if_ne (tgt := 454) hx hb dL_refuses_447 (by decide) (fun _ => ?_) (fun c5 => absurd c5 (by decide))
  refine lv_iload hx hb dL_refuses_454 (lv_at hl 5 rfl) ?_
  refine lv_iconst (v := 1) hx hb dL_refuses_456 (by decide) ?_
  refine lv_icmp_ne (tgt := 466) hx hb dL_refuses_457 (by decide) (fun _ => ?_) (fun c6 => absurd c6 (by decide))
  refine lv_iload hx hb dL_refuses_466 (lv_at hl 4 rfl) ?_
  refine lv_iconst (v := 3) hx hb dL_refuses_468 (by decide) ?_
  refine va_calli (vx_runSW (As := [.ref (gA g 0), .int (-2147483648), .int 3]) (rest := []) ⟨hx, hb, hml, hown, hts⟩ (mtL_lockR l g σ μ o hfl (-2147483648) 3 1 (-72) (kLo_1 (by decide +kernel)) (by decide)) (vx_cwSW 3 hts gL_refuses_L_lock rfl rfl rfl (by decide +kernel) ⟨Nat.le_of_ble_eq_true rfl, Nat.le_of_ble_eq_true rfl⟩) ⟨PW.blind, fun U hU hW9 => ⟨rfl, PW.at hC hS hW U hU hW9⟩⟩ rfl rfl hl.1 rfl (lv_room (Nat.le_of_ble_eq_true rfl)) dL_refuses_469 ⟨Nat.le_of_ble_eq_true rfl, Nat.le_of_ble_eq_true rfl⟩) hS (fun _ _ h => h) (fun _ h => h) (fun r u t H locs ht hvm hq hW hz9 hk9 hS => ?_)
  obtain rfl : r = (-72) := hq
  replace hW : Wd g σ μ o H := by rw [← ht]; exact hW
  refine lv_bipush (v := (-72)) hx hb dL_refuses_472 (by decide) ?_
  refine lv_icmp_ne (tgt := 533) hx hb dL_refuses_474 (by decide) (fun c7 => absurd c7 (by decide)) (fun _ => ?_)
  refine lv_aload_n hx hb dL_refuses_477 rfl (lv_at hl 11 rfl) ?_
  refine lv_iconst (v := 2) hx hb dL_refuses_478 (by decide) ?_
  refine lv_iload hx hb dL_refuses_479 (lv_at hl 4 rfl) ?_
  refine lv_iconst (v := 0) hx hb dL_refuses_481 (by decide) ?_
  refine va_calli (vx_runSW (As := [.ref (gA g 0), .int 2, .int (-2147483648), .int 0]) (rest := []) ⟨hx, hb, hml, hown, hts⟩ (mtL_act_2 l g σ μ o hfl (-2147483648) 0 1 (-71) (kCh_1 (okC_f nm (by decide))) (by decide)) (vx_cwSW 4 hts gL_refuses_L_act rfl rfl rfl (by decide +kernel) ⟨Nat.le_of_ble_eq_true rfl, Nat.le_of_ble_eq_true rfl⟩) ⟨PW.blind, fun U hU hW9 => ⟨rfl, PW.at hC hS hW U hU hW9⟩⟩ rfl rfl hl.1 rfl (lv_room (Nat.le_of_ble_eq_true rfl)) dL_refuses_482 ⟨Nat.le_of_ble_eq_true rfl, Nat.le_of_ble_eq_true rfl⟩) hS (fun _ _ h => h) (fun _ h => h) (fun r u t H locs ht hvm hq hW hz9 hk9 hS => ?_)
  obtain rfl : r = (-71) := hq
  replace hW : Wd g σ μ o H := by rw [← ht]; exact hW
  refine lv_bipush (v := (-71)) hx hb dL_refuses_485 (by decide) ?_
  refine lv_icmp_ne (tgt := 533) hx hb dL_refuses_487 (by decide) (fun c8 => absurd c8 (by decide)) (fun _ => ?_)
  refine lv_aload_n hx hb dL_refuses_490 rfl (lv_at hl 11 rfl) ?_
  refine lv_iconst (v := 3) hx hb dL_refuses_491 (by decide) ?_
  refine lv_iload hx hb dL_refuses_492 (lv_at hl 4 rfl) ?_
  refine lv_iconst (v := 0) hx hb dL_refuses_494 (by decide) ?_
  refine va_calli (vx_runSW (As := [.ref (gA g 0), .int 3, .int (-2147483648), .int 0]) (rest := []) ⟨hx, hb, hml, hown, hts⟩ (mtL_act_3 l g σ μ o hfl (-2147483648) 0 1 (-71) (kCo_1 (okC_f nm (by decide))) (by decide)) (vx_cwSW 4 hts gL_refuses_L_act rfl rfl rfl (by decide +kernel) ⟨Nat.le_of_ble_eq_true rfl, Nat.le_of_ble_eq_true rfl⟩) ⟨PW.blind, fun U hU hW9 => ⟨rfl, PW.at hC hS hW U hU hW9⟩⟩ rfl rfl hl.1 rfl (lv_room (Nat.le_of_ble_eq_true rfl)) dL_refuses_495 ⟨Nat.le_of_ble_eq_true rfl, Nat.le_of_ble_eq_true rfl⟩) hS (fun _ _ h => h) (fun _ h => h) (fun r u t H locs ht hvm hq hW hz9 hk9 hS => ?_)
  obtain rfl : r = (-71) := hq
  replace hW : Wd g σ μ o H := by rw [← ht]; exact hW
  refine lv_bipush (v := (-71)) hx hb dL_refuses_498 (by decide) ?_
  refine lv_icmp_ne (tgt := 533) hx hb dL_refuses_500 (by decide) (fun c9 => absurd c9 (by decide)) (fun _ => ?_)
  refine lv_aload_n hx hb dL_refuses_503 rfl (lv_at hl 11 rfl) ?_
  refine lv_iconst (v := 0) hx hb dL_refuses_504 (by decide) ?_
  refine lv_iload hx hb dL_refuses_505 (lv_at hl 4 rfl) ?_
  refine lv_iconst (v := 0) hx hb dL_refuses_507 (by decide) ?_
  refine va_calli (vx_runSW (As := [.ref (gA g 0), .int 0, .int (-2147483648), .int 0]) (rest := []) ⟨hx, hb, hml, hown, hts⟩ (mtL_act_0 l g σ μ o hfl (-2147483648) 0 1 (-71) (kRem_1 nm) (by decide)) (vx_cwSW 4 hts gL_refuses_L_act rfl rfl rfl (by decide +kernel) ⟨Nat.le_of_ble_eq_true rfl, Nat.le_of_ble_eq_true rfl⟩) ⟨PW.blind, fun U hU hW9 => ⟨rfl, PW.at hC hS hW U hU hW9⟩⟩ rfl rfl hl.1 rfl (lv_room (Nat.le_of_ble_eq_true rfl)) dL_refuses_508 ⟨Nat.le_of_ble_eq_true rfl, Nat.le_of_ble_eq_true rfl⟩) hS (fun _ _ h => h) (fun _ h => h) (fun r u t H locs ht hvm hq hW hz9 hk9 hS => ?_)
  obtain rfl : r = (-71) := hq
  replace hW : Wd g σ μ o H := by rw [← ht]; exact hW
  refine lv_bipush (v := (-71)) hx hb dL_refuses_511 (by decide) ?_
  refine lv_icmp_ne (tgt := 533) hx hb dL_refuses_513 (by decide) (fun c10 => absurd c10 (by decide)) (fun _ => ?_)
  refine lv_aload_n hx hb dL_refuses_516 rfl (lv_at hl 11 rfl) ?_
  refine lv_iconst (v := 0) hx hb dL_refuses_517 (by decide) ?_
  refine lv_iload hx hb dL_refuses_518 (lv_at hl 3 rfl) ?_
  refine lv_iconst (v := 0) hx hb dL_refuses_520 (by decide) ?_
  refine va_calli (vx_runSW (As := [.ref (gA g 0), .int 0, .int (-2147483648), .int 0]) (rest := []) ⟨hx, hb, hml, hown, hts⟩ (mtL_act_0 l g σ μ o hfl (-2147483648) 0 1 (-71) (kRem_1 nm) (by decide)) (vx_cwSW 4 hts gL_refuses_L_act rfl rfl rfl (by decide +kernel) ⟨Nat.le_of_ble_eq_true rfl, Nat.le_of_ble_eq_true rfl⟩) ⟨PW.blind, fun U hU hW9 => ⟨rfl, PW.at hC hS hW U hU hW9⟩⟩ rfl rfl hl.1 rfl (lv_room (Nat.le_of_ble_eq_true rfl)) dL_refuses_521 ⟨Nat.le_of_ble_eq_true rfl, Nat.le_of_ble_eq_true rfl⟩) hS (fun _ _ h => h) (fun _ h => h) (fun r u t H locs ht hvm hq hW hz9 hk9 hS => ?_)
  obtain rfl : r = (-71) := hq
  replace hW : Wd g σ μ o H := by rw [← ht]; exact hW
  refine lv_bipush (v := (-71)) hx hb dL_refuses_524 (by decide) ?_
  refine lv_icmp_ne (tgt := 533) hx hb dL_refuses_526 (by decide) (fun c11 => absurd c11 (by decide)) (fun _ => ?_)
  refine lv_iconst (v := 1) hx hb dL_refuses_529 (by decide) ?_
  refine lv_goto (tgt := 534) hx hb dL_refuses_530 (by decide) ?_
  refine lv_istore (lv' := [(13, .int 1), (12, .int (-2147483648)), (11, .int (-2147483648)), (10, .int (-2147483648)), (9, .int (-2147483648)), (8, .int 3), (7, .int 2147483647), (6, .int (σ.2.2.1 0)), (5, .int (σ.1 6)), (4, .int (nxR σ)), (3, .int (nI (ct (thr σ.2.1) 16))), (0, .ref (gA g 0)), (1, .int here), (2, .int gone)]) hx hb dL_refuses_534 hl (by decide) rfl (fun ls hl => ?_)
  refine lv_bipush (v := 9) hx hb dL_refuses_536 (by decide) ?_
  refine lv_istore (lv' := [(14, .int 9), (13, .int 1), (12, .int (-2147483648)), (11, .int (-2147483648)), (10, .int (-2147483648)), (9, .int (-2147483648)), (8, .int 3), (7, .int 2147483647), (6, .int (σ.2.2.1 0)), (5, .int (σ.1 6)), (4, .int (nxR σ)), (3, .int (nI (ct (thr σ.2.1) 16))), (0, .ref (gA g 0)), (1, .int here), (2, .int gone)]) hx hb dL_refuses_538 hl (by decide) rfl (fun ls hl => ?_)
  refine lv_iload hx hb dL_refuses_540 (lv_at hl 0 rfl) ?_
  refine lv_bipush (v := 13) hx hb dL_refuses_542 (by decide) ?_
  refine lv_icmp_ge (tgt := 600) hx hb dL_refuses_544 (by decide) (fun c12 => absurd c12 (by decide)) (fun _ => ?_)
  refine lv_iload hx hb dL_refuses_547 (lv_at hl 1 rfl) ?_
  refine lv_if_eq (tgt := 591) hx hb dL_refuses_549 (by decide) (fun c13 => absurd c13 (by decide)) (fun _ => ?_)
  refine lv_iload hx hb dL_refuses_552 (lv_at hl 0 rfl) ?_
  refine lv_bipush (v := 11) hx hb dL_refuses_554 (by decide) ?_
  refine lv_icmp_eq (tgt := 587) hx hb dL_refuses_556 (by decide) (fun c14 => absurd c14 (by decide)) (fun _ => ?_)
  refine lv_aload_n hx hb dL_refuses_559 rfl (lv_at hl 12 rfl) ?_
  refine lv_iload hx hb dL_refuses_560 (lv_at hl 0 rfl) ?_
  refine lv_iload hx hb dL_refuses_562 (lv_at hl 5 rfl) ?_
  refine lv_iconst (v := 0) hx hb dL_refuses_564 (by decide) ?_
  refine va_calli (vx_runSW (As := [.ref (gA g 0), .int 9, .int (-2147483648), .int 0]) (rest := []) ⟨hx, hb, hml, hown, hts⟩ (mtL_act_9 l g σ μ o hfl (-2147483648) 0 1 (-71) (kRem_1 nm) (by decide)) (vx_cwSW 4 hts gL_refuses_L_act rfl rfl rfl (by decide +kernel) ⟨Nat.le_of_ble_eq_true rfl, Nat.le_of_ble_eq_true rfl⟩) ⟨PW.blind, fun U hU hW9 => ⟨rfl, PW.at hC hS hW U hU hW9⟩⟩ rfl rfl hl.1 rfl (lv_room (Nat.le_of_ble_eq_true rfl)) dL_refuses_565 ⟨Nat.le_of_ble_eq_true rfl, Nat.le_of_ble_eq_true rfl⟩) hS (fun _ _ h => h) (fun _ h => h) (fun r u t H locs ht hvm hq hW hz9 hk9 hS => ?_)
  obtain rfl : r = (-71) := hq
  replace hW : Wd g σ μ o H := by rw [← ht]; exact hW
  refine lv_bipush (v := (-71)) hx hb dL_refuses_568 (by decide) ?_
  refine lv_icmp_ne (tgt := 591) hx hb dL_refuses_570 (by decide) (fun c15 => absurd c15 (by decide)) (fun _ => ?_)
  refine lv_aload_n hx hb dL_refuses_573 rfl (lv_at hl 12 rfl) ?_
  refine lv_iload hx hb dL_refuses_574 (lv_at hl 0 rfl) ?_
  refine lv_iload hx hb dL_refuses_576 (lv_at hl 4 rfl) ?_
  refine lv_iconst (v := 0) hx hb dL_refuses_578 (by decide) ?_
  refine va_calli (vx_runSW (As := [.ref (gA g 0), .int 9, .int (-2147483648), .int 0]) (rest := []) ⟨hx, hb, hml, hown, hts⟩ (mtL_act_9 l g σ μ o hfl (-2147483648) 0 1 (-71) (kRem_1 nm) (by decide)) (vx_cwSW 4 hts gL_refuses_L_act rfl rfl rfl (by decide +kernel) ⟨Nat.le_of_ble_eq_true rfl, Nat.le_of_ble_eq_true rfl⟩) ⟨PW.blind, fun U hU hW9 => ⟨rfl, PW.at hC hS hW U hU hW9⟩⟩ rfl rfl hl.1 rfl (lv_room (Nat.le_of_ble_eq_true rfl)) dL_refuses_579 ⟨Nat.le_of_ble_eq_true rfl, Nat.le_of_ble_eq_true rfl⟩) hS (fun _ _ h => h) (fun _ h => h) (fun r u t H locs ht hvm hq hW hz9 hk9 hS => ?_)
  obtain rfl : r = (-71) := hq
  replace hW : Wd g σ μ o H := by rw [← ht]; exact hW
  refine lv_bipush (v := (-71)) hx hb dL_refuses_582 (by decide) ?_
  refine lv_icmp_ne (tgt := 591) hx hb dL_refuses_584 (by decide) (fun c16 => absurd c16 (by decide)) (fun _ => ?_)
  refine lv_iconst (v := 1) hx hb dL_refuses_587 (by decide) ?_
  refine lv_goto (tgt := 592) hx hb dL_refuses_588 (by decide) ?_
  refine lv_istore (lv' := [(13, .int 1), (14, .int 9), (12, .int (-2147483648)), (11, .int (-2147483648)), (10, .int (-2147483648)), (9, .int (-2147483648)), (8, .int 3), (7, .int 2147483647), (6, .int (σ.2.2.1 0)), (5, .int (σ.1 6)), (4, .int (nxR σ)), (3, .int (nI (ct (thr σ.2.1) 16))), (0, .ref (gA g 0)), (1, .int here), (2, .int gone)]) hx hb dL_refuses_592 hl (by decide) rfl (fun ls hl => ?_)
  refine lv_iinc (v := 10) (lv' := [(14, .int 10), (13, .int 1), (12, .int (-2147483648)), (11, .int (-2147483648)), (10, .int (-2147483648)), (9, .int (-2147483648)), (8, .int 3), (7, .int 2147483647), (6, .int (σ.2.2.1 0)), (5, .int (σ.1 6)), (4, .int (nxR σ)), (3, .int (nI (ct (thr σ.2.1) 16))), (0, .ref (gA g 0)), (1, .int here), (2, .int gone)]) hx hb dL_refuses_594 hl (k := 1) rfl (by decide) (by decide) rfl (fun ls hl => ?_)
  refine lv_goto (tgt := 540) hx hb dL_refuses_597 (by decide) ?_
  refine lv_iload hx hb dL_refuses_540 (lv_at hl 0 rfl) ?_
  refine lv_bipush (v := 13) hx hb dL_refuses_542 (by decide) ?_
  refine lv_icmp_ge (tgt := 600) hx hb dL_refuses_544 (by decide) (fun c17 => absurd c17 (by decide)) (fun _ => ?_)
  refine lv_iload hx hb dL_refuses_547 (lv_at hl 1 rfl) ?_
  refine lv_if_eq (tgt := 591) hx hb dL_refuses_549 (by decide) (fun c18 => absurd c18 (by decide)) (fun _ => ?_)
  refine lv_iload hx hb dL_refuses_552 (lv_at hl 0 rfl) ?_
  refine lv_bipush (v := 11) hx hb dL_refuses_554 (by decide) ?_
  refine lv_icmp_eq (tgt := 587) hx hb dL_refuses_556 (by decide) (fun c19 => absurd c19 (by decide)) (fun _ => ?_)
  refine lv_aload_n hx hb dL_refuses_559 rfl (lv_at hl 12 rfl) ?_
  refine lv_iload hx hb dL_refuses_560 (lv_at hl 0 rfl) ?_
  refine lv_iload hx hb dL_refuses_562 (lv_at hl 5 rfl) ?_
  refine lv_iconst (v := 0) hx hb dL_refuses_564 (by decide) ?_
  refine va_calli (vx_runSW (As := [.ref (gA g 0), .int 10, .int (-2147483648), .int 0]) (rest := []) ⟨hx, hb, hml, hown, hts⟩ (mtL_act_10 l g σ μ o hfl (-2147483648) 0 1 (-71) (kRem_1 nm) (by decide)) (vx_cwSW 4 hts gL_refuses_L_act rfl rfl rfl (by decide +kernel) ⟨Nat.le_of_ble_eq_true rfl, Nat.le_of_ble_eq_true rfl⟩) ⟨PW.blind, fun U hU hW9 => ⟨rfl, PW.at hC hS hW U hU hW9⟩⟩ rfl rfl hl.1 rfl (lv_room (Nat.le_of_ble_eq_true rfl)) dL_refuses_565 ⟨Nat.le_of_ble_eq_true rfl, Nat.le_of_ble_eq_true rfl⟩) hS (fun _ _ h => h) (fun _ h => h) (fun r u t H locs ht hvm hq hW hz9 hk9 hS => ?_)
  obtain rfl : r = (-71) := hq
  replace hW : Wd g σ μ o H := by rw [← ht]; exact hW
  refine lv_bipush (v := (-71)) hx hb dL_refuses_568 (by decide) ?_
  refine lv_icmp_ne (tgt := 591) hx hb dL_refuses_570 (by decide) (fun c20 => absurd c20 (by decide)) (fun _ => ?_)
  refine lv_aload_n hx hb dL_refuses_573 rfl (lv_at hl 12 rfl) ?_
  refine lv_iload hx hb dL_refuses_574 (lv_at hl 0 rfl) ?_
  refine lv_iload hx hb dL_refuses_576 (lv_at hl 4 rfl) ?_
  refine lv_iconst (v := 0) hx hb dL_refuses_578 (by decide) ?_
  refine va_calli (vx_runSW (As := [.ref (gA g 0), .int 10, .int (-2147483648), .int 0]) (rest := []) ⟨hx, hb, hml, hown, hts⟩ (mtL_act_10 l g σ μ o hfl (-2147483648) 0 1 (-71) (kRem_1 nm) (by decide)) (vx_cwSW 4 hts gL_refuses_L_act rfl rfl rfl (by decide +kernel) ⟨Nat.le_of_ble_eq_true rfl, Nat.le_of_ble_eq_true rfl⟩) ⟨PW.blind, fun U hU hW9 => ⟨rfl, PW.at hC hS hW U hU hW9⟩⟩ rfl rfl hl.1 rfl (lv_room (Nat.le_of_ble_eq_true rfl)) dL_refuses_579 ⟨Nat.le_of_ble_eq_true rfl, Nat.le_of_ble_eq_true rfl⟩) hS (fun _ _ h => h) (fun _ h => h) (fun r u t H locs ht hvm hq hW hz9 hk9 hS => ?_)
  obtain rfl : r = (-71) := hq
  replace hW : Wd g σ μ o H := by rw [← ht]; exact hW
  refine lv_bipush (v := (-71)) hx hb dL_refuses_582 (by decide) ?_
  refine lv_icmp_ne (tgt := 591) hx hb dL_refuses_584 (by decide) (fun c21 => absurd c21 (by decide)) (fun _ => ?_)
  refine lv_iconst (v := 1) hx hb dL_refuses_587 (by decide) ?_
  refine lv_goto (tgt := 592) hx hb dL_refuses_588 (by decide) ?_
  refine lv_istore (lv' := [(13, .int 1), (14, .int 10), (12, .int (-2147483648)), (11, .int (-2147483648)), (10, .int (-2147483648)), (9, .int (-2147483648)), (8, .int 3), (7, .int 2147483647), (6, .int (σ.2.2.1 0)), (5, .int (σ.1 6)), (4, .int (nxR σ)), (3, .int (nI (ct (thr σ.2.1) 16))), (0, .ref (gA g 0)), (1, .int here), (2, .int gone)]) hx hb dL_refuses_592 hl (by decide) rfl (fun ls hl => ?_)
  refine lv_iinc (v := 11) (lv' := [(14, .int 11), (13, .int 1), (12, .int (-2147483648)), (11, .int (-2147483648)), (10, .int (-2147483648)), (9, .int (-2147483648)), (8, .int 3), (7, .int 2147483647), (6, .int (σ.2.2.1 0)), (5, .int (σ.1 6)), (4, .int (nxR σ)), (3, .int (nI (ct (thr σ.2.1) 16))), (0, .ref (gA g 0)), (1, .int here), (2, .int gone)]) hx hb dL_refuses_594 hl (k := 1) rfl (by decide) (by decide) rfl (fun ls hl => ?_)
  refine lv_goto (tgt := 540) hx hb dL_refuses_597 (by decide) ?_
  refine lv_iload hx hb dL_refuses_540 (lv_at hl 0 rfl) ?_
  refine lv_bipush (v := 13) hx hb dL_refuses_542 (by decide) ?_
  refine lv_icmp_ge (tgt := 600) hx hb dL_refuses_544 (by decide) (fun c22 => absurd c22 (by decide)) (fun _ => ?_)
  refine lv_iload hx hb dL_refuses_547 (lv_at hl 1 rfl) ?_
  refine lv_if_eq (tgt := 591) hx hb dL_refuses_549 (by decide) (fun c23 => absurd c23 (by decide)) (fun _ => ?_)
  refine lv_iload hx hb dL_refuses_552 (lv_at hl 0 rfl) ?_
  refine lv_bipush (v := 11) hx hb dL_refuses_554 (by decide) ?_
  refine lv_icmp_eq (tgt := 587) hx hb dL_refuses_556 (by decide) (fun _ => ?_) (fun c24 => absurd c24 (by decide))
  refine lv_iconst (v := 1) hx hb dL_refuses_587 (by decide) ?_
  refine lv_goto (tgt := 592) hx hb dL_refuses_588 (by decide) ?_
  refine lv_istore (lv' := [(13, .int 1), (14, .int 11), (12, .int (-2147483648)), (11, .int (-2147483648)), (10, .int (-2147483648)), (9, .int (-2147483648)), (8, .int 3), (7, .int 2147483647), (6, .int (σ.2.2.1 0)), (5, .int (σ.1 6)), (4, .int (nxR σ)), (3, .int (nI (ct (thr σ.2.1) 16))), (0, .ref (gA g 0)), (1, .int here), (2, .int gone)]) hx hb dL_refuses_592 hl (by decide) rfl (fun ls hl => ?_)
  refine lv_iinc (v := 12) (lv' := [(14, .int 12), (13, .int 1), (12, .int (-2147483648)), (11, .int (-2147483648)), (10, .int (-2147483648)), (9, .int (-2147483648)), (8, .int 3), (7, .int 2147483647), (6, .int (σ.2.2.1 0)), (5, .int (σ.1 6)), (4, .int (nxR σ)), (3, .int (nI (ct (thr σ.2.1) 16))), (0, .ref (gA g 0)), (1, .int here), (2, .int gone)]) hx hb dL_refuses_594 hl (k := 1) rfl (by decide) (by decide) rfl (fun ls hl => ?_)
  refine lv_goto (tgt := 540) hx hb dL_refuses_597 (by decide) ?_
  refine lv_iload hx hb dL_refuses_540 (lv_at hl 0 rfl) ?_
  refine lv_bipush (v := 13) hx hb dL_refuses_542 (by decide) ?_
  refine lv_icmp_ge (tgt := 600) hx hb dL_refuses_544 (by decide) (fun c25 => absurd c25 (by decide)) (fun _ => ?_)
  refine lv_iload hx hb dL_refuses_547 (lv_at hl 1 rfl) ?_
  refine lv_if_eq (tgt := 591) hx hb dL_refuses_549 (by decide) (fun c26 => absurd c26 (by decide)) (fun _ => ?_)
  refine lv_iload hx hb dL_refuses_552 (lv_at hl 0 rfl) ?_
  refine lv_bipush (v := 11) hx hb dL_refuses_554 (by decide) ?_
  refine lv_icmp_eq (tgt := 587) hx hb dL_refuses_556 (by decide) (fun c27 => absurd c27 (by decide)) (fun _ => ?_)
  refine lv_aload_n hx hb dL_refuses_559 rfl (lv_at hl 12 rfl) ?_
  refine lv_iload hx hb dL_refuses_560 (lv_at hl 0 rfl) ?_
  refine lv_iload hx hb dL_refuses_562 (lv_at hl 5 rfl) ?_
  refine lv_iconst (v := 0) hx hb dL_refuses_564 (by decide) ?_
  refine va_calli (vx_runSW (As := [.ref (gA g 0), .int 12, .int (-2147483648), .int 0]) (rest := []) ⟨hx, hb, hml, hown, hts⟩ (mtL_act_12 l g σ μ o hfl (-2147483648) 0 1 (-71) (kRem_1 nm) (by decide)) (vx_cwSW 4 hts gL_refuses_L_act rfl rfl rfl (by decide +kernel) ⟨Nat.le_of_ble_eq_true rfl, Nat.le_of_ble_eq_true rfl⟩) ⟨PW.blind, fun U hU hW9 => ⟨rfl, PW.at hC hS hW U hU hW9⟩⟩ rfl rfl hl.1 rfl (lv_room (Nat.le_of_ble_eq_true rfl)) dL_refuses_565 ⟨Nat.le_of_ble_eq_true rfl, Nat.le_of_ble_eq_true rfl⟩) hS (fun _ _ h => h) (fun _ h => h) (fun r u t H locs ht hvm hq hW hz9 hk9 hS => ?_)
  obtain rfl : r = (-71) := hq
  replace hW : Wd g σ μ o H := by rw [← ht]; exact hW
  refine lv_bipush (v := (-71)) hx hb dL_refuses_568 (by decide) ?_
  refine lv_icmp_ne (tgt := 591) hx hb dL_refuses_570 (by decide) (fun c28 => absurd c28 (by decide)) (fun _ => ?_)
  refine lv_aload_n hx hb dL_refuses_573 rfl (lv_at hl 12 rfl) ?_
  refine lv_iload hx hb dL_refuses_574 (lv_at hl 0 rfl) ?_
  refine lv_iload hx hb dL_refuses_576 (lv_at hl 4 rfl) ?_
  refine lv_iconst (v := 0) hx hb dL_refuses_578 (by decide) ?_
  refine va_calli (vx_runSW (As := [.ref (gA g 0), .int 12, .int (-2147483648), .int 0]) (rest := []) ⟨hx, hb, hml, hown, hts⟩ (mtL_act_12 l g σ μ o hfl (-2147483648) 0 1 (-71) (kRem_1 nm) (by decide)) (vx_cwSW 4 hts gL_refuses_L_act rfl rfl rfl (by decide +kernel) ⟨Nat.le_of_ble_eq_true rfl, Nat.le_of_ble_eq_true rfl⟩) ⟨PW.blind, fun U hU hW9 => ⟨rfl, PW.at hC hS hW U hU hW9⟩⟩ rfl rfl hl.1 rfl (lv_room (Nat.le_of_ble_eq_true rfl)) dL_refuses_579 ⟨Nat.le_of_ble_eq_true rfl, Nat.le_of_ble_eq_true rfl⟩) hS (fun _ _ h => h) (fun _ h => h) (fun r u t H locs ht hvm hq hW hz9 hk9 hS => ?_)
  obtain rfl : r = (-71) := hq
  replace hW : Wd g σ μ o H := by rw [← ht]; exact hW
  refine lv_bipush (v := (-71)) hx hb dL_refuses_582 (by decide) ?_
  refine lv_icmp_ne (tgt := 591) hx hb dL_refuses_584 (by decide) (fun c29 => absurd c29 (by decide)) (fun _ => ?_)
  refine lv_iconst (v := 1) hx hb dL_refuses_587 (by decide) ?_
  refine lv_goto (tgt := 592) hx hb dL_refuses_588 (by decide) ?_
  refine lv_istore (lv' := [(13, .int 1), (14, .int 12), (12, .int (-2147483648)), (11, .int (-2147483648)), (10, .int (-2147483648)), (9, .int (-2147483648)), (8, .int 3), (7, .int 2147483647), (6, .int (σ.2.2.1 0)), (5, .int (σ.1 6)), (4, .int (nxR σ)), (3, .int (nI (ct (thr σ.2.1) 16))), (0, .ref (gA g 0)), (1, .int here), (2, .int gone)]) hx hb dL_refuses_592 hl (by decide) rfl (fun ls hl => ?_)
  refine lv_iinc (v := 13) (lv' := [(14, .int 13), (13, .int 1), (12, .int (-2147483648)), (11, .int (-2147483648)), (10, .int (-2147483648)), (9, .int (-2147483648)), (8, .int 3), (7, .int 2147483647), (6, .int (σ.2.2.1 0)), (5, .int (σ.1 6)), (4, .int (nxR σ)), (3, .int (nI (ct (thr σ.2.1) 16))), (0, .ref (gA g 0)), (1, .int here), (2, .int gone)]) hx hb dL_refuses_594 hl (k := 1) rfl (by decide) (by decide) rfl (fun ls hl => ?_)
  refine lv_goto (tgt := 540) hx hb dL_refuses_597 (by decide) ?_
  refine lv_iload hx hb dL_refuses_540 (lv_at hl 0 rfl) ?_
  refine lv_bipush (v := 13) hx hb dL_refuses_542 (by decide) ?_
  refine lv_icmp_ge (tgt := 600) hx hb dL_refuses_544 (by decide) (fun _ => ?_) (fun c30 => absurd c30 (by decide))
  refine lv_iload hx hb dL_refuses_600 (lv_at hl 1 rfl) ?_
  refine lv_if_ne (tgt := 607) hx hb dL_refuses_602 (by decide) (fun _ => ?_) (fun c31 => absurd c31 (by decide))
  refine lv_iinc (v := 4) (lv' := [(8, .int 4), (14, .int 13), (13, .int 1), (12, .int (-2147483648)), (11, .int (-2147483648)), (10, .int (-2147483648)), (9, .int (-2147483648)), (7, .int 2147483647), (6, .int (σ.2.2.1 0)), (5, .int (σ.1 6)), (4, .int (nxR σ)), (3, .int (nI (ct (thr σ.2.1) 16))), (0, .ref (gA g 0)), (1, .int here), (2, .int gone)]) hx hb dL_refuses_607 hl (k := 6) rfl (by decide) (by decide) rfl (fun ls hl => ?_)
  refine lv_goto (tgt := 30) hx hb dL_refuses_610 (by decide) ?_
  exact kk H locs ls hW hS (by exact lv_sub hl [0, 7, 8, 9, 10, 11, 12, 13, 14] rfl)

set_option maxHeartbeats 4000000 in
set_option maxRecDepth 100000 in
theorem rf_h {p : Program} {l : Launch} {e : Env} {s : State} {m : MethodId} {below : List Frame} {meth : Method} {c : Code} {g : Ge} {σ : Sg} {μ : Mg} {o : Nat → Int64} {here gone : Int32} {en cl : Nat} (C0 : rfC p l s m meth c g σ here gone en cl) (kk : rfG p l e s m below meth c g σ μ o here gone 613 [(8, .int 4), (7, .int 2147483647), (6, .int (σ.2.2.1 0)), (5, .int (σ.1 6)), (4, .int (nxR σ)), (3, .int (nI (ct (thr σ.2.1) 16))), (0, .ref (gA g 0)), (1, .int here), (2, .int gone)] 148 888) : rfG p l e s m below meth c g σ μ o here gone 30 [(8, .int 4), (7, .int 2147483647), (6, .int (σ.2.2.1 0)), (5, .int (σ.1 6)), (4, .int (nxR σ)), (3, .int (nI (ct (thr σ.2.1) 16))), (0, .ref (gA g 0)), (1, .int here), (2, .int gone)] 148 888 := by
  obtain ⟨⟨hx, hb, hr, hml, hts, hown, hlocks⟩, hC, hfl, ⟨n2, n1, nM, nm, ng, hh, g1, hL⟩, e1, e2, e3, e4⟩ := C0
  have hk0 : narrow .boolean (.int (σ.2.2.1 0)) = .int (σ.2.2.1 0) := by rcases hL with q | q <;> rw [q] <;> rfl
  intro H locs ls hW hS hl
  have hl : lv_has ls 15 [(8, .int 4), (7, .int 2147483647), (6, .int (σ.2.2.1 0)), (5, .int (σ.1 6)), (4, .int (nxR σ)), (3, .int (nI (ct (thr σ.2.1) 16))), (0, .ref (gA g 0)), (1, .int here), (2, .int gone)] := hl
  refine lv_iload hx hb dL_refuses_30 (lv_at hl 0 rfl) ?_
  refine lv_iconst (v := 4) hx hb dL_refuses_32 (by decide) ?_
  refine lv_icmp_ge (tgt := 613) hx hb dL_refuses_33 (by decide) (fun _ => ?_) (fun c1 => absurd c1 (by decide))
  exact kk H locs ls hW hS (by exact lv_sub hl [0, 1, 2, 3, 4, 5, 6, 7, 8] rfl)

set_option maxHeartbeats 4000000 in
set_option maxRecDepth 100000 in
theorem rf_lk {p : Program} {l : Launch} {e : Env} {s : State} {m : MethodId} {below : List Frame} {meth : Method} {c : Code} {g : Ge} {σ : Sg} {μ : Mg} {o : Nat → Int64} {here gone : Int32} {en cl : Nat} (C0 : rfC p l s m meth c g σ here gone en cl) (hlk : ¬ σ.2.2.1 0 = 0) : rfG p l e s m below meth c g σ μ o here gone 613 [(8, .int 4), (7, .int 2147483647), (6, .int (σ.2.2.1 0)), (5, .int (σ.1 6)), (4, .int (nxR σ)), (3, .int (nI (ct (thr σ.2.1) 16))), (0, .ref (gA g 0)), (1, .int here), (2, .int gone)] 148 888 := by
  obtain ⟨⟨hx, hb, hr, hml, hts, hown, hlocks⟩, hC, hfl, ⟨n2, n1, nM, nm, ng, hh, g1, hL⟩, e1, e2, e3, e4⟩ := C0
  have hk0 : narrow .boolean (.int (σ.2.2.1 0)) = .int (σ.2.2.1 0) := by rcases hL with q | q <;> rw [q] <;> rfl
  intro H locs ls hW hS hl
  have hl : lv_has ls 15 [(8, .int 4), (7, .int 2147483647), (6, .int (σ.2.2.1 0)), (5, .int (σ.1 6)), (4, .int (nxR σ)), (3, .int (nI (ct (thr σ.2.1) 16))), (0, .ref (gA g 0)), (1, .int here), (2, .int gone)] := hl
  refine lv_iload hx hb dL_refuses_613 (lv_at hl 2 rfl) ?_
  refine lv_if_eq (tgt := 686) hx hb dL_refuses_615 (by decide) (fun c9 => absurd c9 hlk) (fun _ => ?_)
  refine lv_aload_n hx hb dL_refuses_618 rfl (lv_at hl 6 rfl) ?_
  refine lv_iconst (v := 1) hx hb dL_refuses_619 (by decide) ?_
  refine lv_iload_n hx hb dL_refuses_620 rfl (lv_at hl 7 rfl) ?_
  refine lv_iconst (v := 5) hx hb dL_refuses_621 (by decide) ?_
  refine va_calli (vx_runSW (As := [.ref (gA g 0), .int 1, .int here, .int 5]) (rest := []) ⟨hx, hb, hml, hown, hts⟩ (mtL_act_1 l g σ μ o hfl here 5 3 (-73) (kEd_3 hh (by decide) hlk) (by decide)) (vx_cwSW 4 hts gL_refuses_L_act rfl rfl rfl (by decide +kernel) ⟨Nat.le_of_ble_eq_true rfl, Nat.le_of_ble_eq_true rfl⟩) ⟨PW.blind, fun U hU hW9 => ⟨rfl, PW.at hC hS hW U hU hW9⟩⟩ rfl rfl hl.1 rfl (lv_room (Nat.le_of_ble_eq_true rfl)) dL_refuses_622 ⟨Nat.le_of_ble_eq_true rfl, Nat.le_of_ble_eq_true rfl⟩) hS (fun _ _ h => h) (fun _ h => h) (fun r u t H locs ht hvm hq hW hz9 hk9 hS => ?_)
  obtain rfl : r = (-73) := hq
  replace hW : Wd g σ μ o H := by rw [← ht]; exact hW
  refine lv_bipush (v := (-73)) hx hb dL_refuses_625 (by decide) ?_
  refine lv_icmp_ne (tgt := 682) hx hb dL_refuses_627 (by decide) (fun c2 => absurd c2 (by decide)) (fun _ => ?_)
  refine lv_aload_n hx hb dL_refuses_630 rfl (lv_at hl 6 rfl) ?_
  refine lv_iconst (v := 2) hx hb dL_refuses_631 (by decide) ?_
  refine lv_iload_n hx hb dL_refuses_632 rfl (lv_at hl 7 rfl) ?_
  refine lv_iconst (v := 0) hx hb dL_refuses_633 (by decide) ?_
  refine va_calli (vx_runSW (As := [.ref (gA g 0), .int 2, .int here, .int 0]) (rest := []) ⟨hx, hb, hml, hown, hts⟩ (mtL_act_2 l g σ μ o hfl here 0 2 (-73) (kCh_2 (okC_t hh) hlk) (by decide)) (vx_cwSW 4 hts gL_refuses_L_act rfl rfl rfl (by decide +kernel) ⟨Nat.le_of_ble_eq_true rfl, Nat.le_of_ble_eq_true rfl⟩) ⟨PW.blind, fun U hU hW9 => ⟨rfl, PW.at hC hS hW U hU hW9⟩⟩ rfl rfl hl.1 rfl (lv_room (Nat.le_of_ble_eq_true rfl)) dL_refuses_634 ⟨Nat.le_of_ble_eq_true rfl, Nat.le_of_ble_eq_true rfl⟩) hS (fun _ _ h => h) (fun _ h => h) (fun r u t H locs ht hvm hq hW hz9 hk9 hS => ?_)
  obtain rfl : r = (-73) := hq
  replace hW : Wd g σ μ o H := by rw [← ht]; exact hW
  refine lv_bipush (v := (-73)) hx hb dL_refuses_637 (by decide) ?_
  refine lv_icmp_ne (tgt := 682) hx hb dL_refuses_639 (by decide) (fun c3 => absurd c3 (by decide)) (fun _ => ?_)
  refine lv_aload_n hx hb dL_refuses_642 rfl (lv_at hl 6 rfl) ?_
  refine lv_iconst (v := 2) hx hb dL_refuses_643 (by decide) ?_
  refine lv_iconst (v := (-1)) hx hb dL_refuses_644 (by decide) ?_
  refine lv_iconst (v := 0) hx hb dL_refuses_645 (by decide) ?_
  refine va_calli (vx_runSW (As := [.ref (gA g 0), .int 2, .int (-1), .int 0]) (rest := []) ⟨hx, hb, hml, hown, hts⟩ (mtL_act_2 l g σ μ o hfl (-1) 0 2 (-73) (kCh_2 okC_m hlk) (by decide)) (vx_cwSW 4 hts gL_refuses_L_act rfl rfl rfl (by decide +kernel) ⟨Nat.le_of_ble_eq_true rfl, Nat.le_of_ble_eq_true rfl⟩) ⟨PW.blind, fun U hU hW9 => ⟨rfl, PW.at hC hS hW U hU hW9⟩⟩ rfl rfl hl.1 rfl (lv_room (Nat.le_of_ble_eq_true rfl)) dL_refuses_646 ⟨Nat.le_of_ble_eq_true rfl, Nat.le_of_ble_eq_true rfl⟩) hS (fun _ _ h => h) (fun _ h => h) (fun r u t H locs ht hvm hq hW hz9 hk9 hS => ?_)
  obtain rfl : r = (-73) := hq
  replace hW : Wd g σ μ o H := by rw [← ht]; exact hW
  refine lv_bipush (v := (-73)) hx hb dL_refuses_649 (by decide) ?_
  refine lv_icmp_ne (tgt := 682) hx hb dL_refuses_651 (by decide) (fun c4 => absurd c4 (by decide)) (fun _ => ?_)
  refine lv_aload_n hx hb dL_refuses_654 rfl (lv_at hl 6 rfl) ?_
  refine lv_iconst (v := 4) hx hb dL_refuses_655 (by decide) ?_
  refine lv_iconst (v := 5) hx hb dL_refuses_656 (by decide) ?_
  refine lv_bipush (v := 6) hx hb dL_refuses_657 (by decide) ?_
  refine va_calli (vx_runSW (As := [.ref (gA g 0), .int 4, .int 5, .int 6]) (rest := []) ⟨hx, hb, hml, hown, hts⟩ (mtL_act_4 l g σ μ o hfl 5 6 2 (-73) (kPa_2 (by decide) (by decide) hlk) (by decide)) (vx_cwSW 4 hts gL_refuses_L_act rfl rfl rfl (by decide +kernel) ⟨Nat.le_of_ble_eq_true rfl, Nat.le_of_ble_eq_true rfl⟩) ⟨PW.blind, fun U hU hW9 => ⟨rfl, PW.at hC hS hW U hU hW9⟩⟩ rfl rfl hl.1 rfl (lv_room (Nat.le_of_ble_eq_true rfl)) dL_refuses_659 ⟨Nat.le_of_ble_eq_true rfl, Nat.le_of_ble_eq_true rfl⟩) hS (fun _ _ h => h) (fun _ h => h) (fun r u t H locs ht hvm hq hW hz9 hk9 hS => ?_)
  obtain rfl : r = (-73) := hq
  replace hW : Wd g σ μ o H := by rw [← ht]; exact hW
  refine lv_bipush (v := (-73)) hx hb dL_refuses_662 (by decide) ?_
  refine lv_icmp_ne (tgt := 682) hx hb dL_refuses_664 (by decide) (fun c5 => absurd c5 (by decide)) (fun _ => ?_)
  refine lv_aload_n hx hb dL_refuses_667 rfl (lv_at hl 6 rfl) ?_
  refine lv_iconst (v := 5) hx hb dL_refuses_668 (by decide) ?_
  refine lv_iconst (v := 1) hx hb dL_refuses_669 (by decide) ?_
  refine va_calli (vx_runSW (As := [.ref (gA g 0), .int 5, .int 1]) (rest := []) ⟨hx, hb, hml, hown, hts⟩ (mtL_lockR l g σ μ o hfl 5 1 2 (-73) (kLo_2 (by decide) (by decide) hlk) (by decide)) (vx_cwSW 3 hts gL_refuses_L_lock rfl rfl rfl (by decide +kernel) ⟨Nat.le_of_ble_eq_true rfl, Nat.le_of_ble_eq_true rfl⟩) ⟨PW.blind, fun U hU hW9 => ⟨rfl, PW.at hC hS hW U hU hW9⟩⟩ rfl rfl hl.1 rfl (lv_room (Nat.le_of_ble_eq_true rfl)) dL_refuses_670 ⟨Nat.le_of_ble_eq_true rfl, Nat.le_of_ble_eq_true rfl⟩) hS (fun _ _ h => h) (fun _ h => h) (fun r u t H locs ht hvm hq hW hz9 hk9 hS => ?_)
  obtain rfl : r = (-73) := hq
  replace hW : Wd g σ μ o H := by rw [← ht]; exact hW
  refine lv_bipush (v := (-73)) hx hb dL_refuses_673 (by decide) ?_
  refine lv_icmp_ne (tgt := 682) hx hb dL_refuses_675 (by decide) (fun c6 => absurd c6 (by decide)) (fun _ => ?_)
  refine lv_iconst (v := 1) hx hb dL_refuses_678 (by decide) ?_
  refine lv_goto (tgt := 704) hx hb dL_refuses_679 (by decide) ?_
  refine lv_istore (lv' := [(8, .int 1), (7, .int 2147483647), (6, .int (σ.2.2.1 0)), (5, .int (σ.1 6)), (4, .int (nxR σ)), (3, .int (nI (ct (thr σ.2.1) 16))), (0, .ref (gA g 0)), (1, .int here), (2, .int gone)]) hx hb dL_refuses_704 hl (by decide) rfl (fun ls hl => ?_)
  refine lv_iload hx hb dL_refuses_706 (lv_at hl 0 rfl) ?_
  refine lv_if_eq (tgt := 750) hx hb dL_refuses_708 (by decide) (fun c7 => absurd c7 (by decide)) (fun _ => ?_)
  refine lv_aload_n hx hb dL_refuses_711 rfl (lv_at hl 6 rfl) ?_
  refine vp_callSi (va_Run.run (va_runV (As := []) (rest := []) ⟨hx, hb, hml, hown, hts⟩ (mtX2_entries l g σ μ o ) (cwV 0 hts gL_refuses_X2_entries rfl rfl rfl (by decide +kernel) ⟨Nat.le_of_ble_eq_true rfl, Nat.le_of_ble_eq_true rfl⟩) ⟨PW.blind, rcB hC hW, fun U hU hW9 => ⟨rfl, PW.at hC hS hW U hU hW9⟩⟩ rfl rfl hl.1 rfl (lv_room (Nat.le_of_ble_eq_true rfl)) dL_refuses_712 ⟨Nat.le_of_ble_eq_true rfl, Nat.le_of_ble_eq_true rfl⟩)) (fun r8 h9 => ?_)
  obtain rfl : r8 = nI (ct (thr σ.2.1) 16) := h9
  refine lv_iload_n hx hb dL_refuses_715 rfl (lv_at hl 5 rfl) ?_
  refine lv_icmp_ne (tgt := 750) hx hb dL_refuses_716 (by decide) (fun c10 => absurd rfl c10) (fun _ => ?_)
  refine lv_aload_n hx hb dL_refuses_719 rfl (lv_at hl 6 rfl) ?_
  refine vp_callSi (va_Run.run (va_runV (As := []) (rest := []) ⟨hx, hb, hml, hown, hts⟩ (mtX2_next l g σ μ o ) (cwV 0 hts gL_refuses_X2_next rfl rfl rfl (by decide +kernel) ⟨Nat.le_of_ble_eq_true rfl, Nat.le_of_ble_eq_true rfl⟩) ⟨PW.blind, rcB hC hW, fun U hU hW9 => ⟨rfl, PW.at hC hS hW U hU hW9⟩⟩ rfl rfl hl.1 rfl (lv_room (Nat.le_of_ble_eq_true rfl)) dL_refuses_720 ⟨Nat.le_of_ble_eq_true rfl, Nat.le_of_ble_eq_true rfl⟩)) (fun r11 h12 => ?_)
  obtain rfl : r11 = nxR σ := h12
  refine lv_iload hx hb dL_refuses_723 (lv_at hl 4 rfl) ?_
  refine lv_icmp_ne (tgt := 750) hx hb dL_refuses_725 (by decide) (fun c13 => absurd rfl c13) (fun _ => ?_)
  refine lv_aload_n hx hb dL_refuses_728 rfl (lv_at hl 6 rfl) ?_
  refine vp_callSi (va_Run.run (va_runV (As := []) (rest := []) ⟨hx, hb, hml, hown, hts⟩ (mtX2_register l g σ μ o ) (cwV 0 hts gL_refuses_X2_register rfl rfl rfl (by decide +kernel) ⟨Nat.le_of_ble_eq_true rfl, Nat.le_of_ble_eq_true rfl⟩) ⟨PW.blind, rcB hC hW, fun U hU hW9 => ⟨rfl, PW.at hC hS hW U hU hW9⟩⟩ rfl rfl hl.1 rfl (lv_room (Nat.le_of_ble_eq_true rfl)) dL_refuses_729 ⟨Nat.le_of_ble_eq_true rfl, Nat.le_of_ble_eq_true rfl⟩)) (fun r14 h15 => ?_)
  obtain rfl : r14 = σ.1 6 := h15
  refine lv_iload hx hb dL_refuses_732 (lv_at hl 3 rfl) ?_
  refine lv_icmp_ne (tgt := 750) hx hb dL_refuses_734 (by decide) (fun c16 => absurd rfl c16) (fun _ => ?_)
  refine lv_aload_n hx hb dL_refuses_737 rfl (lv_at hl 6 rfl) ?_
  refine vp_callSi (va_Run.run (va_runV (As := []) (rest := []) ⟨hx, hb, hml, hown, hts⟩ (mtX2_isLocked l g σ μ o hk0) (cwV 0 hts gL_refuses_X2_isLocked rfl rfl rfl (by decide +kernel) ⟨Nat.le_of_ble_eq_true rfl, Nat.le_of_ble_eq_true rfl⟩) ⟨PW.blind, rcB hC hW, fun U hU hW9 => ⟨rfl, PW.at hC hS hW U hU hW9⟩⟩ rfl rfl hl.1 rfl (lv_room (Nat.le_of_ble_eq_true rfl)) dL_refuses_738 ⟨Nat.le_of_ble_eq_true rfl, Nat.le_of_ble_eq_true rfl⟩)) (fun r17 h18 => ?_)
  obtain rfl : r17 = σ.2.2.1 0 := h18
  refine lv_iload hx hb dL_refuses_741 (lv_at hl 2 rfl) ?_
  refine lv_icmp_ne (tgt := 750) hx hb dL_refuses_743 (by decide) (fun c19 => absurd rfl c19) (fun _ => ?_)
  refine lv_iconst (v := 1) hx hb dL_refuses_746 (by decide) ?_
  refine lv_goto (tgt := 751) hx hb dL_refuses_747 (by decide) ?_
  refine W.widen (k := 164) (n := 984) (Nat.le_of_ble_eq_true rfl) (Nat.le_of_ble_eq_true rfl) ?_
  exact W.zret (v := 1) (ty := .boolean) hx hb hr rfl (fun t ht hW9 => ⟨⟨_, (), rfl, rfl, by first | (rw [ht]; exact hW) | (dsimp only; rw [ht]; exact hW)⟩, hS.F ht⟩) hS.2.2 dL_refuses_751

set_option maxHeartbeats 4000000 in
set_option maxRecDepth 100000 in
theorem rf_un {p : Program} {l : Launch} {e : Env} {s : State} {m : MethodId} {below : List Frame} {meth : Method} {c : Code} {g : Ge} {σ : Sg} {μ : Mg} {o : Nat → Int64} {here gone : Int32} {en cl : Nat} (C0 : rfC p l s m meth c g σ here gone en cl) (hl0 : σ.2.2.1 0 = 0) : rfG p l e s m below meth c g σ μ o here gone 613 [(8, .int 4), (7, .int 2147483647), (6, .int (σ.2.2.1 0)), (5, .int (σ.1 6)), (4, .int (nxR σ)), (3, .int (nI (ct (thr σ.2.1) 16))), (0, .ref (gA g 0)), (1, .int here), (2, .int gone)] 148 888 := by
  obtain ⟨⟨hx, hb, hr, hml, hts, hown, hlocks⟩, hC, hfl, ⟨n2, n1, nM, nm, ng, hh, g1, hL⟩, e1, e2, e3, e4⟩ := C0
  have hk0 : narrow .boolean (.int (σ.2.2.1 0)) = .int (σ.2.2.1 0) := by rcases hL with q | q <;> rw [q] <;> rfl
  intro H locs ls hW hS hl
  have hl : lv_has ls 15 [(8, .int 4), (7, .int 2147483647), (6, .int (σ.2.2.1 0)), (5, .int (σ.1 6)), (4, .int (nxR σ)), (3, .int (nI (ct (thr σ.2.1) 16))), (0, .ref (gA g 0)), (1, .int here), (2, .int gone)] := hl
  refine lv_iload hx hb dL_refuses_613 (lv_at hl 2 rfl) ?_
  refine lv_if_eq (tgt := 686) hx hb dL_refuses_615 (by decide) (fun _ => ?_) (fun c9 => absurd hl0 c9)
  refine lv_aload_n hx hb dL_refuses_686 rfl (lv_at hl 6 rfl) ?_
  refine lv_bipush (v := 7) hx hb dL_refuses_687 (by decide) ?_
  refine lv_iconst (v := 5) hx hb dL_refuses_689 (by decide) ?_
  refine lv_iconst (v := 0) hx hb dL_refuses_690 (by decide) ?_
  refine va_calli (vx_runSW (As := [.ref (gA g 0), .int 7, .int 5, .int 0]) (rest := []) ⟨hx, hb, hml, hown, hts⟩ (mtL_act_7 l g σ μ o hfl 5 0 en cl e1 e2 e3 e4 2 (-73) (kEn_2 (by decide) hl0) (by decide)) (vx_cwSW 4 hts gL_refuses_L_act rfl rfl rfl (by decide +kernel) ⟨Nat.le_of_ble_eq_true rfl, Nat.le_of_ble_eq_true rfl⟩) ⟨PW.blind, fun U hU hW9 => ⟨rfl, PW.at hC hS hW U hU hW9⟩⟩ rfl rfl hl.1 rfl (lv_room (Nat.le_of_ble_eq_true rfl)) dL_refuses_691 ⟨Nat.le_of_ble_eq_true rfl, Nat.le_of_ble_eq_true rfl⟩) hS (fun _ _ h => h) (fun _ h => h) (fun r u t H locs ht hvm hq hW hz9 hk9 hS => ?_)
  obtain rfl : r = (-73) := hq
  replace hW : Wd g σ μ o H := by rw [← ht]; exact hW
  refine lv_bipush (v := (-73)) hx hb dL_refuses_694 (by decide) ?_
  refine lv_icmp_ne (tgt := 703) hx hb dL_refuses_696 (by decide) (fun c2 => absurd c2 (by decide)) (fun _ => ?_)
  refine lv_iconst (v := 1) hx hb dL_refuses_699 (by decide) ?_
  refine lv_goto (tgt := 704) hx hb dL_refuses_700 (by decide) ?_
  refine lv_istore (lv' := [(8, .int 1), (7, .int 2147483647), (6, .int (σ.2.2.1 0)), (5, .int (σ.1 6)), (4, .int (nxR σ)), (3, .int (nI (ct (thr σ.2.1) 16))), (0, .ref (gA g 0)), (1, .int here), (2, .int gone)]) hx hb dL_refuses_704 hl (by decide) rfl (fun ls hl => ?_)
  refine lv_iload hx hb dL_refuses_706 (lv_at hl 0 rfl) ?_
  refine lv_if_eq (tgt := 750) hx hb dL_refuses_708 (by decide) (fun c3 => absurd c3 (by decide)) (fun _ => ?_)
  refine lv_aload_n hx hb dL_refuses_711 rfl (lv_at hl 6 rfl) ?_
  refine vp_callSi (va_Run.run (va_runV (As := []) (rest := []) ⟨hx, hb, hml, hown, hts⟩ (mtX2_entries l g σ μ o ) (cwV 0 hts gL_refuses_X2_entries rfl rfl rfl (by decide +kernel) ⟨Nat.le_of_ble_eq_true rfl, Nat.le_of_ble_eq_true rfl⟩) ⟨PW.blind, rcB hC hW, fun U hU hW9 => ⟨rfl, PW.at hC hS hW U hU hW9⟩⟩ rfl rfl hl.1 rfl (lv_room (Nat.le_of_ble_eq_true rfl)) dL_refuses_712 ⟨Nat.le_of_ble_eq_true rfl, Nat.le_of_ble_eq_true rfl⟩)) (fun r4 h5 => ?_)
  obtain rfl : r4 = nI (ct (thr σ.2.1) 16) := h5
  refine lv_iload_n hx hb dL_refuses_715 rfl (lv_at hl 5 rfl) ?_
  refine lv_icmp_ne (tgt := 750) hx hb dL_refuses_716 (by decide) (fun c6 => absurd rfl c6) (fun _ => ?_)
  refine lv_aload_n hx hb dL_refuses_719 rfl (lv_at hl 6 rfl) ?_
  refine vp_callSi (va_Run.run (va_runV (As := []) (rest := []) ⟨hx, hb, hml, hown, hts⟩ (mtX2_next l g σ μ o ) (cwV 0 hts gL_refuses_X2_next rfl rfl rfl (by decide +kernel) ⟨Nat.le_of_ble_eq_true rfl, Nat.le_of_ble_eq_true rfl⟩) ⟨PW.blind, rcB hC hW, fun U hU hW9 => ⟨rfl, PW.at hC hS hW U hU hW9⟩⟩ rfl rfl hl.1 rfl (lv_room (Nat.le_of_ble_eq_true rfl)) dL_refuses_720 ⟨Nat.le_of_ble_eq_true rfl, Nat.le_of_ble_eq_true rfl⟩)) (fun r7 h8 => ?_)
  obtain rfl : r7 = nxR σ := h8
  refine lv_iload hx hb dL_refuses_723 (lv_at hl 4 rfl) ?_
  refine lv_icmp_ne (tgt := 750) hx hb dL_refuses_725 (by decide) (fun c9 => absurd rfl c9) (fun _ => ?_)
  refine lv_aload_n hx hb dL_refuses_728 rfl (lv_at hl 6 rfl) ?_
  refine vp_callSi (va_Run.run (va_runV (As := []) (rest := []) ⟨hx, hb, hml, hown, hts⟩ (mtX2_register l g σ μ o ) (cwV 0 hts gL_refuses_X2_register rfl rfl rfl (by decide +kernel) ⟨Nat.le_of_ble_eq_true rfl, Nat.le_of_ble_eq_true rfl⟩) ⟨PW.blind, rcB hC hW, fun U hU hW9 => ⟨rfl, PW.at hC hS hW U hU hW9⟩⟩ rfl rfl hl.1 rfl (lv_room (Nat.le_of_ble_eq_true rfl)) dL_refuses_729 ⟨Nat.le_of_ble_eq_true rfl, Nat.le_of_ble_eq_true rfl⟩)) (fun r10 h11 => ?_)
  obtain rfl : r10 = σ.1 6 := h11
  refine lv_iload hx hb dL_refuses_732 (lv_at hl 3 rfl) ?_
  refine lv_icmp_ne (tgt := 750) hx hb dL_refuses_734 (by decide) (fun c12 => absurd rfl c12) (fun _ => ?_)
  refine lv_aload_n hx hb dL_refuses_737 rfl (lv_at hl 6 rfl) ?_
  refine vp_callSi (va_Run.run (va_runV (As := []) (rest := []) ⟨hx, hb, hml, hown, hts⟩ (mtX2_isLocked l g σ μ o hk0) (cwV 0 hts gL_refuses_X2_isLocked rfl rfl rfl (by decide +kernel) ⟨Nat.le_of_ble_eq_true rfl, Nat.le_of_ble_eq_true rfl⟩) ⟨PW.blind, rcB hC hW, fun U hU hW9 => ⟨rfl, PW.at hC hS hW U hU hW9⟩⟩ rfl rfl hl.1 rfl (lv_room (Nat.le_of_ble_eq_true rfl)) dL_refuses_738 ⟨Nat.le_of_ble_eq_true rfl, Nat.le_of_ble_eq_true rfl⟩)) (fun r13 h14 => ?_)
  obtain rfl : r13 = σ.2.2.1 0 := h14
  refine lv_iload hx hb dL_refuses_741 (lv_at hl 2 rfl) ?_
  refine lv_icmp_ne (tgt := 750) hx hb dL_refuses_743 (by decide) (fun c15 => absurd rfl c15) (fun _ => ?_)
  refine lv_iconst (v := 1) hx hb dL_refuses_746 (by decide) ?_
  refine lv_goto (tgt := 751) hx hb dL_refuses_747 (by decide) ?_
  refine W.widen (k := 164) (n := 984) (Nat.le_of_ble_eq_true rfl) (Nat.le_of_ble_eq_true rfl) ?_
  exact W.zret (v := 1) (ty := .boolean) hx hb hr rfl (fun t ht hW9 => ⟨⟨_, (), rfl, rfl, by first | (rw [ht]; exact hW) | (dsimp only; rw [ht]; exact hW)⟩, hS.F ht⟩) hS.2.2 dL_refuses_751
set_option maxHeartbeats 4000000 in
set_option maxRecDepth 100000 in
theorem mtL_refuses (l : Launch) (g : Ge) (σ : Sg) (μ : Mg) (o : Nat → Int64) (hfl : l.stackTraces = false) (here gone : Int32) (en cl : Nat) (e1 : σ.2.2.1 3 = nI en) (e2 : σ.2.2.1 2 = nI cl) (e3 : en ≤ 12) (e4 : cl ≤ 12) (hR : RFb σ here gone = true) : Met l yL_refuses wsL_refuses ({ frames := 9, cells := 164, slots := 984, locals := 161 } : Room) (va_Pc [.ref (gA g 0), .int here, .int gone] (PW g σ μ o)) (va_Qi (S := Unit) (fun r _ => r = 1) (fun _ t => Wd g σ μ o t.heap) (Az g)) 164 984 (Az g) := by
  refine Met.ofW (cc := cL_refuses) (maxL := 15) (ret := (some .boolean)) (by decide) rfl ?_
  intro p e s m args below meth c s₁ B hml hv
  obtain ⟨rfl, hC, hW⟩ := hv
  have hS : va_S (Az g) s.heap s.heap [] := va_S.rf
  have hl := lv_entry ([.ref (gA g 0), .int here, .int gone]) (n := 15) (Nat.le_of_ble_eq_true rfl)
  rw [lg_entry_eq]
  generalize (lg_sl ([.ref (gA g 0), .int here, .int gone]) ++ List.replicate (15 - (lg_sl ([.ref (gA g 0), .int here, .int gone])).length) Slot.unset).toArray = ls at hl ⊢
  have C0 : rfC p l s m meth c g σ here gone en cl := ⟨⟨B.exec, B.bytes, B.returns, hml, atoms_spec (ws := wsL_refuses) B.pre, findClass_of_methodNamed B.named, B.notSynchronized⟩, hC, hfl, RFb_spec hR, e1, e2, e3, e4⟩
  have hL := (RFb_spec hR).2.2.2.2.2.2.2
  have K : rfG p l e s m below meth c g σ μ o here gone 0 [(0, .ref (gA g 0)), (1, .int here), (2, .int gone)] 0 0 := (rf_a C0 (rf_0 C0 (rf_0b C0 (rf_1 C0 (rf_1b C0 (rf_2 C0 (rf_2b C0 (rf_3 C0 (rf_3b C0 (rf_h C0 (hL.elim (fun q => rf_un C0 q) (fun q => rf_lk C0 (by rw [q]; decide)))))))))))))
  exact K s.heap [] ls hW hS hl
