/-! refuses: its surroundings, and from a pc on -/
def lmC (ws : List Cond) (cc : ByteArray) (rt : Option FieldType) (n : Nat) (p : Program) (s : State) (m : MethodId) (args : Array Value) (meth : Method) (c : Code) : Prop := p.tables.exec = Jvm.exec ∧ c.code = cc ∧ meth.sig.returnType = rt ∧ c.maxLocals = n ∧ (∀ w ∈ ws, w.before args s = true) ∧ s.vm.findClass RL = some m.cls ∧ meth.locks = false
def rfC (p : Program) (l : Launch) (s : State) (m : MethodId) (meth : Method) (c : Code) (g : Ge) (σ : Sg) (here gone : Int32) (en cl : Nat) : Prop := lmC wsL_refuses cL_refuses (some .boolean) 15 p s m ([.ref (gA g 0), .int here, .int gone] : List Value).toArray meth c ∧ cx g s s.heap ∧ l.stackTraces = false ∧ (no1 σ (-2) = true ∧ no1 σ (-1) = true ∧ no1 σ 2147483647 = true ∧ no1 σ (-2147483648) = true ∧ no1 σ gone = true ∧ no1 σ here = false ∧ ¬ gone = -1 ∧ (σ.2.2.1 0 = 0 ∨ σ.2.2.1 0 = 1)) ∧ σ.2.2.1 3 = nI en ∧ σ.2.2.1 2 = nI cl ∧ en ≤ 12 ∧ cl ≤ 12
def rfG (p : Program) (l : Launch) (e : Env) (s : State) (m : MethodId) (below : List Frame) (meth : Method) (c : Code) (g : Ge) (σ : Sg) (μ : Mg) (o : Nat → Int64) (here gone : Int32) (pc : Nat) (lv : List (Nat × Value)) (cells slots : Nat) : Prop :=
  ∀ (H : Heap) (locs : List Loc) (ls : Array Slot), Wd g σ μ o H → va_S (Az g) s.heap H locs → lv_has ls 15 lv →
    W p l e (headSpec wsL_refuses ({ frames := 9, cells := 164, slots := 984, locals := 161 } : Room)).room s m ([.ref (gA g 0), .int here, .int gone] : List Value).toArray below meth c H locs cells slots (MQ below (va_Qi (S := Unit) (fun r _ => r = 1) (fun _ t => Wd g σ μ o t.heap) (Az g)) ([.ref (gA g 0), .int here, .int gone] : List Value).toArray s 164 984 (Az g)) (F0 m pc ls [])
set_option maxHeartbeats 4000000 in
set_option maxRecDepth 100000 in
theorem rf_a {p : Program} {l : Launch} {e : Env} {s : State} {m : MethodId} {below : List Frame} {meth : Method} {c : Code} {g : Ge} {σ : Sg} {μ : Mg} {o : Nat → Int64} {here gone : Int32} {en cl : Nat} (C0 : rfC p l s m meth c g σ here gone en cl) (kk : rfG p l e s m below meth c g σ μ o here gone 30 [(8, .int 0), (7, .int 2147483647), (6, .int (σ.2.2.1 0)), (5, .int (σ.1 6)), (4, .int (nxR σ)), (3, .int (nI (ct (thr σ.2.1) 16))), (0, .ref (gA g 0)), (1, .int here), (2, .int gone)] 0 0) : rfG p l e s m below meth c g σ μ o here gone 0 [(0, .ref (gA g 0)), (1, .int here), (2, .int gone)] 0 0 := by
  obtain ⟨⟨hx, hb, hr, hml, hts, hown, hlocks⟩, hC, hfl, ⟨n2, n1, nM, nm, ng, hh, g1, hL⟩, e1, e2, e3, e4⟩ := C0
  have hk0 : narrow .boolean (.int (σ.2.2.1 0)) = .int (σ.2.2.1 0) := by rcases hL with q | q <;> rw [q] <;> rfl
  intro H locs ls hW hS hl
  have hl : lv_has ls 15 [(0, .ref (gA g 0)), (1, .int here), (2, .int gone)] := hl
  refine lv_aload_n hx hb dL_refuses_0 rfl (lv_at hl 0 rfl) ?_
  refine vp_callSi (va_Run.run (va_runV (As := []) (rest := []) ⟨hx, hb, hml, hown, hts⟩ (mtX2_entries l g σ μ o ) (cwV 0 hts gL_refuses_X2_entries rfl rfl rfl (by decide +kernel) ⟨Nat.le_of_ble_eq_true rfl, Nat.le_of_ble_eq_true rfl⟩) ⟨PW.blind, rcB hC hW, fun U hU hW9 => ⟨rfl, PW.at hC hS hW U hU hW9⟩⟩ rfl rfl hl.1 rfl (lv_room (Nat.le_of_ble_eq_true rfl)) dL_refuses_1 ⟨Nat.le_of_ble_eq_true rfl, Nat.le_of_ble_eq_true rfl⟩)) (fun r1 h2 => ?_)
  obtain rfl : r1 = nI (ct (thr σ.2.1) 16) := h2
  refine lv_istore_n (lv' := [(3, .int (nI (ct (thr σ.2.1) 16))), (0, .ref (gA g 0)), (1, .int here), (2, .int gone)]) hx hb dL_refuses_4 rfl hl (by decide) rfl (fun ls hl => ?_)
  refine lv_aload_n hx hb dL_refuses_5 rfl (lv_at hl 1 rfl) ?_
  refine vp_callSi (va_Run.run (va_runV (As := []) (rest := []) ⟨hx, hb, hml, hown, hts⟩ (mtX2_next l g σ μ o ) (cwV 0 hts gL_refuses_X2_next rfl rfl rfl (by decide +kernel) ⟨Nat.le_of_ble_eq_true rfl, Nat.le_of_ble_eq_true rfl⟩) ⟨PW.blind, rcB hC hW, fun U hU hW9 => ⟨rfl, PW.at hC hS hW U hU hW9⟩⟩ rfl rfl hl.1 rfl (lv_room (Nat.le_of_ble_eq_true rfl)) dL_refuses_6 ⟨Nat.le_of_ble_eq_true rfl, Nat.le_of_ble_eq_true rfl⟩)) (fun r3 h4 => ?_)
  obtain rfl : r3 = nxR σ := h4
  refine lv_istore (lv' := [(4, .int (nxR σ)), (3, .int (nI (ct (thr σ.2.1) 16))), (0, .ref (gA g 0)), (1, .int here), (2, .int gone)]) hx hb dL_refuses_9 hl (by decide) rfl (fun ls hl => ?_)
  refine lv_aload_n hx hb dL_refuses_11 rfl (lv_at hl 2 rfl) ?_
  refine vp_callSi (va_Run.run (va_runV (As := []) (rest := []) ⟨hx, hb, hml, hown, hts⟩ (mtX2_register l g σ μ o ) (cwV 0 hts gL_refuses_X2_register rfl rfl rfl (by decide +kernel) ⟨Nat.le_of_ble_eq_true rfl, Nat.le_of_ble_eq_true rfl⟩) ⟨PW.blind, rcB hC hW, fun U hU hW9 => ⟨rfl, PW.at hC hS hW U hU hW9⟩⟩ rfl rfl hl.1 rfl (lv_room (Nat.le_of_ble_eq_true rfl)) dL_refuses_12 ⟨Nat.le_of_ble_eq_true rfl, Nat.le_of_ble_eq_true rfl⟩)) (fun r5 h6 => ?_)
  obtain rfl : r5 = σ.1 6 := h6
  refine lv_istore (lv' := [(5, .int (σ.1 6)), (4, .int (nxR σ)), (3, .int (nI (ct (thr σ.2.1) 16))), (0, .ref (gA g 0)), (1, .int here), (2, .int gone)]) hx hb dL_refuses_15 hl (by decide) rfl (fun ls hl => ?_)
  refine lv_aload_n hx hb dL_refuses_17 rfl (lv_at hl 3 rfl) ?_
  refine vp_callSi (va_Run.run (va_runV (As := []) (rest := []) ⟨hx, hb, hml, hown, hts⟩ (mtX2_isLocked l g σ μ o hk0) (cwV 0 hts gL_refuses_X2_isLocked rfl rfl rfl (by decide +kernel) ⟨Nat.le_of_ble_eq_true rfl, Nat.le_of_ble_eq_true rfl⟩) ⟨PW.blind, rcB hC hW, fun U hU hW9 => ⟨rfl, PW.at hC hS hW U hU hW9⟩⟩ rfl rfl hl.1 rfl (lv_room (Nat.le_of_ble_eq_true rfl)) dL_refuses_18 ⟨Nat.le_of_ble_eq_true rfl, Nat.le_of_ble_eq_true rfl⟩)) (fun r7 h8 => ?_)
  obtain rfl : r7 = σ.2.2.1 0 := h8
  refine lv_istore (lv' := [(6, .int (σ.2.2.1 0)), (5, .int (σ.1 6)), (4, .int (nxR σ)), (3, .int (nI (ct (thr σ.2.1) 16))), (0, .ref (gA g 0)), (1, .int here), (2, .int gone)]) hx hb dL_refuses_21 hl (by decide) rfl (fun ls hl => ?_)
  refine lv_ldc (v := 2147483647) hx hb hown (hts (.constant RL 79 (2147483647)) (by decide +kernel)) dL_refuses_23 ?_
  refine lv_istore (lv' := [(7, .int 2147483647), (6, .int (σ.2.2.1 0)), (5, .int (σ.1 6)), (4, .int (nxR σ)), (3, .int (nI (ct (thr σ.2.1) 16))), (0, .ref (gA g 0)), (1, .int here), (2, .int gone)]) hx hb dL_refuses_25 hl (by decide) rfl (fun ls hl => ?_)
  refine lv_iconst (v := 0) hx hb dL_refuses_27 (by decide) ?_
  refine lv_istore (lv' := [(8, .int 0), (7, .int 2147483647), (6, .int (σ.2.2.1 0)), (5, .int (σ.1 6)), (4, .int (nxR σ)), (3, .int (nI (ct (thr σ.2.1) 16))), (0, .ref (gA g 0)), (1, .int here), (2, .int gone)]) hx hb dL_refuses_28 hl (by decide) rfl (fun ls hl => ?_)
  exact kk H locs ls hW hS (by exact lv_sub hl [0, 1, 2, 3, 4, 5, 6, 7, 8] rfl)

set_option maxHeartbeats 4000000 in
set_option maxRecDepth 100000 in
theorem rf_0 {p : Program} {l : Launch} {e : Env} {s : State} {m : MethodId} {below : List Frame} {meth : Method} {c : Code} {g : Ge} {σ : Sg} {μ : Mg} {o : Nat → Int64} {here gone : Int32} {en cl : Nat} (C0 : rfC p l s m meth c g σ here gone en cl) (kk : rfG p l e s m below meth c g σ μ o here gone 407 [(13, .int 1), (12, .int (-1)), (11, .int (-1)), (10, .int (-1)), (9, .int (-2)), (8, .int 0), (7, .int 2147483647), (6, .int (σ.2.2.1 0)), (5, .int (σ.1 6)), (4, .int (nxR σ)), (3, .int (nI (ct (thr σ.2.1) 16))), (0, .ref (gA g 0)), (1, .int here), (2, .int gone)] 22 132) : rfG p l e s m below meth c g σ μ o here gone 30 [(8, .int 0), (7, .int 2147483647), (6, .int (σ.2.2.1 0)), (5, .int (σ.1 6)), (4, .int (nxR σ)), (3, .int (nI (ct (thr σ.2.1) 16))), (0, .ref (gA g 0)), (1, .int here), (2, .int gone)] 0 0 := by
  obtain ⟨⟨hx, hb, hr, hml, hts, hown, hlocks⟩, hC, hfl, ⟨n2, n1, nM, nm, ng, hh, g1, hL⟩, e1, e2, e3, e4⟩ := C0
  have hk0 : narrow .boolean (.int (σ.2.2.1 0)) = .int (σ.2.2.1 0) := by rcases hL with q | q <;> rw [q] <;> rfl
  intro H locs ls hW hS hl
  have hl : lv_has ls 15 [(8, .int 0), (7, .int 2147483647), (6, .int (σ.2.2.1 0)), (5, .int (σ.1 6)), (4, .int (nxR σ)), (3, .int (nI (ct (thr σ.2.1) 16))), (0, .ref (gA g 0)), (1, .int here), (2, .int gone)] := hl
  refine lv_iload hx hb dL_refuses_30 (lv_at hl 0 rfl) ?_
  refine lv_iconst (v := 4) hx hb dL_refuses_32 (by decide) ?_
  refine lv_icmp_ge (tgt := 613) hx hb dL_refuses_33 (by decide) (fun c1 => absurd c1 (by decide)) (fun _ => ?_)
  refine lv_iload hx hb dL_refuses_36 (lv_at hl 0 rfl) ?_
  refine lv_if_ne (tgt := 46) hx hb dL_refuses_38 (by decide) (fun c2 => absurd c2 (by decide)) (fun _ => ?_)
  refine lv_bipush (v := (-2)) hx hb dL_refuses_41 (by decide) ?_
  refine lv_goto (tgt := 72) hx hb dL_refuses_43 (by decide) ?_
  refine lv_istore (lv' := [(9, .int (-2)), (8, .int 0), (7, .int 2147483647), (6, .int (σ.2.2.1 0)), (5, .int (σ.1 6)), (4, .int (nxR σ)), (3, .int (nI (ct (thr σ.2.1) 16))), (0, .ref (gA g 0)), (1, .int here), (2, .int gone)]) hx hb dL_refuses_72 hl (by decide) rfl (fun ls hl => ?_)
  refine lv_iload hx hb dL_refuses_74 (lv_at hl 1 rfl) ?_
  refine lv_iconst (v := 2) hx hb dL_refuses_76 (by decide) ?_
  refine lv_icmp_ge (tgt := 84) hx hb dL_refuses_77 (by decide) (fun c3 => absurd c3 (by decide)) (fun _ => ?_)
  refine lv_iconst (v := (-1)) hx hb dL_refuses_80 (by decide) ?_
  refine lv_goto (tgt := 86) hx hb dL_refuses_81 (by decide) ?_
  refine lv_istore (lv' := [(10, .int (-1)), (9, .int (-2)), (8, .int 0), (7, .int 2147483647), (6, .int (σ.2.2.1 0)), (5, .int (σ.1 6)), (4, .int (nxR σ)), (3, .int (nI (ct (thr σ.2.1) 16))), (0, .ref (gA g 0)), (1, .int here), (2, .int gone)]) hx hb dL_refuses_86 hl (by decide) rfl (fun ls hl => ?_)
  refine lv_iload hx hb dL_refuses_88 (lv_at hl 2 rfl) ?_
  refine lv_if_ne (tgt := 97) hx hb dL_refuses_90 (by decide) (fun c4 => absurd c4 (by decide)) (fun _ => ?_)
  refine lv_iconst (v := (-1)) hx hb dL_refuses_93 (by decide) ?_
  refine lv_goto (tgt := 110) hx hb dL_refuses_94 (by decide) ?_
  refine lv_istore (lv' := [(11, .int (-1)), (10, .int (-1)), (9, .int (-2)), (8, .int 0), (7, .int 2147483647), (6, .int (σ.2.2.1 0)), (5, .int (σ.1 6)), (4, .int (nxR σ)), (3, .int (nI (ct (thr σ.2.1) 16))), (0, .ref (gA g 0)), (1, .int here), (2, .int gone)]) hx hb dL_refuses_110 hl (by decide) rfl (fun ls hl => ?_)
  refine lv_iload hx hb dL_refuses_112 (lv_at hl 3 rfl) ?_
  refine lv_if_ne (tgt := 121) hx hb dL_refuses_114 (by decide) (fun c5 => absurd c5 (by decide)) (fun _ => ?_)
  refine lv_iconst (v := (-1)) hx hb dL_refuses_117 (by decide) ?_
  refine lv_goto (tgt := 133) hx hb dL_refuses_118 (by decide) ?_
  refine lv_istore (lv' := [(12, .int (-1)), (11, .int (-1)), (10, .int (-1)), (9, .int (-2)), (8, .int 0), (7, .int 2147483647), (6, .int (σ.2.2.1 0)), (5, .int (σ.1 6)), (4, .int (nxR σ)), (3, .int (nI (ct (thr σ.2.1) 16))), (0, .ref (gA g 0)), (1, .int here), (2, .int gone)]) hx hb dL_refuses_133 hl (by decide) rfl (fun ls hl => ?_)
  refine lv_aload_n hx hb dL_refuses_135 rfl (lv_at hl 10 rfl) ?_
  refine lv_iload hx hb dL_refuses_136 (lv_at hl 0 rfl) ?_
  refine lv_iconst (v := 5) hx hb dL_refuses_138 (by decide) ?_
  refine lv_iconst (v := 5) hx hb dL_refuses_139 (by decide) ?_
  refine lv_iconst (v := 0) hx hb dL_refuses_140 (by decide) ?_
  refine lv_iconst (v := 0) hx hb dL_refuses_141 (by decide) ?_
  refine va_calli (vx_runSW (As := [.ref (gA g 0), .int (-1), .int 5, .int 5, .int 0, .int 0]) (rest := []) ⟨hx, hb, hml, hown, hts⟩ (mtL_addR l g σ μ o hfl (-1) 5 5 0 0 1 (-72) (kAdd_1 (by decide)) (by decide)) (vx_cwSW 6 hts gL_refuses_L_add rfl rfl rfl (by decide +kernel) ⟨Nat.le_of_ble_eq_true rfl, Nat.le_of_ble_eq_true rfl⟩) ⟨PW.blind, fun U hU hW9 => ⟨rfl, PW.at hC hS hW U hU hW9⟩⟩ rfl rfl hl.1 rfl (lv_room (Nat.le_of_ble_eq_true rfl)) dL_refuses_142 ⟨Nat.le_of_ble_eq_true rfl, Nat.le_of_ble_eq_true rfl⟩) hS (fun _ _ h => h) (fun _ h => h) (fun r u t H locs ht hvm hq hW hz9 hk9 hS => ?_)
  obtain rfl : r = (-72) := hq
  replace hW : Wd g σ μ o H := by rw [← ht]; exact hW
  refine lv_bipush (v := (-72)) hx hb dL_refuses_145 (by decide) ?_
  refine lv_icmp_ne (tgt := 404) hx hb dL_refuses_147 (by decide) (fun c6 => absurd c6 (by decide)) (fun _ => ?_)
  refine lv_aload_n hx hb dL_refuses_150 rfl (lv_at hl 10 rfl) ?_
  refine lv_iconst (v := 0) hx hb dL_refuses_151 (by decide) ?_
  refine lv_iload hx hb dL_refuses_152 (lv_at hl 1 rfl) ?_
  refine lv_iconst (v := 5) hx hb dL_refuses_154 (by decide) ?_
  refine lv_iconst (v := 0) hx hb dL_refuses_155 (by decide) ?_
  refine lv_iconst (v := 0) hx hb dL_refuses_156 (by decide) ?_
  refine va_calli (vx_runSW (As := [.ref (gA g 0), .int 0, .int (-1), .int 5, .int 0, .int 0]) (rest := []) ⟨hx, hb, hml, hown, hts⟩ (mtL_addR l g σ μ o hfl 0 (-1) 5 0 0 1 (-72) (kAdd_1 (by decide)) (by decide)) (vx_cwSW 6 hts gL_refuses_L_add rfl rfl rfl (by decide +kernel) ⟨Nat.le_of_ble_eq_true rfl, Nat.le_of_ble_eq_true rfl⟩) ⟨PW.blind, fun U hU hW9 => ⟨rfl, PW.at hC hS hW U hU hW9⟩⟩ rfl rfl hl.1 rfl (lv_room (Nat.le_of_ble_eq_true rfl)) dL_refuses_157 ⟨Nat.le_of_ble_eq_true rfl, Nat.le_of_ble_eq_true rfl⟩) hS (fun _ _ h => h) (fun _ h => h) (fun r u t H locs ht hvm hq hW hz9 hk9 hS => ?_)
  obtain rfl : r = (-72) := hq
  replace hW : Wd g σ μ o H := by rw [← ht]; exact hW
  refine lv_bipush (v := (-72)) hx hb dL_refuses_160 (by decide) ?_
  refine lv_icmp_ne (tgt := 404) hx hb dL_refuses_162 (by decide) (fun c7 => absurd c7 (by decide)) (fun _ => ?_)
  refine lv_aload_n hx hb dL_refuses_165 rfl (lv_at hl 10 rfl) ?_
  refine lv_iconst (v := 0) hx hb dL_refuses_166 (by decide) ?_
  refine lv_iconst (v := 5) hx hb dL_refuses_167 (by decide) ?_
  refine lv_iload hx hb dL_refuses_168 (lv_at hl 4 rfl) ?_
  refine lv_if_ne (tgt := 177) hx hb dL_refuses_170 (by decide) (fun c8 => absurd c8 (by decide)) (fun _ => ?_)
  refine lv_iconst (v := (-1)) hx hb dL_refuses_173 (by decide) ?_
  refine lv_goto (tgt := 191) hx hb dL_refuses_174 (by decide) ?_
  refine lv_iconst (v := 0) hx hb dL_refuses_191 (by decide) ?_
  refine lv_iconst (v := 0) hx hb dL_refuses_192 (by decide) ?_
  refine va_calli (vx_runSW (As := [.ref (gA g 0), .int 0, .int 5, .int (-1), .int 0, .int 0]) (rest := []) ⟨hx, hb, hml, hown, hts⟩ (mtL_addR l g σ μ o hfl 0 5 (-1) 0 0 1 (-72) (kAdd_1 (by decide)) (by decide)) (vx_cwSW 6 hts gL_refuses_L_add rfl rfl rfl (by decide +kernel) ⟨Nat.le_of_ble_eq_true rfl, Nat.le_of_ble_eq_true rfl⟩) ⟨PW.blind, fun U hU hW9 => ⟨rfl, PW.at hC hS hW U hU hW9⟩⟩ rfl rfl hl.1 rfl (lv_room (Nat.le_of_ble_eq_true rfl)) dL_refuses_193 ⟨Nat.le_of_ble_eq_true rfl, Nat.le_of_ble_eq_true rfl⟩) hS (fun _ _ h => h) (fun _ h => h) (fun r u t H locs ht hvm hq hW hz9 hk9 hS => ?_)
  obtain rfl : r = (-72) := hq
  replace hW : Wd g σ μ o H := by rw [← ht]; exact hW
  refine lv_bipush (v := (-72)) hx hb dL_refuses_196 (by decide) ?_
  refine lv_icmp_ne (tgt := 404) hx hb dL_refuses_198 (by decide) (fun c9 => absurd c9 (by decide)) (fun _ => ?_)
  refine lv_aload_n hx hb dL_refuses_201 rfl (lv_at hl 10 rfl) ?_
  refine lv_iconst (v := 0) hx hb dL_refuses_202 (by decide) ?_
  refine lv_iconst (v := 5) hx hb dL_refuses_203 (by decide) ?_
  refine lv_iconst (v := 5) hx hb dL_refuses_204 (by decide) ?_
  refine lv_iload hx hb dL_refuses_205 (lv_at hl 0 rfl) ?_
  refine lv_iconst (v := 0) hx hb dL_refuses_207 (by decide) ?_
  refine va_calli (vx_runSW (As := [.ref (gA g 0), .int 0, .int 5, .int 5, .int (-1), .int 0]) (rest := []) ⟨hx, hb, hml, hown, hts⟩ (mtL_addR l g σ μ o hfl 0 5 5 (-1) 0 1 (-72) (kAdd_1 (by decide)) (by decide)) (vx_cwSW 6 hts gL_refuses_L_add rfl rfl rfl (by decide +kernel) ⟨Nat.le_of_ble_eq_true rfl, Nat.le_of_ble_eq_true rfl⟩) ⟨PW.blind, fun U hU hW9 => ⟨rfl, PW.at hC hS hW U hU hW9⟩⟩ rfl rfl hl.1 rfl (lv_room (Nat.le_of_ble_eq_true rfl)) dL_refuses_208 ⟨Nat.le_of_ble_eq_true rfl, Nat.le_of_ble_eq_true rfl⟩) hS (fun _ _ h => h) (fun _ h => h) (fun r u t H locs ht hvm hq hW hz9 hk9 hS => ?_)
  obtain rfl : r = (-72) := hq
  replace hW : Wd g σ μ o H := by rw [← ht]; exact hW
  refine lv_bipush (v := (-72)) hx hb dL_refuses_211 (by decide) ?_
  refine lv_icmp_ne (tgt := 404) hx hb dL_refuses_213 (by decide) (fun c10 => absurd c10 (by decide)) (fun _ => ?_)
  refine lv_aload_n hx hb dL_refuses_216 rfl (lv_at hl 10 rfl) ?_
  refine lv_iconst (v := 0) hx hb dL_refuses_217 (by decide) ?_
  refine lv_iconst (v := 5) hx hb dL_refuses_218 (by decide) ?_
  refine lv_iconst (v := 5) hx hb dL_refuses_219 (by decide) ?_
  refine lv_iconst (v := 0) hx hb dL_refuses_220 (by decide) ?_
  refine lv_iload hx hb dL_refuses_221 (lv_at hl 4 rfl) ?_
  refine lv_if_ne (tgt := 231) hx hb dL_refuses_223 (by decide) (fun c11 => absurd c11 (by decide)) (fun _ => ?_)
  refine lv_bipush (v := (-2)) hx hb dL_refuses_226 (by decide) ?_
  refine lv_goto (tgt := 244) hx hb dL_refuses_228 (by decide) ?_
  refine va_calli (vx_runSW (As := [.ref (gA g 0), .int 0, .int 5, .int 5, .int 0, .int (-2)]) (rest := []) ⟨hx, hb, hml, hown, hts⟩ (mtL_addR l g σ μ o hfl 0 5 5 0 (-2) 1 (-72) (kAdd_1 (by decide)) (by decide)) (vx_cwSW 6 hts gL_refuses_L_add rfl rfl rfl (by decide +kernel) ⟨Nat.le_of_ble_eq_true rfl, Nat.le_of_ble_eq_true rfl⟩) ⟨PW.blind, fun U hU hW9 => ⟨rfl, PW.at hC hS hW U hU hW9⟩⟩ rfl rfl hl.1 rfl (lv_room (Nat.le_of_ble_eq_true rfl)) dL_refuses_244 ⟨Nat.le_of_ble_eq_true rfl, Nat.le_of_ble_eq_true rfl⟩) hS (fun _ _ h => h) (fun _ h => h) (fun r u t H locs ht hvm hq hW hz9 hk9 hS => ?_)
  obtain rfl : r = (-72) := hq
  replace hW : Wd g σ μ o H := by rw [← ht]; exact hW
  refine lv_bipush (v := (-72)) hx hb dL_refuses_247 (by decide) ?_
  refine lv_icmp_ne (tgt := 404) hx hb dL_refuses_249 (by decide) (fun c12 => absurd c12 (by decide)) (fun _ => ?_)
  refine lv_aload_n hx hb dL_refuses_252 rfl (lv_at hl 10 rfl) ?_
  refine lv_iconst (v := 1) hx hb dL_refuses_253 (by decide) ?_
  refine lv_iload hx hb dL_refuses_254 (lv_at hl 3 rfl) ?_
  refine lv_iconst (v := (-1)) hx hb dL_refuses_256 (by decide) ?_
  refine va_calli (vx_runSW (As := [.ref (gA g 0), .int 1, .int (-2), .int (-1)]) (rest := []) ⟨hx, hb, hml, hown, hts⟩ (mtL_act_1 l g σ μ o hfl (-2) (-1) 1 (-71) (kEd_1 n2) (by decide)) (vx_cwSW 4 hts gL_refuses_L_act rfl rfl rfl (by decide +kernel) ⟨Nat.le_of_ble_eq_true rfl, Nat.le_of_ble_eq_true rfl⟩) ⟨PW.blind, fun U hU hW9 => ⟨rfl, PW.at hC hS hW U hU hW9⟩⟩ rfl rfl hl.1 rfl (lv_room (Nat.le_of_ble_eq_true rfl)) dL_refuses_257 ⟨Nat.le_of_ble_eq_true rfl, Nat.le_of_ble_eq_true rfl⟩) hS (fun _ _ h => h) (fun _ h => h) (fun r u t H locs ht hvm hq hW hz9 hk9 hS => ?_)
  obtain rfl : r = (-71) := hq
  replace hW : Wd g σ μ o H := by rw [← ht]; exact hW
  refine lv_bipush (v := (-71)) hx hb dL_refuses_260 (by decide) ?_
  refine lv_icmp_ne (tgt := 404) hx hb dL_refuses_262 (by decide) (fun c13 => absurd c13 (by decide)) (fun _ => ?_)
  refine lv_aload_n hx hb dL_refuses_265 rfl (lv_at hl 10 rfl) ?_
  refine lv_iconst (v := 1) hx hb dL_refuses_266 (by decide) ?_
  refine lv_iload_n hx hb dL_refuses_267 rfl (lv_at hl 11 rfl) ?_
  refine lv_iload hx hb dL_refuses_268 (lv_at hl 1 rfl) ?_
  refine va_calli (vx_runSW (As := [.ref (gA g 0), .int 1, .int here, .int (-1)]) (rest := []) ⟨hx, hb, hml, hown, hts⟩ (mtL_act_1 l g σ μ o hfl here (-1) 2 (-72) (kEd_2 hh (by decide)) (by decide)) (vx_cwSW 4 hts gL_refuses_L_act rfl rfl rfl (by decide +kernel) ⟨Nat.le_of_ble_eq_true rfl, Nat.le_of_ble_eq_true rfl⟩) ⟨PW.blind, fun U hU hW9 => ⟨rfl, PW.at hC hS hW U hU hW9⟩⟩ rfl rfl hl.1 rfl (lv_room (Nat.le_of_ble_eq_true rfl)) dL_refuses_270 ⟨Nat.le_of_ble_eq_true rfl, Nat.le_of_ble_eq_true rfl⟩) hS (fun _ _ h => h) (fun _ h => h) (fun r u t H locs ht hvm hq hW hz9 hk9 hS => ?_)
  obtain rfl : r = (-72) := hq
  replace hW : Wd g σ μ o H := by rw [← ht]; exact hW
  refine lv_bipush (v := (-72)) hx hb dL_refuses_273 (by decide) ?_
  refine lv_icmp_ne (tgt := 404) hx hb dL_refuses_275 (by decide) (fun c14 => absurd c14 (by decide)) (fun _ => ?_)
  refine lv_aload_n hx hb dL_refuses_278 rfl (lv_at hl 10 rfl) ?_
  refine lv_iconst (v := 4) hx hb dL_refuses_279 (by decide) ?_
  refine lv_iload hx hb dL_refuses_280 (lv_at hl 1 rfl) ?_
  refine lv_bipush (v := 99) hx hb dL_refuses_282 (by decide) ?_
  refine va_calli (vx_runSW (As := [.ref (gA g 0), .int 4, .int (-1), .int 99]) (rest := []) ⟨hx, hb, hml, hown, hts⟩ (mtL_act_4 l g σ μ o hfl (-1) 99 1 (-72) (kPa_1 (by decide)) (by decide)) (vx_cwSW 4 hts gL_refuses_L_act rfl rfl rfl (by decide +kernel) ⟨Nat.le_of_ble_eq_true rfl, Nat.le_of_ble_eq_true rfl⟩) ⟨PW.blind, fun U hU hW9 => ⟨rfl, PW.at hC hS hW U hU hW9⟩⟩ rfl rfl hl.1 rfl (lv_room (Nat.le_of_ble_eq_true rfl)) dL_refuses_284 ⟨Nat.le_of_ble_eq_true rfl, Nat.le_of_ble_eq_true rfl⟩) hS (fun _ _ h => h) (fun _ h => h) (fun r u t H locs ht hvm hq hW hz9 hk9 hS => ?_)
  obtain rfl : r = (-72) := hq
  replace hW : Wd g σ μ o H := by rw [← ht]; exact hW
  refine lv_bipush (v := (-72)) hx hb dL_refuses_287 (by decide) ?_
  refine lv_icmp_ne (tgt := 404) hx hb dL_refuses_289 (by decide) (fun c15 => absurd c15 (by decide)) (fun _ => ?_)
  refine lv_aload_n hx hb dL_refuses_292 rfl (lv_at hl 10 rfl) ?_
  refine lv_iconst (v := 4) hx hb dL_refuses_293 (by decide) ?_
  refine lv_iconst (v := 5) hx hb dL_refuses_294 (by decide) ?_
  refine lv_iload hx hb dL_refuses_295 (lv_at hl 4 rfl) ?_
  refine lv_if_ne (tgt := 304) hx hb dL_refuses_297 (by decide) (fun c16 => absurd c16 (by decide)) (fun _ => ?_)
  refine lv_iconst (v := 4) hx hb dL_refuses_300 (by decide) ?_
  refine lv_goto (tgt := 306) hx hb dL_refuses_301 (by decide) ?_
  refine va_calli (vx_runSW (As := [.ref (gA g 0), .int 4, .int 5, .int 4]) (rest := []) ⟨hx, hb, hml, hown, hts⟩ (mtL_act_4 l g σ μ o hfl 5 4 1 (-72) (kPa_1 (by decide)) (by decide)) (vx_cwSW 4 hts gL_refuses_L_act rfl rfl rfl (by decide +kernel) ⟨Nat.le_of_ble_eq_true rfl, Nat.le_of_ble_eq_true rfl⟩) ⟨PW.blind, fun U hU hW9 => ⟨rfl, PW.at hC hS hW U hU hW9⟩⟩ rfl rfl hl.1 rfl (lv_room (Nat.le_of_ble_eq_true rfl)) dL_refuses_306 ⟨Nat.le_of_ble_eq_true rfl, Nat.le_of_ble_eq_true rfl⟩) hS (fun _ _ h => h) (fun _ h => h) (fun r u t H locs ht hvm hq hW hz9 hk9 hS => ?_)
  obtain rfl : r = (-72) := hq
  replace hW : Wd g σ μ o H := by rw [← ht]; exact hW
  refine lv_bipush (v := (-72)) hx hb dL_refuses_309 (by decide) ?_
  refine lv_icmp_ne (tgt := 404) hx hb dL_refuses_311 (by decide) (fun c17 => absurd c17 (by decide)) (fun _ => ?_)
  refine lv_aload_n hx hb dL_refuses_314 rfl (lv_at hl 10 rfl) ?_
  refine lv_bipush (v := 7) hx hb dL_refuses_315 (by decide) ?_
  refine lv_iload hx hb dL_refuses_317 (lv_at hl 4 rfl) ?_
  refine lv_if_ne (tgt := 326) hx hb dL_refuses_319 (by decide) (fun c18 => absurd c18 (by decide)) (fun _ => ?_)
  refine lv_iconst (v := (-1)) hx hb dL_refuses_322 (by decide) ?_
  refine lv_goto (tgt := 339) hx hb dL_refuses_323 (by decide) ?_
  refine lv_iconst (v := 0) hx hb dL_refuses_339 (by decide) ?_
  refine va_calli (vx_runSW (As := [.ref (gA g 0), .int 7, .int (-1), .int 0]) (rest := []) ⟨hx, hb, hml, hown, hts⟩ (mtL_act_7 l g σ μ o hfl (-1) 0 en cl e1 e2 e3 e4 1 (-72) (kEn_1 (by decide)) (by decide)) (vx_cwSW 4 hts gL_refuses_L_act rfl rfl rfl (by decide +kernel) ⟨Nat.le_of_ble_eq_true rfl, Nat.le_of_ble_eq_true rfl⟩) ⟨PW.blind, fun U hU hW9 => ⟨rfl, PW.at hC hS hW U hU hW9⟩⟩ rfl rfl hl.1 rfl (lv_room (Nat.le_of_ble_eq_true rfl)) dL_refuses_340 ⟨Nat.le_of_ble_eq_true rfl, Nat.le_of_ble_eq_true rfl⟩) hS (fun _ _ h => h) (fun _ h => h) (fun r u t H locs ht hvm hq hW hz9 hk9 hS => ?_)
  obtain rfl : r = (-72) := hq
  replace hW : Wd g σ μ o H := by rw [← ht]; exact hW
  refine lv_bipush (v := (-72)) hx hb dL_refuses_343 (by decide) ?_
  refine lv_icmp_ne (tgt := 404) hx hb dL_refuses_345 (by decide) (fun c19 => absurd c19 (by decide)) (fun _ => ?_)
  refine lv_aload_n hx hb dL_refuses_348 rfl (lv_at hl 10 rfl) ?_
  refine lv_bipush (v := 8) hx hb dL_refuses_349 (by decide) ?_
  refine lv_iload hx hb dL_refuses_351 (lv_at hl 4 rfl) ?_
  refine lv_iconst (v := 1) hx hb dL_refuses_353 (by decide) ?_
  refine lv_icmp_ne (tgt := 361) hx hb dL_refuses_354 (by decide) (fun _ => ?_) (fun c20 => absurd c20 (by decide))
  refine lv_iload hx hb dL_refuses_361 (lv_at hl 3 rfl) ?_
  refine lv_iconst (v := 0) hx hb dL_refuses_363 (by decide) ?_
  refine va_calli (vx_runSW (As := [.ref (gA g 0), .int 8, .int (-2), .int 0]) (rest := []) ⟨hx, hb, hml, hown, hts⟩ (mtL_act_8 l g σ μ o hfl (-2) 0 1 (-71) (kAt_out (by decide)) (by decide)) (vx_cwSW 4 hts gL_refuses_L_act rfl rfl rfl (by decide +kernel) ⟨Nat.le_of_ble_eq_true rfl, Nat.le_of_ble_eq_true rfl⟩) ⟨PW.blind, fun U hU hW9 => ⟨rfl, PW.at hC hS hW U hU hW9⟩⟩ rfl rfl hl.1 rfl (lv_room (Nat.le_of_ble_eq_true rfl)) dL_refuses_364 ⟨Nat.le_of_ble_eq_true rfl, Nat.le_of_ble_eq_true rfl⟩) hS (fun _ _ h => h) (fun _ h => h) (fun r u t H locs ht hvm hq hW hz9 hk9 hS => ?_)
  obtain rfl : r = (-71) := hq
  replace hW : Wd g σ μ o H := by rw [← ht]; exact hW
  refine lv_bipush (v := (-71)) hx hb dL_refuses_367 (by decide) ?_
  refine lv_icmp_ne (tgt := 404) hx hb dL_refuses_369 (by decide) (fun c21 => absurd c21 (by decide)) (fun _ => ?_)
  refine lv_aload_n hx hb dL_refuses_372 rfl (lv_at hl 10 rfl) ?_
  refine lv_bipush (v := 11) hx hb dL_refuses_373 (by decide) ?_
  refine lv_iload hx hb dL_refuses_375 (lv_at hl 3 rfl) ?_
  refine lv_iload_n hx hb dL_refuses_377 rfl (lv_at hl 11 rfl) ?_
  refine va_calli (vx_runSW (As := [.ref (gA g 0), .int 11, .int (-2), .int here]) (rest := []) ⟨hx, hb, hml, hown, hts⟩ (mtL_act_11 l g σ μ o hfl (-2) here 1 (-71) (kCm_a n2) (by decide)) (vx_cwSW 4 hts gL_refuses_L_act rfl rfl rfl (by decide +kernel) ⟨Nat.le_of_ble_eq_true rfl, Nat.le_of_ble_eq_true rfl⟩) ⟨PW.blind, fun U hU hW9 => ⟨rfl, PW.at hC hS hW U hU hW9⟩⟩ rfl rfl hl.1 rfl (lv_room (Nat.le_of_ble_eq_true rfl)) dL_refuses_378 ⟨Nat.le_of_ble_eq_true rfl, Nat.le_of_ble_eq_true rfl⟩) hS (fun _ _ h => h) (fun _ h => h) (fun r u t H locs ht hvm hq hW hz9 hk9 hS => ?_)
  obtain rfl : r = (-71) := hq
  replace hW : Wd g σ μ o H := by rw [← ht]; exact hW
  refine lv_bipush (v := (-71)) hx hb dL_refuses_381 (by decide) ?_
  refine lv_icmp_ne (tgt := 404) hx hb dL_refuses_383 (by decide) (fun c22 => absurd c22 (by decide)) (fun _ => ?_)
  refine lv_aload_n hx hb dL_refuses_386 rfl (lv_at hl 10 rfl) ?_
  refine lv_bipush (v := 11) hx hb dL_refuses_387 (by decide) ?_
  refine lv_iload_n hx hb dL_refuses_389 rfl (lv_at hl 11 rfl) ?_
  refine lv_iload hx hb dL_refuses_390 (lv_at hl 3 rfl) ?_
  refine va_calli (vx_runSW (As := [.ref (gA g 0), .int 11, .int here, .int (-2)]) (rest := []) ⟨hx, hb, hml, hown, hts⟩ (mtL_act_11 l g σ μ o hfl here (-2) 1 (-71) (kCm_b n2) (by decide)) (vx_cwSW 4 hts gL_refuses_L_act rfl rfl rfl (by decide +kernel) ⟨Nat.le_of_ble_eq_true rfl, Nat.le_of_ble_eq_true rfl⟩) ⟨PW.blind, fun U hU hW9 => ⟨rfl, PW.at hC hS hW U hU hW9⟩⟩ rfl rfl hl.1 rfl (lv_room (Nat.le_of_ble_eq_true rfl)) dL_refuses_392 ⟨Nat.le_of_ble_eq_true rfl, Nat.le_of_ble_eq_true rfl⟩) hS (fun _ _ h => h) (fun _ h => h) (fun r u t H locs ht hvm hq hW hz9 hk9 hS => ?_)
  obtain rfl : r = (-71) := hq
  replace hW : Wd g σ μ o H := by rw [← ht]; exact hW
  refine lv_bipush (v := (-71)) hx hb dL_refuses_395 (by decide) ?_
  refine lv_icmp_ne (tgt := 404) hx hb dL_refuses_397 (by decide) (fun c23 => absurd c23 (by decide)) (fun _ => ?_)
  refine lv_iconst (v := 1) hx hb dL_refuses_400 (by decide) ?_
  refine lv_goto (tgt := 405) hx hb dL_refuses_401 (by decide) ?_
  refine lv_istore (lv' := [(13, .int 1), (12, .int (-1)), (11, .int (-1)), (10, .int (-1)), (9, .int (-2)), (8, .int 0), (7, .int 2147483647), (6, .int (σ.2.2.1 0)), (5, .int (σ.1 6)), (4, .int (nxR σ)), (3, .int (nI (ct (thr σ.2.1) 16))), (0, .ref (gA g 0)), (1, .int here), (2, .int gone)]) hx hb dL_refuses_405 hl (by decide) rfl (fun ls hl => ?_)
  exact kk H locs ls hW hS (by exact lv_sub hl [0, 1, 2, 3, 4, 5, 6, 7, 8, 9, 10, 11, 12, 13] rfl)

set_option maxHeartbeats 4000000 in
set_option maxRecDepth 100000 in
theorem rf_0b {p : Program} {l : Launch} {e : Env} {s : State} {m : MethodId} {below : List Frame} {meth : Method} {c : Code} {g : Ge} {σ : Sg} {μ : Mg} {o : Nat → Int64} {here gone : Int32} {en cl : Nat} (C0 : rfC p l s m meth c g σ here gone en cl) (kk : rfG p l e s m below meth c g σ μ o here gone 30 [(8, .int 1), (7, .int 2147483647), (6, .int (σ.2.2.1 0)), (5, .int (σ.1 6)), (4, .int (nxR σ)), (3, .int (nI (ct (thr σ.2.1) 16))), (0, .ref (gA g 0)), (1, .int here), (2, .int gone)] 37 222) : rfG p l e s m below meth c g σ μ o here gone 407 [(13, .int 1), (12, .int (-1)), (11, .int (-1)), (10, .int (-1)), (9, .int (-2)), (8, .int 0), (7, .int 2147483647), (6, .int (σ.2.2.1 0)), (5, .int (σ.1 6)), (4, .int (nxR σ)), (3, .int (nI (ct (thr σ.2.1) 16))), (0, .ref (gA g 0)), (1, .int here), (2, .int gone)] 22 132 := by
  obtain ⟨⟨hx, hb, hr, hml, hts, hown, hlocks⟩, hC, hfl, ⟨n2, n1, nM, nm, ng, hh, g1, hL⟩, e1, e2, e3, e4⟩ := C0
  have hk0 : narrow .boolean (.int (σ.2.2.1 0)) = .int (σ.2.2.1 0) := by rcases hL with q | q <;> rw [q] <;> rfl
  intro H locs ls hW hS hl
  have hl : lv_has ls 15 [(13, .int 1), (12, .int (-1)), (11, .int (-1)), (10, .int (-1)), (9, .int (-2)), (8, .int 0), (7, .int 2147483647), (6, .int (σ.2.2.1 0)), (5, .int (σ.1 6)), (4, .int (nxR σ)), (3, .int (nI (ct (thr σ.2.1) 16))), (0, .ref (gA g 0)), (1, .int here), (2, .int gone)] := hl
  refine lv_iload hx hb dL_refuses_407 (lv_at hl 0 rfl) ?_
  refine lv_if_eq (tgt := 533) hx hb dL_refuses_409 (by decide) (fun c1 => absurd c1 (by decide)) (fun _ => ?_)
  refine lv_aload_n hx hb dL_refuses_412 rfl (lv_at hl 11 rfl) ?_
  refine lv_iconst (v := 5) hx hb dL_refuses_413 (by decide) ?_
  refine lv_iload hx hb dL_refuses_414 (lv_at hl 5 rfl) ?_
  refine lv_if_ne (tgt := 423) hx hb dL_refuses_416 (by decide) (fun c2 => absurd c2 (by decide)) (fun _ => ?_)
  refine lv_iconst (v := 0) hx hb dL_refuses_419 (by decide) ?_
  refine lv_goto (tgt := 436) hx hb dL_refuses_420 (by decide) ?_
  refine va_calli (vx_runSW (As := [.ref (gA g 0), .int 5, .int 0]) (rest := []) ⟨hx, hb, hml, hown, hts⟩ (mtL_lockR l g σ μ o hfl 5 0 1 (-72) (kLo_1 (by decide +kernel)) (by decide)) (vx_cwSW 3 hts gL_refuses_L_lock rfl rfl rfl (by decide +kernel) ⟨Nat.le_of_ble_eq_true rfl, Nat.le_of_ble_eq_true rfl⟩) ⟨PW.blind, fun U hU hW9 => ⟨rfl, PW.at hC hS hW U hU hW9⟩⟩ rfl rfl hl.1 rfl (lv_room (Nat.le_of_ble_eq_true rfl)) dL_refuses_436 ⟨Nat.le_of_ble_eq_true rfl, Nat.le_of_ble_eq_true rfl⟩) hS (fun _ _ h => h) (fun _ h => h) (fun r u t H locs ht hvm hq hW hz9 hk9 hS => ?_)
  obtain rfl : r = (-72) := hq
  replace hW : Wd g σ μ o H := by rw [← ht]; exact hW
  refine lv_bipush (v := (-72)) hx hb dL_refuses_439 (by decide) ?_
  refine lv_icmp_ne (tgt := 533) hx hb dL_refuses_441 (by decide) (fun c3 => absurd c3 (by decide)) (fun _ => ?_)
  refine lv_aload_n hx hb dL_refuses_444 rfl (lv_at hl 11 rfl) ?_
  refine lv_iload hx hb dL_refuses_445 (lv_at hl 5 rfl) ?_
  refine lv_if_ne (tgt := 454) hx hb dL_refuses_447 (by decide) (fun c4 => absurd c4 (by decide)) (fun _ => ?_)
  refine lv_iconst (v := (-1)) hx hb dL_refuses_450 (by decide) ?_
  refine lv_goto (tgt := 468) hx hb dL_refuses_451 (by decide) ?_
  refine lv_iconst (v := 3) hx hb dL_refuses_468 (by decide) ?_
  refine va_calli (vx_runSW (As := [.ref (gA g 0), .int (-1), .int 3]) (rest := []) ⟨hx, hb, hml, hown, hts⟩ (mtL_lockR l g σ μ o hfl (-1) 3 1 (-72) (kLo_1 (by decide +kernel)) (by decide)) (vx_cwSW 3 hts gL_refuses_L_lock rfl rfl rfl (by decide +kernel) ⟨Nat.le_of_ble_eq_true rfl, Nat.le_of_ble_eq_true rfl⟩) ⟨PW.blind, fun U hU hW9 => ⟨rfl, PW.at hC hS hW U hU hW9⟩⟩ rfl rfl hl.1 rfl (lv_room (Nat.le_of_ble_eq_true rfl)) dL_refuses_469 ⟨Nat.le_of_ble_eq_true rfl, Nat.le_of_ble_eq_true rfl⟩) hS (fun _ _ h => h) (fun _ h => h) (fun r u t H locs ht hvm hq hW hz9 hk9 hS => ?_)
  obtain rfl : r = (-72) := hq
  replace hW : Wd g σ μ o H := by rw [← ht]; exact hW
  refine lv_bipush (v := (-72)) hx hb dL_refuses_472 (by decide) ?_
  refine lv_icmp_ne (tgt := 533) hx hb dL_refuses_474 (by decide) (fun c5 => absurd c5 (by decide)) (fun _ => ?_)
  refine lv_aload_n hx hb dL_refuses_477 rfl (lv_at hl 11 rfl) ?_
  refine lv_iconst (v := 2) hx hb dL_refuses_478 (by decide) ?_
  refine lv_iload hx hb dL_refuses_479 (lv_at hl 4 rfl) ?_
  refine lv_iconst (v := 0) hx hb dL_refuses_481 (by decide) ?_
  refine va_calli (vx_runSW (As := [.ref (gA g 0), .int 2, .int (-2), .int 0]) (rest := []) ⟨hx, hb, hml, hown, hts⟩ (mtL_act_2 l g σ μ o hfl (-2) 0 1 (-71) (kCh_1 (okC_f n2 (by decide))) (by decide)) (vx_cwSW 4 hts gL_refuses_L_act rfl rfl rfl (by decide +kernel) ⟨Nat.le_of_ble_eq_true rfl, Nat.le_of_ble_eq_true rfl⟩) ⟨PW.blind, fun U hU hW9 => ⟨rfl, PW.at hC hS hW U hU hW9⟩⟩ rfl rfl hl.1 rfl (lv_room (Nat.le_of_ble_eq_true rfl)) dL_refuses_482 ⟨Nat.le_of_ble_eq_true rfl, Nat.le_of_ble_eq_true rfl⟩) hS (fun _ _ h => h) (fun _ h => h) (fun r u t H locs ht hvm hq hW hz9 hk9 hS => ?_)
  obtain rfl : r = (-71) := hq
  replace hW : Wd g σ μ o H := by rw [← ht]; exact hW
  refine lv_bipush (v := (-71)) hx hb dL_refuses_485 (by decide) ?_
  refine lv_icmp_ne (tgt := 533) hx hb dL_refuses_487 (by decide) (fun c6 => absurd c6 (by decide)) (fun _ => ?_)
  refine lv_aload_n hx hb dL_refuses_490 rfl (lv_at hl 11 rfl) ?_
  refine lv_iconst (v := 3) hx hb dL_refuses_491 (by decide) ?_
  refine lv_iload hx hb dL_refuses_492 (lv_at hl 4 rfl) ?_
  refine lv_iconst (v := 0) hx hb dL_refuses_494 (by decide) ?_
  refine va_calli (vx_runSW (As := [.ref (gA g 0), .int 3, .int (-2), .int 0]) (rest := []) ⟨hx, hb, hml, hown, hts⟩ (mtL_act_3 l g σ μ o hfl (-2) 0 1 (-71) (kCo_1 (okC_f n2 (by decide))) (by decide)) (vx_cwSW 4 hts gL_refuses_L_act rfl rfl rfl (by decide +kernel) ⟨Nat.le_of_ble_eq_true rfl, Nat.le_of_ble_eq_true rfl⟩) ⟨PW.blind, fun U hU hW9 => ⟨rfl, PW.at hC hS hW U hU hW9⟩⟩ rfl rfl hl.1 rfl (lv_room (Nat.le_of_ble_eq_true rfl)) dL_refuses_495 ⟨Nat.le_of_ble_eq_true rfl, Nat.le_of_ble_eq_true rfl⟩) hS (fun _ _ h => h) (fun _ h => h) (fun r u t H locs ht hvm hq hW hz9 hk9 hS => ?_)
  obtain rfl : r = (-71) := hq
  replace hW : Wd g σ μ o H := by rw [← ht]; exact hW
  refine lv_bipush (v := (-71)) hx hb dL_refuses_498 (by decide) ?_
  refine lv_icmp_ne (tgt := 533) hx hb dL_refuses_500 (by decide) (fun c7 => absurd c7 (by decide)) (fun _ => ?_)
  refine lv_aload_n hx hb dL_refuses_503 rfl (lv_at hl 11 rfl) ?_
  refine lv_iconst (v := 0) hx hb dL_refuses_504 (by decide) ?_
  refine lv_iload hx hb dL_refuses_505 (lv_at hl 4 rfl) ?_
  refine lv_iconst (v := 0) hx hb dL_refuses_507 (by decide) ?_
  refine va_calli (vx_runSW (As := [.ref (gA g 0), .int 0, .int (-2), .int 0]) (rest := []) ⟨hx, hb, hml, hown, hts⟩ (mtL_act_0 l g σ μ o hfl (-2) 0 1 (-71) (kRem_1 n2) (by decide)) (vx_cwSW 4 hts gL_refuses_L_act rfl rfl rfl (by decide +kernel) ⟨Nat.le_of_ble_eq_true rfl, Nat.le_of_ble_eq_true rfl⟩) ⟨PW.blind, fun U hU hW9 => ⟨rfl, PW.at hC hS hW U hU hW9⟩⟩ rfl rfl hl.1 rfl (lv_room (Nat.le_of_ble_eq_true rfl)) dL_refuses_508 ⟨Nat.le_of_ble_eq_true rfl, Nat.le_of_ble_eq_true rfl⟩) hS (fun _ _ h => h) (fun _ h => h) (fun r u t H locs ht hvm hq hW hz9 hk9 hS => ?_)
  obtain rfl : r = (-71) := hq
  replace hW : Wd g σ μ o H := by rw [← ht]; exact hW
  refine lv_bipush (v := (-71)) hx hb dL_refuses_511 (by decide) ?_
  refine lv_icmp_ne (tgt := 533) hx hb dL_refuses_513 (by decide) (fun c8 => absurd c8 (by decide)) (fun _ => ?_)
  refine lv_aload_n hx hb dL_refuses_516 rfl (lv_at hl 11 rfl) ?_
  refine lv_iconst (v := 0) hx hb dL_refuses_517 (by decide) ?_
  refine lv_iload hx hb dL_refuses_518 (lv_at hl 3 rfl) ?_
  refine lv_iconst (v := 0) hx hb dL_refuses_520 (by decide) ?_
  refine va_calli (vx_runSW (As := [.ref (gA g 0), .int 0, .int (-1), .int 0]) (rest := []) ⟨hx, hb, hml, hown, hts⟩ (mtL_act_0 l g σ μ o hfl (-1) 0 1 (-71) (kRem_1 n1) (by decide)) (vx_cwSW 4 hts gL_refuses_L_act rfl rfl rfl (by decide +kernel) ⟨Nat.le_of_ble_eq_true rfl, Nat.le_of_ble_eq_true rfl⟩) ⟨PW.blind, fun U hU hW9 => ⟨rfl, PW.at hC hS hW U hU hW9⟩⟩ rfl rfl hl.1 rfl (lv_room (Nat.le_of_ble_eq_true rfl)) dL_refuses_521 ⟨Nat.le_of_ble_eq_true rfl, Nat.le_of_ble_eq_true rfl⟩) hS (fun _ _ h => h) (fun _ h => h) (fun r u t H locs ht hvm hq hW hz9 hk9 hS => ?_)
  obtain rfl : r = (-71) := hq
  replace hW : Wd g σ μ o H := by rw [← ht]; exact hW
  refine lv_bipush (v := (-71)) hx hb dL_refuses_524 (by decide) ?_
  refine lv_icmp_ne (tgt := 533) hx hb dL_refuses_526 (by decide) (fun c9 => absurd c9 (by decide)) (fun _ => ?_)
  refine lv_iconst (v := 1) hx hb dL_refuses_529 (by decide) ?_
  refine lv_goto (tgt := 534) hx hb dL_refuses_530 (by decide) ?_
  refine lv_istore (lv' := [(13, .int 1), (12, .int (-1)), (11, .int (-1)), (10, .int (-1)), (9, .int (-2)), (8, .int 0), (7, .int 2147483647), (6, .int (σ.2.2.1 0)), (5, .int (σ.1 6)), (4, .int (nxR σ)), (3, .int (nI (ct (thr σ.2.1) 16))), (0, .ref (gA g 0)), (1, .int here), (2, .int gone)]) hx hb dL_refuses_534 hl (by decide) rfl (fun ls hl => ?_)
  refine lv_bipush (v := 9) hx hb dL_refuses_536 (by decide) ?_
  refine lv_istore (lv' := [(14, .int 9), (13, .int 1), (12, .int (-1)), (11, .int (-1)), (10, .int (-1)), (9, .int (-2)), (8, .int 0), (7, .int 2147483647), (6, .int (σ.2.2.1 0)), (5, .int (σ.1 6)), (4, .int (nxR σ)), (3, .int (nI (ct (thr σ.2.1) 16))), (0, .ref (gA g 0)), (1, .int here), (2, .int gone)]) hx hb dL_refuses_538 hl (by decide) rfl (fun ls hl => ?_)
  refine lv_iload hx hb dL_refuses_540 (lv_at hl 0 rfl) ?_
  refine lv_bipush (v := 13) hx hb dL_refuses_542 (by decide) ?_
  refine lv_icmp_ge (tgt := 600) hx hb dL_refuses_544 (by decide) (fun c10 => absurd c10 (by decide)) (fun _ => ?_)
  refine lv_iload hx hb dL_refuses_547 (lv_at hl 1 rfl) ?_
  refine lv_if_eq (tgt := 591) hx hb dL_refuses_549 (by decide) (fun c11 => absurd c11 (by decide)) (fun _ => ?_)
  refine lv_iload hx hb dL_refuses_552 (lv_at hl 0 rfl) ?_
  refine lv_bipush (v := 11) hx hb dL_refuses_554 (by decide) ?_
  refine lv_icmp_eq (tgt := 587) hx hb dL_refuses_556 (by decide) (fun c12 => absurd c12 (by decide)) (fun _ => ?_)
  refine lv_aload_n hx hb dL_refuses_559 rfl (lv_at hl 12 rfl) ?_
  refine lv_iload hx hb dL_refuses_560 (lv_at hl 0 rfl) ?_
  refine lv_iload hx hb dL_refuses_562 (lv_at hl 5 rfl) ?_
  refine lv_iconst (v := 0) hx hb dL_refuses_564 (by decide) ?_
  refine va_calli (vx_runSW (As := [.ref (gA g 0), .int 9, .int (-2), .int 0]) (rest := []) ⟨hx, hb, hml, hown, hts⟩ (mtL_act_9 l g σ μ o hfl (-2) 0 1 (-71) (kRem_1 n2) (by decide)) (vx_cwSW 4 hts gL_refuses_L_act rfl rfl rfl (by decide +kernel) ⟨Nat.le_of_ble_eq_true rfl, Nat.le_of_ble_eq_true rfl⟩) ⟨PW.blind, fun U hU hW9 => ⟨rfl, PW.at hC hS hW U hU hW9⟩⟩ rfl rfl hl.1 rfl (lv_room (Nat.le_of_ble_eq_true rfl)) dL_refuses_565 ⟨Nat.le_of_ble_eq_true rfl, Nat.le_of_ble_eq_true rfl⟩) hS (fun _ _ h => h) (fun _ h => h) (fun r u t H locs ht hvm hq hW hz9 hk9 hS => ?_)
  obtain rfl : r = (-71) := hq
  replace hW : Wd g σ μ o H := by rw [← ht]; exact hW
  refine lv_bipush (v := (-71)) hx hb dL_refuses_568 (by decide) ?_
  refine lv_icmp_ne (tgt := 591) hx hb dL_refuses_570 (by decide) (fun c13 => absurd c13 (by decide)) (fun _ => ?_)
  refine lv_aload_n hx hb dL_refuses_573 rfl (lv_at hl 12 rfl) ?_
  refine lv_iload hx hb dL_refuses_574 (lv_at hl 0 rfl) ?_
  refine lv_iload hx hb dL_refuses_576 (lv_at hl 4 rfl) ?_
  refine lv_iconst (v := 0) hx hb dL_refuses_578 (by decide) ?_
  refine va_calli (vx_runSW (As := [.ref (gA g 0), .int 9, .int (-1), .int 0]) (rest := []) ⟨hx, hb, hml, hown, hts⟩ (mtL_act_9 l g σ μ o hfl (-1) 0 1 (-71) (kRem_1 n1) (by decide)) (vx_cwSW 4 hts gL_refuses_L_act rfl rfl rfl (by decide +kernel) ⟨Nat.le_of_ble_eq_true rfl, Nat.le_of_ble_eq_true rfl⟩) ⟨PW.blind, fun U hU hW9 => ⟨rfl, PW.at hC hS hW U hU hW9⟩⟩ rfl rfl hl.1 rfl (lv_room (Nat.le_of_ble_eq_true rfl)) dL_refuses_579 ⟨Nat.le_of_ble_eq_true rfl, Nat.le_of_ble_eq_true rfl⟩) hS (fun _ _ h => h) (fun _ h => h) (fun r u t H locs ht hvm hq hW hz9 hk9 hS => ?_)
  obtain rfl : r = (-71) := hq
  replace hW : Wd g σ μ o H := by rw [← ht]; exact hW
  refine lv_bipush (v := (-71)) hx hb dL_refuses_582 (by decide) ?_
  refine lv_icmp_ne (tgt := 591) hx hb dL_refuses_584 (by decide) (fun c14 => absurd c14 (by decide)) (fun _ => ?_)
  refine lv_iconst (v := 1) hx hb dL_refuses_587 (by decide) ?_
  refine lv_goto (tgt := 592) hx hb dL_refuses_588 (by decide) ?_
  refine lv_istore (lv' := [(13, .int 1), (14, .int 9), (12, .int (-1)), (11, .int (-1)), (10, .int (-1)), (9, .int (-2)), (8, .int 0), (7, .int 2147483647), (6, .int (σ.2.2.1 0)), (5, .int (σ.1 6)), (4, .int (nxR σ)), (3, .int (nI (ct (thr σ.2.1) 16))), (0, .ref (gA g 0)), (1, .int here), (2, .int gone)]) hx hb dL_refuses_592 hl (by decide) rfl (fun ls hl => ?_)
  refine lv_iinc (v := 10) (lv' := [(14, .int 10), (13, .int 1), (12, .int (-1)), (11, .int (-1)), (10, .int (-1)), (9, .int (-2)), (8, .int 0), (7, .int 2147483647), (6, .int (σ.2.2.1 0)), (5, .int (σ.1 6)), (4, .int (nxR σ)), (3, .int (nI (ct (thr σ.2.1) 16))), (0, .ref (gA g 0)), (1, .int here), (2, .int gone)]) hx hb dL_refuses_594 hl (k := 1) rfl (by decide) (by decide) rfl (fun ls hl => ?_)
  refine lv_goto (tgt := 540) hx hb dL_refuses_597 (by decide) ?_
  refine lv_iload hx hb dL_refuses_540 (lv_at hl 0 rfl) ?_
  refine lv_bipush (v := 13) hx hb dL_refuses_542 (by decide) ?_
  refine lv_icmp_ge (tgt := 600) hx hb dL_refuses_544 (by decide) (fun c15 => absurd c15 (by decide)) (fun _ => ?_)
  refine lv_iload hx hb dL_refuses_547 (lv_at hl 1 rfl) ?_
  refine lv_if_eq (tgt := 591) hx hb dL_refuses_549 (by decide) (fun c16 => absurd c16 (by decide)) (fun _ => ?_)
  refine lv_iload hx hb dL_refuses_552 (lv_at hl 0 rfl) ?_
  refine lv_bipush (v := 11) hx hb dL_refuses_554 (by decide) ?_
  refine lv_icmp_eq (tgt := 587) hx hb dL_refuses_556 (by decide) (fun c17 => absurd c17 (by decide)) (fun _ => ?_)
  refine lv_aload_n hx hb dL_refuses_559 rfl (lv_at hl 12 rfl) ?_
  refine lv_iload hx hb dL_refuses_560 (lv_at hl 0 rfl) ?_
  refine lv_iload hx hb dL_refuses_562 (lv_at hl 5 rfl) ?_
  refine lv_iconst (v := 0) hx hb dL_refuses_564 (by decide) ?_
  refine va_calli (vx_runSW (As := [.ref (gA g 0), .int 10, .int (-2), .int 0]) (rest := []) ⟨hx, hb, hml, hown, hts⟩ (mtL_act_10 l g σ μ o hfl (-2) 0 1 (-71) (kRem_1 n2) (by decide)) (vx_cwSW 4 hts gL_refuses_L_act rfl rfl rfl (by decide +kernel) ⟨Nat.le_of_ble_eq_true rfl, Nat.le_of_ble_eq_true rfl⟩) ⟨PW.blind, fun U hU hW9 => ⟨rfl, PW.at hC hS hW U hU hW9⟩⟩ rfl rfl hl.1 rfl (lv_room (Nat.le_of_ble_eq_true rfl)) dL_refuses_565 ⟨Nat.le_of_ble_eq_true rfl, Nat.le_of_ble_eq_true rfl⟩) hS (fun _ _ h => h) (fun _ h => h) (fun r u t H locs ht hvm hq hW hz9 hk9 hS => ?_)
  obtain rfl : r = (-71) := hq
  replace hW : Wd g σ μ o H := by rw [← ht]; exact hW
  refine lv_bipush (v := (-71)) hx hb dL_refuses_568 (by decide) ?_
  refine lv_icmp_ne (tgt := 591) hx hb dL_refuses_570 (by decide) (fun c18 => absurd c18 (by decide)) (fun _ => ?_)
  refine lv_aload_n hx hb dL_refuses_573 rfl (lv_at hl 12 rfl) ?_
  refine lv_iload hx hb dL_refuses_574 (lv_at hl 0 rfl) ?_
  refine lv_iload hx hb dL_refuses_576 (lv_at hl 4 rfl) ?_
  refine lv_iconst (v := 0) hx hb dL_refuses_578 (by decide) ?_
  refine va_calli (vx_runSW (As := [.ref (gA g 0), .int 10, .int (-1), .int 0]) (rest := []) ⟨hx, hb, hml, hown, hts⟩ (mtL_act_10 l g σ μ o hfl (-1) 0 1 (-71) (kRem_1 n1) (by decide)) (vx_cwSW 4 hts gL_refuses_L_act rfl rfl rfl (by decide +kernel) ⟨Nat.le_of_ble_eq_true rfl, Nat.le_of_ble_eq_true rfl⟩) ⟨PW.blind, fun U hU hW9 => ⟨rfl, PW.at hC hS hW U hU hW9⟩⟩ rfl rfl hl.1 rfl (lv_room (Nat.le_of_ble_eq_true rfl)) dL_refuses_579 ⟨Nat.le_of_ble_eq_true rfl, Nat.le_of_ble_eq_true rfl⟩) hS (fun _ _ h => h) (fun _ h => h) (fun r u t H locs ht hvm hq hW hz9 hk9 hS => ?_)
  obtain rfl : r = (-71) := hq
  replace hW : Wd g σ μ o H := by rw [← ht]; exact hW
  refine lv_bipush (v := (-71)) hx hb dL_refuses_582 (by decide) ?_
  refine lv_icmp_ne (tgt := 591) hx hb dL_refuses_584 (by decide) (fun c19 => absurd c19 (by decide)) (fun _ => ?_)
  refine lv_iconst (v := 1) hx hb dL_refuses_587 (by decide) ?_
  refine lv_goto (tgt := 592) hx hb dL_refuses_588 (by decide) ?_
  refine lv_istore (lv' := [(13, .int 1), (14, .int 10), (12, .int (-1)), (11, .int (-1)), (10, .int (-1)), (9, .int (-2)), (8, .int 0), (7, .int 2147483647), (6, .int (σ.2.2.1 0)), (5, .int (σ.1 6)), (4, .int (nxR σ)), (3, .int (nI (ct (thr σ.2.1) 16))), (0, .ref (gA g 0)), (1, .int here), (2, .int gone)]) hx hb dL_refuses_592 hl (by decide) rfl (fun ls hl => ?_)
  refine lv_iinc (v := 11) (lv' := [(14, .int 11), (13, .int 1), (12, .int (-1)), (11, .int (-1)), (10, .int (-1)), (9, .int (-2)), (8, .int 0), (7, .int 2147483647), (6, .int (σ.2.2.1 0)), (5, .int (σ.1 6)), (4, .int (nxR σ)), (3, .int (nI (ct (thr σ.2.1) 16))), (0, .ref (gA g 0)), (1, .int here), (2, .int gone)]) hx hb dL_refuses_594 hl (k := 1) rfl (by decide) (by decide) rfl (fun ls hl => ?_)
  refine lv_goto (tgt := 540) hx hb dL_refuses_597 (by decide) ?_
  refine lv_iload hx hb dL_refuses_540 (lv_at hl 0 rfl) ?_
  refine lv_bipush (v := 13) hx hb dL_refuses_542 (by decide) ?_
  refine lv_icmp_ge (tgt := 600) hx hb dL_refuses_544 (by decide) (fun c20 => absurd c20 (by decide)) (fun _ => ?_)
  refine lv_iload hx hb dL_refuses_547 (lv_at hl 1 rfl) ?_
  refine lv_if_eq (tgt := 591) hx hb dL_refuses_549 (by decide) (fun c21 => absurd c21 (by decide)) (fun _ => ?_)
  refine lv_iload hx hb dL_refuses_552 (lv_at hl 0 rfl) ?_
  refine lv_bipush (v := 11) hx hb dL_refuses_554 (by decide) ?_
  refine lv_icmp_eq (tgt := 587) hx hb dL_refuses_556 (by decide) (fun _ => ?_) (fun c22 => absurd c22 (by decide))
  refine lv_iconst (v := 1) hx hb dL_refuses_587 (by decide) ?_
  refine lv_goto (tgt := 592) hx hb dL_refuses_588 (by decide) ?_
  refine lv_istore (lv' := [(13, .int 1), (14, .int 11), (12, .int (-1)), (11, .int (-1)), (10, .int (-1)), (9, .int (-2)), (8, .int 0), (7, .int 2147483647), (6, .int (σ.2.2.1 0)), (5, .int (σ.1 6)), (4, .int (nxR σ)), (3, .int (nI (ct (thr σ.2.1) 16))), (0, .ref (gA g 0)), (1, .int here), (2, .int gone)]) hx hb dL_refuses_592 hl (by decide) rfl (fun ls hl => ?_)
  refine lv_iinc (v := 12) (lv' := [(14, .int 12), (13, .int 1), (12, .int (-1)), (11, .int (-1)), (10, .int (-1)), (9, .int (-2)), (8, .int 0), (7, .int 2147483647), (6, .int (σ.2.2.1 0)), (5, .int (σ.1 6)), (4, .int (nxR σ)), (3, .int (nI (ct (thr σ.2.1) 16))), (0, .ref (gA g 0)), (1, .int here), (2, .int gone)]) hx hb dL_refuses_594 hl (k := 1) rfl (by decide) (by decide) rfl (fun ls hl => ?_)
  refine lv_goto (tgt := 540) hx hb dL_refuses_597 (by decide) ?_
  refine lv_iload hx hb dL_refuses_540 (lv_at hl 0 rfl) ?_
  refine lv_bipush (v := 13) hx hb dL_refuses_542 (by decide) ?_
  refine lv_icmp_ge (tgt := 600) hx hb dL_refuses_544 (by decide) (fun c23 => absurd c23 (by decide)) (fun _ => ?_)
  refine lv_iload hx hb dL_refuses_547 (lv_at hl 1 rfl) ?_
  refine lv_if_eq (tgt := 591) hx hb dL_refuses_549 (by decide) (fun c24 => absurd c24 (by decide)) (fun _ => ?_)
  refine lv_iload hx hb dL_refuses_552 (lv_at hl 0 rfl) ?_
  refine lv_bipush (v := 11) hx hb dL_refuses_554 (by decide) ?_
  refine lv_icmp_eq (tgt := 587) hx hb dL_refuses_556 (by decide) (fun c25 => absurd c25 (by decide)) (fun _ => ?_)
  refine lv_aload_n hx hb dL_refuses_559 rfl (lv_at hl 12 rfl) ?_
  refine lv_iload hx hb dL_refuses_560 (lv_at hl 0 rfl) ?_
  refine lv_iload hx hb dL_refuses_562 (lv_at hl 5 rfl) ?_
  refine lv_iconst (v := 0) hx hb dL_refuses_564 (by decide) ?_
  refine va_calli (vx_runSW (As := [.ref (gA g 0), .int 12, .int (-2), .int 0]) (rest := []) ⟨hx, hb, hml, hown, hts⟩ (mtL_act_12 l g σ μ o hfl (-2) 0 1 (-71) (kRem_1 n2) (by decide)) (vx_cwSW 4 hts gL_refuses_L_act rfl rfl rfl (by decide +kernel) ⟨Nat.le_of_ble_eq_true rfl, Nat.le_of_ble_eq_true rfl⟩) ⟨PW.blind, fun U hU hW9 => ⟨rfl, PW.at hC hS hW U hU hW9⟩⟩ rfl rfl hl.1 rfl (lv_room (Nat.le_of_ble_eq_true rfl)) dL_refuses_565 ⟨Nat.le_of_ble_eq_true rfl, Nat.le_of_ble_eq_true rfl⟩) hS (fun _ _ h => h) (fun _ h => h) (fun r u t H locs ht hvm hq hW hz9 hk9 hS => ?_)
  obtain rfl : r = (-71) := hq
  replace hW : Wd g σ μ o H := by rw [← ht]; exact hW
  refine lv_bipush (v := (-71)) hx hb dL_refuses_568 (by decide) ?_
  refine lv_icmp_ne (tgt := 591) hx hb dL_refuses_570 (by decide) (fun c26 => absurd c26 (by decide)) (fun _ => ?_)
  refine lv_aload_n hx hb dL_refuses_573 rfl (lv_at hl 12 rfl) ?_
  refine lv_iload hx hb dL_refuses_574 (lv_at hl 0 rfl) ?_
  refine lv_iload hx hb dL_refuses_576 (lv_at hl 4 rfl) ?_
  refine lv_iconst (v := 0) hx hb dL_refuses_578 (by decide) ?_
  refine va_calli (vx_runSW (As := [.ref (gA g 0), .int 12, .int (-1), .int 0]) (rest := []) ⟨hx, hb, hml, hown, hts⟩ (mtL_act_12 l g σ μ o hfl (-1) 0 1 (-71) (kRem_1 n1) (by decide)) (vx_cwSW 4 hts gL_refuses_L_act rfl rfl rfl (by decide +kernel) ⟨Nat.le_of_ble_eq_true rfl, Nat.le_of_ble_eq_true rfl⟩) ⟨PW.blind, fun U hU hW9 => ⟨rfl, PW.at hC hS hW U hU hW9⟩⟩ rfl rfl hl.1 rfl (lv_room (Nat.le_of_ble_eq_true rfl)) dL_refuses_579 ⟨Nat.le_of_ble_eq_true rfl, Nat.le_of_ble_eq_true rfl⟩) hS (fun _ _ h => h) (fun _ h => h) (fun r u t H locs ht hvm hq hW hz9 hk9 hS => ?_)
  obtain rfl : r = (-71) := hq
  replace hW : Wd g σ μ o H := by rw [← ht]; exact hW
  refine lv_bipush (v := (-71)) hx hb dL_refuses_582 (by decide) ?_
  refine lv_icmp_ne (tgt := 591) hx hb dL_refuses_584 (by decide) (fun c27 => absurd c27 (by decide)) (fun _ => ?_)
  refine lv_iconst (v := 1) hx hb dL_refuses_587 (by decide) ?_
  refine lv_goto (tgt := 592) hx hb dL_refuses_588 (by decide) ?_
  refine lv_istore (lv' := [(13, .int 1), (14, .int 12), (12, .int (-1)), (11, .int (-1)), (10, .int (-1)), (9, .int (-2)), (8, .int 0), (7, .int 2147483647), (6, .int (σ.2.2.1 0)), (5, .int (σ.1 6)), (4, .int (nxR σ)), (3, .int (nI (ct (thr σ.2.1) 16))), (0, .ref (gA g 0)), (1, .int here), (2, .int gone)]) hx hb dL_refuses_592 hl (by decide) rfl (fun ls hl => ?_)
  refine lv_iinc (v := 13) (lv' := [(14, .int 13), (13, .int 1), (12, .int (-1)), (11, .int (-1)), (10, .int (-1)), (9, .int (-2)), (8, .int 0), (7, .int 2147483647), (6, .int (σ.2.2.1 0)), (5, .int (σ.1 6)), (4, .int (nxR σ)), (3, .int (nI (ct (thr σ.2.1) 16))), (0, .ref (gA g 0)), (1, .int here), (2, .int gone)]) hx hb dL_refuses_594 hl (k := 1) rfl (by decide) (by decide) rfl (fun ls hl => ?_)
  refine lv_goto (tgt := 540) hx hb dL_refuses_597 (by decide) ?_
  refine lv_iload hx hb dL_refuses_540 (lv_at hl 0 rfl) ?_
  refine lv_bipush (v := 13) hx hb dL_refuses_542 (by decide) ?_
  refine lv_icmp_ge (tgt := 600) hx hb dL_refuses_544 (by decide) (fun _ => ?_) (fun c28 => absurd c28 (by decide))
  refine lv_iload hx hb dL_refuses_600 (lv_at hl 1 rfl) ?_
  refine lv_if_ne (tgt := 607) hx hb dL_refuses_602 (by decide) (fun _ => ?_) (fun c29 => absurd c29 (by decide))
  refine lv_iinc (v := 1) (lv' := [(8, .int 1), (14, .int 13), (13, .int 1), (12, .int (-1)), (11, .int (-1)), (10, .int (-1)), (9, .int (-2)), (7, .int 2147483647), (6, .int (σ.2.2.1 0)), (5, .int (σ.1 6)), (4, .int (nxR σ)), (3, .int (nI (ct (thr σ.2.1) 16))), (0, .ref (gA g 0)), (1, .int here), (2, .int gone)]) hx hb dL_refuses_607 hl (k := 6) rfl (by decide) (by decide) rfl (fun ls hl => ?_)
  refine lv_goto (tgt := 30) hx hb dL_refuses_610 (by decide) ?_
  exact kk H locs ls hW hS (by exact lv_sub hl [0, 7, 8, 9, 10, 11, 12, 13, 14] rfl)

set_option maxHeartbeats 4000000 in
set_option maxRecDepth 100000 in
theorem rf_1 {p : Program} {l : Launch} {e : Env} {s : State} {m : MethodId} {below : List Frame} {meth : Method} {c : Code} {g : Ge} {σ : Sg} {μ : Mg} {o : Nat → Int64} {here gone : Int32} {en cl : Nat} (C0 : rfC p l s m meth c g σ here gone en cl) (kk : rfG p l e s m below meth c g σ μ o here gone 407 [(13, .int 1), (12, .int 3), (11, .int 100), (10, .int (-1)), (9, .int gone), (8, .int 1), (7, .int 2147483647), (6, .int (σ.2.2.1 0)), (5, .int (σ.1 6)), (4, .int (nxR σ)), (3, .int (nI (ct (thr σ.2.1) 16))), (0, .ref (gA g 0)), (1, .int here), (2, .int gone)] 59 354) : rfG p l e s m below meth c g σ μ o here gone 30 [(8, .int 1), (7, .int 2147483647), (6, .int (σ.2.2.1 0)), (5, .int (σ.1 6)), (4, .int (nxR σ)), (3, .int (nI (ct (thr σ.2.1) 16))), (0, .ref (gA g 0)), (1, .int here), (2, .int gone)] 37 222 := by
  obtain ⟨⟨hx, hb, hr, hml, hts, hown, hlocks⟩, hC, hfl, ⟨n2, n1, nM, nm, ng, hh, g1, hL⟩, e1, e2, e3, e4⟩ := C0
  have hk0 : narrow .boolean (.int (σ.2.2.1 0)) = .int (σ.2.2.1 0) := by rcases hL with q | q <;> rw [q] <;> rfl
  intro H locs ls hW hS hl
  have hl : lv_has ls 15 [(8, .int 1), (7, .int 2147483647), (6, .int (σ.2.2.1 0)), (5, .int (σ.1 6)), (4, .int (nxR σ)), (3, .int (nI (ct (thr σ.2.1) 16))), (0, .ref (gA g 0)), (1, .int here), (2, .int gone)] := hl
  refine lv_iload hx hb dL_refuses_30 (lv_at hl 0 rfl) ?_
  refine lv_iconst (v := 4) hx hb dL_refuses_32 (by decide) ?_
  refine lv_icmp_ge (tgt := 613) hx hb dL_refuses_33 (by decide) (fun c1 => absurd c1 (by decide)) (fun _ => ?_)
  refine lv_iload hx hb dL_refuses_36 (lv_at hl 0 rfl) ?_
  refine lv_if_ne (tgt := 46) hx hb dL_refuses_38 (by decide) (fun _ => ?_) (fun c2 => absurd c2 (by decide))
  refine lv_iload hx hb dL_refuses_46 (lv_at hl 0 rfl) ?_
  refine lv_iconst (v := 1) hx hb dL_refuses_48 (by decide) ?_
  refine lv_icmp_ne (tgt := 56) hx hb dL_refuses_49 (by decide) (fun c3 => absurd c3 (by decide)) (fun _ => ?_)
  refine lv_iload_n hx hb dL_refuses_52 rfl (lv_at hl 8 rfl) ?_
  refine lv_goto (tgt := 72) hx hb dL_refuses_53 (by decide) ?_
  refine lv_istore (lv' := [(9, .int gone), (8, .int 1), (7, .int 2147483647), (6, .int (σ.2.2.1 0)), (5, .int (σ.1 6)), (4, .int (nxR σ)), (3, .int (nI (ct (thr σ.2.1) 16))), (0, .ref (gA g 0)), (1, .int here), (2, .int gone)]) hx hb dL_refuses_72 hl (by decide) rfl (fun ls hl => ?_)
  refine lv_iload hx hb dL_refuses_74 (lv_at hl 1 rfl) ?_
  refine lv_iconst (v := 2) hx hb dL_refuses_76 (by decide) ?_
  refine lv_icmp_ge (tgt := 84) hx hb dL_refuses_77 (by decide) (fun c4 => absurd c4 (by decide)) (fun _ => ?_)
  refine lv_iconst (v := (-1)) hx hb dL_refuses_80 (by decide) ?_
  refine lv_goto (tgt := 86) hx hb dL_refuses_81 (by decide) ?_
  refine lv_istore (lv' := [(10, .int (-1)), (9, .int gone), (8, .int 1), (7, .int 2147483647), (6, .int (σ.2.2.1 0)), (5, .int (σ.1 6)), (4, .int (nxR σ)), (3, .int (nI (ct (thr σ.2.1) 16))), (0, .ref (gA g 0)), (1, .int here), (2, .int gone)]) hx hb dL_refuses_86 hl (by decide) rfl (fun ls hl => ?_)
  refine lv_iload hx hb dL_refuses_88 (lv_at hl 2 rfl) ?_
  refine lv_if_ne (tgt := 97) hx hb dL_refuses_90 (by decide) (fun _ => ?_) (fun c5 => absurd c5 (by decide))
  refine lv_iload hx hb dL_refuses_97 (lv_at hl 2 rfl) ?_
  refine lv_iconst (v := 1) hx hb dL_refuses_99 (by decide) ?_
  refine lv_icmp_ne (tgt := 108) hx hb dL_refuses_100 (by decide) (fun c6 => absurd c6 (by decide)) (fun _ => ?_)
  refine lv_bipush (v := 100) hx hb dL_refuses_103 (by decide) ?_
  refine lv_goto (tgt := 110) hx hb dL_refuses_105 (by decide) ?_
  refine lv_istore (lv' := [(11, .int 100), (10, .int (-1)), (9, .int gone), (8, .int 1), (7, .int 2147483647), (6, .int (σ.2.2.1 0)), (5, .int (σ.1 6)), (4, .int (nxR σ)), (3, .int (nI (ct (thr σ.2.1) 16))), (0, .ref (gA g 0)), (1, .int here), (2, .int gone)]) hx hb dL_refuses_110 hl (by decide) rfl (fun ls hl => ?_)
  refine lv_iload hx hb dL_refuses_112 (lv_at hl 3 rfl) ?_
  refine lv_if_ne (tgt := 121) hx hb dL_refuses_114 (by decide) (fun _ => ?_) (fun c7 => absurd c7 (by decide))
  refine lv_iload hx hb dL_refuses_121 (lv_at hl 3 rfl) ?_
  refine lv_iconst (v := 1) hx hb dL_refuses_123 (by decide) ?_
  refine lv_icmp_ne (tgt := 131) hx hb dL_refuses_124 (by decide) (fun c8 => absurd c8 (by decide)) (fun _ => ?_)
  refine lv_iconst (v := 3) hx hb dL_refuses_127 (by decide) ?_
  refine lv_goto (tgt := 133) hx hb dL_refuses_128 (by decide) ?_
  refine lv_istore (lv' := [(12, .int 3), (11, .int 100), (10, .int (-1)), (9, .int gone), (8, .int 1), (7, .int 2147483647), (6, .int (σ.2.2.1 0)), (5, .int (σ.1 6)), (4, .int (nxR σ)), (3, .int (nI (ct (thr σ.2.1) 16))), (0, .ref (gA g 0)), (1, .int here), (2, .int gone)]) hx hb dL_refuses_133 hl (by decide) rfl (fun ls hl => ?_)
  refine lv_aload_n hx hb dL_refuses_135 rfl (lv_at hl 10 rfl) ?_
  refine lv_iload hx hb dL_refuses_136 (lv_at hl 0 rfl) ?_
  refine lv_iconst (v := 5) hx hb dL_refuses_138 (by decide) ?_
  refine lv_iconst (v := 5) hx hb dL_refuses_139 (by decide) ?_
  refine lv_iconst (v := 0) hx hb dL_refuses_140 (by decide) ?_
  refine lv_iconst (v := 0) hx hb dL_refuses_141 (by decide) ?_
  refine va_calli (vx_runSW (As := [.ref (gA g 0), .int 3, .int 5, .int 5, .int 0, .int 0]) (rest := []) ⟨hx, hb, hml, hown, hts⟩ (mtL_addR l g σ μ o hfl 3 5 5 0 0 1 (-72) (kAdd_1 (by decide)) (by decide)) (vx_cwSW 6 hts gL_refuses_L_add rfl rfl rfl (by decide +kernel) ⟨Nat.le_of_ble_eq_true rfl, Nat.le_of_ble_eq_true rfl⟩) ⟨PW.blind, fun U hU hW9 => ⟨rfl, PW.at hC hS hW U hU hW9⟩⟩ rfl rfl hl.1 rfl (lv_room (Nat.le_of_ble_eq_true rfl)) dL_refuses_142 ⟨Nat.le_of_ble_eq_true rfl, Nat.le_of_ble_eq_true rfl⟩) hS (fun _ _ h => h) (fun _ h => h) (fun r u t H locs ht hvm hq hW hz9 hk9 hS => ?_)
  obtain rfl : r = (-72) := hq
  replace hW : Wd g σ μ o H := by rw [← ht]; exact hW
  refine lv_bipush (v := (-72)) hx hb dL_refuses_145 (by decide) ?_
  refine lv_icmp_ne (tgt := 404) hx hb dL_refuses_147 (by decide) (fun c9 => absurd c9 (by decide)) (fun _ => ?_)
  refine lv_aload_n hx hb dL_refuses_150 rfl (lv_at hl 10 rfl) ?_
  refine lv_iconst (v := 0) hx hb dL_refuses_151 (by decide) ?_
  refine lv_iload hx hb dL_refuses_152 (lv_at hl 1 rfl) ?_
  refine lv_iconst (v := 5) hx hb dL_refuses_154 (by decide) ?_
  refine lv_iconst (v := 0) hx hb dL_refuses_155 (by decide) ?_
  refine lv_iconst (v := 0) hx hb dL_refuses_156 (by decide) ?_
  refine va_calli (vx_runSW (As := [.ref (gA g 0), .int 0, .int 100, .int 5, .int 0, .int 0]) (rest := []) ⟨hx, hb, hml, hown, hts⟩ (mtL_addR l g σ μ o hfl 0 100 5 0 0 1 (-72) (kAdd_1 (by decide)) (by decide)) (vx_cwSW 6 hts gL_refuses_L_add rfl rfl rfl (by decide +kernel) ⟨Nat.le_of_ble_eq_true rfl, Nat.le_of_ble_eq_true rfl⟩) ⟨PW.blind, fun U hU hW9 => ⟨rfl, PW.at hC hS hW U hU hW9⟩⟩ rfl rfl hl.1 rfl (lv_room (Nat.le_of_ble_eq_true rfl)) dL_refuses_157 ⟨Nat.le_of_ble_eq_true rfl, Nat.le_of_ble_eq_true rfl⟩) hS (fun _ _ h => h) (fun _ h => h) (fun r u t H locs ht hvm hq hW hz9 hk9 hS => ?_)
  obtain rfl : r = (-72) := hq
  replace hW : Wd g σ μ o H := by rw [← ht]; exact hW
  refine lv_bipush (v := (-72)) hx hb dL_refuses_160 (by decide) ?_
  refine lv_icmp_ne (tgt := 404) hx hb dL_refuses_162 (by decide) (fun c10 => absurd c10 (by decide)) (fun _ => ?_)
  refine lv_aload_n hx hb dL_refuses_165 rfl (lv_at hl 10 rfl) ?_
  refine lv_iconst (v := 0) hx hb dL_refuses_166 (by decide) ?_
  refine lv_iconst (v := 5) hx hb dL_refuses_167 (by decide) ?_
  refine lv_iload hx hb dL_refuses_168 (lv_at hl 4 rfl) ?_
  refine lv_if_ne (tgt := 177) hx hb dL_refuses_170 (by decide) (fun _ => ?_) (fun c11 => absurd c11 (by decide))
  refine lv_iload hx hb dL_refuses_177 (lv_at hl 4 rfl) ?_
  refine lv_iconst (v := 1) hx hb dL_refuses_179 (by decide) ?_
  refine lv_icmp_ne (tgt := 188) hx hb dL_refuses_180 (by decide) (fun c12 => absurd c12 (by decide)) (fun _ => ?_)
  refine lv_ldc (v := 1000000000) hx hb hown (hts (.constant RL 85 (1000000000)) (by decide +kernel)) dL_refuses_183 ?_
  refine lv_goto (tgt := 191) hx hb dL_refuses_185 (by decide) ?_
  refine lv_iconst (v := 0) hx hb dL_refuses_191 (by decide) ?_
  refine lv_iconst (v := 0) hx hb dL_refuses_192 (by decide) ?_
  refine va_calli (vx_runSW (As := [.ref (gA g 0), .int 0, .int 5, .int 1000000000, .int 0, .int 0]) (rest := []) ⟨hx, hb, hml, hown, hts⟩ (mtL_addR l g σ μ o hfl 0 5 1000000000 0 0 1 (-72) (kAdd_1 (by decide)) (by decide)) (vx_cwSW 6 hts gL_refuses_L_add rfl rfl rfl (by decide +kernel) ⟨Nat.le_of_ble_eq_true rfl, Nat.le_of_ble_eq_true rfl⟩) ⟨PW.blind, fun U hU hW9 => ⟨rfl, PW.at hC hS hW U hU hW9⟩⟩ rfl rfl hl.1 rfl (lv_room (Nat.le_of_ble_eq_true rfl)) dL_refuses_193 ⟨Nat.le_of_ble_eq_true rfl, Nat.le_of_ble_eq_true rfl⟩) hS (fun _ _ h => h) (fun _ h => h) (fun r u t H locs ht hvm hq hW hz9 hk9 hS => ?_)
  obtain rfl : r = (-72) := hq
  replace hW : Wd g σ μ o H := by rw [← ht]; exact hW
  refine lv_bipush (v := (-72)) hx hb dL_refuses_196 (by decide) ?_
  refine lv_icmp_ne (tgt := 404) hx hb dL_refuses_198 (by decide) (fun c13 => absurd c13 (by decide)) (fun _ => ?_)
  refine lv_aload_n hx hb dL_refuses_201 rfl (lv_at hl 10 rfl) ?_
  refine lv_iconst (v := 0) hx hb dL_refuses_202 (by decide) ?_
  refine lv_iconst (v := 5) hx hb dL_refuses_203 (by decide) ?_
  refine lv_iconst (v := 5) hx hb dL_refuses_204 (by decide) ?_
  refine lv_iload hx hb dL_refuses_205 (lv_at hl 0 rfl) ?_
  refine lv_iconst (v := 0) hx hb dL_refuses_207 (by decide) ?_
  refine va_calli (vx_runSW (As := [.ref (gA g 0), .int 0, .int 5, .int 5, .int 3, .int 0]) (rest := []) ⟨hx, hb, hml, hown, hts⟩ (mtL_addR l g σ μ o hfl 0 5 5 3 0 1 (-72) (kAdd_1 (by decide)) (by decide)) (vx_cwSW 6 hts gL_refuses_L_add rfl rfl rfl (by decide +kernel) ⟨Nat.le_of_ble_eq_true rfl, Nat.le_of_ble_eq_true rfl⟩) ⟨PW.blind, fun U hU hW9 => ⟨rfl, PW.at hC hS hW U hU hW9⟩⟩ rfl rfl hl.1 rfl (lv_room (Nat.le_of_ble_eq_true rfl)) dL_refuses_208 ⟨Nat.le_of_ble_eq_true rfl, Nat.le_of_ble_eq_true rfl⟩) hS (fun _ _ h => h) (fun _ h => h) (fun r u t H locs ht hvm hq hW hz9 hk9 hS => ?_)
  obtain rfl : r = (-72) := hq
  replace hW : Wd g σ μ o H := by rw [← ht]; exact hW
  refine lv_bipush (v := (-72)) hx hb dL_refuses_211 (by decide) ?_
  refine lv_icmp_ne (tgt := 404) hx hb dL_refuses_213 (by decide) (fun c14 => absurd c14 (by decide)) (fun _ => ?_)
  refine lv_aload_n hx hb dL_refuses_216 rfl (lv_at hl 10 rfl) ?_
  refine lv_iconst (v := 0) hx hb dL_refuses_217 (by decide) ?_
  refine lv_iconst (v := 5) hx hb dL_refuses_218 (by decide) ?_
  refine lv_iconst (v := 5) hx hb dL_refuses_219 (by decide) ?_
  refine lv_iconst (v := 0) hx hb dL_refuses_220 (by decide) ?_
  refine lv_iload hx hb dL_refuses_221 (lv_at hl 4 rfl) ?_
  refine lv_if_ne (tgt := 231) hx hb dL_refuses_223 (by decide) (fun _ => ?_) (fun c15 => absurd c15 (by decide))
  refine lv_iload hx hb dL_refuses_231 (lv_at hl 4 rfl) ?_
  refine lv_iconst (v := 1) hx hb dL_refuses_233 (by decide) ?_
  refine lv_icmp_ne (tgt := 242) hx hb dL_refuses_234 (by decide) (fun c16 => absurd c16 (by decide)) (fun _ => ?_)
  refine lv_bipush (v := 10) hx hb dL_refuses_237 (by decide) ?_
  refine lv_goto (tgt := 244) hx hb dL_refuses_239 (by decide) ?_
  refine va_calli (vx_runSW (As := [.ref (gA g 0), .int 0, .int 5, .int 5, .int 0, .int 10]) (rest := []) ⟨hx, hb, hml, hown, hts⟩ (mtL_addR l g σ μ o hfl 0 5 5 0 10 1 (-72) (kAdd_1 (by decide)) (by decide)) (vx_cwSW 6 hts gL_refuses_L_add rfl rfl rfl (by decide +kernel) ⟨Nat.le_of_ble_eq_true rfl, Nat.le_of_ble_eq_true rfl⟩) ⟨PW.blind, fun U hU hW9 => ⟨rfl, PW.at hC hS hW U hU hW9⟩⟩ rfl rfl hl.1 rfl (lv_room (Nat.le_of_ble_eq_true rfl)) dL_refuses_244 ⟨Nat.le_of_ble_eq_true rfl, Nat.le_of_ble_eq_true rfl⟩) hS (fun _ _ h => h) (fun _ h => h) (fun r u t H locs ht hvm hq hW hz9 hk9 hS => ?_)
  obtain rfl : r = (-72) := hq
  replace hW : Wd g σ μ o H := by rw [← ht]; exact hW
  refine lv_bipush (v := (-72)) hx hb dL_refuses_247 (by decide) ?_
  refine lv_icmp_ne (tgt := 404) hx hb dL_refuses_249 (by decide) (fun c17 => absurd c17 (by decide)) (fun _ => ?_)
  refine lv_aload_n hx hb dL_refuses_252 rfl (lv_at hl 10 rfl) ?_
  refine lv_iconst (v := 1) hx hb dL_refuses_253 (by decide) ?_
  refine lv_iload hx hb dL_refuses_254 (lv_at hl 3 rfl) ?_
  refine lv_iconst (v := (-1)) hx hb dL_refuses_256 (by decide) ?_
  refine va_calli (vx_runSW (As := [.ref (gA g 0), .int 1, .int gone, .int (-1)]) (rest := []) ⟨hx, hb, hml, hown, hts⟩ (mtL_act_1 l g σ μ o hfl gone (-1) 1 (-71) (kEd_1 ng) (by decide)) (vx_cwSW 4 hts gL_refuses_L_act rfl rfl rfl (by decide +kernel) ⟨Nat.le_of_ble_eq_true rfl, Nat.le_of_ble_eq_true rfl⟩) ⟨PW.blind, fun U hU hW9 => ⟨rfl, PW.at hC hS hW U hU hW9⟩⟩ rfl rfl hl.1 rfl (lv_room (Nat.le_of_ble_eq_true rfl)) dL_refuses_257 ⟨Nat.le_of_ble_eq_true rfl, Nat.le_of_ble_eq_true rfl⟩) hS (fun _ _ h => h) (fun _ h => h) (fun r u t H locs ht hvm hq hW hz9 hk9 hS => ?_)
  obtain rfl : r = (-71) := hq
  replace hW : Wd g σ μ o H := by rw [← ht]; exact hW
  refine lv_bipush (v := (-71)) hx hb dL_refuses_260 (by decide) ?_
  refine lv_icmp_ne (tgt := 404) hx hb dL_refuses_262 (by decide) (fun c18 => absurd c18 (by decide)) (fun _ => ?_)
  refine lv_aload_n hx hb dL_refuses_265 rfl (lv_at hl 10 rfl) ?_
  refine lv_iconst (v := 1) hx hb dL_refuses_266 (by decide) ?_
  refine lv_iload_n hx hb dL_refuses_267 rfl (lv_at hl 11 rfl) ?_
  refine lv_iload hx hb dL_refuses_268 (lv_at hl 1 rfl) ?_
  refine va_calli (vx_runSW (As := [.ref (gA g 0), .int 1, .int here, .int 100]) (rest := []) ⟨hx, hb, hml, hown, hts⟩ (mtL_act_1 l g σ μ o hfl here 100 2 (-72) (kEd_2 hh (by decide)) (by decide)) (vx_cwSW 4 hts gL_refuses_L_act rfl rfl rfl (by decide +kernel) ⟨Nat.le_of_ble_eq_true rfl, Nat.le_of_ble_eq_true rfl⟩) ⟨PW.blind, fun U hU hW9 => ⟨rfl, PW.at hC hS hW U hU hW9⟩⟩ rfl rfl hl.1 rfl (lv_room (Nat.le_of_ble_eq_true rfl)) dL_refuses_270 ⟨Nat.le_of_ble_eq_true rfl, Nat.le_of_ble_eq_true rfl⟩) hS (fun _ _ h => h) (fun _ h => h) (fun r u t H locs ht hvm hq hW hz9 hk9 hS => ?_)
  obtain rfl : r = (-72) := hq
  replace hW : Wd g σ μ o H := by rw [← ht]; exact hW
  refine lv_bipush (v := (-72)) hx hb dL_refuses_273 (by decide) ?_
  refine lv_icmp_ne (tgt := 404) hx hb dL_refuses_275 (by decide) (fun c19 => absurd c19 (by decide)) (fun _ => ?_)
  refine lv_aload_n hx hb dL_refuses_278 rfl (lv_at hl 10 rfl) ?_
  refine lv_iconst (v := 4) hx hb dL_refuses_279 (by decide) ?_
  refine lv_iload hx hb dL_refuses_280 (lv_at hl 1 rfl) ?_
  refine lv_bipush (v := 99) hx hb dL_refuses_282 (by decide) ?_
  refine va_calli (vx_runSW (As := [.ref (gA g 0), .int 4, .int 100, .int 99]) (rest := []) ⟨hx, hb, hml, hown, hts⟩ (mtL_act_4 l g σ μ o hfl 100 99 1 (-72) (kPa_1 (by decide)) (by decide)) (vx_cwSW 4 hts gL_refuses_L_act rfl rfl rfl (by decide +kernel) ⟨Nat.le_of_ble_eq_true rfl, Nat.le_of_ble_eq_true rfl⟩) ⟨PW.blind, fun U hU hW9 => ⟨rfl, PW.at hC hS hW U hU hW9⟩⟩ rfl rfl hl.1 rfl (lv_room (Nat.le_of_ble_eq_true rfl)) dL_refuses_284 ⟨Nat.le_of_ble_eq_true rfl, Nat.le_of_ble_eq_true rfl⟩) hS (fun _ _ h => h) (fun _ h => h) (fun r u t H locs ht hvm hq hW hz9 hk9 hS => ?_)
  obtain rfl : r = (-72) := hq
  replace hW : Wd g σ μ o H := by rw [← ht]; exact hW
  refine lv_bipush (v := (-72)) hx hb dL_refuses_287 (by decide) ?_
  refine lv_icmp_ne (tgt := 404) hx hb dL_refuses_289 (by decide) (fun c20 => absurd c20 (by decide)) (fun _ => ?_)
  refine lv_aload_n hx hb dL_refuses_292 rfl (lv_at hl 10 rfl) ?_
  refine lv_iconst (v := 4) hx hb dL_refuses_293 (by decide) ?_
  refine lv_iconst (v := 5) hx hb dL_refuses_294 (by decide) ?_
  refine lv_iload hx hb dL_refuses_295 (lv_at hl 4 rfl) ?_
  refine lv_if_ne (tgt := 304) hx hb dL_refuses_297 (by decide) (fun _ => ?_) (fun c21 => absurd c21 (by decide))
  refine lv_iload hx hb dL_refuses_304 (lv_at hl 1 rfl) ?_
  refine va_calli (vx_runSW (As := [.ref (gA g 0), .int 4, .int 5, .int 100]) (rest := []) ⟨hx, hb, hml, hown, hts⟩ (mtL_act_4 l g σ μ o hfl 5 100 1 (-72) (kPa_1 (by decide)) (by decide)) (vx_cwSW 4 hts gL_refuses_L_act rfl rfl rfl (by decide +kernel) ⟨Nat.le_of_ble_eq_true rfl, Nat.le_of_ble_eq_true rfl⟩) ⟨PW.blind, fun U hU hW9 => ⟨rfl, PW.at hC hS hW U hU hW9⟩⟩ rfl rfl hl.1 rfl (lv_room (Nat.le_of_ble_eq_true rfl)) dL_refuses_306 ⟨Nat.le_of_ble_eq_true rfl, Nat.le_of_ble_eq_true rfl⟩) hS (fun _ _ h => h) (fun _ h => h) (fun r u t H locs ht hvm hq hW hz9 hk9 hS => ?_)
  obtain rfl : r = (-72) := hq
  replace hW : Wd g σ μ o H := by rw [← ht]; exact hW
  refine lv_bipush (v := (-72)) hx hb dL_refuses_309 (by decide) ?_
  refine lv_icmp_ne (tgt := 404) hx hb dL_refuses_311 (by decide) (fun c22 => absurd c22 (by decide)) (fun _ => ?_)
  refine lv_aload_n hx hb dL_refuses_314 rfl (lv_at hl 10 rfl) ?_
  refine lv_bipush (v := 7) hx hb dL_refuses_315 (by decide) ?_
  refine lv_iload hx hb dL_refuses_317 (lv_at hl 4 rfl) ?_
  refine lv_if_ne (tgt := 326) hx hb dL_refuses_319 (by decide) (fun _ => ?_) (fun c23 => absurd c23 (by decide))
  refine lv_iload hx hb dL_refuses_326 (lv_at hl 4 rfl) ?_
  refine lv_iconst (v := 1) hx hb dL_refuses_328 (by decide) ?_
  refine lv_icmp_ne (tgt := 337) hx hb dL_refuses_329 (by decide) (fun c24 => absurd c24 (by decide)) (fun _ => ?_)
  refine lv_bipush (v := 10) hx hb dL_refuses_332 (by decide) ?_
  refine lv_goto (tgt := 339) hx hb dL_refuses_334 (by decide) ?_
  refine lv_iconst (v := 0) hx hb dL_refuses_339 (by decide) ?_
  refine va_calli (vx_runSW (As := [.ref (gA g 0), .int 7, .int 10, .int 0]) (rest := []) ⟨hx, hb, hml, hown, hts⟩ (mtL_act_7 l g σ μ o hfl 10 0 en cl e1 e2 e3 e4 1 (-72) (kEn_1 (by decide)) (by decide)) (vx_cwSW 4 hts gL_refuses_L_act rfl rfl rfl (by decide +kernel) ⟨Nat.le_of_ble_eq_true rfl, Nat.le_of_ble_eq_true rfl⟩) ⟨PW.blind, fun U hU hW9 => ⟨rfl, PW.at hC hS hW U hU hW9⟩⟩ rfl rfl hl.1 rfl (lv_room (Nat.le_of_ble_eq_true rfl)) dL_refuses_340 ⟨Nat.le_of_ble_eq_true rfl, Nat.le_of_ble_eq_true rfl⟩) hS (fun _ _ h => h) (fun _ h => h) (fun r u t H locs ht hvm hq hW hz9 hk9 hS => ?_)
  obtain rfl : r = (-72) := hq
  replace hW : Wd g σ μ o H := by rw [← ht]; exact hW
  refine lv_bipush (v := (-72)) hx hb dL_refuses_343 (by decide) ?_
  refine lv_icmp_ne (tgt := 404) hx hb dL_refuses_345 (by decide) (fun c25 => absurd c25 (by decide)) (fun _ => ?_)
  refine lv_aload_n hx hb dL_refuses_348 rfl (lv_at hl 10 rfl) ?_
  refine lv_bipush (v := 8) hx hb dL_refuses_349 (by decide) ?_
  refine lv_iload hx hb dL_refuses_351 (lv_at hl 4 rfl) ?_
  refine lv_iconst (v := 1) hx hb dL_refuses_353 (by decide) ?_
  refine lv_icmp_ne (tgt := 361) hx hb dL_refuses_354 (by decide) (fun c26 => absurd c26 (by decide)) (fun _ => ?_)
  refine lv_iload_n hx hb dL_refuses_357 rfl (lv_at hl 9 rfl) ?_
  refine lv_goto (tgt := 363) hx hb dL_refuses_358 (by decide) ?_
  refine lv_iconst (v := 0) hx hb dL_refuses_363 (by decide) ?_
  refine va_calli (vx_runSW (As := [.ref (gA g 0), .int 8, .int (nI (ct (thr σ.2.1) 16)), .int 0]) (rest := []) ⟨hx, hb, hml, hown, hts⟩ (mtL_act_8 l g σ μ o hfl (nI (ct (thr σ.2.1) 16)) 0 1 (-71) kAt_ent (by decide)) (vx_cwSW 4 hts gL_refuses_L_act rfl rfl rfl (by decide +kernel) ⟨Nat.le_of_ble_eq_true rfl, Nat.le_of_ble_eq_true rfl⟩) ⟨PW.blind, fun U hU hW9 => ⟨rfl, PW.at hC hS hW U hU hW9⟩⟩ rfl rfl hl.1 rfl (lv_room (Nat.le_of_ble_eq_true rfl)) dL_refuses_364 ⟨Nat.le_of_ble_eq_true rfl, Nat.le_of_ble_eq_true rfl⟩) hS (fun _ _ h => h) (fun _ h => h) (fun r u t H locs ht hvm hq hW hz9 hk9 hS => ?_)
  obtain rfl : r = (-71) := hq
  replace hW : Wd g σ μ o H := by rw [← ht]; exact hW
  refine lv_bipush (v := (-71)) hx hb dL_refuses_367 (by decide) ?_
  refine lv_icmp_ne (tgt := 404) hx hb dL_refuses_369 (by decide) (fun c27 => absurd c27 (by decide)) (fun _ => ?_)
  refine lv_aload_n hx hb dL_refuses_372 rfl (lv_at hl 10 rfl) ?_
  refine lv_bipush (v := 11) hx hb dL_refuses_373 (by decide) ?_
  refine lv_iload hx hb dL_refuses_375 (lv_at hl 3 rfl) ?_
  refine lv_iload_n hx hb dL_refuses_377 rfl (lv_at hl 11 rfl) ?_
  refine va_calli (vx_runSW (As := [.ref (gA g 0), .int 11, .int gone, .int here]) (rest := []) ⟨hx, hb, hml, hown, hts⟩ (mtL_act_11 l g σ μ o hfl gone here 1 (-71) (kCm_a ng) (by decide)) (vx_cwSW 4 hts gL_refuses_L_act rfl rfl rfl (by decide +kernel) ⟨Nat.le_of_ble_eq_true rfl, Nat.le_of_ble_eq_true rfl⟩) ⟨PW.blind, fun U hU hW9 => ⟨rfl, PW.at hC hS hW U hU hW9⟩⟩ rfl rfl hl.1 rfl (lv_room (Nat.le_of_ble_eq_true rfl)) dL_refuses_378 ⟨Nat.le_of_ble_eq_true rfl, Nat.le_of_ble_eq_true rfl⟩) hS (fun _ _ h => h) (fun _ h => h) (fun r u t H locs ht hvm hq hW hz9 hk9 hS => ?_)
  obtain rfl : r = (-71) := hq
  replace hW : Wd g σ μ o H := by rw [← ht]; exact hW
  refine lv_bipush (v := (-71)) hx hb dL_refuses_381 (by decide) ?_
  refine lv_icmp_ne (tgt := 404) hx hb dL_refuses_383 (by decide) (fun c28 => absurd c28 (by decide)) (fun _ => ?_)
  refine lv_aload_n hx hb dL_refuses_386 rfl (lv_at hl 10 rfl) ?_
  refine lv_bipush (v := 11) hx hb dL_refuses_387 (by decide) ?_
  refine lv_iload_n hx hb dL_refuses_389 rfl (lv_at hl 11 rfl) ?_
  refine lv_iload hx hb dL_refuses_390 (lv_at hl 3 rfl) ?_
  refine va_calli (vx_runSW (As := [.ref (gA g 0), .int 11, .int here, .int gone]) (rest := []) ⟨hx, hb, hml, hown, hts⟩ (mtL_act_11 l g σ μ o hfl here gone 1 (-71) (kCm_b ng) (by decide)) (vx_cwSW 4 hts gL_refuses_L_act rfl rfl rfl (by decide +kernel) ⟨Nat.le_of_ble_eq_true rfl, Nat.le_of_ble_eq_true rfl⟩) ⟨PW.blind, fun U hU hW9 => ⟨rfl, PW.at hC hS hW U hU hW9⟩⟩ rfl rfl hl.1 rfl (lv_room (Nat.le_of_ble_eq_true rfl)) dL_refuses_392 ⟨Nat.le_of_ble_eq_true rfl, Nat.le_of_ble_eq_true rfl⟩) hS (fun _ _ h => h) (fun _ h => h) (fun r u t H locs ht hvm hq hW hz9 hk9 hS => ?_)
  obtain rfl : r = (-71) := hq
  replace hW : Wd g σ μ o H := by rw [← ht]; exact hW
  refine lv_bipush (v := (-71)) hx hb dL_refuses_395 (by decide) ?_
  refine lv_icmp_ne (tgt := 404) hx hb dL_refuses_397 (by decide) (fun c29 => absurd c29 (by decide)) (fun _ => ?_)
  refine lv_iconst (v := 1) hx hb dL_refuses_400 (by decide) ?_
  refine lv_goto (tgt := 405) hx hb dL_refuses_401 (by decide) ?_
  refine lv_istore (lv' := [(13, .int 1), (12, .int 3), (11, .int 100), (10, .int (-1)), (9, .int gone), (8, .int 1), (7, .int 2147483647), (6, .int (σ.2.2.1 0)), (5, .int (σ.1 6)), (4, .int (nxR σ)), (3, .int (nI (ct (thr σ.2.1) 16))), (0, .ref (gA g 0)), (1, .int here), (2, .int gone)]) hx hb dL_refuses_405 hl (by decide) rfl (fun ls hl => ?_)
  exact kk H locs ls hW hS (by exact lv_sub hl [0, 1, 2, 3, 4, 5, 6, 7, 8, 9, 10, 11, 12, 13] rfl)

set_option maxHeartbeats 4000000 in
set_option maxRecDepth 100000 in
theorem rf_1b {p : Program} {l : Launch} {e : Env} {s : State} {m : MethodId} {below : List Frame} {meth : Method} {c : Code} {g : Ge} {σ : Sg} {μ : Mg} {o : Nat → Int64} {here gone : Int32} {en cl : Nat} (C0 : rfC p l s m meth c g σ here gone en cl) (kk : rfG p l e s m below meth c g σ μ o here gone 30 [(8, .int 2), (7, .int 2147483647), (6, .int (σ.2.2.1 0)), (5, .int (σ.1 6)), (4, .int (nxR σ)), (3, .int (nI (ct (thr σ.2.1) 16))), (0, .ref (gA g 0)), (1, .int here), (2, .int gone)] 74 444) : rfG p l e s m below meth c g σ μ o here gone 407 [(13, .int 1), (12, .int 3), (11, .int 100), (10, .int (-1)), (9, .int gone), (8, .int 1), (7, .int 2147483647), (6, .int (σ.2.2.1 0)), (5, .int (σ.1 6)), (4, .int (nxR σ)), (3, .int (nI (ct (thr σ.2.1) 16))), (0, .ref (gA g 0)), (1, .int here), (2, .int gone)] 59 354 := by
  obtain ⟨⟨hx, hb, hr, hml, hts, hown, hlocks⟩, hC, hfl, ⟨n2, n1, nM, nm, ng, hh, g1, hL⟩, e1, e2, e3, e4⟩ := C0
  have hk0 : narrow .boolean (.int (σ.2.2.1 0)) = .int (σ.2.2.1 0) := by rcases hL with q | q <;> rw [q] <;> rfl
  intro H locs ls hW hS hl
  have hl : lv_has ls 15 [(13, .int 1), (12, .int 3), (11, .int 100), (10, .int (-1)), (9, .int gone), (8, .int 1), (7, .int 2147483647), (6, .int (σ.2.2.1 0)), (5, .int (σ.1 6)), (4, .int (nxR σ)), (3, .int (nI (ct (thr σ.2.1) 16))), (0, .ref (gA g 0)), (1, .int here), (2, .int gone)] := hl
  refine lv_iload hx hb dL_refuses_407 (lv_at hl 0 rfl) ?_
  refine lv_if_eq (tgt := 533) hx hb dL_refuses_409 (by decide) (fun c1 => absurd c1 (by decide)) (fun _ => ?_)
  refine lv_aload_n hx hb dL_refuses_412 rfl (lv_at hl 11 rfl) ?_
  refine lv_iconst (v := 5) hx hb dL_refuses_413 (by decide) ?_
  refine lv_iload hx hb dL_refuses_414 (lv_at hl 5 rfl) ?_
  refine lv_if_ne (tgt := 423) hx hb dL_refuses_416 (by decide) (fun _ => ?_) (fun c2 => absurd c2 (by decide))
  refine lv_iload hx hb dL_refuses_423 (lv_at hl 5 rfl) ?_
  refine lv_iconst (v := 1) hx hb dL_refuses_425 (by decide) ?_
  refine lv_icmp_ne (tgt := 434) hx hb dL_refuses_426 (by decide) (fun c3 => absurd c3 (by decide)) (fun _ => ?_)
  refine lv_bipush (v := 7) hx hb dL_refuses_429 (by decide) ?_
  refine lv_goto (tgt := 436) hx hb dL_refuses_431 (by decide) ?_
  refine va_calli (vx_runSW (As := [.ref (gA g 0), .int 5, .int 7]) (rest := []) ⟨hx, hb, hml, hown, hts⟩ (mtL_lockR l g σ μ o hfl 5 7 1 (-72) (kLo_1 (by decide +kernel)) (by decide)) (vx_cwSW 3 hts gL_refuses_L_lock rfl rfl rfl (by decide +kernel) ⟨Nat.le_of_ble_eq_true rfl, Nat.le_of_ble_eq_true rfl⟩) ⟨PW.blind, fun U hU hW9 => ⟨rfl, PW.at hC hS hW U hU hW9⟩⟩ rfl rfl hl.1 rfl (lv_room (Nat.le_of_ble_eq_true rfl)) dL_refuses_436 ⟨Nat.le_of_ble_eq_true rfl, Nat.le_of_ble_eq_true rfl⟩) hS (fun _ _ h => h) (fun _ h => h) (fun r u t H locs ht hvm hq hW hz9 hk9 hS => ?_)
  obtain rfl : r = (-72) := hq
  replace hW : Wd g σ μ o H := by rw [← ht]; exact hW
  refine lv_bipush (v := (-72)) hx hb dL_refuses_439 (by decide) ?_
  refine lv_icmp_ne (tgt := 533) hx hb dL_refuses_441 (by decide) (fun c4 => absurd c4 (by decide)) (fun _ => ?_)
  refine lv_aload_n hx hb dL_refuses_444 rfl (lv_at hl 11 rfl) ?_
  refine lv_iload hx hb dL_refuses_445 (lv_at hl 5 rfl) ?_
  refine lv_if_ne (tgt := 454) hx hb dL_refuses_447 (by decide) (fun _ => ?_) (fun c5 => absurd c5 (by decide))
  refine lv_iload hx hb dL_refuses_454 (lv_at hl 5 rfl) ?_
  refine lv_iconst (v := 1) hx hb dL_refuses_456 (by decide) ?_
  refine lv_icmp_ne (tgt := 466) hx hb dL_refuses_457 (by decide) (fun c6 => absurd c6 (by decide)) (fun _ => ?_)
  refine lv_sipush (v := 1000) hx hb dL_refuses_460 (by decide) ?_
  refine lv_goto (tgt := 468) hx hb dL_refuses_463 (by decide) ?_
  refine lv_iconst (v := 3) hx hb dL_refuses_468 (by decide) ?_
  refine va_calli (vx_runSW (As := [.ref (gA g 0), .int 1000, .int 3]) (rest := []) ⟨hx, hb, hml, hown, hts⟩ (mtL_lockR l g σ μ o hfl 1000 3 1 (-72) (kLo_1 (by decide +kernel)) (by decide)) (vx_cwSW 3 hts gL_refuses_L_lock rfl rfl rfl (by decide +kernel) ⟨Nat.le_of_ble_eq_true rfl, Nat.le_of_ble_eq_true rfl⟩) ⟨PW.blind, fun U hU hW9 => ⟨rfl, PW.at hC hS hW U hU hW9⟩⟩ rfl rfl hl.1 rfl (lv_room (Nat.le_of_ble_eq_true rfl)) dL_refuses_469 ⟨Nat.le_of_ble_eq_true rfl, Nat.le_of_ble_eq_true rfl⟩) hS (fun _ _ h => h) (fun _ h => h) (fun r u t H locs ht hvm hq hW hz9 hk9 hS => ?_)
  obtain rfl : r = (-72) := hq
  replace hW : Wd g σ μ o H := by rw [← ht]; exact hW
  refine lv_bipush (v := (-72)) hx hb dL_refuses_472 (by decide) ?_
  refine lv_icmp_ne (tgt := 533) hx hb dL_refuses_474 (by decide) (fun c7 => absurd c7 (by decide)) (fun _ => ?_)
  refine lv_aload_n hx hb dL_refuses_477 rfl (lv_at hl 11 rfl) ?_
  refine lv_iconst (v := 2) hx hb dL_refuses_478 (by decide) ?_
  refine lv_iload hx hb dL_refuses_479 (lv_at hl 4 rfl) ?_
  refine lv_iconst (v := 0) hx hb dL_refuses_481 (by decide) ?_
  refine va_calli (vx_runSW (As := [.ref (gA g 0), .int 2, .int gone, .int 0]) (rest := []) ⟨hx, hb, hml, hown, hts⟩ (mtL_act_2 l g σ μ o hfl gone 0 1 (-71) (kCh_1 (okC_f ng g1)) (by decide)) (vx_cwSW 4 hts gL_refuses_L_act rfl rfl rfl (by decide +kernel) ⟨Nat.le_of_ble_eq_true rfl, Nat.le_of_ble_eq_true rfl⟩) ⟨PW.blind, fun U hU hW9 => ⟨rfl, PW.at hC hS hW U hU hW9⟩⟩ rfl rfl hl.1 rfl (lv_room (Nat.le_of_ble_eq_true rfl)) dL_refuses_482 ⟨Nat.le_of_ble_eq_true rfl, Nat.le_of_ble_eq_true rfl⟩) hS (fun _ _ h => h) (fun _ h => h) (fun r u t H locs ht hvm hq hW hz9 hk9 hS => ?_)
  obtain rfl : r = (-71) := hq
  replace hW : Wd g σ μ o H := by rw [← ht]; exact hW
  refine lv_bipush (v := (-71)) hx hb dL_refuses_485 (by decide) ?_
  refine lv_icmp_ne (tgt := 533) hx hb dL_refuses_487 (by decide) (fun c8 => absurd c8 (by decide)) (fun _ => ?_)
  refine lv_aload_n hx hb dL_refuses_490 rfl (lv_at hl 11 rfl) ?_
  refine lv_iconst (v := 3) hx hb dL_refuses_491 (by decide) ?_
  refine lv_iload hx hb dL_refuses_492 (lv_at hl 4 rfl) ?_
  refine lv_iconst (v := 0) hx hb dL_refuses_494 (by decide) ?_
  refine va_calli (vx_runSW (As := [.ref (gA g 0), .int 3, .int gone, .int 0]) (rest := []) ⟨hx, hb, hml, hown, hts⟩ (mtL_act_3 l g σ μ o hfl gone 0 1 (-71) (kCo_1 (okC_f ng g1)) (by decide)) (vx_cwSW 4 hts gL_refuses_L_act rfl rfl rfl (by decide +kernel) ⟨Nat.le_of_ble_eq_true rfl, Nat.le_of_ble_eq_true rfl⟩) ⟨PW.blind, fun U hU hW9 => ⟨rfl, PW.at hC hS hW U hU hW9⟩⟩ rfl rfl hl.1 rfl (lv_room (Nat.le_of_ble_eq_true rfl)) dL_refuses_495 ⟨Nat.le_of_ble_eq_true rfl, Nat.le_of_ble_eq_true rfl⟩) hS (fun _ _ h => h) (fun _ h => h) (fun r u t H locs ht hvm hq hW hz9 hk9 hS => ?_)
  obtain rfl : r = (-71) := hq
  replace hW : Wd g σ μ o H := by rw [← ht]; exact hW
  refine lv_bipush (v := (-71)) hx hb dL_refuses_498 (by decide) ?_
  refine lv_icmp_ne (tgt := 533) hx hb dL_refuses_500 (by decide) (fun c9 => absurd c9 (by decide)) (fun _ => ?_)
  refine lv_aload_n hx hb dL_refuses_503 rfl (lv_at hl 11 rfl) ?_
  refine lv_iconst (v := 0) hx hb dL_refuses_504 (by decide) ?_
  refine lv_iload hx hb dL_refuses_505 (lv_at hl 4 rfl) ?_
  refine lv_iconst (v := 0) hx hb dL_refuses_507 (by decide) ?_
  refine va_calli (vx_runSW (As := [.ref (gA g 0), .int 0, .int gone, .int 0]) (rest := []) ⟨hx, hb, hml, hown, hts⟩ (mtL_act_0 l g σ μ o hfl gone 0 1 (-71) (kRem_1 ng) (by decide)) (vx_cwSW 4 hts gL_refuses_L_act rfl rfl rfl (by decide +kernel) ⟨Nat.le_of_ble_eq_true rfl, Nat.le_of_ble_eq_true rfl⟩) ⟨PW.blind, fun U hU hW9 => ⟨rfl, PW.at hC hS hW U hU hW9⟩⟩ rfl rfl hl.1 rfl (lv_room (Nat.le_of_ble_eq_true rfl)) dL_refuses_508 ⟨Nat.le_of_ble_eq_true rfl, Nat.le_of_ble_eq_true rfl⟩) hS (fun _ _ h => h) (fun _ h => h) (fun r u t H locs ht hvm hq hW hz9 hk9 hS => ?_)
  obtain rfl : r = (-71) := hq
  replace hW : Wd g σ μ o H := by rw [← ht]; exact hW
  refine lv_bipush (v := (-71)) hx hb dL_refuses_511 (by decide) ?_
  refine lv_icmp_ne (tgt := 533) hx hb dL_refuses_513 (by decide) (fun c10 => absurd c10 (by decide)) (fun _ => ?_)
  refine lv_aload_n hx hb dL_refuses_516 rfl (lv_at hl 11 rfl) ?_
  refine lv_iconst (v := 0) hx hb dL_refuses_517 (by decide) ?_
  refine lv_iload hx hb dL_refuses_518 (lv_at hl 3 rfl) ?_
  refine lv_iconst (v := 0) hx hb dL_refuses_520 (by decide) ?_
  refine va_calli (vx_runSW (As := [.ref (gA g 0), .int 0, .int (-1), .int 0]) (rest := []) ⟨hx, hb, hml, hown, hts⟩ (mtL_act_0 l g σ μ o hfl (-1) 0 1 (-71) (kRem_1 n1) (by decide)) (vx_cwSW 4 hts gL_refuses_L_act rfl rfl rfl (by decide +kernel) ⟨Nat.le_of_ble_eq_true rfl, Nat.le_of_ble_eq_true rfl⟩) ⟨PW.blind, fun U hU hW9 => ⟨rfl, PW.at hC hS hW U hU hW9⟩⟩ rfl rfl hl.1 rfl (lv_room (Nat.le_of_ble_eq_true rfl)) dL_refuses_521 ⟨Nat.le_of_ble_eq_true rfl, Nat.le_of_ble_eq_true rfl⟩) hS (fun _ _ h => h) (fun _ h => h) (fun r u t H locs ht hvm hq hW hz9 hk9 hS => ?_)
  obtain rfl : r = (-71) := hq
  replace hW : Wd g σ μ o H := by rw [← ht]; exact hW
  refine lv_bipush (v := (-71)) hx hb dL_refuses_524 (by decide) ?_
  refine lv_icmp_ne (tgt := 533) hx hb dL_refuses_526 (by decide) (fun c11 => absurd c11 (by decide)) (fun _ => ?_)
  refine lv_iconst (v := 1) hx hb dL_refuses_529 (by decide) ?_
  refine lv_goto (tgt := 534) hx hb dL_refuses_530 (by decide) ?_
  refine lv_istore (lv' := [(13, .int 1), (12, .int 3), (11, .int 100), (10, .int (-1)), (9, .int gone), (8, .int 1), (7, .int 2147483647), (6, .int (σ.2.2.1 0)), (5, .int (σ.1 6)), (4, .int (nxR σ)), (3, .int (nI (ct (thr σ.2.1) 16))), (0, .ref (gA g 0)), (1, .int here), (2, .int gone)]) hx hb dL_refuses_534 hl (by decide) rfl (fun ls hl => ?_)
  refine lv_bipush (v := 9) hx hb dL_refuses_536 (by decide) ?_
  refine lv_istore (lv' := [(14, .int 9), (13, .int 1), (12, .int 3), (11, .int 100), (10, .int (-1)), (9, .int gone), (8, .int 1), (7, .int 2147483647), (6, .int (σ.2.2.1 0)), (5, .int (σ.1 6)), (4, .int (nxR σ)), (3, .int (nI (ct (thr σ.2.1) 16))), (0, .ref (gA g 0)), (1, .int here), (2, .int gone)]) hx hb dL_refuses_538 hl (by decide) rfl (fun ls hl => ?_)
  refine lv_iload hx hb dL_refuses_540 (lv_at hl 0 rfl) ?_
  refine lv_bipush (v := 13) hx hb dL_refuses_542 (by decide) ?_
  refine lv_icmp_ge (tgt := 600) hx hb dL_refuses_544 (by decide) (fun c12 => absurd c12 (by decide)) (fun _ => ?_)
  refine lv_iload hx hb dL_refuses_547 (lv_at hl 1 rfl) ?_
  refine lv_if_eq (tgt := 591) hx hb dL_refuses_549 (by decide) (fun c13 => absurd c13 (by decide)) (fun _ => ?_)
  refine lv_iload hx hb dL_refuses_552 (lv_at hl 0 rfl) ?_
  refine lv_bipush (v := 11) hx hb dL_refuses_554 (by decide) ?_
  refine lv_icmp_eq (tgt := 587) hx hb dL_refuses_556 (by decide) (fun c14 => absurd c14 (by decide)) (fun _ => ?_)
  refine lv_aload_n hx hb dL_refuses_559 rfl (lv_at hl 12 rfl) ?_
  refine lv_iload hx hb dL_refuses_560 (lv_at hl 0 rfl) ?_
  refine lv_iload hx hb dL_refuses_562 (lv_at hl 5 rfl) ?_
  refine lv_iconst (v := 0) hx hb dL_refuses_564 (by decide) ?_
  refine va_calli (vx_runSW (As := [.ref (gA g 0), .int 9, .int gone, .int 0]) (rest := []) ⟨hx, hb, hml, hown, hts⟩ (mtL_act_9 l g σ μ o hfl gone 0 1 (-71) (kRem_1 ng) (by decide)) (vx_cwSW 4 hts gL_refuses_L_act rfl rfl rfl (by decide +kernel) ⟨Nat.le_of_ble_eq_true rfl, Nat.le_of_ble_eq_true rfl⟩) ⟨PW.blind, fun U hU hW9 => ⟨rfl, PW.at hC hS hW U hU hW9⟩⟩ rfl rfl hl.1 rfl (lv_room (Nat.le_of_ble_eq_true rfl)) dL_refuses_565 ⟨Nat.le_of_ble_eq_true rfl, Nat.le_of_ble_eq_true rfl⟩) hS (fun _ _ h => h) (fun _ h => h) (fun r u t H locs ht hvm hq hW hz9 hk9 hS => ?_)
  obtain rfl : r = (-71) := hq
  replace hW : Wd g σ μ o H := by rw [← ht]; exact hW
  refine lv_bipush (v := (-71)) hx hb dL_refuses_568 (by decide) ?_
  refine lv_icmp_ne (tgt := 591) hx hb dL_refuses_570 (by decide) (fun c15 => absurd c15 (by decide)) (fun _ => ?_)
  refine lv_aload_n hx hb dL_refuses_573 rfl (lv_at hl 12 rfl) ?_
  refine lv_iload hx hb dL_refuses_574 (lv_at hl 0 rfl) ?_
  refine lv_iload hx hb dL_refuses_576 (lv_at hl 4 rfl) ?_
  refine lv_iconst (v := 0) hx hb dL_refuses_578 (by decide) ?_
  refine va_calli (vx_runSW (As := [.ref (gA g 0), .int 9, .int (-1), .int 0]) (rest := []) ⟨hx, hb, hml, hown, hts⟩ (mtL_act_9 l g σ μ o hfl (-1) 0 1 (-71) (kRem_1 n1) (by decide)) (vx_cwSW 4 hts gL_refuses_L_act rfl rfl rfl (by decide +kernel) ⟨Nat.le_of_ble_eq_true rfl, Nat.le_of_ble_eq_true rfl⟩) ⟨PW.blind, fun U hU hW9 => ⟨rfl, PW.at hC hS hW U hU hW9⟩⟩ rfl rfl hl.1 rfl (lv_room (Nat.le_of_ble_eq_true rfl)) dL_refuses_579 ⟨Nat.le_of_ble_eq_true rfl, Nat.le_of_ble_eq_true rfl⟩) hS (fun _ _ h => h) (fun _ h => h) (fun r u t H locs ht hvm hq hW hz9 hk9 hS => ?_)
  obtain rfl : r = (-71) := hq
  replace hW : Wd g σ μ o H := by rw [← ht]; exact hW
  refine lv_bipush (v := (-71)) hx hb dL_refuses_582 (by decide) ?_
  refine lv_icmp_ne (tgt := 591) hx hb dL_refuses_584 (by decide) (fun c16 => absurd c16 (by decide)) (fun _ => ?_)
  refine lv_iconst (v := 1) hx hb dL_refuses_587 (by decide) ?_
  refine lv_goto (tgt := 592) hx hb dL_refuses_588 (by decide) ?_
  refine lv_istore (lv' := [(13, .int 1), (14, .int 9), (12, .int 3), (11, .int 100), (10, .int (-1)), (9, .int gone), (8, .int 1), (7, .int 2147483647), (6, .int (σ.2.2.1 0)), (5, .int (σ.1 6)), (4, .int (nxR σ)), (3, .int (nI (ct (thr σ.2.1) 16))), (0, .ref (gA g 0)), (1, .int here), (2, .int gone)]) hx hb dL_refuses_592 hl (by decide) rfl (fun ls hl => ?_)
  refine lv_iinc (v := 10) (lv' := [(14, .int 10), (13, .int 1), (12, .int 3), (11, .int 100), (10, .int (-1)), (9, .int gone), (8, .int 1), (7, .int 2147483647), (6, .int (σ.2.2.1 0)), (5, .int (σ.1 6)), (4, .int (nxR σ)), (3, .int (nI (ct (thr σ.2.1) 16))), (0, .ref (gA g 0)), (1, .int here), (2, .int gone)]) hx hb dL_refuses_594 hl (k := 1) rfl (by decide) (by decide) rfl (fun ls hl => ?_)
  refine lv_goto (tgt := 540) hx hb dL_refuses_597 (by decide) ?_
  refine lv_iload hx hb dL_refuses_540 (lv_at hl 0 rfl) ?_
  refine lv_bipush (v := 13) hx hb dL_refuses_542 (by decide) ?_
  refine lv_icmp_ge (tgt := 600) hx hb dL_refuses_544 (by decide) (fun c17 => absurd c17 (by decide)) (fun _ => ?_)
  refine lv_iload hx hb dL_refuses_547 (lv_at hl 1 rfl) ?_
  refine lv_if_eq (tgt := 591) hx hb dL_refuses_549 (by decide) (fun c18 => absurd c18 (by decide)) (fun _ => ?_)
  refine lv_iload hx hb dL_refuses_552 (lv_at hl 0 rfl) ?_
  refine lv_bipush (v := 11) hx hb dL_refuses_554 (by decide) ?_
  refine lv_icmp_eq (tgt := 587) hx hb dL_refuses_556 (by decide) (fun c19 => absurd c19 (by decide)) (fun _ => ?_)
  refine lv_aload_n hx hb dL_refuses_559 rfl (lv_at hl 12 rfl) ?_
  refine lv_iload hx hb dL_refuses_560 (lv_at hl 0 rfl) ?_
  refine lv_iload hx hb dL_refuses_562 (lv_at hl 5 rfl) ?_
  refine lv_iconst (v := 0) hx hb dL_refuses_564 (by decide) ?_
  refine va_calli (vx_runSW (As := [.ref (gA g 0), .int 10, .int gone, .int 0]) (rest := []) ⟨hx, hb, hml, hown, hts⟩ (mtL_act_10 l g σ μ o hfl gone 0 1 (-71) (kRem_1 ng) (by decide)) (vx_cwSW 4 hts gL_refuses_L_act rfl rfl rfl (by decide +kernel) ⟨Nat.le_of_ble_eq_true rfl, Nat.le_of_ble_eq_true rfl⟩) ⟨PW.blind, fun U hU hW9 => ⟨rfl, PW.at hC hS hW U hU hW9⟩⟩ rfl rfl hl.1 rfl (lv_room (Nat.le_of_ble_eq_true rfl)) dL_refuses_565 ⟨Nat.le_of_ble_eq_true rfl, Nat.le_of_ble_eq_true rfl⟩) hS (fun _ _ h => h) (fun _ h => h) (fun r u t H locs ht hvm hq hW hz9 hk9 hS => ?_)
  obtain rfl : r = (-71) := hq
  replace hW : Wd g σ μ o H := by rw [← ht]; exact hW
  refine lv_bipush (v := (-71)) hx hb dL_refuses_568 (by decide) ?_
  refine lv_icmp_ne (tgt := 591) hx hb dL_refuses_570 (by decide) (fun c20 => absurd c20 (by decide)) (fun _ => ?_)
  refine lv_aload_n hx hb dL_refuses_573 rfl (lv_at hl 12 rfl) ?_
  refine lv_iload hx hb dL_refuses_574 (lv_at hl 0 rfl) ?_
  refine lv_iload hx hb dL_refuses_576 (lv_at hl 4 rfl) ?_
  refine lv_iconst (v := 0) hx hb dL_refuses_578 (by decide) ?_
  refine va_calli (vx_runSW (As := [.ref (gA g 0), .int 10, .int (-1), .int 0]) (rest := []) ⟨hx, hb, hml, hown, hts⟩ (mtL_act_10 l g σ μ o hfl (-1) 0 1 (-71) (kRem_1 n1) (by decide)) (vx_cwSW 4 hts gL_refuses_L_act rfl rfl rfl (by decide +kernel) ⟨Nat.le_of_ble_eq_true rfl, Nat.le_of_ble_eq_true rfl⟩) ⟨PW.blind, fun U hU hW9 => ⟨rfl, PW.at hC hS hW U hU hW9⟩⟩ rfl rfl hl.1 rfl (lv_room (Nat.le_of_ble_eq_true rfl)) dL_refuses_579 ⟨Nat.le_of_ble_eq_true rfl, Nat.le_of_ble_eq_true rfl⟩) hS (fun _ _ h => h) (fun _ h => h) (fun r u t H locs ht hvm hq hW hz9 hk9 hS => ?_)
  obtain rfl : r = (-71) := hq
  replace hW : Wd g σ μ o H := by rw [← ht]; exact hW
  refine lv_bipush (v := (-71)) hx hb dL_refuses_582 (by decide) ?_
  refine lv_icmp_ne (tgt := 591) hx hb dL_refuses_584 (by decide) (fun c21 => absurd c21 (by decide)) (fun _ => ?_)
  refine lv_iconst (v := 1) hx hb dL_refuses_587 (by decide) ?_
  refine lv_goto (tgt := 592) hx hb dL_refuses_588 (by decide) ?_
  refine lv_istore (lv' := [(13, .int 1), (14, .int 10), (12, .int 3), (11, .int 100), (10, .int (-1)), (9, .int gone), (8, .int 1), (7, .int 2147483647), (6, .int (σ.2.2.1 0)), (5, .int (σ.1 6)), (4, .int (nxR σ)), (3, .int (nI (ct (thr σ.2.1) 16))), (0, .ref (gA g 0)), (1, .int here), (2, .int gone)]) hx hb dL_refuses_592 hl (by decide) rfl (fun ls hl => ?_)
  refine lv_iinc (v := 11) (lv' := [(14, .int 11), (13, .int 1), (12, .int 3), (11, .int 100), (10, .int (-1)), (9, .int gone), (8, .int 1), (7, .int 2147483647), (6, .int (σ.2.2.1 0)), (5, .int (σ.1 6)), (4, .int (nxR σ)), (3, .int (nI (ct (thr σ.2.1) 16))), (0, .ref (gA g 0)), (1, .int here), (2, .int gone)]) hx hb dL_refuses_594 hl (k := 1) rfl (by decide) (by decide) rfl (fun ls hl => ?_)
  refine lv_goto (tgt := 540) hx hb dL_refuses_597 (by decide) ?_
  refine lv_iload hx hb dL_refuses_540 (lv_at hl 0 rfl) ?_
  refine lv_bipush (v := 13) hx hb dL_refuses_542 (by decide) ?_
  refine lv_icmp_ge (tgt := 600) hx hb dL_refuses_544 (by decide) (fun c22 => absurd c22 (by decide)) (fun _ => ?_)
  refine lv_iload hx hb dL_refuses_547 (lv_at hl 1 rfl) ?_
  refine lv_if_eq (tgt := 591) hx hb dL_refuses_549 (by decide) (fun c23 => absurd c23 (by decide)) (fun _ => ?_)
  refine lv_iload hx hb dL_refuses_552 (lv_at hl 0 rfl) ?_
  refine lv_bipush (v := 11) hx hb dL_refuses_554 (by decide) ?_
  refine lv_icmp_eq (tgt := 587) hx hb dL_refuses_556 (by decide) (fun _ => ?_) (fun c24 => absurd c24 (by decide))
  refine lv_iconst (v := 1) hx hb dL_refuses_587 (by decide) ?_
  refine lv_goto (tgt := 592) hx hb dL_refuses_588 (by decide) ?_
  refine lv_istore (lv' := [(13, .int 1), (14, .int 11), (12, .int 3), (11, .int 100), (10, .int (-1)), (9, .int gone), (8, .int 1), (7, .int 2147483647), (6, .int (σ.2.2.1 0)), (5, .int (σ.1 6)), (4, .int (nxR σ)), (3, .int (nI (ct (thr σ.2.1) 16))), (0, .ref (gA g 0)), (1, .int here), (2, .int gone)]) hx hb dL_refuses_592 hl (by decide) rfl (fun ls hl => ?_)
  refine lv_iinc (v := 12) (lv' := [(14, .int 12), (13, .int 1), (12, .int 3), (11, .int 100), (10, .int (-1)), (9, .int gone), (8, .int 1), (7, .int 2147483647), (6, .int (σ.2.2.1 0)), (5, .int (σ.1 6)), (4, .int (nxR σ)), (3, .int (nI (ct (thr σ.2.1) 16))), (0, .ref (gA g 0)), (1, .int here), (2, .int gone)]) hx hb dL_refuses_594 hl (k := 1) rfl (by decide) (by decide) rfl (fun ls hl => ?_)
  refine lv_goto (tgt := 540) hx hb dL_refuses_597 (by decide) ?_
  refine lv_iload hx hb dL_refuses_540 (lv_at hl 0 rfl) ?_
  refine lv_bipush (v := 13) hx hb dL_refuses_542 (by decide) ?_
  refine lv_icmp_ge (tgt := 600) hx hb dL_refuses_544 (by decide) (fun c25 => absurd c25 (by decide)) (fun _ => ?_)
  refine lv_iload hx hb dL_refuses_547 (lv_at hl 1 rfl) ?_
  refine lv_if_eq (tgt := 591) hx hb dL_refuses_549 (by decide) (fun c26 => absurd c26 (by decide)) (fun _ => ?_)
  refine lv_iload hx hb dL_refuses_552 (lv_at hl 0 rfl) ?_
  refine lv_bipush (v := 11) hx hb dL_refuses_554 (by decide) ?_
  refine lv_icmp_eq (tgt := 587) hx hb dL_refuses_556 (by decide) (fun c27 => absurd c27 (by decide)) (fun _ => ?_)
  refine lv_aload_n hx hb dL_refuses_559 rfl (lv_at hl 12 rfl) ?_
  refine lv_iload hx hb dL_refuses_560 (lv_at hl 0 rfl) ?_
  refine lv_iload hx hb dL_refuses_562 (lv_at hl 5 rfl) ?_
  refine lv_iconst (v := 0) hx hb dL_refuses_564 (by decide) ?_
  refine va_calli (vx_runSW (As := [.ref (gA g 0), .int 12, .int gone, .int 0]) (rest := []) ⟨hx, hb, hml, hown, hts⟩ (mtL_act_12 l g σ μ o hfl gone 0 1 (-71) (kRem_1 ng) (by decide)) (vx_cwSW 4 hts gL_refuses_L_act rfl rfl rfl (by decide +kernel) ⟨Nat.le_of_ble_eq_true rfl, Nat.le_of_ble_eq_true rfl⟩) ⟨PW.blind, fun U hU hW9 => ⟨rfl, PW.at hC hS hW U hU hW9⟩⟩ rfl rfl hl.1 rfl (lv_room (Nat.le_of_ble_eq_true rfl)) dL_refuses_565 ⟨Nat.le_of_ble_eq_true rfl, Nat.le_of_ble_eq_true rfl⟩) hS (fun _ _ h => h) (fun _ h => h) (fun r u t H locs ht hvm hq hW hz9 hk9 hS => ?_)
  obtain rfl : r = (-71) := hq
  replace hW : Wd g σ μ o H := by rw [← ht]; exact hW
  refine lv_bipush (v := (-71)) hx hb dL_refuses_568 (by decide) ?_
  refine lv_icmp_ne (tgt := 591) hx hb dL_refuses_570 (by decide) (fun c28 => absurd c28 (by decide)) (fun _ => ?_)
  refine lv_aload_n hx hb dL_refuses_573 rfl (lv_at hl 12 rfl) ?_
  refine lv_iload hx hb dL_refuses_574 (lv_at hl 0 rfl) ?_
  refine lv_iload hx hb dL_refuses_576 (lv_at hl 4 rfl) ?_
  refine lv_iconst (v := 0) hx hb dL_refuses_578 (by decide) ?_
  refine va_calli (vx_runSW (As := [.ref (gA g 0), .int 12, .int (-1), .int 0]) (rest := []) ⟨hx, hb, hml, hown, hts⟩ (mtL_act_12 l g σ μ o hfl (-1) 0 1 (-71) (kRem_1 n1) (by decide)) (vx_cwSW 4 hts gL_refuses_L_act rfl rfl rfl (by decide +kernel) ⟨Nat.le_of_ble_eq_true rfl, Nat.le_of_ble_eq_true rfl⟩) ⟨PW.blind, fun U hU hW9 => ⟨rfl, PW.at hC hS hW U hU hW9⟩⟩ rfl rfl hl.1 rfl (lv_room (Nat.le_of_ble_eq_true rfl)) dL_refuses_579 ⟨Nat.le_of_ble_eq_true rfl, Nat.le_of_ble_eq_true rfl⟩) hS (fun _ _ h => h) (fun _ h => h) (fun r u t H locs ht hvm hq hW hz9 hk9 hS => ?_)
  obtain rfl : r = (-71) := hq
  replace hW : Wd g σ μ o H := by rw [← ht]; exact hW
  refine lv_bipush (v := (-71)) hx hb dL_refuses_582 (by decide) ?_
  refine lv_icmp_ne (tgt := 591) hx hb dL_refuses_584 (by decide) (fun c29 => absurd c29 (by decide)) (fun _ => ?_)
  refine lv_iconst (v := 1) hx hb dL_refuses_587 (by decide) ?_
  refine lv_goto (tgt := 592) hx hb dL_refuses_588 (by decide) ?_
  refine lv_istore (lv' := [(13, .int 1), (14, .int 12), (12, .int 3), (11, .int 100), (10, .int (-1)), (9, .int gone), (8, .int 1), (7, .int 2147483647), (6, .int (σ.2.2.1 0)), (5, .int (σ.1 6)), (4, .int (nxR σ)), (3, .int (nI (ct (thr σ.2.1) 16))), (0, .ref (gA g 0)), (1, .int here), (2, .int gone)]) hx hb dL_refuses_592 hl (by decide) rfl (fun ls hl => ?_)
  refine lv_iinc (v := 13) (lv' := [(14, .int 13), (13, .int 1), (12, .int 3), (11, .int 100), (10, .int (-1)), (9, .int gone), (8, .int 1), (7, .int 2147483647), (6, .int (σ.2.2.1 0)), (5, .int (σ.1 6)), (4, .int (nxR σ)), (3, .int (nI (ct (thr σ.2.1) 16))), (0, .ref (gA g 0)), (1, .int here), (2, .int gone)]) hx hb dL_refuses_594 hl (k := 1) rfl (by decide) (by decide) rfl (fun ls hl => ?_)
  refine lv_goto (tgt := 540) hx hb dL_refuses_597 (by decide) ?_
  refine lv_iload hx hb dL_refuses_540 (lv_at hl 0 rfl) ?_
  refine lv_bipush (v := 13) hx hb dL_refuses_542 (by decide) ?_
  refine lv_icmp_ge (tgt := 600) hx hb dL_refuses_544 (by decide) (fun _ => ?_) (fun c30 => absurd c30 (by decide))
  refine lv_iload hx hb dL_refuses_600 (lv_at hl 1 rfl) ?_
  refine lv_if_ne (tgt := 607) hx hb dL_refuses_602 (by decide) (fun _ => ?_) (fun c31 => absurd c31 (by decide))
  refine lv_iinc (v := 2) (lv' := [(8, .int 2), (14, .int 13), (13, .int 1), (12, .int 3), (11, .int 100), (10, .int (-1)), (9, .int gone), (7, .int 2147483647), (6, .int (σ.2.2.1 0)), (5, .int (σ.1 6)), (4, .int (nxR σ)), (3, .int (nI (ct (thr σ.2.1) 16))), (0, .ref (gA g 0)), (1, .int here), (2, .int gone)]) hx hb dL_refuses_607 hl (k := 6) rfl (by decide) (by decide) rfl (fun ls hl => ?_)
  refine lv_goto (tgt := 30) hx hb dL_refuses_610 (by decide) ?_
  exact kk H locs ls hW hS (by exact lv_sub hl [0, 7, 8, 9, 10, 11, 12, 13, 14] rfl)
