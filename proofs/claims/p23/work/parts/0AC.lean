def zlC (p : Program) (l : Launch) (s : State) (m : MethodId) (meth : Method) (c : Code) (g : Ge) : Prop := lmC wsL_locks cL_locks (some .boolean) 2 p s m ([] : List Value).toArray meth c ∧ cx g s s.heap ∧ l.stackTraces = false
def zlG (p : Program) (l : Launch) (e : Env) (s : State) (m : MethodId) (below : List Frame) (meth : Method) (c : Code) (g : Ge) (σ : Sg) (pc : Nat) (lv : List (Nat × Value)) (cells slots : Nat) : Prop :=
  ∀ (H : Heap) (locs : List Loc) (ls : Array Slot), Wd g σ m00 O00 H → va_S (Az g) s.heap H locs → lv_has ls 2 lv →
    W p l e (headSpec wsL_locks ({ frames := 10, cells := 472, slots := 2882, locals := 195 } : Room)).room s m ([] : List Value).toArray below meth c H locs cells slots (MQ below (va_Qi (S := Unit) (fun r _ => r = 1) (fun _ _ => True) (Az g)) ([] : List Value).toArray s 472 2882 (Az g)) (F0 m pc ls [])
set_option maxHeartbeats 4000000 in
set_option maxRecDepth 100000 in
theorem zl_0 {p : Program} {l : Launch} {e : Env} {s : State} {m : MethodId} {below : List Frame} {meth : Method} {c : Code} {g : Ge} (C0 : zlC p l s m meth c g) (kk : zlG p l e s m below meth c g zl7 98 [(0, .ref (gA g 0))] 197 1232) : zlG p l e s m below meth c g zl0 8 [(0, .ref (gA g 0))] 20 170 := by
  obtain ⟨⟨hx, hb, hr, hml, hts, hown, hlocks⟩, hC, hfl⟩ := C0
  intro H locs ls hW hS hl
  have hl : lv_has ls 2 [(0, .ref (gA g 0))] := hl
  refine lv_aload_n hx hb dL_locks_8 rfl (lv_at hl 0 rfl) ?_
  refine lv_iconst (v := 0) hx hb dL_locks_9 (by decide) ?_
  refine lv_iconst (v := 5) hx hb dL_locks_10 (by decide) ?_
  refine lv_ldc (v := 1002003) hx hb hown (hts (.constant RL 97 (1002003)) (by decide +kernel)) dL_locks_11 ?_
  refine lv_iconst (v := 1) hx hb dL_locks_13 (by decide) ?_
  refine lv_iconst (v := (-1)) hx hb dL_locks_14 (by decide) ?_
  refine cOKi (v := 0) (τ := zl1) (vx_runV (As := [.int 0, .int 5, .int 1002003, .int 1, .int (-1)]) (rest := []) ⟨hx, hb, hml, hown, hts⟩ (mtX2_add l hfl g zl0 m00 O00 0 5 1002003 1 (-1)) (cwV 5 hts gL_locks_X2_add rfl rfl rfl (by decide +kernel) ⟨Nat.le_of_ble_eq_true rfl, Nat.le_of_ble_eq_true rfl⟩) ⟨PW.blind, rcB hC hW, fun U hU hW9 => ⟨rfl, PW.at hC hS hW U hU hW9⟩⟩ rfl rfl hl.1 rfl (lv_room (Nat.le_of_ble_eq_true rfl)) dL_locks_15 ⟨Nat.le_of_ble_eq_true rfl, Nat.le_of_ble_eq_true rfl⟩) hS (fun _ _ _ q => no_2 (ok_add (g := g) (μ := m00) (o := O00) zlq1).1 q) (ok_add zlq1).2 (fun H locs hW hS => ?_)
  refine lv_if_ne (tgt := 156) hx hb dL_locks_18 (by decide) (fun c1 => absurd c1 (by decide)) (fun _ => ?_)
  refine lv_aload_n hx hb dL_locks_21 rfl (lv_at hl 0 rfl) ?_
  refine lv_bipush (v := 12) hx hb dL_locks_22 (by decide) ?_
  refine lv_iconst (v := 3) hx hb dL_locks_24 (by decide) ?_
  refine va_calli (vx_runSW (As := [.ref (gA g 0), .int 12, .int 3]) (rest := []) ⟨hx, hb, hml, hown, hts⟩ (mtL_lockS l g zl1 m00 O00 hfl 12 3 zlq2) (vx_cwSW 3 hts gL_locks_L_lock rfl rfl rfl (by decide +kernel) ⟨Nat.le_of_ble_eq_true rfl, Nat.le_of_ble_eq_true rfl⟩) ⟨PW.blind, fun U hU hW9 => ⟨rfl, PW.at hC hS hW U hU hW9⟩⟩ rfl rfl hl.1 rfl (lv_room (Nat.le_of_ble_eq_true rfl)) dL_locks_25 ⟨Nat.le_of_ble_eq_true rfl, Nat.le_of_ble_eq_true rfl⟩) hS (fun _ _ h => h) (fun _ h => h) (fun r u t H locs ht hvm hq hW hz9 hk9 hS => ?_)
  obtain rfl : r = 0 := hq
  replace hW : Wd g zl2 m00 O00 H := Wd_eq zlq3 (by rw [← ht]; exact hW)
  refine lv_if_ne (tgt := 156) hx hb dL_locks_28 (by decide) (fun c2 => absurd c2 (by decide)) (fun _ => ?_)
  refine lv_aload_n hx hb dL_locks_31 rfl (lv_at hl 0 rfl) ?_
  refine vp_callSi (va_Run.run (va_runV (As := []) (rest := []) ⟨hx, hb, hml, hown, hts⟩ (mtX2_isLocked l g zl2 m00 O00 (hk0_of (Or.inr zlq4))) (cwV 0 hts gL_locks_X2_isLocked rfl rfl rfl (by decide +kernel) ⟨Nat.le_of_ble_eq_true rfl, Nat.le_of_ble_eq_true rfl⟩) ⟨PW.blind, rcB hC hW, fun U hU hW9 => ⟨rfl, PW.at hC hS hW U hU hW9⟩⟩ rfl rfl hl.1 rfl (lv_room (Nat.le_of_ble_eq_true rfl)) dL_locks_32 ⟨Nat.le_of_ble_eq_true rfl, Nat.le_of_ble_eq_true rfl⟩)) (fun r3 h4 => ?_)
  obtain rfl : r3 = 1 := h4.trans zlq4
  refine lv_if_eq (tgt := 156) hx hb dL_locks_35 (by decide) (fun c5 => absurd c5 (by decide)) (fun _ => ?_)
  refine lv_aload_n hx hb dL_locks_38 rfl (lv_at hl 0 rfl) ?_
  refine lv_iconst (v := 0) hx hb dL_locks_39 (by decide) ?_
  refine cOKi (v := 409879) (τ := zl2) (vx_runV (As := [.int 0]) (rest := []) ⟨hx, hb, hml, hown, hts⟩ (mtX2_foretold l hfl g zl2 m00 O00 0) (cwV 1 hts gL_locks_X2_foretold rfl rfl rfl (by decide +kernel) ⟨Nat.le_of_ble_eq_true rfl, Nat.le_of_ble_eq_true rfl⟩) ⟨PW.blind, rcB hC hW, fun U hU hW9 => ⟨rfl, PW.at hC hS hW U hU hW9⟩⟩ rfl rfl hl.1 rfl (lv_room (Nat.le_of_ble_eq_true rfl)) dL_locks_40 ⟨Nat.le_of_ble_eq_true rfl, Nat.le_of_ble_eq_true rfl⟩) hS (fun _ _ _ q => no_1 (ok_foretold (g := g) (μ := m00) (o := O00) zlq5).1 q) (ok_foretold zlq5).2 (fun H locs hW hS => ?_)
  refine lv_ldc (v := 409879) hx hb hown (hts (.constant RL 109 (409879)) (by decide +kernel)) dL_locks_43 ?_
  refine lv_icmp_ne (tgt := 156) hx hb dL_locks_45 (by decide) (fun c6 => absurd c6 (by decide)) (fun _ => ?_)
  refine lv_aload_n hx hb dL_locks_48 rfl (lv_at hl 0 rfl) ?_
  refine lv_iconst (v := 0) hx hb dL_locks_49 (by decide) ?_
  refine lv_iconst (v := 1) hx hb dL_locks_50 (by decide) ?_
  refine va_calli (va_runS (As := [.ref (gA g 0), .int 0, .int 1]) (rest := []) ⟨hx, hb, hml, hown, hts⟩ (mtL_refuses l g zl2 m00 O00 hfl 0 1 0 3 (ok_ref zlq6).1 (ok_ref zlq6).2.1 (ok_ref zlq6).2.2.1 (ok_ref zlq6).2.2.2.1 (ok_ref zlq6).2.2.2.2) (va_cwS 3 hts gL_locks_L_refuses rfl rfl rfl (by decide +kernel) ⟨Nat.le_of_ble_eq_true rfl, Nat.le_of_ble_eq_true rfl⟩) ⟨PW.blind, fun U hU hW9 => ⟨rfl, PW.at hC hS hW U hU hW9⟩⟩ rfl rfl hl.1 rfl (lv_room (Nat.le_of_ble_eq_true rfl)) dL_locks_51 ⟨Nat.le_of_ble_eq_true rfl, Nat.le_of_ble_eq_true rfl⟩) hS (fun _ _ h => h) (fun _ h => h) (fun r u t H locs ht hvm hq hW hz9 hk9 hS => ?_)
  obtain rfl : r = 1 := hq
  replace hW : Wd g zl2 m00 O00 H := by rw [← ht]; exact hW
  refine lv_if_eq (tgt := 156) hx hb dL_locks_54 (by decide) (fun c7 => absurd c7 (by decide)) (fun _ => ?_)
  refine lv_aload_n hx hb dL_locks_57 rfl (lv_at hl 0 rfl) ?_
  refine lv_iconst (v := 0) hx hb dL_locks_58 (by decide) ?_
  refine cOKi (v := (-1)) (τ := zl3) (vx_runV (As := [.int 0]) (rest := []) ⟨hx, hb, hml, hown, hts⟩ (mtX2_chooseOnce l hfl g zl2 m00 O00 0) (cwV 1 hts gL_locks_X2_chooseOnce rfl rfl rfl (by decide +kernel) ⟨Nat.le_of_ble_eq_true rfl, Nat.le_of_ble_eq_true rfl⟩) ⟨PW.blind, rcB hC hW, fun U hU hW9 => ⟨rfl, PW.at hC hS hW U hU hW9⟩⟩ rfl rfl hl.1 rfl (lv_room (Nat.le_of_ble_eq_true rfl)) dL_locks_59 ⟨Nat.le_of_ble_eq_true rfl, Nat.le_of_ble_eq_true rfl⟩) hS (fun _ _ _ q => no_1 (ok_chooseOnce (g := g) (μ := m00) (o := O00) zlq7).1 q) (ok_chooseOnce zlq7).2 (fun H locs hW hS => ?_)
  refine lv_iconst (v := (-1)) hx hb dL_locks_62 (by decide) ?_
  refine lv_icmp_ne (tgt := 156) hx hb dL_locks_63 (by decide) (fun c8 => absurd c8 (by decide)) (fun _ => ?_)
  refine lv_aload_n hx hb dL_locks_66 rfl (lv_at hl 0 rfl) ?_
  refine lv_iconst (v := 0) hx hb dL_locks_67 (by decide) ?_
  refine cOKi (v := 0) (τ := zl4) (vx_runV (As := [.int 0]) (rest := []) ⟨hx, hb, hml, hown, hts⟩ (mtX2_enter l hfl g zl3 m00 O00 0 0 3 (ok_enter (g := g) (μ := m00) (o := O00) zlq8).1.1 (ok_enter (g := g) (μ := m00) (o := O00) zlq8).1.2.1 (ok_enter (g := g) (μ := m00) (o := O00) zlq8).1.2.2.1 (ok_enter (g := g) (μ := m00) (o := O00) zlq8).1.2.2.2) (cwV 1 hts gL_locks_X2_enter rfl rfl rfl (by decide +kernel) ⟨Nat.le_of_ble_eq_true rfl, Nat.le_of_ble_eq_true rfl⟩) ⟨PW.blind, rcB hC hW, fun U hU hW9 => ⟨rfl, PW.at hC hS hW U hU hW9⟩⟩ rfl rfl hl.1 rfl (lv_room (Nat.le_of_ble_eq_true rfl)) dL_locks_68 ⟨Nat.le_of_ble_eq_true rfl, Nat.le_of_ble_eq_true rfl⟩) hS (fun _ _ _ q => no_2 (ok_enter (g := g) (μ := m00) (o := O00) zlq8).2.1 q) (ok_enter zlq8).2.2 (fun H locs hW hS => ?_)
  refine lv_if_ne (tgt := 156) hx hb dL_locks_71 (by decide) (fun c9 => absurd c9 (by decide)) (fun _ => ?_)
  refine lv_aload_n hx hb dL_locks_74 rfl (lv_at hl 0 rfl) ?_
  refine lv_iconst (v := 0) hx hb dL_locks_75 (by decide) ?_
  refine cOKi (v := 0) (τ := zl5) (vx_runV (As := [.int 0]) (rest := []) ⟨hx, hb, hml, hown, hts⟩ (mtX2_enter l hfl g zl4 m00 O00 0 1 3 (ok_enter (g := g) (μ := m00) (o := O00) zlq9).1.1 (ok_enter (g := g) (μ := m00) (o := O00) zlq9).1.2.1 (ok_enter (g := g) (μ := m00) (o := O00) zlq9).1.2.2.1 (ok_enter (g := g) (μ := m00) (o := O00) zlq9).1.2.2.2) (cwV 1 hts gL_locks_X2_enter rfl rfl rfl (by decide +kernel) ⟨Nat.le_of_ble_eq_true rfl, Nat.le_of_ble_eq_true rfl⟩) ⟨PW.blind, rcB hC hW, fun U hU hW9 => ⟨rfl, PW.at hC hS hW U hU hW9⟩⟩ rfl rfl hl.1 rfl (lv_room (Nat.le_of_ble_eq_true rfl)) dL_locks_76 ⟨Nat.le_of_ble_eq_true rfl, Nat.le_of_ble_eq_true rfl⟩) hS (fun _ _ _ q => no_2 (ok_enter (g := g) (μ := m00) (o := O00) zlq9).2.1 q) (ok_enter zlq9).2.2 (fun H locs hW hS => ?_)
  refine lv_if_ne (tgt := 156) hx hb dL_locks_79 (by decide) (fun c10 => absurd c10 (by decide)) (fun _ => ?_)
  refine lv_aload_n hx hb dL_locks_82 rfl (lv_at hl 0 rfl) ?_
  refine lv_iconst (v := 1) hx hb dL_locks_83 (by decide) ?_
  refine cOKi (v := 0) (τ := zl6) (vx_runV (As := [.int 1]) (rest := []) ⟨hx, hb, hml, hown, hts⟩ (mtX2_enter l hfl g zl5 m00 O00 1 2 3 (ok_enter (g := g) (μ := m00) (o := O00) zlq10).1.1 (ok_enter (g := g) (μ := m00) (o := O00) zlq10).1.2.1 (ok_enter (g := g) (μ := m00) (o := O00) zlq10).1.2.2.1 (ok_enter (g := g) (μ := m00) (o := O00) zlq10).1.2.2.2) (cwV 1 hts gL_locks_X2_enter rfl rfl rfl (by decide +kernel) ⟨Nat.le_of_ble_eq_true rfl, Nat.le_of_ble_eq_true rfl⟩) ⟨PW.blind, rcB hC hW, fun U hU hW9 => ⟨rfl, PW.at hC hS hW U hU hW9⟩⟩ rfl rfl hl.1 rfl (lv_room (Nat.le_of_ble_eq_true rfl)) dL_locks_84 ⟨Nat.le_of_ble_eq_true rfl, Nat.le_of_ble_eq_true rfl⟩) hS (fun _ _ _ q => no_2 (ok_enter (g := g) (μ := m00) (o := O00) zlq10).2.1 q) (ok_enter zlq10).2.2 (fun H locs hW hS => ?_)
  refine lv_if_ne (tgt := 156) hx hb dL_locks_87 (by decide) (fun c11 => absurd c11 (by decide)) (fun _ => ?_)
  refine lv_aload_n hx hb dL_locks_90 rfl (lv_at hl 0 rfl) ?_
  refine lv_iconst (v := 2) hx hb dL_locks_91 (by decide) ?_
  refine cOKi (v := 1) (τ := zl7) (vx_runV (As := [.int 2]) (rest := []) ⟨hx, hb, hml, hown, hts⟩ (mtX2_enter l hfl g zl6 m00 O00 2 3 3 (ok_enter (g := g) (μ := m00) (o := O00) zlq11).1.1 (ok_enter (g := g) (μ := m00) (o := O00) zlq11).1.2.1 (ok_enter (g := g) (μ := m00) (o := O00) zlq11).1.2.2.1 (ok_enter (g := g) (μ := m00) (o := O00) zlq11).1.2.2.2) (cwV 1 hts gL_locks_X2_enter rfl rfl rfl (by decide +kernel) ⟨Nat.le_of_ble_eq_true rfl, Nat.le_of_ble_eq_true rfl⟩) ⟨PW.blind, rcB hC hW, fun U hU hW9 => ⟨rfl, PW.at hC hS hW U hU hW9⟩⟩ rfl rfl hl.1 rfl (lv_room (Nat.le_of_ble_eq_true rfl)) dL_locks_92 ⟨Nat.le_of_ble_eq_true rfl, Nat.le_of_ble_eq_true rfl⟩) hS (fun _ _ _ q => no_2 (ok_enter (g := g) (μ := m00) (o := O00) zlq11).2.1 q) (ok_enter zlq11).2.2 (fun H locs hW hS => ?_)
  refine lv_if_eq (tgt := 156) hx hb dL_locks_95 (by decide) (fun c12 => absurd c12 (by decide)) (fun _ => ?_)
  refine W.widen (k := 197) (n := 1232) (Nat.le_of_ble_eq_true rfl) (Nat.le_of_ble_eq_true rfl) ?_
  exact kk H locs ls hW hS (by exact lv_sub hl [0] rfl)
set_option maxHeartbeats 4000000 in
set_option maxRecDepth 100000 in
theorem zl_1 {p : Program} {l : Launch} {e : Env} {s : State} {m : MethodId} {below : List Frame} {meth : Method} {c : Code} {g : Ge} (C0 : zlC p l s m meth c g) (kk : zlG p l e s m below meth c g zl13 179 [(0, .ref (gA g 0)), (1, .int 3)] 215 1340) : zlG p l e s m below meth c g zl7 98 [(0, .ref (gA g 0))] 197 1232 := by
  obtain ⟨⟨hx, hb, hr, hml, hts, hown, hlocks⟩, hC, hfl⟩ := C0
  intro H locs ls hW hS hl
  have hl : lv_has ls 2 [(0, .ref (gA g 0))] := hl
  refine lv_aload_n hx hb dL_locks_98 rfl (lv_at hl 0 rfl) ?_
  refine vp_callSi (va_Run.run (va_runV (As := []) (rest := []) ⟨hx, hb, hml, hown, hts⟩ (mtX2_isLocked l g zl7 m00 O00 (hk0_of (Or.inl zlq12))) (cwV 0 hts gL_locks_X2_isLocked rfl rfl rfl (by decide +kernel) ⟨Nat.le_of_ble_eq_true rfl, Nat.le_of_ble_eq_true rfl⟩) ⟨PW.blind, rcB hC hW, fun U hU hW9 => ⟨rfl, PW.at hC hS hW U hU hW9⟩⟩ rfl rfl hl.1 rfl (lv_room (Nat.le_of_ble_eq_true rfl)) dL_locks_99 ⟨Nat.le_of_ble_eq_true rfl, Nat.le_of_ble_eq_true rfl⟩)) (fun r13 h14 => ?_)
  obtain rfl : r13 = 0 := h14.trans zlq12
  refine lv_if_ne (tgt := 156) hx hb dL_locks_102 (by decide) (fun c15 => absurd c15 (by decide)) (fun _ => ?_)
  refine lv_aload_n hx hb dL_locks_105 rfl (lv_at hl 0 rfl) ?_
  refine lv_iconst (v := 0) hx hb dL_locks_106 (by decide) ?_
  refine cOKi (v := 878307) (τ := zl7) (vx_runV (As := [.int 0]) (rest := []) ⟨hx, hb, hml, hown, hts⟩ (mtX2_foretold l hfl g zl7 m00 O00 0) (cwV 1 hts gL_locks_X2_foretold rfl rfl rfl (by decide +kernel) ⟨Nat.le_of_ble_eq_true rfl, Nat.le_of_ble_eq_true rfl⟩) ⟨PW.blind, rcB hC hW, fun U hU hW9 => ⟨rfl, PW.at hC hS hW U hU hW9⟩⟩ rfl rfl hl.1 rfl (lv_room (Nat.le_of_ble_eq_true rfl)) dL_locks_107 ⟨Nat.le_of_ble_eq_true rfl, Nat.le_of_ble_eq_true rfl⟩) hS (fun _ _ _ q => no_1 (ok_foretold (g := g) (μ := m00) (o := O00) zlq13).1 q) (ok_foretold zlq13).2 (fun H locs hW hS => ?_)
  refine lv_ldc (v := 878307) hx hb hown (hts (.constant RL 104 (878307)) (by decide +kernel)) dL_locks_110 ?_
  refine lv_icmp_ne (tgt := 156) hx hb dL_locks_112 (by decide) (fun c16 => absurd c16 (by decide)) (fun _ => ?_)
  refine lv_aload_n hx hb dL_locks_115 rfl (lv_at hl 0 rfl) ?_
  refine lv_iconst (v := 0) hx hb dL_locks_116 (by decide) ?_
  refine lv_bipush (v := 99) hx hb dL_locks_117 (by decide) ?_
  refine cOKi (v := 0) (τ := zl8) (vx_runV (As := [.int 0, .int 99]) (rest := []) ⟨hx, hb, hml, hown, hts⟩ (mtX2_edit l hfl g zl7 m00 O00 0 99) (cwV 2 hts gL_locks_X2_edit rfl rfl rfl (by decide +kernel) ⟨Nat.le_of_ble_eq_true rfl, Nat.le_of_ble_eq_true rfl⟩) ⟨PW.blind, rcB hC hW, fun U hU hW9 => ⟨rfl, PW.at hC hS hW U hU hW9⟩⟩ rfl rfl hl.1 rfl (lv_room (Nat.le_of_ble_eq_true rfl)) dL_locks_119 ⟨Nat.le_of_ble_eq_true rfl, Nat.le_of_ble_eq_true rfl⟩) hS (fun _ _ _ q => no_3 (ok_edit (g := g) (μ := m00) (o := O00) zlq14).1 q) (ok_edit zlq14).2 (fun H locs hW hS => ?_)
  refine lv_if_ne (tgt := 156) hx hb dL_locks_122 (by decide) (fun c17 => absurd c17 (by decide)) (fun _ => ?_)
  refine lv_aload_n hx hb dL_locks_125 rfl (lv_at hl 0 rfl) ?_
  refine lv_iconst (v := 0) hx hb dL_locks_126 (by decide) ?_
  refine cOKi (v := 878406) (τ := zl8) (vx_runV (As := [.int 0]) (rest := []) ⟨hx, hb, hml, hown, hts⟩ (mtX2_foretold l hfl g zl8 m00 O00 0) (cwV 1 hts gL_locks_X2_foretold rfl rfl rfl (by decide +kernel) ⟨Nat.le_of_ble_eq_true rfl, Nat.le_of_ble_eq_true rfl⟩) ⟨PW.blind, rcB hC hW, fun U hU hW9 => ⟨rfl, PW.at hC hS hW U hU hW9⟩⟩ rfl rfl hl.1 rfl (lv_room (Nat.le_of_ble_eq_true rfl)) dL_locks_127 ⟨Nat.le_of_ble_eq_true rfl, Nat.le_of_ble_eq_true rfl⟩) hS (fun _ _ _ q => no_1 (ok_foretold (g := g) (μ := m00) (o := O00) zlq15).1 q) (ok_foretold zlq15).2 (fun H locs hW hS => ?_)
  refine lv_ldc (v := 878406) hx hb hown (hts (.constant RL 110 (878406)) (by decide +kernel)) dL_locks_130 ?_
  refine lv_icmp_ne (tgt := 156) hx hb dL_locks_132 (by decide) (fun c18 => absurd c18 (by decide)) (fun _ => ?_)
  refine lv_aload_n hx hb dL_locks_135 rfl (lv_at hl 0 rfl) ?_
  refine lv_iconst (v := 0) hx hb dL_locks_136 (by decide) ?_
  refine lv_iconst (v := 0) hx hb dL_locks_137 (by decide) ?_
  refine cOKi (v := 99) (τ := zl7) (vx_runV (As := [.int 0, .int 0]) (rest := []) ⟨hx, hb, hml, hown, hts⟩ (mtX2_edit l hfl g zl8 m00 O00 0 0) (cwV 2 hts gL_locks_X2_edit rfl rfl rfl (by decide +kernel) ⟨Nat.le_of_ble_eq_true rfl, Nat.le_of_ble_eq_true rfl⟩) ⟨PW.blind, rcB hC hW, fun U hU hW9 => ⟨rfl, PW.at hC hS hW U hU hW9⟩⟩ rfl rfl hl.1 rfl (lv_room (Nat.le_of_ble_eq_true rfl)) dL_locks_138 ⟨Nat.le_of_ble_eq_true rfl, Nat.le_of_ble_eq_true rfl⟩) hS (fun _ _ _ q => no_3 (ok_edit (g := g) (μ := m00) (o := O00) zlq16).1 q) (ok_edit zlq16).2 (fun H locs hW hS => ?_)
  refine lv_bipush (v := 99) hx hb dL_locks_141 (by decide) ?_
  refine lv_icmp_ne (tgt := 156) hx hb dL_locks_143 (by decide) (fun c19 => absurd c19 (by decide)) (fun _ => ?_)
  refine lv_aload_n hx hb dL_locks_146 rfl (lv_at hl 0 rfl) ?_
  refine lv_bipush (v := 7) hx hb dL_locks_147 (by decide) ?_
  refine lv_iconst (v := 1) hx hb dL_locks_149 (by decide) ?_
  refine va_calli (vx_runSW (As := [.ref (gA g 0), .int 7, .int 1]) (rest := []) ⟨hx, hb, hml, hown, hts⟩ (mtL_lockS l g zl7 m00 O00 hfl 7 1 zlq17) (vx_cwSW 3 hts gL_locks_L_lock rfl rfl rfl (by decide +kernel) ⟨Nat.le_of_ble_eq_true rfl, Nat.le_of_ble_eq_true rfl⟩) ⟨PW.blind, fun U hU hW9 => ⟨rfl, PW.at hC hS hW U hU hW9⟩⟩ rfl rfl hl.1 rfl (lv_room (Nat.le_of_ble_eq_true rfl)) dL_locks_150 ⟨Nat.le_of_ble_eq_true rfl, Nat.le_of_ble_eq_true rfl⟩) hS (fun _ _ h => h) (fun _ h => h) (fun r u t H locs ht hvm hq hW hz9 hk9 hS => ?_)
  obtain rfl : r = 0 := hq
  replace hW : Wd g zl9 m00 O00 H := Wd_eq zlq18 (by rw [← ht]; exact hW)
  refine lv_if_eq (tgt := 158) hx hb dL_locks_153 (by decide) (fun _ => ?_) (fun c20 => absurd c20 (by decide))
  refine lv_iconst (v := 0) hx hb dL_locks_158 (by decide) ?_
  refine lv_istore_n (lv' := [(1, .int 0), (0, .ref (gA g 0))]) hx hb dL_locks_159 rfl hl (by decide) rfl (fun ls hl => ?_)
  refine lv_iload_n hx hb dL_locks_160 rfl (lv_at hl 0 rfl) ?_
  refine lv_bipush (v := 12) hx hb dL_locks_161 (by decide) ?_
  refine lv_icmp_ge (tgt := 185) hx hb dL_locks_163 (by decide) (fun c21 => absurd c21 (by decide)) (fun _ => ?_)
  refine lv_aload_n hx hb dL_locks_166 rfl (lv_at hl 1 rfl) ?_
  refine lv_iload_n hx hb dL_locks_167 rfl (lv_at hl 0 rfl) ?_
  refine lv_bipush (v := 7) hx hb dL_locks_168 (by decide) ?_
  refine lv_irem hx hb dL_locks_170 (by decide) ?_
  refine lv_topi (fun y22 hy22 => ?_)
  obtain rfl : y22 = 0 := hy22.trans (by decide)
  refine cOKi (v := 0) (τ := zl10) (vx_runV (As := [.int 0]) (rest := []) ⟨hx, hb, hml, hown, hts⟩ (mtX2_enter l hfl g zl9 m00 O00 0 0 1 (ok_enter (g := g) (μ := m00) (o := O00) zlq19).1.1 (ok_enter (g := g) (μ := m00) (o := O00) zlq19).1.2.1 (ok_enter (g := g) (μ := m00) (o := O00) zlq19).1.2.2.1 (ok_enter (g := g) (μ := m00) (o := O00) zlq19).1.2.2.2) (cwV 1 hts gL_locks_X2_enter rfl rfl rfl (by decide +kernel) ⟨Nat.le_of_ble_eq_true rfl, Nat.le_of_ble_eq_true rfl⟩) ⟨PW.blind, rcB hC hW, fun U hU hW9 => ⟨rfl, PW.at hC hS hW U hU hW9⟩⟩ rfl rfl hl.1 rfl (lv_room (Nat.le_of_ble_eq_true rfl)) dL_locks_171 ⟨Nat.le_of_ble_eq_true rfl, Nat.le_of_ble_eq_true rfl⟩) hS (fun _ _ _ q => no_2 (ok_enter (g := g) (μ := m00) (o := O00) zlq19).2.1 q) (ok_enter zlq19).2.2 (fun H locs hW hS => ?_)
  refine lv_if_eq (tgt := 179) hx hb dL_locks_174 (by decide) (fun _ => ?_) (fun c23 => absurd c23 (by decide))
  refine lv_iinc (v := 1) (lv' := [(1, .int 1), (0, .ref (gA g 0))]) hx hb dL_locks_179 hl (k := 0) rfl (by decide) (by decide) rfl (fun ls hl => ?_)
  refine lv_goto (tgt := 160) hx hb dL_locks_182 (by decide) ?_
  refine lv_iload_n hx hb dL_locks_160 rfl (lv_at hl 0 rfl) ?_
  refine lv_bipush (v := 12) hx hb dL_locks_161 (by decide) ?_
  refine lv_icmp_ge (tgt := 185) hx hb dL_locks_163 (by decide) (fun c24 => absurd c24 (by decide)) (fun _ => ?_)
  refine lv_aload_n hx hb dL_locks_166 rfl (lv_at hl 1 rfl) ?_
  refine lv_iload_n hx hb dL_locks_167 rfl (lv_at hl 0 rfl) ?_
  refine lv_bipush (v := 7) hx hb dL_locks_168 (by decide) ?_
  refine lv_irem hx hb dL_locks_170 (by decide) ?_
  refine lv_topi (fun y25 hy25 => ?_)
  obtain rfl : y25 = 1 := hy25.trans (by decide)
  refine cOKi (v := 0) (τ := zl11) (vx_runV (As := [.int 1]) (rest := []) ⟨hx, hb, hml, hown, hts⟩ (mtX2_enter l hfl g zl10 m00 O00 1 1 1 (ok_enter (g := g) (μ := m00) (o := O00) zlq20).1.1 (ok_enter (g := g) (μ := m00) (o := O00) zlq20).1.2.1 (ok_enter (g := g) (μ := m00) (o := O00) zlq20).1.2.2.1 (ok_enter (g := g) (μ := m00) (o := O00) zlq20).1.2.2.2) (cwV 1 hts gL_locks_X2_enter rfl rfl rfl (by decide +kernel) ⟨Nat.le_of_ble_eq_true rfl, Nat.le_of_ble_eq_true rfl⟩) ⟨PW.blind, rcB hC hW, fun U hU hW9 => ⟨rfl, PW.at hC hS hW U hU hW9⟩⟩ rfl rfl hl.1 rfl (lv_room (Nat.le_of_ble_eq_true rfl)) dL_locks_171 ⟨Nat.le_of_ble_eq_true rfl, Nat.le_of_ble_eq_true rfl⟩) hS (fun _ _ _ q => no_2 (ok_enter (g := g) (μ := m00) (o := O00) zlq20).2.1 q) (ok_enter zlq20).2.2 (fun H locs hW hS => ?_)
  refine lv_if_eq (tgt := 179) hx hb dL_locks_174 (by decide) (fun _ => ?_) (fun c26 => absurd c26 (by decide))
  refine lv_iinc (v := 2) (lv' := [(1, .int 2), (0, .ref (gA g 0))]) hx hb dL_locks_179 hl (k := 0) rfl (by decide) (by decide) rfl (fun ls hl => ?_)
  refine lv_goto (tgt := 160) hx hb dL_locks_182 (by decide) ?_
  refine lv_iload_n hx hb dL_locks_160 rfl (lv_at hl 0 rfl) ?_
  refine lv_bipush (v := 12) hx hb dL_locks_161 (by decide) ?_
  refine lv_icmp_ge (tgt := 185) hx hb dL_locks_163 (by decide) (fun c27 => absurd c27 (by decide)) (fun _ => ?_)
  refine lv_aload_n hx hb dL_locks_166 rfl (lv_at hl 1 rfl) ?_
  refine lv_iload_n hx hb dL_locks_167 rfl (lv_at hl 0 rfl) ?_
  refine lv_bipush (v := 7) hx hb dL_locks_168 (by decide) ?_
  refine lv_irem hx hb dL_locks_170 (by decide) ?_
  refine lv_topi (fun y28 hy28 => ?_)
  obtain rfl : y28 = 2 := hy28.trans (by decide)
  refine cOKi (v := 0) (τ := zl12) (vx_runV (As := [.int 2]) (rest := []) ⟨hx, hb, hml, hown, hts⟩ (mtX2_enter l hfl g zl11 m00 O00 2 2 1 (ok_enter (g := g) (μ := m00) (o := O00) zlq21).1.1 (ok_enter (g := g) (μ := m00) (o := O00) zlq21).1.2.1 (ok_enter (g := g) (μ := m00) (o := O00) zlq21).1.2.2.1 (ok_enter (g := g) (μ := m00) (o := O00) zlq21).1.2.2.2) (cwV 1 hts gL_locks_X2_enter rfl rfl rfl (by decide +kernel) ⟨Nat.le_of_ble_eq_true rfl, Nat.le_of_ble_eq_true rfl⟩) ⟨PW.blind, rcB hC hW, fun U hU hW9 => ⟨rfl, PW.at hC hS hW U hU hW9⟩⟩ rfl rfl hl.1 rfl (lv_room (Nat.le_of_ble_eq_true rfl)) dL_locks_171 ⟨Nat.le_of_ble_eq_true rfl, Nat.le_of_ble_eq_true rfl⟩) hS (fun _ _ _ q => no_2 (ok_enter (g := g) (μ := m00) (o := O00) zlq21).2.1 q) (ok_enter zlq21).2.2 (fun H locs hW hS => ?_)
  refine lv_if_eq (tgt := 179) hx hb dL_locks_174 (by decide) (fun _ => ?_) (fun c29 => absurd c29 (by decide))
  refine lv_iinc (v := 3) (lv' := [(1, .int 3), (0, .ref (gA g 0))]) hx hb dL_locks_179 hl (k := 0) rfl (by decide) (by decide) rfl (fun ls hl => ?_)
  refine lv_goto (tgt := 160) hx hb dL_locks_182 (by decide) ?_
  refine lv_iload_n hx hb dL_locks_160 rfl (lv_at hl 0 rfl) ?_
  refine lv_bipush (v := 12) hx hb dL_locks_161 (by decide) ?_
  refine lv_icmp_ge (tgt := 185) hx hb dL_locks_163 (by decide) (fun c30 => absurd c30 (by decide)) (fun _ => ?_)
  refine lv_aload_n hx hb dL_locks_166 rfl (lv_at hl 1 rfl) ?_
  refine lv_iload_n hx hb dL_locks_167 rfl (lv_at hl 0 rfl) ?_
  refine lv_bipush (v := 7) hx hb dL_locks_168 (by decide) ?_
  refine lv_irem hx hb dL_locks_170 (by decide) ?_
  refine lv_topi (fun y31 hy31 => ?_)
  obtain rfl : y31 = 3 := hy31.trans (by decide)
  refine cOKi (v := 0) (τ := zl13) (vx_runV (As := [.int 3]) (rest := []) ⟨hx, hb, hml, hown, hts⟩ (mtX2_enter l hfl g zl12 m00 O00 3 3 1 (ok_enter (g := g) (μ := m00) (o := O00) zlq22).1.1 (ok_enter (g := g) (μ := m00) (o := O00) zlq22).1.2.1 (ok_enter (g := g) (μ := m00) (o := O00) zlq22).1.2.2.1 (ok_enter (g := g) (μ := m00) (o := O00) zlq22).1.2.2.2) (cwV 1 hts gL_locks_X2_enter rfl rfl rfl (by decide +kernel) ⟨Nat.le_of_ble_eq_true rfl, Nat.le_of_ble_eq_true rfl⟩) ⟨PW.blind, rcB hC hW, fun U hU hW9 => ⟨rfl, PW.at hC hS hW U hU hW9⟩⟩ rfl rfl hl.1 rfl (lv_room (Nat.le_of_ble_eq_true rfl)) dL_locks_171 ⟨Nat.le_of_ble_eq_true rfl, Nat.le_of_ble_eq_true rfl⟩) hS (fun _ _ _ q => no_2 (ok_enter (g := g) (μ := m00) (o := O00) zlq22).2.1 q) (ok_enter zlq22).2.2 (fun H locs hW hS => ?_)
  refine lv_if_eq (tgt := 179) hx hb dL_locks_174 (by decide) (fun _ => ?_) (fun c32 => absurd c32 (by decide))
  refine W.widen (k := 215) (n := 1340) (Nat.le_of_ble_eq_true rfl) (Nat.le_of_ble_eq_true rfl) ?_
  exact kk H locs ls hW hS (by exact lv_sub hl [1, 0] rfl)
set_option maxHeartbeats 4000000 in
set_option maxRecDepth 100000 in
theorem zl_2 {p : Program} {l : Launch} {e : Env} {s : State} {m : MethodId} {below : List Frame} {meth : Method} {c : Code} {g : Ge} (C0 : zlC p l s m meth c g) (kk : zlG p l e s m below meth c g zl21 206 [(0, .ref (gA g 0)), (1, .int 12)] 233 1448) : zlG p l e s m below meth c g zl13 179 [(0, .ref (gA g 0)), (1, .int 3)] 215 1340 := by
  obtain ⟨⟨hx, hb, hr, hml, hts, hown, hlocks⟩, hC, hfl⟩ := C0
  intro H locs ls hW hS hl
  have hl : lv_has ls 2 [(0, .ref (gA g 0)), (1, .int 3)] := hl
  refine lv_iinc (v := 4) (lv' := [(1, .int 4), (0, .ref (gA g 0))]) hx hb dL_locks_179 hl (k := 1) rfl (by decide) (by decide) rfl (fun ls hl => ?_)
  refine lv_goto (tgt := 160) hx hb dL_locks_182 (by decide) ?_
  refine lv_iload_n hx hb dL_locks_160 rfl (lv_at hl 0 rfl) ?_
  refine lv_bipush (v := 12) hx hb dL_locks_161 (by decide) ?_
  refine lv_icmp_ge (tgt := 185) hx hb dL_locks_163 (by decide) (fun c33 => absurd c33 (by decide)) (fun _ => ?_)
  refine lv_aload_n hx hb dL_locks_166 rfl (lv_at hl 1 rfl) ?_
  refine lv_iload_n hx hb dL_locks_167 rfl (lv_at hl 0 rfl) ?_
  refine lv_bipush (v := 7) hx hb dL_locks_168 (by decide) ?_
  refine lv_irem hx hb dL_locks_170 (by decide) ?_
  refine lv_topi (fun y34 hy34 => ?_)
  obtain rfl : y34 = 4 := hy34.trans (by decide)
  refine cOKi (v := 0) (τ := zl14) (vx_runV (As := [.int 4]) (rest := []) ⟨hx, hb, hml, hown, hts⟩ (mtX2_enter l hfl g zl13 m00 O00 4 4 1 (ok_enter (g := g) (μ := m00) (o := O00) zlq23).1.1 (ok_enter (g := g) (μ := m00) (o := O00) zlq23).1.2.1 (ok_enter (g := g) (μ := m00) (o := O00) zlq23).1.2.2.1 (ok_enter (g := g) (μ := m00) (o := O00) zlq23).1.2.2.2) (cwV 1 hts gL_locks_X2_enter rfl rfl rfl (by decide +kernel) ⟨Nat.le_of_ble_eq_true rfl, Nat.le_of_ble_eq_true rfl⟩) ⟨PW.blind, rcB hC hW, fun U hU hW9 => ⟨rfl, PW.at hC hS hW U hU hW9⟩⟩ rfl rfl hl.1 rfl (lv_room (Nat.le_of_ble_eq_true rfl)) dL_locks_171 ⟨Nat.le_of_ble_eq_true rfl, Nat.le_of_ble_eq_true rfl⟩) hS (fun _ _ _ q => no_2 (ok_enter (g := g) (μ := m00) (o := O00) zlq23).2.1 q) (ok_enter zlq23).2.2 (fun H locs hW hS => ?_)
  refine lv_if_eq (tgt := 179) hx hb dL_locks_174 (by decide) (fun _ => ?_) (fun c35 => absurd c35 (by decide))
  refine lv_iinc (v := 5) (lv' := [(1, .int 5), (0, .ref (gA g 0))]) hx hb dL_locks_179 hl (k := 0) rfl (by decide) (by decide) rfl (fun ls hl => ?_)
  refine lv_goto (tgt := 160) hx hb dL_locks_182 (by decide) ?_
  refine lv_iload_n hx hb dL_locks_160 rfl (lv_at hl 0 rfl) ?_
  refine lv_bipush (v := 12) hx hb dL_locks_161 (by decide) ?_
  refine lv_icmp_ge (tgt := 185) hx hb dL_locks_163 (by decide) (fun c36 => absurd c36 (by decide)) (fun _ => ?_)
  refine lv_aload_n hx hb dL_locks_166 rfl (lv_at hl 1 rfl) ?_
  refine lv_iload_n hx hb dL_locks_167 rfl (lv_at hl 0 rfl) ?_
  refine lv_bipush (v := 7) hx hb dL_locks_168 (by decide) ?_
  refine lv_irem hx hb dL_locks_170 (by decide) ?_
  refine lv_topi (fun y37 hy37 => ?_)
  obtain rfl : y37 = 5 := hy37.trans (by decide)
  refine cOKi (v := 0) (τ := zl15) (vx_runV (As := [.int 5]) (rest := []) ⟨hx, hb, hml, hown, hts⟩ (mtX2_enter l hfl g zl14 m00 O00 5 5 1 (ok_enter (g := g) (μ := m00) (o := O00) zlq24).1.1 (ok_enter (g := g) (μ := m00) (o := O00) zlq24).1.2.1 (ok_enter (g := g) (μ := m00) (o := O00) zlq24).1.2.2.1 (ok_enter (g := g) (μ := m00) (o := O00) zlq24).1.2.2.2) (cwV 1 hts gL_locks_X2_enter rfl rfl rfl (by decide +kernel) ⟨Nat.le_of_ble_eq_true rfl, Nat.le_of_ble_eq_true rfl⟩) ⟨PW.blind, rcB hC hW, fun U hU hW9 => ⟨rfl, PW.at hC hS hW U hU hW9⟩⟩ rfl rfl hl.1 rfl (lv_room (Nat.le_of_ble_eq_true rfl)) dL_locks_171 ⟨Nat.le_of_ble_eq_true rfl, Nat.le_of_ble_eq_true rfl⟩) hS (fun _ _ _ q => no_2 (ok_enter (g := g) (μ := m00) (o := O00) zlq24).2.1 q) (ok_enter zlq24).2.2 (fun H locs hW hS => ?_)
  refine lv_if_eq (tgt := 179) hx hb dL_locks_174 (by decide) (fun _ => ?_) (fun c38 => absurd c38 (by decide))
  refine lv_iinc (v := 6) (lv' := [(1, .int 6), (0, .ref (gA g 0))]) hx hb dL_locks_179 hl (k := 0) rfl (by decide) (by decide) rfl (fun ls hl => ?_)
  refine lv_goto (tgt := 160) hx hb dL_locks_182 (by decide) ?_
  refine lv_iload_n hx hb dL_locks_160 rfl (lv_at hl 0 rfl) ?_
  refine lv_bipush (v := 12) hx hb dL_locks_161 (by decide) ?_
  refine lv_icmp_ge (tgt := 185) hx hb dL_locks_163 (by decide) (fun c39 => absurd c39 (by decide)) (fun _ => ?_)
  refine lv_aload_n hx hb dL_locks_166 rfl (lv_at hl 1 rfl) ?_
  refine lv_iload_n hx hb dL_locks_167 rfl (lv_at hl 0 rfl) ?_
  refine lv_bipush (v := 7) hx hb dL_locks_168 (by decide) ?_
  refine lv_irem hx hb dL_locks_170 (by decide) ?_
  refine lv_topi (fun y40 hy40 => ?_)
  obtain rfl : y40 = 6 := hy40.trans (by decide)
  refine cOKi (v := 0) (τ := zl16) (vx_runV (As := [.int 6]) (rest := []) ⟨hx, hb, hml, hown, hts⟩ (mtX2_enter l hfl g zl15 m00 O00 6 6 1 (ok_enter (g := g) (μ := m00) (o := O00) zlq25).1.1 (ok_enter (g := g) (μ := m00) (o := O00) zlq25).1.2.1 (ok_enter (g := g) (μ := m00) (o := O00) zlq25).1.2.2.1 (ok_enter (g := g) (μ := m00) (o := O00) zlq25).1.2.2.2) (cwV 1 hts gL_locks_X2_enter rfl rfl rfl (by decide +kernel) ⟨Nat.le_of_ble_eq_true rfl, Nat.le_of_ble_eq_true rfl⟩) ⟨PW.blind, rcB hC hW, fun U hU hW9 => ⟨rfl, PW.at hC hS hW U hU hW9⟩⟩ rfl rfl hl.1 rfl (lv_room (Nat.le_of_ble_eq_true rfl)) dL_locks_171 ⟨Nat.le_of_ble_eq_true rfl, Nat.le_of_ble_eq_true rfl⟩) hS (fun _ _ _ q => no_2 (ok_enter (g := g) (μ := m00) (o := O00) zlq25).2.1 q) (ok_enter zlq25).2.2 (fun H locs hW hS => ?_)
  refine lv_if_eq (tgt := 179) hx hb dL_locks_174 (by decide) (fun _ => ?_) (fun c41 => absurd c41 (by decide))
  refine lv_iinc (v := 7) (lv' := [(1, .int 7), (0, .ref (gA g 0))]) hx hb dL_locks_179 hl (k := 0) rfl (by decide) (by decide) rfl (fun ls hl => ?_)
  refine lv_goto (tgt := 160) hx hb dL_locks_182 (by decide) ?_
  refine lv_iload_n hx hb dL_locks_160 rfl (lv_at hl 0 rfl) ?_
  refine lv_bipush (v := 12) hx hb dL_locks_161 (by decide) ?_
  refine lv_icmp_ge (tgt := 185) hx hb dL_locks_163 (by decide) (fun c42 => absurd c42 (by decide)) (fun _ => ?_)
  refine lv_aload_n hx hb dL_locks_166 rfl (lv_at hl 1 rfl) ?_
  refine lv_iload_n hx hb dL_locks_167 rfl (lv_at hl 0 rfl) ?_
  refine lv_bipush (v := 7) hx hb dL_locks_168 (by decide) ?_
  refine lv_irem hx hb dL_locks_170 (by decide) ?_
  refine lv_topi (fun y43 hy43 => ?_)
  obtain rfl : y43 = 0 := hy43.trans (by decide)
  refine cOKi (v := 0) (τ := zl17) (vx_runV (As := [.int 0]) (rest := []) ⟨hx, hb, hml, hown, hts⟩ (mtX2_enter l hfl g zl16 m00 O00 0 7 1 (ok_enter (g := g) (μ := m00) (o := O00) zlq26).1.1 (ok_enter (g := g) (μ := m00) (o := O00) zlq26).1.2.1 (ok_enter (g := g) (μ := m00) (o := O00) zlq26).1.2.2.1 (ok_enter (g := g) (μ := m00) (o := O00) zlq26).1.2.2.2) (cwV 1 hts gL_locks_X2_enter rfl rfl rfl (by decide +kernel) ⟨Nat.le_of_ble_eq_true rfl, Nat.le_of_ble_eq_true rfl⟩) ⟨PW.blind, rcB hC hW, fun U hU hW9 => ⟨rfl, PW.at hC hS hW U hU hW9⟩⟩ rfl rfl hl.1 rfl (lv_room (Nat.le_of_ble_eq_true rfl)) dL_locks_171 ⟨Nat.le_of_ble_eq_true rfl, Nat.le_of_ble_eq_true rfl⟩) hS (fun _ _ _ q => no_2 (ok_enter (g := g) (μ := m00) (o := O00) zlq26).2.1 q) (ok_enter zlq26).2.2 (fun H locs hW hS => ?_)
  refine lv_if_eq (tgt := 179) hx hb dL_locks_174 (by decide) (fun _ => ?_) (fun c44 => absurd c44 (by decide))
  refine lv_iinc (v := 8) (lv' := [(1, .int 8), (0, .ref (gA g 0))]) hx hb dL_locks_179 hl (k := 0) rfl (by decide) (by decide) rfl (fun ls hl => ?_)
  refine lv_goto (tgt := 160) hx hb dL_locks_182 (by decide) ?_
  refine lv_iload_n hx hb dL_locks_160 rfl (lv_at hl 0 rfl) ?_
  refine lv_bipush (v := 12) hx hb dL_locks_161 (by decide) ?_
  refine lv_icmp_ge (tgt := 185) hx hb dL_locks_163 (by decide) (fun c45 => absurd c45 (by decide)) (fun _ => ?_)
  refine lv_aload_n hx hb dL_locks_166 rfl (lv_at hl 1 rfl) ?_
  refine lv_iload_n hx hb dL_locks_167 rfl (lv_at hl 0 rfl) ?_
  refine lv_bipush (v := 7) hx hb dL_locks_168 (by decide) ?_
  refine lv_irem hx hb dL_locks_170 (by decide) ?_
  refine lv_topi (fun y46 hy46 => ?_)
  obtain rfl : y46 = 1 := hy46.trans (by decide)
  refine cOKi (v := 0) (τ := zl18) (vx_runV (As := [.int 1]) (rest := []) ⟨hx, hb, hml, hown, hts⟩ (mtX2_enter l hfl g zl17 m00 O00 1 8 1 (ok_enter (g := g) (μ := m00) (o := O00) zlq27).1.1 (ok_enter (g := g) (μ := m00) (o := O00) zlq27).1.2.1 (ok_enter (g := g) (μ := m00) (o := O00) zlq27).1.2.2.1 (ok_enter (g := g) (μ := m00) (o := O00) zlq27).1.2.2.2) (cwV 1 hts gL_locks_X2_enter rfl rfl rfl (by decide +kernel) ⟨Nat.le_of_ble_eq_true rfl, Nat.le_of_ble_eq_true rfl⟩) ⟨PW.blind, rcB hC hW, fun U hU hW9 => ⟨rfl, PW.at hC hS hW U hU hW9⟩⟩ rfl rfl hl.1 rfl (lv_room (Nat.le_of_ble_eq_true rfl)) dL_locks_171 ⟨Nat.le_of_ble_eq_true rfl, Nat.le_of_ble_eq_true rfl⟩) hS (fun _ _ _ q => no_2 (ok_enter (g := g) (μ := m00) (o := O00) zlq27).2.1 q) (ok_enter zlq27).2.2 (fun H locs hW hS => ?_)
  refine lv_if_eq (tgt := 179) hx hb dL_locks_174 (by decide) (fun _ => ?_) (fun c47 => absurd c47 (by decide))
  refine lv_iinc (v := 9) (lv' := [(1, .int 9), (0, .ref (gA g 0))]) hx hb dL_locks_179 hl (k := 0) rfl (by decide) (by decide) rfl (fun ls hl => ?_)
  refine lv_goto (tgt := 160) hx hb dL_locks_182 (by decide) ?_
  refine lv_iload_n hx hb dL_locks_160 rfl (lv_at hl 0 rfl) ?_
  refine lv_bipush (v := 12) hx hb dL_locks_161 (by decide) ?_
  refine lv_icmp_ge (tgt := 185) hx hb dL_locks_163 (by decide) (fun c48 => absurd c48 (by decide)) (fun _ => ?_)
  refine lv_aload_n hx hb dL_locks_166 rfl (lv_at hl 1 rfl) ?_
  refine lv_iload_n hx hb dL_locks_167 rfl (lv_at hl 0 rfl) ?_
  refine lv_bipush (v := 7) hx hb dL_locks_168 (by decide) ?_
  refine lv_irem hx hb dL_locks_170 (by decide) ?_
  refine lv_topi (fun y49 hy49 => ?_)
  obtain rfl : y49 = 2 := hy49.trans (by decide)
  refine cOKi (v := 0) (τ := zl19) (vx_runV (As := [.int 2]) (rest := []) ⟨hx, hb, hml, hown, hts⟩ (mtX2_enter l hfl g zl18 m00 O00 2 9 1 (ok_enter (g := g) (μ := m00) (o := O00) zlq28).1.1 (ok_enter (g := g) (μ := m00) (o := O00) zlq28).1.2.1 (ok_enter (g := g) (μ := m00) (o := O00) zlq28).1.2.2.1 (ok_enter (g := g) (μ := m00) (o := O00) zlq28).1.2.2.2) (cwV 1 hts gL_locks_X2_enter rfl rfl rfl (by decide +kernel) ⟨Nat.le_of_ble_eq_true rfl, Nat.le_of_ble_eq_true rfl⟩) ⟨PW.blind, rcB hC hW, fun U hU hW9 => ⟨rfl, PW.at hC hS hW U hU hW9⟩⟩ rfl rfl hl.1 rfl (lv_room (Nat.le_of_ble_eq_true rfl)) dL_locks_171 ⟨Nat.le_of_ble_eq_true rfl, Nat.le_of_ble_eq_true rfl⟩) hS (fun _ _ _ q => no_2 (ok_enter (g := g) (μ := m00) (o := O00) zlq28).2.1 q) (ok_enter zlq28).2.2 (fun H locs hW hS => ?_)
  refine lv_if_eq (tgt := 179) hx hb dL_locks_174 (by decide) (fun _ => ?_) (fun c50 => absurd c50 (by decide))
  refine lv_iinc (v := 10) (lv' := [(1, .int 10), (0, .ref (gA g 0))]) hx hb dL_locks_179 hl (k := 0) rfl (by decide) (by decide) rfl (fun ls hl => ?_)
  refine lv_goto (tgt := 160) hx hb dL_locks_182 (by decide) ?_
  refine lv_iload_n hx hb dL_locks_160 rfl (lv_at hl 0 rfl) ?_
  refine lv_bipush (v := 12) hx hb dL_locks_161 (by decide) ?_
  refine lv_icmp_ge (tgt := 185) hx hb dL_locks_163 (by decide) (fun c51 => absurd c51 (by decide)) (fun _ => ?_)
  refine lv_aload_n hx hb dL_locks_166 rfl (lv_at hl 1 rfl) ?_
  refine lv_iload_n hx hb dL_locks_167 rfl (lv_at hl 0 rfl) ?_
  refine lv_bipush (v := 7) hx hb dL_locks_168 (by decide) ?_
  refine lv_irem hx hb dL_locks_170 (by decide) ?_
  refine lv_topi (fun y52 hy52 => ?_)
  obtain rfl : y52 = 3 := hy52.trans (by decide)
  refine cOKi (v := 0) (τ := zl20) (vx_runV (As := [.int 3]) (rest := []) ⟨hx, hb, hml, hown, hts⟩ (mtX2_enter l hfl g zl19 m00 O00 3 10 1 (ok_enter (g := g) (μ := m00) (o := O00) zlq29).1.1 (ok_enter (g := g) (μ := m00) (o := O00) zlq29).1.2.1 (ok_enter (g := g) (μ := m00) (o := O00) zlq29).1.2.2.1 (ok_enter (g := g) (μ := m00) (o := O00) zlq29).1.2.2.2) (cwV 1 hts gL_locks_X2_enter rfl rfl rfl (by decide +kernel) ⟨Nat.le_of_ble_eq_true rfl, Nat.le_of_ble_eq_true rfl⟩) ⟨PW.blind, rcB hC hW, fun U hU hW9 => ⟨rfl, PW.at hC hS hW U hU hW9⟩⟩ rfl rfl hl.1 rfl (lv_room (Nat.le_of_ble_eq_true rfl)) dL_locks_171 ⟨Nat.le_of_ble_eq_true rfl, Nat.le_of_ble_eq_true rfl⟩) hS (fun _ _ _ q => no_2 (ok_enter (g := g) (μ := m00) (o := O00) zlq29).2.1 q) (ok_enter zlq29).2.2 (fun H locs hW hS => ?_)
  refine lv_if_eq (tgt := 179) hx hb dL_locks_174 (by decide) (fun _ => ?_) (fun c53 => absurd c53 (by decide))
  refine lv_iinc (v := 11) (lv' := [(1, .int 11), (0, .ref (gA g 0))]) hx hb dL_locks_179 hl (k := 0) rfl (by decide) (by decide) rfl (fun ls hl => ?_)
  refine lv_goto (tgt := 160) hx hb dL_locks_182 (by decide) ?_
  refine lv_iload_n hx hb dL_locks_160 rfl (lv_at hl 0 rfl) ?_
  refine lv_bipush (v := 12) hx hb dL_locks_161 (by decide) ?_
  refine lv_icmp_ge (tgt := 185) hx hb dL_locks_163 (by decide) (fun c54 => absurd c54 (by decide)) (fun _ => ?_)
  refine lv_aload_n hx hb dL_locks_166 rfl (lv_at hl 1 rfl) ?_
  refine lv_iload_n hx hb dL_locks_167 rfl (lv_at hl 0 rfl) ?_
  refine lv_bipush (v := 7) hx hb dL_locks_168 (by decide) ?_
  refine lv_irem hx hb dL_locks_170 (by decide) ?_
  refine lv_topi (fun y55 hy55 => ?_)
  obtain rfl : y55 = 4 := hy55.trans (by decide)
  refine cOKi (v := 0) (τ := zl21) (vx_runV (As := [.int 4]) (rest := []) ⟨hx, hb, hml, hown, hts⟩ (mtX2_enter l hfl g zl20 m00 O00 4 11 1 (ok_enter (g := g) (μ := m00) (o := O00) zlq30).1.1 (ok_enter (g := g) (μ := m00) (o := O00) zlq30).1.2.1 (ok_enter (g := g) (μ := m00) (o := O00) zlq30).1.2.2.1 (ok_enter (g := g) (μ := m00) (o := O00) zlq30).1.2.2.2) (cwV 1 hts gL_locks_X2_enter rfl rfl rfl (by decide +kernel) ⟨Nat.le_of_ble_eq_true rfl, Nat.le_of_ble_eq_true rfl⟩) ⟨PW.blind, rcB hC hW, fun U hU hW9 => ⟨rfl, PW.at hC hS hW U hU hW9⟩⟩ rfl rfl hl.1 rfl (lv_room (Nat.le_of_ble_eq_true rfl)) dL_locks_171 ⟨Nat.le_of_ble_eq_true rfl, Nat.le_of_ble_eq_true rfl⟩) hS (fun _ _ _ q => no_2 (ok_enter (g := g) (μ := m00) (o := O00) zlq30).2.1 q) (ok_enter zlq30).2.2 (fun H locs hW hS => ?_)
  refine lv_if_eq (tgt := 179) hx hb dL_locks_174 (by decide) (fun _ => ?_) (fun c56 => absurd c56 (by decide))
  refine lv_iinc (v := 12) (lv' := [(1, .int 12), (0, .ref (gA g 0))]) hx hb dL_locks_179 hl (k := 0) rfl (by decide) (by decide) rfl (fun ls hl => ?_)
  refine lv_goto (tgt := 160) hx hb dL_locks_182 (by decide) ?_
  refine lv_iload_n hx hb dL_locks_160 rfl (lv_at hl 0 rfl) ?_
  refine lv_bipush (v := 12) hx hb dL_locks_161 (by decide) ?_
  refine lv_icmp_ge (tgt := 185) hx hb dL_locks_163 (by decide) (fun _ => ?_) (fun c57 => absurd c57 (by decide))
  refine lv_aload_n hx hb dL_locks_185 rfl (lv_at hl 1 rfl) ?_
  refine lv_bipush (v := 7) hx hb dL_locks_186 (by decide) ?_
  refine lv_bipush (v := 7) hx hb dL_locks_188 (by decide) ?_
  refine lv_iconst (v := 0) hx hb dL_locks_190 (by decide) ?_
  refine va_calli (vx_runSW (As := [.ref (gA g 0), .int 7, .int 7, .int 0]) (rest := []) ⟨hx, hb, hml, hown, hts⟩ (mtL_act_7 l g zl21 m00 O00 hfl 7 0 12 1 zlq32 zlq33 (by decide) (by decide) 2 (-73) zlq31 (by decide)) (vx_cwSW 4 hts gL_locks_L_act rfl rfl rfl (by decide +kernel) ⟨Nat.le_of_ble_eq_true rfl, Nat.le_of_ble_eq_true rfl⟩) ⟨PW.blind, fun U hU hW9 => ⟨rfl, PW.at hC hS hW U hU hW9⟩⟩ rfl rfl hl.1 rfl (lv_room (Nat.le_of_ble_eq_true rfl)) dL_locks_191 ⟨Nat.le_of_ble_eq_true rfl, Nat.le_of_ble_eq_true rfl⟩) hS (fun _ _ h => h) (fun _ h => h) (fun r u t H locs ht hvm hq hW hz9 hk9 hS => ?_)
  obtain rfl : r = (-73) := hq
  replace hW : Wd g zl21 m00 O00 H := by rw [← ht]; exact hW
  refine lv_bipush (v := (-73)) hx hb dL_locks_194 (by decide) ?_
  refine lv_icmp_ne (tgt := 332) hx hb dL_locks_196 (by decide) (fun c58 => absurd c58 (by decide)) (fun _ => ?_)
  refine lv_aload_n hx hb dL_locks_199 rfl (lv_at hl 1 rfl) ?_
  refine vp_callSi (va_Run.run (va_runV (As := []) (rest := []) ⟨hx, hb, hml, hown, hts⟩ (mtX2_isLocked l g zl21 m00 O00 (hk0_of (Or.inr zlq34))) (cwV 0 hts gL_locks_X2_isLocked rfl rfl rfl (by decide +kernel) ⟨Nat.le_of_ble_eq_true rfl, Nat.le_of_ble_eq_true rfl⟩) ⟨PW.blind, rcB hC hW, fun U hU hW9 => ⟨rfl, PW.at hC hS hW U hU hW9⟩⟩ rfl rfl hl.1 rfl (lv_room (Nat.le_of_ble_eq_true rfl)) dL_locks_200 ⟨Nat.le_of_ble_eq_true rfl, Nat.le_of_ble_eq_true rfl⟩)) (fun r59 h60 => ?_)
  obtain rfl : r59 = 1 := h60.trans zlq34
  refine lv_if_eq (tgt := 332) hx hb dL_locks_203 (by decide) (fun c61 => absurd c61 (by decide)) (fun _ => ?_)
  refine W.widen (k := 233) (n := 1448) (Nat.le_of_ble_eq_true rfl) (Nat.le_of_ble_eq_true rfl) ?_
  exact kk H locs ls hW hS (by exact lv_sub hl [1, 0] rfl)
set_option maxHeartbeats 4000000 in
set_option maxRecDepth 100000 in
theorem zl_3 {p : Program} {l : Launch} {e : Env} {s : State} {m : MethodId} {below : List Frame} {meth : Method} {c : Code} {g : Ge} (C0 : zlC p l s m meth c g) (kk : zlG p l e s m below meth c g zl29 294 [(0, .ref (gA g 0)), (1, .int 12)] 249 1544) : zlG p l e s m below meth c g zl21 206 [(0, .ref (gA g 0)), (1, .int 12)] 233 1448 := by
  obtain ⟨⟨hx, hb, hr, hml, hts, hown, hlocks⟩, hC, hfl⟩ := C0
  intro H locs ls hW hS hl
  have hl : lv_has ls 2 [(0, .ref (gA g 0)), (1, .int 12)] := hl
  refine lv_aload_n hx hb dL_locks_206 rfl (lv_at hl 0 rfl) ?_
  refine cOKi (v := 0) (τ := zl22) (vx_runV (As := []) (rest := []) ⟨hx, hb, hml, hown, hts⟩ (mtX2_start l hfl g zl21 m00 O00) (cwV 0 hts gL_locks_X2_start rfl rfl rfl (by decide +kernel) ⟨Nat.le_of_ble_eq_true rfl, Nat.le_of_ble_eq_true rfl⟩) ⟨PW.blind, rcB hC hW, fun U hU hW9 => ⟨rfl, PW.at hC hS hW U hU hW9⟩⟩ rfl rfl hl.1 rfl (lv_room (Nat.le_of_ble_eq_true rfl)) dL_locks_207 ⟨Nat.le_of_ble_eq_true rfl, Nat.le_of_ble_eq_true rfl⟩) hS (fun _ _ _ q => no_1 (ok_start (g := g) (μ := m00) (o := O00) zlq35).1 q) (ok_start zlq35).2 (fun H locs hW hS => ?_)
  refine lv_if_ne (tgt := 332) hx hb dL_locks_210 (by decide) (fun c62 => absurd c62 (by decide)) (fun _ => ?_)
  refine lv_aload_n hx hb dL_locks_213 rfl (lv_at hl 0 rfl) ?_
  refine vp_callSi (va_Run.run (va_runV (As := []) (rest := []) ⟨hx, hb, hml, hown, hts⟩ (mtX2_register l g zl22 m00 O00 ) (cwV 0 hts gL_locks_X2_register rfl rfl rfl (by decide +kernel) ⟨Nat.le_of_ble_eq_true rfl, Nat.le_of_ble_eq_true rfl⟩) ⟨PW.blind, rcB hC hW, fun U hU hW9 => ⟨rfl, PW.at hC hS hW U hU hW9⟩⟩ rfl rfl hl.1 rfl (lv_room (Nat.le_of_ble_eq_true rfl)) dL_locks_214 ⟨Nat.le_of_ble_eq_true rfl, Nat.le_of_ble_eq_true rfl⟩)) (fun r63 h64 => ?_)
  obtain rfl : r63 = 409879 := h64.trans zlq36
  refine lv_ldc (v := 409879) hx hb hown (hts (.constant RL 109 (409879)) (by decide +kernel)) dL_locks_217 ?_
  refine lv_icmp_ne (tgt := 332) hx hb dL_locks_219 (by decide) (fun c65 => absurd c65 (by decide)) (fun _ => ?_)
  refine lv_aload_n hx hb dL_locks_222 rfl (lv_at hl 0 rfl) ?_
  refine lv_bipush (v := 7) hx hb dL_locks_223 (by decide) ?_
  refine cOKi (v := 1) (τ := zl23) (vx_runV (As := [.int 7]) (rest := []) ⟨hx, hb, hml, hown, hts⟩ (mtX2_enter l hfl g zl22 m00 O00 7 0 1 (ok_enter (g := g) (μ := m00) (o := O00) zlq37).1.1 (ok_enter (g := g) (μ := m00) (o := O00) zlq37).1.2.1 (ok_enter (g := g) (μ := m00) (o := O00) zlq37).1.2.2.1 (ok_enter (g := g) (μ := m00) (o := O00) zlq37).1.2.2.2) (cwV 1 hts gL_locks_X2_enter rfl rfl rfl (by decide +kernel) ⟨Nat.le_of_ble_eq_true rfl, Nat.le_of_ble_eq_true rfl⟩) ⟨PW.blind, rcB hC hW, fun U hU hW9 => ⟨rfl, PW.at hC hS hW U hU hW9⟩⟩ rfl rfl hl.1 rfl (lv_room (Nat.le_of_ble_eq_true rfl)) dL_locks_225 ⟨Nat.le_of_ble_eq_true rfl, Nat.le_of_ble_eq_true rfl⟩) hS (fun _ _ _ q => no_2 (ok_enter (g := g) (μ := m00) (o := O00) zlq37).2.1 q) (ok_enter zlq37).2.2 (fun H locs hW hS => ?_)
  refine lv_if_eq (tgt := 332) hx hb dL_locks_228 (by decide) (fun c66 => absurd c66 (by decide)) (fun _ => ?_)
  refine lv_aload_n hx hb dL_locks_231 rfl (lv_at hl 0 rfl) ?_
  refine lv_bipush (v := 7) hx hb dL_locks_232 (by decide) ?_
  refine lv_bipush (v := 7) hx hb dL_locks_234 (by decide) ?_
  refine lv_iconst (v := 0) hx hb dL_locks_236 (by decide) ?_
  refine va_calli (vx_runSW (As := [.ref (gA g 0), .int 7, .int 7, .int 0]) (rest := []) ⟨hx, hb, hml, hown, hts⟩ (mtL_act_7 l g zl23 m00 O00 hfl 7 0 1 1 zlq39 zlq40 (by decide) (by decide) 2 (-73) zlq38 (by decide)) (vx_cwSW 4 hts gL_locks_L_act rfl rfl rfl (by decide +kernel) ⟨Nat.le_of_ble_eq_true rfl, Nat.le_of_ble_eq_true rfl⟩) ⟨PW.blind, fun U hU hW9 => ⟨rfl, PW.at hC hS hW U hU hW9⟩⟩ rfl rfl hl.1 rfl (lv_room (Nat.le_of_ble_eq_true rfl)) dL_locks_237 ⟨Nat.le_of_ble_eq_true rfl, Nat.le_of_ble_eq_true rfl⟩) hS (fun _ _ h => h) (fun _ h => h) (fun r u t H locs ht hvm hq hW hz9 hk9 hS => ?_)
  obtain rfl : r = (-73) := hq
  replace hW : Wd g zl23 m00 O00 H := by rw [← ht]; exact hW
  refine lv_bipush (v := (-73)) hx hb dL_locks_240 (by decide) ?_
  refine lv_icmp_ne (tgt := 332) hx hb dL_locks_242 (by decide) (fun c67 => absurd c67 (by decide)) (fun _ => ?_)
  refine lv_aload_n hx hb dL_locks_245 rfl (lv_at hl 0 rfl) ?_
  refine lv_bipush (v := 12) hx hb dL_locks_246 (by decide) ?_
  refine lv_iconst (v := 2) hx hb dL_locks_248 (by decide) ?_
  refine va_calli (vx_runSW (As := [.ref (gA g 0), .int 12, .int 2]) (rest := []) ⟨hx, hb, hml, hown, hts⟩ (mtL_lockS l g zl23 m00 O00 hfl 12 2 zlq41) (vx_cwSW 3 hts gL_locks_L_lock rfl rfl rfl (by decide +kernel) ⟨Nat.le_of_ble_eq_true rfl, Nat.le_of_ble_eq_true rfl⟩) ⟨PW.blind, fun U hU hW9 => ⟨rfl, PW.at hC hS hW U hU hW9⟩⟩ rfl rfl hl.1 rfl (lv_room (Nat.le_of_ble_eq_true rfl)) dL_locks_249 ⟨Nat.le_of_ble_eq_true rfl, Nat.le_of_ble_eq_true rfl⟩) hS (fun _ _ h => h) (fun _ h => h) (fun r u t H locs ht hvm hq hW hz9 hk9 hS => ?_)
  obtain rfl : r = 0 := hq
  replace hW : Wd g zl24 m00 O00 H := Wd_eq zlq42 (by rw [← ht]; exact hW)
  refine lv_if_ne (tgt := 332) hx hb dL_locks_252 (by decide) (fun c68 => absurd c68 (by decide)) (fun _ => ?_)
  refine lv_aload_n hx hb dL_locks_255 rfl (lv_at hl 0 rfl) ?_
  refine lv_iconst (v := 1) hx hb dL_locks_256 (by decide) ?_
  refine cOKi (v := 0) (τ := zl25) (vx_runV (As := [.int 1]) (rest := []) ⟨hx, hb, hml, hown, hts⟩ (mtX2_enter l hfl g zl24 m00 O00 1 0 2 (ok_enter (g := g) (μ := m00) (o := O00) zlq43).1.1 (ok_enter (g := g) (μ := m00) (o := O00) zlq43).1.2.1 (ok_enter (g := g) (μ := m00) (o := O00) zlq43).1.2.2.1 (ok_enter (g := g) (μ := m00) (o := O00) zlq43).1.2.2.2) (cwV 1 hts gL_locks_X2_enter rfl rfl rfl (by decide +kernel) ⟨Nat.le_of_ble_eq_true rfl, Nat.le_of_ble_eq_true rfl⟩) ⟨PW.blind, rcB hC hW, fun U hU hW9 => ⟨rfl, PW.at hC hS hW U hU hW9⟩⟩ rfl rfl hl.1 rfl (lv_room (Nat.le_of_ble_eq_true rfl)) dL_locks_257 ⟨Nat.le_of_ble_eq_true rfl, Nat.le_of_ble_eq_true rfl⟩) hS (fun _ _ _ q => no_2 (ok_enter (g := g) (μ := m00) (o := O00) zlq43).2.1 q) (ok_enter zlq43).2.2 (fun H locs hW hS => ?_)
  refine lv_if_ne (tgt := 332) hx hb dL_locks_260 (by decide) (fun c69 => absurd c69 (by decide)) (fun _ => ?_)
  refine lv_aload_n hx hb dL_locks_263 rfl (lv_at hl 0 rfl) ?_
  refine cOKi (v := 0) (τ := zl26) (vx_runV (As := []) (rest := []) ⟨hx, hb, hml, hown, hts⟩ (mtX2_start l hfl g zl25 m00 O00) (cwV 0 hts gL_locks_X2_start rfl rfl rfl (by decide +kernel) ⟨Nat.le_of_ble_eq_true rfl, Nat.le_of_ble_eq_true rfl⟩) ⟨PW.blind, rcB hC hW, fun U hU hW9 => ⟨rfl, PW.at hC hS hW U hU hW9⟩⟩ rfl rfl hl.1 rfl (lv_room (Nat.le_of_ble_eq_true rfl)) dL_locks_264 ⟨Nat.le_of_ble_eq_true rfl, Nat.le_of_ble_eq_true rfl⟩) hS (fun _ _ _ q => no_1 (ok_start (g := g) (μ := m00) (o := O00) zlq44).1 q) (ok_start zlq44).2 (fun H locs hW hS => ?_)
  refine lv_if_ne (tgt := 332) hx hb dL_locks_267 (by decide) (fun c70 => absurd c70 (by decide)) (fun _ => ?_)
  refine lv_aload_n hx hb dL_locks_270 rfl (lv_at hl 0 rfl) ?_
  refine lv_iconst (v := 2) hx hb dL_locks_271 (by decide) ?_
  refine cOKi (v := 0) (τ := zl27) (vx_runV (As := [.int 2]) (rest := []) ⟨hx, hb, hml, hown, hts⟩ (mtX2_enter l hfl g zl26 m00 O00 2 0 2 (ok_enter (g := g) (μ := m00) (o := O00) zlq45).1.1 (ok_enter (g := g) (μ := m00) (o := O00) zlq45).1.2.1 (ok_enter (g := g) (μ := m00) (o := O00) zlq45).1.2.2.1 (ok_enter (g := g) (μ := m00) (o := O00) zlq45).1.2.2.2) (cwV 1 hts gL_locks_X2_enter rfl rfl rfl (by decide +kernel) ⟨Nat.le_of_ble_eq_true rfl, Nat.le_of_ble_eq_true rfl⟩) ⟨PW.blind, rcB hC hW, fun U hU hW9 => ⟨rfl, PW.at hC hS hW U hU hW9⟩⟩ rfl rfl hl.1 rfl (lv_room (Nat.le_of_ble_eq_true rfl)) dL_locks_272 ⟨Nat.le_of_ble_eq_true rfl, Nat.le_of_ble_eq_true rfl⟩) hS (fun _ _ _ q => no_2 (ok_enter (g := g) (μ := m00) (o := O00) zlq45).2.1 q) (ok_enter zlq45).2.2 (fun H locs hW hS => ?_)
  refine lv_if_ne (tgt := 332) hx hb dL_locks_275 (by decide) (fun c71 => absurd c71 (by decide)) (fun _ => ?_)
  refine lv_aload_n hx hb dL_locks_278 rfl (lv_at hl 0 rfl) ?_
  refine lv_iconst (v := 1) hx hb dL_locks_279 (by decide) ?_
  refine cOKi (v := 0) (τ := zl28) (vx_runV (As := [.int 1]) (rest := []) ⟨hx, hb, hml, hown, hts⟩ (mtX2_enter l hfl g zl27 m00 O00 1 1 2 (ok_enter (g := g) (μ := m00) (o := O00) zlq46).1.1 (ok_enter (g := g) (μ := m00) (o := O00) zlq46).1.2.1 (ok_enter (g := g) (μ := m00) (o := O00) zlq46).1.2.2.1 (ok_enter (g := g) (μ := m00) (o := O00) zlq46).1.2.2.2) (cwV 1 hts gL_locks_X2_enter rfl rfl rfl (by decide +kernel) ⟨Nat.le_of_ble_eq_true rfl, Nat.le_of_ble_eq_true rfl⟩) ⟨PW.blind, rcB hC hW, fun U hU hW9 => ⟨rfl, PW.at hC hS hW U hU hW9⟩⟩ rfl rfl hl.1 rfl (lv_room (Nat.le_of_ble_eq_true rfl)) dL_locks_280 ⟨Nat.le_of_ble_eq_true rfl, Nat.le_of_ble_eq_true rfl⟩) hS (fun _ _ _ q => no_2 (ok_enter (g := g) (μ := m00) (o := O00) zlq46).2.1 q) (ok_enter zlq46).2.2 (fun H locs hW hS => ?_)
  refine lv_if_ne (tgt := 332) hx hb dL_locks_283 (by decide) (fun c72 => absurd c72 (by decide)) (fun _ => ?_)
  refine lv_aload_n hx hb dL_locks_286 rfl (lv_at hl 0 rfl) ?_
  refine lv_iconst (v := 2) hx hb dL_locks_287 (by decide) ?_
  refine cOKi (v := 1) (τ := zl29) (vx_runV (As := [.int 2]) (rest := []) ⟨hx, hb, hml, hown, hts⟩ (mtX2_enter l hfl g zl28 m00 O00 2 2 2 (ok_enter (g := g) (μ := m00) (o := O00) zlq47).1.1 (ok_enter (g := g) (μ := m00) (o := O00) zlq47).1.2.1 (ok_enter (g := g) (μ := m00) (o := O00) zlq47).1.2.2.1 (ok_enter (g := g) (μ := m00) (o := O00) zlq47).1.2.2.2) (cwV 1 hts gL_locks_X2_enter rfl rfl rfl (by decide +kernel) ⟨Nat.le_of_ble_eq_true rfl, Nat.le_of_ble_eq_true rfl⟩) ⟨PW.blind, rcB hC hW, fun U hU hW9 => ⟨rfl, PW.at hC hS hW U hU hW9⟩⟩ rfl rfl hl.1 rfl (lv_room (Nat.le_of_ble_eq_true rfl)) dL_locks_288 ⟨Nat.le_of_ble_eq_true rfl, Nat.le_of_ble_eq_true rfl⟩) hS (fun _ _ _ q => no_2 (ok_enter (g := g) (μ := m00) (o := O00) zlq47).2.1 q) (ok_enter zlq47).2.2 (fun H locs hW hS => ?_)
  refine lv_if_eq (tgt := 332) hx hb dL_locks_291 (by decide) (fun c73 => absurd c73 (by decide)) (fun _ => ?_)
  refine W.widen (k := 249) (n := 1544) (Nat.le_of_ble_eq_true rfl) (Nat.le_of_ble_eq_true rfl) ?_
  exact kk H locs ls hW hS (by exact lv_sub hl [0, 1] rfl)
