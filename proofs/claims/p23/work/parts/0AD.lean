set_option maxHeartbeats 4000000 in
set_option maxRecDepth 100000 in
theorem zl_4 {p : Program} {l : Launch} {e : Env} {s : State} {m : MethodId} {below : List Frame} {meth : Method} {c : Code} {g : Ge} (C0 : zlC p l s m meth c g) (kk : zlG p l e s m below meth c g zl37 362 [(0, .ref (gA g 0)), (1, .int 5)] 266 1646) : zlG p l e s m below meth c g zl29 294 [(0, .ref (gA g 0)), (1, .int 12)] 249 1544 := by
  obtain ⟨⟨hx, hb, hr, hml, hts, hown, hlocks⟩, hC, hfl⟩ := C0
  intro H locs ls hW hS hl
  have hl : lv_has ls 2 [(0, .ref (gA g 0)), (1, .int 12)] := hl
  refine lv_aload_n hx hb dL_locks_294 rfl (lv_at hl 0 rfl) ?_
  refine cOKi (v := 0) (τ := zl30) (vx_runV (As := []) (rest := []) ⟨hx, hb, hml, hown, hts⟩ (mtX2_start l hfl g zl29 m00 O00) (cwV 0 hts gL_locks_X2_start rfl rfl rfl (by decide +kernel) ⟨Nat.le_of_ble_eq_true rfl, Nat.le_of_ble_eq_true rfl⟩) ⟨PW.blind, rcB hC hW, fun U hU hW9 => ⟨rfl, PW.at hC hS hW U hU hW9⟩⟩ rfl rfl hl.1 rfl (lv_room (Nat.le_of_ble_eq_true rfl)) dL_locks_295 ⟨Nat.le_of_ble_eq_true rfl, Nat.le_of_ble_eq_true rfl⟩) hS (fun _ _ _ q => no_1 (ok_start (g := g) (μ := m00) (o := O00) zlq48).1 q) (ok_start zlq48).2 (fun H locs hW hS => ?_)
  refine lv_if_ne (tgt := 332) hx hb dL_locks_298 (by decide) (fun c74 => absurd c74 (by decide)) (fun _ => ?_)
  refine lv_aload_n hx hb dL_locks_301 rfl (lv_at hl 0 rfl) ?_
  refine vp_callSi (va_Run.run (va_runV (As := []) (rest := []) ⟨hx, hb, hml, hown, hts⟩ (mtX2_register l g zl30 m00 O00 ) (cwV 0 hts gL_locks_X2_register rfl rfl rfl (by decide +kernel) ⟨Nat.le_of_ble_eq_true rfl, Nat.le_of_ble_eq_true rfl⟩) ⟨PW.blind, rcB hC hW, fun U hU hW9 => ⟨rfl, PW.at hC hS hW U hU hW9⟩⟩ rfl rfl hl.1 rfl (lv_room (Nat.le_of_ble_eq_true rfl)) dL_locks_302 ⟨Nat.le_of_ble_eq_true rfl, Nat.le_of_ble_eq_true rfl⟩)) (fun r75 h76 => ?_)
  obtain rfl : r75 = 878307 := h76.trans zlq49
  refine lv_ldc (v := 878307) hx hb hown (hts (.constant RL 104 (878307)) (by decide +kernel)) dL_locks_305 ?_
  refine lv_icmp_ne (tgt := 332) hx hb dL_locks_307 (by decide) (fun c77 => absurd c77 (by decide)) (fun _ => ?_)
  refine lv_aload_n hx hb dL_locks_310 rfl (lv_at hl 0 rfl) ?_
  refine lv_iconst (v := 0) hx hb dL_locks_311 (by decide) ?_
  refine lv_bipush (v := 6) hx hb dL_locks_312 (by decide) ?_
  refine va_calli (vx_runSW (As := [.ref (gA g 0), .int 0, .int 6]) (rest := []) ⟨hx, hb, hml, hown, hts⟩ (mtL_lockS l g zl30 m00 O00 hfl 0 6 zlq50) (vx_cwSW 3 hts gL_locks_L_lock rfl rfl rfl (by decide +kernel) ⟨Nat.le_of_ble_eq_true rfl, Nat.le_of_ble_eq_true rfl⟩) ⟨PW.blind, fun U hU hW9 => ⟨rfl, PW.at hC hS hW U hU hW9⟩⟩ rfl rfl hl.1 rfl (lv_room (Nat.le_of_ble_eq_true rfl)) dL_locks_314 ⟨Nat.le_of_ble_eq_true rfl, Nat.le_of_ble_eq_true rfl⟩) hS (fun _ _ h => h) (fun _ h => h) (fun r u t H locs ht hvm hq hW hz9 hk9 hS => ?_)
  obtain rfl : r = 0 := hq
  replace hW : Wd g zl31 m00 O00 H := Wd_eq zlq51 (by rw [← ht]; exact hW)
  refine lv_if_ne (tgt := 332) hx hb dL_locks_317 (by decide) (fun c78 => absurd c78 (by decide)) (fun _ => ?_)
  refine lv_aload_n hx hb dL_locks_320 rfl (lv_at hl 0 rfl) ?_
  refine lv_iconst (v := 0) hx hb dL_locks_321 (by decide) ?_
  refine lv_bipush (v := 6) hx hb dL_locks_322 (by decide) ?_
  refine va_calli (vx_runSW (As := [.ref (gA g 0), .int 0, .int 6]) (rest := []) ⟨hx, hb, hml, hown, hts⟩ (mtL_lockR l g zl31 m00 O00 hfl 0 6 2 (-73) zlq52 (by decide)) (vx_cwSW 3 hts gL_locks_L_lock rfl rfl rfl (by decide +kernel) ⟨Nat.le_of_ble_eq_true rfl, Nat.le_of_ble_eq_true rfl⟩) ⟨PW.blind, fun U hU hW9 => ⟨rfl, PW.at hC hS hW U hU hW9⟩⟩ rfl rfl hl.1 rfl (lv_room (Nat.le_of_ble_eq_true rfl)) dL_locks_324 ⟨Nat.le_of_ble_eq_true rfl, Nat.le_of_ble_eq_true rfl⟩) hS (fun _ _ h => h) (fun _ h => h) (fun r u t H locs ht hvm hq hW hz9 hk9 hS => ?_)
  obtain rfl : r = (-73) := hq
  replace hW : Wd g zl31 m00 O00 H := by rw [← ht]; exact hW
  refine lv_bipush (v := (-73)) hx hb dL_locks_327 (by decide) ?_
  refine lv_icmp_eq (tgt := 334) hx hb dL_locks_329 (by decide) (fun _ => ?_) (fun c79 => absurd c79 (by decide))
  refine lv_iconst (v := 0) hx hb dL_locks_334 (by decide) ?_
  refine lv_istore_n (lv' := [(1, .int 0), (0, .ref (gA g 0))]) hx hb dL_locks_335 rfl hl (by decide) rfl (fun ls hl => ?_)
  refine lv_iload_n hx hb dL_locks_336 rfl (lv_at hl 0 rfl) ?_
  refine lv_bipush (v := 6) hx hb dL_locks_337 (by decide) ?_
  refine lv_icmp_ge (tgt := 368) hx hb dL_locks_339 (by decide) (fun c80 => absurd c80 (by decide)) (fun _ => ?_)
  refine lv_aload_n hx hb dL_locks_342 rfl (lv_at hl 1 rfl) ?_
  refine lv_iconst (v := 0) hx hb dL_locks_343 (by decide) ?_
  refine cOKi (v := 0) (τ := zl32) (vx_runV (As := [.int 0]) (rest := []) ⟨hx, hb, hml, hown, hts⟩ (mtX2_enter l hfl g zl31 m00 O00 0 0 6 (ok_enter (g := g) (μ := m00) (o := O00) zlq53).1.1 (ok_enter (g := g) (μ := m00) (o := O00) zlq53).1.2.1 (ok_enter (g := g) (μ := m00) (o := O00) zlq53).1.2.2.1 (ok_enter (g := g) (μ := m00) (o := O00) zlq53).1.2.2.2) (cwV 1 hts gL_locks_X2_enter rfl rfl rfl (by decide +kernel) ⟨Nat.le_of_ble_eq_true rfl, Nat.le_of_ble_eq_true rfl⟩) ⟨PW.blind, rcB hC hW, fun U hU hW9 => ⟨rfl, PW.at hC hS hW U hU hW9⟩⟩ rfl rfl hl.1 rfl (lv_room (Nat.le_of_ble_eq_true rfl)) dL_locks_344 ⟨Nat.le_of_ble_eq_true rfl, Nat.le_of_ble_eq_true rfl⟩) hS (fun _ _ _ q => no_2 (ok_enter (g := g) (μ := m00) (o := O00) zlq53).2.1 q) (ok_enter zlq53).2.2 (fun H locs hW hS => ?_)
  refine lv_iload_n hx hb dL_locks_347 rfl (lv_at hl 0 rfl) ?_
  refine lv_iconst (v := 5) hx hb dL_locks_348 (by decide) ?_
  refine lv_icmp_ne (tgt := 356) hx hb dL_locks_349 (by decide) (fun _ => ?_) (fun c81 => absurd c81 (by decide))
  refine lv_iconst (v := 0) hx hb dL_locks_356 (by decide) ?_
  refine lv_icmp_eq (tgt := 362) hx hb dL_locks_357 (by decide) (fun _ => ?_) (fun c82 => absurd c82 (by decide))
  refine lv_iinc (v := 1) (lv' := [(1, .int 1), (0, .ref (gA g 0))]) hx hb dL_locks_362 hl (k := 0) rfl (by decide) (by decide) rfl (fun ls hl => ?_)
  refine lv_goto (tgt := 336) hx hb dL_locks_365 (by decide) ?_
  refine lv_iload_n hx hb dL_locks_336 rfl (lv_at hl 0 rfl) ?_
  refine lv_bipush (v := 6) hx hb dL_locks_337 (by decide) ?_
  refine lv_icmp_ge (tgt := 368) hx hb dL_locks_339 (by decide) (fun c83 => absurd c83 (by decide)) (fun _ => ?_)
  refine lv_aload_n hx hb dL_locks_342 rfl (lv_at hl 1 rfl) ?_
  refine lv_iconst (v := 0) hx hb dL_locks_343 (by decide) ?_
  refine cOKi (v := 0) (τ := zl33) (vx_runV (As := [.int 0]) (rest := []) ⟨hx, hb, hml, hown, hts⟩ (mtX2_enter l hfl g zl32 m00 O00 0 1 6 (ok_enter (g := g) (μ := m00) (o := O00) zlq54).1.1 (ok_enter (g := g) (μ := m00) (o := O00) zlq54).1.2.1 (ok_enter (g := g) (μ := m00) (o := O00) zlq54).1.2.2.1 (ok_enter (g := g) (μ := m00) (o := O00) zlq54).1.2.2.2) (cwV 1 hts gL_locks_X2_enter rfl rfl rfl (by decide +kernel) ⟨Nat.le_of_ble_eq_true rfl, Nat.le_of_ble_eq_true rfl⟩) ⟨PW.blind, rcB hC hW, fun U hU hW9 => ⟨rfl, PW.at hC hS hW U hU hW9⟩⟩ rfl rfl hl.1 rfl (lv_room (Nat.le_of_ble_eq_true rfl)) dL_locks_344 ⟨Nat.le_of_ble_eq_true rfl, Nat.le_of_ble_eq_true rfl⟩) hS (fun _ _ _ q => no_2 (ok_enter (g := g) (μ := m00) (o := O00) zlq54).2.1 q) (ok_enter zlq54).2.2 (fun H locs hW hS => ?_)
  refine lv_iload_n hx hb dL_locks_347 rfl (lv_at hl 0 rfl) ?_
  refine lv_iconst (v := 5) hx hb dL_locks_348 (by decide) ?_
  refine lv_icmp_ne (tgt := 356) hx hb dL_locks_349 (by decide) (fun _ => ?_) (fun c84 => absurd c84 (by decide))
  refine lv_iconst (v := 0) hx hb dL_locks_356 (by decide) ?_
  refine lv_icmp_eq (tgt := 362) hx hb dL_locks_357 (by decide) (fun _ => ?_) (fun c85 => absurd c85 (by decide))
  refine lv_iinc (v := 2) (lv' := [(1, .int 2), (0, .ref (gA g 0))]) hx hb dL_locks_362 hl (k := 0) rfl (by decide) (by decide) rfl (fun ls hl => ?_)
  refine lv_goto (tgt := 336) hx hb dL_locks_365 (by decide) ?_
  refine lv_iload_n hx hb dL_locks_336 rfl (lv_at hl 0 rfl) ?_
  refine lv_bipush (v := 6) hx hb dL_locks_337 (by decide) ?_
  refine lv_icmp_ge (tgt := 368) hx hb dL_locks_339 (by decide) (fun c86 => absurd c86 (by decide)) (fun _ => ?_)
  refine lv_aload_n hx hb dL_locks_342 rfl (lv_at hl 1 rfl) ?_
  refine lv_iconst (v := 0) hx hb dL_locks_343 (by decide) ?_
  refine cOKi (v := 0) (τ := zl34) (vx_runV (As := [.int 0]) (rest := []) ⟨hx, hb, hml, hown, hts⟩ (mtX2_enter l hfl g zl33 m00 O00 0 2 6 (ok_enter (g := g) (μ := m00) (o := O00) zlq55).1.1 (ok_enter (g := g) (μ := m00) (o := O00) zlq55).1.2.1 (ok_enter (g := g) (μ := m00) (o := O00) zlq55).1.2.2.1 (ok_enter (g := g) (μ := m00) (o := O00) zlq55).1.2.2.2) (cwV 1 hts gL_locks_X2_enter rfl rfl rfl (by decide +kernel) ⟨Nat.le_of_ble_eq_true rfl, Nat.le_of_ble_eq_true rfl⟩) ⟨PW.blind, rcB hC hW, fun U hU hW9 => ⟨rfl, PW.at hC hS hW U hU hW9⟩⟩ rfl rfl hl.1 rfl (lv_room (Nat.le_of_ble_eq_true rfl)) dL_locks_344 ⟨Nat.le_of_ble_eq_true rfl, Nat.le_of_ble_eq_true rfl⟩) hS (fun _ _ _ q => no_2 (ok_enter (g := g) (μ := m00) (o := O00) zlq55).2.1 q) (ok_enter zlq55).2.2 (fun H locs hW hS => ?_)
  refine lv_iload_n hx hb dL_locks_347 rfl (lv_at hl 0 rfl) ?_
  refine lv_iconst (v := 5) hx hb dL_locks_348 (by decide) ?_
  refine lv_icmp_ne (tgt := 356) hx hb dL_locks_349 (by decide) (fun _ => ?_) (fun c87 => absurd c87 (by decide))
  refine lv_iconst (v := 0) hx hb dL_locks_356 (by decide) ?_
  refine lv_icmp_eq (tgt := 362) hx hb dL_locks_357 (by decide) (fun _ => ?_) (fun c88 => absurd c88 (by decide))
  refine lv_iinc (v := 3) (lv' := [(1, .int 3), (0, .ref (gA g 0))]) hx hb dL_locks_362 hl (k := 0) rfl (by decide) (by decide) rfl (fun ls hl => ?_)
  refine lv_goto (tgt := 336) hx hb dL_locks_365 (by decide) ?_
  refine lv_iload_n hx hb dL_locks_336 rfl (lv_at hl 0 rfl) ?_
  refine lv_bipush (v := 6) hx hb dL_locks_337 (by decide) ?_
  refine lv_icmp_ge (tgt := 368) hx hb dL_locks_339 (by decide) (fun c89 => absurd c89 (by decide)) (fun _ => ?_)
  refine lv_aload_n hx hb dL_locks_342 rfl (lv_at hl 1 rfl) ?_
  refine lv_iconst (v := 0) hx hb dL_locks_343 (by decide) ?_
  refine cOKi (v := 0) (τ := zl35) (vx_runV (As := [.int 0]) (rest := []) ⟨hx, hb, hml, hown, hts⟩ (mtX2_enter l hfl g zl34 m00 O00 0 3 6 (ok_enter (g := g) (μ := m00) (o := O00) zlq56).1.1 (ok_enter (g := g) (μ := m00) (o := O00) zlq56).1.2.1 (ok_enter (g := g) (μ := m00) (o := O00) zlq56).1.2.2.1 (ok_enter (g := g) (μ := m00) (o := O00) zlq56).1.2.2.2) (cwV 1 hts gL_locks_X2_enter rfl rfl rfl (by decide +kernel) ⟨Nat.le_of_ble_eq_true rfl, Nat.le_of_ble_eq_true rfl⟩) ⟨PW.blind, rcB hC hW, fun U hU hW9 => ⟨rfl, PW.at hC hS hW U hU hW9⟩⟩ rfl rfl hl.1 rfl (lv_room (Nat.le_of_ble_eq_true rfl)) dL_locks_344 ⟨Nat.le_of_ble_eq_true rfl, Nat.le_of_ble_eq_true rfl⟩) hS (fun _ _ _ q => no_2 (ok_enter (g := g) (μ := m00) (o := O00) zlq56).2.1 q) (ok_enter zlq56).2.2 (fun H locs hW hS => ?_)
  refine lv_iload_n hx hb dL_locks_347 rfl (lv_at hl 0 rfl) ?_
  refine lv_iconst (v := 5) hx hb dL_locks_348 (by decide) ?_
  refine lv_icmp_ne (tgt := 356) hx hb dL_locks_349 (by decide) (fun _ => ?_) (fun c90 => absurd c90 (by decide))
  refine lv_iconst (v := 0) hx hb dL_locks_356 (by decide) ?_
  refine lv_icmp_eq (tgt := 362) hx hb dL_locks_357 (by decide) (fun _ => ?_) (fun c91 => absurd c91 (by decide))
  refine lv_iinc (v := 4) (lv' := [(1, .int 4), (0, .ref (gA g 0))]) hx hb dL_locks_362 hl (k := 0) rfl (by decide) (by decide) rfl (fun ls hl => ?_)
  refine lv_goto (tgt := 336) hx hb dL_locks_365 (by decide) ?_
  refine lv_iload_n hx hb dL_locks_336 rfl (lv_at hl 0 rfl) ?_
  refine lv_bipush (v := 6) hx hb dL_locks_337 (by decide) ?_
  refine lv_icmp_ge (tgt := 368) hx hb dL_locks_339 (by decide) (fun c92 => absurd c92 (by decide)) (fun _ => ?_)
  refine lv_aload_n hx hb dL_locks_342 rfl (lv_at hl 1 rfl) ?_
  refine lv_iconst (v := 0) hx hb dL_locks_343 (by decide) ?_
  refine cOKi (v := 0) (τ := zl36) (vx_runV (As := [.int 0]) (rest := []) ⟨hx, hb, hml, hown, hts⟩ (mtX2_enter l hfl g zl35 m00 O00 0 4 6 (ok_enter (g := g) (μ := m00) (o := O00) zlq57).1.1 (ok_enter (g := g) (μ := m00) (o := O00) zlq57).1.2.1 (ok_enter (g := g) (μ := m00) (o := O00) zlq57).1.2.2.1 (ok_enter (g := g) (μ := m00) (o := O00) zlq57).1.2.2.2) (cwV 1 hts gL_locks_X2_enter rfl rfl rfl (by decide +kernel) ⟨Nat.le_of_ble_eq_true rfl, Nat.le_of_ble_eq_true rfl⟩) ⟨PW.blind, rcB hC hW, fun U hU hW9 => ⟨rfl, PW.at hC hS hW U hU hW9⟩⟩ rfl rfl hl.1 rfl (lv_room (Nat.le_of_ble_eq_true rfl)) dL_locks_344 ⟨Nat.le_of_ble_eq_true rfl, Nat.le_of_ble_eq_true rfl⟩) hS (fun _ _ _ q => no_2 (ok_enter (g := g) (μ := m00) (o := O00) zlq57).2.1 q) (ok_enter zlq57).2.2 (fun H locs hW hS => ?_)
  refine lv_iload_n hx hb dL_locks_347 rfl (lv_at hl 0 rfl) ?_
  refine lv_iconst (v := 5) hx hb dL_locks_348 (by decide) ?_
  refine lv_icmp_ne (tgt := 356) hx hb dL_locks_349 (by decide) (fun _ => ?_) (fun c93 => absurd c93 (by decide))
  refine lv_iconst (v := 0) hx hb dL_locks_356 (by decide) ?_
  refine lv_icmp_eq (tgt := 362) hx hb dL_locks_357 (by decide) (fun _ => ?_) (fun c94 => absurd c94 (by decide))
  refine lv_iinc (v := 5) (lv' := [(1, .int 5), (0, .ref (gA g 0))]) hx hb dL_locks_362 hl (k := 0) rfl (by decide) (by decide) rfl (fun ls hl => ?_)
  refine lv_goto (tgt := 336) hx hb dL_locks_365 (by decide) ?_
  refine lv_iload_n hx hb dL_locks_336 rfl (lv_at hl 0 rfl) ?_
  refine lv_bipush (v := 6) hx hb dL_locks_337 (by decide) ?_
  refine lv_icmp_ge (tgt := 368) hx hb dL_locks_339 (by decide) (fun c95 => absurd c95 (by decide)) (fun _ => ?_)
  refine lv_aload_n hx hb dL_locks_342 rfl (lv_at hl 1 rfl) ?_
  refine lv_iconst (v := 0) hx hb dL_locks_343 (by decide) ?_
  refine cOKi (v := 1) (τ := zl37) (vx_runV (As := [.int 0]) (rest := []) ⟨hx, hb, hml, hown, hts⟩ (mtX2_enter l hfl g zl36 m00 O00 0 5 6 (ok_enter (g := g) (μ := m00) (o := O00) zlq58).1.1 (ok_enter (g := g) (μ := m00) (o := O00) zlq58).1.2.1 (ok_enter (g := g) (μ := m00) (o := O00) zlq58).1.2.2.1 (ok_enter (g := g) (μ := m00) (o := O00) zlq58).1.2.2.2) (cwV 1 hts gL_locks_X2_enter rfl rfl rfl (by decide +kernel) ⟨Nat.le_of_ble_eq_true rfl, Nat.le_of_ble_eq_true rfl⟩) ⟨PW.blind, rcB hC hW, fun U hU hW9 => ⟨rfl, PW.at hC hS hW U hU hW9⟩⟩ rfl rfl hl.1 rfl (lv_room (Nat.le_of_ble_eq_true rfl)) dL_locks_344 ⟨Nat.le_of_ble_eq_true rfl, Nat.le_of_ble_eq_true rfl⟩) hS (fun _ _ _ q => no_2 (ok_enter (g := g) (μ := m00) (o := O00) zlq58).2.1 q) (ok_enter zlq58).2.2 (fun H locs hW hS => ?_)
  refine lv_iload_n hx hb dL_locks_347 rfl (lv_at hl 0 rfl) ?_
  refine lv_iconst (v := 5) hx hb dL_locks_348 (by decide) ?_
  refine lv_icmp_ne (tgt := 356) hx hb dL_locks_349 (by decide) (fun c96 => absurd c96 (by decide)) (fun _ => ?_)
  refine lv_iconst (v := 1) hx hb dL_locks_352 (by decide) ?_
  refine lv_goto (tgt := 357) hx hb dL_locks_353 (by decide) ?_
  refine lv_icmp_eq (tgt := 362) hx hb dL_locks_357 (by decide) (fun _ => ?_) (fun c97 => absurd c97 (by decide))
  refine W.widen (k := 266) (n := 1646) (Nat.le_of_ble_eq_true rfl) (Nat.le_of_ble_eq_true rfl) ?_
  exact kk H locs ls hW hS (by exact lv_sub hl [1, 0] rfl)
set_option maxHeartbeats 4000000 in
set_option maxRecDepth 100000 in
theorem zl_5 {p : Program} {l : Launch} {e : Env} {s : State} {m : MethodId} {below : List Frame} {meth : Method} {c : Code} {g : Ge} (C0 : zlC p l s m meth c g) (kk : zlG p l e s m below meth c g zl47 474 [(0, .ref (gA g 0)), (1, .int 0)] 286 1766) : zlG p l e s m below meth c g zl37 362 [(0, .ref (gA g 0)), (1, .int 5)] 266 1646 := by
  obtain ⟨⟨hx, hb, hr, hml, hts, hown, hlocks⟩, hC, hfl⟩ := C0
  intro H locs ls hW hS hl
  have hl : lv_has ls 2 [(0, .ref (gA g 0)), (1, .int 5)] := hl
  refine lv_iinc (v := 6) (lv' := [(1, .int 6), (0, .ref (gA g 0))]) hx hb dL_locks_362 hl (k := 1) rfl (by decide) (by decide) rfl (fun ls hl => ?_)
  refine lv_goto (tgt := 336) hx hb dL_locks_365 (by decide) ?_
  refine lv_iload_n hx hb dL_locks_336 rfl (lv_at hl 0 rfl) ?_
  refine lv_bipush (v := 6) hx hb dL_locks_337 (by decide) ?_
  refine lv_icmp_ge (tgt := 368) hx hb dL_locks_339 (by decide) (fun _ => ?_) (fun c98 => absurd c98 (by decide))
  refine lv_aload_n hx hb dL_locks_368 rfl (lv_at hl 1 rfl) ?_
  refine lv_ldc (v := 999999) hx hb hown (hts (.constant RL 111 (999999)) (by decide +kernel)) dL_locks_369 ?_
  refine lv_bipush (v := 6) hx hb dL_locks_371 (by decide) ?_
  refine va_calli (vx_runSW (As := [.ref (gA g 0), .int 999999, .int 6]) (rest := []) ⟨hx, hb, hml, hown, hts⟩ (mtL_lockS l g zl37 m00 O00 hfl 999999 6 zlq59) (vx_cwSW 3 hts gL_locks_L_lock rfl rfl rfl (by decide +kernel) ⟨Nat.le_of_ble_eq_true rfl, Nat.le_of_ble_eq_true rfl⟩) ⟨PW.blind, fun U hU hW9 => ⟨rfl, PW.at hC hS hW U hU hW9⟩⟩ rfl rfl hl.1 rfl (lv_room (Nat.le_of_ble_eq_true rfl)) dL_locks_373 ⟨Nat.le_of_ble_eq_true rfl, Nat.le_of_ble_eq_true rfl⟩) hS (fun _ _ h => h) (fun _ h => h) (fun r u t H locs ht hvm hq hW hz9 hk9 hS => ?_)
  obtain rfl : r = 0 := hq
  replace hW : Wd g zl38 m00 O00 H := Wd_eq zlq60 (by rw [← ht]; exact hW)
  refine lv_if_ne (tgt := 387) hx hb dL_locks_376 (by decide) (fun c99 => absurd c99 (by decide)) (fun _ => ?_)
  refine lv_aload_n hx hb dL_locks_379 rfl (lv_at hl 1 rfl) ?_
  refine lv_iconst (v := 5) hx hb dL_locks_380 (by decide) ?_
  refine cOKi (v := 0) (τ := zl39) (vx_runV (As := [.int 5]) (rest := []) ⟨hx, hb, hml, hown, hts⟩ (mtX2_enter l hfl g zl38 m00 O00 5 0 6 (ok_enter (g := g) (μ := m00) (o := O00) zlq61).1.1 (ok_enter (g := g) (μ := m00) (o := O00) zlq61).1.2.1 (ok_enter (g := g) (μ := m00) (o := O00) zlq61).1.2.2.1 (ok_enter (g := g) (μ := m00) (o := O00) zlq61).1.2.2.2) (cwV 1 hts gL_locks_X2_enter rfl rfl rfl (by decide +kernel) ⟨Nat.le_of_ble_eq_true rfl, Nat.le_of_ble_eq_true rfl⟩) ⟨PW.blind, rcB hC hW, fun U hU hW9 => ⟨rfl, PW.at hC hS hW U hU hW9⟩⟩ rfl rfl hl.1 rfl (lv_room (Nat.le_of_ble_eq_true rfl)) dL_locks_381 ⟨Nat.le_of_ble_eq_true rfl, Nat.le_of_ble_eq_true rfl⟩) hS (fun _ _ _ q => no_2 (ok_enter (g := g) (μ := m00) (o := O00) zlq61).2.1 q) (ok_enter zlq61).2.2 (fun H locs hW hS => ?_)
  refine lv_if_eq (tgt := 389) hx hb dL_locks_384 (by decide) (fun _ => ?_) (fun c100 => absurd c100 (by decide))
  refine lv_iconst (v := 0) hx hb dL_locks_389 (by decide) ?_
  refine lv_istore_n (lv' := [(1, .int 0), (0, .ref (gA g 0))]) hx hb dL_locks_390 rfl hl (by decide) rfl (fun ls hl => ?_)
  refine lv_iload_n hx hb dL_locks_391 rfl (lv_at hl 0 rfl) ?_
  refine lv_bipush (v := 6) hx hb dL_locks_392 (by decide) ?_
  refine lv_icmp_ge (tgt := 424) hx hb dL_locks_394 (by decide) (fun c101 => absurd c101 (by decide)) (fun _ => ?_)
  refine lv_aload_n hx hb dL_locks_397 rfl (lv_at hl 1 rfl) ?_
  refine lv_bipush (v := 9) hx hb dL_locks_398 (by decide) ?_
  refine cOKi (v := 0) (τ := zl40) (vx_runV (As := [.int 9]) (rest := []) ⟨hx, hb, hml, hown, hts⟩ (mtX2_enter l hfl g zl39 m00 O00 9 1 6 (ok_enter (g := g) (μ := m00) (o := O00) zlq62).1.1 (ok_enter (g := g) (μ := m00) (o := O00) zlq62).1.2.1 (ok_enter (g := g) (μ := m00) (o := O00) zlq62).1.2.2.1 (ok_enter (g := g) (μ := m00) (o := O00) zlq62).1.2.2.2) (cwV 1 hts gL_locks_X2_enter rfl rfl rfl (by decide +kernel) ⟨Nat.le_of_ble_eq_true rfl, Nat.le_of_ble_eq_true rfl⟩) ⟨PW.blind, rcB hC hW, fun U hU hW9 => ⟨rfl, PW.at hC hS hW U hU hW9⟩⟩ rfl rfl hl.1 rfl (lv_room (Nat.le_of_ble_eq_true rfl)) dL_locks_400 ⟨Nat.le_of_ble_eq_true rfl, Nat.le_of_ble_eq_true rfl⟩) hS (fun _ _ _ q => no_2 (ok_enter (g := g) (μ := m00) (o := O00) zlq62).2.1 q) (ok_enter zlq62).2.2 (fun H locs hW hS => ?_)
  refine lv_iload_n hx hb dL_locks_403 rfl (lv_at hl 0 rfl) ?_
  refine lv_iconst (v := 5) hx hb dL_locks_404 (by decide) ?_
  refine lv_icmp_ne (tgt := 412) hx hb dL_locks_405 (by decide) (fun _ => ?_) (fun c102 => absurd c102 (by decide))
  refine lv_iconst (v := 0) hx hb dL_locks_412 (by decide) ?_
  refine lv_icmp_eq (tgt := 418) hx hb dL_locks_413 (by decide) (fun _ => ?_) (fun c103 => absurd c103 (by decide))
  refine lv_iinc (v := 1) (lv' := [(1, .int 1), (0, .ref (gA g 0))]) hx hb dL_locks_418 hl (k := 0) rfl (by decide) (by decide) rfl (fun ls hl => ?_)
  refine lv_goto (tgt := 391) hx hb dL_locks_421 (by decide) ?_
  refine lv_iload_n hx hb dL_locks_391 rfl (lv_at hl 0 rfl) ?_
  refine lv_bipush (v := 6) hx hb dL_locks_392 (by decide) ?_
  refine lv_icmp_ge (tgt := 424) hx hb dL_locks_394 (by decide) (fun c104 => absurd c104 (by decide)) (fun _ => ?_)
  refine lv_aload_n hx hb dL_locks_397 rfl (lv_at hl 1 rfl) ?_
  refine lv_bipush (v := 9) hx hb dL_locks_398 (by decide) ?_
  refine cOKi (v := 0) (τ := zl41) (vx_runV (As := [.int 9]) (rest := []) ⟨hx, hb, hml, hown, hts⟩ (mtX2_enter l hfl g zl40 m00 O00 9 2 6 (ok_enter (g := g) (μ := m00) (o := O00) zlq63).1.1 (ok_enter (g := g) (μ := m00) (o := O00) zlq63).1.2.1 (ok_enter (g := g) (μ := m00) (o := O00) zlq63).1.2.2.1 (ok_enter (g := g) (μ := m00) (o := O00) zlq63).1.2.2.2) (cwV 1 hts gL_locks_X2_enter rfl rfl rfl (by decide +kernel) ⟨Nat.le_of_ble_eq_true rfl, Nat.le_of_ble_eq_true rfl⟩) ⟨PW.blind, rcB hC hW, fun U hU hW9 => ⟨rfl, PW.at hC hS hW U hU hW9⟩⟩ rfl rfl hl.1 rfl (lv_room (Nat.le_of_ble_eq_true rfl)) dL_locks_400 ⟨Nat.le_of_ble_eq_true rfl, Nat.le_of_ble_eq_true rfl⟩) hS (fun _ _ _ q => no_2 (ok_enter (g := g) (μ := m00) (o := O00) zlq63).2.1 q) (ok_enter zlq63).2.2 (fun H locs hW hS => ?_)
  refine lv_iload_n hx hb dL_locks_403 rfl (lv_at hl 0 rfl) ?_
  refine lv_iconst (v := 5) hx hb dL_locks_404 (by decide) ?_
  refine lv_icmp_ne (tgt := 412) hx hb dL_locks_405 (by decide) (fun _ => ?_) (fun c105 => absurd c105 (by decide))
  refine lv_iconst (v := 0) hx hb dL_locks_412 (by decide) ?_
  refine lv_icmp_eq (tgt := 418) hx hb dL_locks_413 (by decide) (fun _ => ?_) (fun c106 => absurd c106 (by decide))
  refine lv_iinc (v := 2) (lv' := [(1, .int 2), (0, .ref (gA g 0))]) hx hb dL_locks_418 hl (k := 0) rfl (by decide) (by decide) rfl (fun ls hl => ?_)
  refine lv_goto (tgt := 391) hx hb dL_locks_421 (by decide) ?_
  refine lv_iload_n hx hb dL_locks_391 rfl (lv_at hl 0 rfl) ?_
  refine lv_bipush (v := 6) hx hb dL_locks_392 (by decide) ?_
  refine lv_icmp_ge (tgt := 424) hx hb dL_locks_394 (by decide) (fun c107 => absurd c107 (by decide)) (fun _ => ?_)
  refine lv_aload_n hx hb dL_locks_397 rfl (lv_at hl 1 rfl) ?_
  refine lv_bipush (v := 9) hx hb dL_locks_398 (by decide) ?_
  refine cOKi (v := 0) (τ := zl42) (vx_runV (As := [.int 9]) (rest := []) ⟨hx, hb, hml, hown, hts⟩ (mtX2_enter l hfl g zl41 m00 O00 9 3 6 (ok_enter (g := g) (μ := m00) (o := O00) zlq64).1.1 (ok_enter (g := g) (μ := m00) (o := O00) zlq64).1.2.1 (ok_enter (g := g) (μ := m00) (o := O00) zlq64).1.2.2.1 (ok_enter (g := g) (μ := m00) (o := O00) zlq64).1.2.2.2) (cwV 1 hts gL_locks_X2_enter rfl rfl rfl (by decide +kernel) ⟨Nat.le_of_ble_eq_true rfl, Nat.le_of_ble_eq_true rfl⟩) ⟨PW.blind, rcB hC hW, fun U hU hW9 => ⟨rfl, PW.at hC hS hW U hU hW9⟩⟩ rfl rfl hl.1 rfl (lv_room (Nat.le_of_ble_eq_true rfl)) dL_locks_400 ⟨Nat.le_of_ble_eq_true rfl, Nat.le_of_ble_eq_true rfl⟩) hS (fun _ _ _ q => no_2 (ok_enter (g := g) (μ := m00) (o := O00) zlq64).2.1 q) (ok_enter zlq64).2.2 (fun H locs hW hS => ?_)
  refine lv_iload_n hx hb dL_locks_403 rfl (lv_at hl 0 rfl) ?_
  refine lv_iconst (v := 5) hx hb dL_locks_404 (by decide) ?_
  refine lv_icmp_ne (tgt := 412) hx hb dL_locks_405 (by decide) (fun _ => ?_) (fun c108 => absurd c108 (by decide))
  refine lv_iconst (v := 0) hx hb dL_locks_412 (by decide) ?_
  refine lv_icmp_eq (tgt := 418) hx hb dL_locks_413 (by decide) (fun _ => ?_) (fun c109 => absurd c109 (by decide))
  refine lv_iinc (v := 3) (lv' := [(1, .int 3), (0, .ref (gA g 0))]) hx hb dL_locks_418 hl (k := 0) rfl (by decide) (by decide) rfl (fun ls hl => ?_)
  refine lv_goto (tgt := 391) hx hb dL_locks_421 (by decide) ?_
  refine lv_iload_n hx hb dL_locks_391 rfl (lv_at hl 0 rfl) ?_
  refine lv_bipush (v := 6) hx hb dL_locks_392 (by decide) ?_
  refine lv_icmp_ge (tgt := 424) hx hb dL_locks_394 (by decide) (fun c110 => absurd c110 (by decide)) (fun _ => ?_)
  refine lv_aload_n hx hb dL_locks_397 rfl (lv_at hl 1 rfl) ?_
  refine lv_bipush (v := 9) hx hb dL_locks_398 (by decide) ?_
  refine cOKi (v := 0) (τ := zl43) (vx_runV (As := [.int 9]) (rest := []) ⟨hx, hb, hml, hown, hts⟩ (mtX2_enter l hfl g zl42 m00 O00 9 4 6 (ok_enter (g := g) (μ := m00) (o := O00) zlq65).1.1 (ok_enter (g := g) (μ := m00) (o := O00) zlq65).1.2.1 (ok_enter (g := g) (μ := m00) (o := O00) zlq65).1.2.2.1 (ok_enter (g := g) (μ := m00) (o := O00) zlq65).1.2.2.2) (cwV 1 hts gL_locks_X2_enter rfl rfl rfl (by decide +kernel) ⟨Nat.le_of_ble_eq_true rfl, Nat.le_of_ble_eq_true rfl⟩) ⟨PW.blind, rcB hC hW, fun U hU hW9 => ⟨rfl, PW.at hC hS hW U hU hW9⟩⟩ rfl rfl hl.1 rfl (lv_room (Nat.le_of_ble_eq_true rfl)) dL_locks_400 ⟨Nat.le_of_ble_eq_true rfl, Nat.le_of_ble_eq_true rfl⟩) hS (fun _ _ _ q => no_2 (ok_enter (g := g) (μ := m00) (o := O00) zlq65).2.1 q) (ok_enter zlq65).2.2 (fun H locs hW hS => ?_)
  refine lv_iload_n hx hb dL_locks_403 rfl (lv_at hl 0 rfl) ?_
  refine lv_iconst (v := 5) hx hb dL_locks_404 (by decide) ?_
  refine lv_icmp_ne (tgt := 412) hx hb dL_locks_405 (by decide) (fun _ => ?_) (fun c111 => absurd c111 (by decide))
  refine lv_iconst (v := 0) hx hb dL_locks_412 (by decide) ?_
  refine lv_icmp_eq (tgt := 418) hx hb dL_locks_413 (by decide) (fun _ => ?_) (fun c112 => absurd c112 (by decide))
  refine lv_iinc (v := 4) (lv' := [(1, .int 4), (0, .ref (gA g 0))]) hx hb dL_locks_418 hl (k := 0) rfl (by decide) (by decide) rfl (fun ls hl => ?_)
  refine lv_goto (tgt := 391) hx hb dL_locks_421 (by decide) ?_
  refine lv_iload_n hx hb dL_locks_391 rfl (lv_at hl 0 rfl) ?_
  refine lv_bipush (v := 6) hx hb dL_locks_392 (by decide) ?_
  refine lv_icmp_ge (tgt := 424) hx hb dL_locks_394 (by decide) (fun c113 => absurd c113 (by decide)) (fun _ => ?_)
  refine lv_aload_n hx hb dL_locks_397 rfl (lv_at hl 1 rfl) ?_
  refine lv_bipush (v := 9) hx hb dL_locks_398 (by decide) ?_
  refine cOKi (v := 0) (τ := zl44) (vx_runV (As := [.int 9]) (rest := []) ⟨hx, hb, hml, hown, hts⟩ (mtX2_enter l hfl g zl43 m00 O00 9 5 6 (ok_enter (g := g) (μ := m00) (o := O00) zlq66).1.1 (ok_enter (g := g) (μ := m00) (o := O00) zlq66).1.2.1 (ok_enter (g := g) (μ := m00) (o := O00) zlq66).1.2.2.1 (ok_enter (g := g) (μ := m00) (o := O00) zlq66).1.2.2.2) (cwV 1 hts gL_locks_X2_enter rfl rfl rfl (by decide +kernel) ⟨Nat.le_of_ble_eq_true rfl, Nat.le_of_ble_eq_true rfl⟩) ⟨PW.blind, rcB hC hW, fun U hU hW9 => ⟨rfl, PW.at hC hS hW U hU hW9⟩⟩ rfl rfl hl.1 rfl (lv_room (Nat.le_of_ble_eq_true rfl)) dL_locks_400 ⟨Nat.le_of_ble_eq_true rfl, Nat.le_of_ble_eq_true rfl⟩) hS (fun _ _ _ q => no_2 (ok_enter (g := g) (μ := m00) (o := O00) zlq66).2.1 q) (ok_enter zlq66).2.2 (fun H locs hW hS => ?_)
  refine lv_iload_n hx hb dL_locks_403 rfl (lv_at hl 0 rfl) ?_
  refine lv_iconst (v := 5) hx hb dL_locks_404 (by decide) ?_
  refine lv_icmp_ne (tgt := 412) hx hb dL_locks_405 (by decide) (fun _ => ?_) (fun c114 => absurd c114 (by decide))
  refine lv_iconst (v := 0) hx hb dL_locks_412 (by decide) ?_
  refine lv_icmp_eq (tgt := 418) hx hb dL_locks_413 (by decide) (fun _ => ?_) (fun c115 => absurd c115 (by decide))
  refine lv_iinc (v := 5) (lv' := [(1, .int 5), (0, .ref (gA g 0))]) hx hb dL_locks_418 hl (k := 0) rfl (by decide) (by decide) rfl (fun ls hl => ?_)
  refine lv_goto (tgt := 391) hx hb dL_locks_421 (by decide) ?_
  refine lv_iload_n hx hb dL_locks_391 rfl (lv_at hl 0 rfl) ?_
  refine lv_bipush (v := 6) hx hb dL_locks_392 (by decide) ?_
  refine lv_icmp_ge (tgt := 424) hx hb dL_locks_394 (by decide) (fun c116 => absurd c116 (by decide)) (fun _ => ?_)
  refine lv_aload_n hx hb dL_locks_397 rfl (lv_at hl 1 rfl) ?_
  refine lv_bipush (v := 9) hx hb dL_locks_398 (by decide) ?_
  refine cOKi (v := 1) (τ := zl45) (vx_runV (As := [.int 9]) (rest := []) ⟨hx, hb, hml, hown, hts⟩ (mtX2_enter l hfl g zl44 m00 O00 9 6 6 (ok_enter (g := g) (μ := m00) (o := O00) zlq67).1.1 (ok_enter (g := g) (μ := m00) (o := O00) zlq67).1.2.1 (ok_enter (g := g) (μ := m00) (o := O00) zlq67).1.2.2.1 (ok_enter (g := g) (μ := m00) (o := O00) zlq67).1.2.2.2) (cwV 1 hts gL_locks_X2_enter rfl rfl rfl (by decide +kernel) ⟨Nat.le_of_ble_eq_true rfl, Nat.le_of_ble_eq_true rfl⟩) ⟨PW.blind, rcB hC hW, fun U hU hW9 => ⟨rfl, PW.at hC hS hW U hU hW9⟩⟩ rfl rfl hl.1 rfl (lv_room (Nat.le_of_ble_eq_true rfl)) dL_locks_400 ⟨Nat.le_of_ble_eq_true rfl, Nat.le_of_ble_eq_true rfl⟩) hS (fun _ _ _ q => no_2 (ok_enter (g := g) (μ := m00) (o := O00) zlq67).2.1 q) (ok_enter zlq67).2.2 (fun H locs hW hS => ?_)
  refine lv_iload_n hx hb dL_locks_403 rfl (lv_at hl 0 rfl) ?_
  refine lv_iconst (v := 5) hx hb dL_locks_404 (by decide) ?_
  refine lv_icmp_ne (tgt := 412) hx hb dL_locks_405 (by decide) (fun c117 => absurd c117 (by decide)) (fun _ => ?_)
  refine lv_iconst (v := 1) hx hb dL_locks_408 (by decide) ?_
  refine lv_goto (tgt := 413) hx hb dL_locks_409 (by decide) ?_
  refine lv_icmp_eq (tgt := 418) hx hb dL_locks_413 (by decide) (fun _ => ?_) (fun c118 => absurd c118 (by decide))
  refine lv_iinc (v := 6) (lv' := [(1, .int 6), (0, .ref (gA g 0))]) hx hb dL_locks_418 hl (k := 0) rfl (by decide) (by decide) rfl (fun ls hl => ?_)
  refine lv_goto (tgt := 391) hx hb dL_locks_421 (by decide) ?_
  refine lv_iload_n hx hb dL_locks_391 rfl (lv_at hl 0 rfl) ?_
  refine lv_bipush (v := 6) hx hb dL_locks_392 (by decide) ?_
  refine lv_icmp_ge (tgt := 424) hx hb dL_locks_394 (by decide) (fun _ => ?_) (fun c119 => absurd c119 (by decide))
  refine lv_aload_n hx hb dL_locks_424 rfl (lv_at hl 1 rfl) ?_
  refine lv_iconst (v := 3) hx hb dL_locks_425 (by decide) ?_
  refine lv_iconst (v := 1) hx hb dL_locks_426 (by decide) ?_
  refine va_calli (vx_runSW (As := [.ref (gA g 0), .int 3, .int 1]) (rest := []) ⟨hx, hb, hml, hown, hts⟩ (mtL_lockS l g zl45 m00 O00 hfl 3 1 zlq68) (vx_cwSW 3 hts gL_locks_L_lock rfl rfl rfl (by decide +kernel) ⟨Nat.le_of_ble_eq_true rfl, Nat.le_of_ble_eq_true rfl⟩) ⟨PW.blind, fun U hU hW9 => ⟨rfl, PW.at hC hS hW U hU hW9⟩⟩ rfl rfl hl.1 rfl (lv_room (Nat.le_of_ble_eq_true rfl)) dL_locks_427 ⟨Nat.le_of_ble_eq_true rfl, Nat.le_of_ble_eq_true rfl⟩) hS (fun _ _ h => h) (fun _ h => h) (fun r u t H locs ht hvm hq hW hz9 hk9 hS => ?_)
  obtain rfl : r = 0 := hq
  replace hW : Wd g zl46 m00 O00 H := Wd_eq zlq69 (by rw [← ht]; exact hW)
  refine lv_if_eq (tgt := 435) hx hb dL_locks_430 (by decide) (fun _ => ?_) (fun c120 => absurd c120 (by decide))
  refine lv_iconst (v := 0) hx hb dL_locks_435 (by decide) ?_
  refine lv_istore_n (lv' := [(1, .int 0), (0, .ref (gA g 0))]) hx hb dL_locks_436 rfl hl (by decide) rfl (fun ls hl => ?_)
  refine lv_iload_n hx hb dL_locks_437 rfl (lv_at hl 0 rfl) ?_
  refine lv_bipush (v := 12) hx hb dL_locks_438 (by decide) ?_
  refine lv_icmp_ge (tgt := 480) hx hb dL_locks_440 (by decide) (fun c121 => absurd c121 (by decide)) (fun _ => ?_)
  refine lv_aload_n hx hb dL_locks_443 rfl (lv_at hl 1 rfl) ?_
  refine lv_iload_n hx hb dL_locks_444 rfl (lv_at hl 0 rfl) ?_
  refine lv_bipush (v := 11) hx hb dL_locks_445 (by decide) ?_
  refine lv_icmp_ne (tgt := 454) hx hb dL_locks_447 (by decide) (fun _ => ?_) (fun c122 => absurd c122 (by decide))
  refine lv_iconst (v := 4) hx hb dL_locks_454 (by decide) ?_
  refine cOKi (v := 0) (τ := zl47) (vx_runV (As := [.int 4]) (rest := []) ⟨hx, hb, hml, hown, hts⟩ (mtX2_enter l hfl g zl46 m00 O00 4 0 1 (ok_enter (g := g) (μ := m00) (o := O00) zlq70).1.1 (ok_enter (g := g) (μ := m00) (o := O00) zlq70).1.2.1 (ok_enter (g := g) (μ := m00) (o := O00) zlq70).1.2.2.1 (ok_enter (g := g) (μ := m00) (o := O00) zlq70).1.2.2.2) (cwV 1 hts gL_locks_X2_enter rfl rfl rfl (by decide +kernel) ⟨Nat.le_of_ble_eq_true rfl, Nat.le_of_ble_eq_true rfl⟩) ⟨PW.blind, rcB hC hW, fun U hU hW9 => ⟨rfl, PW.at hC hS hW U hU hW9⟩⟩ rfl rfl hl.1 rfl (lv_room (Nat.le_of_ble_eq_true rfl)) dL_locks_455 ⟨Nat.le_of_ble_eq_true rfl, Nat.le_of_ble_eq_true rfl⟩) hS (fun _ _ _ q => no_2 (ok_enter (g := g) (μ := m00) (o := O00) zlq70).2.1 q) (ok_enter zlq70).2.2 (fun H locs hW hS => ?_)
  refine lv_iload_n hx hb dL_locks_458 rfl (lv_at hl 0 rfl) ?_
  refine lv_bipush (v := 11) hx hb dL_locks_459 (by decide) ?_
  refine lv_icmp_ne (tgt := 468) hx hb dL_locks_461 (by decide) (fun _ => ?_) (fun c123 => absurd c123 (by decide))
  refine lv_iconst (v := 0) hx hb dL_locks_468 (by decide) ?_
  refine lv_icmp_eq (tgt := 474) hx hb dL_locks_469 (by decide) (fun _ => ?_) (fun c124 => absurd c124 (by decide))
  refine W.widen (k := 286) (n := 1766) (Nat.le_of_ble_eq_true rfl) (Nat.le_of_ble_eq_true rfl) ?_
  exact kk H locs ls hW hS (by exact lv_sub hl [1, 0] rfl)
set_option maxHeartbeats 4000000 in
set_option maxRecDepth 100000 in
theorem zl_6 {p : Program} {l : Launch} {e : Env} {s : State} {m : MethodId} {below : List Frame} {meth : Method} {c : Code} {g : Ge} (C0 : zlC p l s m meth c g) (kk : zlG p l e s m below meth c g zl57 474 [(0, .ref (gA g 0)), (1, .int 10)] 306 1886) : zlG p l e s m below meth c g zl47 474 [(0, .ref (gA g 0)), (1, .int 0)] 286 1766 := by
  obtain ⟨⟨hx, hb, hr, hml, hts, hown, hlocks⟩, hC, hfl⟩ := C0
  intro H locs ls hW hS hl
  have hl : lv_has ls 2 [(0, .ref (gA g 0)), (1, .int 0)] := hl
  refine lv_iinc (v := 1) (lv' := [(1, .int 1), (0, .ref (gA g 0))]) hx hb dL_locks_474 hl (k := 1) rfl (by decide) (by decide) rfl (fun ls hl => ?_)
  refine lv_goto (tgt := 437) hx hb dL_locks_477 (by decide) ?_
  refine lv_iload_n hx hb dL_locks_437 rfl (lv_at hl 0 rfl) ?_
  refine lv_bipush (v := 12) hx hb dL_locks_438 (by decide) ?_
  refine lv_icmp_ge (tgt := 480) hx hb dL_locks_440 (by decide) (fun c125 => absurd c125 (by decide)) (fun _ => ?_)
  refine lv_aload_n hx hb dL_locks_443 rfl (lv_at hl 1 rfl) ?_
  refine lv_iload_n hx hb dL_locks_444 rfl (lv_at hl 0 rfl) ?_
  refine lv_bipush (v := 11) hx hb dL_locks_445 (by decide) ?_
  refine lv_icmp_ne (tgt := 454) hx hb dL_locks_447 (by decide) (fun _ => ?_) (fun c126 => absurd c126 (by decide))
  refine lv_iconst (v := 4) hx hb dL_locks_454 (by decide) ?_
  refine cOKi (v := 0) (τ := zl48) (vx_runV (As := [.int 4]) (rest := []) ⟨hx, hb, hml, hown, hts⟩ (mtX2_enter l hfl g zl47 m00 O00 4 1 1 (ok_enter (g := g) (μ := m00) (o := O00) zlq71).1.1 (ok_enter (g := g) (μ := m00) (o := O00) zlq71).1.2.1 (ok_enter (g := g) (μ := m00) (o := O00) zlq71).1.2.2.1 (ok_enter (g := g) (μ := m00) (o := O00) zlq71).1.2.2.2) (cwV 1 hts gL_locks_X2_enter rfl rfl rfl (by decide +kernel) ⟨Nat.le_of_ble_eq_true rfl, Nat.le_of_ble_eq_true rfl⟩) ⟨PW.blind, rcB hC hW, fun U hU hW9 => ⟨rfl, PW.at hC hS hW U hU hW9⟩⟩ rfl rfl hl.1 rfl (lv_room (Nat.le_of_ble_eq_true rfl)) dL_locks_455 ⟨Nat.le_of_ble_eq_true rfl, Nat.le_of_ble_eq_true rfl⟩) hS (fun _ _ _ q => no_2 (ok_enter (g := g) (μ := m00) (o := O00) zlq71).2.1 q) (ok_enter zlq71).2.2 (fun H locs hW hS => ?_)
  refine lv_iload_n hx hb dL_locks_458 rfl (lv_at hl 0 rfl) ?_
  refine lv_bipush (v := 11) hx hb dL_locks_459 (by decide) ?_
  refine lv_icmp_ne (tgt := 468) hx hb dL_locks_461 (by decide) (fun _ => ?_) (fun c127 => absurd c127 (by decide))
  refine lv_iconst (v := 0) hx hb dL_locks_468 (by decide) ?_
  refine lv_icmp_eq (tgt := 474) hx hb dL_locks_469 (by decide) (fun _ => ?_) (fun c128 => absurd c128 (by decide))
  refine lv_iinc (v := 2) (lv' := [(1, .int 2), (0, .ref (gA g 0))]) hx hb dL_locks_474 hl (k := 0) rfl (by decide) (by decide) rfl (fun ls hl => ?_)
  refine lv_goto (tgt := 437) hx hb dL_locks_477 (by decide) ?_
  refine lv_iload_n hx hb dL_locks_437 rfl (lv_at hl 0 rfl) ?_
  refine lv_bipush (v := 12) hx hb dL_locks_438 (by decide) ?_
  refine lv_icmp_ge (tgt := 480) hx hb dL_locks_440 (by decide) (fun c129 => absurd c129 (by decide)) (fun _ => ?_)
  refine lv_aload_n hx hb dL_locks_443 rfl (lv_at hl 1 rfl) ?_
  refine lv_iload_n hx hb dL_locks_444 rfl (lv_at hl 0 rfl) ?_
  refine lv_bipush (v := 11) hx hb dL_locks_445 (by decide) ?_
  refine lv_icmp_ne (tgt := 454) hx hb dL_locks_447 (by decide) (fun _ => ?_) (fun c130 => absurd c130 (by decide))
  refine lv_iconst (v := 4) hx hb dL_locks_454 (by decide) ?_
  refine cOKi (v := 0) (τ := zl49) (vx_runV (As := [.int 4]) (rest := []) ⟨hx, hb, hml, hown, hts⟩ (mtX2_enter l hfl g zl48 m00 O00 4 2 1 (ok_enter (g := g) (μ := m00) (o := O00) zlq72).1.1 (ok_enter (g := g) (μ := m00) (o := O00) zlq72).1.2.1 (ok_enter (g := g) (μ := m00) (o := O00) zlq72).1.2.2.1 (ok_enter (g := g) (μ := m00) (o := O00) zlq72).1.2.2.2) (cwV 1 hts gL_locks_X2_enter rfl rfl rfl (by decide +kernel) ⟨Nat.le_of_ble_eq_true rfl, Nat.le_of_ble_eq_true rfl⟩) ⟨PW.blind, rcB hC hW, fun U hU hW9 => ⟨rfl, PW.at hC hS hW U hU hW9⟩⟩ rfl rfl hl.1 rfl (lv_room (Nat.le_of_ble_eq_true rfl)) dL_locks_455 ⟨Nat.le_of_ble_eq_true rfl, Nat.le_of_ble_eq_true rfl⟩) hS (fun _ _ _ q => no_2 (ok_enter (g := g) (μ := m00) (o := O00) zlq72).2.1 q) (ok_enter zlq72).2.2 (fun H locs hW hS => ?_)
  refine lv_iload_n hx hb dL_locks_458 rfl (lv_at hl 0 rfl) ?_
  refine lv_bipush (v := 11) hx hb dL_locks_459 (by decide) ?_
  refine lv_icmp_ne (tgt := 468) hx hb dL_locks_461 (by decide) (fun _ => ?_) (fun c131 => absurd c131 (by decide))
  refine lv_iconst (v := 0) hx hb dL_locks_468 (by decide) ?_
  refine lv_icmp_eq (tgt := 474) hx hb dL_locks_469 (by decide) (fun _ => ?_) (fun c132 => absurd c132 (by decide))
  refine lv_iinc (v := 3) (lv' := [(1, .int 3), (0, .ref (gA g 0))]) hx hb dL_locks_474 hl (k := 0) rfl (by decide) (by decide) rfl (fun ls hl => ?_)
  refine lv_goto (tgt := 437) hx hb dL_locks_477 (by decide) ?_
  refine lv_iload_n hx hb dL_locks_437 rfl (lv_at hl 0 rfl) ?_
  refine lv_bipush (v := 12) hx hb dL_locks_438 (by decide) ?_
  refine lv_icmp_ge (tgt := 480) hx hb dL_locks_440 (by decide) (fun c133 => absurd c133 (by decide)) (fun _ => ?_)
  refine lv_aload_n hx hb dL_locks_443 rfl (lv_at hl 1 rfl) ?_
  refine lv_iload_n hx hb dL_locks_444 rfl (lv_at hl 0 rfl) ?_
  refine lv_bipush (v := 11) hx hb dL_locks_445 (by decide) ?_
  refine lv_icmp_ne (tgt := 454) hx hb dL_locks_447 (by decide) (fun _ => ?_) (fun c134 => absurd c134 (by decide))
  refine lv_iconst (v := 4) hx hb dL_locks_454 (by decide) ?_
  refine cOKi (v := 0) (τ := zl50) (vx_runV (As := [.int 4]) (rest := []) ⟨hx, hb, hml, hown, hts⟩ (mtX2_enter l hfl g zl49 m00 O00 4 3 1 (ok_enter (g := g) (μ := m00) (o := O00) zlq73).1.1 (ok_enter (g := g) (μ := m00) (o := O00) zlq73).1.2.1 (ok_enter (g := g) (μ := m00) (o := O00) zlq73).1.2.2.1 (ok_enter (g := g) (μ := m00) (o := O00) zlq73).1.2.2.2) (cwV 1 hts gL_locks_X2_enter rfl rfl rfl (by decide +kernel) ⟨Nat.le_of_ble_eq_true rfl, Nat.le_of_ble_eq_true rfl⟩) ⟨PW.blind, rcB hC hW, fun U hU hW9 => ⟨rfl, PW.at hC hS hW U hU hW9⟩⟩ rfl rfl hl.1 rfl (lv_room (Nat.le_of_ble_eq_true rfl)) dL_locks_455 ⟨Nat.le_of_ble_eq_true rfl, Nat.le_of_ble_eq_true rfl⟩) hS (fun _ _ _ q => no_2 (ok_enter (g := g) (μ := m00) (o := O00) zlq73).2.1 q) (ok_enter zlq73).2.2 (fun H locs hW hS => ?_)
  refine lv_iload_n hx hb dL_locks_458 rfl (lv_at hl 0 rfl) ?_
  refine lv_bipush (v := 11) hx hb dL_locks_459 (by decide) ?_
  refine lv_icmp_ne (tgt := 468) hx hb dL_locks_461 (by decide) (fun _ => ?_) (fun c135 => absurd c135 (by decide))
  refine lv_iconst (v := 0) hx hb dL_locks_468 (by decide) ?_
  refine lv_icmp_eq (tgt := 474) hx hb dL_locks_469 (by decide) (fun _ => ?_) (fun c136 => absurd c136 (by decide))
  refine lv_iinc (v := 4) (lv' := [(1, .int 4), (0, .ref (gA g 0))]) hx hb dL_locks_474 hl (k := 0) rfl (by decide) (by decide) rfl (fun ls hl => ?_)
  refine lv_goto (tgt := 437) hx hb dL_locks_477 (by decide) ?_
  refine lv_iload_n hx hb dL_locks_437 rfl (lv_at hl 0 rfl) ?_
  refine lv_bipush (v := 12) hx hb dL_locks_438 (by decide) ?_
  refine lv_icmp_ge (tgt := 480) hx hb dL_locks_440 (by decide) (fun c137 => absurd c137 (by decide)) (fun _ => ?_)
  refine lv_aload_n hx hb dL_locks_443 rfl (lv_at hl 1 rfl) ?_
  refine lv_iload_n hx hb dL_locks_444 rfl (lv_at hl 0 rfl) ?_
  refine lv_bipush (v := 11) hx hb dL_locks_445 (by decide) ?_
  refine lv_icmp_ne (tgt := 454) hx hb dL_locks_447 (by decide) (fun _ => ?_) (fun c138 => absurd c138 (by decide))
  refine lv_iconst (v := 4) hx hb dL_locks_454 (by decide) ?_
  refine cOKi (v := 0) (τ := zl51) (vx_runV (As := [.int 4]) (rest := []) ⟨hx, hb, hml, hown, hts⟩ (mtX2_enter l hfl g zl50 m00 O00 4 4 1 (ok_enter (g := g) (μ := m00) (o := O00) zlq74).1.1 (ok_enter (g := g) (μ := m00) (o := O00) zlq74).1.2.1 (ok_enter (g := g) (μ := m00) (o := O00) zlq74).1.2.2.1 (ok_enter (g := g) (μ := m00) (o := O00) zlq74).1.2.2.2) (cwV 1 hts gL_locks_X2_enter rfl rfl rfl (by decide +kernel) ⟨Nat.le_of_ble_eq_true rfl, Nat.le_of_ble_eq_true rfl⟩) ⟨PW.blind, rcB hC hW, fun U hU hW9 => ⟨rfl, PW.at hC hS hW U hU hW9⟩⟩ rfl rfl hl.1 rfl (lv_room (Nat.le_of_ble_eq_true rfl)) dL_locks_455 ⟨Nat.le_of_ble_eq_true rfl, Nat.le_of_ble_eq_true rfl⟩) hS (fun _ _ _ q => no_2 (ok_enter (g := g) (μ := m00) (o := O00) zlq74).2.1 q) (ok_enter zlq74).2.2 (fun H locs hW hS => ?_)
  refine lv_iload_n hx hb dL_locks_458 rfl (lv_at hl 0 rfl) ?_
  refine lv_bipush (v := 11) hx hb dL_locks_459 (by decide) ?_
  refine lv_icmp_ne (tgt := 468) hx hb dL_locks_461 (by decide) (fun _ => ?_) (fun c139 => absurd c139 (by decide))
  refine lv_iconst (v := 0) hx hb dL_locks_468 (by decide) ?_
  refine lv_icmp_eq (tgt := 474) hx hb dL_locks_469 (by decide) (fun _ => ?_) (fun c140 => absurd c140 (by decide))
  refine lv_iinc (v := 5) (lv' := [(1, .int 5), (0, .ref (gA g 0))]) hx hb dL_locks_474 hl (k := 0) rfl (by decide) (by decide) rfl (fun ls hl => ?_)
  refine lv_goto (tgt := 437) hx hb dL_locks_477 (by decide) ?_
  refine lv_iload_n hx hb dL_locks_437 rfl (lv_at hl 0 rfl) ?_
  refine lv_bipush (v := 12) hx hb dL_locks_438 (by decide) ?_
  refine lv_icmp_ge (tgt := 480) hx hb dL_locks_440 (by decide) (fun c141 => absurd c141 (by decide)) (fun _ => ?_)
  refine lv_aload_n hx hb dL_locks_443 rfl (lv_at hl 1 rfl) ?_
  refine lv_iload_n hx hb dL_locks_444 rfl (lv_at hl 0 rfl) ?_
  refine lv_bipush (v := 11) hx hb dL_locks_445 (by decide) ?_
  refine lv_icmp_ne (tgt := 454) hx hb dL_locks_447 (by decide) (fun _ => ?_) (fun c142 => absurd c142 (by decide))
  refine lv_iconst (v := 4) hx hb dL_locks_454 (by decide) ?_
  refine cOKi (v := 0) (τ := zl52) (vx_runV (As := [.int 4]) (rest := []) ⟨hx, hb, hml, hown, hts⟩ (mtX2_enter l hfl g zl51 m00 O00 4 5 1 (ok_enter (g := g) (μ := m00) (o := O00) zlq75).1.1 (ok_enter (g := g) (μ := m00) (o := O00) zlq75).1.2.1 (ok_enter (g := g) (μ := m00) (o := O00) zlq75).1.2.2.1 (ok_enter (g := g) (μ := m00) (o := O00) zlq75).1.2.2.2) (cwV 1 hts gL_locks_X2_enter rfl rfl rfl (by decide +kernel) ⟨Nat.le_of_ble_eq_true rfl, Nat.le_of_ble_eq_true rfl⟩) ⟨PW.blind, rcB hC hW, fun U hU hW9 => ⟨rfl, PW.at hC hS hW U hU hW9⟩⟩ rfl rfl hl.1 rfl (lv_room (Nat.le_of_ble_eq_true rfl)) dL_locks_455 ⟨Nat.le_of_ble_eq_true rfl, Nat.le_of_ble_eq_true rfl⟩) hS (fun _ _ _ q => no_2 (ok_enter (g := g) (μ := m00) (o := O00) zlq75).2.1 q) (ok_enter zlq75).2.2 (fun H locs hW hS => ?_)
  refine lv_iload_n hx hb dL_locks_458 rfl (lv_at hl 0 rfl) ?_
  refine lv_bipush (v := 11) hx hb dL_locks_459 (by decide) ?_
  refine lv_icmp_ne (tgt := 468) hx hb dL_locks_461 (by decide) (fun _ => ?_) (fun c143 => absurd c143 (by decide))
  refine lv_iconst (v := 0) hx hb dL_locks_468 (by decide) ?_
  refine lv_icmp_eq (tgt := 474) hx hb dL_locks_469 (by decide) (fun _ => ?_) (fun c144 => absurd c144 (by decide))
  refine lv_iinc (v := 6) (lv' := [(1, .int 6), (0, .ref (gA g 0))]) hx hb dL_locks_474 hl (k := 0) rfl (by decide) (by decide) rfl (fun ls hl => ?_)
  refine lv_goto (tgt := 437) hx hb dL_locks_477 (by decide) ?_
  refine lv_iload_n hx hb dL_locks_437 rfl (lv_at hl 0 rfl) ?_
  refine lv_bipush (v := 12) hx hb dL_locks_438 (by decide) ?_
  refine lv_icmp_ge (tgt := 480) hx hb dL_locks_440 (by decide) (fun c145 => absurd c145 (by decide)) (fun _ => ?_)
  refine lv_aload_n hx hb dL_locks_443 rfl (lv_at hl 1 rfl) ?_
  refine lv_iload_n hx hb dL_locks_444 rfl (lv_at hl 0 rfl) ?_
  refine lv_bipush (v := 11) hx hb dL_locks_445 (by decide) ?_
  refine lv_icmp_ne (tgt := 454) hx hb dL_locks_447 (by decide) (fun _ => ?_) (fun c146 => absurd c146 (by decide))
  refine lv_iconst (v := 4) hx hb dL_locks_454 (by decide) ?_
  refine cOKi (v := 0) (τ := zl53) (vx_runV (As := [.int 4]) (rest := []) ⟨hx, hb, hml, hown, hts⟩ (mtX2_enter l hfl g zl52 m00 O00 4 6 1 (ok_enter (g := g) (μ := m00) (o := O00) zlq76).1.1 (ok_enter (g := g) (μ := m00) (o := O00) zlq76).1.2.1 (ok_enter (g := g) (μ := m00) (o := O00) zlq76).1.2.2.1 (ok_enter (g := g) (μ := m00) (o := O00) zlq76).1.2.2.2) (cwV 1 hts gL_locks_X2_enter rfl rfl rfl (by decide +kernel) ⟨Nat.le_of_ble_eq_true rfl, Nat.le_of_ble_eq_true rfl⟩) ⟨PW.blind, rcB hC hW, fun U hU hW9 => ⟨rfl, PW.at hC hS hW U hU hW9⟩⟩ rfl rfl hl.1 rfl (lv_room (Nat.le_of_ble_eq_true rfl)) dL_locks_455 ⟨Nat.le_of_ble_eq_true rfl, Nat.le_of_ble_eq_true rfl⟩) hS (fun _ _ _ q => no_2 (ok_enter (g := g) (μ := m00) (o := O00) zlq76).2.1 q) (ok_enter zlq76).2.2 (fun H locs hW hS => ?_)
  refine lv_iload_n hx hb dL_locks_458 rfl (lv_at hl 0 rfl) ?_
  refine lv_bipush (v := 11) hx hb dL_locks_459 (by decide) ?_
  refine lv_icmp_ne (tgt := 468) hx hb dL_locks_461 (by decide) (fun _ => ?_) (fun c147 => absurd c147 (by decide))
  refine lv_iconst (v := 0) hx hb dL_locks_468 (by decide) ?_
  refine lv_icmp_eq (tgt := 474) hx hb dL_locks_469 (by decide) (fun _ => ?_) (fun c148 => absurd c148 (by decide))
  refine lv_iinc (v := 7) (lv' := [(1, .int 7), (0, .ref (gA g 0))]) hx hb dL_locks_474 hl (k := 0) rfl (by decide) (by decide) rfl (fun ls hl => ?_)
  refine lv_goto (tgt := 437) hx hb dL_locks_477 (by decide) ?_
  refine lv_iload_n hx hb dL_locks_437 rfl (lv_at hl 0 rfl) ?_
  refine lv_bipush (v := 12) hx hb dL_locks_438 (by decide) ?_
  refine lv_icmp_ge (tgt := 480) hx hb dL_locks_440 (by decide) (fun c149 => absurd c149 (by decide)) (fun _ => ?_)
  refine lv_aload_n hx hb dL_locks_443 rfl (lv_at hl 1 rfl) ?_
  refine lv_iload_n hx hb dL_locks_444 rfl (lv_at hl 0 rfl) ?_
  refine lv_bipush (v := 11) hx hb dL_locks_445 (by decide) ?_
  refine lv_icmp_ne (tgt := 454) hx hb dL_locks_447 (by decide) (fun _ => ?_) (fun c150 => absurd c150 (by decide))
  refine lv_iconst (v := 4) hx hb dL_locks_454 (by decide) ?_
  refine cOKi (v := 0) (τ := zl54) (vx_runV (As := [.int 4]) (rest := []) ⟨hx, hb, hml, hown, hts⟩ (mtX2_enter l hfl g zl53 m00 O00 4 7 1 (ok_enter (g := g) (μ := m00) (o := O00) zlq77).1.1 (ok_enter (g := g) (μ := m00) (o := O00) zlq77).1.2.1 (ok_enter (g := g) (μ := m00) (o := O00) zlq77).1.2.2.1 (ok_enter (g := g) (μ := m00) (o := O00) zlq77).1.2.2.2) (cwV 1 hts gL_locks_X2_enter rfl rfl rfl (by decide +kernel) ⟨Nat.le_of_ble_eq_true rfl, Nat.le_of_ble_eq_true rfl⟩) ⟨PW.blind, rcB hC hW, fun U hU hW9 => ⟨rfl, PW.at hC hS hW U hU hW9⟩⟩ rfl rfl hl.1 rfl (lv_room (Nat.le_of_ble_eq_true rfl)) dL_locks_455 ⟨Nat.le_of_ble_eq_true rfl, Nat.le_of_ble_eq_true rfl⟩) hS (fun _ _ _ q => no_2 (ok_enter (g := g) (μ := m00) (o := O00) zlq77).2.1 q) (ok_enter zlq77).2.2 (fun H locs hW hS => ?_)
  refine lv_iload_n hx hb dL_locks_458 rfl (lv_at hl 0 rfl) ?_
  refine lv_bipush (v := 11) hx hb dL_locks_459 (by decide) ?_
  refine lv_icmp_ne (tgt := 468) hx hb dL_locks_461 (by decide) (fun _ => ?_) (fun c151 => absurd c151 (by decide))
  refine lv_iconst (v := 0) hx hb dL_locks_468 (by decide) ?_
  refine lv_icmp_eq (tgt := 474) hx hb dL_locks_469 (by decide) (fun _ => ?_) (fun c152 => absurd c152 (by decide))
  refine lv_iinc (v := 8) (lv' := [(1, .int 8), (0, .ref (gA g 0))]) hx hb dL_locks_474 hl (k := 0) rfl (by decide) (by decide) rfl (fun ls hl => ?_)
  refine lv_goto (tgt := 437) hx hb dL_locks_477 (by decide) ?_
  refine lv_iload_n hx hb dL_locks_437 rfl (lv_at hl 0 rfl) ?_
  refine lv_bipush (v := 12) hx hb dL_locks_438 (by decide) ?_
  refine lv_icmp_ge (tgt := 480) hx hb dL_locks_440 (by decide) (fun c153 => absurd c153 (by decide)) (fun _ => ?_)
  refine lv_aload_n hx hb dL_locks_443 rfl (lv_at hl 1 rfl) ?_
  refine lv_iload_n hx hb dL_locks_444 rfl (lv_at hl 0 rfl) ?_
  refine lv_bipush (v := 11) hx hb dL_locks_445 (by decide) ?_
  refine lv_icmp_ne (tgt := 454) hx hb dL_locks_447 (by decide) (fun _ => ?_) (fun c154 => absurd c154 (by decide))
  refine lv_iconst (v := 4) hx hb dL_locks_454 (by decide) ?_
  refine cOKi (v := 0) (τ := zl55) (vx_runV (As := [.int 4]) (rest := []) ⟨hx, hb, hml, hown, hts⟩ (mtX2_enter l hfl g zl54 m00 O00 4 8 1 (ok_enter (g := g) (μ := m00) (o := O00) zlq78).1.1 (ok_enter (g := g) (μ := m00) (o := O00) zlq78).1.2.1 (ok_enter (g := g) (μ := m00) (o := O00) zlq78).1.2.2.1 (ok_enter (g := g) (μ := m00) (o := O00) zlq78).1.2.2.2) (cwV 1 hts gL_locks_X2_enter rfl rfl rfl (by decide +kernel) ⟨Nat.le_of_ble_eq_true rfl, Nat.le_of_ble_eq_true rfl⟩) ⟨PW.blind, rcB hC hW, fun U hU hW9 => ⟨rfl, PW.at hC hS hW U hU hW9⟩⟩ rfl rfl hl.1 rfl (lv_room (Nat.le_of_ble_eq_true rfl)) dL_locks_455 ⟨Nat.le_of_ble_eq_true rfl, Nat.le_of_ble_eq_true rfl⟩) hS (fun _ _ _ q => no_2 (ok_enter (g := g) (μ := m00) (o := O00) zlq78).2.1 q) (ok_enter zlq78).2.2 (fun H locs hW hS => ?_)
  refine lv_iload_n hx hb dL_locks_458 rfl (lv_at hl 0 rfl) ?_
  refine lv_bipush (v := 11) hx hb dL_locks_459 (by decide) ?_
  refine lv_icmp_ne (tgt := 468) hx hb dL_locks_461 (by decide) (fun _ => ?_) (fun c155 => absurd c155 (by decide))
  refine lv_iconst (v := 0) hx hb dL_locks_468 (by decide) ?_
  refine lv_icmp_eq (tgt := 474) hx hb dL_locks_469 (by decide) (fun _ => ?_) (fun c156 => absurd c156 (by decide))
  refine lv_iinc (v := 9) (lv' := [(1, .int 9), (0, .ref (gA g 0))]) hx hb dL_locks_474 hl (k := 0) rfl (by decide) (by decide) rfl (fun ls hl => ?_)
  refine lv_goto (tgt := 437) hx hb dL_locks_477 (by decide) ?_
  refine lv_iload_n hx hb dL_locks_437 rfl (lv_at hl 0 rfl) ?_
  refine lv_bipush (v := 12) hx hb dL_locks_438 (by decide) ?_
  refine lv_icmp_ge (tgt := 480) hx hb dL_locks_440 (by decide) (fun c157 => absurd c157 (by decide)) (fun _ => ?_)
  refine lv_aload_n hx hb dL_locks_443 rfl (lv_at hl 1 rfl) ?_
  refine lv_iload_n hx hb dL_locks_444 rfl (lv_at hl 0 rfl) ?_
  refine lv_bipush (v := 11) hx hb dL_locks_445 (by decide) ?_
  refine lv_icmp_ne (tgt := 454) hx hb dL_locks_447 (by decide) (fun _ => ?_) (fun c158 => absurd c158 (by decide))
  refine lv_iconst (v := 4) hx hb dL_locks_454 (by decide) ?_
  refine cOKi (v := 0) (τ := zl56) (vx_runV (As := [.int 4]) (rest := []) ⟨hx, hb, hml, hown, hts⟩ (mtX2_enter l hfl g zl55 m00 O00 4 9 1 (ok_enter (g := g) (μ := m00) (o := O00) zlq79).1.1 (ok_enter (g := g) (μ := m00) (o := O00) zlq79).1.2.1 (ok_enter (g := g) (μ := m00) (o := O00) zlq79).1.2.2.1 (ok_enter (g := g) (μ := m00) (o := O00) zlq79).1.2.2.2) (cwV 1 hts gL_locks_X2_enter rfl rfl rfl (by decide +kernel) ⟨Nat.le_of_ble_eq_true rfl, Nat.le_of_ble_eq_true rfl⟩) ⟨PW.blind, rcB hC hW, fun U hU hW9 => ⟨rfl, PW.at hC hS hW U hU hW9⟩⟩ rfl rfl hl.1 rfl (lv_room (Nat.le_of_ble_eq_true rfl)) dL_locks_455 ⟨Nat.le_of_ble_eq_true rfl, Nat.le_of_ble_eq_true rfl⟩) hS (fun _ _ _ q => no_2 (ok_enter (g := g) (μ := m00) (o := O00) zlq79).2.1 q) (ok_enter zlq79).2.2 (fun H locs hW hS => ?_)
  refine lv_iload_n hx hb dL_locks_458 rfl (lv_at hl 0 rfl) ?_
  refine lv_bipush (v := 11) hx hb dL_locks_459 (by decide) ?_
  refine lv_icmp_ne (tgt := 468) hx hb dL_locks_461 (by decide) (fun _ => ?_) (fun c159 => absurd c159 (by decide))
  refine lv_iconst (v := 0) hx hb dL_locks_468 (by decide) ?_
  refine lv_icmp_eq (tgt := 474) hx hb dL_locks_469 (by decide) (fun _ => ?_) (fun c160 => absurd c160 (by decide))
  refine lv_iinc (v := 10) (lv' := [(1, .int 10), (0, .ref (gA g 0))]) hx hb dL_locks_474 hl (k := 0) rfl (by decide) (by decide) rfl (fun ls hl => ?_)
  refine lv_goto (tgt := 437) hx hb dL_locks_477 (by decide) ?_
  refine lv_iload_n hx hb dL_locks_437 rfl (lv_at hl 0 rfl) ?_
  refine lv_bipush (v := 12) hx hb dL_locks_438 (by decide) ?_
  refine lv_icmp_ge (tgt := 480) hx hb dL_locks_440 (by decide) (fun c161 => absurd c161 (by decide)) (fun _ => ?_)
  refine lv_aload_n hx hb dL_locks_443 rfl (lv_at hl 1 rfl) ?_
  refine lv_iload_n hx hb dL_locks_444 rfl (lv_at hl 0 rfl) ?_
  refine lv_bipush (v := 11) hx hb dL_locks_445 (by decide) ?_
  refine lv_icmp_ne (tgt := 454) hx hb dL_locks_447 (by decide) (fun _ => ?_) (fun c162 => absurd c162 (by decide))
  refine lv_iconst (v := 4) hx hb dL_locks_454 (by decide) ?_
  refine cOKi (v := 0) (τ := zl57) (vx_runV (As := [.int 4]) (rest := []) ⟨hx, hb, hml, hown, hts⟩ (mtX2_enter l hfl g zl56 m00 O00 4 10 1 (ok_enter (g := g) (μ := m00) (o := O00) zlq80).1.1 (ok_enter (g := g) (μ := m00) (o := O00) zlq80).1.2.1 (ok_enter (g := g) (μ := m00) (o := O00) zlq80).1.2.2.1 (ok_enter (g := g) (μ := m00) (o := O00) zlq80).1.2.2.2) (cwV 1 hts gL_locks_X2_enter rfl rfl rfl (by decide +kernel) ⟨Nat.le_of_ble_eq_true rfl, Nat.le_of_ble_eq_true rfl⟩) ⟨PW.blind, rcB hC hW, fun U hU hW9 => ⟨rfl, PW.at hC hS hW U hU hW9⟩⟩ rfl rfl hl.1 rfl (lv_room (Nat.le_of_ble_eq_true rfl)) dL_locks_455 ⟨Nat.le_of_ble_eq_true rfl, Nat.le_of_ble_eq_true rfl⟩) hS (fun _ _ _ q => no_2 (ok_enter (g := g) (μ := m00) (o := O00) zlq80).2.1 q) (ok_enter zlq80).2.2 (fun H locs hW hS => ?_)
  refine lv_iload_n hx hb dL_locks_458 rfl (lv_at hl 0 rfl) ?_
  refine lv_bipush (v := 11) hx hb dL_locks_459 (by decide) ?_
  refine lv_icmp_ne (tgt := 468) hx hb dL_locks_461 (by decide) (fun _ => ?_) (fun c163 => absurd c163 (by decide))
  refine lv_iconst (v := 0) hx hb dL_locks_468 (by decide) ?_
  refine lv_icmp_eq (tgt := 474) hx hb dL_locks_469 (by decide) (fun _ => ?_) (fun c164 => absurd c164 (by decide))
  refine W.widen (k := 306) (n := 1886) (Nat.le_of_ble_eq_true rfl) (Nat.le_of_ble_eq_true rfl) ?_
  exact kk H locs ls hW hS (by exact lv_sub hl [1, 0] rfl)
set_option maxHeartbeats 4000000 in
set_option maxRecDepth 100000 in
theorem zl_7 {p : Program} {l : Launch} {e : Env} {s : State} {m : MethodId} {below : List Frame} {meth : Method} {c : Code} {g : Ge} (C0 : zlC p l s m meth c g) : zlG p l e s m below meth c g zl57 474 [(0, .ref (gA g 0)), (1, .int 10)] 306 1886 := by
  obtain ⟨⟨hx, hb, hr, hml, hts, hown, hlocks⟩, hC, hfl⟩ := C0
  intro H locs ls hW hS hl
  have hl : lv_has ls 2 [(0, .ref (gA g 0)), (1, .int 10)] := hl
  refine lv_iinc (v := 11) (lv' := [(1, .int 11), (0, .ref (gA g 0))]) hx hb dL_locks_474 hl (k := 1) rfl (by decide) (by decide) rfl (fun ls hl => ?_)
  refine lv_goto (tgt := 437) hx hb dL_locks_477 (by decide) ?_
  refine lv_iload_n hx hb dL_locks_437 rfl (lv_at hl 0 rfl) ?_
  refine lv_bipush (v := 12) hx hb dL_locks_438 (by decide) ?_
  refine lv_icmp_ge (tgt := 480) hx hb dL_locks_440 (by decide) (fun c165 => absurd c165 (by decide)) (fun _ => ?_)
  refine lv_aload_n hx hb dL_locks_443 rfl (lv_at hl 1 rfl) ?_
  refine lv_iload_n hx hb dL_locks_444 rfl (lv_at hl 0 rfl) ?_
  refine lv_bipush (v := 11) hx hb dL_locks_445 (by decide) ?_
  refine lv_icmp_ne (tgt := 454) hx hb dL_locks_447 (by decide) (fun c166 => absurd c166 (by decide)) (fun _ => ?_)
  refine lv_iconst (v := 3) hx hb dL_locks_450 (by decide) ?_
  refine lv_goto (tgt := 455) hx hb dL_locks_451 (by decide) ?_
  refine cOKi (v := 1) (τ := zl58) (vx_runV (As := [.int 3]) (rest := []) ⟨hx, hb, hml, hown, hts⟩ (mtX2_enter l hfl g zl57 m00 O00 3 11 1 (ok_enter (g := g) (μ := m00) (o := O00) zlq81).1.1 (ok_enter (g := g) (μ := m00) (o := O00) zlq81).1.2.1 (ok_enter (g := g) (μ := m00) (o := O00) zlq81).1.2.2.1 (ok_enter (g := g) (μ := m00) (o := O00) zlq81).1.2.2.2) (cwV 1 hts gL_locks_X2_enter rfl rfl rfl (by decide +kernel) ⟨Nat.le_of_ble_eq_true rfl, Nat.le_of_ble_eq_true rfl⟩) ⟨PW.blind, rcB hC hW, fun U hU hW9 => ⟨rfl, PW.at hC hS hW U hU hW9⟩⟩ rfl rfl hl.1 rfl (lv_room (Nat.le_of_ble_eq_true rfl)) dL_locks_455 ⟨Nat.le_of_ble_eq_true rfl, Nat.le_of_ble_eq_true rfl⟩) hS (fun _ _ _ q => no_2 (ok_enter (g := g) (μ := m00) (o := O00) zlq81).2.1 q) (ok_enter zlq81).2.2 (fun H locs hW hS => ?_)
  refine lv_iload_n hx hb dL_locks_458 rfl (lv_at hl 0 rfl) ?_
  refine lv_bipush (v := 11) hx hb dL_locks_459 (by decide) ?_
  refine lv_icmp_ne (tgt := 468) hx hb dL_locks_461 (by decide) (fun c167 => absurd c167 (by decide)) (fun _ => ?_)
  refine lv_iconst (v := 1) hx hb dL_locks_464 (by decide) ?_
  refine lv_goto (tgt := 469) hx hb dL_locks_465 (by decide) ?_
  refine lv_icmp_eq (tgt := 474) hx hb dL_locks_469 (by decide) (fun _ => ?_) (fun c168 => absurd c168 (by decide))
  refine lv_iinc (v := 12) (lv' := [(1, .int 12), (0, .ref (gA g 0))]) hx hb dL_locks_474 hl (k := 0) rfl (by decide) (by decide) rfl (fun ls hl => ?_)
  refine lv_goto (tgt := 437) hx hb dL_locks_477 (by decide) ?_
  refine lv_iload_n hx hb dL_locks_437 rfl (lv_at hl 0 rfl) ?_
  refine lv_bipush (v := 12) hx hb dL_locks_438 (by decide) ?_
  refine lv_icmp_ge (tgt := 480) hx hb dL_locks_440 (by decide) (fun _ => ?_) (fun c169 => absurd c169 (by decide))
  refine lv_aload_n hx hb dL_locks_480 rfl (lv_at hl 1 rfl) ?_
  refine vp_callSi (va_Run.run (va_runV (As := []) (rest := []) ⟨hx, hb, hml, hown, hts⟩ (mtX2_isLocked l g zl58 m00 O00 (hk0_of (Or.inl zlq82))) (cwV 0 hts gL_locks_X2_isLocked rfl rfl rfl (by decide +kernel) ⟨Nat.le_of_ble_eq_true rfl, Nat.le_of_ble_eq_true rfl⟩) ⟨PW.blind, rcB hC hW, fun U hU hW9 => ⟨rfl, PW.at hC hS hW U hU hW9⟩⟩ rfl rfl hl.1 rfl (lv_room (Nat.le_of_ble_eq_true rfl)) dL_locks_481 ⟨Nat.le_of_ble_eq_true rfl, Nat.le_of_ble_eq_true rfl⟩)) (fun r170 h171 => ?_)
  obtain rfl : r170 = 0 := h171.trans zlq82
  refine lv_if_ne (tgt := 500) hx hb dL_locks_484 (by decide) (fun c172 => absurd c172 (by decide)) (fun _ => ?_)
  refine lv_aload_n hx hb dL_locks_487 rfl (lv_at hl 1 rfl) ?_
  refine lv_iconst (v := 0) hx hb dL_locks_488 (by decide) ?_
  refine lv_iconst (v := 1) hx hb dL_locks_489 (by decide) ?_
  refine va_calli (va_runS (As := [.ref (gA g 0), .int 0, .int 1]) (rest := []) ⟨hx, hb, hml, hown, hts⟩ (mtL_refuses l g zl58 m00 O00 hfl 0 1 12 1 (ok_ref zlq83).1 (ok_ref zlq83).2.1 (ok_ref zlq83).2.2.1 (ok_ref zlq83).2.2.2.1 (ok_ref zlq83).2.2.2.2) (va_cwS 3 hts gL_locks_L_refuses rfl rfl rfl (by decide +kernel) ⟨Nat.le_of_ble_eq_true rfl, Nat.le_of_ble_eq_true rfl⟩) ⟨PW.blind, fun U hU hW9 => ⟨rfl, PW.at hC hS hW U hU hW9⟩⟩ rfl rfl hl.1 rfl (lv_room (Nat.le_of_ble_eq_true rfl)) dL_locks_490 ⟨Nat.le_of_ble_eq_true rfl, Nat.le_of_ble_eq_true rfl⟩) hS (fun _ _ h => h) (fun _ h => h) (fun r u t H locs ht hvm hq hW hz9 hk9 hS => ?_)
  obtain rfl : r = 1 := hq
  replace hW : Wd g zl58 m00 O00 H := by rw [← ht]; exact hW
  refine lv_if_eq (tgt := 500) hx hb dL_locks_493 (by decide) (fun c173 => absurd c173 (by decide)) (fun _ => ?_)
  refine lv_iconst (v := 1) hx hb dL_locks_496 (by decide) ?_
  refine lv_goto (tgt := 501) hx hb dL_locks_497 (by decide) ?_
  refine W.widen (k := 472) (n := 2882) (Nat.le_of_ble_eq_true rfl) (Nat.le_of_ble_eq_true rfl) ?_
  exact W.zret (v := 1) (ty := .boolean) hx hb hr rfl (fun t ht hW9 => ⟨⟨_, (), rfl, rfl, trivial⟩, hS.F ht⟩) hS.2.2 dL_locks_501
set_option maxHeartbeats 4000000 in
set_option maxRecDepth 100000 in
theorem mtL_locks (l : Launch) (D : va_G) (z : Nat) (hfl : l.stackTraces = false) : Met l yL_locks wsL_locks ({ frames := 10, cells := 472, slots := 2882, locals := 195 } : Room) (va_Pc [] (PS z D)) (va_Qi (S := Unit) (fun r _ => r = 1) (fun _ _ => True) (Zf z)) 472 2882 (Zf z) := by
  refine Met.ofW (cc := cL_locks) (maxL := 2) (ret := (some .boolean)) (by decide) rfl ?_
  intro p e s m args below meth c s₁ B hml hv
  obtain ⟨rfl, hPS⟩ := hv
  have hx := B.exec
  have hb := B.bytes
  have hr := B.returns
  have hts := atoms_spec (ws := wsL_locks) B.pre
  have hown : s.vm.findClass RL = some m.cls := findClass_of_methodNamed B.named
  have hlocks := B.notSynchronized
  have hinX2 : ∀ w ∈ wsX20, w ∈ wsL_locks := by decide +kernel
  have hS : va_S (Zf z) s.heap s.heap [] := va_S.rf
  have hl := lv_entry ([]) (n := 2) (Nat.le_of_ble_eq_true rfl)
  rw [lg_entry_eq]
  generalize (lg_sl ([]) ++ List.replicate (2 - (lg_sl ([])).length) Slot.unset).toArray = ls at hl ⊢
  have hl : lv_has ls 2 [] := hl
  have hAO := hPS.2.2.2.2
  have hN0 : va_Nw (.methodLinkNest RX2 17 yX0_init "BootChooser") s := hPS.2.1.1 _ (by decide +kernel)
  have hN1 : va_Nw (.methodLinkNest RX2 44 yX1_init "BootChooser") s := hPS.2.1.1 _ (by decide +kernel)
  have hK := hPS.1
  have hA : ∀ q : Nat, s.heap.size ≤ q → Zf z q := fun q h => Nat.le_trans hPS.2.2.2.1 h
  have hP : va_P D vwCl [] s.heap := fun k q hq => by cases hq
  have hD : va_D (Zf z) [] := ⟨fun i j p q hp => (by cases hp), fun k q hq => (by cases hq)⟩
  refine va_new (ci := 2) (fs := [.null, .null, .int 0, .int 0, .int 0, .int 0, .int 0, .int 0, .int 0]) (C := RX2) (T := TX2) (N := 9) hx hb hts hinX2 tyX2 tyX2_ok hown (hts (.classLink RL 8 RX2) (by decide +kernel)) (hts (.instantiable RX2 9) (by decide +kernel)) (hts (.initialized RX2) (by decide +kernel)) hK hP hD hS hA rfl (fun j hj => by rcases (show j = 0 ∨ j = 1 ∨ j = 2 ∨ j = 3 ∨ j = 4 ∨ j = 5 ∨ j = 6 ∨ j = 7 ∨ j = 8 by omega) with rfl | rfl | rfl | rfl | rfl | rfl | rfl | rfl | rfl <;> rfl) (Nat.le_of_ble_eq_true rfl) (Nat.le_of_ble_eq_true rfl) dL_locks_0 (fun q0 H hP hD hS => ?_)
  refine lv_dup hx hb dL_locks_3 rfl ?_
  refine va_callv (va_runI (As := []) (rest := [.ref q0]) ⟨hx, hb, hml, hown, hts⟩ (mtX2_init l D z q0) (cwI 0 hts gL_locks_X2_init rfl rfl rfl (hts (.initialized RX2) (by decide +kernel)) (hts (.methodLink RL 93 yX2_init) (by decide +kernel)) (hts (.instanceMethod yX2_init) (by decide +kernel)) rfl (by decide +kernel) ⟨(Nat.le_of_ble_eq_true rfl), (Nat.le_of_ble_eq_true rfl)⟩) ⟨ctor2_blind, fun U hU hW9 => ⟨rfl, va_K.moved hW9.alike hK, by rw [hU]; exact hP, hD, by rw [hU]; exact Nat.le_trans hPS.2.2.2.1 hS.1, va_AO.moved hW9.alike hAO, va_Nw.warmM hW9 hN0, va_Nw.warmM hW9 hN1⟩⟩ rfl rfl hl.1 rfl (lv_room (Nat.le_of_ble_eq_true rfl)) dL_locks_4 ⟨(Nat.le_of_ble_eq_true rfl), (Nat.le_of_ble_eq_true rfl)⟩) hS (fun _ _ h => h) (fun _ h => h) (fun u t H locs ht hvm _ hB hz1 hk1 hS => ?_)
  obtain ⟨g, h40, hg0, hW, hC⟩ := born_g hB hvm hPS
  rw [ht] at hW
  subst hg0
  rw [Az_Zf h40] at hS ⊢
  refine lv_astore_n (lv' := [(0, .ref (gA g 0))]) hx hb dL_locks_7 rfl hl (by decide) rfl (fun ls hl => ?_)
  refine W.widen (k := 20) (n := 170) (Nat.le_of_ble_eq_true rfl) (Nat.le_of_ble_eq_true rfl) ?_
  have C0 : zlC p l s m meth c g := ⟨⟨hx, hb, hr, hml, hts, hown, hlocks⟩, hC, hfl⟩
  have K : zlG p l e s m below meth c g zl0 8 [(0, .ref (gA g 0))] 20 170 := (zl_0 C0 (zl_1 C0 (zl_2 C0 (zl_3 C0 (zl_4 C0 (zl_5 C0 (zl_6 C0 (zl_7 C0))))))))
  exact K H locs ls (Wd_eq zlq0 hW) hS hl
