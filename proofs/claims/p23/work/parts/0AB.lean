set_option maxHeartbeats 4000000 in
set_option maxRecDepth 100000 in
theorem zu_4 {p : Program} {l : Launch} {e : Env} {s : State} {m : MethodId} {below : List Frame} {meth : Method} {c : Code} {g : Ge} (C0 : zuC p l s m meth c g) (kk : zuG p l e s m below meth c g zu13 475 [(0, .ref (gA g 0))] 235 1460) : zuG p l e s m below meth c g zu9 393 [(0, .ref (gA g 0))] 226 1406 := by
  obtain ⟨⟨hx, hb, hr, hml, hts, hown, hlocks⟩, hC, hfl⟩ := C0
  intro H locs ls hW hS hl
  have hl : lv_has ls 1 [(0, .ref (gA g 0))] := hl
  refine lv_aload_n hx hb dL_starts_393 rfl (lv_at hl 0 rfl) ?_
  refine lv_iconst (v := 1) hx hb dL_starts_394 (by decide) ?_
  refine cOKi (v := (-1)) (τ := zu10) (vx_runV (As := [.int 1]) (rest := []) ⟨hx, hb, hml, hown, hts⟩ (mtX2_choose l hfl g zu9 m00 O00 1) (cwV 1 hts gL_starts_X2_choose rfl rfl rfl (by decide +kernel) ⟨Nat.le_of_ble_eq_true rfl, Nat.le_of_ble_eq_true rfl⟩) ⟨PW.blind, rcB hC hW, fun U hU hW9 => ⟨rfl, PW.at hC hS hW U hU hW9⟩⟩ rfl rfl hl.1 rfl (lv_room (Nat.le_of_ble_eq_true rfl)) dL_starts_395 ⟨Nat.le_of_ble_eq_true rfl, Nat.le_of_ble_eq_true rfl⟩) hS (fun _ _ _ q => no_2 (ok_choose (g := g) (μ := m00) (o := O00) zuq41).1 q) (ok_choose zuq41).2 (fun H locs hW hS => ?_)
  refine lv_iconst (v := (-1)) hx hb dL_starts_398 (by decide) ?_
  refine lv_icmp_ne (tgt := 569) hx hb dL_starts_399 (by decide) (fun c65 => absurd c65 (by decide)) (fun _ => ?_)
  refine lv_aload_n hx hb dL_starts_402 rfl (lv_at hl 0 rfl) ?_
  refine vp_callSi (va_Run.run (va_runV (As := []) (rest := []) ⟨hx, hb, hml, hown, hts⟩ (mtX2_next l g zu10 m00 O00 ) (cwV 0 hts gL_starts_X2_next rfl rfl rfl (by decide +kernel) ⟨Nat.le_of_ble_eq_true rfl, Nat.le_of_ble_eq_true rfl⟩) ⟨PW.blind, rcB hC hW, fun U hU hW9 => ⟨rfl, PW.at hC hS hW U hU hW9⟩⟩ rfl rfl hl.1 rfl (lv_room (Nat.le_of_ble_eq_true rfl)) dL_starts_403 ⟨Nat.le_of_ble_eq_true rfl, Nat.le_of_ble_eq_true rfl⟩)) (fun r66 h67 => ?_)
  obtain rfl : r66 = 1 := h67.trans zuq42
  refine lv_iconst (v := 1) hx hb dL_starts_406 (by decide) ?_
  refine lv_icmp_ne (tgt := 569) hx hb dL_starts_407 (by decide) (fun c68 => absurd c68 (by decide)) (fun _ => ?_)
  refine lv_aload_n hx hb dL_starts_410 rfl (lv_at hl 0 rfl) ?_
  refine cOKi (v := 1) (τ := zu11) (vx_runV (As := []) (rest := []) ⟨hx, hb, hml, hown, hts⟩ (mtX2_start l hfl g zu10 m00 O00) (cwV 0 hts gL_starts_X2_start rfl rfl rfl (by decide +kernel) ⟨Nat.le_of_ble_eq_true rfl, Nat.le_of_ble_eq_true rfl⟩) ⟨PW.blind, rcB hC hW, fun U hU hW9 => ⟨rfl, PW.at hC hS hW U hU hW9⟩⟩ rfl rfl hl.1 rfl (lv_room (Nat.le_of_ble_eq_true rfl)) dL_starts_411 ⟨Nat.le_of_ble_eq_true rfl, Nat.le_of_ble_eq_true rfl⟩) hS (fun _ _ _ q => no_1 (ok_start (g := g) (μ := m00) (o := O00) zuq43).1 q) (ok_start zuq43).2 (fun H locs hW hS => ?_)
  refine lv_iconst (v := 1) hx hb dL_starts_414 (by decide) ?_
  refine lv_icmp_ne (tgt := 569) hx hb dL_starts_415 (by decide) (fun c69 => absurd c69 (by decide)) (fun _ => ?_)
  refine lv_aload_n hx hb dL_starts_418 rfl (lv_at hl 0 rfl) ?_
  refine lv_iconst (v := 1) hx hb dL_starts_419 (by decide) ?_
  refine cOKi (v := 1) (τ := zu11) (vx_runV (As := [.int 1]) (rest := []) ⟨hx, hb, hml, hown, hts⟩ (mtX2_tries l hfl g zu11 m00 O00 1) (cwV 1 hts gL_starts_X2_tries rfl rfl rfl (by decide +kernel) ⟨Nat.le_of_ble_eq_true rfl, Nat.le_of_ble_eq_true rfl⟩) ⟨PW.blind, rcB hC hW, fun U hU hW9 => ⟨rfl, PW.at hC hS hW U hU hW9⟩⟩ rfl rfl hl.1 rfl (lv_room (Nat.le_of_ble_eq_true rfl)) dL_starts_420 ⟨Nat.le_of_ble_eq_true rfl, Nat.le_of_ble_eq_true rfl⟩) hS (fun _ _ _ q => no_1 (ok_tries (g := g) (μ := m00) (o := O00) zuq44).1 q) (ok_tries zuq44).2 (fun H locs hW hS => ?_)
  refine lv_iconst (v := 1) hx hb dL_starts_423 (by decide) ?_
  refine lv_icmp_ne (tgt := 569) hx hb dL_starts_424 (by decide) (fun c70 => absurd c70 (by decide)) (fun _ => ?_)
  refine lv_aload_n hx hb dL_starts_427 rfl (lv_at hl 0 rfl) ?_
  refine cOKi (v := 1) (τ := zu12) (vx_runV (As := []) (rest := []) ⟨hx, hb, hml, hown, hts⟩ (mtX2_start l hfl g zu11 m00 O00) (cwV 0 hts gL_starts_X2_start rfl rfl rfl (by decide +kernel) ⟨Nat.le_of_ble_eq_true rfl, Nat.le_of_ble_eq_true rfl⟩) ⟨PW.blind, rcB hC hW, fun U hU hW9 => ⟨rfl, PW.at hC hS hW U hU hW9⟩⟩ rfl rfl hl.1 rfl (lv_room (Nat.le_of_ble_eq_true rfl)) dL_starts_428 ⟨Nat.le_of_ble_eq_true rfl, Nat.le_of_ble_eq_true rfl⟩) hS (fun _ _ _ q => no_1 (ok_start (g := g) (μ := m00) (o := O00) zuq45).1 q) (ok_start zuq45).2 (fun H locs hW hS => ?_)
  refine lv_iconst (v := 1) hx hb dL_starts_431 (by decide) ?_
  refine lv_icmp_ne (tgt := 569) hx hb dL_starts_432 (by decide) (fun c71 => absurd c71 (by decide)) (fun _ => ?_)
  refine lv_aload_n hx hb dL_starts_435 rfl (lv_at hl 0 rfl) ?_
  refine lv_iconst (v := 1) hx hb dL_starts_436 (by decide) ?_
  refine cOKi (v := 0) (τ := zu12) (vx_runV (As := [.int 1]) (rest := []) ⟨hx, hb, hml, hown, hts⟩ (mtX2_tries l hfl g zu12 m00 O00 1) (cwV 1 hts gL_starts_X2_tries rfl rfl rfl (by decide +kernel) ⟨Nat.le_of_ble_eq_true rfl, Nat.le_of_ble_eq_true rfl⟩) ⟨PW.blind, rcB hC hW, fun U hU hW9 => ⟨rfl, PW.at hC hS hW U hU hW9⟩⟩ rfl rfl hl.1 rfl (lv_room (Nat.le_of_ble_eq_true rfl)) dL_starts_437 ⟨Nat.le_of_ble_eq_true rfl, Nat.le_of_ble_eq_true rfl⟩) hS (fun _ _ _ q => no_1 (ok_tries (g := g) (μ := m00) (o := O00) zuq46).1 q) (ok_tries zuq46).2 (fun H locs hW hS => ?_)
  refine lv_if_ne (tgt := 569) hx hb dL_starts_440 (by decide) (fun c72 => absurd c72 (by decide)) (fun _ => ?_)
  refine lv_aload_n hx hb dL_starts_443 rfl (lv_at hl 0 rfl) ?_
  refine lv_iconst (v := 1) hx hb dL_starts_444 (by decide) ?_
  refine cOKi (v := 3) (τ := zu12) (vx_runV (As := [.int 1]) (rest := []) ⟨hx, hb, hml, hown, hts⟩ (mtX2_placeOf l hfl g zu12 m00 O00 1) (cwV 1 hts gL_starts_X2_placeOf rfl rfl rfl (by decide +kernel) ⟨Nat.le_of_ble_eq_true rfl, Nat.le_of_ble_eq_true rfl⟩) ⟨PW.blind, rcB hC hW, fun U hU hW9 => ⟨rfl, PW.at hC hS hW U hU hW9⟩⟩ rfl rfl hl.1 rfl (lv_room (Nat.le_of_ble_eq_true rfl)) dL_starts_445 ⟨Nat.le_of_ble_eq_true rfl, Nat.le_of_ble_eq_true rfl⟩) hS (fun _ _ _ q => no_1 (ok_placeOf (g := g) (μ := m00) (o := O00) zuq47).1 q) (ok_placeOf zuq47).2 (fun H locs hW hS => ?_)
  refine lv_iconst (v := 3) hx hb dL_starts_448 (by decide) ?_
  refine lv_icmp_ne (tgt := 569) hx hb dL_starts_449 (by decide) (fun c73 => absurd c73 (by decide)) (fun _ => ?_)
  refine lv_aload_n hx hb dL_starts_452 rfl (lv_at hl 0 rfl) ?_
  refine vp_callSi (va_Run.run (va_runV (As := []) (rest := []) ⟨hx, hb, hml, hown, hts⟩ (mtX2_next l g zu12 m00 O00 ) (cwV 0 hts gL_starts_X2_next rfl rfl rfl (by decide +kernel) ⟨Nat.le_of_ble_eq_true rfl, Nat.le_of_ble_eq_true rfl⟩) ⟨PW.blind, rcB hC hW, fun U hU hW9 => ⟨rfl, PW.at hC hS hW U hU hW9⟩⟩ rfl rfl hl.1 rfl (lv_room (Nat.le_of_ble_eq_true rfl)) dL_starts_453 ⟨Nat.le_of_ble_eq_true rfl, Nat.le_of_ble_eq_true rfl⟩)) (fun r74 h75 => ?_)
  obtain rfl : r74 = 0 := h75.trans zuq48
  refine lv_if_ne (tgt := 569) hx hb dL_starts_456 (by decide) (fun c76 => absurd c76 (by decide)) (fun _ => ?_)
  refine lv_aload_n hx hb dL_starts_459 rfl (lv_at hl 0 rfl) ?_
  refine cOKi (v := 0) (τ := zu13) (vx_runV (As := []) (rest := []) ⟨hx, hb, hml, hown, hts⟩ (mtX2_good l hfl g zu12 m00 O00) (cwV 0 hts gL_starts_X2_good rfl rfl rfl (by decide +kernel) ⟨Nat.le_of_ble_eq_true rfl, Nat.le_of_ble_eq_true rfl⟩) ⟨PW.blind, rcB hC hW, fun U hU hW9 => ⟨rfl, PW.at hC hS hW U hU hW9⟩⟩ rfl rfl hl.1 rfl (lv_room (Nat.le_of_ble_eq_true rfl)) dL_starts_460 ⟨Nat.le_of_ble_eq_true rfl, Nat.le_of_ble_eq_true rfl⟩) hS (fun _ _ _ q => no_1 (ok_good (g := g) (μ := m00) (o := O00) zuq49).1 q) (ok_good zuq49).2 (fun H locs hW hS => ?_)
  refine lv_if_ne (tgt := 569) hx hb dL_starts_463 (by decide) (fun c77 => absurd c77 (by decide)) (fun _ => ?_)
  refine lv_aload_n hx hb dL_starts_466 rfl (lv_at hl 0 rfl) ?_
  refine lv_iconst (v := 1) hx hb dL_starts_467 (by decide) ?_
  refine cOKi (v := (-1)) (τ := zu13) (vx_runV (As := [.int 1]) (rest := []) ⟨hx, hb, hml, hown, hts⟩ (mtX2_tries l hfl g zu13 m00 O00 1) (cwV 1 hts gL_starts_X2_tries rfl rfl rfl (by decide +kernel) ⟨Nat.le_of_ble_eq_true rfl, Nat.le_of_ble_eq_true rfl⟩) ⟨PW.blind, rcB hC hW, fun U hU hW9 => ⟨rfl, PW.at hC hS hW U hU hW9⟩⟩ rfl rfl hl.1 rfl (lv_room (Nat.le_of_ble_eq_true rfl)) dL_starts_468 ⟨Nat.le_of_ble_eq_true rfl, Nat.le_of_ble_eq_true rfl⟩) hS (fun _ _ _ q => no_1 (ok_tries (g := g) (μ := m00) (o := O00) zuq50).1 q) (ok_tries zuq50).2 (fun H locs hW hS => ?_)
  refine lv_iconst (v := (-1)) hx hb dL_starts_471 (by decide) ?_
  refine lv_icmp_ne (tgt := 569) hx hb dL_starts_472 (by decide) (fun c78 => absurd c78 (by decide)) (fun _ => ?_)
  refine W.widen (k := 235) (n := 1460) (Nat.le_of_ble_eq_true rfl) (Nat.le_of_ble_eq_true rfl) ?_
  exact kk H locs ls hW hS (by exact lv_sub hl [0] rfl)
set_option maxHeartbeats 4000000 in
set_option maxRecDepth 100000 in
theorem zu_5 {p : Program} {l : Launch} {e : Env} {s : State} {m : MethodId} {below : List Frame} {meth : Method} {c : Code} {g : Ge} (C0 : zuC p l s m meth c g) (kk : zuG p l e s m below meth c g zu15 560 [(0, .ref (gA g 0))] 412 2522) : zuG p l e s m below meth c g zu13 475 [(0, .ref (gA g 0))] 235 1460 := by
  obtain ⟨⟨hx, hb, hr, hml, hts, hown, hlocks⟩, hC, hfl⟩ := C0
  intro H locs ls hW hS hl
  have hl : lv_has ls 1 [(0, .ref (gA g 0))] := hl
  refine lv_aload_n hx hb dL_starts_475 rfl (lv_at hl 0 rfl) ?_
  refine cOKi (v := (-1)) (τ := zu13) (vx_runV (As := []) (rest := []) ⟨hx, hb, hml, hown, hts⟩ (mtX2_good l hfl g zu13 m00 O00) (cwV 0 hts gL_starts_X2_good rfl rfl rfl (by decide +kernel) ⟨Nat.le_of_ble_eq_true rfl, Nat.le_of_ble_eq_true rfl⟩) ⟨PW.blind, rcB hC hW, fun U hU hW9 => ⟨rfl, PW.at hC hS hW U hU hW9⟩⟩ rfl rfl hl.1 rfl (lv_room (Nat.le_of_ble_eq_true rfl)) dL_starts_476 ⟨Nat.le_of_ble_eq_true rfl, Nat.le_of_ble_eq_true rfl⟩) hS (fun _ _ _ q => no_1 (ok_good (g := g) (μ := m00) (o := O00) zuq51).1 q) (ok_good zuq51).2 (fun H locs hW hS => ?_)
  refine lv_iconst (v := (-1)) hx hb dL_starts_479 (by decide) ?_
  refine lv_icmp_ne (tgt := 569) hx hb dL_starts_480 (by decide) (fun c79 => absurd c79 (by decide)) (fun _ => ?_)
  refine lv_aload_n hx hb dL_starts_483 rfl (lv_at hl 0 rfl) ?_
  refine vp_callSi (va_Run.run (va_runV (As := []) (rest := []) ⟨hx, hb, hml, hown, hts⟩ (mtX2_next l g zu13 m00 O00 ) (cwV 0 hts gL_starts_X2_next rfl rfl rfl (by decide +kernel) ⟨Nat.le_of_ble_eq_true rfl, Nat.le_of_ble_eq_true rfl⟩) ⟨PW.blind, rcB hC hW, fun U hU hW9 => ⟨rfl, PW.at hC hS hW U hU hW9⟩⟩ rfl rfl hl.1 rfl (lv_room (Nat.le_of_ble_eq_true rfl)) dL_starts_484 ⟨Nat.le_of_ble_eq_true rfl, Nat.le_of_ble_eq_true rfl⟩)) (fun r80 h81 => ?_)
  obtain rfl : r80 = 1 := h81.trans zuq52
  refine lv_iconst (v := 1) hx hb dL_starts_487 (by decide) ?_
  refine lv_icmp_ne (tgt := 569) hx hb dL_starts_488 (by decide) (fun c82 => absurd c82 (by decide)) (fun _ => ?_)
  refine lv_aload_n hx hb dL_starts_491 rfl (lv_at hl 0 rfl) ?_
  refine lv_iconst (v := 4) hx hb dL_starts_492 (by decide) ?_
  refine lv_iconst (v := 3) hx hb dL_starts_493 (by decide) ?_
  refine lv_iconst (v := 0) hx hb dL_starts_494 (by decide) ?_
  refine lv_iconst (v := 1) hx hb dL_starts_495 (by decide) ?_
  refine va_calli (va_runS (As := [.ref (gA g 0), .int 4, .int 3, .int 0, .int 1]) (rest := []) ⟨hx, hb, hml, hown, hts⟩ (mtL_order l g zu13 m00 O00 hfl 4 3 0 1 zuq53) (va_cwS 5 hts gL_starts_L_order rfl rfl rfl (by decide +kernel) ⟨Nat.le_of_ble_eq_true rfl, Nat.le_of_ble_eq_true rfl⟩) ⟨PW.blind, fun U hU hW9 => ⟨rfl, PW.at hC hS hW U hU hW9⟩⟩ rfl rfl hl.1 rfl (lv_room (Nat.le_of_ble_eq_true rfl)) dL_starts_496 ⟨Nat.le_of_ble_eq_true rfl, Nat.le_of_ble_eq_true rfl⟩) hS (fun _ _ h => h) (fun _ h => h) (fun r u t H locs ht hvm hq hW hz9 hk9 hS => ?_)
  obtain rfl : r = 1 := hq
  replace hW : Wd g zu13 m00 O00 H := by rw [← ht]; exact hW
  refine lv_if_eq (tgt := 569) hx hb dL_starts_499 (by decide) (fun c83 => absurd c83 (by decide)) (fun _ => ?_)
  refine lv_aload_n hx hb dL_starts_502 rfl (lv_at hl 0 rfl) ?_
  refine lv_iconst (v := 1) hx hb dL_starts_503 (by decide) ?_
  refine cOKi (v := 4) (τ := zu14) (vx_runV (As := [.int 1]) (rest := []) ⟨hx, hb, hml, hown, hts⟩ (mtX2_remove l hfl g zu13 m00 O00 1) (cwV 1 hts gL_starts_X2_remove rfl rfl rfl (by decide +kernel) ⟨Nat.le_of_ble_eq_true rfl, Nat.le_of_ble_eq_true rfl⟩) ⟨PW.blind, rcB hC hW, fun U hU hW9 => ⟨rfl, PW.at hC hS hW U hU hW9⟩⟩ rfl rfl hl.1 rfl (lv_room (Nat.le_of_ble_eq_true rfl)) dL_starts_504 ⟨Nat.le_of_ble_eq_true rfl, Nat.le_of_ble_eq_true rfl⟩) hS (fun _ _ _ q => no_1 (ok_remove (g := g) (μ := m00) (o := O00) zuq54).1 q) (ok_remove zuq54).2 (fun H locs hW hS => ?_)
  refine lv_iconst (v := 4) hx hb dL_starts_507 (by decide) ?_
  refine lv_icmp_ne (tgt := 569) hx hb dL_starts_508 (by decide) (fun c84 => absurd c84 (by decide)) (fun _ => ?_)
  refine lv_aload_n hx hb dL_starts_511 rfl (lv_at hl 0 rfl) ?_
  refine cOKi (v := (-1)) (τ := zu14) (vx_runV (As := []) (rest := []) ⟨hx, hb, hml, hown, hts⟩ (mtX2_good l hfl g zu14 m00 O00) (cwV 0 hts gL_starts_X2_good rfl rfl rfl (by decide +kernel) ⟨Nat.le_of_ble_eq_true rfl, Nat.le_of_ble_eq_true rfl⟩) ⟨PW.blind, rcB hC hW, fun U hU hW9 => ⟨rfl, PW.at hC hS hW U hU hW9⟩⟩ rfl rfl hl.1 rfl (lv_room (Nat.le_of_ble_eq_true rfl)) dL_starts_512 ⟨Nat.le_of_ble_eq_true rfl, Nat.le_of_ble_eq_true rfl⟩) hS (fun _ _ _ q => no_1 (ok_good (g := g) (μ := m00) (o := O00) zuq55).1 q) (ok_good zuq55).2 (fun H locs hW hS => ?_)
  refine lv_iconst (v := (-1)) hx hb dL_starts_515 (by decide) ?_
  refine lv_icmp_ne (tgt := 569) hx hb dL_starts_516 (by decide) (fun c85 => absurd c85 (by decide)) (fun _ => ?_)
  refine lv_aload_n hx hb dL_starts_519 rfl (lv_at hl 0 rfl) ?_
  refine vp_callSi (va_Run.run (va_runV (As := []) (rest := []) ⟨hx, hb, hml, hown, hts⟩ (mtX2_running l g zu14 m00 O00 ) (cwV 0 hts gL_starts_X2_running rfl rfl rfl (by decide +kernel) ⟨Nat.le_of_ble_eq_true rfl, Nat.le_of_ble_eq_true rfl⟩) ⟨PW.blind, rcB hC hW, fun U hU hW9 => ⟨rfl, PW.at hC hS hW U hU hW9⟩⟩ rfl rfl hl.1 rfl (lv_room (Nat.le_of_ble_eq_true rfl)) dL_starts_520 ⟨Nat.le_of_ble_eq_true rfl, Nat.le_of_ble_eq_true rfl⟩)) (fun r86 h87 => ?_)
  obtain rfl : r86 = 1 := h87.trans zuq56
  refine lv_iconst (v := 1) hx hb dL_starts_523 (by decide) ?_
  refine lv_icmp_ne (tgt := 569) hx hb dL_starts_524 (by decide) (fun c88 => absurd c88 (by decide)) (fun _ => ?_)
  refine lv_aload_n hx hb dL_starts_527 rfl (lv_at hl 0 rfl) ?_
  refine vp_callSi (va_Run.run (va_runV (As := []) (rest := []) ⟨hx, hb, hml, hown, hts⟩ (mtX2_next l g zu14 m00 O00 ) (cwV 0 hts gL_starts_X2_next rfl rfl rfl (by decide +kernel) ⟨Nat.le_of_ble_eq_true rfl, Nat.le_of_ble_eq_true rfl⟩) ⟨PW.blind, rcB hC hW, fun U hU hW9 => ⟨rfl, PW.at hC hS hW U hU hW9⟩⟩ rfl rfl hl.1 rfl (lv_room (Nat.le_of_ble_eq_true rfl)) dL_starts_528 ⟨Nat.le_of_ble_eq_true rfl, Nat.le_of_ble_eq_true rfl⟩)) (fun r89 h90 => ?_)
  obtain rfl : r89 = 0 := h90.trans zuq57
  refine lv_if_ne (tgt := 569) hx hb dL_starts_531 (by decide) (fun c91 => absurd c91 (by decide)) (fun _ => ?_)
  refine lv_aload_n hx hb dL_starts_534 rfl (lv_at hl 0 rfl) ?_
  refine lv_iconst (v := 0) hx hb dL_starts_535 (by decide) ?_
  refine lv_iconst (v := 1) hx hb dL_starts_536 (by decide) ?_
  refine va_calli (va_runS (As := [.ref (gA g 0), .int 0, .int 1]) (rest := []) ⟨hx, hb, hml, hown, hts⟩ (mtL_refuses l g zu14 m00 O00 hfl 0 1 0 1 (ok_ref zuq58).1 (ok_ref zuq58).2.1 (ok_ref zuq58).2.2.1 (ok_ref zuq58).2.2.2.1 (ok_ref zuq58).2.2.2.2) (va_cwS 3 hts gL_starts_L_refuses rfl rfl rfl (by decide +kernel) ⟨Nat.le_of_ble_eq_true rfl, Nat.le_of_ble_eq_true rfl⟩) ⟨PW.blind, fun U hU hW9 => ⟨rfl, PW.at hC hS hW U hU hW9⟩⟩ rfl rfl hl.1 rfl (lv_room (Nat.le_of_ble_eq_true rfl)) dL_starts_537 ⟨Nat.le_of_ble_eq_true rfl, Nat.le_of_ble_eq_true rfl⟩) hS (fun _ _ h => h) (fun _ h => h) (fun r u t H locs ht hvm hq hW hz9 hk9 hS => ?_)
  obtain rfl : r = 1 := hq
  replace hW : Wd g zu14 m00 O00 H := by rw [← ht]; exact hW
  refine lv_if_eq (tgt := 569) hx hb dL_starts_540 (by decide) (fun c92 => absurd c92 (by decide)) (fun _ => ?_)
  refine lv_aload_n hx hb dL_starts_543 rfl (lv_at hl 0 rfl) ?_
  refine lv_iconst (v := 3) hx hb dL_starts_544 (by decide) ?_
  refine cOKi (v := 1) (τ := zu15) (vx_runV (As := [.int 3]) (rest := []) ⟨hx, hb, hml, hown, hts⟩ (mtX2_choose l hfl g zu14 m00 O00 3) (cwV 1 hts gL_starts_X2_choose rfl rfl rfl (by decide +kernel) ⟨Nat.le_of_ble_eq_true rfl, Nat.le_of_ble_eq_true rfl⟩) ⟨PW.blind, rcB hC hW, fun U hU hW9 => ⟨rfl, PW.at hC hS hW U hU hW9⟩⟩ rfl rfl hl.1 rfl (lv_room (Nat.le_of_ble_eq_true rfl)) dL_starts_545 ⟨Nat.le_of_ble_eq_true rfl, Nat.le_of_ble_eq_true rfl⟩) hS (fun _ _ _ q => no_2 (ok_choose (g := g) (μ := m00) (o := O00) zuq59).1 q) (ok_choose zuq59).2 (fun H locs hW hS => ?_)
  refine lv_iconst (v := 1) hx hb dL_starts_548 (by decide) ?_
  refine lv_icmp_ne (tgt := 569) hx hb dL_starts_549 (by decide) (fun c93 => absurd c93 (by decide)) (fun _ => ?_)
  refine lv_aload_n hx hb dL_starts_552 rfl (lv_at hl 0 rfl) ?_
  refine vp_callSi (va_Run.run (va_runV (As := []) (rest := []) ⟨hx, hb, hml, hown, hts⟩ (mtX2_next l g zu15 m00 O00 ) (cwV 0 hts gL_starts_X2_next rfl rfl rfl (by decide +kernel) ⟨Nat.le_of_ble_eq_true rfl, Nat.le_of_ble_eq_true rfl⟩) ⟨PW.blind, rcB hC hW, fun U hU hW9 => ⟨rfl, PW.at hC hS hW U hU hW9⟩⟩ rfl rfl hl.1 rfl (lv_room (Nat.le_of_ble_eq_true rfl)) dL_starts_553 ⟨Nat.le_of_ble_eq_true rfl, Nat.le_of_ble_eq_true rfl⟩)) (fun r94 h95 => ?_)
  obtain rfl : r94 = 3 := h95.trans zuq60
  refine lv_iconst (v := 3) hx hb dL_starts_556 (by decide) ?_
  refine lv_icmp_ne (tgt := 569) hx hb dL_starts_557 (by decide) (fun c96 => absurd c96 (by decide)) (fun _ => ?_)
  refine W.widen (k := 412) (n := 2522) (Nat.le_of_ble_eq_true rfl) (Nat.le_of_ble_eq_true rfl) ?_
  exact kk H locs ls hW hS (by exact lv_sub hl [0] rfl)
set_option maxHeartbeats 4000000 in
set_option maxRecDepth 100000 in
theorem zu_6 {p : Program} {l : Launch} {e : Env} {s : State} {m : MethodId} {below : List Frame} {meth : Method} {c : Code} {g : Ge} (C0 : zuC p l s m meth c g) (kk : zuG p l e s m below meth c g zu20 651 [(0, .ref (gA g 0))] 428 2618) : zuG p l e s m below meth c g zu15 560 [(0, .ref (gA g 0))] 412 2522 := by
  obtain ⟨⟨hx, hb, hr, hml, hts, hown, hlocks⟩, hC, hfl⟩ := C0
  intro H locs ls hW hS hl
  have hl : lv_has ls 1 [(0, .ref (gA g 0))] := hl
  refine lv_aload_n hx hb dL_starts_560 rfl (lv_at hl 0 rfl) ?_
  refine lv_iconst (v := (-1)) hx hb dL_starts_561 (by decide) ?_
  refine cOKi (v := 3) (τ := zu16) (vx_runV (As := [.int (-1)]) (rest := []) ⟨hx, hb, hml, hown, hts⟩ (mtX2_choose l hfl g zu15 m00 O00 (-1)) (cwV 1 hts gL_starts_X2_choose rfl rfl rfl (by decide +kernel) ⟨Nat.le_of_ble_eq_true rfl, Nat.le_of_ble_eq_true rfl⟩) ⟨PW.blind, rcB hC hW, fun U hU hW9 => ⟨rfl, PW.at hC hS hW U hU hW9⟩⟩ rfl rfl hl.1 rfl (lv_room (Nat.le_of_ble_eq_true rfl)) dL_starts_562 ⟨Nat.le_of_ble_eq_true rfl, Nat.le_of_ble_eq_true rfl⟩) hS (fun _ _ _ q => no_2 (ok_choose (g := g) (μ := m00) (o := O00) zuq61).1 q) (ok_choose zuq61).2 (fun H locs hW hS => ?_)
  refine lv_iconst (v := 3) hx hb dL_starts_565 (by decide) ?_
  refine lv_icmp_eq (tgt := 571) hx hb dL_starts_566 (by decide) (fun _ => ?_) (fun c97 => absurd c97 (by decide))
  refine lv_aload_n hx hb dL_starts_571 rfl (lv_at hl 0 rfl) ?_
  refine lv_bipush (v := 50) hx hb dL_starts_572 (by decide) ?_
  refine lv_bipush (v := 60) hx hb dL_starts_574 (by decide) ?_
  refine cOKi (v := 0) (τ := zu17) (vx_runV (As := [.int 50, .int 60]) (rest := []) ⟨hx, hb, hml, hown, hts⟩ (mtX2_setPattern l hfl g zu16 m00 O00 50 60) (cwV 2 hts gL_starts_X2_setPattern rfl rfl rfl (by decide +kernel) ⟨Nat.le_of_ble_eq_true rfl, Nat.le_of_ble_eq_true rfl⟩) ⟨PW.blind, rcB hC hW, fun U hU hW9 => ⟨rfl, PW.at hC hS hW U hU hW9⟩⟩ rfl rfl hl.1 rfl (lv_room (Nat.le_of_ble_eq_true rfl)) dL_starts_576 ⟨Nat.le_of_ble_eq_true rfl, Nat.le_of_ble_eq_true rfl⟩) hS (fun _ _ _ q => no_2 (ok_setPattern (g := g) (μ := m00) (o := O00) zuq62).1 q) (ok_setPattern zuq62).2 (fun H locs hW hS => ?_)
  refine lv_if_ne (tgt := 774) hx hb dL_starts_579 (by decide) (fun c98 => absurd c98 (by decide)) (fun _ => ?_)
  refine lv_aload_n hx hb dL_starts_582 rfl (lv_at hl 0 rfl) ?_
  refine vp_callSi (va_Run.run (va_runV (As := []) (rest := []) ⟨hx, hb, hml, hown, hts⟩ (mtX2_next l g zu17 m00 O00 ) (cwV 0 hts gL_starts_X2_next rfl rfl rfl (by decide +kernel) ⟨Nat.le_of_ble_eq_true rfl, Nat.le_of_ble_eq_true rfl⟩) ⟨PW.blind, rcB hC hW, fun U hU hW9 => ⟨rfl, PW.at hC hS hW U hU hW9⟩⟩ rfl rfl hl.1 rfl (lv_room (Nat.le_of_ble_eq_true rfl)) dL_starts_583 ⟨Nat.le_of_ble_eq_true rfl, Nat.le_of_ble_eq_true rfl⟩)) (fun r99 h100 => ?_)
  obtain rfl : r99 = 4 := h100.trans zuq63
  refine lv_iconst (v := 4) hx hb dL_starts_586 (by decide) ?_
  refine lv_icmp_ne (tgt := 774) hx hb dL_starts_587 (by decide) (fun c101 => absurd c101 (by decide)) (fun _ => ?_)
  refine lv_aload_n hx hb dL_starts_590 rfl (lv_at hl 0 rfl) ?_
  refine cOKi (v := 4) (τ := zu18) (vx_runV (As := []) (rest := []) ⟨hx, hb, hml, hown, hts⟩ (mtX2_start l hfl g zu17 m00 O00) (cwV 0 hts gL_starts_X2_start rfl rfl rfl (by decide +kernel) ⟨Nat.le_of_ble_eq_true rfl, Nat.le_of_ble_eq_true rfl⟩) ⟨PW.blind, rcB hC hW, fun U hU hW9 => ⟨rfl, PW.at hC hS hW U hU hW9⟩⟩ rfl rfl hl.1 rfl (lv_room (Nat.le_of_ble_eq_true rfl)) dL_starts_591 ⟨Nat.le_of_ble_eq_true rfl, Nat.le_of_ble_eq_true rfl⟩) hS (fun _ _ _ q => no_1 (ok_start (g := g) (μ := m00) (o := O00) zuq64).1 q) (ok_start zuq64).2 (fun H locs hW hS => ?_)
  refine lv_iconst (v := 4) hx hb dL_starts_594 (by decide) ?_
  refine lv_icmp_ne (tgt := 774) hx hb dL_starts_595 (by decide) (fun c102 => absurd c102 (by decide)) (fun _ => ?_)
  refine lv_aload_n hx hb dL_starts_598 rfl (lv_at hl 0 rfl) ?_
  refine lv_iconst (v := 4) hx hb dL_starts_599 (by decide) ?_
  refine cOKi (v := 0) (τ := zu18) (vx_runV (As := [.int 4]) (rest := []) ⟨hx, hb, hml, hown, hts⟩ (mtX2_tries l hfl g zu18 m00 O00 4) (cwV 1 hts gL_starts_X2_tries rfl rfl rfl (by decide +kernel) ⟨Nat.le_of_ble_eq_true rfl, Nat.le_of_ble_eq_true rfl⟩) ⟨PW.blind, rcB hC hW, fun U hU hW9 => ⟨rfl, PW.at hC hS hW U hU hW9⟩⟩ rfl rfl hl.1 rfl (lv_room (Nat.le_of_ble_eq_true rfl)) dL_starts_600 ⟨Nat.le_of_ble_eq_true rfl, Nat.le_of_ble_eq_true rfl⟩) hS (fun _ _ _ q => no_1 (ok_tries (g := g) (μ := m00) (o := O00) zuq65).1 q) (ok_tries zuq65).2 (fun H locs hW hS => ?_)
  refine lv_if_ne (tgt := 774) hx hb dL_starts_603 (by decide) (fun c103 => absurd c103 (by decide)) (fun _ => ?_)
  refine lv_aload_n hx hb dL_starts_606 rfl (lv_at hl 0 rfl) ?_
  refine lv_iconst (v := 3) hx hb dL_starts_607 (by decide) ?_
  refine lv_iconst (v := 0) hx hb dL_starts_608 (by decide) ?_
  refine lv_iconst (v := 4) hx hb dL_starts_609 (by decide) ?_
  refine lv_iconst (v := 2) hx hb dL_starts_610 (by decide) ?_
  refine va_calli (va_runS (As := [.ref (gA g 0), .int 3, .int 0, .int 4, .int 2]) (rest := []) ⟨hx, hb, hml, hown, hts⟩ (mtL_order l g zu18 m00 O00 hfl 3 0 4 2 zuq66) (va_cwS 5 hts gL_starts_L_order rfl rfl rfl (by decide +kernel) ⟨Nat.le_of_ble_eq_true rfl, Nat.le_of_ble_eq_true rfl⟩) ⟨PW.blind, fun U hU hW9 => ⟨rfl, PW.at hC hS hW U hU hW9⟩⟩ rfl rfl hl.1 rfl (lv_room (Nat.le_of_ble_eq_true rfl)) dL_starts_611 ⟨Nat.le_of_ble_eq_true rfl, Nat.le_of_ble_eq_true rfl⟩) hS (fun _ _ h => h) (fun _ h => h) (fun r u t H locs ht hvm hq hW hz9 hk9 hS => ?_)
  obtain rfl : r = 1 := hq
  replace hW : Wd g zu18 m00 O00 H := by rw [← ht]; exact hW
  refine lv_if_eq (tgt := 774) hx hb dL_starts_614 (by decide) (fun c104 => absurd c104 (by decide)) (fun _ => ?_)
  refine lv_aload_n hx hb dL_starts_617 rfl (lv_at hl 0 rfl) ?_
  refine vp_callSi (va_Run.run (va_runV (As := []) (rest := []) ⟨hx, hb, hml, hown, hts⟩ (mtX2_next l g zu18 m00 O00 ) (cwV 0 hts gL_starts_X2_next rfl rfl rfl (by decide +kernel) ⟨Nat.le_of_ble_eq_true rfl, Nat.le_of_ble_eq_true rfl⟩) ⟨PW.blind, rcB hC hW, fun U hU hW9 => ⟨rfl, PW.at hC hS hW U hU hW9⟩⟩ rfl rfl hl.1 rfl (lv_room (Nat.le_of_ble_eq_true rfl)) dL_starts_618 ⟨Nat.le_of_ble_eq_true rfl, Nat.le_of_ble_eq_true rfl⟩)) (fun r105 h106 => ?_)
  obtain rfl : r105 = 3 := h106.trans zuq67
  refine lv_iconst (v := 3) hx hb dL_starts_621 (by decide) ?_
  refine lv_icmp_ne (tgt := 774) hx hb dL_starts_622 (by decide) (fun c107 => absurd c107 (by decide)) (fun _ => ?_)
  refine lv_aload_n hx hb dL_starts_625 rfl (lv_at hl 0 rfl) ?_
  refine lv_iconst (v := 4) hx hb dL_starts_626 (by decide) ?_
  refine cOKi (v := (-1)) (τ := zu19) (vx_runV (As := [.int 4]) (rest := []) ⟨hx, hb, hml, hown, hts⟩ (mtX2_chooseOnce l hfl g zu18 m00 O00 4) (cwV 1 hts gL_starts_X2_chooseOnce rfl rfl rfl (by decide +kernel) ⟨Nat.le_of_ble_eq_true rfl, Nat.le_of_ble_eq_true rfl⟩) ⟨PW.blind, rcB hC hW, fun U hU hW9 => ⟨rfl, PW.at hC hS hW U hU hW9⟩⟩ rfl rfl hl.1 rfl (lv_room (Nat.le_of_ble_eq_true rfl)) dL_starts_627 ⟨Nat.le_of_ble_eq_true rfl, Nat.le_of_ble_eq_true rfl⟩) hS (fun _ _ _ q => no_1 (ok_chooseOnce (g := g) (μ := m00) (o := O00) zuq68).1 q) (ok_chooseOnce zuq68).2 (fun H locs hW hS => ?_)
  refine lv_iconst (v := (-1)) hx hb dL_starts_630 (by decide) ?_
  refine lv_icmp_ne (tgt := 774) hx hb dL_starts_631 (by decide) (fun c108 => absurd c108 (by decide)) (fun _ => ?_)
  refine lv_aload_n hx hb dL_starts_634 rfl (lv_at hl 0 rfl) ?_
  refine lv_iconst (v := 4) hx hb dL_starts_635 (by decide) ?_
  refine cOKi (v := 3) (τ := zu20) (vx_runV (As := [.int 4]) (rest := []) ⟨hx, hb, hml, hown, hts⟩ (mtX2_remove l hfl g zu19 m00 O00 4) (cwV 1 hts gL_starts_X2_remove rfl rfl rfl (by decide +kernel) ⟨Nat.le_of_ble_eq_true rfl, Nat.le_of_ble_eq_true rfl⟩) ⟨PW.blind, rcB hC hW, fun U hU hW9 => ⟨rfl, PW.at hC hS hW U hU hW9⟩⟩ rfl rfl hl.1 rfl (lv_room (Nat.le_of_ble_eq_true rfl)) dL_starts_636 ⟨Nat.le_of_ble_eq_true rfl, Nat.le_of_ble_eq_true rfl⟩) hS (fun _ _ _ q => no_1 (ok_remove (g := g) (μ := m00) (o := O00) zuq69).1 q) (ok_remove zuq69).2 (fun H locs hW hS => ?_)
  refine lv_iconst (v := 3) hx hb dL_starts_639 (by decide) ?_
  refine lv_icmp_ne (tgt := 774) hx hb dL_starts_640 (by decide) (fun c109 => absurd c109 (by decide)) (fun _ => ?_)
  refine lv_aload_n hx hb dL_starts_643 rfl (lv_at hl 0 rfl) ?_
  refine vp_callSi (va_Run.run (va_runV (As := []) (rest := []) ⟨hx, hb, hml, hown, hts⟩ (mtX2_next l g zu20 m00 O00 ) (cwV 0 hts gL_starts_X2_next rfl rfl rfl (by decide +kernel) ⟨Nat.le_of_ble_eq_true rfl, Nat.le_of_ble_eq_true rfl⟩) ⟨PW.blind, rcB hC hW, fun U hU hW9 => ⟨rfl, PW.at hC hS hW U hU hW9⟩⟩ rfl rfl hl.1 rfl (lv_room (Nat.le_of_ble_eq_true rfl)) dL_starts_644 ⟨Nat.le_of_ble_eq_true rfl, Nat.le_of_ble_eq_true rfl⟩)) (fun r110 h111 => ?_)
  obtain rfl : r110 = 3 := h111.trans zuq70
  refine lv_iconst (v := 3) hx hb dL_starts_647 (by decide) ?_
  refine lv_icmp_ne (tgt := 774) hx hb dL_starts_648 (by decide) (fun c112 => absurd c112 (by decide)) (fun _ => ?_)
  refine W.widen (k := 428) (n := 2618) (Nat.le_of_ble_eq_true rfl) (Nat.le_of_ble_eq_true rfl) ?_
  exact kk H locs ls hW hS (by exact lv_sub hl [0] rfl)
set_option maxHeartbeats 4000000 in
set_option maxRecDepth 100000 in
theorem zu_7 {p : Program} {l : Launch} {e : Env} {s : State} {m : MethodId} {below : List Frame} {meth : Method} {c : Code} {g : Ge} (C0 : zuC p l s m meth c g) (kk : zuG p l e s m below meth c g zu27 734 [(0, .ref (gA g 0))] 437 2672) : zuG p l e s m below meth c g zu20 651 [(0, .ref (gA g 0))] 428 2618 := by
  obtain ⟨⟨hx, hb, hr, hml, hts, hown, hlocks⟩, hC, hfl⟩ := C0
  intro H locs ls hW hS hl
  have hl : lv_has ls 1 [(0, .ref (gA g 0))] := hl
  refine lv_aload_n hx hb dL_starts_651 rfl (lv_at hl 0 rfl) ?_
  refine lv_iconst (v := 0) hx hb dL_starts_652 (by decide) ?_
  refine cOKi (v := 4) (τ := zu21) (vx_runV (As := [.int 0]) (rest := []) ⟨hx, hb, hml, hown, hts⟩ (mtX2_chooseOnce l hfl g zu20 m00 O00 0) (cwV 1 hts gL_starts_X2_chooseOnce rfl rfl rfl (by decide +kernel) ⟨Nat.le_of_ble_eq_true rfl, Nat.le_of_ble_eq_true rfl⟩) ⟨PW.blind, rcB hC hW, fun U hU hW9 => ⟨rfl, PW.at hC hS hW U hU hW9⟩⟩ rfl rfl hl.1 rfl (lv_room (Nat.le_of_ble_eq_true rfl)) dL_starts_653 ⟨Nat.le_of_ble_eq_true rfl, Nat.le_of_ble_eq_true rfl⟩) hS (fun _ _ _ q => no_1 (ok_chooseOnce (g := g) (μ := m00) (o := O00) zuq71).1 q) (ok_chooseOnce zuq71).2 (fun H locs hW hS => ?_)
  refine lv_iconst (v := 4) hx hb dL_starts_656 (by decide) ?_
  refine lv_icmp_ne (tgt := 774) hx hb dL_starts_657 (by decide) (fun c113 => absurd c113 (by decide)) (fun _ => ?_)
  refine lv_aload_n hx hb dL_starts_660 rfl (lv_at hl 0 rfl) ?_
  refine lv_iconst (v := 3) hx hb dL_starts_661 (by decide) ?_
  refine cOKi (v := 0) (τ := zu22) (vx_runV (As := [.int 3]) (rest := []) ⟨hx, hb, hml, hown, hts⟩ (mtX2_chooseOnce l hfl g zu21 m00 O00 3) (cwV 1 hts gL_starts_X2_chooseOnce rfl rfl rfl (by decide +kernel) ⟨Nat.le_of_ble_eq_true rfl, Nat.le_of_ble_eq_true rfl⟩) ⟨PW.blind, rcB hC hW, fun U hU hW9 => ⟨rfl, PW.at hC hS hW U hU hW9⟩⟩ rfl rfl hl.1 rfl (lv_room (Nat.le_of_ble_eq_true rfl)) dL_starts_662 ⟨Nat.le_of_ble_eq_true rfl, Nat.le_of_ble_eq_true rfl⟩) hS (fun _ _ _ q => no_1 (ok_chooseOnce (g := g) (μ := m00) (o := O00) zuq72).1 q) (ok_chooseOnce zuq72).2 (fun H locs hW hS => ?_)
  refine lv_if_ne (tgt := 774) hx hb dL_starts_665 (by decide) (fun c114 => absurd c114 (by decide)) (fun _ => ?_)
  refine lv_aload_n hx hb dL_starts_668 rfl (lv_at hl 0 rfl) ?_
  refine lv_iconst (v := 3) hx hb dL_starts_669 (by decide) ?_
  refine cOKi (v := 2) (τ := zu23) (vx_runV (As := [.int 3]) (rest := []) ⟨hx, hb, hml, hown, hts⟩ (mtX2_remove l hfl g zu22 m00 O00 3) (cwV 1 hts gL_starts_X2_remove rfl rfl rfl (by decide +kernel) ⟨Nat.le_of_ble_eq_true rfl, Nat.le_of_ble_eq_true rfl⟩) ⟨PW.blind, rcB hC hW, fun U hU hW9 => ⟨rfl, PW.at hC hS hW U hU hW9⟩⟩ rfl rfl hl.1 rfl (lv_room (Nat.le_of_ble_eq_true rfl)) dL_starts_670 ⟨Nat.le_of_ble_eq_true rfl, Nat.le_of_ble_eq_true rfl⟩) hS (fun _ _ _ q => no_1 (ok_remove (g := g) (μ := m00) (o := O00) zuq73).1 q) (ok_remove zuq73).2 (fun H locs hW hS => ?_)
  refine lv_iconst (v := 2) hx hb dL_starts_673 (by decide) ?_
  refine lv_icmp_ne (tgt := 774) hx hb dL_starts_674 (by decide) (fun c115 => absurd c115 (by decide)) (fun _ => ?_)
  refine lv_aload_n hx hb dL_starts_677 rfl (lv_at hl 0 rfl) ?_
  refine cOKi (v := 0) (τ := zu24) (vx_runV (As := []) (rest := []) ⟨hx, hb, hml, hown, hts⟩ (mtX2_start l hfl g zu23 m00 O00) (cwV 0 hts gL_starts_X2_start rfl rfl rfl (by decide +kernel) ⟨Nat.le_of_ble_eq_true rfl, Nat.le_of_ble_eq_true rfl⟩) ⟨PW.blind, rcB hC hW, fun U hU hW9 => ⟨rfl, PW.at hC hS hW U hU hW9⟩⟩ rfl rfl hl.1 rfl (lv_room (Nat.le_of_ble_eq_true rfl)) dL_starts_678 ⟨Nat.le_of_ble_eq_true rfl, Nat.le_of_ble_eq_true rfl⟩) hS (fun _ _ _ q => no_1 (ok_start (g := g) (μ := m00) (o := O00) zuq74).1 q) (ok_start zuq74).2 (fun H locs hW hS => ?_)
  refine lv_if_ne (tgt := 774) hx hb dL_starts_681 (by decide) (fun c116 => absurd c116 (by decide)) (fun _ => ?_)
  refine lv_aload_n hx hb dL_starts_684 rfl (lv_at hl 0 rfl) ?_
  refine lv_iconst (v := (-1)) hx hb dL_starts_685 (by decide) ?_
  refine cOKi (v := (-1)) (τ := zu24) (vx_runV (As := [.int (-1)]) (rest := []) ⟨hx, hb, hml, hown, hts⟩ (mtX2_chooseOnce l hfl g zu24 m00 O00 (-1)) (cwV 1 hts gL_starts_X2_chooseOnce rfl rfl rfl (by decide +kernel) ⟨Nat.le_of_ble_eq_true rfl, Nat.le_of_ble_eq_true rfl⟩) ⟨PW.blind, rcB hC hW, fun U hU hW9 => ⟨rfl, PW.at hC hS hW U hU hW9⟩⟩ rfl rfl hl.1 rfl (lv_room (Nat.le_of_ble_eq_true rfl)) dL_starts_686 ⟨Nat.le_of_ble_eq_true rfl, Nat.le_of_ble_eq_true rfl⟩) hS (fun _ _ _ q => no_1 (ok_chooseOnce (g := g) (μ := m00) (o := O00) zuq75).1 q) (ok_chooseOnce zuq75).2 (fun H locs hW hS => ?_)
  refine lv_iconst (v := (-1)) hx hb dL_starts_689 (by decide) ?_
  refine lv_icmp_ne (tgt := 774) hx hb dL_starts_690 (by decide) (fun c117 => absurd c117 (by decide)) (fun _ => ?_)
  refine lv_aload_n hx hb dL_starts_693 rfl (lv_at hl 0 rfl) ?_
  refine lv_iconst (v := 0) hx hb dL_starts_694 (by decide) ?_
  refine cOKi (v := 1) (τ := zu25) (vx_runV (As := [.int 0]) (rest := []) ⟨hx, hb, hml, hown, hts⟩ (mtX2_remove l hfl g zu24 m00 O00 0) (cwV 1 hts gL_starts_X2_remove rfl rfl rfl (by decide +kernel) ⟨Nat.le_of_ble_eq_true rfl, Nat.le_of_ble_eq_true rfl⟩) ⟨PW.blind, rcB hC hW, fun U hU hW9 => ⟨rfl, PW.at hC hS hW U hU hW9⟩⟩ rfl rfl hl.1 rfl (lv_room (Nat.le_of_ble_eq_true rfl)) dL_starts_695 ⟨Nat.le_of_ble_eq_true rfl, Nat.le_of_ble_eq_true rfl⟩) hS (fun _ _ _ q => no_1 (ok_remove (g := g) (μ := m00) (o := O00) zuq76).1 q) (ok_remove zuq76).2 (fun H locs hW hS => ?_)
  refine lv_iconst (v := 1) hx hb dL_starts_698 (by decide) ?_
  refine lv_icmp_ne (tgt := 774) hx hb dL_starts_699 (by decide) (fun c118 => absurd c118 (by decide)) (fun _ => ?_)
  refine lv_aload_n hx hb dL_starts_702 rfl (lv_at hl 0 rfl) ?_
  refine vp_callSi (va_Run.run (va_runV (As := []) (rest := []) ⟨hx, hb, hml, hown, hts⟩ (mtX2_next l g zu25 m00 O00 ) (cwV 0 hts gL_starts_X2_next rfl rfl rfl (by decide +kernel) ⟨Nat.le_of_ble_eq_true rfl, Nat.le_of_ble_eq_true rfl⟩) ⟨PW.blind, rcB hC hW, fun U hU hW9 => ⟨rfl, PW.at hC hS hW U hU hW9⟩⟩ rfl rfl hl.1 rfl (lv_room (Nat.le_of_ble_eq_true rfl)) dL_starts_703 ⟨Nat.le_of_ble_eq_true rfl, Nat.le_of_ble_eq_true rfl⟩)) (fun r119 h120 => ?_)
  obtain rfl : r119 = 2 := h120.trans zuq77
  refine lv_iconst (v := 2) hx hb dL_starts_706 (by decide) ?_
  refine lv_icmp_ne (tgt := 774) hx hb dL_starts_707 (by decide) (fun c121 => absurd c121 (by decide)) (fun _ => ?_)
  refine lv_aload_n hx hb dL_starts_710 rfl (lv_at hl 0 rfl) ?_
  refine cOKi (v := 2) (τ := zu26) (vx_runV (As := []) (rest := []) ⟨hx, hb, hml, hown, hts⟩ (mtX2_start l hfl g zu25 m00 O00) (cwV 0 hts gL_starts_X2_start rfl rfl rfl (by decide +kernel) ⟨Nat.le_of_ble_eq_true rfl, Nat.le_of_ble_eq_true rfl⟩) ⟨PW.blind, rcB hC hW, fun U hU hW9 => ⟨rfl, PW.at hC hS hW U hU hW9⟩⟩ rfl rfl hl.1 rfl (lv_room (Nat.le_of_ble_eq_true rfl)) dL_starts_711 ⟨Nat.le_of_ble_eq_true rfl, Nat.le_of_ble_eq_true rfl⟩) hS (fun _ _ _ q => no_1 (ok_start (g := g) (μ := m00) (o := O00) zuq78).1 q) (ok_start zuq78).2 (fun H locs hW hS => ?_)
  refine lv_iconst (v := 2) hx hb dL_starts_714 (by decide) ?_
  refine lv_icmp_ne (tgt := 774) hx hb dL_starts_715 (by decide) (fun c122 => absurd c122 (by decide)) (fun _ => ?_)
  refine lv_aload_n hx hb dL_starts_718 rfl (lv_at hl 0 rfl) ?_
  refine lv_iconst (v := 2) hx hb dL_starts_719 (by decide) ?_
  refine cOKi (v := 0) (τ := zu26) (vx_runV (As := [.int 2]) (rest := []) ⟨hx, hb, hml, hown, hts⟩ (mtX2_tries l hfl g zu26 m00 O00 2) (cwV 1 hts gL_starts_X2_tries rfl rfl rfl (by decide +kernel) ⟨Nat.le_of_ble_eq_true rfl, Nat.le_of_ble_eq_true rfl⟩) ⟨PW.blind, rcB hC hW, fun U hU hW9 => ⟨rfl, PW.at hC hS hW U hU hW9⟩⟩ rfl rfl hl.1 rfl (lv_room (Nat.le_of_ble_eq_true rfl)) dL_starts_720 ⟨Nat.le_of_ble_eq_true rfl, Nat.le_of_ble_eq_true rfl⟩) hS (fun _ _ _ q => no_1 (ok_tries (g := g) (μ := m00) (o := O00) zuq79).1 q) (ok_tries zuq79).2 (fun H locs hW hS => ?_)
  refine lv_if_ne (tgt := 774) hx hb dL_starts_723 (by decide) (fun c123 => absurd c123 (by decide)) (fun _ => ?_)
  refine lv_aload_n hx hb dL_starts_726 rfl (lv_at hl 0 rfl) ?_
  refine lv_iconst (v := 2) hx hb dL_starts_727 (by decide) ?_
  refine cOKi (v := 0) (τ := zu27) (vx_runV (As := [.int 2]) (rest := []) ⟨hx, hb, hml, hown, hts⟩ (mtX2_remove l hfl g zu26 m00 O00 2) (cwV 1 hts gL_starts_X2_remove rfl rfl rfl (by decide +kernel) ⟨Nat.le_of_ble_eq_true rfl, Nat.le_of_ble_eq_true rfl⟩) ⟨PW.blind, rcB hC hW, fun U hU hW9 => ⟨rfl, PW.at hC hS hW U hU hW9⟩⟩ rfl rfl hl.1 rfl (lv_room (Nat.le_of_ble_eq_true rfl)) dL_starts_728 ⟨Nat.le_of_ble_eq_true rfl, Nat.le_of_ble_eq_true rfl⟩) hS (fun _ _ _ q => no_1 (ok_remove (g := g) (μ := m00) (o := O00) zuq80).1 q) (ok_remove zuq80).2 (fun H locs hW hS => ?_)
  refine lv_if_ne (tgt := 774) hx hb dL_starts_731 (by decide) (fun c124 => absurd c124 (by decide)) (fun _ => ?_)
  refine W.widen (k := 437) (n := 2672) (Nat.le_of_ble_eq_true rfl) (Nat.le_of_ble_eq_true rfl) ?_
  exact kk H locs ls hW hS (by exact lv_sub hl [0] rfl)
set_option maxHeartbeats 4000000 in
set_option maxRecDepth 100000 in
theorem zu_8 {p : Program} {l : Launch} {e : Env} {s : State} {m : MethodId} {below : List Frame} {meth : Method} {c : Code} {g : Ge} (C0 : zuC p l s m meth c g) : zuG p l e s m below meth c g zu27 734 [(0, .ref (gA g 0))] 437 2672 := by
  obtain ⟨⟨hx, hb, hr, hml, hts, hown, hlocks⟩, hC, hfl⟩ := C0
  intro H locs ls hW hS hl
  have hl : lv_has ls 1 [(0, .ref (gA g 0))] := hl
  refine lv_aload_n hx hb dL_starts_734 rfl (lv_at hl 0 rfl) ?_
  refine vp_callSi (va_Run.run (va_runV (As := []) (rest := []) ⟨hx, hb, hml, hown, hts⟩ (mtX2_next l g zu27 m00 O00 ) (cwV 0 hts gL_starts_X2_next rfl rfl rfl (by decide +kernel) ⟨Nat.le_of_ble_eq_true rfl, Nat.le_of_ble_eq_true rfl⟩) ⟨PW.blind, rcB hC hW, fun U hU hW9 => ⟨rfl, PW.at hC hS hW U hU hW9⟩⟩ rfl rfl hl.1 rfl (lv_room (Nat.le_of_ble_eq_true rfl)) dL_starts_735 ⟨Nat.le_of_ble_eq_true rfl, Nat.le_of_ble_eq_true rfl⟩)) (fun r125 h126 => ?_)
  obtain rfl : r125 = (-1) := h126.trans zuq81
  refine lv_iconst (v := (-1)) hx hb dL_starts_738 (by decide) ?_
  refine lv_icmp_ne (tgt := 774) hx hb dL_starts_739 (by decide) (fun c127 => absurd c127 (by decide)) (fun _ => ?_)
  refine lv_aload_n hx hb dL_starts_742 rfl (lv_at hl 0 rfl) ?_
  refine vp_callSi (va_Run.run (va_runV (As := []) (rest := []) ⟨hx, hb, hml, hown, hts⟩ (mtX2_running l g zu27 m00 O00 ) (cwV 0 hts gL_starts_X2_running rfl rfl rfl (by decide +kernel) ⟨Nat.le_of_ble_eq_true rfl, Nat.le_of_ble_eq_true rfl⟩) ⟨PW.blind, rcB hC hW, fun U hU hW9 => ⟨rfl, PW.at hC hS hW U hU hW9⟩⟩ rfl rfl hl.1 rfl (lv_room (Nat.le_of_ble_eq_true rfl)) dL_starts_743 ⟨Nat.le_of_ble_eq_true rfl, Nat.le_of_ble_eq_true rfl⟩)) (fun r128 h129 => ?_)
  obtain rfl : r128 = 2 := h129.trans zuq82
  refine lv_iconst (v := 2) hx hb dL_starts_746 (by decide) ?_
  refine lv_icmp_ne (tgt := 774) hx hb dL_starts_747 (by decide) (fun c130 => absurd c130 (by decide)) (fun _ => ?_)
  refine lv_aload_n hx hb dL_starts_750 rfl (lv_at hl 0 rfl) ?_
  refine lv_iconst (v := 5) hx hb dL_starts_751 (by decide) ?_
  refine lv_iconst (v := 0) hx hb dL_starts_752 (by decide) ?_
  refine lv_iconst (v := 0) hx hb dL_starts_753 (by decide) ?_
  refine va_calli (vx_runSW (As := [.ref (gA g 0), .int 5, .int 0, .int 0]) (rest := []) ⟨hx, hb, hml, hown, hts⟩ (mtL_act_5 l g zu27 m00 O00 hfl 0 0 1 (-73) zuq83 (by decide)) (vx_cwSW 4 hts gL_starts_L_act rfl rfl rfl (by decide +kernel) ⟨Nat.le_of_ble_eq_true rfl, Nat.le_of_ble_eq_true rfl⟩) ⟨PW.blind, fun U hU hW9 => ⟨rfl, PW.at hC hS hW U hU hW9⟩⟩ rfl rfl hl.1 rfl (lv_room (Nat.le_of_ble_eq_true rfl)) dL_starts_754 ⟨Nat.le_of_ble_eq_true rfl, Nat.le_of_ble_eq_true rfl⟩) hS (fun _ _ h => h) (fun _ h => h) (fun r u t H locs ht hvm hq hW hz9 hk9 hS => ?_)
  obtain rfl : r = (-73) := hq
  replace hW : Wd g zu27 m00 O00 H := by rw [← ht]; exact hW
  refine lv_bipush (v := (-73)) hx hb dL_starts_757 (by decide) ?_
  refine lv_icmp_ne (tgt := 774) hx hb dL_starts_759 (by decide) (fun c131 => absurd c131 (by decide)) (fun _ => ?_)
  refine lv_aload_n hx hb dL_starts_762 rfl (lv_at hl 0 rfl) ?_
  refine cOKi (v := (-1)) (τ := zu27) (vx_runV (As := []) (rest := []) ⟨hx, hb, hml, hown, hts⟩ (mtX2_good l hfl g zu27 m00 O00) (cwV 0 hts gL_starts_X2_good rfl rfl rfl (by decide +kernel) ⟨Nat.le_of_ble_eq_true rfl, Nat.le_of_ble_eq_true rfl⟩) ⟨PW.blind, rcB hC hW, fun U hU hW9 => ⟨rfl, PW.at hC hS hW U hU hW9⟩⟩ rfl rfl hl.1 rfl (lv_room (Nat.le_of_ble_eq_true rfl)) dL_starts_763 ⟨Nat.le_of_ble_eq_true rfl, Nat.le_of_ble_eq_true rfl⟩) hS (fun _ _ _ q => no_1 (ok_good (g := g) (μ := m00) (o := O00) zuq84).1 q) (ok_good zuq84).2 (fun H locs hW hS => ?_)
  refine lv_iconst (v := (-1)) hx hb dL_starts_766 (by decide) ?_
  refine lv_icmp_ne (tgt := 774) hx hb dL_starts_767 (by decide) (fun c132 => absurd c132 (by decide)) (fun _ => ?_)
  refine lv_iconst (v := 1) hx hb dL_starts_770 (by decide) ?_
  refine lv_goto (tgt := 775) hx hb dL_starts_771 (by decide) ?_
  refine W.widen (k := 439) (n := 2684) (Nat.le_of_ble_eq_true rfl) (Nat.le_of_ble_eq_true rfl) ?_
  exact W.zret (v := 1) (ty := .boolean) hx hb hr rfl (fun t ht hW9 => ⟨⟨_, (), rfl, rfl, trivial⟩, hS.F ht⟩) hS.2.2 dL_starts_775
set_option maxHeartbeats 4000000 in
set_option maxRecDepth 100000 in
theorem mtL_starts (l : Launch) (D : va_G) (z : Nat) (hfl : l.stackTraces = false) : Met l yL_starts wsL_starts ({ frames := 10, cells := 439, slots := 2684, locals := 195 } : Room) (va_Pc [] (PS z D)) (va_Qi (S := Unit) (fun r _ => r = 1) (fun _ _ => True) (Zf z)) 439 2684 (Zf z) := by
  refine Met.ofW (cc := cL_starts) (maxL := 1) (ret := (some .boolean)) (by decide) rfl ?_
  intro p e s m args below meth c s₁ B hml hv
  obtain ⟨rfl, hPS⟩ := hv
  have hx := B.exec
  have hb := B.bytes
  have hr := B.returns
  have hts := atoms_spec (ws := wsL_starts) B.pre
  have hown : s.vm.findClass RL = some m.cls := findClass_of_methodNamed B.named
  have hlocks := B.notSynchronized
  have hinX2 : ∀ w ∈ wsX20, w ∈ wsL_starts := by decide +kernel
  have hS : va_S (Zf z) s.heap s.heap [] := va_S.rf
  have hl := lv_entry ([]) (n := 1) (Nat.le_of_ble_eq_true rfl)
  rw [lg_entry_eq]
  generalize (lg_sl ([]) ++ List.replicate (1 - (lg_sl ([])).length) Slot.unset).toArray = ls at hl ⊢
  have hl : lv_has ls 1 [] := hl
  have hAO := hPS.2.2.2.2
  have hN0 : va_Nw (.methodLinkNest RX2 17 yX0_init "BootChooser") s := hPS.2.1.1 _ (by decide +kernel)
  have hN1 : va_Nw (.methodLinkNest RX2 44 yX1_init "BootChooser") s := hPS.2.1.1 _ (by decide +kernel)
  have hK := hPS.1
  have hA : ∀ q : Nat, s.heap.size ≤ q → Zf z q := fun q h => Nat.le_trans hPS.2.2.2.1 h
  have hP : va_P D vwCl [] s.heap := fun k q hq => by cases hq
  have hD : va_D (Zf z) [] := ⟨fun i j p q hp => (by cases hp), fun k q hq => (by cases hq)⟩
  refine va_new (ci := 2) (fs := [.null, .null, .int 0, .int 0, .int 0, .int 0, .int 0, .int 0, .int 0]) (C := RX2) (T := TX2) (N := 9) hx hb hts hinX2 tyX2 tyX2_ok hown (hts (.classLink RL 8 RX2) (by decide +kernel)) (hts (.instantiable RX2 9) (by decide +kernel)) (hts (.initialized RX2) (by decide +kernel)) hK hP hD hS hA rfl (fun j hj => by rcases (show j = 0 ∨ j = 1 ∨ j = 2 ∨ j = 3 ∨ j = 4 ∨ j = 5 ∨ j = 6 ∨ j = 7 ∨ j = 8 by omega) with rfl | rfl | rfl | rfl | rfl | rfl | rfl | rfl | rfl <;> rfl) (Nat.le_of_ble_eq_true rfl) (Nat.le_of_ble_eq_true rfl) dL_starts_0 (fun q0 H hP hD hS => ?_)
  refine lv_dup hx hb dL_starts_3 rfl ?_
  refine va_callv (va_runI (As := []) (rest := [.ref q0]) ⟨hx, hb, hml, hown, hts⟩ (mtX2_init l D z q0) (cwI 0 hts gL_starts_X2_init rfl rfl rfl (hts (.initialized RX2) (by decide +kernel)) (hts (.methodLink RL 93 yX2_init) (by decide +kernel)) (hts (.instanceMethod yX2_init) (by decide +kernel)) rfl (by decide +kernel) ⟨(Nat.le_of_ble_eq_true rfl), (Nat.le_of_ble_eq_true rfl)⟩) ⟨ctor2_blind, fun U hU hW9 => ⟨rfl, va_K.moved hW9.alike hK, by rw [hU]; exact hP, hD, by rw [hU]; exact Nat.le_trans hPS.2.2.2.1 hS.1, va_AO.moved hW9.alike hAO, va_Nw.warmM hW9 hN0, va_Nw.warmM hW9 hN1⟩⟩ rfl rfl hl.1 rfl (lv_room (Nat.le_of_ble_eq_true rfl)) dL_starts_4 ⟨(Nat.le_of_ble_eq_true rfl), (Nat.le_of_ble_eq_true rfl)⟩) hS (fun _ _ h => h) (fun _ h => h) (fun u t H locs ht hvm _ hB hz1 hk1 hS => ?_)
  obtain ⟨g, h40, hg0, hW, hC⟩ := born_g hB hvm hPS
  rw [ht] at hW
  subst hg0
  rw [Az_Zf h40] at hS ⊢
  refine lv_astore_n (lv' := [(0, .ref (gA g 0))]) hx hb dL_starts_7 rfl hl (by decide) rfl (fun ls hl => ?_)
  refine W.widen (k := 20) (n := 170) (Nat.le_of_ble_eq_true rfl) (Nat.le_of_ble_eq_true rfl) ?_
  have C0 : zuC p l s m meth c g := ⟨⟨hx, hb, hr, hml, hts, hown, hlocks⟩, hC, hfl⟩
  have K : zuG p l e s m below meth c g zu0 8 [(0, .ref (gA g 0))] 20 170 := (zu_0 C0 (zu_1 C0 (zu_2 C0 (zu_3 C0 (zu_4 C0 (zu_5 C0 (zu_6 C0 (zu_7 C0 (zu_8 C0)))))))))
  exact K H locs ls (Wd_eq zuq0 hW) hS hl
