set_option maxHeartbeats 1000000 in
set_option maxRecDepth 100000 in
theorem law_setPattern {p : Program} {l : Launch} {e : Env} {s : State} {m : MethodId} {below : List Frame} {meth : Method} {c : Code} {b L : Nat} {xs : Nat → Int32} {g : Ge} (C0 : lwC l p s m meth c b L xs g) {t : Nat} (ht : 6 * t + 6 ≤ L) (hn : lwG p l e s m below meth c b g (t + 1) 23) : lwG p l e s m below meth c b g t 476 := by
  obtain ⟨⟨hx, hb, hr, hml, hown, hts, hX, hbl, hlocks, hgv⟩, hC, hz, hfl, hL⟩ := C0
  intro a σ μ o H locs ls hR hW hS hl
  have htsW : ∀ w ∈ wsL_law, w.before #[Value.ref b] s = true := fun w h => hts w (wsL_law_in w h)
  have hbA : ¬ Az g b := fun h => by unfold Az at h; rw [hz] at h; exact absurd hbl (by omega)
  have hM := hR.M
  have ha := hR.ha
  unfold CC SS
  have hl : lv_has ls 7 [(4, .int (nI (6 * t))), (0, .ref b), (1, .ref (gA g 0)), (2, .ref (gA g 4)), (3, .ref (gA g 12))] := hl
  refine lv_aload_n hx hb dL_law_476 rfl (lv_at hl 2 rfl) ?_
  refine lv_aload_n hx hb dL_law_477 rfl (lv_at hl 1 rfl) ?_
  refine lv_iload hx hb dL_law_478 (lv_at hl 0 rfl) ?_
  refine lv_iconst (v := 1) hx hb dL_law_480 (by decide) ?_
  refine lv_iadd hx hb dL_law_481 ?_
  refine va_sld hx hb hX hbl hbA hS (s_in (k := 1) ht hL (by decide)) dL_law_482 ?_
  refine lv_aload_n hx hb dL_law_483 rfl (lv_at hl 1 rfl) ?_
  refine lv_iload hx hb dL_law_484 (lv_at hl 0 rfl) ?_
  refine lv_iconst (v := 2) hx hb dL_law_486 (by decide) ?_
  refine lv_iadd hx hb dL_law_487 ?_
  refine va_sld hx hb hX hbl hbA hS (s_in (k := 2) ht hL (by decide)) dL_law_488 ?_
  refine lv_aload_n hx hb dL_law_489 rfl (lv_at hl 4 rfl) ?_
  refine va_calli (vx_runSW (As := [.ref (gA g 0), .int ((xs (nI (6 * t) + 1).toNatClampNeg)), .int ((xs (nI (6 * t) + 2).toNatClampNeg)), .ref (gA g 12)]) (rest := []) ⟨hx, hb, hml, hown, htsW⟩ (mtL_setPattern l g σ μ o hfl (xs (nI (6 * t) + 1).toNatClampNeg) (xs (nI (6 * t) + 2).toNatClampNeg)) (vx_cwSW 4 htsW gL_law_L_setPattern rfl rfl rfl (by decide +kernel) ⟨Nat.le_of_ble_eq_true rfl, Nat.le_of_ble_eq_true rfl⟩) ⟨PW.blind, fun U hU hW9 => ⟨rfl, PW.at hC hS hW U hU hW9⟩⟩ rfl rfl hl.1 rfl (lv_room (Nat.le_of_ble_eq_true rfl)) dL_law_490 ⟨show 29 + 4 * t + 2 ≤ 638081 by omega, show 611 + 24 * t + 12 ≤ 7181861 by omega⟩) hS (fun _ _ h => h) (fun _ h => h) (fun k y t9 H locs ht9 hvm hq hB hz9 hk9 hS => ?_)
  have hF := op_setPattern hR (xs (nI (6 * t) + 1).toNatClampNeg) (xs (nI (6 * t) + 2).toNatClampNeg)
  obtain ⟨σ1, o1, a1, hk, hW, hR1, ho⟩ := opx (w := fun r => r.toInt64) hF (fun _ _ h => h.1) hq hB
  have hth := hF.2.1
  rw [ht9] at hW
  refine lv_istore (lv' := [(5, .int k), (4, .int (nI (6 * t))), (0, .ref b), (1, .ref (gA g 0)), (2, .ref (gA g 4)), (3, .ref (gA g 12))]) hx hb dL_law_493 hl (by decide) rfl (fun ls hl => ?_)
  refine lv_aload_n hx hb dL_law_495 rfl (lv_at hl 4 rfl) ?_
  refine lv_aload_n hx hb dL_law_496 rfl (lv_at hl 2 rfl) ?_
  refine lv_iload hx hb dL_law_497 (lv_at hl 1 rfl) ?_
  refine lv_iconst (v := 1) hx hb dL_law_499 (by decide) ?_
  refine lv_iadd hx hb dL_law_500 ?_
  refine va_sld hx hb hX hbl hbA hS (s_in (k := 1) ht hL (by decide)) dL_law_501 ?_
  refine lv_aload_n hx hb dL_law_502 rfl (lv_at hl 2 rfl) ?_
  refine lv_iload hx hb dL_law_503 (lv_at hl 1 rfl) ?_
  refine lv_iconst (v := 2) hx hb dL_law_505 (by decide) ?_
  refine lv_iadd hx hb dL_law_506 ?_
  refine va_sld hx hb hX hbl hbA hS (s_in (k := 2) ht hL (by decide)) dL_law_507 ?_
  refine va_calli (va_runV (As := [.int ((xs (nI (6 * t) + 1).toNatClampNeg)), .int ((xs (nI (6 * t) + 2).toNatClampNeg))]) (rest := []) ⟨hx, hb, hml, hown, htsW⟩ (mtX3_setPattern l g σ1 μ o1 (xs (nI (6 * t) + 1).toNatClampNeg) (xs (nI (6 * t) + 2).toNatClampNeg) a hM ha) (cwV 2 htsW gL_law_X3_setPattern rfl rfl rfl (by decide +kernel) ⟨Nat.le_of_ble_eq_true rfl, Nat.le_of_ble_eq_true rfl⟩) ⟨PW.blind, rcM hC hW, fun U hU hW9 => ⟨rfl, PW.at hC hS hW U hU hW9⟩⟩ rfl rfl hl.1 rfl (lv_room (Nat.le_of_ble_eq_true rfl)) dL_law_508 ⟨show 29 + 4 * t + 2 + 0 ≤ 638081 by omega, show 611 + 24 * t + 12 + 0 ≤ 7181861 by omega⟩) hS (fun _ _ h => h) (fun _ h => h) (fun r2 u2 t8 H locs ht8 hvm2 h2 hW hz8 hk8 hS => ?_)
  replace hW : Wd g σ1 (paM μ (xs (nI (6 * t) + 1).toNatClampNeg) (xs (nI (6 * t) + 2).toNatClampNeg)) o1 H := by rw [← ht8]; exact hW
  replace h2 : r2 = paR μ a (xs (nI (6 * t) + 1).toNatClampNeg) (xs (nI (6 * t) + 2).toNatClampNeg) := h2
  refine lv_istore (lv' := [(6, .int r2), (5, .int k), (4, .int (nI (6 * t))), (0, .ref b), (1, .ref (gA g 0)), (2, .ref (gA g 4)), (3, .ref (gA g 12))]) hx hb dL_law_511 hl (by decide) rfl (fun ls hl => ?_)
  refine lv_aload_n hx hb dL_law_513 rfl (lv_at hl 5 rfl) ?_
  refine vp_callSi (va_Run.run (va_runV (As := []) (rest := []) ⟨hx, hb, hml, hown, htsW⟩ (mtX3_thrown l g σ1 ((paM μ (xs (nI (6 * t) + 1).toNatClampNeg) (xs (nI (6 * t) + 2).toNatClampNeg))) o1 ) (cwV 0 htsW gL_law_X3_thrown rfl rfl rfl (by decide +kernel) ⟨Nat.le_of_ble_eq_true rfl, Nat.le_of_ble_eq_true rfl⟩) ⟨PW.blind, rcM hC hW, fun U hU hW9 => ⟨rfl, PW.at hC hS hW U hU hW9⟩⟩ rfl rfl hl.1 rfl (lv_room (Nat.le_of_ble_eq_true rfl)) dL_law_514 ⟨show 29 + 4 * t + 2 + 0 + 0 ≤ 638081 by omega, show 611 + 24 * t + 12 + 0 + 0 ≤ 7181861 by omega⟩)) (fun r1 h1 => ?_)
  replace h1 : r1 = ((paM μ (xs (nI (6 * t) + 1).toNatClampNeg) (xs (nI (6 * t) + 2).toNatClampNeg))).1 12 := h1
  refine lv_iload hx hb dL_law_517 (lv_at hl 1 rfl) ?_
  refine lv_icmp_eq (tgt := 524) hx hb dL_law_519 (by decide) (fun c1 => ?_) (fun c1 => ?_)
  rotate_left
  · exact absurd (h1.trans (hth.trans hk.symm)) c1
  refine lv_iload hx hb dL_law_524 (lv_at hl 1 rfl) ?_
  refine lv_if_ne (tgt := 541) hx hb dL_law_526 (by decide) (fun c2 => ?_) (fun c2 => ?_)
  · skip
    refine lv_goto (tgt := 1100) hx hb dL_law_541 (by decide) ?_
    refine lv_iinc (v := nI (6 * (t + 1))) (lv' := [(4, .int (nI (6 * (t + 1)))), (6, .int r2), (5, .int k), (0, .ref b), (1, .ref (gA g 0)), (2, .ref (gA g 4)), (3, .ref (gA g 12))]) hx hb dL_law_1100 hl (k := 2) rfl (s_nx t) (by decide) rfl (fun ls hl => ?_)
    refine lv_goto (tgt := 23) hx hb dL_law_1103 (by decide) ?_
    refine W.widen (k := CC (t + 1)) (n := SS (t + 1)) (by unfold CC; omega) (by unfold SS; omega) ?_
    exact hn a1 σ1 (paM μ (xs (nI (6 * t) + 1).toNatClampNeg) (xs (nI (6 * t) + 2).toNatClampNeg)) o1 H locs ls hR1 hW hS (by exact lv_sub hl [0, 3, 4, 5, 6] rfl)
  · skip
    refine lv_aload_n hx hb dL_law_529 rfl (lv_at hl 6 rfl) ?_
    refine lv_iconst (v := 0) hx hb dL_law_530 (by decide) ?_
    refine oLd hx hb hC hW dL_law_531 ?_
    refine lv_iload hx hb dL_law_532 (lv_at hl 0 rfl) ?_
    refine lv_i2l hx hb dL_law_534 rfl ?_
    refine W.lcmp hx hb dL_law_535 ?_
    refine lv_if_eq (tgt := 541) hx hb dL_law_536 (by decide) (fun c3 => ?_) (fun c3 => absurd (by rw [ho c2, h2]; exact cmp_eq _) c3)
    refine lv_goto (tgt := 1100) hx hb dL_law_541 (by decide) ?_
    refine lv_iinc (v := nI (6 * (t + 1))) (lv' := [(4, .int (nI (6 * (t + 1)))), (6, .int r2), (5, .int k), (0, .ref b), (1, .ref (gA g 0)), (2, .ref (gA g 4)), (3, .ref (gA g 12))]) hx hb dL_law_1100 hl (k := 2) rfl (s_nx t) (by decide) rfl (fun ls hl => ?_)
    refine lv_goto (tgt := 23) hx hb dL_law_1103 (by decide) ?_
    refine W.widen (k := CC (t + 1)) (n := SS (t + 1)) (by unfold CC; omega) (by unfold SS; omega) ?_
    exact hn a1 σ1 (paM μ (xs (nI (6 * t) + 1).toNatClampNeg) (xs (nI (6 * t) + 2).toNatClampNeg)) o1 H locs ls hR1 hW hS (by exact lv_sub hl [0, 3, 4, 5, 6] rfl)

set_option maxHeartbeats 1000000 in
set_option maxRecDepth 100000 in
theorem law_start {p : Program} {l : Launch} {e : Env} {s : State} {m : MethodId} {below : List Frame} {meth : Method} {c : Code} {b L : Nat} {xs : Nat → Int32} {g : Ge} (C0 : lwC l p s m meth c b L xs g) {t : Nat} (ht : 6 * t + 6 ≤ L) (hn : lwG p l e s m below meth c b g (t + 1) 23) : lwG p l e s m below meth c b g t 544 := by
  obtain ⟨⟨hx, hb, hr, hml, hown, hts, hX, hbl, hlocks, hgv⟩, hC, hz, hfl, hL⟩ := C0
  intro a σ μ o H locs ls hR hW hS hl
  have htsW : ∀ w ∈ wsL_law, w.before #[Value.ref b] s = true := fun w h => hts w (wsL_law_in w h)
  have hbA : ¬ Az g b := fun h => by unfold Az at h; rw [hz] at h; exact absurd hbl (by omega)
  have hM := hR.M
  have ha := hR.ha
  unfold CC SS
  have hl : lv_has ls 7 [(4, .int (nI (6 * t))), (0, .ref b), (1, .ref (gA g 0)), (2, .ref (gA g 4)), (3, .ref (gA g 12))] := hl
  refine lv_aload_n hx hb dL_law_544 rfl (lv_at hl 2 rfl) ?_
  refine lv_aload_n hx hb dL_law_545 rfl (lv_at hl 4 rfl) ?_
  refine va_calli (vx_runSW (As := [.ref (gA g 0), .ref (gA g 12)]) (rest := []) ⟨hx, hb, hml, hown, htsW⟩ (mtL_start l g σ μ o hfl ) (vx_cwSW 2 htsW gL_law_L_start rfl rfl rfl (by decide +kernel) ⟨Nat.le_of_ble_eq_true rfl, Nat.le_of_ble_eq_true rfl⟩) ⟨PW.blind, fun U hU hW9 => ⟨rfl, PW.at hC hS hW U hU hW9⟩⟩ rfl rfl hl.1 rfl (lv_room (Nat.le_of_ble_eq_true rfl)) dL_law_546 ⟨show 29 + 4 * t + 1 ≤ 638081 by omega, show 611 + 24 * t + 6 ≤ 7181861 by omega⟩) hS (fun _ _ h => h) (fun _ h => h) (fun k y t9 H locs ht9 hvm hq hB hz9 hk9 hS => ?_)
  have hF := op_start hR 
  obtain ⟨σ1, o1, a1, hk, hW, hR1, ho⟩ := opx (w := fun r => r.toInt64) hF (fun _ _ h => h.1) hq hB
  have hth := hF.2.1
  rw [ht9] at hW
  refine lv_istore (lv' := [(5, .int k), (4, .int (nI (6 * t))), (0, .ref b), (1, .ref (gA g 0)), (2, .ref (gA g 4)), (3, .ref (gA g 12))]) hx hb dL_law_549 hl (by decide) rfl (fun ls hl => ?_)
  refine lv_aload_n hx hb dL_law_551 rfl (lv_at hl 4 rfl) ?_
  refine va_calli (va_runV (As := []) (rest := []) ⟨hx, hb, hml, hown, htsW⟩ (mtX3_start l g σ1 μ o1 a hM ha) (cwV 0 htsW gL_law_X3_start rfl rfl rfl (by decide +kernel) ⟨Nat.le_of_ble_eq_true rfl, Nat.le_of_ble_eq_true rfl⟩) ⟨PW.blind, rcM hC hW, fun U hU hW9 => ⟨rfl, PW.at hC hS hW U hU hW9⟩⟩ rfl rfl hl.1 rfl (lv_room (Nat.le_of_ble_eq_true rfl)) dL_law_552 ⟨show 29 + 4 * t + 1 + 0 ≤ 638081 by omega, show 611 + 24 * t + 6 + 0 ≤ 7181861 by omega⟩) hS (fun _ _ h => h) (fun _ h => h) (fun r2 u2 t8 H locs ht8 hvm2 h2 hW hz8 hk8 hS => ?_)
  replace hW : Wd g σ1 (stM μ a) o1 H := by rw [← ht8]; exact hW
  replace h2 : r2 = stR μ a := h2
  refine lv_istore (lv' := [(6, .int r2), (5, .int k), (4, .int (nI (6 * t))), (0, .ref b), (1, .ref (gA g 0)), (2, .ref (gA g 4)), (3, .ref (gA g 12))]) hx hb dL_law_555 hl (by decide) rfl (fun ls hl => ?_)
  refine lv_aload_n hx hb dL_law_557 rfl (lv_at hl 5 rfl) ?_
  refine vp_callSi (va_Run.run (va_runV (As := []) (rest := []) ⟨hx, hb, hml, hown, htsW⟩ (mtX3_thrown l g σ1 ((stM μ a)) o1 ) (cwV 0 htsW gL_law_X3_thrown rfl rfl rfl (by decide +kernel) ⟨Nat.le_of_ble_eq_true rfl, Nat.le_of_ble_eq_true rfl⟩) ⟨PW.blind, rcM hC hW, fun U hU hW9 => ⟨rfl, PW.at hC hS hW U hU hW9⟩⟩ rfl rfl hl.1 rfl (lv_room (Nat.le_of_ble_eq_true rfl)) dL_law_558 ⟨show 29 + 4 * t + 1 + 0 + 0 ≤ 638081 by omega, show 611 + 24 * t + 6 + 0 + 0 ≤ 7181861 by omega⟩)) (fun r1 h1 => ?_)
  replace h1 : r1 = ((stM μ a)).1 12 := h1
  refine lv_iload hx hb dL_law_561 (lv_at hl 1 rfl) ?_
  refine lv_icmp_eq (tgt := 568) hx hb dL_law_563 (by decide) (fun c1 => ?_) (fun c1 => ?_)
  rotate_left
  · exact absurd (h1.trans (hth.trans hk.symm)) c1
  refine lv_iload hx hb dL_law_568 (lv_at hl 1 rfl) ?_
  refine lv_if_ne (tgt := 585) hx hb dL_law_570 (by decide) (fun c2 => ?_) (fun c2 => ?_)
  · skip
    refine lv_goto (tgt := 1100) hx hb dL_law_585 (by decide) ?_
    refine lv_iinc (v := nI (6 * (t + 1))) (lv' := [(4, .int (nI (6 * (t + 1)))), (6, .int r2), (5, .int k), (0, .ref b), (1, .ref (gA g 0)), (2, .ref (gA g 4)), (3, .ref (gA g 12))]) hx hb dL_law_1100 hl (k := 2) rfl (s_nx t) (by decide) rfl (fun ls hl => ?_)
    refine lv_goto (tgt := 23) hx hb dL_law_1103 (by decide) ?_
    refine W.widen (k := CC (t + 1)) (n := SS (t + 1)) (by unfold CC; omega) (by unfold SS; omega) ?_
    exact hn a1 σ1 (stM μ a) o1 H locs ls hR1 hW hS (by exact lv_sub hl [0, 3, 4, 5, 6] rfl)
  · skip
    refine lv_aload_n hx hb dL_law_573 rfl (lv_at hl 6 rfl) ?_
    refine lv_iconst (v := 0) hx hb dL_law_574 (by decide) ?_
    refine oLd hx hb hC hW dL_law_575 ?_
    refine lv_iload hx hb dL_law_576 (lv_at hl 0 rfl) ?_
    refine lv_i2l hx hb dL_law_578 rfl ?_
    refine W.lcmp hx hb dL_law_579 ?_
    refine lv_if_eq (tgt := 585) hx hb dL_law_580 (by decide) (fun c3 => ?_) (fun c3 => absurd (by rw [ho c2, h2]; exact cmp_eq _) c3)
    refine lv_goto (tgt := 1100) hx hb dL_law_585 (by decide) ?_
    refine lv_iinc (v := nI (6 * (t + 1))) (lv' := [(4, .int (nI (6 * (t + 1)))), (6, .int r2), (5, .int k), (0, .ref b), (1, .ref (gA g 0)), (2, .ref (gA g 4)), (3, .ref (gA g 12))]) hx hb dL_law_1100 hl (k := 2) rfl (s_nx t) (by decide) rfl (fun ls hl => ?_)
    refine lv_goto (tgt := 23) hx hb dL_law_1103 (by decide) ?_
    refine W.widen (k := CC (t + 1)) (n := SS (t + 1)) (by unfold CC; omega) (by unfold SS; omega) ?_
    exact hn a1 σ1 (stM μ a) o1 H locs ls hR1 hW hS (by exact lv_sub hl [0, 3, 4, 5, 6] rfl)

set_option maxHeartbeats 1000000 in
set_option maxRecDepth 100000 in
theorem law_good {p : Program} {l : Launch} {e : Env} {s : State} {m : MethodId} {below : List Frame} {meth : Method} {c : Code} {b L : Nat} {xs : Nat → Int32} {g : Ge} (C0 : lwC l p s m meth c b L xs g) {t : Nat} (ht : 6 * t + 6 ≤ L) (hn : lwG p l e s m below meth c b g (t + 1) 23) : lwG p l e s m below meth c b g t 588 := by
  obtain ⟨⟨hx, hb, hr, hml, hown, hts, hX, hbl, hlocks, hgv⟩, hC, hz, hfl, hL⟩ := C0
  intro a σ μ o H locs ls hR hW hS hl
  have htsW : ∀ w ∈ wsL_law, w.before #[Value.ref b] s = true := fun w h => hts w (wsL_law_in w h)
  have hbA : ¬ Az g b := fun h => by unfold Az at h; rw [hz] at h; exact absurd hbl (by omega)
  have hM := hR.M
  have ha := hR.ha
  unfold CC SS
  have hl : lv_has ls 7 [(4, .int (nI (6 * t))), (0, .ref b), (1, .ref (gA g 0)), (2, .ref (gA g 4)), (3, .ref (gA g 12))] := hl
  refine lv_aload_n hx hb dL_law_588 rfl (lv_at hl 2 rfl) ?_
  refine lv_aload_n hx hb dL_law_589 rfl (lv_at hl 4 rfl) ?_
  refine va_calli (vx_runSW (As := [.ref (gA g 0), .ref (gA g 12)]) (rest := []) ⟨hx, hb, hml, hown, htsW⟩ (mtL_good l g σ μ o hfl ) (vx_cwSW 2 htsW gL_law_L_good rfl rfl rfl (by decide +kernel) ⟨Nat.le_of_ble_eq_true rfl, Nat.le_of_ble_eq_true rfl⟩) ⟨PW.blind, fun U hU hW9 => ⟨rfl, PW.at hC hS hW U hU hW9⟩⟩ rfl rfl hl.1 rfl (lv_room (Nat.le_of_ble_eq_true rfl)) dL_law_590 ⟨show 29 + 4 * t + 1 ≤ 638081 by omega, show 611 + 24 * t + 6 ≤ 7181861 by omega⟩) hS (fun _ _ h => h) (fun _ h => h) (fun k y t9 H locs ht9 hvm hq hB hz9 hk9 hS => ?_)
  have hF := op_good hR 
  obtain ⟨σ1, o1, a1, hk, hW, hR1, ho⟩ := opx (w := fun r => r.toInt64) hF (fun _ _ h => h.1) hq hB
  have hth := hF.2.1
  rw [ht9] at hW
  refine lv_istore (lv' := [(5, .int k), (4, .int (nI (6 * t))), (0, .ref b), (1, .ref (gA g 0)), (2, .ref (gA g 4)), (3, .ref (gA g 12))]) hx hb dL_law_593 hl (by decide) rfl (fun ls hl => ?_)
  refine lv_aload_n hx hb dL_law_595 rfl (lv_at hl 4 rfl) ?_
  refine va_calli (va_runV (As := []) (rest := []) ⟨hx, hb, hml, hown, htsW⟩ (mtX3_good l g σ1 μ o1 (hrunL hR)) (cwV 0 htsW gL_law_X3_good rfl rfl rfl (by decide +kernel) ⟨Nat.le_of_ble_eq_true rfl, Nat.le_of_ble_eq_true rfl⟩) ⟨PW.blind, rcM hC hW, fun U hU hW9 => ⟨rfl, PW.at hC hS hW U hU hW9⟩⟩ rfl rfl hl.1 rfl (lv_room (Nat.le_of_ble_eq_true rfl)) dL_law_596 ⟨show 29 + 4 * t + 1 + 0 ≤ 638081 by omega, show 611 + 24 * t + 6 + 0 ≤ 7181861 by omega⟩) hS (fun _ _ h => h) (fun _ h => h) (fun r2 u2 t8 H locs ht8 hvm2 h2 hW hz8 hk8 hS => ?_)
  replace hW : Wd g σ1 (goM μ) o1 H := by rw [← ht8]; exact hW
  replace h2 : r2 = goMR μ := h2
  refine lv_istore (lv' := [(6, .int r2), (5, .int k), (4, .int (nI (6 * t))), (0, .ref b), (1, .ref (gA g 0)), (2, .ref (gA g 4)), (3, .ref (gA g 12))]) hx hb dL_law_599 hl (by decide) rfl (fun ls hl => ?_)
  refine lv_aload_n hx hb dL_law_601 rfl (lv_at hl 5 rfl) ?_
  refine vp_callSi (va_Run.run (va_runV (As := []) (rest := []) ⟨hx, hb, hml, hown, htsW⟩ (mtX3_thrown l g σ1 ((goM μ)) o1 ) (cwV 0 htsW gL_law_X3_thrown rfl rfl rfl (by decide +kernel) ⟨Nat.le_of_ble_eq_true rfl, Nat.le_of_ble_eq_true rfl⟩) ⟨PW.blind, rcM hC hW, fun U hU hW9 => ⟨rfl, PW.at hC hS hW U hU hW9⟩⟩ rfl rfl hl.1 rfl (lv_room (Nat.le_of_ble_eq_true rfl)) dL_law_602 ⟨show 29 + 4 * t + 1 + 0 + 0 ≤ 638081 by omega, show 611 + 24 * t + 6 + 0 + 0 ≤ 7181861 by omega⟩)) (fun r1 h1 => ?_)
  replace h1 : r1 = ((goM μ)).1 12 := h1
  refine lv_iload hx hb dL_law_605 (lv_at hl 1 rfl) ?_
  refine lv_icmp_eq (tgt := 612) hx hb dL_law_607 (by decide) (fun c1 => ?_) (fun c1 => ?_)
  rotate_left
  · exact absurd (h1.trans (hth.trans hk.symm)) c1
  refine lv_iload hx hb dL_law_612 (lv_at hl 1 rfl) ?_
  refine lv_if_ne (tgt := 629) hx hb dL_law_614 (by decide) (fun c2 => ?_) (fun c2 => ?_)
  · skip
    refine lv_goto (tgt := 1100) hx hb dL_law_629 (by decide) ?_
    refine lv_iinc (v := nI (6 * (t + 1))) (lv' := [(4, .int (nI (6 * (t + 1)))), (6, .int r2), (5, .int k), (0, .ref b), (1, .ref (gA g 0)), (2, .ref (gA g 4)), (3, .ref (gA g 12))]) hx hb dL_law_1100 hl (k := 2) rfl (s_nx t) (by decide) rfl (fun ls hl => ?_)
    refine lv_goto (tgt := 23) hx hb dL_law_1103 (by decide) ?_
    refine W.widen (k := CC (t + 1)) (n := SS (t + 1)) (by unfold CC; omega) (by unfold SS; omega) ?_
    exact hn a1 σ1 (goM μ) o1 H locs ls hR1 hW hS (by exact lv_sub hl [0, 3, 4, 5, 6] rfl)
  · skip
    refine lv_aload_n hx hb dL_law_617 rfl (lv_at hl 6 rfl) ?_
    refine lv_iconst (v := 0) hx hb dL_law_618 (by decide) ?_
    refine oLd hx hb hC hW dL_law_619 ?_
    refine lv_iload hx hb dL_law_620 (lv_at hl 0 rfl) ?_
    refine lv_i2l hx hb dL_law_622 rfl ?_
    refine W.lcmp hx hb dL_law_623 ?_
    refine lv_if_eq (tgt := 629) hx hb dL_law_624 (by decide) (fun c3 => ?_) (fun c3 => absurd (by rw [ho c2, h2]; exact cmp_eq _) c3)
    refine lv_goto (tgt := 1100) hx hb dL_law_629 (by decide) ?_
    refine lv_iinc (v := nI (6 * (t + 1))) (lv' := [(4, .int (nI (6 * (t + 1)))), (6, .int r2), (5, .int k), (0, .ref b), (1, .ref (gA g 0)), (2, .ref (gA g 4)), (3, .ref (gA g 12))]) hx hb dL_law_1100 hl (k := 2) rfl (s_nx t) (by decide) rfl (fun ls hl => ?_)
    refine lv_goto (tgt := 23) hx hb dL_law_1103 (by decide) ?_
    refine W.widen (k := CC (t + 1)) (n := SS (t + 1)) (by unfold CC; omega) (by unfold SS; omega) ?_
    exact hn a1 σ1 (goM μ) o1 H locs ls hR1 hW hS (by exact lv_sub hl [0, 3, 4, 5, 6] rfl)

set_option maxHeartbeats 1000000 in
set_option maxRecDepth 100000 in
theorem law_running {p : Program} {l : Launch} {e : Env} {s : State} {m : MethodId} {below : List Frame} {meth : Method} {c : Code} {b L : Nat} {xs : Nat → Int32} {g : Ge} (C0 : lwC l p s m meth c b L xs g) {t : Nat} (ht : 6 * t + 6 ≤ L) (hn : lwG p l e s m below meth c b g (t + 1) 23) : lwG p l e s m below meth c b g t 632 := by
  obtain ⟨⟨hx, hb, hr, hml, hown, hts, hX, hbl, hlocks, hgv⟩, hC, hz, hfl, hL⟩ := C0
  intro a σ μ o H locs ls hR hW hS hl
  have htsW : ∀ w ∈ wsL_law, w.before #[Value.ref b] s = true := fun w h => hts w (wsL_law_in w h)
  have hbA : ¬ Az g b := fun h => by unfold Az at h; rw [hz] at h; exact absurd hbl (by omega)
  have hM := hR.M
  have ha := hR.ha
  unfold CC SS
  have hl : lv_has ls 7 [(4, .int (nI (6 * t))), (0, .ref b), (1, .ref (gA g 0)), (2, .ref (gA g 4)), (3, .ref (gA g 12))] := hl
  refine lv_aload_n hx hb dL_law_632 rfl (lv_at hl 2 rfl) ?_
  refine vp_callSi (va_Run.run (va_runV (As := []) (rest := []) ⟨hx, hb, hml, hown, htsW⟩ (mtX2_running l g σ μ o ) (cwV 0 htsW gL_law_X2_running rfl rfl rfl (by decide +kernel) ⟨Nat.le_of_ble_eq_true rfl, Nat.le_of_ble_eq_true rfl⟩) ⟨PW.blind, rcB hC hW, fun U hU hW9 => ⟨rfl, PW.at hC hS hW U hU hW9⟩⟩ rfl rfl hl.1 rfl (lv_room (Nat.le_of_ble_eq_true rfl)) dL_law_633 ⟨show 29 + 4 * t + 0 + 0 + 0 ≤ 638081 by omega, show 611 + 24 * t + 0 + 0 + 0 ≤ 7181861 by omega⟩)) (fun r1 h1 => ?_)
  replace h1 : r1 = σ.1 5 := h1
  refine lv_aload_n hx hb dL_law_636 rfl (lv_at hl 3 rfl) ?_
  refine va_calli (va_runV (As := []) (rest := [.int r1]) ⟨hx, hb, hml, hown, htsW⟩ (mtX3_running l g σ μ o ) (cwV 0 htsW gL_law_X3_running rfl rfl rfl (by decide +kernel) ⟨Nat.le_of_ble_eq_true rfl, Nat.le_of_ble_eq_true rfl⟩) ⟨PW.blind, rcM hC hW, fun U hU hW9 => ⟨rfl, PW.at hC hS hW U hU hW9⟩⟩ rfl rfl hl.1 rfl (lv_room (Nat.le_of_ble_eq_true rfl)) dL_law_637 ⟨show 29 + 4 * t + 0 + 0 ≤ 638081 by omega, show 611 + 24 * t + 0 + 0 ≤ 7181861 by omega⟩) hS (fun _ _ h => h) (fun _ h => h) (fun r2 u2 t8 H locs ht8 hvm2 h2 hW hz8 hk8 hS => ?_)
  replace hW : Wd g σ (thr12 μ 0) o H := by rw [← ht8]; exact hW
  replace h2 : r2 = μ.1 5 := h2
  refine lv_icmp_eq (tgt := 1100) hx hb dL_law_640 (by decide) (fun c1 => ?_) (fun c1 => ?_)
  rotate_left
  · exact absurd (h1.trans ((hR.2.2.1.2.2.2.2.1).trans h2.symm)) c1
  refine lv_iinc (v := nI (6 * (t + 1))) (lv' := [(4, .int (nI (6 * (t + 1)))), (0, .ref b), (1, .ref (gA g 0)), (2, .ref (gA g 4)), (3, .ref (gA g 12))]) hx hb dL_law_1100 hl (k := 0) rfl (s_nx t) (by decide) rfl (fun ls hl => ?_)
  refine lv_goto (tgt := 23) hx hb dL_law_1103 (by decide) ?_
  refine W.widen (k := CC (t + 1)) (n := SS (t + 1)) (by unfold CC; omega) (by unfold SS; omega) ?_
  exact hn a σ (thr12 μ 0) o H locs ls (hR.thr 0) hW hS (by exact lv_sub hl [0, 1, 2, 3, 4] rfl)

set_option maxHeartbeats 1000000 in
set_option maxRecDepth 100000 in
theorem law_next {p : Program} {l : Launch} {e : Env} {s : State} {m : MethodId} {below : List Frame} {meth : Method} {c : Code} {b L : Nat} {xs : Nat → Int32} {g : Ge} (C0 : lwC l p s m meth c b L xs g) {t : Nat} (ht : 6 * t + 6 ≤ L) (hn : lwG p l e s m below meth c b g (t + 1) 23) : lwG p l e s m below meth c b g t 645 := by
  obtain ⟨⟨hx, hb, hr, hml, hown, hts, hX, hbl, hlocks, hgv⟩, hC, hz, hfl, hL⟩ := C0
  intro a σ μ o H locs ls hR hW hS hl
  have htsW : ∀ w ∈ wsL_law, w.before #[Value.ref b] s = true := fun w h => hts w (wsL_law_in w h)
  have hbA : ¬ Az g b := fun h => by unfold Az at h; rw [hz] at h; exact absurd hbl (by omega)
  have hM := hR.M
  have ha := hR.ha
  unfold CC SS
  have hl : lv_has ls 7 [(4, .int (nI (6 * t))), (0, .ref b), (1, .ref (gA g 0)), (2, .ref (gA g 4)), (3, .ref (gA g 12))] := hl
  refine lv_aload_n hx hb dL_law_645 rfl (lv_at hl 2 rfl) ?_
  refine vp_callSi (va_Run.run (va_runV (As := []) (rest := []) ⟨hx, hb, hml, hown, htsW⟩ (mtX2_next l g σ μ o ) (cwV 0 htsW gL_law_X2_next rfl rfl rfl (by decide +kernel) ⟨Nat.le_of_ble_eq_true rfl, Nat.le_of_ble_eq_true rfl⟩) ⟨PW.blind, rcB hC hW, fun U hU hW9 => ⟨rfl, PW.at hC hS hW U hU hW9⟩⟩ rfl rfl hl.1 rfl (lv_room (Nat.le_of_ble_eq_true rfl)) dL_law_646 ⟨show 29 + 4 * t + 0 + 0 + 0 ≤ 638081 by omega, show 611 + 24 * t + 0 + 0 + 0 ≤ 7181861 by omega⟩)) (fun r1 h1 => ?_)
  replace h1 : r1 = nxR σ := h1
  refine lv_aload_n hx hb dL_law_649 rfl (lv_at hl 3 rfl) ?_
  refine va_calli (va_runV (As := []) (rest := [.int r1]) ⟨hx, hb, hml, hown, htsW⟩ (mtX3_next l g σ μ o a hM ha) (cwV 0 htsW gL_law_X3_next rfl rfl rfl (by decide +kernel) ⟨Nat.le_of_ble_eq_true rfl, Nat.le_of_ble_eq_true rfl⟩) ⟨PW.blind, rcM hC hW, fun U hU hW9 => ⟨rfl, PW.at hC hS hW U hU hW9⟩⟩ rfl rfl hl.1 rfl (lv_room (Nat.le_of_ble_eq_true rfl)) dL_law_650 ⟨show 29 + 4 * t + 0 + 0 ≤ 638081 by omega, show 611 + 24 * t + 0 + 0 ≤ 7181861 by omega⟩) hS (fun _ _ h => h) (fun _ h => h) (fun r2 u2 t8 H locs ht8 hvm2 h2 hW hz8 hk8 hS => ?_)
  replace hW : Wd g σ (thr12 μ 0) o H := by rw [← ht8]; exact hW
  replace h2 : r2 = chM μ a := h2
  refine lv_icmp_eq (tgt := 1100) hx hb dL_law_653 (by decide) (fun c1 => ?_) (fun c1 => ?_)
  rotate_left
  · exact absurd (h1.trans ((next_M hR).trans h2.symm)) c1
  refine lv_iinc (v := nI (6 * (t + 1))) (lv' := [(4, .int (nI (6 * (t + 1)))), (0, .ref b), (1, .ref (gA g 0)), (2, .ref (gA g 4)), (3, .ref (gA g 12))]) hx hb dL_law_1100 hl (k := 0) rfl (s_nx t) (by decide) rfl (fun ls hl => ?_)
  refine lv_goto (tgt := 23) hx hb dL_law_1103 (by decide) ?_
  refine W.widen (k := CC (t + 1)) (n := SS (t + 1)) (by unfold CC; omega) (by unfold SS; omega) ?_
  exact hn a σ (thr12 μ 0) o H locs ls (hR.thr 0) hW hS (by exact lv_sub hl [0, 1, 2, 3, 4] rfl)
