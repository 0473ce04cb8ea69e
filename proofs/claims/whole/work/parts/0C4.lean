set_option maxHeartbeats 1000000 in
set_option maxRecDepth 100000 in
theorem law_lock {p : Program} {l : Launch} {e : Env} {s : State} {m : MethodId} {below : List Frame} {meth : Method} {c : Code} {b L : Nat} {xs : Nat → Int32} {g : Ge} (C0 : lwC l p s m meth c b L xs g) {t : Nat} (ht : 6 * t + 6 ≤ L) (hn : lwG p l e s m below meth c b g (t + 1) 23) : lwG p l e s m below meth c b g t 658 := by
  obtain ⟨⟨hx, hb, hr, hml, hown, hts, hX, hbl, hlocks, hgv⟩, hC, hz, hfl, hL⟩ := C0
  intro a σ μ o H locs ls hR hW hS hl
  have htsW : ∀ w ∈ wsL_law, w.before #[Value.ref b] s = true := fun w h => hts w (wsL_law_in w h)
  have hbA : ¬ Az g b := fun h => by unfold Az at h; rw [hz] at h; exact absurd hbl (by omega)
  have hM := hR.M
  have ha := hR.ha
  unfold CC SS
  have hl : lv_has ls 7 [(4, .int (nI (6 * t))), (0, .ref b), (1, .ref (gA g 0)), (2, .ref (gA g 4)), (3, .ref (gA g 12))] := hl
  refine lv_aload_n hx hb dL_law_658 rfl (lv_at hl 2 rfl) ?_
  refine lv_aload_n hx hb dL_law_659 rfl (lv_at hl 1 rfl) ?_
  refine lv_iload hx hb dL_law_660 (lv_at hl 0 rfl) ?_
  refine lv_iconst (v := 1) hx hb dL_law_662 (by decide) ?_
  refine lv_iadd hx hb dL_law_663 ?_
  refine va_sld hx hb hX hbl hbA hS (s_in (k := 1) ht hL (by decide)) dL_law_664 ?_
  refine lv_aload_n hx hb dL_law_665 rfl (lv_at hl 1 rfl) ?_
  refine lv_iload hx hb dL_law_666 (lv_at hl 0 rfl) ?_
  refine lv_iconst (v := 2) hx hb dL_law_668 (by decide) ?_
  refine lv_iadd hx hb dL_law_669 ?_
  refine va_sld hx hb hX hbl hbA hS (s_in (k := 2) ht hL (by decide)) dL_law_670 ?_
  refine va_calli (vx_runSW (As := [.ref (gA g 0), .int ((xs (nI (6 * t) + 1).toNatClampNeg)), .int ((xs (nI (6 * t) + 2).toNatClampNeg))]) (rest := []) ⟨hx, hb, hml, hown, htsW⟩ (mtL_lock l g σ μ o hfl (xs (nI (6 * t) + 1).toNatClampNeg) (xs (nI (6 * t) + 2).toNatClampNeg)) (vx_cwSW 3 htsW gL_law_L_lock rfl rfl rfl (by decide +kernel) ⟨Nat.le_of_ble_eq_true rfl, Nat.le_of_ble_eq_true rfl⟩) ⟨PW.blind, fun U hU hW9 => ⟨rfl, PW.at hC hS hW U hU hW9⟩⟩ rfl rfl hl.1 rfl (lv_room (Nat.le_of_ble_eq_true rfl)) dL_law_671 ⟨show 29 + 4 * t + 2 ≤ 638081 by omega, show 611 + 24 * t + 12 ≤ 7181861 by omega⟩) hS (fun _ _ h => h) (fun _ h => h) (fun k y t9 H locs ht9 hvm hq hB hz9 hk9 hS => ?_)
  obtain ⟨σ1, hk, hW, hR1⟩ := opL (op_lock hR (xs (nI (6 * t) + 1).toNatClampNeg) (xs (nI (6 * t) + 2).toNatClampNeg)) hq hB
  have hth := (op_lock hR (xs (nI (6 * t) + 1).toNatClampNeg) (xs (nI (6 * t) + 2).toNatClampNeg)).2.1
  rw [ht9] at hW
  refine lv_istore (lv' := [(5, .int k), (4, .int (nI (6 * t))), (0, .ref b), (1, .ref (gA g 0)), (2, .ref (gA g 4)), (3, .ref (gA g 12))]) hx hb dL_law_674 hl (by decide) rfl (fun ls hl => ?_)
  refine lv_aload_n hx hb dL_law_676 rfl (lv_at hl 4 rfl) ?_
  refine lv_aload_n hx hb dL_law_677 rfl (lv_at hl 2 rfl) ?_
  refine lv_iload hx hb dL_law_678 (lv_at hl 1 rfl) ?_
  refine lv_iconst (v := 1) hx hb dL_law_680 (by decide) ?_
  refine lv_iadd hx hb dL_law_681 ?_
  refine va_sld hx hb hX hbl hbA hS (s_in (k := 1) ht hL (by decide)) dL_law_682 ?_
  refine lv_aload_n hx hb dL_law_683 rfl (lv_at hl 2 rfl) ?_
  refine lv_iload hx hb dL_law_684 (lv_at hl 1 rfl) ?_
  refine lv_iconst (v := 2) hx hb dL_law_686 (by decide) ?_
  refine lv_iadd hx hb dL_law_687 ?_
  refine va_sld hx hb hX hbl hbA hS (s_in (k := 2) ht hL (by decide)) dL_law_688 ?_
  refine va_callv (va_runV (As := [.int ((xs (nI (6 * t) + 1).toNatClampNeg)), .int ((xs (nI (6 * t) + 2).toNatClampNeg))]) (rest := []) ⟨hx, hb, hml, hown, htsW⟩ (mtX3_lock l g σ1 μ o (xs (nI (6 * t) + 1).toNatClampNeg) (xs (nI (6 * t) + 2).toNatClampNeg)) (cwV 2 htsW gL_law_X3_lock rfl rfl rfl (by decide +kernel) ⟨Nat.le_of_ble_eq_true rfl, Nat.le_of_ble_eq_true rfl⟩) ⟨PW.blind, rcM hC hW, fun U hU hW9 => ⟨rfl, PW.at hC hS hW U hU hW9⟩⟩ rfl rfl hl.1 rfl (lv_room (Nat.le_of_ble_eq_true rfl)) dL_law_689 ⟨show 29 + 4 * t + 2 + 0 ≤ 638081 by omega, show 611 + 24 * t + 12 + 0 ≤ 7181861 by omega⟩) hS (fun _ _ h => h) (fun _ h => h) (fun u2 t8 H locs ht8 hvm2 h2 hW hz8 hk8 hS => ?_)
  replace hW : Wd g σ1 (loM μ (xs (nI (6 * t) + 1).toNatClampNeg) (xs (nI (6 * t) + 2).toNatClampNeg)) o H := by rw [← ht8]; exact hW
  refine lv_aload_n hx hb dL_law_692 rfl (lv_at hl 4 rfl) ?_
  refine vp_callSi (va_Run.run (va_runV (As := []) (rest := []) ⟨hx, hb, hml, hown, htsW⟩ (mtX3_thrown l g σ1 ((loM μ (xs (nI (6 * t) + 1).toNatClampNeg) (xs (nI (6 * t) + 2).toNatClampNeg))) o ) (cwV 0 htsW gL_law_X3_thrown rfl rfl rfl (by decide +kernel) ⟨Nat.le_of_ble_eq_true rfl, Nat.le_of_ble_eq_true rfl⟩) ⟨PW.blind, rcM hC hW, fun U hU hW9 => ⟨rfl, PW.at hC hS hW U hU hW9⟩⟩ rfl rfl hl.1 rfl (lv_room (Nat.le_of_ble_eq_true rfl)) dL_law_693 ⟨show 29 + 4 * t + 2 + 0 + 0 ≤ 638081 by omega, show 611 + 24 * t + 12 + 0 + 0 ≤ 7181861 by omega⟩)) (fun r1 h1 => ?_)
  replace h1 : r1 = ((loM μ (xs (nI (6 * t) + 1).toNatClampNeg) (xs (nI (6 * t) + 2).toNatClampNeg))).1 12 := h1
  refine lv_iload hx hb dL_law_696 (lv_at hl 0 rfl) ?_
  refine lv_icmp_eq (tgt := 703) hx hb dL_law_698 (by decide) (fun c1 => ?_) (fun c1 => ?_)
  rotate_left
  · exact absurd (h1.trans (hth.trans hk.symm)) c1
  refine lv_goto (tgt := 1100) hx hb dL_law_703 (by decide) ?_
  refine lv_iinc (v := nI (6 * (t + 1))) (lv' := [(4, .int (nI (6 * (t + 1)))), (5, .int k), (0, .ref b), (1, .ref (gA g 0)), (2, .ref (gA g 4)), (3, .ref (gA g 12))]) hx hb dL_law_1100 hl (k := 1) rfl (s_nx t) (by decide) rfl (fun ls hl => ?_)
  refine lv_goto (tgt := 23) hx hb dL_law_1103 (by decide) ?_
  refine W.widen (k := CC (t + 1)) (n := SS (t + 1)) (by unfold CC; omega) (by unfold SS; omega) ?_
  exact hn a σ1 (loM μ (xs (nI (6 * t) + 1).toNatClampNeg) (xs (nI (6 * t) + 2).toNatClampNeg)) o H locs ls hR1 hW hS (by exact lv_sub hl [0, 2, 3, 4, 5] rfl)

set_option maxHeartbeats 1000000 in
set_option maxRecDepth 100000 in
theorem law_enter {p : Program} {l : Launch} {e : Env} {s : State} {m : MethodId} {below : List Frame} {meth : Method} {c : Code} {b L : Nat} {xs : Nat → Int32} {g : Ge} (C0 : lwC l p s m meth c b L xs g) {t : Nat} (ht : 6 * t + 6 ≤ L) (hn : lwG p l e s m below meth c b g (t + 1) 23) : lwG p l e s m below meth c b g t 706 := by
  obtain ⟨⟨hx, hb, hr, hml, hown, hts, hX, hbl, hlocks, hgv⟩, hC, hz, hfl, hL⟩ := C0
  intro a σ μ o H locs ls hR hW hS hl
  have htsW : ∀ w ∈ wsL_law, w.before #[Value.ref b] s = true := fun w h => hts w (wsL_law_in w h)
  have hbA : ¬ Az g b := fun h => by unfold Az at h; rw [hz] at h; exact absurd hbl (by omega)
  have hM := hR.M
  have ha := hR.ha
  unfold CC SS
  have hl : lv_has ls 7 [(4, .int (nI (6 * t))), (0, .ref b), (1, .ref (gA g 0)), (2, .ref (gA g 4)), (3, .ref (gA g 12))] := hl
  refine lv_aload_n hx hb dL_law_706 rfl (lv_at hl 2 rfl) ?_
  refine lv_aload_n hx hb dL_law_707 rfl (lv_at hl 1 rfl) ?_
  refine lv_iload hx hb dL_law_708 (lv_at hl 0 rfl) ?_
  refine lv_iconst (v := 1) hx hb dL_law_710 (by decide) ?_
  refine lv_iadd hx hb dL_law_711 ?_
  refine va_sld hx hb hX hbl hbA hS (s_in (k := 1) ht hL (by decide)) dL_law_712 ?_
  refine lv_aload_n hx hb dL_law_713 rfl (lv_at hl 4 rfl) ?_
  obtain ⟨k0, k01, cl, en, ⟨l1, l2, l3⟩, k2, k3, k4, k5, k6, k7⟩ := hR.2.2.2.1
  refine va_calli (vx_runSW (As := [.ref (gA g 0), .int ((xs (nI (6 * t) + 1).toNatClampNeg)), .ref (gA g 12)]) (rest := []) ⟨hx, hb, hml, hown, htsW⟩ (mtL_enter l g σ μ o hfl (xs (nI (6 * t) + 1).toNatClampNeg) en cl k4 k2 l3 (by omega)) (vx_cwSW 3 htsW gL_law_L_enter rfl rfl rfl (by decide +kernel) ⟨Nat.le_of_ble_eq_true rfl, Nat.le_of_ble_eq_true rfl⟩) ⟨PW.blind, fun U hU hW9 => ⟨rfl, PW.at hC hS hW U hU hW9⟩⟩ rfl rfl hl.1 rfl (lv_room (Nat.le_of_ble_eq_true rfl)) dL_law_714 ⟨show 29 + 4 * t + 2 ≤ 638081 by omega, show 611 + 24 * t + 12 ≤ 7181861 by omega⟩) hS (fun _ _ h => h) (fun _ h => h) (fun k y t9 H locs ht9 hvm hq hB hz9 hk9 hS => ?_)
  have hF := op_enter hR (xs (nI (6 * t) + 1).toNatClampNeg) ⟨l1, l2⟩ l3 k2 k3 k4 k5 k6 k7
  obtain ⟨σ1, o1, a1, hk, hW, hR1, ho⟩ := opx (w := bJ) hF (fun _ _ h => h.1) hq hB
  have hth := hF.2.1
  rw [ht9] at hW
  refine lv_istore (lv' := [(5, .int k), (4, .int (nI (6 * t))), (0, .ref b), (1, .ref (gA g 0)), (2, .ref (gA g 4)), (3, .ref (gA g 12))]) hx hb dL_law_717 hl (by decide) rfl (fun ls hl => ?_)
  refine lv_aload_n hx hb dL_law_719 rfl (lv_at hl 4 rfl) ?_
  refine lv_aload_n hx hb dL_law_720 rfl (lv_at hl 2 rfl) ?_
  refine lv_iload hx hb dL_law_721 (lv_at hl 1 rfl) ?_
  refine lv_iconst (v := 1) hx hb dL_law_723 (by decide) ?_
  refine lv_iadd hx hb dL_law_724 ?_
  refine va_sld hx hb hX hbl hbA hS (s_in (k := 1) ht hL (by decide)) dL_law_725 ?_
  refine va_calli (va_runV (As := [.int ((xs (nI (6 * t) + 1).toNatClampNeg))]) (rest := []) ⟨hx, hb, hml, hown, htsW⟩ (mtX3_enter l g σ1 μ o1 (xs (nI (6 * t) + 1).toNatClampNeg) (fun q => ⟨cl, l1, l2, (k3 q).1⟩)) (cwV 1 htsW gL_law_X3_enter rfl rfl rfl (by decide +kernel) ⟨Nat.le_of_ble_eq_true rfl, Nat.le_of_ble_eq_true rfl⟩) ⟨PW.blind, rcM hC hW, fun U hU hW9 => ⟨rfl, PW.at hC hS hW U hU hW9⟩⟩ rfl rfl hl.1 rfl (lv_room (Nat.le_of_ble_eq_true rfl)) dL_law_726 ⟨show 29 + 4 * t + 2 + 0 ≤ 638081 by omega, show 611 + 24 * t + 12 + 0 ≤ 7181861 by omega⟩) hS (fun _ _ h => h) (fun _ h => h) (fun r2 u2 t8 H locs ht8 hvm2 h2 hW hz8 hk8 hS => ?_)
  replace hW : Wd g σ1 (enM μ (xs (nI (6 * t) + 1).toNatClampNeg)) o1 H := by rw [← ht8]; exact hW
  replace h2 : r2 = enR μ (xs (nI (6 * t) + 1).toNatClampNeg) := h2
  refine lv_istore (lv' := [(6, .int r2), (5, .int k), (4, .int (nI (6 * t))), (0, .ref b), (1, .ref (gA g 0)), (2, .ref (gA g 4)), (3, .ref (gA g 12))]) hx hb dL_law_729 hl (by decide) rfl (fun ls hl => ?_)
  refine lv_aload_n hx hb dL_law_731 rfl (lv_at hl 5 rfl) ?_
  refine vp_callSi (va_Run.run (va_runV (As := []) (rest := []) ⟨hx, hb, hml, hown, htsW⟩ (mtX3_thrown l g σ1 ((enM μ (xs (nI (6 * t) + 1).toNatClampNeg))) o1 ) (cwV 0 htsW gL_law_X3_thrown rfl rfl rfl (by decide +kernel) ⟨Nat.le_of_ble_eq_true rfl, Nat.le_of_ble_eq_true rfl⟩) ⟨PW.blind, rcM hC hW, fun U hU hW9 => ⟨rfl, PW.at hC hS hW U hU hW9⟩⟩ rfl rfl hl.1 rfl (lv_room (Nat.le_of_ble_eq_true rfl)) dL_law_732 ⟨show 29 + 4 * t + 2 + 0 + 0 ≤ 638081 by omega, show 611 + 24 * t + 12 + 0 + 0 ≤ 7181861 by omega⟩)) (fun r1 h1 => ?_)
  replace h1 : r1 = ((enM μ (xs (nI (6 * t) + 1).toNatClampNeg))).1 12 := h1
  refine lv_iload hx hb dL_law_735 (lv_at hl 1 rfl) ?_
  refine lv_icmp_eq (tgt := 742) hx hb dL_law_737 (by decide) (fun c1 => ?_) (fun c1 => ?_)
  rotate_left
  · exact absurd (h1.trans (hth.trans hk.symm)) c1
  refine lv_iload hx hb dL_law_742 (lv_at hl 1 rfl) ?_
  refine lv_if_ne (tgt := 766) hx hb dL_law_744 (by decide) (fun c2 => ?_) (fun c2 => ?_)
  · skip
    refine lv_goto (tgt := 1100) hx hb dL_law_766 (by decide) ?_
    refine lv_iinc (v := nI (6 * (t + 1))) (lv' := [(4, .int (nI (6 * (t + 1)))), (6, .int r2), (5, .int k), (0, .ref b), (1, .ref (gA g 0)), (2, .ref (gA g 4)), (3, .ref (gA g 12))]) hx hb dL_law_1100 hl (k := 2) rfl (s_nx t) (by decide) rfl (fun ls hl => ?_)
    refine lv_goto (tgt := 23) hx hb dL_law_1103 (by decide) ?_
    refine W.widen (k := CC (t + 1)) (n := SS (t + 1)) (by unfold CC; omega) (by unfold SS; omega) ?_
    exact hn a1 σ1 (enM μ (xs (nI (6 * t) + 1).toNatClampNeg)) o1 H locs ls hR1 hW hS (by exact lv_sub hl [0, 3, 4, 5, 6] rfl)
  · skip
    refine lv_aload_n hx hb dL_law_747 rfl (lv_at hl 6 rfl) ?_
    refine lv_iconst (v := 0) hx hb dL_law_748 (by decide) ?_
    refine oLd hx hb hC hW dL_law_749 ?_
    refine lv_iload hx hb dL_law_750 (lv_at hl 0 rfl) ?_
    have hb2 : bJ (enR μ (xs (nI (6 * t) + 1).toNatClampNeg)) = if r2 = 0 then 0 else 1 := by rw [h2]; rfl
    refine lv_if_eq (tgt := 759) hx hb dL_law_752 (by decide) (fun c4 => ?_) (fun c4 => ?_)
    · skip
      rw [if_pos c4] at hb2
      refine lv_lconst (v := 0) hx hb dL_law_759 (by decide) ?_
      refine W.lcmp hx hb dL_law_760 ?_
      refine lv_if_eq (tgt := 766) hx hb dL_law_761 (by decide) (fun c3 => ?_) (fun c3 => absurd (by rw [ho c2, hb2]; exact cmp_eq _) c3)
      refine lv_goto (tgt := 1100) hx hb dL_law_766 (by decide) ?_
      refine lv_iinc (v := nI (6 * (t + 1))) (lv' := [(4, .int (nI (6 * (t + 1)))), (6, .int r2), (5, .int k), (0, .ref b), (1, .ref (gA g 0)), (2, .ref (gA g 4)), (3, .ref (gA g 12))]) hx hb dL_law_1100 hl (k := 2) rfl (s_nx t) (by decide) rfl (fun ls hl => ?_)
      refine lv_goto (tgt := 23) hx hb dL_law_1103 (by decide) ?_
      refine W.widen (k := CC (t + 1)) (n := SS (t + 1)) (by unfold CC; omega) (by unfold SS; omega) ?_
      exact hn a1 σ1 (enM μ (xs (nI (6 * t) + 1).toNatClampNeg)) o1 H locs ls hR1 hW hS (by exact lv_sub hl [0, 3, 4, 5, 6] rfl)
    · skip
      rw [if_neg c4] at hb2
      refine lv_lconst (v := 1) hx hb dL_law_755 (by decide) ?_
      refine lv_goto (tgt := 760) hx hb dL_law_756 (by decide) ?_
      refine W.lcmp hx hb dL_law_760 ?_
      refine lv_if_eq (tgt := 766) hx hb dL_law_761 (by decide) (fun c3 => ?_) (fun c3 => absurd (by rw [ho c2, hb2]; exact cmp_eq _) c3)
      refine lv_goto (tgt := 1100) hx hb dL_law_766 (by decide) ?_
      refine lv_iinc (v := nI (6 * (t + 1))) (lv' := [(4, .int (nI (6 * (t + 1)))), (6, .int r2), (5, .int k), (0, .ref b), (1, .ref (gA g 0)), (2, .ref (gA g 4)), (3, .ref (gA g 12))]) hx hb dL_law_1100 hl (k := 2) rfl (s_nx t) (by decide) rfl (fun ls hl => ?_)
      refine lv_goto (tgt := 23) hx hb dL_law_1103 (by decide) ?_
      refine W.widen (k := CC (t + 1)) (n := SS (t + 1)) (by unfold CC; omega) (by unfold SS; omega) ?_
      exact hn a1 σ1 (enM μ (xs (nI (6 * t) + 1).toNatClampNeg)) o1 H locs ls hR1 hW hS (by exact lv_sub hl [0, 3, 4, 5, 6] rfl)

set_option maxHeartbeats 1000000 in
set_option maxRecDepth 100000 in
theorem law_isLocked {p : Program} {l : Launch} {e : Env} {s : State} {m : MethodId} {below : List Frame} {meth : Method} {c : Code} {b L : Nat} {xs : Nat → Int32} {g : Ge} (C0 : lwC l p s m meth c b L xs g) {t : Nat} (ht : 6 * t + 6 ≤ L) (hn : lwG p l e s m below meth c b g (t + 1) 23) : lwG p l e s m below meth c b g t 769 := by
  obtain ⟨⟨hx, hb, hr, hml, hown, hts, hX, hbl, hlocks, hgv⟩, hC, hz, hfl, hL⟩ := C0
  intro a σ μ o H locs ls hR hW hS hl
  have htsW : ∀ w ∈ wsL_law, w.before #[Value.ref b] s = true := fun w h => hts w (wsL_law_in w h)
  have hbA : ¬ Az g b := fun h => by unfold Az at h; rw [hz] at h; exact absurd hbl (by omega)
  have hM := hR.M
  have ha := hR.ha
  unfold CC SS
  have hl : lv_has ls 7 [(4, .int (nI (6 * t))), (0, .ref b), (1, .ref (gA g 0)), (2, .ref (gA g 4)), (3, .ref (gA g 12))] := hl
  refine lv_aload_n hx hb dL_law_769 rfl (lv_at hl 2 rfl) ?_
  have hk0 : narrow .boolean (.int (σ.2.2.1 0)) = .int (σ.2.2.1 0) := by rw [hR.K0]; rcases hR.2.2.2.1.2.1 with q | q <;> rw [q] <;> rfl
  refine vp_callSi (va_Run.run (va_runV (As := []) (rest := []) ⟨hx, hb, hml, hown, htsW⟩ (mtX2_isLocked l g σ μ o hk0) (cwV 0 htsW gL_law_X2_isLocked rfl rfl rfl (by decide +kernel) ⟨Nat.le_of_ble_eq_true rfl, Nat.le_of_ble_eq_true rfl⟩) ⟨PW.blind, rcB hC hW, fun U hU hW9 => ⟨rfl, PW.at hC hS hW U hU hW9⟩⟩ rfl rfl hl.1 rfl (lv_room (Nat.le_of_ble_eq_true rfl)) dL_law_770 ⟨show 29 + 4 * t + 0 + 0 + 0 ≤ 638081 by omega, show 611 + 24 * t + 0 + 0 + 0 ≤ 7181861 by omega⟩)) (fun r1 h1 => ?_)
  replace h1 : r1 = σ.2.2.1 0 := h1
  refine lv_aload_n hx hb dL_law_773 rfl (lv_at hl 3 rfl) ?_
  have hk7 : narrow .boolean (.int (μ.1 7)) = .int (μ.1 7) := by rcases hR.2.2.2.1.2.1 with q | q <;> rw [q] <;> rfl
  refine va_calli (va_runV (As := []) (rest := [.int r1]) ⟨hx, hb, hml, hown, htsW⟩ (mtX3_isLocked l g σ μ o hk7) (cwV 0 htsW gL_law_X3_isLocked rfl rfl rfl (by decide +kernel) ⟨Nat.le_of_ble_eq_true rfl, Nat.le_of_ble_eq_true rfl⟩) ⟨PW.blind, rcM hC hW, fun U hU hW9 => ⟨rfl, PW.at hC hS hW U hU hW9⟩⟩ rfl rfl hl.1 rfl (lv_room (Nat.le_of_ble_eq_true rfl)) dL_law_774 ⟨show 29 + 4 * t + 0 + 0 ≤ 638081 by omega, show 611 + 24 * t + 0 + 0 ≤ 7181861 by omega⟩) hS (fun _ _ h => h) (fun _ h => h) (fun r2 u2 t8 H locs ht8 hvm2 h2 hW hz8 hk8 hS => ?_)
  replace hW : Wd g σ (thr12 μ 0) o H := by rw [← ht8]; exact hW
  replace h2 : r2 = μ.1 7 := h2
  refine lv_icmp_eq (tgt := 1100) hx hb dL_law_777 (by decide) (fun c1 => ?_) (fun c1 => ?_)
  rotate_left
  · exact absurd (h1.trans ((hR.K0).trans h2.symm)) c1
  refine lv_iinc (v := nI (6 * (t + 1))) (lv' := [(4, .int (nI (6 * (t + 1)))), (0, .ref b), (1, .ref (gA g 0)), (2, .ref (gA g 4)), (3, .ref (gA g 12))]) hx hb dL_law_1100 hl (k := 0) rfl (s_nx t) (by decide) rfl (fun ls hl => ?_)
  refine lv_goto (tgt := 23) hx hb dL_law_1103 (by decide) ?_
  refine W.widen (k := CC (t + 1)) (n := SS (t + 1)) (by unfold CC; omega) (by unfold SS; omega) ?_
  exact hn a σ (thr12 μ 0) o H locs ls (hR.thr 0) hW hS (by exact lv_sub hl [0, 1, 2, 3, 4] rfl)

set_option maxHeartbeats 1000000 in
set_option maxRecDepth 100000 in
theorem law_entries {p : Program} {l : Launch} {e : Env} {s : State} {m : MethodId} {below : List Frame} {meth : Method} {c : Code} {b L : Nat} {xs : Nat → Int32} {g : Ge} (C0 : lwC l p s m meth c b L xs g) {t : Nat} (ht : 6 * t + 6 ≤ L) (hn : lwG p l e s m below meth c b g (t + 1) 23) : lwG p l e s m below meth c b g t 782 := by
  obtain ⟨⟨hx, hb, hr, hml, hown, hts, hX, hbl, hlocks, hgv⟩, hC, hz, hfl, hL⟩ := C0
  intro a σ μ o H locs ls hR hW hS hl
  have htsW : ∀ w ∈ wsL_law, w.before #[Value.ref b] s = true := fun w h => hts w (wsL_law_in w h)
  have hbA : ¬ Az g b := fun h => by unfold Az at h; rw [hz] at h; exact absurd hbl (by omega)
  have hM := hR.M
  have ha := hR.ha
  unfold CC SS
  have hl : lv_has ls 7 [(4, .int (nI (6 * t))), (0, .ref b), (1, .ref (gA g 0)), (2, .ref (gA g 4)), (3, .ref (gA g 12))] := hl
  refine lv_aload_n hx hb dL_law_782 rfl (lv_at hl 2 rfl) ?_
  refine vp_callSi (va_Run.run (va_runV (As := []) (rest := []) ⟨hx, hb, hml, hown, htsW⟩ (mtX2_entries l g σ μ o ) (cwV 0 htsW gL_law_X2_entries rfl rfl rfl (by decide +kernel) ⟨Nat.le_of_ble_eq_true rfl, Nat.le_of_ble_eq_true rfl⟩) ⟨PW.blind, rcB hC hW, fun U hU hW9 => ⟨rfl, PW.at hC hS hW U hU hW9⟩⟩ rfl rfl hl.1 rfl (lv_room (Nat.le_of_ble_eq_true rfl)) dL_law_783 ⟨show 29 + 4 * t + 0 + 0 + 0 ≤ 638081 by omega, show 611 + 24 * t + 0 + 0 + 0 ≤ 7181861 by omega⟩)) (fun r1 h1 => ?_)
  replace h1 : r1 = nI (ct (thr σ.2.1) 16) := h1
  refine lv_aload_n hx hb dL_law_786 rfl (lv_at hl 3 rfl) ?_
  refine va_calli (va_runV (As := []) (rest := [.int r1]) ⟨hx, hb, hml, hown, htsW⟩ (mtX3_entries l g σ μ o a hM ha) (cwV 0 htsW gL_law_X3_entries rfl rfl rfl (by decide +kernel) ⟨Nat.le_of_ble_eq_true rfl, Nat.le_of_ble_eq_true rfl⟩) ⟨PW.blind, rcM hC hW, fun U hU hW9 => ⟨rfl, PW.at hC hS hW U hU hW9⟩⟩ rfl rfl hl.1 rfl (lv_room (Nat.le_of_ble_eq_true rfl)) dL_law_787 ⟨show 29 + 4 * t + 0 + 0 ≤ 638081 by omega, show 611 + 24 * t + 0 + 0 ≤ 7181861 by omega⟩) hS (fun _ _ h => h) (fun _ h => h) (fun r2 u2 t8 H locs ht8 hvm2 h2 hW hz8 hk8 hS => ?_)
  replace hW : Wd g σ (thr12 μ 0) o H := by rw [← ht8]; exact hW
  replace h2 : r2 = nI (ct (thM μ) a) := h2
  refine lv_icmp_eq (tgt := 1100) hx hb dL_law_790 (by decide) (fun c1 => ?_) (fun c1 => ?_)
  rotate_left
  · exact absurd (h1.trans ((show nI (ct (thr σ.2.1) 16) = nI (ct (thM μ) a) from by rw [cnt_thr hR.1]).trans h2.symm)) c1
  refine lv_iinc (v := nI (6 * (t + 1))) (lv' := [(4, .int (nI (6 * (t + 1)))), (0, .ref b), (1, .ref (gA g 0)), (2, .ref (gA g 4)), (3, .ref (gA g 12))]) hx hb dL_law_1100 hl (k := 0) rfl (s_nx t) (by decide) rfl (fun ls hl => ?_)
  refine lv_goto (tgt := 23) hx hb dL_law_1103 (by decide) ?_
  refine W.widen (k := CC (t + 1)) (n := SS (t + 1)) (by unfold CC; omega) (by unfold SS; omega) ?_
  exact hn a σ (thr12 μ 0) o H locs ls (hR.thr 0) hW hS (by exact lv_sub hl [0, 1, 2, 3, 4] rfl)

set_option maxHeartbeats 1000000 in
set_option maxRecDepth 100000 in
theorem law_at {p : Program} {l : Launch} {e : Env} {s : State} {m : MethodId} {below : List Frame} {meth : Method} {c : Code} {b L : Nat} {xs : Nat → Int32} {g : Ge} (C0 : lwC l p s m meth c b L xs g) {t : Nat} (ht : 6 * t + 6 ≤ L) (hn : lwG p l e s m below meth c b g (t + 1) 23) : lwG p l e s m below meth c b g t 795 := by
  obtain ⟨⟨hx, hb, hr, hml, hown, hts, hX, hbl, hlocks, hgv⟩, hC, hz, hfl, hL⟩ := C0
  intro a σ μ o H locs ls hR hW hS hl
  have htsW : ∀ w ∈ wsL_law, w.before #[Value.ref b] s = true := fun w h => hts w (wsL_law_in w h)
  have hbA : ¬ Az g b := fun h => by unfold Az at h; rw [hz] at h; exact absurd hbl (by omega)
  have hM := hR.M
  have ha := hR.ha
  unfold CC SS
  have hl : lv_has ls 7 [(4, .int (nI (6 * t))), (0, .ref b), (1, .ref (gA g 0)), (2, .ref (gA g 4)), (3, .ref (gA g 12))] := hl
  refine lv_aload_n hx hb dL_law_795 rfl (lv_at hl 2 rfl) ?_
  refine lv_aload_n hx hb dL_law_796 rfl (lv_at hl 1 rfl) ?_
  refine lv_iload hx hb dL_law_797 (lv_at hl 0 rfl) ?_
  refine lv_iconst (v := 1) hx hb dL_law_799 (by decide) ?_
  refine lv_iadd hx hb dL_law_800 ?_
  refine va_sld hx hb hX hbl hbA hS (s_in (k := 1) ht hL (by decide)) dL_law_801 ?_
  refine lv_aload_n hx hb dL_law_802 rfl (lv_at hl 4 rfl) ?_
  refine va_calli (vx_runSW (As := [.ref (gA g 0), .int ((xs (nI (6 * t) + 1).toNatClampNeg)), .ref (gA g 12)]) (rest := []) ⟨hx, hb, hml, hown, htsW⟩ (mtL_at l g σ μ o hfl (xs (nI (6 * t) + 1).toNatClampNeg)) (vx_cwSW 3 htsW gL_law_L_at rfl rfl rfl (by decide +kernel) ⟨Nat.le_of_ble_eq_true rfl, Nat.le_of_ble_eq_true rfl⟩) ⟨PW.blind, fun U hU hW9 => ⟨rfl, PW.at hC hS hW U hU hW9⟩⟩ rfl rfl hl.1 rfl (lv_room (Nat.le_of_ble_eq_true rfl)) dL_law_803 ⟨show 29 + 4 * t + 1 ≤ 638081 by omega, show 611 + 24 * t + 6 ≤ 7181861 by omega⟩) hS (fun _ _ h => h) (fun _ h => h) (fun k y t9 H locs ht9 hvm hq hB hz9 hk9 hS => ?_)
  have hF := op_at hR (xs (nI (6 * t) + 1).toNatClampNeg)
  obtain ⟨σ1, o1, a1, hk, hW, hR1, ho⟩ := opx (w := fun r => r.toInt64) hF (fun _ _ h => h.1) hq hB
  have hth := hF.2.1
  rw [ht9] at hW
  refine lv_istore (lv' := [(5, .int k), (4, .int (nI (6 * t))), (0, .ref b), (1, .ref (gA g 0)), (2, .ref (gA g 4)), (3, .ref (gA g 12))]) hx hb dL_law_806 hl (by decide) rfl (fun ls hl => ?_)
  refine lv_aload_n hx hb dL_law_808 rfl (lv_at hl 4 rfl) ?_
  refine lv_aload_n hx hb dL_law_809 rfl (lv_at hl 2 rfl) ?_
  refine lv_iload hx hb dL_law_810 (lv_at hl 1 rfl) ?_
  refine lv_iconst (v := 1) hx hb dL_law_812 (by decide) ?_
  refine lv_iadd hx hb dL_law_813 ?_
  refine va_sld hx hb hX hbl hbA hS (s_in (k := 1) ht hL (by decide)) dL_law_814 ?_
  refine va_calli (va_runV (As := [.int ((xs (nI (6 * t) + 1).toNatClampNeg))]) (rest := []) ⟨hx, hb, hml, hown, htsW⟩ (mtX3_at l g σ1 μ o1 (xs (nI (6 * t) + 1).toNatClampNeg) a hM ha) (cwV 1 htsW gL_law_X3_at rfl rfl rfl (by decide +kernel) ⟨Nat.le_of_ble_eq_true rfl, Nat.le_of_ble_eq_true rfl⟩) ⟨PW.blind, rcM hC hW, fun U hU hW9 => ⟨rfl, PW.at hC hS hW U hU hW9⟩⟩ rfl rfl hl.1 rfl (lv_room (Nat.le_of_ble_eq_true rfl)) dL_law_815 ⟨show 29 + 4 * t + 1 + 0 ≤ 638081 by omega, show 611 + 24 * t + 6 + 0 ≤ 7181861 by omega⟩) hS (fun _ _ h => h) (fun _ h => h) (fun r2 u2 t8 H locs ht8 hvm2 h2 hW hz8 hk8 hS => ?_)
  replace hW : Wd g σ1 (thr12 μ (kMT μ a (xs (nI (6 * t) + 1).toNatClampNeg))) o1 H := by rw [← ht8]; exact hW
  replace h2 : r2 = atR μ a (xs (nI (6 * t) + 1).toNatClampNeg) := h2
  refine lv_istore (lv' := [(6, .int r2), (5, .int k), (4, .int (nI (6 * t))), (0, .ref b), (1, .ref (gA g 0)), (2, .ref (gA g 4)), (3, .ref (gA g 12))]) hx hb dL_law_818 hl (by decide) rfl (fun ls hl => ?_)
  refine lv_aload_n hx hb dL_law_820 rfl (lv_at hl 5 rfl) ?_
  refine vp_callSi (va_Run.run (va_runV (As := []) (rest := []) ⟨hx, hb, hml, hown, htsW⟩ (mtX3_thrown l g σ1 ((thr12 μ (kMT μ a (xs (nI (6 * t) + 1).toNatClampNeg)))) o1 ) (cwV 0 htsW gL_law_X3_thrown rfl rfl rfl (by decide +kernel) ⟨Nat.le_of_ble_eq_true rfl, Nat.le_of_ble_eq_true rfl⟩) ⟨PW.blind, rcM hC hW, fun U hU hW9 => ⟨rfl, PW.at hC hS hW U hU hW9⟩⟩ rfl rfl hl.1 rfl (lv_room (Nat.le_of_ble_eq_true rfl)) dL_law_821 ⟨show 29 + 4 * t + 1 + 0 + 0 ≤ 638081 by omega, show 611 + 24 * t + 6 + 0 + 0 ≤ 7181861 by omega⟩)) (fun r1 h1 => ?_)
  replace h1 : r1 = ((thr12 μ (kMT μ a (xs (nI (6 * t) + 1).toNatClampNeg)))).1 12 := h1
  refine lv_iload hx hb dL_law_824 (lv_at hl 1 rfl) ?_
  refine lv_icmp_eq (tgt := 831) hx hb dL_law_826 (by decide) (fun c1 => ?_) (fun c1 => ?_)
  rotate_left
  · exact absurd (h1.trans (hth.trans hk.symm)) c1
  refine lv_iload hx hb dL_law_831 (lv_at hl 1 rfl) ?_
  refine lv_if_ne (tgt := 848) hx hb dL_law_833 (by decide) (fun c2 => ?_) (fun c2 => ?_)
  · skip
    refine lv_goto (tgt := 1100) hx hb dL_law_848 (by decide) ?_
    refine lv_iinc (v := nI (6 * (t + 1))) (lv' := [(4, .int (nI (6 * (t + 1)))), (6, .int r2), (5, .int k), (0, .ref b), (1, .ref (gA g 0)), (2, .ref (gA g 4)), (3, .ref (gA g 12))]) hx hb dL_law_1100 hl (k := 2) rfl (s_nx t) (by decide) rfl (fun ls hl => ?_)
    refine lv_goto (tgt := 23) hx hb dL_law_1103 (by decide) ?_
    refine W.widen (k := CC (t + 1)) (n := SS (t + 1)) (by unfold CC; omega) (by unfold SS; omega) ?_
    exact hn a1 σ1 (thr12 μ (kMT μ a (xs (nI (6 * t) + 1).toNatClampNeg))) o1 H locs ls hR1 hW hS (by exact lv_sub hl [0, 3, 4, 5, 6] rfl)
  · skip
    refine lv_aload_n hx hb dL_law_836 rfl (lv_at hl 6 rfl) ?_
    refine lv_iconst (v := 0) hx hb dL_law_837 (by decide) ?_
    refine oLd hx hb hC hW dL_law_838 ?_
    refine lv_iload hx hb dL_law_839 (lv_at hl 0 rfl) ?_
    refine lv_i2l hx hb dL_law_841 rfl ?_
    refine W.lcmp hx hb dL_law_842 ?_
    refine lv_if_eq (tgt := 848) hx hb dL_law_843 (by decide) (fun c3 => ?_) (fun c3 => absurd (by rw [ho c2, h2]; exact cmp_eq _) c3)
    refine lv_goto (tgt := 1100) hx hb dL_law_848 (by decide) ?_
    refine lv_iinc (v := nI (6 * (t + 1))) (lv' := [(4, .int (nI (6 * (t + 1)))), (6, .int r2), (5, .int k), (0, .ref b), (1, .ref (gA g 0)), (2, .ref (gA g 4)), (3, .ref (gA g 12))]) hx hb dL_law_1100 hl (k := 2) rfl (s_nx t) (by decide) rfl (fun ls hl => ?_)
    refine lv_goto (tgt := 23) hx hb dL_law_1103 (by decide) ?_
    refine W.widen (k := CC (t + 1)) (n := SS (t + 1)) (by unfold CC; omega) (by unfold SS; omega) ?_
    exact hn a1 σ1 (thr12 μ (kMT μ a (xs (nI (6 * t) + 1).toNatClampNeg))) o1 H locs ls hR1 hW hS (by exact lv_sub hl [0, 3, 4, 5, 6] rfl)
