set_option maxHeartbeats 1000000 in
set_option maxRecDepth 100000 in
theorem law_placeOf {p : Program} {l : Launch} {e : Env} {s : State} {m : MethodId} {below : List Frame} {meth : Method} {c : Code} {b L : Nat} {xs : Nat → Int32} {g : Ge} (C0 : lwC l p s m meth c b L xs g) {t : Nat} (ht : 6 * t + 6 ≤ L) (hn : lwG p l e s m below meth c b g (t + 1) 23) : lwG p l e s m below meth c b g t 851 := by
  obtain ⟨⟨hx, hb, hr, hml, hown, hts, hX, hbl, hlocks, hgv⟩, hC, hz, hfl, hL⟩ := C0
  intro a σ μ o H locs ls hR hW hS hl
  have htsW : ∀ w ∈ wsL_law, w.before #[Value.ref b] s = true := fun w h => hts w (wsL_law_in w h)
  have hbA : ¬ Az g b := fun h => by unfold Az at h; rw [hz] at h; exact absurd hbl (by omega)
  have hM := hR.M
  have ha := hR.ha
  unfold CC SS
  have hl : lv_has ls 7 [(4, .int (nI (6 * t))), (0, .ref b), (1, .ref (gA g 0)), (2, .ref (gA g 4)), (3, .ref (gA g 12))] := hl
  refine lv_aload_n hx hb dL_law_851 rfl (lv_at hl 2 rfl) ?_
  refine lv_aload_n hx hb dL_law_852 rfl (lv_at hl 1 rfl) ?_
  refine lv_iload hx hb dL_law_853 (lv_at hl 0 rfl) ?_
  refine lv_iconst (v := 1) hx hb dL_law_855 (by decide) ?_
  refine lv_iadd hx hb dL_law_856 ?_
  refine va_sld hx hb hX hbl hbA hS (s_in (k := 1) ht hL (by decide)) dL_law_857 ?_
  refine lv_aload_n hx hb dL_law_858 rfl (lv_at hl 4 rfl) ?_
  refine va_calli (vx_runSW (As := [.ref (gA g 0), .int ((xs (nI (6 * t) + 1).toNatClampNeg)), .ref (gA g 12)]) (rest := []) ⟨hx, hb, hml, hown, htsW⟩ (mtL_placeOf l g σ μ o hfl (xs (nI (6 * t) + 1).toNatClampNeg)) (vx_cwSW 3 htsW gL_law_L_placeOf rfl rfl rfl (by decide +kernel) ⟨Nat.le_of_ble_eq_true rfl, Nat.le_of_ble_eq_true rfl⟩) ⟨PW.blind, fun U hU hW9 => ⟨rfl, PW.at hC hS hW U hU hW9⟩⟩ rfl rfl hl.1 rfl (lv_room (Nat.le_of_ble_eq_true rfl)) dL_law_859 ⟨show 29 + 4 * t + 1 ≤ 638081 by omega, show 611 + 24 * t + 6 ≤ 7181861 by omega⟩) hS (fun _ _ h => h) (fun _ h => h) (fun k y t9 H locs ht9 hvm hq hB hz9 hk9 hS => ?_)
  have hF := op_placeOf hR (xs (nI (6 * t) + 1).toNatClampNeg)
  obtain ⟨σ1, o1, a1, hk, hW, hR1, ho⟩ := opx (w := fun r => r.toInt64) hF (fun _ _ h => h.1) hq hB
  have hth := hF.2.1
  rw [ht9] at hW
  refine lv_istore (lv' := [(5, .int k), (4, .int (nI (6 * t))), (0, .ref b), (1, .ref (gA g 0)), (2, .ref (gA g 4)), (3, .ref (gA g 12))]) hx hb dL_law_862 hl (by decide) rfl (fun ls hl => ?_)
  refine lv_aload_n hx hb dL_law_864 rfl (lv_at hl 4 rfl) ?_
  refine lv_aload_n hx hb dL_law_865 rfl (lv_at hl 2 rfl) ?_
  refine lv_iload hx hb dL_law_866 (lv_at hl 1 rfl) ?_
  refine lv_iconst (v := 1) hx hb dL_law_868 (by decide) ?_
  refine lv_iadd hx hb dL_law_869 ?_
  refine va_sld hx hb hX hbl hbA hS (s_in (k := 1) ht hL (by decide)) dL_law_870 ?_
  refine va_calli (va_runV (As := [.int ((xs (nI (6 * t) + 1).toNatClampNeg))]) (rest := []) ⟨hx, hb, hml, hown, htsW⟩ (mtX3_placeOf l g σ1 μ o1 (xs (nI (6 * t) + 1).toNatClampNeg) a hM ha) (cwV 1 htsW gL_law_X3_placeOf rfl rfl rfl (by decide +kernel) ⟨Nat.le_of_ble_eq_true rfl, Nat.le_of_ble_eq_true rfl⟩) ⟨PW.blind, rcM hC hW, fun U hU hW9 => ⟨rfl, PW.at hC hS hW U hU hW9⟩⟩ rfl rfl hl.1 rfl (lv_room (Nat.le_of_ble_eq_true rfl)) dL_law_871 ⟨show 29 + 4 * t + 1 + 0 ≤ 638081 by omega, show 611 + 24 * t + 6 + 0 ≤ 7181861 by omega⟩) hS (fun _ _ h => h) (fun _ h => h) (fun r2 u2 t8 H locs ht8 hvm2 h2 hW hz8 hk8 hS => ?_)
  replace hW : Wd g σ1 (thr12 μ (kMR μ (xs (nI (6 * t) + 1).toNatClampNeg))) o1 H := by rw [← ht8]; exact hW
  replace h2 : r2 = poR μ a (xs (nI (6 * t) + 1).toNatClampNeg) := h2
  refine lv_istore (lv' := [(6, .int r2), (5, .int k), (4, .int (nI (6 * t))), (0, .ref b), (1, .ref (gA g 0)), (2, .ref (gA g 4)), (3, .ref (gA g 12))]) hx hb dL_law_874 hl (by decide) rfl (fun ls hl => ?_)
  refine lv_aload_n hx hb dL_law_876 rfl (lv_at hl 5 rfl) ?_
  refine vp_callSi (va_Run.run (va_runV (As := []) (rest := []) ⟨hx, hb, hml, hown, htsW⟩ (mtX3_thrown l g σ1 ((thr12 μ (kMR μ (xs (nI (6 * t) + 1).toNatClampNeg)))) o1 ) (cwV 0 htsW gL_law_X3_thrown rfl rfl rfl (by decide +kernel) ⟨Nat.le_of_ble_eq_true rfl, Nat.le_of_ble_eq_true rfl⟩) ⟨PW.blind, rcM hC hW, fun U hU hW9 => ⟨rfl, PW.at hC hS hW U hU hW9⟩⟩ rfl rfl hl.1 rfl (lv_room (Nat.le_of_ble_eq_true rfl)) dL_law_877 ⟨show 29 + 4 * t + 1 + 0 + 0 ≤ 638081 by omega, show 611 + 24 * t + 6 + 0 + 0 ≤ 7181861 by omega⟩)) (fun r1 h1 => ?_)
  replace h1 : r1 = ((thr12 μ (kMR μ (xs (nI (6 * t) + 1).toNatClampNeg)))).1 12 := h1
  refine lv_iload hx hb dL_law_880 (lv_at hl 1 rfl) ?_
  refine lv_icmp_eq (tgt := 887) hx hb dL_law_882 (by decide) (fun c1 => ?_) (fun c1 => ?_)
  rotate_left
  · exact absurd (h1.trans (hth.trans hk.symm)) c1
  refine lv_iload hx hb dL_law_887 (lv_at hl 1 rfl) ?_
  refine lv_if_ne (tgt := 904) hx hb dL_law_889 (by decide) (fun c2 => ?_) (fun c2 => ?_)
  · skip
    refine lv_goto (tgt := 1100) hx hb dL_law_904 (by decide) ?_
    refine lv_iinc (v := nI (6 * (t + 1))) (lv' := [(4, .int (nI (6 * (t + 1)))), (6, .int r2), (5, .int k), (0, .ref b), (1, .ref (gA g 0)), (2, .ref (gA g 4)), (3, .ref (gA g 12))]) hx hb dL_law_1100 hl (k := 2) rfl (s_nx t) (by decide) rfl (fun ls hl => ?_)
    refine lv_goto (tgt := 23) hx hb dL_law_1103 (by decide) ?_
    refine W.widen (k := CC (t + 1)) (n := SS (t + 1)) (by unfold CC; omega) (by unfold SS; omega) ?_
    exact hn a1 σ1 (thr12 μ (kMR μ (xs (nI (6 * t) + 1).toNatClampNeg))) o1 H locs ls hR1 hW hS (by exact lv_sub hl [0, 3, 4, 5, 6] rfl)
  · skip
    refine lv_aload_n hx hb dL_law_892 rfl (lv_at hl 6 rfl) ?_
    refine lv_iconst (v := 0) hx hb dL_law_893 (by decide) ?_
    refine oLd hx hb hC hW dL_law_894 ?_
    refine lv_iload hx hb dL_law_895 (lv_at hl 0 rfl) ?_
    refine lv_i2l hx hb dL_law_897 rfl ?_
    refine W.lcmp hx hb dL_law_898 ?_
    refine lv_if_eq (tgt := 904) hx hb dL_law_899 (by decide) (fun c3 => ?_) (fun c3 => absurd (by rw [ho c2, h2]; exact cmp_eq _) c3)
    refine lv_goto (tgt := 1100) hx hb dL_law_904 (by decide) ?_
    refine lv_iinc (v := nI (6 * (t + 1))) (lv' := [(4, .int (nI (6 * (t + 1)))), (6, .int r2), (5, .int k), (0, .ref b), (1, .ref (gA g 0)), (2, .ref (gA g 4)), (3, .ref (gA g 12))]) hx hb dL_law_1100 hl (k := 2) rfl (s_nx t) (by decide) rfl (fun ls hl => ?_)
    refine lv_goto (tgt := 23) hx hb dL_law_1103 (by decide) ?_
    refine W.widen (k := CC (t + 1)) (n := SS (t + 1)) (by unfold CC; omega) (by unfold SS; omega) ?_
    exact hn a1 σ1 (thr12 μ (kMR μ (xs (nI (6 * t) + 1).toNatClampNeg))) o1 H locs ls hR1 hW hS (by exact lv_sub hl [0, 3, 4, 5, 6] rfl)

set_option maxHeartbeats 1000000 in
set_option maxRecDepth 100000 in
theorem law_tries {p : Program} {l : Launch} {e : Env} {s : State} {m : MethodId} {below : List Frame} {meth : Method} {c : Code} {b L : Nat} {xs : Nat → Int32} {g : Ge} (C0 : lwC l p s m meth c b L xs g) {t : Nat} (ht : 6 * t + 6 ≤ L) (hn : lwG p l e s m below meth c b g (t + 1) 23) : lwG p l e s m below meth c b g t 907 := by
  obtain ⟨⟨hx, hb, hr, hml, hown, hts, hX, hbl, hlocks, hgv⟩, hC, hz, hfl, hL⟩ := C0
  intro a σ μ o H locs ls hR hW hS hl
  have htsW : ∀ w ∈ wsL_law, w.before #[Value.ref b] s = true := fun w h => hts w (wsL_law_in w h)
  have hbA : ¬ Az g b := fun h => by unfold Az at h; rw [hz] at h; exact absurd hbl (by omega)
  have hM := hR.M
  have ha := hR.ha
  unfold CC SS
  have hl : lv_has ls 7 [(4, .int (nI (6 * t))), (0, .ref b), (1, .ref (gA g 0)), (2, .ref (gA g 4)), (3, .ref (gA g 12))] := hl
  refine lv_aload_n hx hb dL_law_907 rfl (lv_at hl 2 rfl) ?_
  refine lv_aload_n hx hb dL_law_908 rfl (lv_at hl 1 rfl) ?_
  refine lv_iload hx hb dL_law_909 (lv_at hl 0 rfl) ?_
  refine lv_iconst (v := 1) hx hb dL_law_911 (by decide) ?_
  refine lv_iadd hx hb dL_law_912 ?_
  refine va_sld hx hb hX hbl hbA hS (s_in (k := 1) ht hL (by decide)) dL_law_913 ?_
  refine lv_aload_n hx hb dL_law_914 rfl (lv_at hl 4 rfl) ?_
  refine va_calli (vx_runSW (As := [.ref (gA g 0), .int ((xs (nI (6 * t) + 1).toNatClampNeg)), .ref (gA g 12)]) (rest := []) ⟨hx, hb, hml, hown, htsW⟩ (mtL_tries l g σ μ o hfl (xs (nI (6 * t) + 1).toNatClampNeg)) (vx_cwSW 3 htsW gL_law_L_tries rfl rfl rfl (by decide +kernel) ⟨Nat.le_of_ble_eq_true rfl, Nat.le_of_ble_eq_true rfl⟩) ⟨PW.blind, fun U hU hW9 => ⟨rfl, PW.at hC hS hW U hU hW9⟩⟩ rfl rfl hl.1 rfl (lv_room (Nat.le_of_ble_eq_true rfl)) dL_law_915 ⟨show 29 + 4 * t + 1 ≤ 638081 by omega, show 611 + 24 * t + 6 ≤ 7181861 by omega⟩) hS (fun _ _ h => h) (fun _ h => h) (fun k y t9 H locs ht9 hvm hq hB hz9 hk9 hS => ?_)
  have hF := op_tries hR (xs (nI (6 * t) + 1).toNatClampNeg)
  obtain ⟨σ1, o1, a1, hk, hW, hR1, ho⟩ := opx (w := fun r => r.toInt64) hF (fun _ _ h => h.1) hq hB
  have hth := hF.2.1
  rw [ht9] at hW
  refine lv_istore (lv' := [(5, .int k), (4, .int (nI (6 * t))), (0, .ref b), (1, .ref (gA g 0)), (2, .ref (gA g 4)), (3, .ref (gA g 12))]) hx hb dL_law_918 hl (by decide) rfl (fun ls hl => ?_)
  refine lv_aload_n hx hb dL_law_920 rfl (lv_at hl 4 rfl) ?_
  refine lv_aload_n hx hb dL_law_921 rfl (lv_at hl 2 rfl) ?_
  refine lv_iload hx hb dL_law_922 (lv_at hl 1 rfl) ?_
  refine lv_iconst (v := 1) hx hb dL_law_924 (by decide) ?_
  refine lv_iadd hx hb dL_law_925 ?_
  refine va_sld hx hb hX hbl hbA hS (s_in (k := 1) ht hL (by decide)) dL_law_926 ?_
  refine va_calli (va_runV (As := [.int ((xs (nI (6 * t) + 1).toNatClampNeg))]) (rest := []) ⟨hx, hb, hml, hown, htsW⟩ (mtX3_tries l g σ1 μ o1 (xs (nI (6 * t) + 1).toNatClampNeg) a hM ha) (cwV 1 htsW gL_law_X3_tries rfl rfl rfl (by decide +kernel) ⟨Nat.le_of_ble_eq_true rfl, Nat.le_of_ble_eq_true rfl⟩) ⟨PW.blind, rcM hC hW, fun U hU hW9 => ⟨rfl, PW.at hC hS hW U hU hW9⟩⟩ rfl rfl hl.1 rfl (lv_room (Nat.le_of_ble_eq_true rfl)) dL_law_927 ⟨show 29 + 4 * t + 1 + 0 ≤ 638081 by omega, show 611 + 24 * t + 6 + 0 ≤ 7181861 by omega⟩) hS (fun _ _ h => h) (fun _ h => h) (fun r2 u2 t8 H locs ht8 hvm2 h2 hW hz8 hk8 hS => ?_)
  replace hW : Wd g σ1 (thr12 μ (kMR μ (xs (nI (6 * t) + 1).toNatClampNeg))) o1 H := by rw [← ht8]; exact hW
  replace h2 : r2 = trR μ (xs (nI (6 * t) + 1).toNatClampNeg) := h2
  refine lv_istore (lv' := [(6, .int r2), (5, .int k), (4, .int (nI (6 * t))), (0, .ref b), (1, .ref (gA g 0)), (2, .ref (gA g 4)), (3, .ref (gA g 12))]) hx hb dL_law_930 hl (by decide) rfl (fun ls hl => ?_)
  refine lv_aload_n hx hb dL_law_932 rfl (lv_at hl 5 rfl) ?_
  refine vp_callSi (va_Run.run (va_runV (As := []) (rest := []) ⟨hx, hb, hml, hown, htsW⟩ (mtX3_thrown l g σ1 ((thr12 μ (kMR μ (xs (nI (6 * t) + 1).toNatClampNeg)))) o1 ) (cwV 0 htsW gL_law_X3_thrown rfl rfl rfl (by decide +kernel) ⟨Nat.le_of_ble_eq_true rfl, Nat.le_of_ble_eq_true rfl⟩) ⟨PW.blind, rcM hC hW, fun U hU hW9 => ⟨rfl, PW.at hC hS hW U hU hW9⟩⟩ rfl rfl hl.1 rfl (lv_room (Nat.le_of_ble_eq_true rfl)) dL_law_933 ⟨show 29 + 4 * t + 1 + 0 + 0 ≤ 638081 by omega, show 611 + 24 * t + 6 + 0 + 0 ≤ 7181861 by omega⟩)) (fun r1 h1 => ?_)
  replace h1 : r1 = ((thr12 μ (kMR μ (xs (nI (6 * t) + 1).toNatClampNeg)))).1 12 := h1
  refine lv_iload hx hb dL_law_936 (lv_at hl 1 rfl) ?_
  refine lv_icmp_eq (tgt := 943) hx hb dL_law_938 (by decide) (fun c1 => ?_) (fun c1 => ?_)
  rotate_left
  · exact absurd (h1.trans (hth.trans hk.symm)) c1
  refine lv_iload hx hb dL_law_943 (lv_at hl 1 rfl) ?_
  refine lv_if_ne (tgt := 960) hx hb dL_law_945 (by decide) (fun c2 => ?_) (fun c2 => ?_)
  · skip
    refine lv_goto (tgt := 1100) hx hb dL_law_960 (by decide) ?_
    refine lv_iinc (v := nI (6 * (t + 1))) (lv' := [(4, .int (nI (6 * (t + 1)))), (6, .int r2), (5, .int k), (0, .ref b), (1, .ref (gA g 0)), (2, .ref (gA g 4)), (3, .ref (gA g 12))]) hx hb dL_law_1100 hl (k := 2) rfl (s_nx t) (by decide) rfl (fun ls hl => ?_)
    refine lv_goto (tgt := 23) hx hb dL_law_1103 (by decide) ?_
    refine W.widen (k := CC (t + 1)) (n := SS (t + 1)) (by unfold CC; omega) (by unfold SS; omega) ?_
    exact hn a1 σ1 (thr12 μ (kMR μ (xs (nI (6 * t) + 1).toNatClampNeg))) o1 H locs ls hR1 hW hS (by exact lv_sub hl [0, 3, 4, 5, 6] rfl)
  · skip
    refine lv_aload_n hx hb dL_law_948 rfl (lv_at hl 6 rfl) ?_
    refine lv_iconst (v := 0) hx hb dL_law_949 (by decide) ?_
    refine oLd hx hb hC hW dL_law_950 ?_
    refine lv_iload hx hb dL_law_951 (lv_at hl 0 rfl) ?_
    refine lv_i2l hx hb dL_law_953 rfl ?_
    refine W.lcmp hx hb dL_law_954 ?_
    refine lv_if_eq (tgt := 960) hx hb dL_law_955 (by decide) (fun c3 => ?_) (fun c3 => absurd (by rw [ho c2, h2]; exact cmp_eq _) c3)
    refine lv_goto (tgt := 1100) hx hb dL_law_960 (by decide) ?_
    refine lv_iinc (v := nI (6 * (t + 1))) (lv' := [(4, .int (nI (6 * (t + 1)))), (6, .int r2), (5, .int k), (0, .ref b), (1, .ref (gA g 0)), (2, .ref (gA g 4)), (3, .ref (gA g 12))]) hx hb dL_law_1100 hl (k := 2) rfl (s_nx t) (by decide) rfl (fun ls hl => ?_)
    refine lv_goto (tgt := 23) hx hb dL_law_1103 (by decide) ?_
    refine W.widen (k := CC (t + 1)) (n := SS (t + 1)) (by unfold CC; omega) (by unfold SS; omega) ?_
    exact hn a1 σ1 (thr12 μ (kMR μ (xs (nI (6 * t) + 1).toNatClampNeg))) o1 H locs ls hR1 hW hS (by exact lv_sub hl [0, 3, 4, 5, 6] rfl)

set_option maxHeartbeats 1000000 in
set_option maxRecDepth 100000 in
theorem law_compare {p : Program} {l : Launch} {e : Env} {s : State} {m : MethodId} {below : List Frame} {meth : Method} {c : Code} {b L : Nat} {xs : Nat → Int32} {g : Ge} (C0 : lwC l p s m meth c b L xs g) {t : Nat} (ht : 6 * t + 6 ≤ L) (hn : lwG p l e s m below meth c b g (t + 1) 23) : lwG p l e s m below meth c b g t 963 := by
  obtain ⟨⟨hx, hb, hr, hml, hown, hts, hX, hbl, hlocks, hgv⟩, hC, hz, hfl, hL⟩ := C0
  intro a σ μ o H locs ls hR hW hS hl
  have htsW : ∀ w ∈ wsL_law, w.before #[Value.ref b] s = true := fun w h => hts w (wsL_law_in w h)
  have hbA : ¬ Az g b := fun h => by unfold Az at h; rw [hz] at h; exact absurd hbl (by omega)
  have hM := hR.M
  have ha := hR.ha
  unfold CC SS
  have hl : lv_has ls 7 [(4, .int (nI (6 * t))), (0, .ref b), (1, .ref (gA g 0)), (2, .ref (gA g 4)), (3, .ref (gA g 12))] := hl
  refine lv_aload_n hx hb dL_law_963 rfl (lv_at hl 2 rfl) ?_
  refine lv_aload_n hx hb dL_law_964 rfl (lv_at hl 1 rfl) ?_
  refine lv_iload hx hb dL_law_965 (lv_at hl 0 rfl) ?_
  refine lv_iconst (v := 1) hx hb dL_law_967 (by decide) ?_
  refine lv_iadd hx hb dL_law_968 ?_
  refine va_sld hx hb hX hbl hbA hS (s_in (k := 1) ht hL (by decide)) dL_law_969 ?_
  refine lv_aload_n hx hb dL_law_970 rfl (lv_at hl 1 rfl) ?_
  refine lv_iload hx hb dL_law_971 (lv_at hl 0 rfl) ?_
  refine lv_iconst (v := 2) hx hb dL_law_973 (by decide) ?_
  refine lv_iadd hx hb dL_law_974 ?_
  refine va_sld hx hb hX hbl hbA hS (s_in (k := 2) ht hL (by decide)) dL_law_975 ?_
  refine lv_aload_n hx hb dL_law_976 rfl (lv_at hl 4 rfl) ?_
  refine va_calli (vx_runSW (As := [.ref (gA g 0), .int ((xs (nI (6 * t) + 1).toNatClampNeg)), .int ((xs (nI (6 * t) + 2).toNatClampNeg)), .ref (gA g 12)]) (rest := []) ⟨hx, hb, hml, hown, htsW⟩ (mtL_compare l g σ μ o hfl (xs (nI (6 * t) + 1).toNatClampNeg) (xs (nI (6 * t) + 2).toNatClampNeg)) (vx_cwSW 4 htsW gL_law_L_compare rfl rfl rfl (by decide +kernel) ⟨Nat.le_of_ble_eq_true rfl, Nat.le_of_ble_eq_true rfl⟩) ⟨PW.blind, fun U hU hW9 => ⟨rfl, PW.at hC hS hW U hU hW9⟩⟩ rfl rfl hl.1 rfl (lv_room (Nat.le_of_ble_eq_true rfl)) dL_law_977 ⟨show 29 + 4 * t + 2 ≤ 638081 by omega, show 611 + 24 * t + 12 ≤ 7181861 by omega⟩) hS (fun _ _ h => h) (fun _ h => h) (fun k y t9 H locs ht9 hvm hq hB hz9 hk9 hS => ?_)
  have hF := op_compare hR (xs (nI (6 * t) + 1).toNatClampNeg) (xs (nI (6 * t) + 2).toNatClampNeg)
  obtain ⟨σ1, o1, a1, hk, hW, hR1, ho⟩ := opx (w := fun r => r.toInt64) hF (fun _ _ h => h.1) hq hB
  have hth := hF.2.1
  rw [ht9] at hW
  refine lv_istore (lv' := [(5, .int k), (4, .int (nI (6 * t))), (0, .ref b), (1, .ref (gA g 0)), (2, .ref (gA g 4)), (3, .ref (gA g 12))]) hx hb dL_law_980 hl (by decide) rfl (fun ls hl => ?_)
  refine lv_aload_n hx hb dL_law_982 rfl (lv_at hl 4 rfl) ?_
  refine lv_aload_n hx hb dL_law_983 rfl (lv_at hl 2 rfl) ?_
  refine lv_iload hx hb dL_law_984 (lv_at hl 1 rfl) ?_
  refine lv_iconst (v := 1) hx hb dL_law_986 (by decide) ?_
  refine lv_iadd hx hb dL_law_987 ?_
  refine va_sld hx hb hX hbl hbA hS (s_in (k := 1) ht hL (by decide)) dL_law_988 ?_
  refine lv_aload_n hx hb dL_law_989 rfl (lv_at hl 2 rfl) ?_
  refine lv_iload hx hb dL_law_990 (lv_at hl 1 rfl) ?_
  refine lv_iconst (v := 2) hx hb dL_law_992 (by decide) ?_
  refine lv_iadd hx hb dL_law_993 ?_
  refine va_sld hx hb hX hbl hbA hS (s_in (k := 2) ht hL (by decide)) dL_law_994 ?_
  refine va_calli (va_runV (As := [.int ((xs (nI (6 * t) + 1).toNatClampNeg)), .int ((xs (nI (6 * t) + 2).toNatClampNeg))]) (rest := []) ⟨hx, hb, hml, hown, htsW⟩ (mtX3_compare l g σ1 μ o1 (xs (nI (6 * t) + 1).toNatClampNeg) (xs (nI (6 * t) + 2).toNatClampNeg) a hM ha) (cwV 2 htsW gL_law_X3_compare rfl rfl rfl (by decide +kernel) ⟨Nat.le_of_ble_eq_true rfl, Nat.le_of_ble_eq_true rfl⟩) ⟨PW.blind, rcM hC hW, fun U hU hW9 => ⟨rfl, PW.at hC hS hW U hU hW9⟩⟩ rfl rfl hl.1 rfl (lv_room (Nat.le_of_ble_eq_true rfl)) dL_law_995 ⟨show 29 + 4 * t + 2 + 0 ≤ 638081 by omega, show 611 + 24 * t + 12 + 0 ≤ 7181861 by omega⟩) hS (fun _ _ h => h) (fun _ h => h) (fun r2 u2 t8 H locs ht8 hvm2 h2 hW hz8 hk8 hS => ?_)
  replace hW : Wd g σ1 (thr12 μ (kMX μ (xs (nI (6 * t) + 1).toNatClampNeg) (xs (nI (6 * t) + 2).toNatClampNeg))) o1 H := by rw [← ht8]; exact hW
  replace h2 : r2 = cmR μ (xs (nI (6 * t) + 1).toNatClampNeg) (xs (nI (6 * t) + 2).toNatClampNeg) := h2
  refine lv_istore (lv' := [(6, .int r2), (5, .int k), (4, .int (nI (6 * t))), (0, .ref b), (1, .ref (gA g 0)), (2, .ref (gA g 4)), (3, .ref (gA g 12))]) hx hb dL_law_998 hl (by decide) rfl (fun ls hl => ?_)
  refine lv_aload_n hx hb dL_law_1000 rfl (lv_at hl 5 rfl) ?_
  refine vp_callSi (va_Run.run (va_runV (As := []) (rest := []) ⟨hx, hb, hml, hown, htsW⟩ (mtX3_thrown l g σ1 ((thr12 μ (kMX μ (xs (nI (6 * t) + 1).toNatClampNeg) (xs (nI (6 * t) + 2).toNatClampNeg)))) o1 ) (cwV 0 htsW gL_law_X3_thrown rfl rfl rfl (by decide +kernel) ⟨Nat.le_of_ble_eq_true rfl, Nat.le_of_ble_eq_true rfl⟩) ⟨PW.blind, rcM hC hW, fun U hU hW9 => ⟨rfl, PW.at hC hS hW U hU hW9⟩⟩ rfl rfl hl.1 rfl (lv_room (Nat.le_of_ble_eq_true rfl)) dL_law_1001 ⟨show 29 + 4 * t + 2 + 0 + 0 ≤ 638081 by omega, show 611 + 24 * t + 12 + 0 + 0 ≤ 7181861 by omega⟩)) (fun r1 h1 => ?_)
  replace h1 : r1 = ((thr12 μ (kMX μ (xs (nI (6 * t) + 1).toNatClampNeg) (xs (nI (6 * t) + 2).toNatClampNeg)))).1 12 := h1
  refine lv_iload hx hb dL_law_1004 (lv_at hl 1 rfl) ?_
  refine lv_icmp_eq (tgt := 1011) hx hb dL_law_1006 (by decide) (fun c1 => ?_) (fun c1 => ?_)
  rotate_left
  · exact absurd (h1.trans (hth.trans hk.symm)) c1
  refine lv_iload hx hb dL_law_1011 (lv_at hl 1 rfl) ?_
  refine lv_if_ne (tgt := 1028) hx hb dL_law_1013 (by decide) (fun c2 => ?_) (fun c2 => ?_)
  · skip
    refine lv_goto (tgt := 1100) hx hb dL_law_1028 (by decide) ?_
    refine lv_iinc (v := nI (6 * (t + 1))) (lv' := [(4, .int (nI (6 * (t + 1)))), (6, .int r2), (5, .int k), (0, .ref b), (1, .ref (gA g 0)), (2, .ref (gA g 4)), (3, .ref (gA g 12))]) hx hb dL_law_1100 hl (k := 2) rfl (s_nx t) (by decide) rfl (fun ls hl => ?_)
    refine lv_goto (tgt := 23) hx hb dL_law_1103 (by decide) ?_
    refine W.widen (k := CC (t + 1)) (n := SS (t + 1)) (by unfold CC; omega) (by unfold SS; omega) ?_
    exact hn a1 σ1 (thr12 μ (kMX μ (xs (nI (6 * t) + 1).toNatClampNeg) (xs (nI (6 * t) + 2).toNatClampNeg))) o1 H locs ls hR1 hW hS (by exact lv_sub hl [0, 3, 4, 5, 6] rfl)
  · skip
    refine lv_aload_n hx hb dL_law_1016 rfl (lv_at hl 6 rfl) ?_
    refine lv_iconst (v := 0) hx hb dL_law_1017 (by decide) ?_
    refine oLd hx hb hC hW dL_law_1018 ?_
    refine lv_iload hx hb dL_law_1019 (lv_at hl 0 rfl) ?_
    refine lv_i2l hx hb dL_law_1021 rfl ?_
    refine W.lcmp hx hb dL_law_1022 ?_
    refine lv_if_eq (tgt := 1028) hx hb dL_law_1023 (by decide) (fun c3 => ?_) (fun c3 => absurd (by rw [ho c2, h2]; exact cmp_eq _) c3)
    refine lv_goto (tgt := 1100) hx hb dL_law_1028 (by decide) ?_
    refine lv_iinc (v := nI (6 * (t + 1))) (lv' := [(4, .int (nI (6 * (t + 1)))), (6, .int r2), (5, .int k), (0, .ref b), (1, .ref (gA g 0)), (2, .ref (gA g 4)), (3, .ref (gA g 12))]) hx hb dL_law_1100 hl (k := 2) rfl (s_nx t) (by decide) rfl (fun ls hl => ?_)
    refine lv_goto (tgt := 23) hx hb dL_law_1103 (by decide) ?_
    refine W.widen (k := CC (t + 1)) (n := SS (t + 1)) (by unfold CC; omega) (by unfold SS; omega) ?_
    exact hn a1 σ1 (thr12 μ (kMX μ (xs (nI (6 * t) + 1).toNatClampNeg) (xs (nI (6 * t) + 2).toNatClampNeg))) o1 H locs ls hR1 hW hS (by exact lv_sub hl [0, 3, 4, 5, 6] rfl)

set_option maxHeartbeats 1000000 in
set_option maxRecDepth 100000 in
theorem law_foretold {p : Program} {l : Launch} {e : Env} {s : State} {m : MethodId} {below : List Frame} {meth : Method} {c : Code} {b L : Nat} {xs : Nat → Int32} {g : Ge} (C0 : lwC l p s m meth c b L xs g) {t : Nat} (ht : 6 * t + 6 ≤ L) (hn : lwG p l e s m below meth c b g (t + 1) 23) : lwG p l e s m below meth c b g t 1031 := by
  obtain ⟨⟨hx, hb, hr, hml, hown, hts, hX, hbl, hlocks, hgv⟩, hC, hz, hfl, hL⟩ := C0
  intro a σ μ o H locs ls hR hW hS hl
  have htsW : ∀ w ∈ wsL_law, w.before #[Value.ref b] s = true := fun w h => hts w (wsL_law_in w h)
  have hbA : ¬ Az g b := fun h => by unfold Az at h; rw [hz] at h; exact absurd hbl (by omega)
  have hM := hR.M
  have ha := hR.ha
  unfold CC SS
  have hl : lv_has ls 7 [(4, .int (nI (6 * t))), (0, .ref b), (1, .ref (gA g 0)), (2, .ref (gA g 4)), (3, .ref (gA g 12))] := hl
  refine lv_aload_n hx hb dL_law_1031 rfl (lv_at hl 2 rfl) ?_
  refine lv_aload_n hx hb dL_law_1032 rfl (lv_at hl 1 rfl) ?_
  refine lv_iload hx hb dL_law_1033 (lv_at hl 0 rfl) ?_
  refine lv_iconst (v := 1) hx hb dL_law_1035 (by decide) ?_
  refine lv_iadd hx hb dL_law_1036 ?_
  refine va_sld hx hb hX hbl hbA hS (s_in (k := 1) ht hL (by decide)) dL_law_1037 ?_
  refine lv_aload_n hx hb dL_law_1038 rfl (lv_at hl 4 rfl) ?_
  refine va_calli (vx_runSW (As := [.ref (gA g 0), .int ((xs (nI (6 * t) + 1).toNatClampNeg)), .ref (gA g 12)]) (rest := []) ⟨hx, hb, hml, hown, htsW⟩ (mtL_foretold l g σ μ o hfl (xs (nI (6 * t) + 1).toNatClampNeg)) (vx_cwSW 3 htsW gL_law_L_foretold rfl rfl rfl (by decide +kernel) ⟨Nat.le_of_ble_eq_true rfl, Nat.le_of_ble_eq_true rfl⟩) ⟨PW.blind, fun U hU hW9 => ⟨rfl, PW.at hC hS hW U hU hW9⟩⟩ rfl rfl hl.1 rfl (lv_room (Nat.le_of_ble_eq_true rfl)) dL_law_1039 ⟨show 29 + 4 * t + 1 ≤ 638081 by omega, show 611 + 24 * t + 6 ≤ 7181861 by omega⟩) hS (fun _ _ h => h) (fun _ h => h) (fun k y t9 H locs ht9 hvm hq hB hz9 hk9 hS => ?_)
  have hF := op_foretold hR (xs (nI (6 * t) + 1).toNatClampNeg)
  obtain ⟨σ1, o1, a1, hk, hW, hR1, ho⟩ := opx (w := fun r => r.toInt64) hF (fun _ _ h => h.1) hq hB
  have hth := hF.2.1
  rw [ht9] at hW
  refine lv_istore (lv' := [(5, .int k), (4, .int (nI (6 * t))), (0, .ref b), (1, .ref (gA g 0)), (2, .ref (gA g 4)), (3, .ref (gA g 12))]) hx hb dL_law_1042 hl (by decide) rfl (fun ls hl => ?_)
  refine lv_aload_n hx hb dL_law_1044 rfl (lv_at hl 4 rfl) ?_
  refine lv_aload_n hx hb dL_law_1045 rfl (lv_at hl 2 rfl) ?_
  refine lv_iload hx hb dL_law_1046 (lv_at hl 1 rfl) ?_
  refine lv_iconst (v := 1) hx hb dL_law_1048 (by decide) ?_
  refine lv_iadd hx hb dL_law_1049 ?_
  refine va_sld hx hb hX hbl hbA hS (s_in (k := 1) ht hL (by decide)) dL_law_1050 ?_
  refine va_calli (va_runV (As := [.int ((xs (nI (6 * t) + 1).toNatClampNeg))]) (rest := []) ⟨hx, hb, hml, hown, htsW⟩ (mtX3_foretold l g σ1 μ o1 (xs (nI (6 * t) + 1).toNatClampNeg) a hM ha) (cwV 1 htsW gL_law_X3_foretold rfl rfl rfl (by decide +kernel) ⟨Nat.le_of_ble_eq_true rfl, Nat.le_of_ble_eq_true rfl⟩) ⟨PW.blind, rcM hC hW, fun U hU hW9 => ⟨rfl, PW.at hC hS hW U hU hW9⟩⟩ rfl rfl hl.1 rfl (lv_room (Nat.le_of_ble_eq_true rfl)) dL_law_1051 ⟨show 29 + 4 * t + 1 + 0 ≤ 638081 by omega, show 611 + 24 * t + 6 + 0 ≤ 7181861 by omega⟩) hS (fun _ _ h => h) (fun _ h => h) (fun r2 u2 t8 H locs ht8 hvm2 h2 hW hz8 hk8 hS => ?_)
  replace hW : Wd g σ1 (thr12 μ (kMR μ (xs (nI (6 * t) + 1).toNatClampNeg))) o1 H := by rw [← ht8]; exact hW
  replace h2 : r2 = foR μ (xs (nI (6 * t) + 1).toNatClampNeg) := h2
  refine lv_istore (lv' := [(6, .int r2), (5, .int k), (4, .int (nI (6 * t))), (0, .ref b), (1, .ref (gA g 0)), (2, .ref (gA g 4)), (3, .ref (gA g 12))]) hx hb dL_law_1054 hl (by decide) rfl (fun ls hl => ?_)
  refine lv_aload_n hx hb dL_law_1056 rfl (lv_at hl 5 rfl) ?_
  refine vp_callSi (va_Run.run (va_runV (As := []) (rest := []) ⟨hx, hb, hml, hown, htsW⟩ (mtX3_thrown l g σ1 ((thr12 μ (kMR μ (xs (nI (6 * t) + 1).toNatClampNeg)))) o1 ) (cwV 0 htsW gL_law_X3_thrown rfl rfl rfl (by decide +kernel) ⟨Nat.le_of_ble_eq_true rfl, Nat.le_of_ble_eq_true rfl⟩) ⟨PW.blind, rcM hC hW, fun U hU hW9 => ⟨rfl, PW.at hC hS hW U hU hW9⟩⟩ rfl rfl hl.1 rfl (lv_room (Nat.le_of_ble_eq_true rfl)) dL_law_1057 ⟨show 29 + 4 * t + 1 + 0 + 0 ≤ 638081 by omega, show 611 + 24 * t + 6 + 0 + 0 ≤ 7181861 by omega⟩)) (fun r1 h1 => ?_)
  replace h1 : r1 = ((thr12 μ (kMR μ (xs (nI (6 * t) + 1).toNatClampNeg)))).1 12 := h1
  refine lv_iload hx hb dL_law_1060 (lv_at hl 1 rfl) ?_
  refine lv_icmp_eq (tgt := 1067) hx hb dL_law_1062 (by decide) (fun c1 => ?_) (fun c1 => ?_)
  rotate_left
  · exact absurd (h1.trans (hth.trans hk.symm)) c1
  refine lv_iload hx hb dL_law_1067 (lv_at hl 1 rfl) ?_
  refine lv_if_ne (tgt := 1084) hx hb dL_law_1069 (by decide) (fun c2 => ?_) (fun c2 => ?_)
  · skip
    refine lv_goto (tgt := 1100) hx hb dL_law_1084 (by decide) ?_
    refine lv_iinc (v := nI (6 * (t + 1))) (lv' := [(4, .int (nI (6 * (t + 1)))), (6, .int r2), (5, .int k), (0, .ref b), (1, .ref (gA g 0)), (2, .ref (gA g 4)), (3, .ref (gA g 12))]) hx hb dL_law_1100 hl (k := 2) rfl (s_nx t) (by decide) rfl (fun ls hl => ?_)
    refine lv_goto (tgt := 23) hx hb dL_law_1103 (by decide) ?_
    refine W.widen (k := CC (t + 1)) (n := SS (t + 1)) (by unfold CC; omega) (by unfold SS; omega) ?_
    exact hn a1 σ1 (thr12 μ (kMR μ (xs (nI (6 * t) + 1).toNatClampNeg))) o1 H locs ls hR1 hW hS (by exact lv_sub hl [0, 3, 4, 5, 6] rfl)
  · skip
    refine lv_aload_n hx hb dL_law_1072 rfl (lv_at hl 6 rfl) ?_
    refine lv_iconst (v := 0) hx hb dL_law_1073 (by decide) ?_
    refine oLd hx hb hC hW dL_law_1074 ?_
    refine lv_iload hx hb dL_law_1075 (lv_at hl 0 rfl) ?_
    refine lv_i2l hx hb dL_law_1077 rfl ?_
    refine W.lcmp hx hb dL_law_1078 ?_
    refine lv_if_eq (tgt := 1084) hx hb dL_law_1079 (by decide) (fun c3 => ?_) (fun c3 => absurd (by rw [ho c2, h2]; exact cmp_eq _) c3)
    refine lv_goto (tgt := 1100) hx hb dL_law_1084 (by decide) ?_
    refine lv_iinc (v := nI (6 * (t + 1))) (lv' := [(4, .int (nI (6 * (t + 1)))), (6, .int r2), (5, .int k), (0, .ref b), (1, .ref (gA g 0)), (2, .ref (gA g 4)), (3, .ref (gA g 12))]) hx hb dL_law_1100 hl (k := 2) rfl (s_nx t) (by decide) rfl (fun ls hl => ?_)
    refine lv_goto (tgt := 23) hx hb dL_law_1103 (by decide) ?_
    refine W.widen (k := CC (t + 1)) (n := SS (t + 1)) (by unfold CC; omega) (by unfold SS; omega) ?_
    exact hn a1 σ1 (thr12 μ (kMR μ (xs (nI (6 * t) + 1).toNatClampNeg))) o1 H locs ls hR1 hW hS (by exact lv_sub hl [0, 3, 4, 5, 6] rfl)

set_option maxHeartbeats 1000000 in
set_option maxRecDepth 100000 in
theorem law_register {p : Program} {l : Launch} {e : Env} {s : State} {m : MethodId} {below : List Frame} {meth : Method} {c : Code} {b L : Nat} {xs : Nat → Int32} {g : Ge} (C0 : lwC l p s m meth c b L xs g) {t : Nat} (ht : 6 * t + 6 ≤ L) (hn : lwG p l e s m below meth c b g (t + 1) 23) : lwG p l e s m below meth c b g t 1087 := by
  obtain ⟨⟨hx, hb, hr, hml, hown, hts, hX, hbl, hlocks, hgv⟩, hC, hz, hfl, hL⟩ := C0
  intro a σ μ o H locs ls hR hW hS hl
  have htsW : ∀ w ∈ wsL_law, w.before #[Value.ref b] s = true := fun w h => hts w (wsL_law_in w h)
  have hbA : ¬ Az g b := fun h => by unfold Az at h; rw [hz] at h; exact absurd hbl (by omega)
  have hM := hR.M
  have ha := hR.ha
  unfold CC SS
  have hl : lv_has ls 7 [(4, .int (nI (6 * t))), (0, .ref b), (1, .ref (gA g 0)), (2, .ref (gA g 4)), (3, .ref (gA g 12))] := hl
  refine lv_aload_n hx hb dL_law_1087 rfl (lv_at hl 2 rfl) ?_
  refine vp_callSi (va_Run.run (va_runV (As := []) (rest := []) ⟨hx, hb, hml, hown, htsW⟩ (mtX2_register l g σ μ o ) (cwV 0 htsW gL_law_X2_register rfl rfl rfl (by decide +kernel) ⟨Nat.le_of_ble_eq_true rfl, Nat.le_of_ble_eq_true rfl⟩) ⟨PW.blind, rcB hC hW, fun U hU hW9 => ⟨rfl, PW.at hC hS hW U hU hW9⟩⟩ rfl rfl hl.1 rfl (lv_room (Nat.le_of_ble_eq_true rfl)) dL_law_1088 ⟨show 29 + 4 * t + 0 + 0 + 0 ≤ 638081 by omega, show 611 + 24 * t + 0 + 0 + 0 ≤ 7181861 by omega⟩)) (fun r1 h1 => ?_)
  replace h1 : r1 = σ.1 6 := h1
  refine lv_aload_n hx hb dL_law_1091 rfl (lv_at hl 3 rfl) ?_
  refine va_calli (va_runV (As := []) (rest := [.int r1]) ⟨hx, hb, hml, hown, htsW⟩ (mtX3_register l g σ μ o ) (cwV 0 htsW gL_law_X3_register rfl rfl rfl (by decide +kernel) ⟨Nat.le_of_ble_eq_true rfl, Nat.le_of_ble_eq_true rfl⟩) ⟨PW.blind, rcM hC hW, fun U hU hW9 => ⟨rfl, PW.at hC hS hW U hU hW9⟩⟩ rfl rfl hl.1 rfl (lv_room (Nat.le_of_ble_eq_true rfl)) dL_law_1092 ⟨show 29 + 4 * t + 0 + 0 ≤ 638081 by omega, show 611 + 24 * t + 0 + 0 ≤ 7181861 by omega⟩) hS (fun _ _ h => h) (fun _ h => h) (fun r2 u2 t8 H locs ht8 hvm2 h2 hW hz8 hk8 hS => ?_)
  replace hW : Wd g σ (thr12 μ 0) o H := by rw [← ht8]; exact hW
  replace h2 : r2 = μ.1 6 := h2
  refine lv_icmp_eq (tgt := 1100) hx hb dL_law_1095 (by decide) (fun c1 => ?_) (fun c1 => ?_)
  rotate_left
  · exact absurd (h1.trans ((hR.2.2.1.2.2.2.2.2).trans h2.symm)) c1
  refine lv_iinc (v := nI (6 * (t + 1))) (lv' := [(4, .int (nI (6 * (t + 1)))), (0, .ref b), (1, .ref (gA g 0)), (2, .ref (gA g 4)), (3, .ref (gA g 12))]) hx hb dL_law_1100 hl (k := 0) rfl (s_nx t) (by decide) rfl (fun ls hl => ?_)
  refine lv_goto (tgt := 23) hx hb dL_law_1103 (by decide) ?_
  refine W.widen (k := CC (t + 1)) (n := SS (t + 1)) (by unfold CC; omega) (by unfold SS; omega) ?_
  exact hn a σ (thr12 μ 0) o H locs ls (hR.thr 0) hW hS (by exact lv_sub hl [0, 1, 2, 3, 4] rfl)
