set_option maxHeartbeats 4000000 in
set_option maxRecDepth 100000 in
theorem mtX2_start (l : Launch) (hfl : l.stackTraces = false) (g : Ge) (σ : Sg) (μ : Mg) (o : Nat → Int64)  : vx_Met l yX2_start wsX2_start ({ frames := 6, cells := 1, slots := 6, locals := 138 } : Room) (va_Pc [.ref (gA g 0)] (PW g σ μ o)) (va_Qi (S := Nat) (fun r u => kSt σ = 0 ∧ nx σ = some u ∧ r = σ.2.1 u 1) (fun u t => Wd g (upd (upd (upd σ.1 6 (mz (σ.2.2.1 0) (σ.2.1 u))) 2 (-1)) 5 (σ.2.1 u 1), up2 σ.2.1 u (us1 (σ.2.1 u)), upd σ.2.2.1 3 0, σ.2.2.2) μ o t.heap) (Az g)) (vx_X (S := Unit) (fun _ => True) (fun E _ t => (E = xIS ∧ kSt σ = 1) ∧ Wd g σ μ o t.heap) (Az g)) 1 6 (Az g) := by
  refine vx_ofW (cc := cX2_start) (maxL := 2) (ret := (some .int)) (by decide) rfl ?_
  intro p e s m args below meth c s₁ B hml hxt hv
  obtain ⟨rfl, hC, hW⟩ := hv
  have hx := B.exec
  have hb := B.bytes
  have hr := B.returns
  have hts := atoms_spec (ws := wsX2_start) B.pre
  have hown : s.vm.findClass RX2 = some m.cls := findClass_of_methodNamed B.named
  have hlocks := B.notSynchronized
  have hinX1 : ∀ w ∈ wsX10, w ∈ wsX2_start := by decide +kernel
  have hinX2 : ∀ w ∈ wsX20, w ∈ wsX2_start := by decide +kernel
  have hxw67 : ∀ w ∈ (vx_atS RX2 67 "java/lang/IllegalStateException" ["java/lang/RuntimeException", "java/lang/Exception"]).filter goodWord, w ∈ wsX2_start := by decide +kernel
  have hS : va_S (Az g) s.heap s.heap [] := va_S.rf
  have hl := lv_entry ([.ref (gA g 0)]) (n := 2) (Nat.le_of_ble_eq_true rfl)
  rw [lg_entry_eq]
  generalize (lg_sl ([.ref (gA g 0)]) ++ List.replicate (2 - (lg_sl ([.ref (gA g 0)])).length) Slot.unset).toArray = ls at hl ⊢
  have hl : lv_has ls 2 [(0, .ref (gA g 0))] := hl
  refine lv_aload_n hx hb dX2_start_0 rfl (lv_at hl 0 rfl) ?_
  refine va_csq (va_Run.run (va_runV (As := []) (rest := []) ⟨hx, hb, hml, hown, hts⟩ (mtX2_nextEntry l g σ μ o ) (cwV 0 hts gX2_start_X2_nextEntry rfl rfl rfl (by decide +kernel) ⟨Nat.le_of_ble_eq_true rfl, Nat.le_of_ble_eq_true rfl⟩) ⟨PW.blind, rcB hC hW, fun U hU hW9 => ⟨rfl, PW.at hC hS hW U hU hW9⟩⟩ rfl rfl hl.1 rfl (lv_room (Nat.le_of_ble_eq_true rfl)) dX2_start_1 ⟨Nat.le_of_ble_eq_true rfl, Nat.le_of_ble_eq_true rfl⟩)) (fun r_2 h_1 => ?_)
  replace h_1 : r_2 = (nx σ).map (fun j => gA g (13 + j)) := h_1
  rcases optc (nx σ) with f_3 | ⟨j_4, f_3⟩
  · skip
    obtain rfl : r_2 = none := by rw [h_1, f_3]; rfl
    refine lv_astore_nN (lv' := [(1, .null), (0, .ref (gA g 0))]) hx hb dX2_start_4 rfl hl (by decide) rfl (fun ls hl => ?_)
    refine lv_aload_nN hx hb dX2_start_5 rfl (lv_at hl 0 rfl) ?_
    refine lv_ifnonnullN hx hb dX2_start_6 ?_
    obtain ⟨sa_5, hsa_5⟩ := hC.2.1.2.1 (RX2, 107, "there are no entries") (by decide +kernel)
    refine vx_throwS (own := RX2) (cls := xIS) (text := "there are no entries") (names := ["java/lang/RuntimeException", "java/lang/Exception"]) (ik := 63) (is := 107) (ic := 67) (sa := sa_5) (A := Az g) hx hb hfl hown (by decide +kernel) (by decide +kernel) (hts (.classLink RX2 63 "java/lang/IllegalStateException") (by decide +kernel)) (hts (.initialized "java/lang/IllegalStateException") (by decide +kernel)) hsa_5 (vx_hat (B := xwB xIS) (fun w h => hts w (hxw67 w h)) (by decide +kernel) (cast_w hC.2.1 (by decide +kernel))) (by decide +kernel) hC.2.2.1.1 hC.2.2.1.2 hS (hl.1.trans hml.symm) dX2_start_9 dX2_start_12 dX2_start_13 dX2_start_15 dX2_start_18 (fun x h => (hxt x h).elim) (Nat.le_of_ble_eq_true rfl) (Nat.le_of_ble_eq_true rfl) (Nat.le_of_ble_eq_true rfl) (Nat.le_of_ble_eq_true rfl) hlocks (fun t9 hv9 hz9 hq9 => ⟨(), trivial, ⟨⟨rfl, by simp [kSt, f_3]⟩, Wd_up hW hz9 hq9⟩, va_F_up hS hz9 hq9⟩) hS.2.2 (Nat.le_of_ble_eq_true rfl) (Nat.le_of_ble_eq_true rfl)
  · skip
    obtain rfl : r_2 = some (gA g (13 + j_4)) := by rw [h_1, f_3]; rfl
    have hj_4 : j_4 < 16 := nx_16 f_3
    refine lv_astore_n (lv' := [(1, .ref (gA g (13 + j_4))), (0, .ref (gA g 0))]) hx hb dX2_start_4 rfl hl (by decide) rfl (fun ls hl => ?_)
    refine lv_aload_n hx hb dX2_start_5 rfl (lv_at hl 0 rfl) ?_
    refine lv_ifnonnull (tgt := 19) hx hb dX2_start_6 (by decide) ?_
    refine lv_aload_n hx hb dX2_start_19 rfl (lv_at hl 1 rfl) ?_
    refine lv_aload_n hx hb dX2_start_20 rfl (lv_at hl 1 rfl) ?_
    refine lv_aload_n hx hb dX2_start_21 rfl (lv_at hl 0 rfl) ?_
    refine vp_callSi (va_Run.run (va_runV (As := [.ref (gA g (13 + j_4))]) (rest := [.ref (gA g 0)]) ⟨hx, hb, hml, hown, hts⟩ (mtX2_measure l g σ μ o j_4 hj_4) (cwV 1 hts gX2_start_X2_measure rfl rfl rfl (by decide +kernel) ⟨Nat.le_of_ble_eq_true rfl, Nat.le_of_ble_eq_true rfl⟩) ⟨PW.blind, rcB hC hW, fun U hU hW9 => ⟨rfl, PW.at hC hS hW U hU hW9⟩⟩ rfl rfl hl.1 rfl (lv_room (Nat.le_of_ble_eq_true rfl)) dX2_start_22 ⟨Nat.le_of_ble_eq_true rfl, Nat.le_of_ble_eq_true rfl⟩)) (fun r_7 h_6 => ?_)
    obtain rfl : r_7 = mz (σ.2.2.1 0) (σ.2.1 j_4) := h_6
    refine pB hx hb hts hinX2 hown hC hS hW 6 (by decide) (by decide +kernel) ((mz (σ.2.2.1 0) (σ.2.1 j_4))) dX2_start_25 (fun H locs hW hS => ?_)
    refine lv_aload_n hx hb dX2_start_28 rfl (lv_at hl 1 rfl) ?_
    refine lv_iconst (v := (-1)) hx hb dX2_start_29 (by decide) ?_
    refine pB hx hb hts hinX2 hown hC hS hW 2 (by decide) (by decide +kernel) ((-1)) dX2_start_30 (fun H locs hW hS => ?_)
    refine lv_aload_n hx hb dX2_start_33 rfl (lv_at hl 1 rfl) ?_
    refine lv_aload_n hx hb dX2_start_34 rfl (lv_at hl 0 rfl) ?_
    refine gEn (v := .int (σ.2.1 j_4 1)) hx hb hts hinX1 hown hC hW hj_4 1 (by decide) (by decide +kernel) rfl rfl dX2_start_35 ?_
    refine pB hx hb hts hinX2 hown hC hS hW 5 (by decide) (by decide +kernel) (σ.2.1 j_4 1) dX2_start_38 (fun H locs hW hS => ?_)
    refine lv_aload_n hx hb dX2_start_41 rfl (lv_at hl 0 rfl) ?_
    refine va_callv (va_runVN (As := []) (rest := []) ⟨hx, hb, hml, hown, hts⟩ (mtX1_useTry l g ((upd (upd (upd σ.1 6 ((mz (σ.2.2.1 0) (σ.2.1 j_4)))) 2 ((-1))) 5 (σ.2.1 j_4 1), σ.2.1, σ.2.2.1, σ.2.2.2)) μ o j_4 hj_4) ⟨(va_cnB (host := "BootChooser") 0 hts gX2_start_X1_useTry_n113 rfl rfl rfl (va_Nw.of (A := #[]) rfl (hC.2.1.nest (w := .methodLinkNest RX2 113 yX1_useTry "BootChooser") (by decide +kernel) rfl)) (hts (.initialized RX1) (by decide +kernel)) (by decide +kernel) ⟨Nat.le_of_ble_eq_true rfl, Nat.le_of_ble_eq_true rfl⟩), (hts (.instanceMethod yX1_useTry) (by decide +kernel)), (hts (.selects RX1 yX1_useTry yX1_useTry) (by decide +kernel))⟩ ⟨PW.blind, rcE hC hW hj_4, fun U hU hW9 => ⟨rfl, PW.at hC hS hW U hU hW9⟩⟩ rfl rfl hl.1 rfl (lv_room (Nat.le_of_ble_eq_true rfl)) dX2_start_42 ⟨Nat.le_of_ble_eq_true rfl, Nat.le_of_ble_eq_true rfl⟩) hS (fun _ _ h => h) (fun _ h => h) (fun u_10 t H locs ht hvm h_8 hW hz9 hk9 hS => ?_)
    replace hW : Wd g ((upd (upd (upd σ.1 6 ((mz (σ.2.2.1 0) (σ.2.1 j_4)))) 2 ((-1))) 5 (σ.2.1 j_4 1), up2 σ.2.1 j_4 (us1 (σ.2.1 j_4)), σ.2.2.1, σ.2.2.2)) μ o H := by rw [← ht]; exact hW
    try dsimp only at h_8
    refine lv_aload_n hx hb dX2_start_45 rfl (lv_at hl 1 rfl) ?_
    refine gB (v := .ref (gA g 2)) hx hb hts hinX2 hown hC hW 1 (by decide) (by decide +kernel) rfl rfl dX2_start_46 ?_
    refine va_callv (va_runVN (As := []) (rest := []) ⟨hx, hb, hml, hown, hts⟩ (mtX0_forgetDigits l g ((upd (upd (upd σ.1 6 ((mz (σ.2.2.1 0) (σ.2.1 j_4)))) 2 ((-1))) 5 (σ.2.1 j_4 1), up2 σ.2.1 j_4 (us1 (σ.2.1 j_4)), σ.2.2.1, σ.2.2.2)) μ o ) ⟨(va_cnB (host := "BootChooser") 0 hts gX2_start_X0_forgetDigits_n116 rfl rfl rfl (va_Nw.of (A := #[]) rfl (hC.2.1.nest (w := .methodLinkNest RX2 116 yX0_forgetDigits "BootChooser") (by decide +kernel) rfl)) (hts (.initialized RX0) (by decide +kernel)) (by decide +kernel) ⟨Nat.le_of_ble_eq_true rfl, Nat.le_of_ble_eq_true rfl⟩), (hts (.instanceMethod yX0_forgetDigits) (by decide +kernel)), (hts (.selects RX0 yX0_forgetDigits yX0_forgetDigits) (by decide +kernel))⟩ ⟨PW.blind, rcL hC hW, fun U hU hW9 => ⟨rfl, PW.at hC hS hW U hU hW9⟩⟩ rfl rfl hl.1 rfl (lv_room (Nat.le_of_ble_eq_true rfl)) dX2_start_49 ⟨Nat.le_of_ble_eq_true rfl, Nat.le_of_ble_eq_true rfl⟩) hS (fun _ _ h => h) (fun _ h => h) (fun u_14 t H locs ht hvm h_12 hW hz9 hk9 hS => ?_)
    replace hW : Wd g ((upd (upd (upd σ.1 6 ((mz (σ.2.2.1 0) (σ.2.1 j_4)))) 2 ((-1))) 5 (σ.2.1 j_4 1), up2 σ.2.1 j_4 (us1 (σ.2.1 j_4)), upd σ.2.2.1 3 0, σ.2.2.2)) μ o H := by rw [← ht]; exact hW
    try dsimp only at h_12
    refine lv_aload_n hx hb dX2_start_52 rfl (lv_at hl 0 rfl) ?_
    refine gEn (v := .int ((up2 σ.2.1 j_4 (us1 (σ.2.1 j_4))) j_4 1)) hx hb hts hinX1 hown hC hW hj_4 1 (by decide) (by decide +kernel) rfl rfl dX2_start_53 ?_
    refine vx_ret (W.widen (k := 1) (n := 6) (Nat.le_of_ble_eq_true rfl) (Nat.le_of_ble_eq_true rfl) ?_)
    exact W.iret (v := (up2 σ.2.1 j_4 (us1 (σ.2.1 j_4))) j_4 1) hx hb hr (fun t ht hW9 => ⟨⟨_, j_4, rfl, ⟨by simp [kSt, f_3], f_3, by rw [up2_s, us1_1]⟩, by first | (rw [ht]; exact hW) | (dsimp only; rw [ht]; exact hW)⟩, hS.F ht⟩) hS.2.2 dX2_start_56
set_option maxHeartbeats 4000000 in
set_option maxRecDepth 100000 in
theorem mtX2_good (l : Launch) (hfl : l.stackTraces = false) (g : Ge) (σ : Sg) (μ : Mg) (o : Nat → Int64)  : vx_Met l yX2_good wsX2_good ({ frames := 6, cells := 1, slots := 6, locals := 90 } : Room) (va_Pc [.ref (gA g 0)] (PW g σ μ o)) (va_Qi (S := Unit) (fun r _ => kGo σ = 0 ∧ r = goR σ) (fun _ t => Wd g (σ.1, goE σ, σ.2.2) μ o t.heap) (Az g)) (vx_X (S := Unit) (fun _ => True) (fun E _ t => (E = xIS ∧ kGo σ = 1) ∧ Wd g σ μ o t.heap) (Az g)) 1 6 (Az g) := by
  refine vx_ofW (cc := cX2_good) (maxL := 3) (ret := (some .int)) (by decide) rfl ?_
  intro p e s m args below meth c s₁ B hml hxt hv
  obtain ⟨rfl, hC, hW⟩ := hv
  have hx := B.exec
  have hb := B.bytes
  have hr := B.returns
  have hts := atoms_spec (ws := wsX2_good) B.pre
  have hown : s.vm.findClass RX2 = some m.cls := findClass_of_methodNamed B.named
  have hlocks := B.notSynchronized
  have hinX1 : ∀ w ∈ wsX10, w ∈ wsX2_good := by decide +kernel
  have hinX2 : ∀ w ∈ wsX20, w ∈ wsX2_good := by decide +kernel
  have hxw67 : ∀ w ∈ (vx_atS RX2 67 "java/lang/IllegalStateException" ["java/lang/RuntimeException", "java/lang/Exception"]).filter goodWord, w ∈ wsX2_good := by decide +kernel
  have hS : va_S (Az g) s.heap s.heap [] := va_S.rf
  have hl := lv_entry ([.ref (gA g 0)]) (n := 3) (Nat.le_of_ble_eq_true rfl)
  rw [lg_entry_eq]
  generalize (lg_sl ([.ref (gA g 0)]) ++ List.replicate (3 - (lg_sl ([.ref (gA g 0)])).length) Slot.unset).toArray = ls at hl ⊢
  have hl : lv_has ls 3 [(0, .ref (gA g 0))] := hl
  refine lv_aload_n hx hb dX2_good_0 rfl (lv_at hl 0 rfl) ?_
  refine gB (v := .int (σ.1 5)) hx hb hts hinX2 hown hC hW 7 (by decide) (by decide +kernel) rfl rfl dX2_good_1 ?_
  refine lv_iconst (v := (-1)) hx hb dX2_good_4 (by decide) ?_
  refine lv_icmp_ne (tgt := 18) hx hb dX2_good_5 (by decide) (fun c_1 => ?_) (fun c_1 => ?_)
  · skip
    refine lv_aload_n hx hb dX2_good_18 rfl (lv_at hl 0 rfl) ?_
    refine lv_aload_n hx hb dX2_good_19 rfl (lv_at hl 0 rfl) ?_
    refine gB (v := .int (σ.1 5)) hx hb hts hinX2 hown hC hW 7 (by decide) (by decide +kernel) rfl rfl dX2_good_20 ?_
    refine va_csq (va_Run.run (va_runV (As := [.int (σ.1 5)]) (rest := []) ⟨hx, hb, hml, hown, hts⟩ (mtX2_findEntry l g σ μ o (σ.1 5)) (cwV 1 hts gX2_good_X2_findEntry rfl rfl rfl (by decide +kernel) ⟨Nat.le_of_ble_eq_true rfl, Nat.le_of_ble_eq_true rfl⟩) ⟨PW.blind, rcB hC hW, fun U hU hW9 => ⟨rfl, PW.at hC hS hW U hU hW9⟩⟩ rfl rfl hl.1 rfl (lv_room (Nat.le_of_ble_eq_true rfl)) dX2_good_23 ⟨Nat.le_of_ble_eq_true rfl, Nat.le_of_ble_eq_true rfl⟩)) (fun r_3 h_2 => ?_)
    replace h_2 : r_3 = (fs (pN σ.2.1 (σ.1 5)) 16).map (fun j => gA g (13 + j)) := h_2
    rcases optc (fs (pN σ.2.1 (σ.1 5)) 16) with f_4 | ⟨j_5, f_4⟩
    · skip
      obtain rfl : r_3 = none := by rw [h_2, f_4]; rfl
      refine lv_astore_nN (lv' := [(1, .null), (0, .ref (gA g 0))]) hx hb dX2_good_26 rfl hl (by decide) rfl (fun ls hl => ?_)
      refine lv_aload_nN hx hb dX2_good_27 rfl (lv_at hl 0 rfl) ?_
      refine lv_ifnonnullN hx hb dX2_good_28 ?_
      refine lv_iconst (v := (-1)) hx hb dX2_good_31 (by decide) ?_
      refine vx_ret (W.widen (k := 1) (n := 6) (Nat.le_of_ble_eq_true rfl) (Nat.le_of_ble_eq_true rfl) ?_)
      exact W.iret (v := (-1)) hx hb hr (fun t ht hW9 => ⟨⟨_, (), rfl, ⟨by simp [kGo, c_1, f_4], by simp [goR, oel_s, oel_n, c_1, f_4]⟩, by dsimp only; rw [ht, show goE σ = σ.2.1 from by simp [goE, oel_s, oel_n, f_4]]; exact hW⟩, hS.F ht⟩) hS.2.2 dX2_good_32
    · skip
      obtain rfl : r_3 = some (gA g (13 + j_5)) := by rw [h_2, f_4]; rfl
      have hj_5 : j_5 < 16 := fs_16 f_4
      refine lv_astore_n (lv' := [(1, .ref (gA g (13 + j_5))), (0, .ref (gA g 0))]) hx hb dX2_good_26 rfl hl (by decide) rfl (fun ls hl => ?_)
      refine lv_aload_n hx hb dX2_good_27 rfl (lv_at hl 0 rfl) ?_
      refine lv_ifnonnull (tgt := 33) hx hb dX2_good_28 (by decide) ?_
      refine lv_aload_n hx hb dX2_good_33 rfl (lv_at hl 0 rfl) ?_
      refine gEn (v := .int (σ.2.1 j_5 7)) hx hb hts hinX1 hown hC hW hj_5 7 (by decide) (by decide +kernel) rfl rfl dX2_good_34 ?_
      refine lv_istore_n (lv' := [(2, .int (σ.2.1 j_5 7)), (1, .ref (gA g (13 + j_5))), (0, .ref (gA g 0))]) hx hb dX2_good_37 rfl hl (by decide) rfl (fun ls hl => ?_)
      refine lv_aload_n hx hb dX2_good_38 rfl (lv_at hl 1 rfl) ?_
      refine lv_iconst (v := (-1)) hx hb dX2_good_39 (by decide) ?_
      refine pEn (ty := .int) hx hb hts hinX1 hown hC hS hW hj_5 7 (by decide) (by decide +kernel) (by decide +kernel) ((-1)) rfl rfl dX2_good_40 (fun H locs hW hS => ?_)
      refine lv_iload_n hx hb dX2_good_43 rfl (lv_at hl 0 rfl) ?_
      refine vx_ret (W.widen (k := 1) (n := 6) (Nat.le_of_ble_eq_true rfl) (Nat.le_of_ble_eq_true rfl) ?_)
      exact W.iret (v := σ.2.1 j_5 7) hx hb hr (fun t ht hW9 => ⟨⟨_, (), rfl, ⟨by simp [kGo, c_1, f_4], by simp [goR, oel_s, oel_n, c_1, f_4]⟩, by dsimp only; rw [ht, show goE σ = up2 σ.2.1 j_5 (upd (σ.2.1 j_5) 7 ((-1))) from by simp [goE, oel_s, oel_n, f_4]]; exact hW⟩, hS.F ht⟩) hS.2.2 dX2_good_44
  · skip
    obtain ⟨sa_6, hsa_6⟩ := hC.2.1.2.1 (RX2, 119, "nothing runs") (by decide +kernel)
    refine vx_throwS (own := RX2) (cls := xIS) (text := "nothing runs") (names := ["java/lang/RuntimeException", "java/lang/Exception"]) (ik := 63) (is := 119) (ic := 67) (sa := sa_6) (A := Az g) hx hb hfl hown (by decide +kernel) (by decide +kernel) (hts (.classLink RX2 63 "java/lang/IllegalStateException") (by decide +kernel)) (hts (.initialized "java/lang/IllegalStateException") (by decide +kernel)) hsa_6 (vx_hat (B := xwB xIS) (fun w h => hts w (hxw67 w h)) (by decide +kernel) (cast_w hC.2.1 (by decide +kernel))) (by decide +kernel) hC.2.2.1.1 hC.2.2.1.2 hS (hl.1.trans hml.symm) dX2_good_8 dX2_good_11 dX2_good_12 dX2_good_14 dX2_good_17 (fun x h => (hxt x h).elim) (Nat.le_of_ble_eq_true rfl) (Nat.le_of_ble_eq_true rfl) (Nat.le_of_ble_eq_true rfl) (Nat.le_of_ble_eq_true rfl) hlocks (fun t9 hv9 hz9 hq9 => ⟨(), trivial, ⟨⟨rfl, by simp [kGo, c_1]⟩, Wd_up hW hz9 hq9⟩, va_F_up hS hz9 hq9⟩) hS.2.2 (Nat.le_of_ble_eq_true rfl) (Nat.le_of_ble_eq_true rfl)
set_option maxHeartbeats 4000000 in
set_option maxRecDepth 100000 in
theorem mtX2_running (l : Launch) (g : Ge) (σ : Sg) (μ : Mg) (o : Nat → Int64)  : Met l yX2_running wsX2_running ({ frames := 0, cells := 0, slots := 0, locals := 0 } : Room) (va_Pc [.ref (gA g 0)] (PW g σ μ o)) (vp_Si (fun r => r = σ.1 5)) 0 0 (fun _ => False) := by
  refine Met.ofW (cc := cX2_running) (maxL := 1) (ret := (some .int)) (by decide) rfl ?_
  intro p e s m args below meth c s₁ B hml hv
  obtain ⟨rfl, hC, hW⟩ := hv
  have hx := B.exec
  have hb := B.bytes
  have hr := B.returns
  have hts := atoms_spec (ws := wsX2_running) B.pre
  have hown : s.vm.findClass RX2 = some m.cls := findClass_of_methodNamed B.named
  have hlocks := B.notSynchronized
  have hinX2 : ∀ w ∈ wsX20, w ∈ wsX2_running := by decide +kernel
  have hS : va_S (Az g) s.heap s.heap [] := va_S.rf
  have hl := lv_entry ([.ref (gA g 0)]) (n := 1) (Nat.le_of_ble_eq_true rfl)
  rw [lg_entry_eq]
  generalize (lg_sl ([.ref (gA g 0)]) ++ List.replicate (1 - (lg_sl ([.ref (gA g 0)])).length) Slot.unset).toArray = ls at hl ⊢
  have hl : lv_has ls 1 [(0, .ref (gA g 0))] := hl
  refine lv_aload_n hx hb dX2_running_0 rfl (lv_at hl 0 rfl) ?_
  refine gB (v := .int (σ.1 5)) hx hb hts hinX2 hown hC hW 7 (by decide) (by decide +kernel) rfl rfl dX2_running_1 ?_
  exact W.iret (v := σ.1 5) hx hb hr (fun t ht hW9 => ⟨_, rfl, rfl, ht⟩) (fun q h => by cases h) dX2_running_4
set_option maxHeartbeats 4000000 in
set_option maxRecDepth 100000 in
theorem mtX2_register (l : Launch) (g : Ge) (σ : Sg) (μ : Mg) (o : Nat → Int64)  : Met l yX2_register wsX2_register ({ frames := 0, cells := 0, slots := 0, locals := 0 } : Room) (va_Pc [.ref (gA g 0)] (PW g σ μ o)) (vp_Si (fun r => r = σ.1 6)) 0 0 (fun _ => False) := by
  refine Met.ofW (cc := cX2_register) (maxL := 1) (ret := (some .int)) (by decide) rfl ?_
  intro p e s m args below meth c s₁ B hml hv
  obtain ⟨rfl, hC, hW⟩ := hv
  have hx := B.exec
  have hb := B.bytes
  have hr := B.returns
  have hts := atoms_spec (ws := wsX2_register) B.pre
  have hown : s.vm.findClass RX2 = some m.cls := findClass_of_methodNamed B.named
  have hlocks := B.notSynchronized
  have hinX2 : ∀ w ∈ wsX20, w ∈ wsX2_register := by decide +kernel
  have hS : va_S (Az g) s.heap s.heap [] := va_S.rf
  have hl := lv_entry ([.ref (gA g 0)]) (n := 1) (Nat.le_of_ble_eq_true rfl)
  rw [lg_entry_eq]
  generalize (lg_sl ([.ref (gA g 0)]) ++ List.replicate (1 - (lg_sl ([.ref (gA g 0)])).length) Slot.unset).toArray = ls at hl ⊢
  have hl : lv_has ls 1 [(0, .ref (gA g 0))] := hl
  refine lv_aload_n hx hb dX2_register_0 rfl (lv_at hl 0 rfl) ?_
  refine gB (v := .int (σ.1 6)) hx hb hts hinX2 hown hC hW 8 (by decide) (by decide +kernel) rfl rfl dX2_register_1 ?_
  exact W.iret (v := σ.1 6) hx hb hr (fun t ht hW9 => ⟨_, rfl, rfl, ht⟩) (fun q h => by cases h) dX2_register_4
set_option maxHeartbeats 4000000 in
set_option maxRecDepth 100000 in
theorem mtX2_entries (l : Launch) (g : Ge) (σ : Sg) (μ : Mg) (o : Nat → Int64)  : Met l yX2_entries wsX2_entries ({ frames := 1, cells := 0, slots := 0, locals := 25 } : Room) (va_Pc [.ref (gA g 0)] (PW g σ μ o)) (vp_Si (fun r => r = nI (ct (thr σ.2.1) 16))) 0 0 (fun _ => False) := by
  refine Met.ofW (cc := cX2_entries) (maxL := 1) (ret := (some .int)) (by decide) rfl ?_
  intro p e s m args below meth c s₁ B hml hv
  obtain ⟨rfl, hC, hW⟩ := hv
  have hx := B.exec
  have hb := B.bytes
  have hr := B.returns
  have hts := atoms_spec (ws := wsX2_entries) B.pre
  have hown : s.vm.findClass RX2 = some m.cls := findClass_of_methodNamed B.named
  have hlocks := B.notSynchronized
  have hS : va_S (Az g) s.heap s.heap [] := va_S.rf
  have hl := lv_entry ([.ref (gA g 0)]) (n := 1) (Nat.le_of_ble_eq_true rfl)
  rw [lg_entry_eq]
  generalize (lg_sl ([.ref (gA g 0)]) ++ List.replicate (1 - (lg_sl ([.ref (gA g 0)])).length) Slot.unset).toArray = ls at hl ⊢
  have hl : lv_has ls 1 [(0, .ref (gA g 0))] := hl
  refine lv_aload_n hx hb dX2_entries_0 rfl (lv_at hl 0 rfl) ?_
  refine vp_callSi (va_Run.run (va_runV (As := []) (rest := []) ⟨hx, hb, hml, hown, hts⟩ (mtX2_countEntries l g σ μ o ) (cwV 0 hts gX2_entries_X2_countEntries rfl rfl rfl (by decide +kernel) ⟨Nat.le_of_ble_eq_true rfl, Nat.le_of_ble_eq_true rfl⟩) ⟨PW.blind, rcB hC hW, fun U hU hW9 => ⟨rfl, PW.at hC hS hW U hU hW9⟩⟩ rfl rfl hl.1 rfl (lv_room (Nat.le_of_ble_eq_true rfl)) dX2_entries_1 ⟨Nat.zero_le _, Nat.zero_le _⟩)) (fun r_2 h_1 => ?_)
  obtain rfl : r_2 = nI (ct (thr σ.2.1) 16) := h_1
  exact W.iret (v := (nI (ct (thr σ.2.1) 16))) hx hb hr (fun t ht hW9 => ⟨_, rfl, rfl, ht⟩) (fun q h => by cases h) dX2_entries_4
set_option maxHeartbeats 4000000 in
set_option maxRecDepth 100000 in
theorem mtX2_next (l : Launch) (g : Ge) (σ : Sg) (μ : Mg) (o : Nat → Int64)  : Met l yX2_next wsX2_next ({ frames := 6, cells := 0, slots := 0, locals := 138 } : Room) (va_Pc [.ref (gA g 0)] (PW g σ μ o)) (vp_Si (fun r => r = nxR σ)) 0 0 (fun _ => False) := by
  refine Met.ofW (cc := cX2_next) (maxL := 2) (ret := (some .int)) (by decide) rfl ?_
  intro p e s m args below meth c s₁ B hml hv
  obtain ⟨rfl, hC, hW⟩ := hv
  have hx := B.exec
  have hb := B.bytes
  have hr := B.returns
  have hts := atoms_spec (ws := wsX2_next) B.pre
  have hown : s.vm.findClass RX2 = some m.cls := findClass_of_methodNamed B.named
  have hlocks := B.notSynchronized
  have hinX1 : ∀ w ∈ wsX10, w ∈ wsX2_next := by decide +kernel
  have hS : va_S (Az g) s.heap s.heap [] := va_S.rf
  have hl := lv_entry ([.ref (gA g 0)]) (n := 2) (Nat.le_of_ble_eq_true rfl)
  rw [lg_entry_eq]
  generalize (lg_sl ([.ref (gA g 0)]) ++ List.replicate (2 - (lg_sl ([.ref (gA g 0)])).length) Slot.unset).toArray = ls at hl ⊢
  have hl : lv_has ls 2 [(0, .ref (gA g 0))] := hl
  refine lv_aload_n hx hb dX2_next_0 rfl (lv_at hl 0 rfl) ?_
  refine va_csq (va_Run.run (va_runV (As := []) (rest := []) ⟨hx, hb, hml, hown, hts⟩ (mtX2_nextEntry l g σ μ o ) (cwV 0 hts gX2_next_X2_nextEntry rfl rfl rfl (by decide +kernel) ⟨Nat.le_of_ble_eq_true rfl, Nat.le_of_ble_eq_true rfl⟩) ⟨PW.blind, rcB hC hW, fun U hU hW9 => ⟨rfl, PW.at hC hS hW U hU hW9⟩⟩ rfl rfl hl.1 rfl (lv_room (Nat.le_of_ble_eq_true rfl)) dX2_next_1 ⟨Nat.zero_le _, Nat.zero_le _⟩)) (fun r_2 h_1 => ?_)
  replace h_1 : r_2 = (nx σ).map (fun j => gA g (13 + j)) := h_1
  rcases optc (nx σ) with f_3 | ⟨j_4, f_3⟩
  · skip
    obtain rfl : r_2 = none := by rw [h_1, f_3]; rfl
    refine lv_astore_nN (lv' := [(1, .null), (0, .ref (gA g 0))]) hx hb dX2_next_4 rfl hl (by decide) rfl (fun ls hl => ?_)
    refine lv_aload_nN hx hb dX2_next_5 rfl (lv_at hl 0 rfl) ?_
    refine lv_ifnonnullN hx hb dX2_next_6 ?_
    refine lv_iconst (v := (-1)) hx hb dX2_next_9 (by decide) ?_
    refine lv_goto (tgt := 17) hx hb dX2_next_10 (by decide) ?_
    exact W.iret (v := (-1)) hx hb hr (fun t ht hW9 => ⟨_, rfl, by simp [nxR, oel_s, oel_n, f_3], ht⟩) (fun q h => by cases h) dX2_next_17
  · skip
    obtain rfl : r_2 = some (gA g (13 + j_4)) := by rw [h_1, f_3]; rfl
    have hj_4 : j_4 < 16 := nx_16 f_3
    refine lv_astore_n (lv' := [(1, .ref (gA g (13 + j_4))), (0, .ref (gA g 0))]) hx hb dX2_next_4 rfl hl (by decide) rfl (fun ls hl => ?_)
    refine lv_aload_n hx hb dX2_next_5 rfl (lv_at hl 0 rfl) ?_
    refine lv_ifnonnull (tgt := 13) hx hb dX2_next_6 (by decide) ?_
    refine lv_aload_n hx hb dX2_next_13 rfl (lv_at hl 0 rfl) ?_
    refine gEn (v := .int (σ.2.1 j_4 1)) hx hb hts hinX1 hown hC hW hj_4 1 (by decide) (by decide +kernel) rfl rfl dX2_next_14 ?_
    exact W.iret (v := σ.2.1 j_4 1) hx hb hr (fun t ht hW9 => ⟨_, rfl, by simp [nxR, oel_s, oel_n, f_3], ht⟩) (fun q h => by cases h) dX2_next_17
set_option maxHeartbeats 4000000 in
set_option maxRecDepth 100000 in
theorem mtX2_isLocked (l : Launch) (g : Ge) (σ : Sg) (μ : Mg) (o : Nat → Int64) (hk0 : narrow .boolean (.int (σ.2.2.1 0)) = .int (σ.2.2.1 0)) : Met l yX2_isLocked wsX2_isLocked ({ frames := 0, cells := 0, slots := 0, locals := 0 } : Room) (va_Pc [.ref (gA g 0)] (PW g σ μ o)) (vp_Si (fun r => r = σ.2.2.1 0)) 0 0 (fun _ => False) := by
  refine Met.ofW (cc := cX2_isLocked) (maxL := 1) (ret := (some .boolean)) (by decide) rfl ?_
  intro p e s m args below meth c s₁ B hml hv
  obtain ⟨rfl, hC, hW⟩ := hv
  have hx := B.exec
  have hb := B.bytes
  have hr := B.returns
  have hts := atoms_spec (ws := wsX2_isLocked) B.pre
  have hown : s.vm.findClass RX2 = some m.cls := findClass_of_methodNamed B.named
  have hlocks := B.notSynchronized
  have hinX0 : ∀ w ∈ wsX00, w ∈ wsX2_isLocked := by decide +kernel
  have hinX2 : ∀ w ∈ wsX20, w ∈ wsX2_isLocked := by decide +kernel
  have hS : va_S (Az g) s.heap s.heap [] := va_S.rf
  have hl := lv_entry ([.ref (gA g 0)]) (n := 1) (Nat.le_of_ble_eq_true rfl)
  rw [lg_entry_eq]
  generalize (lg_sl ([.ref (gA g 0)]) ++ List.replicate (1 - (lg_sl ([.ref (gA g 0)])).length) Slot.unset).toArray = ls at hl ⊢
  have hl : lv_has ls 1 [(0, .ref (gA g 0))] := hl
  refine lv_aload_n hx hb dX2_isLocked_0 rfl (lv_at hl 0 rfl) ?_
  refine gB (v := .ref (gA g 2)) hx hb hts hinX2 hown hC hW 1 (by decide) (by decide +kernel) rfl rfl dX2_isLocked_1 ?_
  refine gLn (v := .int (σ.2.2.1 0)) hx hb hts hinX0 hown hC hW 1 (by decide) (by decide +kernel) rfl rfl dX2_isLocked_4 ?_
  exact W.zret (v := σ.2.2.1 0) (ty := .boolean) hx hb hr hk0 (fun t ht hW9 => ⟨_, rfl, rfl, ht⟩) (fun q h => by cases h) dX2_isLocked_7
