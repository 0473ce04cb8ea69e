set_option maxHeartbeats 4000000 in
set_option maxRecDepth 100000 in
theorem mtX2_tries (l : Launch) (hfl : l.stackTraces = false) (g : Ge) (σ : Sg) (μ : Mg) (o : Nat → Int64) (n : Int32) : vx_Met l yX2_tries wsX2_tries ({ frames := 7, cells := 1, slots := 6, locals := 112 } : Room) (va_Pc [.ref (gA g 0), .int n] (PW g σ μ o)) (va_Qi (S := Nat) (fun r u => kRem σ n = 0 ∧ fs (pN σ.2.1 n) 16 = some u ∧ r = σ.2.1 u 7) (fun _ t => Wd g σ μ o t.heap) (Az g)) (vx_X (S := Unit) (fun _ => True) (fun E _ t => (E = xIO ∧ kRem σ n = 1) ∧ Wd g σ μ o t.heap) (Az g)) 1 6 (Az g) := by
  refine vx_ofW (cc := cX2_tries) (maxL := 2) (ret := (some .int)) (by decide) rfl ?_
  intro p e s m args below meth c s₁ B hml hxt hv
  obtain ⟨rfl, hC, hW⟩ := hv
  have hx := B.exec
  have hb := B.bytes
  have hr := B.returns
  have hts := atoms_spec (ws := wsX2_tries) B.pre
  have hown : s.vm.findClass RX2 = some m.cls := findClass_of_methodNamed B.named
  have hlocks := B.notSynchronized
  have hinX1 : ∀ w ∈ wsX10, w ∈ wsX2_tries := by decide +kernel
  have hS : va_S (Az g) s.heap s.heap [] := va_S.rf
  have hl := lv_entry ([.ref (gA g 0), .int n]) (n := 2) (Nat.le_of_ble_eq_true rfl)
  rw [lg_entry_eq]
  generalize (lg_sl ([.ref (gA g 0), .int n]) ++ List.replicate (2 - (lg_sl ([.ref (gA g 0), .int n])).length) Slot.unset).toArray = ls at hl ⊢
  have hl : lv_has ls 2 [(0, .ref (gA g 0)), (1, .int n)] := hl
  refine lv_aload_n hx hb dX2_tries_0 rfl (lv_at hl 0 rfl) ?_
  refine lv_iload_n hx hb dX2_tries_1 rfl (lv_at hl 1 rfl) ?_
  refine vx_callq (vx_runV (As := [.int n]) (rest := []) ⟨hx, hb, hml, hown, hts⟩ (mtX2_presentEntry l hfl g σ μ o n) (cwV 1 hts gX2_tries_X2_presentEntry rfl rfl rfl (by decide +kernel) ⟨Nat.le_of_ble_eq_true rfl, Nat.le_of_ble_eq_true rfl⟩) ⟨PW.blind, rcB hC hW, fun U hU hW9 => ⟨rfl, PW.at hC hS hW U hU hW9⟩⟩ rfl rfl hl.1 rfl (lv_room (Nat.le_of_ble_eq_true rfl)) dX2_tries_2 ⟨Nat.le_of_ble_eq_true rfl, Nat.le_of_ble_eq_true rfl⟩) hS (fun _ _ h => h) (fun _ h => h) (fun _ _ h => h) (fun E9 ce q9 u_3 t H locs ht hvm hpx hbx hz9 hk9 hS hce hcv hcl => ?_) (fun r_2 u_3 t H locs ht hvm h_1 hW hz9 hk9 hS => ?_)
  · skip
    obtain ⟨hbq, hbw⟩ := hbx
    try dsimp only at hbq
    replace hbw : Wd g σ μ o H := by rw [← ht]; exact hbw
    refine vx_out (fun x h => (hxt x h).elim) hlocks hce hcv hcl (fun t9 ht9 hv9 => ⟨(), trivial, ⟨⟨hbq.1, by have hq9 := hbq.2; simp [kRem, no1, hq9]⟩, by first | (rw [ht9]; exact hbw) | (dsimp only; rw [ht9]; exact hbw)⟩, hS.F ht9⟩) hS.2.2 (Nat.le_of_ble_eq_true rfl) (Nat.le_of_ble_eq_true rfl)
  · skip
    replace hW : Wd g σ μ o H := by rw [← ht]; exact hW
    try dsimp only at h_1
    obtain ⟨f_5, rfl⟩ := h_1
    have hj_6 : u_3 < 16 := fs_16 f_5
    refine gEn (v := .int (σ.2.1 u_3 7)) hx hb hts hinX1 hown hC hW hj_6 7 (by decide) (by decide +kernel) rfl rfl dX2_tries_5 ?_
    refine vx_ret (W.widen (k := 1) (n := 6) (Nat.le_of_ble_eq_true rfl) (Nat.le_of_ble_eq_true rfl) ?_)
    exact W.iret (v := σ.2.1 u_3 7) hx hb hr (fun t ht hW9 => ⟨⟨_, u_3, rfl, ⟨by simp [kRem, no1, f_5], f_5, rfl⟩, by first | (rw [ht]; exact hW) | (dsimp only; rw [ht]; exact hW)⟩, hS.F ht⟩) hS.2.2 dX2_tries_8
set_option maxHeartbeats 4000000 in
set_option maxRecDepth 100000 in
theorem mtX2_placeOf (l : Launch) (hfl : l.stackTraces = false) (g : Ge) (σ : Sg) (μ : Mg) (o : Nat → Int64) (n : Int32) : vx_Met l yX2_placeOf wsX2_placeOf ({ frames := 7, cells := 1, slots := 6, locals := 112 } : Room) (va_Pc [.ref (gA g 0), .int n] (PW g σ μ o)) (va_Qi (S := Nat) (fun r u => kRem σ n = 0 ∧ fs (pN σ.2.1 n) 16 = some u ∧ r = nI (ct (pA σ.2.1 u) 16)) (fun _ t => Wd g σ μ o t.heap) (Az g)) (vx_X (S := Unit) (fun _ => True) (fun E _ t => (E = xIO ∧ kRem σ n = 1) ∧ Wd g σ μ o t.heap) (Az g)) 1 6 (Az g) := by
  refine vx_ofW (cc := cX2_placeOf) (maxL := 2) (ret := (some .int)) (by decide) rfl ?_
  intro p e s m args below meth c s₁ B hml hxt hv
  obtain ⟨rfl, hC, hW⟩ := hv
  have hx := B.exec
  have hb := B.bytes
  have hr := B.returns
  have hts := atoms_spec (ws := wsX2_placeOf) B.pre
  have hown : s.vm.findClass RX2 = some m.cls := findClass_of_methodNamed B.named
  have hlocks := B.notSynchronized
  have hS : va_S (Az g) s.heap s.heap [] := va_S.rf
  have hl := lv_entry ([.ref (gA g 0), .int n]) (n := 2) (Nat.le_of_ble_eq_true rfl)
  rw [lg_entry_eq]
  generalize (lg_sl ([.ref (gA g 0), .int n]) ++ List.replicate (2 - (lg_sl ([.ref (gA g 0), .int n])).length) Slot.unset).toArray = ls at hl ⊢
  have hl : lv_has ls 2 [(0, .ref (gA g 0)), (1, .int n)] := hl
  refine lv_aload_n hx hb dX2_placeOf_0 rfl (lv_at hl 0 rfl) ?_
  refine lv_aload_n hx hb dX2_placeOf_1 rfl (lv_at hl 0 rfl) ?_
  refine lv_iload_n hx hb dX2_placeOf_2 rfl (lv_at hl 1 rfl) ?_
  refine vx_callq (vx_runV (As := [.int n]) (rest := [.ref (gA g 0)]) ⟨hx, hb, hml, hown, hts⟩ (mtX2_presentEntry l hfl g σ μ o n) (cwV 1 hts gX2_placeOf_X2_presentEntry rfl rfl rfl (by decide +kernel) ⟨Nat.le_of_ble_eq_true rfl, Nat.le_of_ble_eq_true rfl⟩) ⟨PW.blind, rcB hC hW, fun U hU hW9 => ⟨rfl, PW.at hC hS hW U hU hW9⟩⟩ rfl rfl hl.1 rfl (lv_room (Nat.le_of_ble_eq_true rfl)) dX2_placeOf_3 ⟨Nat.le_of_ble_eq_true rfl, Nat.le_of_ble_eq_true rfl⟩) hS (fun _ _ h => h) (fun _ h => h) (fun _ _ h => h) (fun E9 ce q9 u_3 t H locs ht hvm hpx hbx hz9 hk9 hS hce hcv hcl => ?_) (fun r_2 u_3 t H locs ht hvm h_1 hW hz9 hk9 hS => ?_)
  · skip
    obtain ⟨hbq, hbw⟩ := hbx
    try dsimp only at hbq
    replace hbw : Wd g σ μ o H := by rw [← ht]; exact hbw
    refine vx_out (fun x h => (hxt x h).elim) hlocks hce hcv hcl (fun t9 ht9 hv9 => ⟨(), trivial, ⟨⟨hbq.1, by have hq9 := hbq.2; simp [kRem, no1, hq9]⟩, by first | (rw [ht9]; exact hbw) | (dsimp only; rw [ht9]; exact hbw)⟩, hS.F ht9⟩) hS.2.2 (Nat.le_of_ble_eq_true rfl) (Nat.le_of_ble_eq_true rfl)
  · skip
    replace hW : Wd g σ μ o H := by rw [← ht]; exact hW
    try dsimp only at h_1
    obtain ⟨f_5, rfl⟩ := h_1
    have hj_6 : u_3 < 16 := fs_16 f_5
    refine vp_callSi (va_Run.run (va_runV (As := [.ref (gA g (13 + u_3))]) (rest := []) ⟨hx, hb, hml, hown, hts⟩ (mtX2_countAhead l g σ μ o u_3 hj_6) (cwV 1 hts gX2_placeOf_X2_countAhead rfl rfl rfl (by decide +kernel) ⟨Nat.le_of_ble_eq_true rfl, Nat.le_of_ble_eq_true rfl⟩) ⟨PW.blind, rcB hC hW, fun U hU hW9 => ⟨rfl, PW.at hC hS hW U hU hW9⟩⟩ rfl rfl hl.1 rfl (lv_room (Nat.le_of_ble_eq_true rfl)) dX2_placeOf_6 ⟨Nat.le_of_ble_eq_true rfl, Nat.le_of_ble_eq_true rfl⟩)) (fun r_8 h_7 => ?_)
    obtain rfl : r_8 = nI (ct (pA σ.2.1 u_3) 16) := h_7
    refine vx_ret (W.widen (k := 1) (n := 6) (Nat.le_of_ble_eq_true rfl) (Nat.le_of_ble_eq_true rfl) ?_)
    exact W.iret (v := (nI (ct (pA σ.2.1 u_3) 16))) hx hb hr (fun t ht hW9 => ⟨⟨_, u_3, rfl, ⟨by simp [kRem, no1, f_5], f_5, rfl⟩, by first | (rw [ht]; exact hW) | (dsimp only; rw [ht]; exact hW)⟩, hS.F ht⟩) hS.2.2 dX2_placeOf_9
set_option maxHeartbeats 4000000 in
set_option maxRecDepth 100000 in
theorem mtX2_foretold (l : Launch) (hfl : l.stackTraces = false) (g : Ge) (σ : Sg) (μ : Mg) (o : Nat → Int64) (n : Int32) : vx_Met l yX2_foretold wsX2_foretold ({ frames := 7, cells := 1, slots := 6, locals := 112 } : Room) (va_Pc [.ref (gA g 0), .int n] (PW g σ μ o)) (va_Qi (S := Nat) (fun r u => kRem σ n = 0 ∧ fs (pN σ.2.1 n) 16 = some u ∧ r = mz (σ.2.2.1 0) (σ.2.1 u)) (fun _ t => Wd g σ μ o t.heap) (Az g)) (vx_X (S := Unit) (fun _ => True) (fun E _ t => (E = xIO ∧ kRem σ n = 1) ∧ Wd g σ μ o t.heap) (Az g)) 1 6 (Az g) := by
  refine vx_ofW (cc := cX2_foretold) (maxL := 2) (ret := (some .int)) (by decide) rfl ?_
  intro p e s m args below meth c s₁ B hml hxt hv
  obtain ⟨rfl, hC, hW⟩ := hv
  have hx := B.exec
  have hb := B.bytes
  have hr := B.returns
  have hts := atoms_spec (ws := wsX2_foretold) B.pre
  have hown : s.vm.findClass RX2 = some m.cls := findClass_of_methodNamed B.named
  have hlocks := B.notSynchronized
  have hS : va_S (Az g) s.heap s.heap [] := va_S.rf
  have hl := lv_entry ([.ref (gA g 0), .int n]) (n := 2) (Nat.le_of_ble_eq_true rfl)
  rw [lg_entry_eq]
  generalize (lg_sl ([.ref (gA g 0), .int n]) ++ List.replicate (2 - (lg_sl ([.ref (gA g 0), .int n])).length) Slot.unset).toArray = ls at hl ⊢
  have hl : lv_has ls 2 [(0, .ref (gA g 0)), (1, .int n)] := hl
  refine lv_aload_n hx hb dX2_foretold_0 rfl (lv_at hl 0 rfl) ?_
  refine lv_aload_n hx hb dX2_foretold_1 rfl (lv_at hl 0 rfl) ?_
  refine lv_iload_n hx hb dX2_foretold_2 rfl (lv_at hl 1 rfl) ?_
  refine vx_callq (vx_runV (As := [.int n]) (rest := [.ref (gA g 0)]) ⟨hx, hb, hml, hown, hts⟩ (mtX2_presentEntry l hfl g σ μ o n) (cwV 1 hts gX2_foretold_X2_presentEntry rfl rfl rfl (by decide +kernel) ⟨Nat.le_of_ble_eq_true rfl, Nat.le_of_ble_eq_true rfl⟩) ⟨PW.blind, rcB hC hW, fun U hU hW9 => ⟨rfl, PW.at hC hS hW U hU hW9⟩⟩ rfl rfl hl.1 rfl (lv_room (Nat.le_of_ble_eq_true rfl)) dX2_foretold_3 ⟨Nat.le_of_ble_eq_true rfl, Nat.le_of_ble_eq_true rfl⟩) hS (fun _ _ h => h) (fun _ h => h) (fun _ _ h => h) (fun E9 ce q9 u_3 t H locs ht hvm hpx hbx hz9 hk9 hS hce hcv hcl => ?_) (fun r_2 u_3 t H locs ht hvm h_1 hW hz9 hk9 hS => ?_)
  · skip
    obtain ⟨hbq, hbw⟩ := hbx
    try dsimp only at hbq
    replace hbw : Wd g σ μ o H := by rw [← ht]; exact hbw
    refine vx_out (fun x h => (hxt x h).elim) hlocks hce hcv hcl (fun t9 ht9 hv9 => ⟨(), trivial, ⟨⟨hbq.1, by have hq9 := hbq.2; simp [kRem, no1, hq9]⟩, by first | (rw [ht9]; exact hbw) | (dsimp only; rw [ht9]; exact hbw)⟩, hS.F ht9⟩) hS.2.2 (Nat.le_of_ble_eq_true rfl) (Nat.le_of_ble_eq_true rfl)
  · skip
    replace hW : Wd g σ μ o H := by rw [← ht]; exact hW
    try dsimp only at h_1
    obtain ⟨f_5, rfl⟩ := h_1
    have hj_6 : u_3 < 16 := fs_16 f_5
    refine vp_callSi (va_Run.run (va_runV (As := [.ref (gA g (13 + u_3))]) (rest := []) ⟨hx, hb, hml, hown, hts⟩ (mtX2_measure l g σ μ o u_3 hj_6) (cwV 1 hts gX2_foretold_X2_measure rfl rfl rfl (by decide +kernel) ⟨Nat.le_of_ble_eq_true rfl, Nat.le_of_ble_eq_true rfl⟩) ⟨PW.blind, rcB hC hW, fun U hU hW9 => ⟨rfl, PW.at hC hS hW U hU hW9⟩⟩ rfl rfl hl.1 rfl (lv_room (Nat.le_of_ble_eq_true rfl)) dX2_foretold_6 ⟨Nat.le_of_ble_eq_true rfl, Nat.le_of_ble_eq_true rfl⟩)) (fun r_8 h_7 => ?_)
    obtain rfl : r_8 = mz (σ.2.2.1 0) (σ.2.1 u_3) := h_7
    refine vx_ret (W.widen (k := 1) (n := 6) (Nat.le_of_ble_eq_true rfl) (Nat.le_of_ble_eq_true rfl) ?_)
    exact W.iret (v := (mz (σ.2.2.1 0) (σ.2.1 u_3))) hx hb hr (fun t ht hW9 => ⟨⟨_, u_3, rfl, ⟨by simp [kRem, no1, f_5], f_5, rfl⟩, by first | (rw [ht]; exact hW) | (dsimp only; rw [ht]; exact hW)⟩, hS.F ht⟩) hS.2.2 dX2_foretold_9
set_option maxHeartbeats 4000000 in
set_option maxRecDepth 100000 in
theorem mtX2_at (l : Launch) (hfl : l.stackTraces = false) (g : Ge) (σ : Sg) (μ : Mg) (o : Nat → Int64) (pl : Int32) : vx_Met l yX2_at wsX2_at ({ frames := 6, cells := 1, slots := 6, locals := 115 } : Room) (va_Pc [.ref (gA g 0), .int pl] (PW g σ μ o)) (va_Qi (S := Nat) (fun r u => kAt σ pl = 0 ∧ fs (pP σ.2.1 pl) 16 = some u ∧ r = σ.2.1 u 1) (fun _ t => Wd g σ μ o t.heap) (Az g)) (vx_X (S := Unit) (fun _ => True) (fun E _ t => (E = xIO ∧ kAt σ pl = 1) ∧ Wd g σ μ o t.heap) (Az g)) 1 6 (Az g) := by
  refine vx_ofW (cc := cX2_at) (maxL := 3) (ret := (some .int)) (by decide) rfl ?_
  intro p e s m args below meth c s₁ B hml hxt hv
  obtain ⟨rfl, hC, hW⟩ := hv
  have hx := B.exec
  have hb := B.bytes
  have hr := B.returns
  have hts := atoms_spec (ws := wsX2_at) B.pre
  have hown : s.vm.findClass RX2 = some m.cls := findClass_of_methodNamed B.named
  have hlocks := B.notSynchronized
  have hinX1 : ∀ w ∈ wsX10, w ∈ wsX2_at := by decide +kernel
  have hxw155 : ∀ w ∈ (vx_atS RX2 155 "java/lang/IndexOutOfBoundsException" ["java/lang/RuntimeException", "java/lang/Exception"]).filter goodWord, w ∈ wsX2_at := by decide +kernel
  have hS : va_S (Az g) s.heap s.heap [] := va_S.rf
  have hl := lv_entry ([.ref (gA g 0), .int pl]) (n := 3) (Nat.le_of_ble_eq_true rfl)
  rw [lg_entry_eq]
  generalize (lg_sl ([.ref (gA g 0), .int pl]) ++ List.replicate (3 - (lg_sl ([.ref (gA g 0), .int pl])).length) Slot.unset).toArray = ls at hl ⊢
  have hl : lv_has ls 3 [(0, .ref (gA g 0)), (1, .int pl)] := hl
  refine lv_aload_n hx hb dX2_at_0 rfl (lv_at hl 0 rfl) ?_
  refine lv_iload_n hx hb dX2_at_1 rfl (lv_at hl 1 rfl) ?_
  refine va_csq (va_Run.run (va_runV (As := [.int pl]) (rest := []) ⟨hx, hb, hml, hown, hts⟩ (mtX2_entryWithPlace l g σ μ o pl) (cwV 1 hts gX2_at_X2_entryWithPlace rfl rfl rfl (by decide +kernel) ⟨Nat.le_of_ble_eq_true rfl, Nat.le_of_ble_eq_true rfl⟩) ⟨PW.blind, rcB hC hW, fun U hU hW9 => ⟨rfl, PW.at hC hS hW U hU hW9⟩⟩ rfl rfl hl.1 rfl (lv_room (Nat.le_of_ble_eq_true rfl)) dX2_at_2 ⟨Nat.le_of_ble_eq_true rfl, Nat.le_of_ble_eq_true rfl⟩)) (fun r_2 h_1 => ?_)
  replace h_1 : r_2 = (fs (pP σ.2.1 pl) 16).map (fun j => gA g (13 + j)) := h_1
  rcases optc (fs (pP σ.2.1 pl) 16) with f_3 | ⟨j_4, f_3⟩
  · skip
    obtain rfl : r_2 = none := by rw [h_1, f_3]; rfl
    refine lv_astore_nN (lv' := [(2, .null), (0, .ref (gA g 0)), (1, .int pl)]) hx hb dX2_at_5 rfl hl (by decide) rfl (fun ls hl => ?_)
    refine lv_aload_nN hx hb dX2_at_6 rfl (lv_at hl 0 rfl) ?_
    refine lv_ifnonnullN hx hb dX2_at_7 ?_
    obtain ⟨sa_5, hsa_5⟩ := hC.2.1.2.1 (RX2, 153, "there are not so many entries") (by decide +kernel)
    refine vx_throwS (own := RX2) (cls := xIO) (text := "there are not so many entries") (names := ["java/lang/RuntimeException", "java/lang/Exception"]) (ik := 151) (is := 153) (ic := 155) (sa := sa_5) (A := Az g) hx hb hfl hown (by decide +kernel) (by decide +kernel) (hts (.classLink RX2 151 "java/lang/IndexOutOfBoundsException") (by decide +kernel)) (hts (.initialized "java/lang/IndexOutOfBoundsException") (by decide +kernel)) hsa_5 (vx_hat (B := xwB xIO) (fun w h => hts w (hxw155 w h)) (by decide +kernel) (cast_w hC.2.1 (by decide +kernel))) (by decide +kernel) hC.2.2.1.1 hC.2.2.1.2 hS (hl.1.trans hml.symm) dX2_at_10 dX2_at_13 dX2_at_14 dX2_at_16 dX2_at_19 (fun x h => (hxt x h).elim) (Nat.le_of_ble_eq_true rfl) (Nat.le_of_ble_eq_true rfl) (Nat.le_of_ble_eq_true rfl) (Nat.le_of_ble_eq_true rfl) hlocks (fun t9 hv9 hz9 hq9 => ⟨(), trivial, ⟨⟨rfl, by simp [kAt, f_3]⟩, Wd_up hW hz9 hq9⟩, va_F_up hS hz9 hq9⟩) hS.2.2 (Nat.le_of_ble_eq_true rfl) (Nat.le_of_ble_eq_true rfl)
  · skip
    obtain rfl : r_2 = some (gA g (13 + j_4)) := by rw [h_1, f_3]; rfl
    have hj_4 : j_4 < 16 := fs_16 f_3
    refine lv_astore_n (lv' := [(2, .ref (gA g (13 + j_4))), (0, .ref (gA g 0)), (1, .int pl)]) hx hb dX2_at_5 rfl hl (by decide) rfl (fun ls hl => ?_)
    refine lv_aload_n hx hb dX2_at_6 rfl (lv_at hl 0 rfl) ?_
    refine lv_ifnonnull (tgt := 20) hx hb dX2_at_7 (by decide) ?_
    refine lv_aload_n hx hb dX2_at_20 rfl (lv_at hl 0 rfl) ?_
    refine gEn (v := .int (σ.2.1 j_4 1)) hx hb hts hinX1 hown hC hW hj_4 1 (by decide) (by decide +kernel) rfl rfl dX2_at_21 ?_
    refine vx_ret (W.widen (k := 1) (n := 6) (Nat.le_of_ble_eq_true rfl) (Nat.le_of_ble_eq_true rfl) ?_)
    exact W.iret (v := σ.2.1 j_4 1) hx hb hr (fun t ht hW9 => ⟨⟨_, j_4, rfl, ⟨by simp [kAt, f_3], f_3, rfl⟩, by first | (rw [ht]; exact hW) | (dsimp only; rw [ht]; exact hW)⟩, hS.F ht⟩) hS.2.2 dX2_at_24
set_option maxHeartbeats 4000000 in
set_option maxRecDepth 100000 in
theorem mtX2_compare (l : Launch) (hfl : l.stackTraces = false) (g : Ge) (σ : Sg) (μ : Mg) (o : Nat → Int64) (a b : Int32) : vx_Met l yX2_compare wsX2_compare ({ frames := 7, cells := 2, slots := 12, locals := 112 } : Room) (va_Pc [.ref (gA g 0), .int a, .int b] (PW g σ μ o)) (va_Qi (S := Nat × Nat) (fun r u => kCm σ a b = 0 ∧ fs (pN σ.2.1 a) 16 = some u.1 ∧ fs (pN σ.2.1 b) 16 = some u.2 ∧ r = cv (σ.2.1 u.1) (σ.2.1 u.2)) (fun _ t => Wd g σ μ o t.heap) (Az g)) (vx_X (S := Unit) (fun _ => True) (fun E _ t => (E = xIO ∧ kCm σ a b = 1) ∧ Wd g σ μ o t.heap) (Az g)) 2 12 (Az g) := by
  refine vx_ofW (cc := cX2_compare) (maxL := 5) (ret := (some .int)) (by decide) rfl ?_
  intro p e s m args below meth c s₁ B hml hxt hv
  obtain ⟨rfl, hC, hW⟩ := hv
  have hx := B.exec
  have hb := B.bytes
  have hr := B.returns
  have hts := atoms_spec (ws := wsX2_compare) B.pre
  have hown : s.vm.findClass RX2 = some m.cls := findClass_of_methodNamed B.named
  have hlocks := B.notSynchronized
  have hS : va_S (Az g) s.heap s.heap [] := va_S.rf
  have hl := lv_entry ([.ref (gA g 0), .int a, .int b]) (n := 5) (Nat.le_of_ble_eq_true rfl)
  rw [lg_entry_eq]
  generalize (lg_sl ([.ref (gA g 0), .int a, .int b]) ++ List.replicate (5 - (lg_sl ([.ref (gA g 0), .int a, .int b])).length) Slot.unset).toArray = ls at hl ⊢
  have hl : lv_has ls 5 [(0, .ref (gA g 0)), (1, .int a), (2, .int b)] := hl
  refine lv_aload_n hx hb dX2_compare_0 rfl (lv_at hl 0 rfl) ?_
  refine lv_iload_n hx hb dX2_compare_1 rfl (lv_at hl 1 rfl) ?_
  refine vx_callq (vx_runV (As := [.int a]) (rest := []) ⟨hx, hb, hml, hown, hts⟩ (mtX2_presentEntry l hfl g σ μ o a) (cwV 1 hts gX2_compare_X2_presentEntry rfl rfl rfl (by decide +kernel) ⟨Nat.le_of_ble_eq_true rfl, Nat.le_of_ble_eq_true rfl⟩) ⟨PW.blind, rcB hC hW, fun U hU hW9 => ⟨rfl, PW.at hC hS hW U hU hW9⟩⟩ rfl rfl hl.1 rfl (lv_room (Nat.le_of_ble_eq_true rfl)) dX2_compare_2 ⟨Nat.le_of_ble_eq_true rfl, Nat.le_of_ble_eq_true rfl⟩) hS (fun _ _ h => h) (fun _ h => h) (fun _ _ h => h) (fun E9 ce q9 u_3 t H locs ht hvm hpx hbx hz9 hk9 hS hce hcv hcl => ?_) (fun r_2 u_3 t H locs ht hvm h_1 hW hz9 hk9 hS => ?_)
  · skip
    obtain ⟨hbq, hbw⟩ := hbx
    try dsimp only at hbq
    replace hbw : Wd g σ μ o H := by rw [← ht]; exact hbw
    refine vx_out (fun x h => (hxt x h).elim) hlocks hce hcv hcl (fun t9 ht9 hv9 => ⟨(), trivial, ⟨⟨hbq.1, by have hq9 := hbq.2; simp [kCm, no1, hq9]⟩, by first | (rw [ht9]; exact hbw) | (dsimp only; rw [ht9]; exact hbw)⟩, hS.F ht9⟩) hS.2.2 (Nat.le_of_ble_eq_true rfl) (Nat.le_of_ble_eq_true rfl)
  · skip
    replace hW : Wd g σ μ o H := by rw [← ht]; exact hW
    try dsimp only at h_1
    obtain ⟨f_5, rfl⟩ := h_1
    have hj_6 : u_3 < 16 := fs_16 f_5
    refine lv_astore_n (lv' := [(3, .ref (gA g (13 + u_3))), (0, .ref (gA g 0)), (1, .int a), (2, .int b)]) hx hb dX2_compare_5 rfl hl (by decide) rfl (fun ls hl => ?_)
    refine lv_aload_n hx hb dX2_compare_6 rfl (lv_at hl 1 rfl) ?_
    refine lv_iload_n hx hb dX2_compare_7 rfl (lv_at hl 3 rfl) ?_
    refine vx_callq (vx_runV (As := [.int b]) (rest := []) ⟨hx, hb, hml, hown, hts⟩ (mtX2_presentEntry l hfl g σ μ o b) (cwV 1 hts gX2_compare_X2_presentEntry rfl rfl rfl (by decide +kernel) ⟨Nat.le_of_ble_eq_true rfl, Nat.le_of_ble_eq_true rfl⟩) ⟨PW.blind, rcB hC hW, fun U hU hW9 => ⟨rfl, PW.at hC hS hW U hU hW9⟩⟩ rfl rfl hl.1 rfl (lv_room (Nat.le_of_ble_eq_true rfl)) dX2_compare_8 ⟨Nat.le_of_ble_eq_true rfl, Nat.le_of_ble_eq_true rfl⟩) hS (fun _ _ h => h) (fun _ h => h) (fun _ _ h => h) (fun E9 ce q9 u_9 t H locs ht hvm hpx hbx hz9 hk9 hS hce hcv hcl => ?_) (fun r_8 u_9 t H locs ht hvm h_7 hW hz9 hk9 hS => ?_)
    · skip
      obtain ⟨hbq, hbw⟩ := hbx
      try dsimp only at hbq
      replace hbw : Wd g σ μ o H := by rw [← ht]; exact hbw
      refine vx_out (fun x h => (hxt x h).elim) hlocks hce hcv hcl (fun t9 ht9 hv9 => ⟨(), trivial, ⟨⟨hbq.1, by have hq9 := hbq.2; simp [kCm, no1, hq9, f_5]⟩, by first | (rw [ht9]; exact hbw) | (dsimp only; rw [ht9]; exact hbw)⟩, hS.F ht9⟩) hS.2.2 (Nat.le_of_ble_eq_true rfl) (Nat.le_of_ble_eq_true rfl)
    · skip
      replace hW : Wd g σ μ o H := by rw [← ht]; exact hW
      try dsimp only at h_7
      obtain ⟨f_11, rfl⟩ := h_7
      have hj_12 : u_9 < 16 := fs_16 f_11
      refine lv_astore (lv' := [(4, .ref (gA g (13 + u_9))), (3, .ref (gA g (13 + u_3))), (0, .ref (gA g 0)), (1, .int a), (2, .int b)]) hx hb dX2_compare_11 hl (by decide) rfl (fun ls hl => ?_)
      refine lv_aload_n hx hb dX2_compare_13 rfl (lv_at hl 1 rfl) ?_
      refine lv_aload hx hb dX2_compare_14 (lv_at hl 0 rfl) ?_
      refine vp_callSi (va_Run.run (va_runVN (As := [.ref (gA g (13 + u_9))]) (rest := []) ⟨hx, hb, hml, hown, hts⟩ (mtX1_compareVersion l g σ μ o u_3 u_9 hj_6 hj_12) ⟨(va_cnB (host := "BootChooser") 1 hts gX2_compare_X1_compareVersion_n159 rfl rfl rfl (va_Nw.of (A := #[]) rfl (hC.2.1.nest (w := .methodLinkNest RX2 159 yX1_compareVersion "BootChooser") (by decide +kernel) rfl)) (hts (.initialized RX1) (by decide +kernel)) (by decide +kernel) ⟨Nat.le_of_ble_eq_true rfl, Nat.le_of_ble_eq_true rfl⟩), (hts (.instanceMethod yX1_compareVersion) (by decide +kernel)), (hts (.selects RX1 yX1_compareVersion yX1_compareVersion) (by decide +kernel))⟩ ⟨PW.blind, rcE hC hW hj_6, fun U hU hW9 => ⟨rfl, PW.at hC hS hW U hU hW9⟩⟩ rfl rfl hl.1 rfl (lv_room (Nat.le_of_ble_eq_true rfl)) dX2_compare_16 ⟨Nat.le_of_ble_eq_true rfl, Nat.le_of_ble_eq_true rfl⟩)) (fun r_14 h_13 => ?_)
      obtain rfl : r_14 = cv (σ.2.1 u_3) (σ.2.1 u_9) := h_13
      refine vx_ret (W.widen (k := 2) (n := 12) (Nat.le_of_ble_eq_true rfl) (Nat.le_of_ble_eq_true rfl) ?_)
      exact W.iret (v := (cv (σ.2.1 u_3) (σ.2.1 u_9))) hx hb hr (fun t ht hW9 => ⟨⟨_, (u_3, u_9), rfl, ⟨by simp [kCm, no1, f_5, f_11], f_5, f_11, rfl⟩, by first | (rw [ht]; exact hW) | (dsimp only; rw [ht]; exact hW)⟩, hS.F ht⟩) hS.2.2 dX2_compare_19
