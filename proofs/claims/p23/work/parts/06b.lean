set_option maxHeartbeats 4000000 in
set_option maxRecDepth 100000 in
theorem mtX2_remove (l : Launch) (hfl : l.stackTraces = false) (g : Ge) (σ : Sg) (μ : Mg) (o : Nat → Int64) (n : Int32) : vx_Met l yX2_remove wsX2_remove ({ frames := 7, cells := 1, slots := 6, locals := 112 } : Room) (va_Pc [.ref (gA g 0), .int n] (PW g σ μ o)) (va_Qi (S := Nat) (fun r u => kRem σ n = 0 ∧ fs (pN σ.2.1 n) 16 = some u ∧ r = nI (ct (thr (up2 σ.2.1 u (upd (σ.2.1 u) 0 0))) 16)) (fun u t => Wd g (σ.1, up2 σ.2.1 u (upd (σ.2.1 u) 0 0), σ.2.2) μ o t.heap) (Az g)) (vx_X (S := Unit) (fun _ => True) (fun E _ t => (E = xIO ∧ kRem σ n = 1) ∧ Wd g σ μ o t.heap) (Az g)) 1 6 (Az g) := by
  refine vx_ofW (cc := cX2_remove) (maxL := 2) (ret := (some .int)) (by decide) rfl ?_
  intro p e s m args below meth c s₁ B hml hxt hv
  obtain ⟨rfl, hC, hW⟩ := hv
  have hx := B.exec
  have hb := B.bytes
  have hr := B.returns
  have hts := atoms_spec (ws := wsX2_remove) B.pre
  have hown : s.vm.findClass RX2 = some m.cls := findClass_of_methodNamed B.named
  have hlocks := B.notSynchronized
  have hinX1 : ∀ w ∈ wsX10, w ∈ wsX2_remove := by decide +kernel
  have hS : va_S (Az g) s.heap s.heap [] := va_S.rf
  have hl := lv_entry ([.ref (gA g 0), .int n]) (n := 2) (Nat.le_of_ble_eq_true rfl)
  rw [lg_entry_eq]
  generalize (lg_sl ([.ref (gA g 0), .int n]) ++ List.replicate (2 - (lg_sl ([.ref (gA g 0), .int n])).length) Slot.unset).toArray = ls at hl ⊢
  have hl : lv_has ls 2 [(0, .ref (gA g 0)), (1, .int n)] := hl
  refine lv_aload_n hx hb dX2_remove_0 rfl (lv_at hl 0 rfl) ?_
  refine lv_iload_n hx hb dX2_remove_1 rfl (lv_at hl 1 rfl) ?_
  refine vx_callq (vx_runV (As := [.int n]) (rest := []) ⟨hx, hb, hml, hown, hts⟩ (mtX2_presentEntry l hfl g σ μ o n) (cwV 1 hts gX2_remove_X2_presentEntry rfl rfl rfl (by decide +kernel) ⟨Nat.le_of_ble_eq_true rfl, Nat.le_of_ble_eq_true rfl⟩) ⟨PW.blind, rcB hC hW, fun U hU hW9 => ⟨rfl, PW.at hC hS hW U hU hW9⟩⟩ rfl rfl hl.1 rfl (lv_room (Nat.le_of_ble_eq_true rfl)) dX2_remove_2 ⟨Nat.le_of_ble_eq_true rfl, Nat.le_of_ble_eq_true rfl⟩) hS (fun _ _ h => h) (fun _ h => h) (fun _ _ h => h) (fun E9 ce q9 u_3 t H locs ht hvm hpx hbx hz9 hk9 hS hce hcv hcl => ?_) (fun r_2 u_3 t H locs ht hvm h_1 hW hz9 hk9 hS => ?_)
  · skip
    obtain ⟨hbq, hbw⟩ := hbx
    try dsimp only at hbq
    replace hbw : Wd g σ μ o H := by rw [← ht]; exact hbw
    refine vx_out (fun x h => (hxt x h).elim) hlocks hce hcv hcl (fun t9 ht9 hv9 => ⟨(), trivial, ⟨⟨hbq.1, by have hq9 := hbq.2; simp [kRem, no1, hq9]⟩, by first | (rw [ht9]; exact hbw) | (dsimp only; rw [ht9]; exact hbw)⟩, hS.F ht9⟩) hS.2.2 (Nat.le_of_ble_eq_true rfl) (Nat.le_of_ble_eq_true rfl)
  · skip
    replace hW : Wd g σ μ o H := by rw [← ht]; exact hW
    try dsimp only at h_1
    obtain ⟨f_5, rfl⟩ := h_1
    have hj_6 : u_3 < 16 := fs_16 f_5
    refine lv_iconst (v := 0) hx hb dX2_remove_5 (by decide) ?_
    refine pEn (ty := .boolean) hx hb hts hinX1 hown hC hS hW hj_6 0 (by decide) (by decide +kernel) (by decide +kernel) (0) rfl rfl dX2_remove_6 (fun H locs hW hS => ?_)
    refine lv_aload_n hx hb dX2_remove_9 rfl (lv_at hl 0 rfl) ?_
    refine vp_callSi (va_Run.run (va_runV (As := []) (rest := []) ⟨hx, hb, hml, hown, hts⟩ (mtX2_countEntries l g ((σ.1, up2 σ.2.1 u_3 (upd (σ.2.1 u_3) 0 0), σ.2.2.1, σ.2.2.2)) μ o ) (cwV 0 hts gX2_remove_X2_countEntries rfl rfl rfl (by decide +kernel) ⟨Nat.le_of_ble_eq_true rfl, Nat.le_of_ble_eq_true rfl⟩) ⟨PW.blind, rcB hC hW, fun U hU hW9 => ⟨rfl, PW.at hC hS hW U hU hW9⟩⟩ rfl rfl hl.1 rfl (lv_room (Nat.le_of_ble_eq_true rfl)) dX2_remove_10 ⟨Nat.le_of_ble_eq_true rfl, Nat.le_of_ble_eq_true rfl⟩)) (fun r_8 h_7 => ?_)
    obtain rfl : r_8 = nI (ct (thr (up2 σ.2.1 u_3 (upd (σ.2.1 u_3) 0 0))) 16) := h_7
    refine vx_ret (W.widen (k := 1) (n := 6) (Nat.le_of_ble_eq_true rfl) (Nat.le_of_ble_eq_true rfl) ?_)
    exact W.iret (v := (nI (ct (thr (up2 σ.2.1 u_3 (upd (σ.2.1 u_3) 0 0))) 16))) hx hb hr (fun t ht hW9 => ⟨⟨_, u_3, rfl, ⟨by simp [kRem, no1, f_5], f_5, rfl⟩, by first | (rw [ht]; exact hW) | (dsimp only; rw [ht]; exact hW)⟩, hS.F ht⟩) hS.2.2 dX2_remove_13
set_option maxHeartbeats 4000000 in
set_option maxRecDepth 100000 in
theorem mtX2_edit (l : Launch) (hfl : l.stackTraces = false) (g : Ge) (σ : Sg) (μ : Mg) (o : Nat → Int64) (n opt : Int32) : vx_Met l yX2_edit wsX2_edit ({ frames := 7, cells := 3, slots := 18, locals := 112 } : Room) (va_Pc [.ref (gA g 0), .int n, .int opt] (PW g σ μ o)) (va_Qi (S := Nat) (fun r u => kEd σ n opt = 0 ∧ fs (pN σ.2.1 n) 16 = some u ∧ r = σ.2.1 u 6) (fun u t => Wd g (σ.1, up2 σ.2.1 u (upd (σ.2.1 u) 6 opt), σ.2.2) μ o t.heap) (Az g)) (vx_X (S := Unit) (fun _ => True) (fun E _ t => ((E = xIO ∧ kEd σ n opt = 1) ∨ (E = xIA ∧ kEd σ n opt = 2) ∨ (E = xIS ∧ kEd σ n opt = 3)) ∧ Wd g σ μ o t.heap) (Az g)) 3 18 (Az g) := by
  refine vx_ofW (cc := cX2_edit) (maxL := 5) (ret := (some .int)) (by decide) rfl ?_
  intro p e s m args below meth c s₁ B hml hxt hv
  obtain ⟨rfl, hC, hW⟩ := hv
  have hx := B.exec
  have hb := B.bytes
  have hr := B.returns
  have hts := atoms_spec (ws := wsX2_edit) B.pre
  have hown : s.vm.findClass RX2 = some m.cls := findClass_of_methodNamed B.named
  have hlocks := B.notSynchronized
  have hinX1 : ∀ w ∈ wsX10, w ∈ wsX2_edit := by decide +kernel
  have hxw54 : ∀ w ∈ (vx_atS RX2 54 "java/lang/IllegalArgumentException" ["java/lang/RuntimeException", "java/lang/Exception"]).filter goodWord, w ∈ wsX2_edit := by decide +kernel
  have hS : va_S (Az g) s.heap s.heap [] := va_S.rf
  have hl := lv_entry ([.ref (gA g 0), .int n, .int opt]) (n := 5) (Nat.le_of_ble_eq_true rfl)
  rw [lg_entry_eq]
  generalize (lg_sl ([.ref (gA g 0), .int n, .int opt]) ++ List.replicate (5 - (lg_sl ([.ref (gA g 0), .int n, .int opt])).length) Slot.unset).toArray = ls at hl ⊢
  have hl : lv_has ls 5 [(0, .ref (gA g 0)), (1, .int n), (2, .int opt)] := hl
  refine lv_aload_n hx hb dX2_edit_0 rfl (lv_at hl 0 rfl) ?_
  refine lv_iload_n hx hb dX2_edit_1 rfl (lv_at hl 1 rfl) ?_
  refine vx_callq (vx_runV (As := [.int n]) (rest := []) ⟨hx, hb, hml, hown, hts⟩ (mtX2_presentEntry l hfl g σ μ o n) (cwV 1 hts gX2_edit_X2_presentEntry rfl rfl rfl (by decide +kernel) ⟨Nat.le_of_ble_eq_true rfl, Nat.le_of_ble_eq_true rfl⟩) ⟨PW.blind, rcB hC hW, fun U hU hW9 => ⟨rfl, PW.at hC hS hW U hU hW9⟩⟩ rfl rfl hl.1 rfl (lv_room (Nat.le_of_ble_eq_true rfl)) dX2_edit_2 ⟨Nat.le_of_ble_eq_true rfl, Nat.le_of_ble_eq_true rfl⟩) hS (fun _ _ h => h) (fun _ h => h) (fun _ _ h => h) (fun E9 ce q9 u_3 t H locs ht hvm hpx hbx hz9 hk9 hS hce hcv hcl => ?_) (fun r_2 u_3 t H locs ht hvm h_1 hW hz9 hk9 hS => ?_)
  · skip
    obtain ⟨hbq, hbw⟩ := hbx
    try dsimp only at hbq
    replace hbw : Wd g σ μ o H := by rw [← ht]; exact hbw
    refine vx_out (fun x h => (hxt x h).elim) hlocks hce hcv hcl (fun t9 ht9 hv9 => ⟨(), trivial, ⟨Or.inl ⟨hbq.1, by have hq9 := hbq.2; simp [kEd, no1, hq9]⟩, by first | (rw [ht9]; exact hbw) | (dsimp only; rw [ht9]; exact hbw)⟩, hS.F ht9⟩) hS.2.2 (Nat.le_of_ble_eq_true rfl) (Nat.le_of_ble_eq_true rfl)
  · skip
    replace hW : Wd g σ μ o H := by rw [← ht]; exact hW
    try dsimp only at h_1
    obtain ⟨f_5, rfl⟩ := h_1
    have hj_6 : u_3 < 16 := fs_16 f_5
    refine lv_astore_n (lv' := [(3, .ref (gA g (13 + u_3))), (0, .ref (gA g 0)), (1, .int n), (2, .int opt)]) hx hb dX2_edit_5 rfl hl (by decide) rfl (fun ls hl => ?_)
    refine lv_iload_n hx hb dX2_edit_6 rfl (lv_at hl 3 rfl) ?_
    refine lv_iconst (v := 0) hx hb dX2_edit_7 (by decide) ?_
    refine lv_bipush (v := 99) hx hb dX2_edit_8 (by decide) ?_
    refine vp_callSi (va_Run.run (va_runS (As := [.int opt, .int 0, .int 99]) (rest := []) ⟨hx, hb, hml, hown, hts⟩ (mtX2_isWithin l opt 0 99) (va_cwS 3 hts gX2_edit_X2_isWithin rfl rfl rfl (by decide +kernel) ⟨Nat.le_of_ble_eq_true rfl, Nat.le_of_ble_eq_true rfl⟩) ⟨P0.blind, fun U hU hW9 => ⟨rfl, trivial⟩⟩ rfl rfl hl.1 rfl (lv_room (Nat.le_of_ble_eq_true rfl)) dX2_edit_10 ⟨Nat.le_of_ble_eq_true rfl, Nat.le_of_ble_eq_true rfl⟩)) (fun r_8 h_7 => ?_)
    obtain rfl : r_8 = bI (wi opt 0 99) := h_7
    refine lv_if_ne (tgt := 26) hx hb dX2_edit_13 (by decide) (fun c_9 => ?_) (fun c_9 => ?_)
    · skip
      replace c_9 := bI_n0.mp c_9
      refine lv_aload_n hx hb dX2_edit_26 rfl (lv_at hl 1 rfl) ?_
      refine vx_callv (vx_runV (As := []) (rest := []) ⟨hx, hb, hml, hown, hts⟩ (mtX2_refuseIfLocked l hfl g σ μ o ) (cwV 0 hts gX2_edit_X2_refuseIfLocked rfl rfl rfl (by decide +kernel) ⟨Nat.le_of_ble_eq_true rfl, Nat.le_of_ble_eq_true rfl⟩) ⟨PW.blind, rcB hC hW, fun U hU hW9 => ⟨rfl, PW.at hC hS hW U hU hW9⟩⟩ rfl rfl hl.1 rfl (lv_room (Nat.le_of_ble_eq_true rfl)) dX2_edit_27 ⟨Nat.le_of_ble_eq_true rfl, Nat.le_of_ble_eq_true rfl⟩) hS (fun _ _ h => h) (fun _ h => h) (fun _ _ h => h) (fun E9 ce q9 u_12 t H locs ht hvm hpx hbx hz9 hk9 hS hce hcv hcl => ?_) (fun u_12 t H locs ht hvm h_10 hW hz9 hk9 hS => ?_)
      · skip
        obtain ⟨hbq, hbw⟩ := hbx
        try dsimp only at hbq
        replace hbw : Wd g σ μ o H := by rw [← ht]; exact hbw
        refine vx_out (fun x h => (hxt x h).elim) hlocks hce hcv hcl (fun t9 ht9 hv9 => ⟨(), trivial, ⟨Or.inr (Or.inr ⟨hbq.1, by have hq9 := hbq.2; simp [kEd, no1, hq9, f_5, c_9]⟩), by first | (rw [ht9]; exact hbw) | (dsimp only; rw [ht9]; exact hbw)⟩, hS.F ht9⟩) hS.2.2 (Nat.le_of_ble_eq_true rfl) (Nat.le_of_ble_eq_true rfl)
      · skip
        replace hW : Wd g σ μ o H := by rw [← ht]; exact hW
        try dsimp only at h_10
        refine lv_aload_n hx hb dX2_edit_30 rfl (lv_at hl 0 rfl) ?_
        refine gEn (v := .int (σ.2.1 u_3 6)) hx hb hts hinX1 hown hC hW hj_6 6 (by decide) (by decide +kernel) rfl rfl dX2_edit_31 ?_
        refine lv_istore (lv' := [(4, .int (σ.2.1 u_3 6)), (3, .ref (gA g (13 + u_3))), (0, .ref (gA g 0)), (1, .int n), (2, .int opt)]) hx hb dX2_edit_34 hl (by decide) rfl (fun ls hl => ?_)
        refine lv_aload_n hx hb dX2_edit_36 rfl (lv_at hl 1 rfl) ?_
        refine lv_iload_n hx hb dX2_edit_37 rfl (lv_at hl 4 rfl) ?_
        refine pEn (ty := .int) hx hb hts hinX1 hown hC hS hW hj_6 6 (by decide) (by decide +kernel) (by decide +kernel) (opt) rfl rfl dX2_edit_38 (fun H locs hW hS => ?_)
        refine lv_iload hx hb dX2_edit_41 (lv_at hl 0 rfl) ?_
        refine vx_ret (W.widen (k := 3) (n := 18) (Nat.le_of_ble_eq_true rfl) (Nat.le_of_ble_eq_true rfl) ?_)
        exact W.iret (v := σ.2.1 u_3 6) hx hb hr (fun t ht hW9 => ⟨⟨_, u_3, rfl, ⟨by simp [kEd, no1, f_5, c_9, h_10], f_5, rfl⟩, by first | (rw [ht]; exact hW) | (dsimp only; rw [ht]; exact hW)⟩, hS.F ht⟩) hS.2.2 dX2_edit_43
    · skip
      replace c_9 := bI_0.mp c_9
      obtain ⟨sa_14, hsa_14⟩ := hC.2.1.2.1 (RX2, 87, "option is out of range") (by decide +kernel)
      refine vx_throwS (own := RX2) (cls := xIA) (text := "option is out of range") (names := ["java/lang/RuntimeException", "java/lang/Exception"]) (ik := 50) (is := 87) (ic := 54) (sa := sa_14) (A := Az g) hx hb hfl hown (by decide +kernel) (by decide +kernel) (hts (.classLink RX2 50 "java/lang/IllegalArgumentException") (by decide +kernel)) (hts (.initialized "java/lang/IllegalArgumentException") (by decide +kernel)) hsa_14 (vx_hat (B := xwB xIA) (fun w h => hts w (hxw54 w h)) (by decide +kernel) (cast_w hC.2.1 (by decide +kernel))) (by decide +kernel) hC.2.2.1.1 hC.2.2.1.2 hS (hl.1.trans hml.symm) dX2_edit_16 dX2_edit_19 dX2_edit_20 dX2_edit_22 dX2_edit_25 (fun x h => (hxt x h).elim) (Nat.le_of_ble_eq_true rfl) (Nat.le_of_ble_eq_true rfl) (Nat.le_of_ble_eq_true rfl) (Nat.le_of_ble_eq_true rfl) hlocks (fun t9 hv9 hz9 hq9 => ⟨(), trivial, ⟨Or.inr (Or.inl ⟨rfl, by simp [kEd, no1, f_5, c_9]⟩), Wd_up hW hz9 hq9⟩, va_F_up hS hz9 hq9⟩) hS.2.2 (Nat.le_of_ble_eq_true rfl) (Nat.le_of_ble_eq_true rfl)
set_option maxHeartbeats 4000000 in
set_option maxRecDepth 100000 in
theorem mtX2_choose (l : Launch) (hfl : l.stackTraces = false) (g : Ge) (σ : Sg) (μ : Mg) (o : Nat → Int64) (n : Int32) : vx_Met l yX2_choose wsX2_choose ({ frames := 7, cells := 2, slots := 12, locals := 111 } : Room) (va_Pc [.ref (gA g 0), .int n] (PW g σ μ o)) (va_Qi (S := Unit) (fun r _ => kCh σ n = 0 ∧ r = σ.1 1) (fun _ t => Wd g (upd σ.1 1 n, σ.2) μ o t.heap) (Az g)) (vx_X (S := Unit) (fun _ => True) (fun E _ t => ((E = xIO ∧ kCh σ n = 1) ∨ (E = xIS ∧ kCh σ n = 2)) ∧ Wd g σ μ o t.heap) (Az g)) 2 12 (Az g) := by
  refine vx_ofW (cc := cX2_choose) (maxL := 3) (ret := (some .int)) (by decide) rfl ?_
  intro p e s m args below meth c s₁ B hml hxt hv
  obtain ⟨rfl, hC, hW⟩ := hv
  have hx := B.exec
  have hb := B.bytes
  have hr := B.returns
  have hts := atoms_spec (ws := wsX2_choose) B.pre
  have hown : s.vm.findClass RX2 = some m.cls := findClass_of_methodNamed B.named
  have hlocks := B.notSynchronized
  have hinX2 : ∀ w ∈ wsX20, w ∈ wsX2_choose := by decide +kernel
  have hS : va_S (Az g) s.heap s.heap [] := va_S.rf
  have hl := lv_entry ([.ref (gA g 0), .int n]) (n := 3) (Nat.le_of_ble_eq_true rfl)
  rw [lg_entry_eq]
  generalize (lg_sl ([.ref (gA g 0), .int n]) ++ List.replicate (3 - (lg_sl ([.ref (gA g 0), .int n])).length) Slot.unset).toArray = ls at hl ⊢
  have hl : lv_has ls 3 [(0, .ref (gA g 0)), (1, .int n)] := hl
  refine lv_aload_n hx hb dX2_choose_0 rfl (lv_at hl 0 rfl) ?_
  refine lv_iload_n hx hb dX2_choose_1 rfl (lv_at hl 1 rfl) ?_
  refine vx_callv (vx_runV (As := [.int n]) (rest := []) ⟨hx, hb, hml, hown, hts⟩ (mtX2_refuseAsChoice l hfl g σ μ o n) (cwV 1 hts gX2_choose_X2_refuseAsChoice rfl rfl rfl (by decide +kernel) ⟨Nat.le_of_ble_eq_true rfl, Nat.le_of_ble_eq_true rfl⟩) ⟨PW.blind, rcB hC hW, fun U hU hW9 => ⟨rfl, PW.at hC hS hW U hU hW9⟩⟩ rfl rfl hl.1 rfl (lv_room (Nat.le_of_ble_eq_true rfl)) dX2_choose_2 ⟨Nat.le_of_ble_eq_true rfl, Nat.le_of_ble_eq_true rfl⟩) hS (fun _ _ h => h) (fun _ h => h) (fun _ _ h => h) (fun E9 ce q9 u_3 t H locs ht hvm hpx hbx hz9 hk9 hS hce hcv hcl => ?_) (fun u_3 t H locs ht hvm h_1 hW hz9 hk9 hS => ?_)
  · skip
    obtain ⟨hbq, hbw⟩ := hbx
    try dsimp only at hbq
    replace hbw : Wd g σ μ o H := by rw [← ht]; exact hbw
    refine vx_out (fun x h => (hxt x h).elim) hlocks hce hcv hcl (fun t9 ht9 hv9 => ⟨(), trivial, ⟨Or.inl ⟨hbq.1, by have hq9 := hbq.2; simp [kCh, hq9]⟩, by first | (rw [ht9]; exact hbw) | (dsimp only; rw [ht9]; exact hbw)⟩, hS.F ht9⟩) hS.2.2 (Nat.le_of_ble_eq_true rfl) (Nat.le_of_ble_eq_true rfl)
  · skip
    replace hW : Wd g σ μ o H := by rw [← ht]; exact hW
    try dsimp only at h_1
    refine lv_aload_n hx hb dX2_choose_5 rfl (lv_at hl 0 rfl) ?_
    refine vx_callv (vx_runV (As := []) (rest := []) ⟨hx, hb, hml, hown, hts⟩ (mtX2_refuseIfLocked l hfl g σ μ o ) (cwV 0 hts gX2_choose_X2_refuseIfLocked rfl rfl rfl (by decide +kernel) ⟨Nat.le_of_ble_eq_true rfl, Nat.le_of_ble_eq_true rfl⟩) ⟨PW.blind, rcB hC hW, fun U hU hW9 => ⟨rfl, PW.at hC hS hW U hU hW9⟩⟩ rfl rfl hl.1 rfl (lv_room (Nat.le_of_ble_eq_true rfl)) dX2_choose_6 ⟨Nat.le_of_ble_eq_true rfl, Nat.le_of_ble_eq_true rfl⟩) hS (fun _ _ h => h) (fun _ h => h) (fun _ _ h => h) (fun E9 ce q9 u_7 t H locs ht hvm hpx hbx hz9 hk9 hS hce hcv hcl => ?_) (fun u_7 t H locs ht hvm h_5 hW hz9 hk9 hS => ?_)
    · skip
      obtain ⟨hbq, hbw⟩ := hbx
      try dsimp only at hbq
      replace hbw : Wd g σ μ o H := by rw [← ht]; exact hbw
      refine vx_out (fun x h => (hxt x h).elim) hlocks hce hcv hcl (fun t9 ht9 hv9 => ⟨(), trivial, ⟨Or.inr ⟨hbq.1, by have hq9 := hbq.2; simp [kCh, hq9, h_1]⟩, by first | (rw [ht9]; exact hbw) | (dsimp only; rw [ht9]; exact hbw)⟩, hS.F ht9⟩) hS.2.2 (Nat.le_of_ble_eq_true rfl) (Nat.le_of_ble_eq_true rfl)
    · skip
      replace hW : Wd g σ μ o H := by rw [← ht]; exact hW
      try dsimp only at h_5
      refine lv_aload_n hx hb dX2_choose_9 rfl (lv_at hl 0 rfl) ?_
      refine gB (v := .int (σ.1 1)) hx hb hts hinX2 hown hC hW 3 (by decide) (by decide +kernel) rfl rfl dX2_choose_10 ?_
      refine lv_istore_n (lv' := [(2, .int (σ.1 1)), (0, .ref (gA g 0)), (1, .int n)]) hx hb dX2_choose_13 rfl hl (by decide) rfl (fun ls hl => ?_)
      refine lv_aload_n hx hb dX2_choose_14 rfl (lv_at hl 1 rfl) ?_
      refine lv_iload_n hx hb dX2_choose_15 rfl (lv_at hl 2 rfl) ?_
      refine pB hx hb hts hinX2 hown hC hS hW 1 (by decide) (by decide +kernel) (n) dX2_choose_16 (fun H locs hW hS => ?_)
      refine lv_iload_n hx hb dX2_choose_19 rfl (lv_at hl 0 rfl) ?_
      refine vx_ret (W.widen (k := 2) (n := 12) (Nat.le_of_ble_eq_true rfl) (Nat.le_of_ble_eq_true rfl) ?_)
      exact W.iret (v := σ.1 1) hx hb hr (fun t ht hW9 => ⟨⟨_, (), rfl, ⟨by simp [kCh, h_1, h_5], rfl⟩, by first | (rw [ht]; exact hW) | (dsimp only; rw [ht]; exact hW)⟩, hS.F ht⟩) hS.2.2 dX2_choose_20
set_option maxHeartbeats 4000000 in
set_option maxRecDepth 100000 in
theorem mtX2_chooseOnce (l : Launch) (hfl : l.stackTraces = false) (g : Ge) (σ : Sg) (μ : Mg) (o : Nat → Int64) (n : Int32) : vx_Met l yX2_chooseOnce wsX2_chooseOnce ({ frames := 7, cells := 1, slots := 6, locals := 111 } : Room) (va_Pc [.ref (gA g 0), .int n] (PW g σ μ o)) (va_Qi (S := Unit) (fun r _ => kCo σ n = 0 ∧ r = σ.1 2) (fun _ t => Wd g (upd σ.1 2 n, σ.2) μ o t.heap) (Az g)) (vx_X (S := Unit) (fun _ => True) (fun E _ t => (E = xIO ∧ kCo σ n = 1) ∧ Wd g σ μ o t.heap) (Az g)) 1 6 (Az g) := by
  refine vx_ofW (cc := cX2_chooseOnce) (maxL := 3) (ret := (some .int)) (by decide) rfl ?_
  intro p e s m args below meth c s₁ B hml hxt hv
  obtain ⟨rfl, hC, hW⟩ := hv
  have hx := B.exec
  have hb := B.bytes
  have hr := B.returns
  have hts := atoms_spec (ws := wsX2_chooseOnce) B.pre
  have hown : s.vm.findClass RX2 = some m.cls := findClass_of_methodNamed B.named
  have hlocks := B.notSynchronized
  have hinX2 : ∀ w ∈ wsX20, w ∈ wsX2_chooseOnce := by decide +kernel
  have hS : va_S (Az g) s.heap s.heap [] := va_S.rf
  have hl := lv_entry ([.ref (gA g 0), .int n]) (n := 3) (Nat.le_of_ble_eq_true rfl)
  rw [lg_entry_eq]
  generalize (lg_sl ([.ref (gA g 0), .int n]) ++ List.replicate (3 - (lg_sl ([.ref (gA g 0), .int n])).length) Slot.unset).toArray = ls at hl ⊢
  have hl : lv_has ls 3 [(0, .ref (gA g 0)), (1, .int n)] := hl
  refine lv_aload_n hx hb dX2_chooseOnce_0 rfl (lv_at hl 0 rfl) ?_
  refine lv_iload_n hx hb dX2_chooseOnce_1 rfl (lv_at hl 1 rfl) ?_
  refine vx_callv (vx_runV (As := [.int n]) (rest := []) ⟨hx, hb, hml, hown, hts⟩ (mtX2_refuseAsChoice l hfl g σ μ o n) (cwV 1 hts gX2_chooseOnce_X2_refuseAsChoice rfl rfl rfl (by decide +kernel) ⟨Nat.le_of_ble_eq_true rfl, Nat.le_of_ble_eq_true rfl⟩) ⟨PW.blind, rcB hC hW, fun U hU hW9 => ⟨rfl, PW.at hC hS hW U hU hW9⟩⟩ rfl rfl hl.1 rfl (lv_room (Nat.le_of_ble_eq_true rfl)) dX2_chooseOnce_2 ⟨Nat.le_of_ble_eq_true rfl, Nat.le_of_ble_eq_true rfl⟩) hS (fun _ _ h => h) (fun _ h => h) (fun _ _ h => h) (fun E9 ce q9 u_3 t H locs ht hvm hpx hbx hz9 hk9 hS hce hcv hcl => ?_) (fun u_3 t H locs ht hvm h_1 hW hz9 hk9 hS => ?_)
  · skip
    obtain ⟨hbq, hbw⟩ := hbx
    try dsimp only at hbq
    replace hbw : Wd g σ μ o H := by rw [← ht]; exact hbw
    refine vx_out (fun x h => (hxt x h).elim) hlocks hce hcv hcl (fun t9 ht9 hv9 => ⟨(), trivial, ⟨⟨hbq.1, by have hq9 := hbq.2; simp [kCo, hq9]⟩, by first | (rw [ht9]; exact hbw) | (dsimp only; rw [ht9]; exact hbw)⟩, hS.F ht9⟩) hS.2.2 (Nat.le_of_ble_eq_true rfl) (Nat.le_of_ble_eq_true rfl)
  · skip
    replace hW : Wd g σ μ o H := by rw [← ht]; exact hW
    try dsimp only at h_1
    refine lv_aload_n hx hb dX2_chooseOnce_5 rfl (lv_at hl 0 rfl) ?_
    refine gB (v := .int (σ.1 2)) hx hb hts hinX2 hown hC hW 4 (by decide) (by decide +kernel) rfl rfl dX2_chooseOnce_6 ?_
    refine lv_istore_n (lv' := [(2, .int (σ.1 2)), (0, .ref (gA g 0)), (1, .int n)]) hx hb dX2_chooseOnce_9 rfl hl (by decide) rfl (fun ls hl => ?_)
    refine lv_aload_n hx hb dX2_chooseOnce_10 rfl (lv_at hl 1 rfl) ?_
    refine lv_iload_n hx hb dX2_chooseOnce_11 rfl (lv_at hl 2 rfl) ?_
    refine pB hx hb hts hinX2 hown hC hS hW 2 (by decide) (by decide +kernel) (n) dX2_chooseOnce_12 (fun H locs hW hS => ?_)
    refine lv_iload_n hx hb dX2_chooseOnce_15 rfl (lv_at hl 0 rfl) ?_
    refine vx_ret (W.widen (k := 1) (n := 6) (Nat.le_of_ble_eq_true rfl) (Nat.le_of_ble_eq_true rfl) ?_)
    exact W.iret (v := σ.1 2) hx hb hr (fun t ht hW9 => ⟨⟨_, (), rfl, ⟨by simp [kCo, h_1], rfl⟩, by first | (rw [ht]; exact hW) | (dsimp only; rw [ht]; exact hW)⟩, hS.F ht⟩) hS.2.2 dX2_chooseOnce_16
set_option maxHeartbeats 4000000 in
set_option maxRecDepth 100000 in
theorem mtX2_setPattern (l : Launch) (hfl : l.stackTraces = false) (g : Ge) (σ : Sg) (μ : Mg) (o : Nat → Int64) (a b : Int32) : vx_Met l yX2_setPattern wsX2_setPattern ({ frames := 7, cells := 2, slots := 12, locals := 110 } : Room) (va_Pc [.ref (gA g 0), .int a, .int b] (PW g σ μ o)) (va_Qi (S := Unit) (fun r _ => kPa σ a b = 0 ∧ r = nI (ct (pF (upd (upd σ.1 3 a) 4 b, σ.2)) 16)) (fun _ t => Wd g (upd (upd σ.1 3 a) 4 b, σ.2) μ o t.heap) (Az g)) (vx_X (S := Unit) (fun _ => True) (fun E _ t => ((E = xIA ∧ kPa σ a b = 1) ∨ (E = xIS ∧ kPa σ a b = 2)) ∧ Wd g σ μ o t.heap) (Az g)) 2 12 (Az g) := by
  refine vx_ofW (cc := cX2_setPattern) (maxL := 3) (ret := (some .int)) (by decide) rfl ?_
  intro p e s m args below meth c s₁ B hml hxt hv
  obtain ⟨rfl, hC, hW⟩ := hv
  have hx := B.exec
  have hb := B.bytes
  have hr := B.returns
  have hts := atoms_spec (ws := wsX2_setPattern) B.pre
  have hown : s.vm.findClass RX2 = some m.cls := findClass_of_methodNamed B.named
  have hlocks := B.notSynchronized
  have hinX2 : ∀ w ∈ wsX20, w ∈ wsX2_setPattern := by decide +kernel
  have hxw54 : ∀ w ∈ (vx_atS RX2 54 "java/lang/IllegalArgumentException" ["java/lang/RuntimeException", "java/lang/Exception"]).filter goodWord, w ∈ wsX2_setPattern := by decide +kernel
  have hS : va_S (Az g) s.heap s.heap [] := va_S.rf
  have hl := lv_entry ([.ref (gA g 0), .int a, .int b]) (n := 3) (Nat.le_of_ble_eq_true rfl)
  rw [lg_entry_eq]
  generalize (lg_sl ([.ref (gA g 0), .int a, .int b]) ++ List.replicate (3 - (lg_sl ([.ref (gA g 0), .int a, .int b])).length) Slot.unset).toArray = ls at hl ⊢
  have hl : lv_has ls 3 [(0, .ref (gA g 0)), (1, .int a), (2, .int b)] := hl
  refine lv_iload_n hx hb dX2_setPattern_0 rfl (lv_at hl 1 rfl) ?_
  refine lv_iconst (v := 0) hx hb dX2_setPattern_1 (by decide) ?_
  refine lv_bipush (v := 99) hx hb dX2_setPattern_2 (by decide) ?_
  refine vp_callSi (va_Run.run (va_runS (As := [.int a, .int 0, .int 99]) (rest := []) ⟨hx, hb, hml, hown, hts⟩ (mtX2_isWithin l a 0 99) (va_cwS 3 hts gX2_setPattern_X2_isWithin rfl rfl rfl (by decide +kernel) ⟨Nat.le_of_ble_eq_true rfl, Nat.le_of_ble_eq_true rfl⟩) ⟨P0.blind, fun U hU hW9 => ⟨rfl, trivial⟩⟩ rfl rfl hl.1 rfl (lv_room (Nat.le_of_ble_eq_true rfl)) dX2_setPattern_4 ⟨Nat.le_of_ble_eq_true rfl, Nat.le_of_ble_eq_true rfl⟩)) (fun r_2 h_1 => ?_)
  obtain rfl : r_2 = bI (wi a 0 99) := h_1
  refine lv_if_eq (tgt := 20) hx hb dX2_setPattern_7 (by decide) (fun c_3 => ?_) (fun c_3 => ?_)
  · skip
    replace c_3 := bI_0.mp c_3
    obtain ⟨sa_4, hsa_4⟩ := hC.2.1.2.1 (RX2, 99, "from or to is out of range") (by decide +kernel)
    refine vx_throwS (own := RX2) (cls := xIA) (text := "from or to is out of range") (names := ["java/lang/RuntimeException", "java/lang/Exception"]) (ik := 50) (is := 99) (ic := 54) (sa := sa_4) (A := Az g) hx hb hfl hown (by decide +kernel) (by decide +kernel) (hts (.classLink RX2 50 "java/lang/IllegalArgumentException") (by decide +kernel)) (hts (.initialized "java/lang/IllegalArgumentException") (by decide +kernel)) hsa_4 (vx_hat (B := xwB xIA) (fun w h => hts w (hxw54 w h)) (by decide +kernel) (cast_w hC.2.1 (by decide +kernel))) (by decide +kernel) hC.2.2.1.1 hC.2.2.1.2 hS (hl.1.trans hml.symm) dX2_setPattern_20 dX2_setPattern_23 dX2_setPattern_24 dX2_setPattern_26 dX2_setPattern_29 (fun x h => (hxt x h).elim) (Nat.le_of_ble_eq_true rfl) (Nat.le_of_ble_eq_true rfl) (Nat.le_of_ble_eq_true rfl) (Nat.le_of_ble_eq_true rfl) hlocks (fun t9 hv9 hz9 hq9 => ⟨(), trivial, ⟨Or.inl ⟨rfl, by simp [kPa, c_3]⟩, Wd_up hW hz9 hq9⟩, va_F_up hS hz9 hq9⟩) hS.2.2 (Nat.le_of_ble_eq_true rfl) (Nat.le_of_ble_eq_true rfl)
  · skip
    replace c_3 := bI_n0.mp c_3
    refine lv_iload_n hx hb dX2_setPattern_10 rfl (lv_at hl 2 rfl) ?_
    refine lv_iload_n hx hb dX2_setPattern_11 rfl (lv_at hl 1 rfl) ?_
    refine lv_bipush (v := 99) hx hb dX2_setPattern_12 (by decide) ?_
    refine vp_callSi (va_Run.run (va_runS (As := [.int b, .int a, .int 99]) (rest := []) ⟨hx, hb, hml, hown, hts⟩ (mtX2_isWithin l b a 99) (va_cwS 3 hts gX2_setPattern_X2_isWithin rfl rfl rfl (by decide +kernel) ⟨Nat.le_of_ble_eq_true rfl, Nat.le_of_ble_eq_true rfl⟩) ⟨P0.blind, fun U hU hW9 => ⟨rfl, trivial⟩⟩ rfl rfl hl.1 rfl (lv_room (Nat.le_of_ble_eq_true rfl)) dX2_setPattern_14 ⟨Nat.le_of_ble_eq_true rfl, Nat.le_of_ble_eq_true rfl⟩)) (fun r_6 h_5 => ?_)
    obtain rfl : r_6 = bI (wi b a 99) := h_5
    refine lv_if_ne (tgt := 30) hx hb dX2_setPattern_17 (by decide) (fun c_7 => ?_) (fun c_7 => ?_)
    · skip
      replace c_7 := bI_n0.mp c_7
      refine lv_aload_n hx hb dX2_setPattern_30 rfl (lv_at hl 0 rfl) ?_
      refine vx_callv (vx_runV (As := []) (rest := []) ⟨hx, hb, hml, hown, hts⟩ (mtX2_refuseIfLocked l hfl g σ μ o ) (cwV 0 hts gX2_setPattern_X2_refuseIfLocked rfl rfl rfl (by decide +kernel) ⟨Nat.le_of_ble_eq_true rfl, Nat.le_of_ble_eq_true rfl⟩) ⟨PW.blind, rcB hC hW, fun U hU hW9 => ⟨rfl, PW.at hC hS hW U hU hW9⟩⟩ rfl rfl hl.1 rfl (lv_room (Nat.le_of_ble_eq_true rfl)) dX2_setPattern_31 ⟨Nat.le_of_ble_eq_true rfl, Nat.le_of_ble_eq_true rfl⟩) hS (fun _ _ h => h) (fun _ h => h) (fun _ _ h => h) (fun E9 ce q9 u_10 t H locs ht hvm hpx hbx hz9 hk9 hS hce hcv hcl => ?_) (fun u_10 t H locs ht hvm h_8 hW hz9 hk9 hS => ?_)
      · skip
        obtain ⟨hbq, hbw⟩ := hbx
        try dsimp only at hbq
        replace hbw : Wd g σ μ o H := by rw [← ht]; exact hbw
        refine vx_out (fun x h => (hxt x h).elim) hlocks hce hcv hcl (fun t9 ht9 hv9 => ⟨(), trivial, ⟨Or.inr ⟨hbq.1, by have hq9 := hbq.2; simp [kPa, hq9, c_3, c_7]⟩, by first | (rw [ht9]; exact hbw) | (dsimp only; rw [ht9]; exact hbw)⟩, hS.F ht9⟩) hS.2.2 (Nat.le_of_ble_eq_true rfl) (Nat.le_of_ble_eq_true rfl)
      · skip
        replace hW : Wd g σ μ o H := by rw [← ht]; exact hW
        try dsimp only at h_8
        refine lv_aload_n hx hb dX2_setPattern_34 rfl (lv_at hl 0 rfl) ?_
        refine lv_iload_n hx hb dX2_setPattern_35 rfl (lv_at hl 1 rfl) ?_
        refine pB hx hb hts hinX2 hown hC hS hW 3 (by decide) (by decide +kernel) (a) dX2_setPattern_36 (fun H locs hW hS => ?_)
        refine lv_aload_n hx hb dX2_setPattern_39 rfl (lv_at hl 0 rfl) ?_
        refine lv_iload_n hx hb dX2_setPattern_40 rfl (lv_at hl 2 rfl) ?_
        refine pB hx hb hts hinX2 hown hC hS hW 4 (by decide) (by decide +kernel) (b) dX2_setPattern_41 (fun H locs hW hS => ?_)
        refine lv_aload_n hx hb dX2_setPattern_44 rfl (lv_at hl 0 rfl) ?_
        refine vp_callSi (va_Run.run (va_runV (As := []) (rest := []) ⟨hx, hb, hml, hown, hts⟩ (mtX2_countFitting l g ((upd (upd σ.1 3 a) 4 b, σ.2.1, σ.2.2.1, σ.2.2.2)) μ o ) (cwV 0 hts gX2_setPattern_X2_countFitting rfl rfl rfl (by decide +kernel) ⟨Nat.le_of_ble_eq_true rfl, Nat.le_of_ble_eq_true rfl⟩) ⟨PW.blind, rcB hC hW, fun U hU hW9 => ⟨rfl, PW.at hC hS hW U hU hW9⟩⟩ rfl rfl hl.1 rfl (lv_room (Nat.le_of_ble_eq_true rfl)) dX2_setPattern_45 ⟨Nat.le_of_ble_eq_true rfl, Nat.le_of_ble_eq_true rfl⟩)) (fun r_13 h_12 => ?_)
        obtain rfl : r_13 = nI (ct (pF (upd (upd σ.1 3 a) 4 b, σ.2.1, σ.2.2.1, σ.2.2.2)) 16) := h_12
        refine vx_ret (W.widen (k := 2) (n := 12) (Nat.le_of_ble_eq_true rfl) (Nat.le_of_ble_eq_true rfl) ?_)
        exact W.iret (v := (nI (ct (pF (upd (upd σ.1 3 a) 4 b, σ.2.1, σ.2.2.1, σ.2.2.2)) 16))) hx hb hr (fun t ht hW9 => ⟨⟨_, (), rfl, ⟨by simp [kPa, c_3, c_7, h_8], rfl⟩, by first | (rw [ht]; exact hW) | (dsimp only; rw [ht]; exact hW)⟩, hS.F ht⟩) hS.2.2 dX2_setPattern_48
    · skip
      replace c_7 := bI_0.mp c_7
      obtain ⟨sa_14, hsa_14⟩ := hC.2.1.2.1 (RX2, 99, "from or to is out of range") (by decide +kernel)
      refine vx_throwS (own := RX2) (cls := xIA) (text := "from or to is out of range") (names := ["java/lang/RuntimeException", "java/lang/Exception"]) (ik := 50) (is := 99) (ic := 54) (sa := sa_14) (A := Az g) hx hb hfl hown (by decide +kernel) (by decide +kernel) (hts (.classLink RX2 50 "java/lang/IllegalArgumentException") (by decide +kernel)) (hts (.initialized "java/lang/IllegalArgumentException") (by decide +kernel)) hsa_14 (vx_hat (B := xwB xIA) (fun w h => hts w (hxw54 w h)) (by decide +kernel) (cast_w hC.2.1 (by decide +kernel))) (by decide +kernel) hC.2.2.1.1 hC.2.2.1.2 hS (hl.1.trans hml.symm) dX2_setPattern_20 dX2_setPattern_23 dX2_setPattern_24 dX2_setPattern_26 dX2_setPattern_29 (fun x h => (hxt x h).elim) (Nat.le_of_ble_eq_true rfl) (Nat.le_of_ble_eq_true rfl) (Nat.le_of_ble_eq_true rfl) (Nat.le_of_ble_eq_true rfl) hlocks (fun t9 hv9 hz9 hq9 => ⟨(), trivial, ⟨Or.inl ⟨rfl, by simp [kPa, c_3, c_7]⟩, Wd_up hW hz9 hq9⟩, va_F_up hS hz9 hq9⟩) hS.2.2 (Nat.le_of_ble_eq_true rfl) (Nat.le_of_ble_eq_true rfl)
