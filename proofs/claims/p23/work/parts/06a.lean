set_option maxHeartbeats 4000000 in
set_option maxRecDepth 100000 in
theorem mtX2_presentEntry (l : Launch) (hfl : l.stackTraces = false) (g : Ge) (σ : Sg) (μ : Mg) (o : Nat → Int64) (n : Int32) : vx_Met l yX2_presentEntry wsX2_presentEntry ({ frames := 6, cells := 1, slots := 6, locals := 90 } : Room) (va_Pc [.ref (gA g 0), .int n] (PW g σ μ o)) (va_Qq (S := Nat) (fun r u => fs (pN σ.2.1 n) 16 = some u ∧ r = some (gA g (13 + u))) (fun _ t => Wd g σ μ o t.heap) (Az g)) (vx_X (S := Unit) (fun _ => True) (fun E _ t => (E = xIO ∧ fs (pN σ.2.1 n) 16 = none) ∧ Wd g σ μ o t.heap) (Az g)) 1 6 (Az g) := by
  refine vx_ofW (cc := cX2_presentEntry) (maxL := 3) (ret := (some (.object "BootChooser$Entry"))) (by decide) rfl ?_
  intro p e s m args below meth c s₁ B hml hxt hv
  obtain ⟨rfl, hC, hW⟩ := hv
  have hx := B.exec
  have hb := B.bytes
  have hr := B.returns
  have hts := atoms_spec (ws := wsX2_presentEntry) B.pre
  have hown : s.vm.findClass RX2 = some m.cls := findClass_of_methodNamed B.named
  have hlocks := B.notSynchronized
  have hxw155 : ∀ w ∈ (vx_atS RX2 155 "java/lang/IndexOutOfBoundsException" ["java/lang/RuntimeException", "java/lang/Exception"]).filter goodWord, w ∈ wsX2_presentEntry := by decide +kernel
  have hS : va_S (Az g) s.heap s.heap [] := va_S.rf
  have hl := lv_entry ([.ref (gA g 0), .int n]) (n := 3) (Nat.le_of_ble_eq_true rfl)
  rw [lg_entry_eq]
  generalize (lg_sl ([.ref (gA g 0), .int n]) ++ List.replicate (3 - (lg_sl ([.ref (gA g 0), .int n])).length) Slot.unset).toArray = ls at hl ⊢
  have hl : lv_has ls 3 [(0, .ref (gA g 0)), (1, .int n)] := hl
  refine lv_aload_n hx hb dX2_presentEntry_0 rfl (lv_at hl 0 rfl) ?_
  refine lv_iload_n hx hb dX2_presentEntry_1 rfl (lv_at hl 1 rfl) ?_
  refine va_csq (va_Run.run (va_runV (As := [.int n]) (rest := []) ⟨hx, hb, hml, hown, hts⟩ (mtX2_findEntry l g σ μ o n) (cwV 1 hts gX2_presentEntry_X2_findEntry rfl rfl rfl (by decide +kernel) ⟨Nat.le_of_ble_eq_true rfl, Nat.le_of_ble_eq_true rfl⟩) ⟨PW.blind, rcB hC hW, fun U hU hW9 => ⟨rfl, PW.at hC hS hW U hU hW9⟩⟩ rfl rfl hl.1 rfl (lv_room (Nat.le_of_ble_eq_true rfl)) dX2_presentEntry_2 ⟨Nat.le_of_ble_eq_true rfl, Nat.le_of_ble_eq_true rfl⟩)) (fun r_2 h_1 => ?_)
  replace h_1 : r_2 = (fs (pN σ.2.1 n) 16).map (fun j => gA g (13 + j)) := h_1
  rcases optc (fs (pN σ.2.1 n) 16) with f_3 | ⟨j_4, f_3⟩
  · skip
    obtain rfl : r_2 = none := by rw [h_1, f_3]; rfl
    refine lv_astore_nN (lv' := [(2, .null), (0, .ref (gA g 0)), (1, .int n)]) hx hb dX2_presentEntry_5 rfl hl (by decide) rfl (fun ls hl => ?_)
    refine lv_aload_nN hx hb dX2_presentEntry_6 rfl (lv_at hl 0 rfl) ?_
    refine lv_ifnonnullN hx hb dX2_presentEntry_7 ?_
    obtain ⟨sa_5, hsa_5⟩ := hC.2.1.2.1 (RX2, 162, "there is no such entry") (by decide +kernel)
    refine vx_throwS (own := RX2) (cls := xIO) (text := "there is no such entry") (names := ["java/lang/RuntimeException", "java/lang/Exception"]) (ik := 151) (is := 162) (ic := 155) (sa := sa_5) (A := Az g) hx hb hfl hown (by decide +kernel) (by decide +kernel) (hts (.classLink RX2 151 "java/lang/IndexOutOfBoundsException") (by decide +kernel)) (hts (.initialized "java/lang/IndexOutOfBoundsException") (by decide +kernel)) hsa_5 (vx_hat (B := xwB xIO) (fun w h => hts w (hxw155 w h)) (by decide +kernel) (cast_w hC.2.1 (by decide +kernel))) (by decide +kernel) hC.2.2.1.1 hC.2.2.1.2 hS (hl.1.trans hml.symm) dX2_presentEntry_10 dX2_presentEntry_13 dX2_presentEntry_14 dX2_presentEntry_16 dX2_presentEntry_19 (fun x h => (hxt x h).elim) (Nat.le_of_ble_eq_true rfl) (Nat.le_of_ble_eq_true rfl) (Nat.le_of_ble_eq_true rfl) (Nat.le_of_ble_eq_true rfl) hlocks (fun t9 hv9 hz9 hq9 => ⟨(), trivial, ⟨⟨rfl, f_3⟩, Wd_up hW hz9 hq9⟩, va_F_up hS hz9 hq9⟩) hS.2.2 (Nat.le_of_ble_eq_true rfl) (Nat.le_of_ble_eq_true rfl)
  · skip
    obtain rfl : r_2 = some (gA g (13 + j_4)) := by rw [h_1, f_3]; rfl
    have hj_4 : j_4 < 16 := fs_16 f_3
    refine lv_astore_n (lv' := [(2, .ref (gA g (13 + j_4))), (0, .ref (gA g 0)), (1, .int n)]) hx hb dX2_presentEntry_5 rfl hl (by decide) rfl (fun ls hl => ?_)
    refine lv_aload_n hx hb dX2_presentEntry_6 rfl (lv_at hl 0 rfl) ?_
    refine lv_ifnonnull (tgt := 20) hx hb dX2_presentEntry_7 (by decide) ?_
    refine lv_aload_n hx hb dX2_presentEntry_20 rfl (lv_at hl 0 rfl) ?_
    refine vx_ret (W.widen (k := 1) (n := 6) (Nat.le_of_ble_eq_true rfl) (Nat.le_of_ble_eq_true rfl) ?_)
    exact W.aret (v := va_rf (some (gA g (13 + j_4)))) hx hb hr (Or.inl ⟨_, rfl⟩) (va_rf_or _) (fun t ht hW9 => ⟨⟨(some (gA g (13 + j_4))), j_4, rfl, ⟨f_3, rfl⟩, by dsimp only; rw [ht]; exact hW⟩, hS.F ht⟩) hS.2.2 dX2_presentEntry_21
set_option maxHeartbeats 4000000 in
set_option maxRecDepth 100000 in
theorem mtX2_refuseAsChoice (l : Launch) (hfl : l.stackTraces = false) (g : Ge) (σ : Sg) (μ : Mg) (o : Nat → Int64) (n : Int32) : vx_Met l yX2_refuseAsChoice wsX2_refuseAsChoice ({ frames := 6, cells := 1, slots := 6, locals := 90 } : Room) (va_Pc [.ref (gA g 0), .int n] (PW g σ μ o)) (va_Qv (S := Unit) (fun _ => okC σ n = true) (fun _ t => Wd g σ μ o t.heap) (Az g)) (vx_X (S := Unit) (fun _ => True) (fun E _ t => (E = xIO ∧ okC σ n = false) ∧ Wd g σ μ o t.heap) (Az g)) 1 6 (Az g) := by
  refine vx_ofW (cc := cX2_refuseAsChoice) (maxL := 2) (ret := none) (by decide) rfl ?_
  intro p e s m args below meth c s₁ B hml hxt hv
  obtain ⟨rfl, hC, hW⟩ := hv
  have hx := B.exec
  have hb := B.bytes
  have hr := B.returns
  have hts := atoms_spec (ws := wsX2_refuseAsChoice) B.pre
  have hown : s.vm.findClass RX2 = some m.cls := findClass_of_methodNamed B.named
  have hlocks := B.notSynchronized
  have hxw155 : ∀ w ∈ (vx_atS RX2 155 "java/lang/IndexOutOfBoundsException" ["java/lang/RuntimeException", "java/lang/Exception"]).filter goodWord, w ∈ wsX2_refuseAsChoice := by decide +kernel
  have hS : va_S (Az g) s.heap s.heap [] := va_S.rf
  have hl := lv_entry ([.ref (gA g 0), .int n]) (n := 2) (Nat.le_of_ble_eq_true rfl)
  rw [lg_entry_eq]
  generalize (lg_sl ([.ref (gA g 0), .int n]) ++ List.replicate (2 - (lg_sl ([.ref (gA g 0), .int n])).length) Slot.unset).toArray = ls at hl ⊢
  have hl : lv_has ls 2 [(0, .ref (gA g 0)), (1, .int n)] := hl
  refine lv_iload_n hx hb dX2_refuseAsChoice_0 rfl (lv_at hl 1 rfl) ?_
  refine lv_iconst (v := (-1)) hx hb dX2_refuseAsChoice_1 (by decide) ?_
  refine lv_icmp_eq (tgt := 23) hx hb dX2_refuseAsChoice_2 (by decide) (fun c_1 => ?_) (fun c_1 => ?_)
  · skip
    refine vx_ret (W.widen (k := 1) (n := 6) (Nat.le_of_ble_eq_true rfl) (Nat.le_of_ble_eq_true rfl) ?_)
    exact W.vret hx hb hr (fun t ht hW9 => ⟨⟨(), rfl, by simp [okC, no1, c_1], by dsimp only; rw [ht]; exact hW⟩, hS.F ht⟩) hS.2.2 dX2_refuseAsChoice_23
  · skip
    refine lv_aload_n hx hb dX2_refuseAsChoice_5 rfl (lv_at hl 0 rfl) ?_
    refine lv_iload_n hx hb dX2_refuseAsChoice_6 rfl (lv_at hl 1 rfl) ?_
    refine va_csq (va_Run.run (va_runV (As := [.int n]) (rest := []) ⟨hx, hb, hml, hown, hts⟩ (mtX2_findEntry l g σ μ o n) (cwV 1 hts gX2_refuseAsChoice_X2_findEntry rfl rfl rfl (by decide +kernel) ⟨Nat.le_of_ble_eq_true rfl, Nat.le_of_ble_eq_true rfl⟩) ⟨PW.blind, rcB hC hW, fun U hU hW9 => ⟨rfl, PW.at hC hS hW U hU hW9⟩⟩ rfl rfl hl.1 rfl (lv_room (Nat.le_of_ble_eq_true rfl)) dX2_refuseAsChoice_7 ⟨Nat.le_of_ble_eq_true rfl, Nat.le_of_ble_eq_true rfl⟩)) (fun r_3 h_2 => ?_)
    replace h_2 : r_3 = (fs (pN σ.2.1 n) 16).map (fun j => gA g (13 + j)) := h_2
    rcases optc (fs (pN σ.2.1 n) 16) with f_4 | ⟨j_5, f_4⟩
    · skip
      obtain rfl : r_3 = none := by rw [h_2, f_4]; rfl
      refine lv_ifnonnullN hx hb dX2_refuseAsChoice_10 ?_
      obtain ⟨sa_6, hsa_6⟩ := hC.2.1.2.1 (RX2, 162, "there is no such entry") (by decide +kernel)
      refine vx_throwS (own := RX2) (cls := xIO) (text := "there is no such entry") (names := ["java/lang/RuntimeException", "java/lang/Exception"]) (ik := 151) (is := 162) (ic := 155) (sa := sa_6) (A := Az g) hx hb hfl hown (by decide +kernel) (by decide +kernel) (hts (.classLink RX2 151 "java/lang/IndexOutOfBoundsException") (by decide +kernel)) (hts (.initialized "java/lang/IndexOutOfBoundsException") (by decide +kernel)) hsa_6 (vx_hat (B := xwB xIO) (fun w h => hts w (hxw155 w h)) (by decide +kernel) (cast_w hC.2.1 (by decide +kernel))) (by decide +kernel) hC.2.2.1.1 hC.2.2.1.2 hS (hl.1.trans hml.symm) dX2_refuseAsChoice_13 dX2_refuseAsChoice_16 dX2_refuseAsChoice_17 dX2_refuseAsChoice_19 dX2_refuseAsChoice_22 (fun x h => (hxt x h).elim) (Nat.le_of_ble_eq_true rfl) (Nat.le_of_ble_eq_true rfl) (Nat.le_of_ble_eq_true rfl) (Nat.le_of_ble_eq_true rfl) hlocks (fun t9 hv9 hz9 hq9 => ⟨(), trivial, ⟨⟨rfl, by simp [okC, no1, c_1, f_4]⟩, Wd_up hW hz9 hq9⟩, va_F_up hS hz9 hq9⟩) hS.2.2 (Nat.le_of_ble_eq_true rfl) (Nat.le_of_ble_eq_true rfl)
    · skip
      obtain rfl : r_3 = some (gA g (13 + j_5)) := by rw [h_2, f_4]; rfl
      have hj_5 : j_5 < 16 := fs_16 f_4
      refine lv_ifnonnull (tgt := 23) hx hb dX2_refuseAsChoice_10 (by decide) ?_
      refine vx_ret (W.widen (k := 1) (n := 6) (Nat.le_of_ble_eq_true rfl) (Nat.le_of_ble_eq_true rfl) ?_)
      exact W.vret hx hb hr (fun t ht hW9 => ⟨⟨(), rfl, by simp [okC, no1, c_1, f_4], by dsimp only; rw [ht]; exact hW⟩, hS.F ht⟩) hS.2.2 dX2_refuseAsChoice_23
set_option maxHeartbeats 4000000 in
set_option maxRecDepth 100000 in
theorem mtX2_refuseIfLocked (l : Launch) (hfl : l.stackTraces = false) (g : Ge) (σ : Sg) (μ : Mg) (o : Nat → Int64)  : vx_Met l yX2_refuseIfLocked wsX2_refuseIfLocked ({ frames := 6, cells := 1, slots := 6, locals := 90 } : Room) (va_Pc [.ref (gA g 0)] (PW g σ μ o)) (va_Qv (S := Unit) (fun _ => σ.2.2.1 0 = 0) (fun _ t => Wd g σ μ o t.heap) (Az g)) (vx_X (S := Unit) (fun _ => True) (fun E _ t => (E = xIS ∧ ¬ σ.2.2.1 0 = 0) ∧ Wd g σ μ o t.heap) (Az g)) 1 6 (Az g) := by
  refine vx_ofW (cc := cX2_refuseIfLocked) (maxL := 1) (ret := none) (by decide) rfl ?_
  intro p e s m args below meth c s₁ B hml hxt hv
  obtain ⟨rfl, hC, hW⟩ := hv
  have hx := B.exec
  have hb := B.bytes
  have hr := B.returns
  have hts := atoms_spec (ws := wsX2_refuseIfLocked) B.pre
  have hown : s.vm.findClass RX2 = some m.cls := findClass_of_methodNamed B.named
  have hlocks := B.notSynchronized
  have hinX0 : ∀ w ∈ wsX00, w ∈ wsX2_refuseIfLocked := by decide +kernel
  have hinX2 : ∀ w ∈ wsX20, w ∈ wsX2_refuseIfLocked := by decide +kernel
  have hxw67 : ∀ w ∈ (vx_atS RX2 67 "java/lang/IllegalStateException" ["java/lang/RuntimeException", "java/lang/Exception"]).filter goodWord, w ∈ wsX2_refuseIfLocked := by decide +kernel
  have hS : va_S (Az g) s.heap s.heap [] := va_S.rf
  have hl := lv_entry ([.ref (gA g 0)]) (n := 1) (Nat.le_of_ble_eq_true rfl)
  rw [lg_entry_eq]
  generalize (lg_sl ([.ref (gA g 0)]) ++ List.replicate (1 - (lg_sl ([.ref (gA g 0)])).length) Slot.unset).toArray = ls at hl ⊢
  have hl : lv_has ls 1 [(0, .ref (gA g 0))] := hl
  refine lv_aload_n hx hb dX2_refuseIfLocked_0 rfl (lv_at hl 0 rfl) ?_
  refine gB (v := .ref (gA g 2)) hx hb hts hinX2 hown hC hW 1 (by decide) (by decide +kernel) rfl rfl dX2_refuseIfLocked_1 ?_
  refine gLn (v := .int (σ.2.2.1 0)) hx hb hts hinX0 hown hC hW 1 (by decide) (by decide +kernel) rfl rfl dX2_refuseIfLocked_4 ?_
  refine lv_if_eq (tgt := 20) hx hb dX2_refuseIfLocked_7 (by decide) (fun c_1 => ?_) (fun c_1 => ?_)
  · skip
    refine vx_ret (W.widen (k := 1) (n := 6) (Nat.le_of_ble_eq_true rfl) (Nat.le_of_ble_eq_true rfl) ?_)
    exact W.vret hx hb hr (fun t ht hW9 => ⟨⟨(), rfl, c_1, by dsimp only; rw [ht]; exact hW⟩, hS.F ht⟩) hS.2.2 dX2_refuseIfLocked_20
  · skip
    obtain ⟨sa_2, hsa_2⟩ := hC.2.1.2.1 (RX2, 164, "the chooser is locked") (by decide +kernel)
    refine vx_throwS (own := RX2) (cls := xIS) (text := "the chooser is locked") (names := ["java/lang/RuntimeException", "java/lang/Exception"]) (ik := 63) (is := 164) (ic := 67) (sa := sa_2) (A := Az g) hx hb hfl hown (by decide +kernel) (by decide +kernel) (hts (.classLink RX2 63 "java/lang/IllegalStateException") (by decide +kernel)) (hts (.initialized "java/lang/IllegalStateException") (by decide +kernel)) hsa_2 (vx_hat (B := xwB xIS) (fun w h => hts w (hxw67 w h)) (by decide +kernel) (cast_w hC.2.1 (by decide +kernel))) (by decide +kernel) hC.2.2.1.1 hC.2.2.1.2 hS (hl.1.trans hml.symm) dX2_refuseIfLocked_10 dX2_refuseIfLocked_13 dX2_refuseIfLocked_14 dX2_refuseIfLocked_16 dX2_refuseIfLocked_19 (fun x h => (hxt x h).elim) (Nat.le_of_ble_eq_true rfl) (Nat.le_of_ble_eq_true rfl) (Nat.le_of_ble_eq_true rfl) (Nat.le_of_ble_eq_true rfl) hlocks (fun t9 hv9 hz9 hq9 => ⟨(), trivial, ⟨⟨rfl, c_1⟩, Wd_up hW hz9 hq9⟩, va_F_up hS hz9 hq9⟩) hS.2.2 (Nat.le_of_ble_eq_true rfl) (Nat.le_of_ble_eq_true rfl)
