set_option maxHeartbeats 4000000 in
set_option maxRecDepth 100000 in
theorem mtX2_lock (l : Launch) (hfl : l.stackTraces = false) (g : Ge) (σ : Sg) (μ : Mg) (o : Nat → Int64) (code many : Int32) : vx_Met l yX2_lock wsX2_lock ({ frames := 7, cells := 2, slots := 12, locals := 110 } : Room) (va_Pc [.ref (gA g 0), .int code, .int many] (PW g σ μ o)) (va_Qv (S := Unit) (fun _ => kLo σ code many = 0) (fun _ t => Wd g (σ.1, σ.2.1, upd (upd (upd (upd σ.2.2.1 0 1) 1 code) 2 many) 3 0, σ.2.2.2) μ o t.heap) (Az g)) (vx_X (S := Unit) (fun _ => True) (fun E _ t => ((E = xIA ∧ kLo σ code many = 1) ∨ (E = xIS ∧ kLo σ code many = 2)) ∧ Wd g σ μ o t.heap) (Az g)) 2 12 (Az g) := by
  refine vx_ofW (cc := cX2_lock) (maxL := 3) (ret := none) (by decide) rfl ?_
  intro p e s m args below meth c s₁ B hml hxt hv
  obtain ⟨rfl, hC, hW⟩ := hv
  have hx := B.exec
  have hb := B.bytes
  have hr := B.returns
  have hts := atoms_spec (ws := wsX2_lock) B.pre
  have hown : s.vm.findClass RX2 = some m.cls := findClass_of_methodNamed B.named
  have hlocks := B.notSynchronized
  have hinX2 : ∀ w ∈ wsX20, w ∈ wsX2_lock := by decide +kernel
  have hxw54 : ∀ w ∈ (vx_atS RX2 54 "java/lang/IllegalArgumentException" ["java/lang/RuntimeException", "java/lang/Exception"]).filter goodWord, w ∈ wsX2_lock := by decide +kernel
  have hS : va_S (Az g) s.heap s.heap [] := va_S.rf
  have hl := lv_entry ([.ref (gA g 0), .int code, .int many]) (n := 3) (Nat.le_of_ble_eq_true rfl)
  rw [lg_entry_eq]
  generalize (lg_sl ([.ref (gA g 0), .int code, .int many]) ++ List.replicate (3 - (lg_sl ([.ref (gA g 0), .int code, .int many])).length) Slot.unset).toArray = ls at hl ⊢
  have hl : lv_has ls 3 [(0, .ref (gA g 0)), (1, .int code), (2, .int many)] := hl
  refine lv_iload_n hx hb dX2_lock_0 rfl (lv_at hl 2 rfl) ?_
  refine lv_iconst (v := 1) hx hb dX2_lock_1 (by decide) ?_
  refine lv_bipush (v := 6) hx hb dX2_lock_2 (by decide) ?_
  refine vp_callSi (va_Run.run (va_runS (As := [.int many, .int 1, .int 6]) (rest := []) ⟨hx, hb, hml, hown, hts⟩ (mtX2_isWithin l many 1 6) (va_cwS 3 hts gX2_lock_X2_isWithin rfl rfl rfl (by decide +kernel) ⟨Nat.le_of_ble_eq_true rfl, Nat.le_of_ble_eq_true rfl⟩) ⟨P0.blind, fun U hU hW9 => ⟨rfl, trivial⟩⟩ rfl rfl hl.1 rfl (lv_room (Nat.le_of_ble_eq_true rfl)) dX2_lock_4 ⟨Nat.le_of_ble_eq_true rfl, Nat.le_of_ble_eq_true rfl⟩)) (fun r_2 h_1 => ?_)
  obtain rfl : r_2 = bI (wi many 1 6) := h_1
  refine lv_if_ne (tgt := 20) hx hb dX2_lock_7 (by decide) (fun c_3 => ?_) (fun c_3 => ?_)
  · skip
    replace c_3 := bI_n0.mp c_3
    refine lv_iload_n hx hb dX2_lock_20 rfl (lv_at hl 1 rfl) ?_
    refine lv_iconst (v := 0) hx hb dX2_lock_21 (by decide) ?_
    refine lv_iload_n hx hb dX2_lock_22 rfl (lv_at hl 2 rfl) ?_
    refine vp_callSi (va_Run.run (va_runS (As := [.int many]) (rest := [.int 0, .int code]) ⟨hx, hb, hml, hown, hts⟩ (mtX2_highestCode l many (wi_n c_3)) (va_cwS 1 hts gX2_lock_X2_highestCode rfl rfl rfl (by decide +kernel) ⟨Nat.le_of_ble_eq_true rfl, Nat.le_of_ble_eq_true rfl⟩) ⟨P0.blind, fun U hU hW9 => ⟨rfl, trivial⟩⟩ rfl rfl hl.1 rfl (lv_room (Nat.le_of_ble_eq_true rfl)) dX2_lock_23 ⟨Nat.le_of_ble_eq_true rfl, Nat.le_of_ble_eq_true rfl⟩)) (fun r_5 h_4 => ?_)
    obtain rfl : r_5 = hc many := h_4
    refine vp_callSi (va_Run.run (va_runS (As := [.int code, .int 0, .int ((hc many))]) (rest := []) ⟨hx, hb, hml, hown, hts⟩ (mtX2_isWithin l code 0 (hc many)) (va_cwS 3 hts gX2_lock_X2_isWithin rfl rfl rfl (by decide +kernel) ⟨Nat.le_of_ble_eq_true rfl, Nat.le_of_ble_eq_true rfl⟩) ⟨P0.blind, fun U hU hW9 => ⟨rfl, trivial⟩⟩ rfl rfl hl.1 rfl (lv_room (Nat.le_of_ble_eq_true rfl)) dX2_lock_26 ⟨Nat.le_of_ble_eq_true rfl, Nat.le_of_ble_eq_true rfl⟩)) (fun r_7 h_6 => ?_)
    obtain rfl : r_7 = bI (wi code 0 (hc many)) := h_6
    refine lv_if_ne (tgt := 42) hx hb dX2_lock_29 (by decide) (fun c_8 => ?_) (fun c_8 => ?_)
    · skip
      replace c_8 := bI_n0.mp c_8
      refine lv_aload_n hx hb dX2_lock_42 rfl (lv_at hl 0 rfl) ?_
      refine vx_callv (vx_runV (As := []) (rest := []) ⟨hx, hb, hml, hown, hts⟩ (mtX2_refuseIfLocked l hfl g σ μ o ) (cwV 0 hts gX2_lock_X2_refuseIfLocked rfl rfl rfl (by decide +kernel) ⟨Nat.le_of_ble_eq_true rfl, Nat.le_of_ble_eq_true rfl⟩) ⟨PW.blind, rcB hC hW, fun U hU hW9 => ⟨rfl, PW.at hC hS hW U hU hW9⟩⟩ rfl rfl hl.1 rfl (lv_room (Nat.le_of_ble_eq_true rfl)) dX2_lock_43 ⟨Nat.le_of_ble_eq_true rfl, Nat.le_of_ble_eq_true rfl⟩) hS (fun _ _ h => h) (fun _ h => h) (fun _ _ h => h) (fun E9 ce q9 u_11 t H locs ht hvm hpx hbx hz9 hk9 hS hce hcv hcl => ?_) (fun u_11 t H locs ht hvm h_9 hW hz9 hk9 hS => ?_)
      · skip
        obtain ⟨hbq, hbw⟩ := hbx
        try dsimp only at hbq
        replace hbw : Wd g σ μ o H := by rw [← ht]; exact hbw
        refine vx_out (fun x h => (hxt x h).elim) hlocks hce hcv hcl (fun t9 ht9 hv9 => ⟨(), trivial, ⟨Or.inr ⟨hbq.1, by have hq9 := hbq.2; simp [kLo, hq9, c_3, c_8]⟩, by first | (rw [ht9]; exact hbw) | (dsimp only; rw [ht9]; exact hbw)⟩, hS.F ht9⟩) hS.2.2 (Nat.le_of_ble_eq_true rfl) (Nat.le_of_ble_eq_true rfl)
      · skip
        replace hW : Wd g σ μ o H := by rw [← ht]; exact hW
        try dsimp only at h_9
        refine lv_aload_n hx hb dX2_lock_46 rfl (lv_at hl 0 rfl) ?_
        refine gB (v := .ref (gA g 2)) hx hb hts hinX2 hown hC hW 1 (by decide) (by decide +kernel) rfl rfl dX2_lock_47 ?_
        refine lv_iload_n hx hb dX2_lock_50 rfl (lv_at hl 1 rfl) ?_
        refine lv_iload_n hx hb dX2_lock_51 rfl (lv_at hl 2 rfl) ?_
        refine va_callv (va_runVN (As := [.int code, .int many]) (rest := []) ⟨hx, hb, hml, hown, hts⟩ (mtX0_close l g σ μ o code many) ⟨(va_cnB (host := "BootChooser") 2 hts gX2_lock_X0_close_n135 rfl rfl rfl (va_Nw.of (A := #[]) rfl (hC.2.1.nest (w := .methodLinkNest RX2 135 yX0_close "BootChooser") (by decide +kernel) rfl)) (hts (.initialized RX0) (by decide +kernel)) (by decide +kernel) ⟨Nat.le_of_ble_eq_true rfl, Nat.le_of_ble_eq_true rfl⟩), (hts (.instanceMethod yX0_close) (by decide +kernel)), (hts (.selects RX0 yX0_close yX0_close) (by decide +kernel))⟩ ⟨PW.blind, rcL hC hW, fun U hU hW9 => ⟨rfl, PW.at hC hS hW U hU hW9⟩⟩ rfl rfl hl.1 rfl (lv_room (Nat.le_of_ble_eq_true rfl)) dX2_lock_52 ⟨Nat.le_of_ble_eq_true rfl, Nat.le_of_ble_eq_true rfl⟩) hS (fun _ _ h => h) (fun _ h => h) (fun u_15 t H locs ht hvm h_13 hW hz9 hk9 hS => ?_)
        replace hW : Wd g ((σ.1, σ.2.1, upd (upd (upd (upd σ.2.2.1 0 1) 1 code) 2 many) 3 0, σ.2.2.2)) μ o H := by rw [← ht]; exact hW
        try dsimp only at h_13
        refine vx_ret (W.widen (k := 2) (n := 12) (Nat.le_of_ble_eq_true rfl) (Nat.le_of_ble_eq_true rfl) ?_)
        exact W.vret hx hb hr (fun t ht hW9 => ⟨⟨(), rfl, by simp [kLo, c_3, c_8, h_9], by first | (rw [ht]; exact hW) | (dsimp only; rw [ht]; exact hW)⟩, hS.F ht⟩) hS.2.2 dX2_lock_55
    · skip
      replace c_8 := bI_0.mp c_8
      obtain ⟨sa_17, hsa_17⟩ := hC.2.1.2.1 (RX2, 133, "code is below 0 or has more digits") (by decide +kernel)
      refine vx_throwS (own := RX2) (cls := xIA) (text := "code is below 0 or has more digits") (names := ["java/lang/RuntimeException", "java/lang/Exception"]) (ik := 50) (is := 133) (ic := 54) (sa := sa_17) (A := Az g) hx hb hfl hown (by decide +kernel) (by decide +kernel) (hts (.classLink RX2 50 "java/lang/IllegalArgumentException") (by decide +kernel)) (hts (.initialized "java/lang/IllegalArgumentException") (by decide +kernel)) hsa_17 (vx_hat (B := xwB xIA) (fun w h => hts w (hxw54 w h)) (by decide +kernel) (cast_w hC.2.1 (by decide +kernel))) (by decide +kernel) hC.2.2.1.1 hC.2.2.1.2 hS (hl.1.trans hml.symm) dX2_lock_32 dX2_lock_35 dX2_lock_36 dX2_lock_38 dX2_lock_41 (fun x h => (hxt x h).elim) (Nat.le_of_ble_eq_true rfl) (Nat.le_of_ble_eq_true rfl) (Nat.le_of_ble_eq_true rfl) (Nat.le_of_ble_eq_true rfl) hlocks (fun t9 hv9 hz9 hq9 => ⟨(), trivial, ⟨Or.inl ⟨rfl, by simp [kLo, c_3, c_8]⟩, Wd_up hW hz9 hq9⟩, va_F_up hS hz9 hq9⟩) hS.2.2 (Nat.le_of_ble_eq_true rfl) (Nat.le_of_ble_eq_true rfl)
  · skip
    replace c_3 := bI_0.mp c_3
    obtain ⟨sa_18, hsa_18⟩ := hC.2.1.2.1 (RX2, 127, "many is out of range") (by decide +kernel)
    refine vx_throwS (own := RX2) (cls := xIA) (text := "many is out of range") (names := ["java/lang/RuntimeException", "java/lang/Exception"]) (ik := 50) (is := 127) (ic := 54) (sa := sa_18) (A := Az g) hx hb hfl hown (by decide +kernel) (by decide +kernel) (hts (.classLink RX2 50 "java/lang/IllegalArgumentException") (by decide +kernel)) (hts (.initialized "java/lang/IllegalArgumentException") (by decide +kernel)) hsa_18 (vx_hat (B := xwB xIA) (fun w h => hts w (hxw54 w h)) (by decide +kernel) (cast_w hC.2.1 (by decide +kernel))) (by decide +kernel) hC.2.2.1.1 hC.2.2.1.2 hS (hl.1.trans hml.symm) dX2_lock_10 dX2_lock_13 dX2_lock_14 dX2_lock_16 dX2_lock_19 (fun x h => (hxt x h).elim) (Nat.le_of_ble_eq_true rfl) (Nat.le_of_ble_eq_true rfl) (Nat.le_of_ble_eq_true rfl) (Nat.le_of_ble_eq_true rfl) hlocks (fun t9 hv9 hz9 hq9 => ⟨(), trivial, ⟨Or.inl ⟨rfl, by simp [kLo, c_3]⟩, Wd_up hW hz9 hq9⟩, va_F_up hS hz9 hq9⟩) hS.2.2 (Nat.le_of_ble_eq_true rfl) (Nat.le_of_ble_eq_true rfl)
