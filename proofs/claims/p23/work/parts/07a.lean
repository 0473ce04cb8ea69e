set_option maxHeartbeats 4000000 in
set_option maxRecDepth 100000 in
theorem mtL_act_0 (l : Launch) (g : Ge) (σ : Sg) (μ : Mg) (o : Nat → Int64) (hfl : l.stackTraces = false) (a b : Int32) (kk rr : Int32) (hk : kRem σ a = kk) (hrr : (kk = 1 ∧ rr = (-71))) : Met l yL_act wsL_act ({ frames := 8, cells := 1, slots := 6, locals := 133 } : Room) (va_Pc [.ref (gA g 0), .int 0, .int a, .int b] (PW g σ μ o)) (va_Qi (S := Unit) (fun r _ => r = rr) (fun _ t => Wd g σ μ o t.heap) (Az g)) 1 6 (Az g) := by
  refine va_MetW (cc := cL_act) (maxL := 5) (ret := (some .int)) (by decide) rfl ?_
  intro p e s m args below meth c s₁ B hml hv
  obtain ⟨rfl, hC, hW⟩ := hv
  have hx := B.exec
  have hb := B.bytes
  have hr := B.returns
  have hts := atoms_spec (ws := wsL_act) B.pre
  have hown : s.vm.findClass RL = some m.cls := findClass_of_methodNamed B.named
  have hlocks := B.notSynchronized
  have hS : va_S (Az g) s.heap s.heap [] := va_S.rf
  have hl := lv_entry ([.ref (gA g 0), .int 0, .int a, .int b]) (n := 5) (Nat.le_of_ble_eq_true rfl)
  rw [lg_entry_eq]
  generalize (lg_sl ([.ref (gA g 0), .int 0, .int a, .int b]) ++ List.replicate (5 - (lg_sl ([.ref (gA g 0), .int 0, .int a, .int b])).length) Slot.unset).toArray = ls at hl ⊢
  have hl : lv_has ls 5 [(0, .ref (gA g 0)), (1, .int 0), (2, .int a), (3, .int b)] := hl
  have htab := vx_table (x := yL_act) B (hts (.codeWith yL_act cL_act 5 (some .int) [(0, 175, 176, 60), (0, 175, 181, 13), (0, 175, 186, 15)] ) (by exact List.mem_cons_self))
  refine lv_iload_n hx hb dL_act_0 rfl (lv_at hl 1 rfl) ?_
  refine lv_if_ne (tgt := 12) hx hb dL_act_1 (by decide) (fun c_1 => absurd c_1 (by decide)) (fun c_1 => ?_)
  refine lv_aload_n hx hb dL_act_4 rfl (lv_at hl 0 rfl) ?_
  refine lv_iload_n hx hb dL_act_5 rfl (lv_at hl 2 rfl) ?_
  refine vx_calli (vx_runV (As := [.int a]) (rest := []) ⟨hx, hb, hml, hown, hts⟩ (mtX2_remove l hfl g σ μ o a) (cwV 1 hts gL_act_X2_remove rfl rfl rfl (by decide +kernel) ⟨Nat.le_of_ble_eq_true rfl, Nat.le_of_ble_eq_true rfl⟩) ⟨PW.blind, rcB hC hW, fun U hU hW9 => ⟨rfl, PW.at hC hS hW U hU hW9⟩⟩ rfl rfl hl.1 rfl (lv_room (Nat.le_of_ble_eq_true rfl)) dL_act_6 ⟨Nat.le_of_ble_eq_true rfl, Nat.le_of_ble_eq_true rfl⟩) hS (fun _ _ h => h) (fun _ h => h) (fun _ _ h => h) (fun E9 ce q9 u_4 t H locs ht hvm hpx hbx hz9 hk9 hS hce hcv hcl => ?_) (fun r_3 u_4 t H locs ht hvm h_2 hW hz9 hk9 hS => ?_)
  · skip
    obtain ⟨hbq, hbw⟩ := hbx
    try dsimp only at hbq
    replace hbw : Wd g σ μ o H := by rw [← ht]; exact hbw
    obtain ⟨rfl, hk9⟩ := hbq
    have e9 := hk.symm.trans hk9
    have hr9 : rr = (-71) := hrr.2
    refine vx_catch (own := RL) (name := "java/lang/IndexOutOfBoundsException") hown (tableOf []) ⟨0, 175, 176, 60⟩ (tableOf [(0, 175, 181, 13), (0, 175, 186, 15)]) (htab.trans rfl) (fun z hz => absurd hz List.not_mem_nil) (by decide) (by decide) (hts (.classLink RL 60 "java/lang/IndexOutOfBoundsException") (by decide +kernel)) (cast_w (E := xIO) hC.2.1 (by decide +kernel) (.castable xIO xIO) (by decide +kernel)) hce hcv hcl ?_
    have hW := hbw
    refine lv_astore (lv' := [(4, .ref q9), (0, .ref (gA g 0)), (1, .int 0), (2, .int a), (3, .int b)]) hx hb dL_act_176 hl (by decide) rfl (fun ls hl => ?_)
    refine lv_bipush (v := (-71)) hx hb dL_act_178 (by decide) ?_
    refine W.widen (k := 1) (n := 6) (Nat.le_of_ble_eq_true rfl) (Nat.le_of_ble_eq_true rfl) ?_
    exact W.iret (v := (-71)) hx hb hr (fun t ht hW9 => ⟨⟨_, (), rfl, hr9.symm, by first | (rw [ht]; exact hW) | (dsimp only; rw [ht]; exact hW)⟩, hS.F ht⟩) hS.2.2 dL_act_180
  · skip
    replace hW : Wd g ((σ.1, up2 σ.2.1 u_4 (upd (σ.2.1 u_4) 0 0), σ.2.2)) μ o H := by rw [← ht]; exact hW
    try dsimp only at h_2
    exact absurd (hk.symm.trans h_2.1) (by rw [hrr.1]; decide)
set_option maxHeartbeats 4000000 in
set_option maxRecDepth 100000 in
theorem mtL_act_1 (l : Launch) (g : Ge) (σ : Sg) (μ : Mg) (o : Nat → Int64) (hfl : l.stackTraces = false) (a b : Int32) (kk rr : Int32) (hk : kEd σ a b = kk) (hrr : (kk = 1 ∧ rr = (-71)) ∨ (kk = 2 ∧ rr = (-72)) ∨ (kk = 3 ∧ rr = (-73))) : Met l yL_act wsL_act ({ frames := 8, cells := 3, slots := 18, locals := 136 } : Room) (va_Pc [.ref (gA g 0), .int 1, .int a, .int b] (PW g σ μ o)) (va_Qi (S := Unit) (fun r _ => r = rr) (fun _ t => Wd g σ μ o t.heap) (Az g)) 3 18 (Az g) := by
  refine va_MetW (cc := cL_act) (maxL := 5) (ret := (some .int)) (by decide) rfl ?_
  intro p e s m args below meth c s₁ B hml hv
  obtain ⟨rfl, hC, hW⟩ := hv
  have hx := B.exec
  have hb := B.bytes
  have hr := B.returns
  have hts := atoms_spec (ws := wsL_act) B.pre
  have hown : s.vm.findClass RL = some m.cls := findClass_of_methodNamed B.named
  have hlocks := B.notSynchronized
  have hS : va_S (Az g) s.heap s.heap [] := va_S.rf
  have hl := lv_entry ([.ref (gA g 0), .int 1, .int a, .int b]) (n := 5) (Nat.le_of_ble_eq_true rfl)
  rw [lg_entry_eq]
  generalize (lg_sl ([.ref (gA g 0), .int 1, .int a, .int b]) ++ List.replicate (5 - (lg_sl ([.ref (gA g 0), .int 1, .int a, .int b])).length) Slot.unset).toArray = ls at hl ⊢
  have hl : lv_has ls 5 [(0, .ref (gA g 0)), (1, .int 1), (2, .int a), (3, .int b)] := hl
  have htab := vx_table (x := yL_act) B (hts (.codeWith yL_act cL_act 5 (some .int) [(0, 175, 176, 60), (0, 175, 181, 13), (0, 175, 186, 15)] ) (by exact List.mem_cons_self))
  refine lv_iload_n hx hb dL_act_0 rfl (lv_at hl 1 rfl) ?_
  refine lv_if_ne (tgt := 12) hx hb dL_act_1 (by decide) (fun c_1 => ?_) (fun c_1 => absurd c_1 (by decide))
  refine lv_iload_n hx hb dL_act_12 rfl (lv_at hl 1 rfl) ?_
  refine lv_iconst (v := 1) hx hb dL_act_13 (by decide) ?_
  refine lv_icmp_ne (tgt := 26) hx hb dL_act_14 (by decide) (fun c_2 => absurd c_2 (by decide)) (fun c_2 => ?_)
  refine lv_aload_n hx hb dL_act_17 rfl (lv_at hl 0 rfl) ?_
  refine lv_iload_n hx hb dL_act_18 rfl (lv_at hl 2 rfl) ?_
  refine lv_iload_n hx hb dL_act_19 rfl (lv_at hl 3 rfl) ?_
  refine vx_calli (vx_runV (As := [.int a, .int b]) (rest := []) ⟨hx, hb, hml, hown, hts⟩ (mtX2_edit l hfl g σ μ o a b) (cwV 2 hts gL_act_X2_edit rfl rfl rfl (by decide +kernel) ⟨Nat.le_of_ble_eq_true rfl, Nat.le_of_ble_eq_true rfl⟩) ⟨PW.blind, rcB hC hW, fun U hU hW9 => ⟨rfl, PW.at hC hS hW U hU hW9⟩⟩ rfl rfl hl.1 rfl (lv_room (Nat.le_of_ble_eq_true rfl)) dL_act_20 ⟨Nat.le_of_ble_eq_true rfl, Nat.le_of_ble_eq_true rfl⟩) hS (fun _ _ h => h) (fun _ h => h) (fun _ _ h => h) (fun E9 ce q9 u_5 t H locs ht hvm hpx hbx hz9 hk9 hS hce hcv hcl => ?_) (fun r_4 u_5 t H locs ht hvm h_3 hW hz9 hk9 hS => ?_)
  · skip
    obtain ⟨hbq, hbw⟩ := hbx
    try dsimp only at hbq
    replace hbw : Wd g σ μ o H := by rw [← ht]; exact hbw
    rcases hbq with hbq | hbq | hbq
    · skip
      obtain ⟨rfl, hk9⟩ := hbq
      have e9 := hk.symm.trans hk9
      have hr9 : rr = (-71) := by rcases hrr with ⟨h1, h2⟩ | ⟨h1, h2⟩ | ⟨h1, h2⟩ <;> first | exact h2 | exact absurd (h1.symm.trans e9) (by decide)
      refine vx_catch (own := RL) (name := "java/lang/IndexOutOfBoundsException") hown (tableOf []) ⟨0, 175, 176, 60⟩ (tableOf [(0, 175, 181, 13), (0, 175, 186, 15)]) (htab.trans rfl) (fun z hz => absurd hz List.not_mem_nil) (by decide) (by decide) (hts (.classLink RL 60 "java/lang/IndexOutOfBoundsException") (by decide +kernel)) (cast_w (E := xIO) hC.2.1 (by decide +kernel) (.castable xIO xIO) (by decide +kernel)) hce hcv hcl ?_
      have hW := hbw
      refine lv_astore (lv' := [(4, .ref q9), (0, .ref (gA g 0)), (1, .int 1), (2, .int a), (3, .int b)]) hx hb dL_act_176 hl (by decide) rfl (fun ls hl => ?_)
      refine lv_bipush (v := (-71)) hx hb dL_act_178 (by decide) ?_
      refine W.widen (k := 3) (n := 18) (Nat.le_of_ble_eq_true rfl) (Nat.le_of_ble_eq_true rfl) ?_
      exact W.iret (v := (-71)) hx hb hr (fun t ht hW9 => ⟨⟨_, (), rfl, hr9.symm, by first | (rw [ht]; exact hW) | (dsimp only; rw [ht]; exact hW)⟩, hS.F ht⟩) hS.2.2 dL_act_180
    · skip
      obtain ⟨rfl, hk9⟩ := hbq
      have e9 := hk.symm.trans hk9
      have hr9 : rr = (-72) := by rcases hrr with ⟨h1, h2⟩ | ⟨h1, h2⟩ | ⟨h1, h2⟩ <;> first | exact h2 | exact absurd (h1.symm.trans e9) (by decide)
      refine vx_catch (own := RL) (name := "java/lang/IllegalArgumentException") hown (tableOf [(0, 175, 176, 60)]) ⟨0, 175, 181, 13⟩ (tableOf [(0, 175, 186, 15)]) (htab.trans rfl) (List.forall_mem_cons.mpr ⟨Or.inr ⟨by decide, "java/lang/IndexOutOfBoundsException", hts (.classLink RL 60 "java/lang/IndexOutOfBoundsException") (by decide +kernel), hC.2.1.2.2.2 (xIA, xIO) (by decide +kernel)⟩, (fun z hz => absurd hz List.not_mem_nil)⟩) (by decide) (by decide) (hts (.classLink RL 13 "java/lang/IllegalArgumentException") (by decide +kernel)) (cast_w (E := xIA) hC.2.1 (by decide +kernel) (.castable xIA xIA) (by decide +kernel)) hce hcv hcl ?_
      have hW := hbw
      refine lv_astore (lv' := [(4, .ref q9), (0, .ref (gA g 0)), (1, .int 1), (2, .int a), (3, .int b)]) hx hb dL_act_181 hl (by decide) rfl (fun ls hl => ?_)
      refine lv_bipush (v := (-72)) hx hb dL_act_183 (by decide) ?_
      refine W.widen (k := 3) (n := 18) (Nat.le_of_ble_eq_true rfl) (Nat.le_of_ble_eq_true rfl) ?_
      exact W.iret (v := (-72)) hx hb hr (fun t ht hW9 => ⟨⟨_, (), rfl, hr9.symm, by first | (rw [ht]; exact hW) | (dsimp only; rw [ht]; exact hW)⟩, hS.F ht⟩) hS.2.2 dL_act_185
    · skip
      obtain ⟨rfl, hk9⟩ := hbq
      have e9 := hk.symm.trans hk9
      have hr9 : rr = (-73) := by rcases hrr with ⟨h1, h2⟩ | ⟨h1, h2⟩ | ⟨h1, h2⟩ <;> first | exact h2 | exact absurd (h1.symm.trans e9) (by decide)
      refine vx_catch (own := RL) (name := "java/lang/IllegalStateException") hown (tableOf [(0, 175, 176, 60), (0, 175, 181, 13)]) ⟨0, 175, 186, 15⟩ (tableOf []) (htab.trans rfl) (List.forall_mem_cons.mpr ⟨Or.inr ⟨by decide, "java/lang/IndexOutOfBoundsException", hts (.classLink RL 60 "java/lang/IndexOutOfBoundsException") (by decide +kernel), hC.2.1.2.2.2 (xIS, xIO) (by decide +kernel)⟩, (List.forall_mem_cons.mpr ⟨Or.inr ⟨by decide, "java/lang/IllegalArgumentException", hts (.classLink RL 13 "java/lang/IllegalArgumentException") (by decide +kernel), hC.2.1.2.2.2 (xIS, xIA) (by decide +kernel)⟩, (fun z hz => absurd hz List.not_mem_nil)⟩)⟩) (by decide) (by decide) (hts (.classLink RL 15 "java/lang/IllegalStateException") (by decide +kernel)) (cast_w (E := xIS) hC.2.1 (by decide +kernel) (.castable xIS xIS) (by decide +kernel)) hce hcv hcl ?_
      have hW := hbw
      refine lv_astore (lv' := [(4, .ref q9), (0, .ref (gA g 0)), (1, .int 1), (2, .int a), (3, .int b)]) hx hb dL_act_186 hl (by decide) rfl (fun ls hl => ?_)
      refine lv_bipush (v := (-73)) hx hb dL_act_188 (by decide) ?_
      refine W.widen (k := 3) (n := 18) (Nat.le_of_ble_eq_true rfl) (Nat.le_of_ble_eq_true rfl) ?_
      exact W.iret (v := (-73)) hx hb hr (fun t ht hW9 => ⟨⟨_, (), rfl, hr9.symm, by first | (rw [ht]; exact hW) | (dsimp only; rw [ht]; exact hW)⟩, hS.F ht⟩) hS.2.2 dL_act_190
  · skip
    replace hW : Wd g ((σ.1, up2 σ.2.1 u_5 (upd (σ.2.1 u_5) 6 b), σ.2.2)) μ o H := by rw [← ht]; exact hW
    try dsimp only at h_3
    exact absurd (hk.symm.trans h_3.1) (by rcases hrr with ⟨h1, h2⟩ | ⟨h1, h2⟩ | ⟨h1, h2⟩ <;> rw [h1] <;> decide)
set_option maxHeartbeats 4000000 in
set_option maxRecDepth 100000 in
theorem mtL_act_2 (l : Launch) (g : Ge) (σ : Sg) (μ : Mg) (o : Nat → Int64) (hfl : l.stackTraces = false) (a b : Int32) (kk rr : Int32) (hk : kCh σ a = kk) (hrr : (kk = 1 ∧ rr = (-71)) ∨ (kk = 2 ∧ rr = (-73))) : Met l yL_act wsL_act ({ frames := 8, cells := 2, slots := 12, locals := 133 } : Room) (va_Pc [.ref (gA g 0), .int 2, .int a, .int b] (PW g σ μ o)) (va_Qi (S := Unit) (fun r _ => r = rr) (fun _ t => Wd g σ μ o t.heap) (Az g)) 2 12 (Az g) := by
  refine va_MetW (cc := cL_act) (maxL := 5) (ret := (some .int)) (by decide) rfl ?_
  intro p e s m args below meth c s₁ B hml hv
  obtain ⟨rfl, hC, hW⟩ := hv
  have hx := B.exec
  have hb := B.bytes
  have hr := B.returns
  have hts := atoms_spec (ws := wsL_act) B.pre
  have hown : s.vm.findClass RL = some m.cls := findClass_of_methodNamed B.named
  have hlocks := B.notSynchronized
  have hS : va_S (Az g) s.heap s.heap [] := va_S.rf
  have hl := lv_entry ([.ref (gA g 0), .int 2, .int a, .int b]) (n := 5) (Nat.le_of_ble_eq_true rfl)
  rw [lg_entry_eq]
  generalize (lg_sl ([.ref (gA g 0), .int 2, .int a, .int b]) ++ List.replicate (5 - (lg_sl ([.ref (gA g 0), .int 2, .int a, .int b])).length) Slot.unset).toArray = ls at hl ⊢
  have hl : lv_has ls 5 [(0, .ref (gA g 0)), (1, .int 2), (2, .int a), (3, .int b)] := hl
  have htab := vx_table (x := yL_act) B (hts (.codeWith yL_act cL_act 5 (some .int) [(0, 175, 176, 60), (0, 175, 181, 13), (0, 175, 186, 15)] ) (by exact List.mem_cons_self))
  refine lv_iload_n hx hb dL_act_0 rfl (lv_at hl 1 rfl) ?_
  refine lv_if_ne (tgt := 12) hx hb dL_act_1 (by decide) (fun c_1 => ?_) (fun c_1 => absurd c_1 (by decide))
  refine lv_iload_n hx hb dL_act_12 rfl (lv_at hl 1 rfl) ?_
  refine lv_iconst (v := 1) hx hb dL_act_13 (by decide) ?_
  refine lv_icmp_ne (tgt := 26) hx hb dL_act_14 (by decide) (fun c_2 => ?_) (fun c_2 => absurd c_2 (by decide))
  refine lv_iload_n hx hb dL_act_26 rfl (lv_at hl 1 rfl) ?_
  refine lv_iconst (v := 2) hx hb dL_act_27 (by decide) ?_
  refine lv_icmp_ne (tgt := 39) hx hb dL_act_28 (by decide) (fun c_3 => absurd c_3 (by decide)) (fun c_3 => ?_)
  refine lv_aload_n hx hb dL_act_31 rfl (lv_at hl 0 rfl) ?_
  refine lv_iload_n hx hb dL_act_32 rfl (lv_at hl 2 rfl) ?_
  refine vx_calli (vx_runV (As := [.int a]) (rest := []) ⟨hx, hb, hml, hown, hts⟩ (mtX2_choose l hfl g σ μ o a) (cwV 1 hts gL_act_X2_choose rfl rfl rfl (by decide +kernel) ⟨Nat.le_of_ble_eq_true rfl, Nat.le_of_ble_eq_true rfl⟩) ⟨PW.blind, rcB hC hW, fun U hU hW9 => ⟨rfl, PW.at hC hS hW U hU hW9⟩⟩ rfl rfl hl.1 rfl (lv_room (Nat.le_of_ble_eq_true rfl)) dL_act_33 ⟨Nat.le_of_ble_eq_true rfl, Nat.le_of_ble_eq_true rfl⟩) hS (fun _ _ h => h) (fun _ h => h) (fun _ _ h => h) (fun E9 ce q9 u_6 t H locs ht hvm hpx hbx hz9 hk9 hS hce hcv hcl => ?_) (fun r_5 u_6 t H locs ht hvm h_4 hW hz9 hk9 hS => ?_)
  · skip
    obtain ⟨hbq, hbw⟩ := hbx
    try dsimp only at hbq
    replace hbw : Wd g σ μ o H := by rw [← ht]; exact hbw
    rcases hbq with hbq | hbq
    · skip
      obtain ⟨rfl, hk9⟩ := hbq
      have e9 := hk.symm.trans hk9
      have hr9 : rr = (-71) := by rcases hrr with ⟨h1, h2⟩ | ⟨h1, h2⟩ <;> first | exact h2 | exact absurd (h1.symm.trans e9) (by decide)
      refine vx_catch (own := RL) (name := "java/lang/IndexOutOfBoundsException") hown (tableOf []) ⟨0, 175, 176, 60⟩ (tableOf [(0, 175, 181, 13), (0, 175, 186, 15)]) (htab.trans rfl) (fun z hz => absurd hz List.not_mem_nil) (by decide) (by decide) (hts (.classLink RL 60 "java/lang/IndexOutOfBoundsException") (by decide +kernel)) (cast_w (E := xIO) hC.2.1 (by decide +kernel) (.castable xIO xIO) (by decide +kernel)) hce hcv hcl ?_
      have hW := hbw
      refine lv_astore (lv' := [(4, .ref q9), (0, .ref (gA g 0)), (1, .int 2), (2, .int a), (3, .int b)]) hx hb dL_act_176 hl (by decide) rfl (fun ls hl => ?_)
      refine lv_bipush (v := (-71)) hx hb dL_act_178 (by decide) ?_
      refine W.widen (k := 2) (n := 12) (Nat.le_of_ble_eq_true rfl) (Nat.le_of_ble_eq_true rfl) ?_
      exact W.iret (v := (-71)) hx hb hr (fun t ht hW9 => ⟨⟨_, (), rfl, hr9.symm, by first | (rw [ht]; exact hW) | (dsimp only; rw [ht]; exact hW)⟩, hS.F ht⟩) hS.2.2 dL_act_180
    · skip
      obtain ⟨rfl, hk9⟩ := hbq
      have e9 := hk.symm.trans hk9
      have hr9 : rr = (-73) := by rcases hrr with ⟨h1, h2⟩ | ⟨h1, h2⟩ <;> first | exact h2 | exact absurd (h1.symm.trans e9) (by decide)
      refine vx_catch (own := RL) (name := "java/lang/IllegalStateException") hown (tableOf [(0, 175, 176, 60), (0, 175, 181, 13)]) ⟨0, 175, 186, 15⟩ (tableOf []) (htab.trans rfl) (List.forall_mem_cons.mpr ⟨Or.inr ⟨by decide, "java/lang/IndexOutOfBoundsException", hts (.classLink RL 60 "java/lang/IndexOutOfBoundsException") (by decide +kernel), hC.2.1.2.2.2 (xIS, xIO) (by decide +kernel)⟩, (List.forall_mem_cons.mpr ⟨Or.inr ⟨by decide, "java/lang/IllegalArgumentException", hts (.classLink RL 13 "java/lang/IllegalArgumentException") (by decide +kernel), hC.2.1.2.2.2 (xIS, xIA) (by decide +kernel)⟩, (fun z hz => absurd hz List.not_mem_nil)⟩)⟩) (by decide) (by decide) (hts (.classLink RL 15 "java/lang/IllegalStateException") (by decide +kernel)) (cast_w (E := xIS) hC.2.1 (by decide +kernel) (.castable xIS xIS) (by decide +kernel)) hce hcv hcl ?_
      have hW := hbw
      refine lv_astore (lv' := [(4, .ref q9), (0, .ref (gA g 0)), (1, .int 2), (2, .int a), (3, .int b)]) hx hb dL_act_186 hl (by decide) rfl (fun ls hl => ?_)
      refine lv_bipush (v := (-73)) hx hb dL_act_188 (by decide) ?_
      refine W.widen (k := 2) (n := 12) (Nat.le_of_ble_eq_true rfl) (Nat.le_of_ble_eq_true rfl) ?_
      exact W.iret (v := (-73)) hx hb hr (fun t ht hW9 => ⟨⟨_, (), rfl, hr9.symm, by first | (rw [ht]; exact hW) | (dsimp only; rw [ht]; exact hW)⟩, hS.F ht⟩) hS.2.2 dL_act_190
  · skip
    replace hW : Wd g ((upd σ.1 1 a, σ.2)) μ o H := by rw [← ht]; exact hW
    try dsimp only at h_4
    exact absurd (hk.symm.trans h_4.1) (by rcases hrr with ⟨h1, h2⟩ | ⟨h1, h2⟩ <;> rw [h1] <;> decide)
set_option maxHeartbeats 4000000 in
set_option maxRecDepth 100000 in
theorem mtL_act_3 (l : Launch) (g : Ge) (σ : Sg) (μ : Mg) (o : Nat → Int64) (hfl : l.stackTraces = false) (a b : Int32) (kk rr : Int32) (hk : kCo σ a = kk) (hrr : (kk = 1 ∧ rr = (-71))) : Met l yL_act wsL_act ({ frames := 8, cells := 1, slots := 6, locals := 133 } : Room) (va_Pc [.ref (gA g 0), .int 3, .int a, .int b] (PW g σ μ o)) (va_Qi (S := Unit) (fun r _ => r = rr) (fun _ t => Wd g σ μ o t.heap) (Az g)) 1 6 (Az g) := by
  refine va_MetW (cc := cL_act) (maxL := 5) (ret := (some .int)) (by decide) rfl ?_
  intro p e s m args below meth c s₁ B hml hv
  obtain ⟨rfl, hC, hW⟩ := hv
  have hx := B.exec
  have hb := B.bytes
  have hr := B.returns
  have hts := atoms_spec (ws := wsL_act) B.pre
  have hown : s.vm.findClass RL = some m.cls := findClass_of_methodNamed B.named
  have hlocks := B.notSynchronized
  have hS : va_S (Az g) s.heap s.heap [] := va_S.rf
  have hl := lv_entry ([.ref (gA g 0), .int 3, .int a, .int b]) (n := 5) (Nat.le_of_ble_eq_true rfl)
  rw [lg_entry_eq]
  generalize (lg_sl ([.ref (gA g 0), .int 3, .int a, .int b]) ++ List.replicate (5 - (lg_sl ([.ref (gA g 0), .int 3, .int a, .int b])).length) Slot.unset).toArray = ls at hl ⊢
  have hl : lv_has ls 5 [(0, .ref (gA g 0)), (1, .int 3), (2, .int a), (3, .int b)] := hl
  have htab := vx_table (x := yL_act) B (hts (.codeWith yL_act cL_act 5 (some .int) [(0, 175, 176, 60), (0, 175, 181, 13), (0, 175, 186, 15)] ) (by exact List.mem_cons_self))
  refine lv_iload_n hx hb dL_act_0 rfl (lv_at hl 1 rfl) ?_
  refine lv_if_ne (tgt := 12) hx hb dL_act_1 (by decide) (fun c_1 => ?_) (fun c_1 => absurd c_1 (by decide))
  refine lv_iload_n hx hb dL_act_12 rfl (lv_at hl 1 rfl) ?_
  refine lv_iconst (v := 1) hx hb dL_act_13 (by decide) ?_
  refine lv_icmp_ne (tgt := 26) hx hb dL_act_14 (by decide) (fun c_2 => ?_) (fun c_2 => absurd c_2 (by decide))
  refine lv_iload_n hx hb dL_act_26 rfl (lv_at hl 1 rfl) ?_
  refine lv_iconst (v := 2) hx hb dL_act_27 (by decide) ?_
  refine lv_icmp_ne (tgt := 39) hx hb dL_act_28 (by decide) (fun c_3 => ?_) (fun c_3 => absurd c_3 (by decide))
  refine lv_iload_n hx hb dL_act_39 rfl (lv_at hl 1 rfl) ?_
  refine lv_iconst (v := 3) hx hb dL_act_40 (by decide) ?_
  refine lv_icmp_ne (tgt := 52) hx hb dL_act_41 (by decide) (fun c_4 => absurd c_4 (by decide)) (fun c_4 => ?_)
  refine lv_aload_n hx hb dL_act_44 rfl (lv_at hl 0 rfl) ?_
  refine lv_iload_n hx hb dL_act_45 rfl (lv_at hl 2 rfl) ?_
  refine vx_calli (vx_runV (As := [.int a]) (rest := []) ⟨hx, hb, hml, hown, hts⟩ (mtX2_chooseOnce l hfl g σ μ o a) (cwV 1 hts gL_act_X2_chooseOnce rfl rfl rfl (by decide +kernel) ⟨Nat.le_of_ble_eq_true rfl, Nat.le_of_ble_eq_true rfl⟩) ⟨PW.blind, rcB hC hW, fun U hU hW9 => ⟨rfl, PW.at hC hS hW U hU hW9⟩⟩ rfl rfl hl.1 rfl (lv_room (Nat.le_of_ble_eq_true rfl)) dL_act_46 ⟨Nat.le_of_ble_eq_true rfl, Nat.le_of_ble_eq_true rfl⟩) hS (fun _ _ h => h) (fun _ h => h) (fun _ _ h => h) (fun E9 ce q9 u_7 t H locs ht hvm hpx hbx hz9 hk9 hS hce hcv hcl => ?_) (fun r_6 u_7 t H locs ht hvm h_5 hW hz9 hk9 hS => ?_)
  · skip
    obtain ⟨hbq, hbw⟩ := hbx
    try dsimp only at hbq
    replace hbw : Wd g σ μ o H := by rw [← ht]; exact hbw
    obtain ⟨rfl, hk9⟩ := hbq
    have e9 := hk.symm.trans hk9
    have hr9 : rr = (-71) := hrr.2
    refine vx_catch (own := RL) (name := "java/lang/IndexOutOfBoundsException") hown (tableOf []) ⟨0, 175, 176, 60⟩ (tableOf [(0, 175, 181, 13), (0, 175, 186, 15)]) (htab.trans rfl) (fun z hz => absurd hz List.not_mem_nil) (by decide) (by decide) (hts (.classLink RL 60 "java/lang/IndexOutOfBoundsException") (by decide +kernel)) (cast_w (E := xIO) hC.2.1 (by decide +kernel) (.castable xIO xIO) (by decide +kernel)) hce hcv hcl ?_
    have hW := hbw
    refine lv_astore (lv' := [(4, .ref q9), (0, .ref (gA g 0)), (1, .int 3), (2, .int a), (3, .int b)]) hx hb dL_act_176 hl (by decide) rfl (fun ls hl => ?_)
    refine lv_bipush (v := (-71)) hx hb dL_act_178 (by decide) ?_
    refine W.widen (k := 1) (n := 6) (Nat.le_of_ble_eq_true rfl) (Nat.le_of_ble_eq_true rfl) ?_
    exact W.iret (v := (-71)) hx hb hr (fun t ht hW9 => ⟨⟨_, (), rfl, hr9.symm, by first | (rw [ht]; exact hW) | (dsimp only; rw [ht]; exact hW)⟩, hS.F ht⟩) hS.2.2 dL_act_180
  · skip
    replace hW : Wd g ((upd σ.1 2 a, σ.2)) μ o H := by rw [← ht]; exact hW
    try dsimp only at h_5
    exact absurd (hk.symm.trans h_5.1) (by rw [hrr.1]; decide)
set_option maxHeartbeats 4000000 in
set_option maxRecDepth 100000 in
theorem mtL_act_4 (l : Launch) (g : Ge) (σ : Sg) (μ : Mg) (o : Nat → Int64) (hfl : l.stackTraces = false) (a b : Int32) (kk rr : Int32) (hk : kPa σ a b = kk) (hrr : (kk = 1 ∧ rr = (-72)) ∨ (kk = 2 ∧ rr = (-73))) : Met l yL_act wsL_act ({ frames := 8, cells := 2, slots := 12, locals := 132 } : Room) (va_Pc [.ref (gA g 0), .int 4, .int a, .int b] (PW g σ μ o)) (va_Qi (S := Unit) (fun r _ => r = rr) (fun _ t => Wd g σ μ o t.heap) (Az g)) 2 12 (Az g) := by
  refine va_MetW (cc := cL_act) (maxL := 5) (ret := (some .int)) (by decide) rfl ?_
  intro p e s m args below meth c s₁ B hml hv
  obtain ⟨rfl, hC, hW⟩ := hv
  have hx := B.exec
  have hb := B.bytes
  have hr := B.returns
  have hts := atoms_spec (ws := wsL_act) B.pre
  have hown : s.vm.findClass RL = some m.cls := findClass_of_methodNamed B.named
  have hlocks := B.notSynchronized
  have hS : va_S (Az g) s.heap s.heap [] := va_S.rf
  have hl := lv_entry ([.ref (gA g 0), .int 4, .int a, .int b]) (n := 5) (Nat.le_of_ble_eq_true rfl)
  rw [lg_entry_eq]
  generalize (lg_sl ([.ref (gA g 0), .int 4, .int a, .int b]) ++ List.replicate (5 - (lg_sl ([.ref (gA g 0), .int 4, .int a, .int b])).length) Slot.unset).toArray = ls at hl ⊢
  have hl : lv_has ls 5 [(0, .ref (gA g 0)), (1, .int 4), (2, .int a), (3, .int b)] := hl
  have htab := vx_table (x := yL_act) B (hts (.codeWith yL_act cL_act 5 (some .int) [(0, 175, 176, 60), (0, 175, 181, 13), (0, 175, 186, 15)] ) (by exact List.mem_cons_self))
  refine lv_iload_n hx hb dL_act_0 rfl (lv_at hl 1 rfl) ?_
  refine lv_if_ne (tgt := 12) hx hb dL_act_1 (by decide) (fun c_1 => ?_) (fun c_1 => absurd c_1 (by decide))
  refine lv_iload_n hx hb dL_act_12 rfl (lv_at hl 1 rfl) ?_
  refine lv_iconst (v := 1) hx hb dL_act_13 (by decide) ?_
  refine lv_icmp_ne (tgt := 26) hx hb dL_act_14 (by decide) (fun c_2 => ?_) (fun c_2 => absurd c_2 (by decide))
  refine lv_iload_n hx hb dL_act_26 rfl (lv_at hl 1 rfl) ?_
  refine lv_iconst (v := 2) hx hb dL_act_27 (by decide) ?_
  refine lv_icmp_ne (tgt := 39) hx hb dL_act_28 (by decide) (fun c_3 => ?_) (fun c_3 => absurd c_3 (by decide))
  refine lv_iload_n hx hb dL_act_39 rfl (lv_at hl 1 rfl) ?_
  refine lv_iconst (v := 3) hx hb dL_act_40 (by decide) ?_
  refine lv_icmp_ne (tgt := 52) hx hb dL_act_41 (by decide) (fun c_4 => ?_) (fun c_4 => absurd c_4 (by decide))
  refine lv_iload_n hx hb dL_act_52 rfl (lv_at hl 1 rfl) ?_
  refine lv_iconst (v := 4) hx hb dL_act_53 (by decide) ?_
  refine lv_icmp_ne (tgt := 66) hx hb dL_act_54 (by decide) (fun c_5 => absurd c_5 (by decide)) (fun c_5 => ?_)
  refine lv_aload_n hx hb dL_act_57 rfl (lv_at hl 0 rfl) ?_
  refine lv_iload_n hx hb dL_act_58 rfl (lv_at hl 2 rfl) ?_
  refine lv_iload_n hx hb dL_act_59 rfl (lv_at hl 3 rfl) ?_
  refine vx_calli (vx_runV (As := [.int a, .int b]) (rest := []) ⟨hx, hb, hml, hown, hts⟩ (mtX2_setPattern l hfl g σ μ o a b) (cwV 2 hts gL_act_X2_setPattern rfl rfl rfl (by decide +kernel) ⟨Nat.le_of_ble_eq_true rfl, Nat.le_of_ble_eq_true rfl⟩) ⟨PW.blind, rcB hC hW, fun U hU hW9 => ⟨rfl, PW.at hC hS hW U hU hW9⟩⟩ rfl rfl hl.1 rfl (lv_room (Nat.le_of_ble_eq_true rfl)) dL_act_60 ⟨Nat.le_of_ble_eq_true rfl, Nat.le_of_ble_eq_true rfl⟩) hS (fun _ _ h => h) (fun _ h => h) (fun _ _ h => h) (fun E9 ce q9 u_8 t H locs ht hvm hpx hbx hz9 hk9 hS hce hcv hcl => ?_) (fun r_7 u_8 t H locs ht hvm h_6 hW hz9 hk9 hS => ?_)
  · skip
    obtain ⟨hbq, hbw⟩ := hbx
    try dsimp only at hbq
    replace hbw : Wd g σ μ o H := by rw [← ht]; exact hbw
    rcases hbq with hbq | hbq
    · skip
      obtain ⟨rfl, hk9⟩ := hbq
      have e9 := hk.symm.trans hk9
      have hr9 : rr = (-72) := by rcases hrr with ⟨h1, h2⟩ | ⟨h1, h2⟩ <;> first | exact h2 | exact absurd (h1.symm.trans e9) (by decide)
      refine vx_catch (own := RL) (name := "java/lang/IllegalArgumentException") hown (tableOf [(0, 175, 176, 60)]) ⟨0, 175, 181, 13⟩ (tableOf [(0, 175, 186, 15)]) (htab.trans rfl) (List.forall_mem_cons.mpr ⟨Or.inr ⟨by decide, "java/lang/IndexOutOfBoundsException", hts (.classLink RL 60 "java/lang/IndexOutOfBoundsException") (by decide +kernel), hC.2.1.2.2.2 (xIA, xIO) (by decide +kernel)⟩, (fun z hz => absurd hz List.not_mem_nil)⟩) (by decide) (by decide) (hts (.classLink RL 13 "java/lang/IllegalArgumentException") (by decide +kernel)) (cast_w (E := xIA) hC.2.1 (by decide +kernel) (.castable xIA xIA) (by decide +kernel)) hce hcv hcl ?_
      have hW := hbw
      refine lv_astore (lv' := [(4, .ref q9), (0, .ref (gA g 0)), (1, .int 4), (2, .int a), (3, .int b)]) hx hb dL_act_181 hl (by decide) rfl (fun ls hl => ?_)
      refine lv_bipush (v := (-72)) hx hb dL_act_183 (by decide) ?_
      refine W.widen (k := 2) (n := 12) (Nat.le_of_ble_eq_true rfl) (Nat.le_of_ble_eq_true rfl) ?_
      exact W.iret (v := (-72)) hx hb hr (fun t ht hW9 => ⟨⟨_, (), rfl, hr9.symm, by first | (rw [ht]; exact hW) | (dsimp only; rw [ht]; exact hW)⟩, hS.F ht⟩) hS.2.2 dL_act_185
    · skip
      obtain ⟨rfl, hk9⟩ := hbq
      have e9 := hk.symm.trans hk9
      have hr9 : rr = (-73) := by rcases hrr with ⟨h1, h2⟩ | ⟨h1, h2⟩ <;> first | exact h2 | exact absurd (h1.symm.trans e9) (by decide)
      refine vx_catch (own := RL) (name := "java/lang/IllegalStateException") hown (tableOf [(0, 175, 176, 60), (0, 175, 181, 13)]) ⟨0, 175, 186, 15⟩ (tableOf []) (htab.trans rfl) (List.forall_mem_cons.mpr ⟨Or.inr ⟨by decide, "java/lang/IndexOutOfBoundsException", hts (.classLink RL 60 "java/lang/IndexOutOfBoundsException") (by decide +kernel), hC.2.1.2.2.2 (xIS, xIO) (by decide +kernel)⟩, (List.forall_mem_cons.mpr ⟨Or.inr ⟨by decide, "java/lang/IllegalArgumentException", hts (.classLink RL 13 "java/lang/IllegalArgumentException") (by decide +kernel), hC.2.1.2.2.2 (xIS, xIA) (by decide +kernel)⟩, (fun z hz => absurd hz List.not_mem_nil)⟩)⟩) (by decide) (by decide) (hts (.classLink RL 15 "java/lang/IllegalStateException") (by decide +kernel)) (cast_w (E := xIS) hC.2.1 (by decide +kernel) (.castable xIS xIS) (by decide +kernel)) hce hcv hcl ?_
      have hW := hbw
      refine lv_astore (lv' := [(4, .ref q9), (0, .ref (gA g 0)), (1, .int 4), (2, .int a), (3, .int b)]) hx hb dL_act_186 hl (by decide) rfl (fun ls hl => ?_)
      refine lv_bipush (v := (-73)) hx hb dL_act_188 (by decide) ?_
      refine W.widen (k := 2) (n := 12) (Nat.le_of_ble_eq_true rfl) (Nat.le_of_ble_eq_true rfl) ?_
      exact W.iret (v := (-73)) hx hb hr (fun t ht hW9 => ⟨⟨_, (), rfl, hr9.symm, by first | (rw [ht]; exact hW) | (dsimp only; rw [ht]; exact hW)⟩, hS.F ht⟩) hS.2.2 dL_act_190
  · skip
    replace hW : Wd g ((upd (upd σ.1 3 a) 4 b, σ.2)) μ o H := by rw [← ht]; exact hW
    try dsimp only at h_6
    exact absurd (hk.symm.trans h_6.1) (by rcases hrr with ⟨h1, h2⟩ | ⟨h1, h2⟩ <;> rw [h1] <;> decide)
set_option maxHeartbeats 4000000 in
set_option maxRecDepth 100000 in
theorem mtL_act_5 (l : Launch) (g : Ge) (σ : Sg) (μ : Mg) (o : Nat → Int64) (hfl : l.stackTraces = false) (a b : Int32) (kk rr : Int32) (hk : kSt σ = kk) (hrr : (kk = 1 ∧ rr = (-73))) : Met l yL_act wsL_act ({ frames := 7, cells := 1, slots := 6, locals := 159 } : Room) (va_Pc [.ref (gA g 0), .int 5, .int a, .int b] (PW g σ μ o)) (va_Qi (S := Unit) (fun r _ => r = rr) (fun _ t => Wd g σ μ o t.heap) (Az g)) 1 6 (Az g) := by
  refine va_MetW (cc := cL_act) (maxL := 5) (ret := (some .int)) (by decide) rfl ?_
  intro p e s m args below meth c s₁ B hml hv
  obtain ⟨rfl, hC, hW⟩ := hv
  have hx := B.exec
  have hb := B.bytes
  have hr := B.returns
  have hts := atoms_spec (ws := wsL_act) B.pre
  have hown : s.vm.findClass RL = some m.cls := findClass_of_methodNamed B.named
  have hlocks := B.notSynchronized
  have hS : va_S (Az g) s.heap s.heap [] := va_S.rf
  have hl := lv_entry ([.ref (gA g 0), .int 5, .int a, .int b]) (n := 5) (Nat.le_of_ble_eq_true rfl)
  rw [lg_entry_eq]
  generalize (lg_sl ([.ref (gA g 0), .int 5, .int a, .int b]) ++ List.replicate (5 - (lg_sl ([.ref (gA g 0), .int 5, .int a, .int b])).length) Slot.unset).toArray = ls at hl ⊢
  have hl : lv_has ls 5 [(0, .ref (gA g 0)), (1, .int 5), (2, .int a), (3, .int b)] := hl
  have htab := vx_table (x := yL_act) B (hts (.codeWith yL_act cL_act 5 (some .int) [(0, 175, 176, 60), (0, 175, 181, 13), (0, 175, 186, 15)] ) (by exact List.mem_cons_self))
  refine lv_iload_n hx hb dL_act_0 rfl (lv_at hl 1 rfl) ?_
  refine lv_if_ne (tgt := 12) hx hb dL_act_1 (by decide) (fun c_1 => ?_) (fun c_1 => absurd c_1 (by decide))
  refine lv_iload_n hx hb dL_act_12 rfl (lv_at hl 1 rfl) ?_
  refine lv_iconst (v := 1) hx hb dL_act_13 (by decide) ?_
  refine lv_icmp_ne (tgt := 26) hx hb dL_act_14 (by decide) (fun c_2 => ?_) (fun c_2 => absurd c_2 (by decide))
  refine lv_iload_n hx hb dL_act_26 rfl (lv_at hl 1 rfl) ?_
  refine lv_iconst (v := 2) hx hb dL_act_27 (by decide) ?_
  refine lv_icmp_ne (tgt := 39) hx hb dL_act_28 (by decide) (fun c_3 => ?_) (fun c_3 => absurd c_3 (by decide))
  refine lv_iload_n hx hb dL_act_39 rfl (lv_at hl 1 rfl) ?_
  refine lv_iconst (v := 3) hx hb dL_act_40 (by decide) ?_
  refine lv_icmp_ne (tgt := 52) hx hb dL_act_41 (by decide) (fun c_4 => ?_) (fun c_4 => absurd c_4 (by decide))
  refine lv_iload_n hx hb dL_act_52 rfl (lv_at hl 1 rfl) ?_
  refine lv_iconst (v := 4) hx hb dL_act_53 (by decide) ?_
  refine lv_icmp_ne (tgt := 66) hx hb dL_act_54 (by decide) (fun c_5 => ?_) (fun c_5 => absurd c_5 (by decide))
  refine lv_iload_n hx hb dL_act_66 rfl (lv_at hl 1 rfl) ?_
  refine lv_iconst (v := 5) hx hb dL_act_67 (by decide) ?_
  refine lv_icmp_ne (tgt := 78) hx hb dL_act_68 (by decide) (fun c_6 => absurd c_6 (by decide)) (fun c_6 => ?_)
  refine lv_aload_n hx hb dL_act_71 rfl (lv_at hl 0 rfl) ?_
  refine vx_calli (vx_runV (As := []) (rest := []) ⟨hx, hb, hml, hown, hts⟩ (mtX2_start l hfl g σ μ o ) (cwV 0 hts gL_act_X2_start rfl rfl rfl (by decide +kernel) ⟨Nat.le_of_ble_eq_true rfl, Nat.le_of_ble_eq_true rfl⟩) ⟨PW.blind, rcB hC hW, fun U hU hW9 => ⟨rfl, PW.at hC hS hW U hU hW9⟩⟩ rfl rfl hl.1 rfl (lv_room (Nat.le_of_ble_eq_true rfl)) dL_act_72 ⟨Nat.le_of_ble_eq_true rfl, Nat.le_of_ble_eq_true rfl⟩) hS (fun _ _ h => h) (fun _ h => h) (fun _ _ h => h) (fun E9 ce q9 u_9 t H locs ht hvm hpx hbx hz9 hk9 hS hce hcv hcl => ?_) (fun r_8 u_9 t H locs ht hvm h_7 hW hz9 hk9 hS => ?_)
  · skip
    obtain ⟨hbq, hbw⟩ := hbx
    try dsimp only at hbq
    replace hbw : Wd g σ μ o H := by rw [← ht]; exact hbw
    obtain ⟨rfl, hk9⟩ := hbq
    have e9 := hk.symm.trans hk9
    have hr9 : rr = (-73) := hrr.2
    refine vx_catch (own := RL) (name := "java/lang/IllegalStateException") hown (tableOf [(0, 175, 176, 60), (0, 175, 181, 13)]) ⟨0, 175, 186, 15⟩ (tableOf []) (htab.trans rfl) (List.forall_mem_cons.mpr ⟨Or.inr ⟨by decide, "java/lang/IndexOutOfBoundsException", hts (.classLink RL 60 "java/lang/IndexOutOfBoundsException") (by decide +kernel), hC.2.1.2.2.2 (xIS, xIO) (by decide +kernel)⟩, (List.forall_mem_cons.mpr ⟨Or.inr ⟨by decide, "java/lang/IllegalArgumentException", hts (.classLink RL 13 "java/lang/IllegalArgumentException") (by decide +kernel), hC.2.1.2.2.2 (xIS, xIA) (by decide +kernel)⟩, (fun z hz => absurd hz List.not_mem_nil)⟩)⟩) (by decide) (by decide) (hts (.classLink RL 15 "java/lang/IllegalStateException") (by decide +kernel)) (cast_w (E := xIS) hC.2.1 (by decide +kernel) (.castable xIS xIS) (by decide +kernel)) hce hcv hcl ?_
    have hW := hbw
    refine lv_astore (lv' := [(4, .ref q9), (0, .ref (gA g 0)), (1, .int 5), (2, .int a), (3, .int b)]) hx hb dL_act_186 hl (by decide) rfl (fun ls hl => ?_)
    refine lv_bipush (v := (-73)) hx hb dL_act_188 (by decide) ?_
    refine W.widen (k := 1) (n := 6) (Nat.le_of_ble_eq_true rfl) (Nat.le_of_ble_eq_true rfl) ?_
    exact W.iret (v := (-73)) hx hb hr (fun t ht hW9 => ⟨⟨_, (), rfl, hr9.symm, by first | (rw [ht]; exact hW) | (dsimp only; rw [ht]; exact hW)⟩, hS.F ht⟩) hS.2.2 dL_act_190
  · skip
    replace hW : Wd g ((upd (upd (upd σ.1 6 (mz (σ.2.2.1 0) (σ.2.1 u_9))) 2 (-1)) 5 (σ.2.1 u_9 1), up2 σ.2.1 u_9 (us1 (σ.2.1 u_9)), upd σ.2.2.1 3 0, σ.2.2.2)) μ o H := by rw [← ht]; exact hW
    try dsimp only at h_7
    exact absurd (hk.symm.trans h_7.1) (by rw [hrr.1]; decide)
set_option maxHeartbeats 4000000 in
set_option maxRecDepth 100000 in
theorem mtL_act_6 (l : Launch) (g : Ge) (σ : Sg) (μ : Mg) (o : Nat → Int64) (hfl : l.stackTraces = false) (a b : Int32) (kk rr : Int32) (hk : kGo σ = kk) (hrr : (kk = 1 ∧ rr = (-73))) : Met l yL_act wsL_act ({ frames := 7, cells := 1, slots := 6, locals := 112 } : Room) (va_Pc [.ref (gA g 0), .int 6, .int a, .int b] (PW g σ μ o)) (va_Qi (S := Unit) (fun r _ => r = rr) (fun _ t => Wd g σ μ o t.heap) (Az g)) 1 6 (Az g) := by
  refine va_MetW (cc := cL_act) (maxL := 5) (ret := (some .int)) (by decide) rfl ?_
  intro p e s m args below meth c s₁ B hml hv
  obtain ⟨rfl, hC, hW⟩ := hv
  have hx := B.exec
  have hb := B.bytes
  have hr := B.returns
  have hts := atoms_spec (ws := wsL_act) B.pre
  have hown : s.vm.findClass RL = some m.cls := findClass_of_methodNamed B.named
  have hlocks := B.notSynchronized
  have hS : va_S (Az g) s.heap s.heap [] := va_S.rf
  have hl := lv_entry ([.ref (gA g 0), .int 6, .int a, .int b]) (n := 5) (Nat.le_of_ble_eq_true rfl)
  rw [lg_entry_eq]
  generalize (lg_sl ([.ref (gA g 0), .int 6, .int a, .int b]) ++ List.replicate (5 - (lg_sl ([.ref (gA g 0), .int 6, .int a, .int b])).length) Slot.unset).toArray = ls at hl ⊢
  have hl : lv_has ls 5 [(0, .ref (gA g 0)), (1, .int 6), (2, .int a), (3, .int b)] := hl
  have htab := vx_table (x := yL_act) B (hts (.codeWith yL_act cL_act 5 (some .int) [(0, 175, 176, 60), (0, 175, 181, 13), (0, 175, 186, 15)] ) (by exact List.mem_cons_self))
  refine lv_iload_n hx hb dL_act_0 rfl (lv_at hl 1 rfl) ?_
  refine lv_if_ne (tgt := 12) hx hb dL_act_1 (by decide) (fun c_1 => ?_) (fun c_1 => absurd c_1 (by decide))
  refine lv_iload_n hx hb dL_act_12 rfl (lv_at hl 1 rfl) ?_
  refine lv_iconst (v := 1) hx hb dL_act_13 (by decide) ?_
  refine lv_icmp_ne (tgt := 26) hx hb dL_act_14 (by decide) (fun c_2 => ?_) (fun c_2 => absurd c_2 (by decide))
  refine lv_iload_n hx hb dL_act_26 rfl (lv_at hl 1 rfl) ?_
  refine lv_iconst (v := 2) hx hb dL_act_27 (by decide) ?_
  refine lv_icmp_ne (tgt := 39) hx hb dL_act_28 (by decide) (fun c_3 => ?_) (fun c_3 => absurd c_3 (by decide))
  refine lv_iload_n hx hb dL_act_39 rfl (lv_at hl 1 rfl) ?_
  refine lv_iconst (v := 3) hx hb dL_act_40 (by decide) ?_
  refine lv_icmp_ne (tgt := 52) hx hb dL_act_41 (by decide) (fun c_4 => ?_) (fun c_4 => absurd c_4 (by decide))
  refine lv_iload_n hx hb dL_act_52 rfl (lv_at hl 1 rfl) ?_
  refine lv_iconst (v := 4) hx hb dL_act_53 (by decide) ?_
  refine lv_icmp_ne (tgt := 66) hx hb dL_act_54 (by decide) (fun c_5 => ?_) (fun c_5 => absurd c_5 (by decide))
  refine lv_iload_n hx hb dL_act_66 rfl (lv_at hl 1 rfl) ?_
  refine lv_iconst (v := 5) hx hb dL_act_67 (by decide) ?_
  refine lv_icmp_ne (tgt := 78) hx hb dL_act_68 (by decide) (fun c_6 => ?_) (fun c_6 => absurd c_6 (by decide))
  refine lv_iload_n hx hb dL_act_78 rfl (lv_at hl 1 rfl) ?_
  refine lv_bipush (v := 6) hx hb dL_act_79 (by decide) ?_
  refine lv_icmp_ne (tgt := 91) hx hb dL_act_81 (by decide) (fun c_7 => absurd c_7 (by decide)) (fun c_7 => ?_)
  refine lv_aload_n hx hb dL_act_84 rfl (lv_at hl 0 rfl) ?_
  refine vx_calli (vx_runV (As := []) (rest := []) ⟨hx, hb, hml, hown, hts⟩ (mtX2_good l hfl g σ μ o ) (cwV 0 hts gL_act_X2_good rfl rfl rfl (by decide +kernel) ⟨Nat.le_of_ble_eq_true rfl, Nat.le_of_ble_eq_true rfl⟩) ⟨PW.blind, rcB hC hW, fun U hU hW9 => ⟨rfl, PW.at hC hS hW U hU hW9⟩⟩ rfl rfl hl.1 rfl (lv_room (Nat.le_of_ble_eq_true rfl)) dL_act_85 ⟨Nat.le_of_ble_eq_true rfl, Nat.le_of_ble_eq_true rfl⟩) hS (fun _ _ h => h) (fun _ h => h) (fun _ _ h => h) (fun E9 ce q9 u_10 t H locs ht hvm hpx hbx hz9 hk9 hS hce hcv hcl => ?_) (fun r_9 u_10 t H locs ht hvm h_8 hW hz9 hk9 hS => ?_)
  · skip
    obtain ⟨hbq, hbw⟩ := hbx
    try dsimp only at hbq
    replace hbw : Wd g σ μ o H := by rw [← ht]; exact hbw
    obtain ⟨rfl, hk9⟩ := hbq
    have e9 := hk.symm.trans hk9
    have hr9 : rr = (-73) := hrr.2
    refine vx_catch (own := RL) (name := "java/lang/IllegalStateException") hown (tableOf [(0, 175, 176, 60), (0, 175, 181, 13)]) ⟨0, 175, 186, 15⟩ (tableOf []) (htab.trans rfl) (List.forall_mem_cons.mpr ⟨Or.inr ⟨by decide, "java/lang/IndexOutOfBoundsException", hts (.classLink RL 60 "java/lang/IndexOutOfBoundsException") (by decide +kernel), hC.2.1.2.2.2 (xIS, xIO) (by decide +kernel)⟩, (List.forall_mem_cons.mpr ⟨Or.inr ⟨by decide, "java/lang/IllegalArgumentException", hts (.classLink RL 13 "java/lang/IllegalArgumentException") (by decide +kernel), hC.2.1.2.2.2 (xIS, xIA) (by decide +kernel)⟩, (fun z hz => absurd hz List.not_mem_nil)⟩)⟩) (by decide) (by decide) (hts (.classLink RL 15 "java/lang/IllegalStateException") (by decide +kernel)) (cast_w (E := xIS) hC.2.1 (by decide +kernel) (.castable xIS xIS) (by decide +kernel)) hce hcv hcl ?_
    have hW := hbw
    refine lv_astore (lv' := [(4, .ref q9), (0, .ref (gA g 0)), (1, .int 6), (2, .int a), (3, .int b)]) hx hb dL_act_186 hl (by decide) rfl (fun ls hl => ?_)
    refine lv_bipush (v := (-73)) hx hb dL_act_188 (by decide) ?_
    refine W.widen (k := 1) (n := 6) (Nat.le_of_ble_eq_true rfl) (Nat.le_of_ble_eq_true rfl) ?_
    exact W.iret (v := (-73)) hx hb hr (fun t ht hW9 => ⟨⟨_, (), rfl, hr9.symm, by first | (rw [ht]; exact hW) | (dsimp only; rw [ht]; exact hW)⟩, hS.F ht⟩) hS.2.2 dL_act_190
  · skip
    replace hW : Wd g ((σ.1, goE σ, σ.2.2)) μ o H := by rw [← ht]; exact hW
    try dsimp only at h_8
    exact absurd (hk.symm.trans h_8.1) (by rw [hrr.1]; decide)
