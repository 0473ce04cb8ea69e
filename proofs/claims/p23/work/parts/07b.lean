set_option maxHeartbeats 4000000 in
set_option maxRecDepth 100000 in
theorem mtL_act_7 (l : Launch) (g : Ge) (σ : Sg) (μ : Mg) (o : Nat → Int64) (hfl : l.stackTraces = false) (a b : Int32) (en cl : Nat) (h1 : σ.2.2.1 3 = nI en) (h2 : σ.2.2.1 2 = nI cl) (h3 : en ≤ 12) (h4 : cl ≤ 12) (kk rr : Int32) (hk : kEn σ a = kk) (hrr : (kk = 1 ∧ rr = (-72)) ∨ (kk = 2 ∧ rr = (-73))) : Met l yL_act wsL_act ({ frames := 8, cells := 2, slots := 12, locals := 132 } : Room) (va_Pc [.ref (gA g 0), .int 7, .int a, .int b] (PW g σ μ o)) (va_Qi (S := Unit) (fun r _ => r = rr) (fun _ t => Wd g σ μ o t.heap) (Az g)) 2 12 (Az g) := by
  refine va_MetW (cc := cL_act) (maxL := 5) (ret := (some .int)) (by decide) rfl ?_
  intro p e s m args below meth c s₁ B hml hv
  obtain ⟨rfl, hC, hW⟩ := hv
  have hx := B.exec
  have hb := B.bytes
  have hr := B.returns
  have hts := atoms_spec (ws := wsL_act) B.pre
  have hown : s.vm.findClass RL = some m.cls := findClass_of_methodNamed B.named
  have hlocks := B.notSynchronized
  have hS : va_S (Az g) s.heap s.heap [] := va_S.rf
  have hl := lv_entry ([.ref (gA g 0), .int 7, .int a, .int b]) (n := 5) (Nat.le_of_ble_eq_true rfl)
  rw [lg_entry_eq]
  generalize (lg_sl ([.ref (gA g 0), .int 7, .int a, .int b]) ++ List.replicate (5 - (lg_sl ([.ref (gA g 0), .int 7, .int a, .int b])).length) Slot.unset).toArray = ls at hl ⊢
  have hl : lv_has ls 5 [(0, .ref (gA g 0)), (1, .int 7), (2, .int a), (3, .int b)] := hl
  have htab := vx_table (x := yL_act) B (hts (.codeWith yL_act cL_act 5 (some .int) [(0, 175, 176, 60), (0, 175, 181, 13), (0, 175, 186, 15)] ) (by exact List.mem_cons_self))
  refine lv_iload_n hx hb dL_act_0 rfl (lv_at hl 1 rfl) ?_
  refine lv_if_ne (tgt := 12) hx hb dL_act_1 (by decide) (fun c_1 => ?_) (fun c_1 => absurd c_1 (by decide))
  refine lv_iload_n hx hb dL_act_12 rfl (lv_at hl 1 rfl) ?_
  refine lv_iconst (v := 1) hx hb dL_act_13 (by decide) ?_
  refine lv_icmp_ne (tgt := 26) hx hb dL_act_14 (by decide) (fun c_2 => ?_) (fun c_2 => absurd c_2 (by decide))
  refine lv_iload_n hx hb dL_act_26 rfl (lv_at hl 1 rfl) ?_
  refine lv_iconst (v := 2) hx hb dL_act_27 (by decide) ?_
  refine lv_icmp_ne (tgt := 39) hx hb dL_act_28 (by decide) (fun c_3 => ?_) (fun c_3 => absurd c_3 (by decide))
  refine lv_iload_n hx hb dL_act_39 rfl (lv_at hl 1 rfl) ?_
  refine lv_iconst (v := 3) hx hb dL_act_40 (by decide) ?_
  refine lv_icmp_ne (tgt := 52) hx hb dL_act_41 (by decide) (fun c_4 => ?_) (fun c_4 => absurd c_4 (by decide))
  refine lv_iload_n hx hb dL_act_52 rfl (lv_at hl 1 rfl) ?_
  refine lv_iconst (v := 4) hx hb dL_act_53 (by decide) ?_
  refine lv_icmp_ne (tgt := 66) hx hb dL_act_54 (by decide) (fun c_5 => ?_) (fun c_5 => absurd c_5 (by decide))
  refine lv_iload_n hx hb dL_act_66 rfl (lv_at hl 1 rfl) ?_
  refine lv_iconst (v := 5) hx hb dL_act_67 (by decide) ?_
  refine lv_icmp_ne (tgt := 78) hx hb dL_act_68 (by decide) (fun c_6 => ?_) (fun c_6 => absurd c_6 (by decide))
  refine lv_iload_n hx hb dL_act_78 rfl (lv_at hl 1 rfl) ?_
  refine lv_bipush (v := 6) hx hb dL_act_79 (by decide) ?_
  refine lv_icmp_ne (tgt := 91) hx hb dL_act_81 (by decide) (fun c_7 => ?_) (fun c_7 => absurd c_7 (by decide))
  refine lv_iload_n hx hb dL_act_91 rfl (lv_at hl 1 rfl) ?_
  refine lv_bipush (v := 7) hx hb dL_act_92 (by decide) ?_
  refine lv_icmp_ne (tgt := 113) hx hb dL_act_94 (by decide) (fun c_8 => absurd c_8 (by decide)) (fun c_8 => ?_)
  refine lv_aload_n hx hb dL_act_97 rfl (lv_at hl 0 rfl) ?_
  refine lv_iload_n hx hb dL_act_98 rfl (lv_at hl 2 rfl) ?_
  refine vx_calli (vx_runV (As := [.int a]) (rest := []) ⟨hx, hb, hml, hown, hts⟩ (mtX2_enter l hfl g σ μ o a en cl h1 h2 h3 h4) (cwV 1 hts gL_act_X2_enter rfl rfl rfl (by decide +kernel) ⟨Nat.le_of_ble_eq_true rfl, Nat.le_of_ble_eq_true rfl⟩) ⟨PW.blind, rcB hC hW, fun U hU hW9 => ⟨rfl, PW.at hC hS hW U hU hW9⟩⟩ rfl rfl hl.1 rfl (lv_room (Nat.le_of_ble_eq_true rfl)) dL_act_99 ⟨Nat.le_of_ble_eq_true rfl, Nat.le_of_ble_eq_true rfl⟩) hS (fun _ _ h => h) (fun _ h => h) (fun _ _ h => h) (fun E9 ce q9 u_11 t H locs ht hvm hpx hbx hz9 hk9 hS hce hcv hcl => ?_) (fun r_10 u_11 t H locs ht hvm h_9 hW hz9 hk9 hS => ?_)
  · skip
    obtain ⟨hbq, hbw⟩ := hbx
    try dsimp only at hbq
    replace hbw : Wd g σ μ o H := by rw [← ht]; exact hbw
    rcases hbq with hbq | hbq
    · skip
      obtain ⟨rfl, hk9⟩ := hbq
      have e9 := hk.symm.trans hk9
      have hr9 : rr = (-72) := by rcases hrr with ⟨h1, h2⟩ | ⟨h1, h2⟩ <;> first | exact h2 | exact absurd (h1.symm.trans e9) (by decide)
      refine vx_catch (own := RL) (name := "java/lang/IllegalArgumentException") hown (tableOf [(0, 175, 176, 60)]) ⟨0, 175, 181, 13⟩ (tableOf [(0, 175, 186, 15)]) (htab.trans rfl) (List.forall_mem_cons.mpr ⟨Or.inr ⟨by decide, "java/lang/IndexOutOfBoundsException", hts (.classLink RL 60 "java/lang/IndexOutOfBoundsException") (by decide +kernel), hC.2.1.2.2.2 (xIA, xIO) (by decide +kernel)⟩, (fun z hz => absurd hz List.not_mem_nil)⟩) (by decide) (by decide) (hts (.classLink RL 13 "java/lang/IllegalArgumentException") (by decide +kernel)) (cast_w (E := xIA) hC.2.1 (by decide +kernel) (.castable xIA xIA) (by decide +kernel)) hce hcv hcl ?_
      have hW := hbw
      refine lv_astore (lv' := [(4, .ref q9), (0, .ref (gA g 0)), (1, .int 7), (2, .int a), (3, .int b)]) hx hb dL_act_181 hl (by decide) rfl (fun ls hl => ?_)
      refine lv_bipush (v := (-72)) hx hb dL_act_183 (by decide) ?_
      refine W.widen (k := 2) (n := 12) (Nat.le_of_ble_eq_true rfl) (Nat.le_of_ble_eq_true rfl) ?_
      exact W.iret (v := (-72)) hx hb hr (fun t ht hW9 => ⟨⟨_, (), rfl, hr9.symm, by first | (rw [ht]; exact hW) | (dsimp only; rw [ht]; exact hW)⟩, hS.F ht⟩) hS.2.2 dL_act_185
    · skip
      obtain ⟨rfl, hk9⟩ := hbq
      have e9 := hk.symm.trans hk9
      have hr9 : rr = (-73) := by rcases hrr with ⟨h1, h2⟩ | ⟨h1, h2⟩ <;> first | exact h2 | exact absurd (h1.symm.trans e9) (by decide)
      refine vx_catch (own := RL) (name := "java/lang/IllegalStateException") hown (tableOf [(0, 175, 176, 60), (0, 175, 181, 13)]) ⟨0, 175, 186, 15⟩ (tableOf []) (htab.trans rfl) (List.forall_mem_cons.mpr ⟨Or.inr ⟨by decide, "java/lang/IndexOutOfBoundsException", hts (.classLink RL 60 "java/lang/IndexOutOfBoundsException") (by decide +kernel), hC.2.1.2.2.2 (xIS, xIO) (by decide +kernel)⟩, (List.forall_mem_cons.mpr ⟨Or.inr ⟨by decide, "java/lang/IllegalArgumentException", hts (.classLink RL 13 "java/lang/IllegalArgumentException") (by decide +kernel), hC.2.1.2.2.2 (xIS, xIA) (by decide +kernel)⟩, (fun z hz => absurd hz List.not_mem_nil)⟩)⟩) (by decide) (by decide) (hts (.classLink RL 15 "java/lang/IllegalStateException") (by decide +kernel)) (cast_w (E := xIS) hC.2.1 (by decide +kernel) (.castable xIS xIS) (by decide +kernel)) hce hcv hcl ?_
      have hW := hbw
      refine lv_astore (lv' := [(4, .ref q9), (0, .ref (gA g 0)), (1, .int 7), (2, .int a), (3, .int b)]) hx hb dL_act_186 hl (by decide) rfl (fun ls hl => ?_)
      refine lv_bipush (v := (-73)) hx hb dL_act_188 (by decide) ?_
      refine W.widen (k := 2) (n := 12) (Nat.le_of_ble_eq_true rfl) (Nat.le_of_ble_eq_true rfl) ?_
      exact W.iret (v := (-73)) hx hb hr (fun t ht hW9 => ⟨⟨_, (), rfl, hr9.symm, by first | (rw [ht]; exact hW) | (dsimp only; rw [ht]; exact hW)⟩, hS.F ht⟩) hS.2.2 dL_act_190
  · skip
    replace hW : Wd g ((σ.1, σ.2.1, upd (upd σ.2.2.1 3 (σ.2.2.1 3 + 1)) 0 (bI (!ec (upd σ.2.2.2 en a) (en + 1) cl (σ.2.2.1 1))), upd σ.2.2.2 en a)) μ o H := by rw [← ht]; exact hW
    try dsimp only at h_9
    exact absurd (hk.symm.trans h_9.1) (by rcases hrr with ⟨h1, h2⟩ | ⟨h1, h2⟩ <;> rw [h1] <;> decide)
set_option maxHeartbeats 4000000 in
set_option maxRecDepth 100000 in
theorem mtL_act_8 (l : Launch) (g : Ge) (σ : Sg) (μ : Mg) (o : Nat → Int64) (hfl : l.stackTraces = false) (a b : Int32) (kk rr : Int32) (hk : kAt σ a = kk) (hrr : (kk = 1 ∧ rr = (-71))) : Met l yL_act wsL_act ({ frames := 7, cells := 1, slots := 6, locals := 137 } : Room) (va_Pc [.ref (gA g 0), .int 8, .int a, .int b] (PW g σ μ o)) (va_Qi (S := Unit) (fun r _ => r = rr) (fun _ t => Wd g σ μ o t.heap) (Az g)) 1 6 (Az g) := by
  refine va_MetW (cc := cL_act) (maxL := 5) (ret := (some .int)) (by decide) rfl ?_
  intro p e s m args below meth c s₁ B hml hv
  obtain ⟨rfl, hC, hW⟩ := hv
  have hx := B.exec
  have hb := B.bytes
  have hr := B.returns
  have hts := atoms_spec (ws := wsL_act) B.pre
  have hown : s.vm.findClass RL = some m.cls := findClass_of_methodNamed B.named
  have hlocks := B.notSynchronized
  have hS : va_S (Az g) s.heap s.heap [] := va_S.rf
  have hl := lv_entry ([.ref (gA g 0), .int 8, .int a, .int b]) (n := 5) (Nat.le_of_ble_eq_true rfl)
  rw [lg_entry_eq]
  generalize (lg_sl ([.ref (gA g 0), .int 8, .int a, .int b]) ++ List.replicate (5 - (lg_sl ([.ref (gA g 0), .int 8, .int a, .int b])).length) Slot.unset).toArray = ls at hl ⊢
  have hl : lv_has ls 5 [(0, .ref (gA g 0)), (1, .int 8), (2, .int a), (3, .int b)] := hl
  have htab := vx_table (x := yL_act) B (hts (.codeWith yL_act cL_act 5 (some .int) [(0, 175, 176, 60), (0, 175, 181, 13), (0, 175, 186, 15)] ) (by exact List.mem_cons_self))
  refine lv_iload_n hx hb dL_act_0 rfl (lv_at hl 1 rfl) ?_
  refine lv_if_ne (tgt := 12) hx hb dL_act_1 (by decide) (fun c_1 => ?_) (fun c_1 => absurd c_1 (by decide))
  refine lv_iload_n hx hb dL_act_12 rfl (lv_at hl 1 rfl) ?_
  refine lv_iconst (v := 1) hx hb dL_act_13 (by decide) ?_
  refine lv_icmp_ne (tgt := 26) hx hb dL_act_14 (by decide) (fun c_2 => ?_) (fun c_2 => absurd c_2 (by decide))
  refine lv_iload_n hx hb dL_act_26 rfl (lv_at hl 1 rfl) ?_
  refine lv_iconst (v := 2) hx hb dL_act_27 (by decide) ?_
  refine lv_icmp_ne (tgt := 39) hx hb dL_act_28 (by decide) (fun c_3 => ?_) (fun c_3 => absurd c_3 (by decide))
  refine lv_iload_n hx hb dL_act_39 rfl (lv_at hl 1 rfl) ?_
  refine lv_iconst (v := 3) hx hb dL_act_40 (by decide) ?_
  refine lv_icmp_ne (tgt := 52) hx hb dL_act_41 (by decide) (fun c_4 => ?_) (fun c_4 => absurd c_4 (by decide))
  refine lv_iload_n hx hb dL_act_52 rfl (lv_at hl 1 rfl) ?_
  refine lv_iconst (v := 4) hx hb dL_act_53 (by decide) ?_
  refine lv_icmp_ne (tgt := 66) hx hb dL_act_54 (by decide) (fun c_5 => ?_) (fun c_5 => absurd c_5 (by decide))
  refine lv_iload_n hx hb dL_act_66 rfl (lv_at hl 1 rfl) ?_
  refine lv_iconst (v := 5) hx hb dL_act_67 (by decide) ?_
  refine lv_icmp_ne (tgt := 78) hx hb dL_act_68 (by decide) (fun c_6 => ?_) (fun c_6 => absurd c_6 (by decide))
  refine lv_iload_n hx hb dL_act_78 rfl (lv_at hl 1 rfl) ?_
  refine lv_bipush (v := 6) hx hb dL_act_79 (by decide) ?_
  refine lv_icmp_ne (tgt := 91) hx hb dL_act_81 (by decide) (fun c_7 => ?_) (fun c_7 => absurd c_7 (by decide))
  refine lv_iload_n hx hb dL_act_91 rfl (lv_at hl 1 rfl) ?_
  refine lv_bipush (v := 7) hx hb dL_act_92 (by decide) ?_
  refine lv_icmp_ne (tgt := 113) hx hb dL_act_94 (by decide) (fun c_8 => ?_) (fun c_8 => absurd c_8 (by decide))
  refine lv_iload_n hx hb dL_act_113 rfl (lv_at hl 1 rfl) ?_
  refine lv_bipush (v := 8) hx hb dL_act_114 (by decide) ?_
  refine lv_icmp_ne (tgt := 127) hx hb dL_act_116 (by decide) (fun c_9 => absurd c_9 (by decide)) (fun c_9 => ?_)
  refine lv_aload_n hx hb dL_act_119 rfl (lv_at hl 0 rfl) ?_
  refine lv_iload_n hx hb dL_act_120 rfl (lv_at hl 2 rfl) ?_
  refine vx_calli (vx_runV (As := [.int a]) (rest := []) ⟨hx, hb, hml, hown, hts⟩ (mtX2_at l hfl g σ μ o a) (cwV 1 hts gL_act_X2_at rfl rfl rfl (by decide +kernel) ⟨Nat.le_of_ble_eq_true rfl, Nat.le_of_ble_eq_true rfl⟩) ⟨PW.blind, rcB hC hW, fun U hU hW9 => ⟨rfl, PW.at hC hS hW U hU hW9⟩⟩ rfl rfl hl.1 rfl (lv_room (Nat.le_of_ble_eq_true rfl)) dL_act_121 ⟨Nat.le_of_ble_eq_true rfl, Nat.le_of_ble_eq_true rfl⟩) hS (fun _ _ h => h) (fun _ h => h) (fun _ _ h => h) (fun E9 ce q9 u_12 t H locs ht hvm hpx hbx hz9 hk9 hS hce hcv hcl => ?_) (fun r_11 u_12 t H locs ht hvm h_10 hW hz9 hk9 hS => ?_)
  · skip
    obtain ⟨hbq, hbw⟩ := hbx
    try dsimp only at hbq
    replace hbw : Wd g σ μ o H := by rw [← ht]; exact hbw
    obtain ⟨rfl, hk9⟩ := hbq
    have e9 := hk.symm.trans hk9
    have hr9 : rr = (-71) := hrr.2
    refine vx_catch (own := RL) (name := "java/lang/IndexOutOfBoundsException") hown (tableOf []) ⟨0, 175, 176, 60⟩ (tableOf [(0, 175, 181, 13), (0, 175, 186, 15)]) (htab.trans rfl) (fun z hz => absurd hz List.not_mem_nil) (by decide) (by decide) (hts (.classLink RL 60 "java/lang/IndexOutOfBoundsException") (by decide +kernel)) (cast_w (E := xIO) hC.2.1 (by decide +kernel) (.castable xIO xIO) (by decide +kernel)) hce hcv hcl ?_
    have hW := hbw
    refine lv_astore (lv' := [(4, .ref q9), (0, .ref (gA g 0)), (1, .int 8), (2, .int a), (3, .int b)]) hx hb dL_act_176 hl (by decide) rfl (fun ls hl => ?_)
    refine lv_bipush (v := (-71)) hx hb dL_act_178 (by decide) ?_
    refine W.widen (k := 1) (n := 6) (Nat.le_of_ble_eq_true rfl) (Nat.le_of_ble_eq_true rfl) ?_
    exact W.iret (v := (-71)) hx hb hr (fun t ht hW9 => ⟨⟨_, (), rfl, hr9.symm, by first | (rw [ht]; exact hW) | (dsimp only; rw [ht]; exact hW)⟩, hS.F ht⟩) hS.2.2 dL_act_180
  · skip
    replace hW : Wd g σ μ o H := by rw [← ht]; exact hW
    try dsimp only at h_10
    exact absurd (hk.symm.trans h_10.1) (by rw [hrr.1]; decide)
set_option maxHeartbeats 4000000 in
set_option maxRecDepth 100000 in
theorem mtL_act_9 (l : Launch) (g : Ge) (σ : Sg) (μ : Mg) (o : Nat → Int64) (hfl : l.stackTraces = false) (a b : Int32) (kk rr : Int32) (hk : kRem σ a = kk) (hrr : (kk = 1 ∧ rr = (-71))) : Met l yL_act wsL_act ({ frames := 8, cells := 1, slots := 6, locals := 133 } : Room) (va_Pc [.ref (gA g 0), .int 9, .int a, .int b] (PW g σ μ o)) (va_Qi (S := Unit) (fun r _ => r = rr) (fun _ t => Wd g σ μ o t.heap) (Az g)) 1 6 (Az g) := by
  refine va_MetW (cc := cL_act) (maxL := 5) (ret := (some .int)) (by decide) rfl ?_
  intro p e s m args below meth c s₁ B hml hv
  obtain ⟨rfl, hC, hW⟩ := hv
  have hx := B.exec
  have hb := B.bytes
  have hr := B.returns
  have hts := atoms_spec (ws := wsL_act) B.pre
  have hown : s.vm.findClass RL = some m.cls := findClass_of_methodNamed B.named
  have hlocks := B.notSynchronized
  have hS : va_S (Az g) s.heap s.heap [] := va_S.rf
  have hl := lv_entry ([.ref (gA g 0), .int 9, .int a, .int b]) (n := 5) (Nat.le_of_ble_eq_true rfl)
  rw [lg_entry_eq]
  generalize (lg_sl ([.ref (gA g 0), .int 9, .int a, .int b]) ++ List.replicate (5 - (lg_sl ([.ref (gA g 0), .int 9, .int a, .int b])).length) Slot.unset).toArray = ls at hl ⊢
  have hl : lv_has ls 5 [(0, .ref (gA g 0)), (1, .int 9), (2, .int a), (3, .int b)] := hl
  have htab := vx_table (x := yL_act) B (hts (.codeWith yL_act cL_act 5 (some .int) [(0, 175, 176, 60), (0, 175, 181, 13), (0, 175, 186, 15)] ) (by exact List.mem_cons_self))
  refine lv_iload_n hx hb dL_act_0 rfl (lv_at hl 1 rfl) ?_
  refine lv_if_ne (tgt := 12) hx hb dL_act_1 (by decide) (fun c_1 => ?_) (fun c_1 => absurd c_1 (by decide))
  refine lv_iload_n hx hb dL_act_12 rfl (lv_at hl 1 rfl) ?_
  refine lv_iconst (v := 1) hx hb dL_act_13 (by decide) ?_
  refine lv_icmp_ne (tgt := 26) hx hb dL_act_14 (by decide) (fun c_2 => ?_) (fun c_2 => absurd c_2 (by decide))
  refine lv_iload_n hx hb dL_act_26 rfl (lv_at hl 1 rfl) ?_
  refine lv_iconst (v := 2) hx hb dL_act_27 (by decide) ?_
  refine lv_icmp_ne (tgt := 39) hx hb dL_act_28 (by decide) (fun c_3 => ?_) (fun c_3 => absurd c_3 (by decide))
  refine lv_iload_n hx hb dL_act_39 rfl (lv_at hl 1 rfl) ?_
  refine lv_iconst (v := 3) hx hb dL_act_40 (by decide) ?_
  refine lv_icmp_ne (tgt := 52) hx hb dL_act_41 (by decide) (fun c_4 => ?_) (fun c_4 => absurd c_4 (by decide))
  refine lv_iload_n hx hb dL_act_52 rfl (lv_at hl 1 rfl) ?_
  refine lv_iconst (v := 4) hx hb dL_act_53 (by decide) ?_
  refine lv_icmp_ne (tgt := 66) hx hb dL_act_54 (by decide) (fun c_5 => ?_) (fun c_5 => absurd c_5 (by decide))
  refine lv_iload_n hx hb dL_act_66 rfl (lv_at hl 1 rfl) ?_
  refine lv_iconst (v := 5) hx hb dL_act_67 (by decide) ?_
  refine lv_icmp_ne (tgt := 78) hx hb dL_act_68 (by decide) (fun c_6 => ?_) (fun c_6 => absurd c_6 (by decide))
  refine lv_iload_n hx hb dL_act_78 rfl (lv_at hl 1 rfl) ?_
  refine lv_bipush (v := 6) hx hb dL_act_79 (by decide) ?_
  refine lv_icmp_ne (tgt := 91) hx hb dL_act_81 (by decide) (fun c_7 => ?_) (fun c_7 => absurd c_7 (by decide))
  refine lv_iload_n hx hb dL_act_91 rfl (lv_at hl 1 rfl) ?_
  refine lv_bipush (v := 7) hx hb dL_act_92 (by decide) ?_
  refine lv_icmp_ne (tgt := 113) hx hb dL_act_94 (by decide) (fun c_8 => ?_) (fun c_8 => absurd c_8 (by decide))
  refine lv_iload_n hx hb dL_act_113 rfl (lv_at hl 1 rfl) ?_
  refine lv_bipush (v := 8) hx hb dL_act_114 (by decide) ?_
  refine lv_icmp_ne (tgt := 127) hx hb dL_act_116 (by decide) (fun c_9 => ?_) (fun c_9 => absurd c_9 (by decide))
  refine lv_iload_n hx hb dL_act_127 rfl (lv_at hl 1 rfl) ?_
  refine lv_bipush (v := 9) hx hb dL_act_128 (by decide) ?_
  refine lv_icmp_ne (tgt := 141) hx hb dL_act_130 (by decide) (fun c_10 => absurd c_10 (by decide)) (fun c_10 => ?_)
  refine lv_aload_n hx hb dL_act_133 rfl (lv_at hl 0 rfl) ?_
  refine lv_iload_n hx hb dL_act_134 rfl (lv_at hl 2 rfl) ?_
  refine vx_calli (vx_runV (As := [.int a]) (rest := []) ⟨hx, hb, hml, hown, hts⟩ (mtX2_placeOf l hfl g σ μ o a) (cwV 1 hts gL_act_X2_placeOf rfl rfl rfl (by decide +kernel) ⟨Nat.le_of_ble_eq_true rfl, Nat.le_of_ble_eq_true rfl⟩) ⟨PW.blind, rcB hC hW, fun U hU hW9 => ⟨rfl, PW.at hC hS hW U hU hW9⟩⟩ rfl rfl hl.1 rfl (lv_room (Nat.le_of_ble_eq_true rfl)) dL_act_135 ⟨Nat.le_of_ble_eq_true rfl, Nat.le_of_ble_eq_true rfl⟩) hS (fun _ _ h => h) (fun _ h => h) (fun _ _ h => h) (fun E9 ce q9 u_13 t H locs ht hvm hpx hbx hz9 hk9 hS hce hcv hcl => ?_) (fun r_12 u_13 t H locs ht hvm h_11 hW hz9 hk9 hS => ?_)
  · skip
    obtain ⟨hbq, hbw⟩ := hbx
    try dsimp only at hbq
    replace hbw : Wd g σ μ o H := by rw [← ht]; exact hbw
    obtain ⟨rfl, hk9⟩ := hbq
    have e9 := hk.symm.trans hk9
    have hr9 : rr = (-71) := hrr.2
    refine vx_catch (own := RL) (name := "java/lang/IndexOutOfBoundsException") hown (tableOf []) ⟨0, 175, 176, 60⟩ (tableOf [(0, 175, 181, 13), (0, 175, 186, 15)]) (htab.trans rfl) (fun z hz => absurd hz List.not_mem_nil) (by decide) (by decide) (hts (.classLink RL 60 "java/lang/IndexOutOfBoundsException") (by decide +kernel)) (cast_w (E := xIO) hC.2.1 (by decide +kernel) (.castable xIO xIO) (by decide +kernel)) hce hcv hcl ?_
    have hW := hbw
    refine lv_astore (lv' := [(4, .ref q9), (0, .ref (gA g 0)), (1, .int 9), (2, .int a), (3, .int b)]) hx hb dL_act_176 hl (by decide) rfl (fun ls hl => ?_)
    refine lv_bipush (v := (-71)) hx hb dL_act_178 (by decide) ?_
    refine W.widen (k := 1) (n := 6) (Nat.le_of_ble_eq_true rfl) (Nat.le_of_ble_eq_true rfl) ?_
    exact W.iret (v := (-71)) hx hb hr (fun t ht hW9 => ⟨⟨_, (), rfl, hr9.symm, by first | (rw [ht]; exact hW) | (dsimp only; rw [ht]; exact hW)⟩, hS.F ht⟩) hS.2.2 dL_act_180
  · skip
    replace hW : Wd g σ μ o H := by rw [← ht]; exact hW
    try dsimp only at h_11
    exact absurd (hk.symm.trans h_11.1) (by rw [hrr.1]; decide)
set_option maxHeartbeats 4000000 in
set_option maxRecDepth 100000 in
theorem mtL_act_10 (l : Launch) (g : Ge) (σ : Sg) (μ : Mg) (o : Nat → Int64) (hfl : l.stackTraces = false) (a b : Int32) (kk rr : Int32) (hk : kRem σ a = kk) (hrr : (kk = 1 ∧ rr = (-71))) : Met l yL_act wsL_act ({ frames := 8, cells := 1, slots := 6, locals := 133 } : Room) (va_Pc [.ref (gA g 0), .int 10, .int a, .int b] (PW g σ μ o)) (va_Qi (S := Unit) (fun r _ => r = rr) (fun _ t => Wd g σ μ o t.heap) (Az g)) 1 6 (Az g) := by
  refine va_MetW (cc := cL_act) (maxL := 5) (ret := (some .int)) (by decide) rfl ?_
  intro p e s m args below meth c s₁ B hml hv
  obtain ⟨rfl, hC, hW⟩ := hv
  have hx := B.exec
  have hb := B.bytes
  have hr := B.returns
  have hts := atoms_spec (ws := wsL_act) B.pre
  have hown : s.vm.findClass RL = some m.cls := findClass_of_methodNamed B.named
  have hlocks := B.notSynchronized
  have hS : va_S (Az g) s.heap s.heap [] := va_S.rf
  have hl := lv_entry ([.ref (gA g 0), .int 10, .int a, .int b]) (n := 5) (Nat.le_of_ble_eq_true rfl)
  rw [lg_entry_eq]
  generalize (lg_sl ([.ref (gA g 0), .int 10, .int a, .int b]) ++ List.replicate (5 - (lg_sl ([.ref (gA g 0), .int 10, .int a, .int b])).length) Slot.unset).toArray = ls at hl ⊢
  have hl : lv_has ls 5 [(0, .ref (gA g 0)), (1, .int 10), (2, .int a), (3, .int b)] := hl
  have htab := vx_table (x := yL_act) B (hts (.codeWith yL_act cL_act 5 (some .int) [(0, 175, 176, 60), (0, 175, 181, 13), (0, 175, 186, 15)] ) (by exact List.mem_cons_self))
  refine lv_iload_n hx hb dL_act_0 rfl (lv_at hl 1 rfl) ?_
  refine lv_if_ne (tgt := 12) hx hb dL_act_1 (by decide) (fun c_1 => ?_) (fun c_1 => absurd c_1 (by decide))
  refine lv_iload_n hx hb dL_act_12 rfl (lv_at hl 1 rfl) ?_
  refine lv_iconst (v := 1) hx hb dL_act_13 (by decide) ?_
  refine lv_icmp_ne (tgt := 26) hx hb dL_act_14 (by decide) (fun c_2 => ?_) (fun c_2 => absurd c_2 (by decide))
  refine lv_iload_n hx hb dL_act_26 rfl (lv_at hl 1 rfl) ?_
  refine lv_iconst (v := 2) hx hb dL_act_27 (by decide) ?_
  refine lv_icmp_ne (tgt := 39) hx hb dL_act_28 (by decide) (fun c_3 => ?_) (fun c_3 => absurd c_3 (by decide))
  refine lv_iload_n hx hb dL_act_39 rfl (lv_at hl 1 rfl) ?_
  refine lv_iconst (v := 3) hx hb dL_act_40 (by decide) ?_
  refine lv_icmp_ne (tgt := 52) hx hb dL_act_41 (by decide) (fun c_4 => ?_) (fun c_4 => absurd c_4 (by decide))
  refine lv_iload_n hx hb dL_act_52 rfl (lv_at hl 1 rfl) ?_
  refine lv_iconst (v := 4) hx hb dL_act_53 (by decide) ?_
  refine lv_icmp_ne (tgt := 66) hx hb dL_act_54 (by decide) (fun c_5 => ?_) (fun c_5 => absurd c_5 (by decide))
  refine lv_iload_n hx hb dL_act_66 rfl (lv_at hl 1 rfl) ?_
  refine lv_iconst (v := 5) hx hb dL_act_67 (by decide) ?_
  refine lv_icmp_ne (tgt := 78) hx hb dL_act_68 (by decide) (fun c_6 => ?_) (fun c_6 => absurd c_6 (by decide))
  refine lv_iload_n hx hb dL_act_78 rfl (lv_at hl 1 rfl) ?_
  refine lv_bipush (v := 6) hx hb dL_act_79 (by decide) ?_
  refine lv_icmp_ne (tgt := 91) hx hb dL_act_81 (by decide) (fun c_7 => ?_) (fun c_7 => absurd c_7 (by decide))
  refine lv_iload_n hx hb dL_act_91 rfl (lv_at hl 1 rfl) ?_
  refine lv_bipush (v := 7) hx hb dL_act_92 (by decide) ?_
  refine lv_icmp_ne (tgt := 113) hx hb dL_act_94 (by decide) (fun c_8 => ?_) (fun c_8 => absurd c_8 (by decide))
  refine lv_iload_n hx hb dL_act_113 rfl (lv_at hl 1 rfl) ?_
  refine lv_bipush (v := 8) hx hb dL_act_114 (by decide) ?_
  refine lv_icmp_ne (tgt := 127) hx hb dL_act_116 (by decide) (fun c_9 => ?_) (fun c_9 => absurd c_9 (by decide))
  refine lv_iload_n hx hb dL_act_127 rfl (lv_at hl 1 rfl) ?_
  refine lv_bipush (v := 9) hx hb dL_act_128 (by decide) ?_
  refine lv_icmp_ne (tgt := 141) hx hb dL_act_130 (by decide) (fun c_10 => ?_) (fun c_10 => absurd c_10 (by decide))
  refine lv_iload_n hx hb dL_act_141 rfl (lv_at hl 1 rfl) ?_
  refine lv_bipush (v := 10) hx hb dL_act_142 (by decide) ?_
  refine lv_icmp_ne (tgt := 155) hx hb dL_act_144 (by decide) (fun c_11 => absurd c_11 (by decide)) (fun c_11 => ?_)
  refine lv_aload_n hx hb dL_act_147 rfl (lv_at hl 0 rfl) ?_
  refine lv_iload_n hx hb dL_act_148 rfl (lv_at hl 2 rfl) ?_
  refine vx_calli (vx_runV (As := [.int a]) (rest := []) ⟨hx, hb, hml, hown, hts⟩ (mtX2_tries l hfl g σ μ o a) (cwV 1 hts gL_act_X2_tries rfl rfl rfl (by decide +kernel) ⟨Nat.le_of_ble_eq_true rfl, Nat.le_of_ble_eq_true rfl⟩) ⟨PW.blind, rcB hC hW, fun U hU hW9 => ⟨rfl, PW.at hC hS hW U hU hW9⟩⟩ rfl rfl hl.1 rfl (lv_room (Nat.le_of_ble_eq_true rfl)) dL_act_149 ⟨Nat.le_of_ble_eq_true rfl, Nat.le_of_ble_eq_true rfl⟩) hS (fun _ _ h => h) (fun _ h => h) (fun _ _ h => h) (fun E9 ce q9 u_14 t H locs ht hvm hpx hbx hz9 hk9 hS hce hcv hcl => ?_) (fun r_13 u_14 t H locs ht hvm h_12 hW hz9 hk9 hS => ?_)
  · skip
    obtain ⟨hbq, hbw⟩ := hbx
    try dsimp only at hbq
    replace hbw : Wd g σ μ o H := by rw [← ht]; exact hbw
    obtain ⟨rfl, hk9⟩ := hbq
    have e9 := hk.symm.trans hk9
    have hr9 : rr = (-71) := hrr.2
    refine vx_catch (own := RL) (name := "java/lang/IndexOutOfBoundsException") hown (tableOf []) ⟨0, 175, 176, 60⟩ (tableOf [(0, 175, 181, 13), (0, 175, 186, 15)]) (htab.trans rfl) (fun z hz => absurd hz List.not_mem_nil) (by decide) (by decide) (hts (.classLink RL 60 "java/lang/IndexOutOfBoundsException") (by decide +kernel)) (cast_w (E := xIO) hC.2.1 (by decide +kernel) (.castable xIO xIO) (by decide +kernel)) hce hcv hcl ?_
    have hW := hbw
    refine lv_astore (lv' := [(4, .ref q9), (0, .ref (gA g 0)), (1, .int 10), (2, .int a), (3, .int b)]) hx hb dL_act_176 hl (by decide) rfl (fun ls hl => ?_)
    refine lv_bipush (v := (-71)) hx hb dL_act_178 (by decide) ?_
    refine W.widen (k := 1) (n := 6) (Nat.le_of_ble_eq_true rfl) (Nat.le_of_ble_eq_true rfl) ?_
    exact W.iret (v := (-71)) hx hb hr (fun t ht hW9 => ⟨⟨_, (), rfl, hr9.symm, by first | (rw [ht]; exact hW) | (dsimp only; rw [ht]; exact hW)⟩, hS.F ht⟩) hS.2.2 dL_act_180
  · skip
    replace hW : Wd g σ μ o H := by rw [← ht]; exact hW
    try dsimp only at h_12
    exact absurd (hk.symm.trans h_12.1) (by rw [hrr.1]; decide)
set_option maxHeartbeats 4000000 in
set_option maxRecDepth 100000 in
theorem mtL_act_11 (l : Launch) (g : Ge) (σ : Sg) (μ : Mg) (o : Nat → Int64) (hfl : l.stackTraces = false) (a b : Int32) (kk rr : Int32) (hk : kCm σ a b = kk) (hrr : (kk = 1 ∧ rr = (-71))) : Met l yL_act wsL_act ({ frames := 8, cells := 2, slots := 12, locals := 136 } : Room) (va_Pc [.ref (gA g 0), .int 11, .int a, .int b] (PW g σ μ o)) (va_Qi (S := Unit) (fun r _ => r = rr) (fun _ t => Wd g σ μ o t.heap) (Az g)) 2 12 (Az g) := by
  refine va_MetW (cc := cL_act) (maxL := 5) (ret := (some .int)) (by decide) rfl ?_
  intro p e s m args below meth c s₁ B hml hv
  obtain ⟨rfl, hC, hW⟩ := hv
  have hx := B.exec
  have hb := B.bytes
  have hr := B.returns
  have hts := atoms_spec (ws := wsL_act) B.pre
  have hown : s.vm.findClass RL = some m.cls := findClass_of_methodNamed B.named
  have hlocks := B.notSynchronized
  have hS : va_S (Az g) s.heap s.heap [] := va_S.rf
  have hl := lv_entry ([.ref (gA g 0), .int 11, .int a, .int b]) (n := 5) (Nat.le_of_ble_eq_true rfl)
  rw [lg_entry_eq]
  generalize (lg_sl ([.ref (gA g 0), .int 11, .int a, .int b]) ++ List.replicate (5 - (lg_sl ([.ref (gA g 0), .int 11, .int a, .int b])).length) Slot.unset).toArray = ls at hl ⊢
  have hl : lv_has ls 5 [(0, .ref (gA g 0)), (1, .int 11), (2, .int a), (3, .int b)] := hl
  have htab := vx_table (x := yL_act) B (hts (.codeWith yL_act cL_act 5 (some .int) [(0, 175, 176, 60), (0, 175, 181, 13), (0, 175, 186, 15)] ) (by exact List.mem_cons_self))
  refine lv_iload_n hx hb dL_act_0 rfl (lv_at hl 1 rfl) ?_
  refine lv_if_ne (tgt := 12) hx hb dL_act_1 (by decide) (fun c_1 => ?_) (fun c_1 => absurd c_1 (by decide))
  refine lv_iload_n hx hb dL_act_12 rfl (lv_at hl 1 rfl) ?_
  refine lv_iconst (v := 1) hx hb dL_act_13 (by decide) ?_
  refine lv_icmp_ne (tgt := 26) hx hb dL_act_14 (by decide) (fun c_2 => ?_) (fun c_2 => absurd c_2 (by decide))
  refine lv_iload_n hx hb dL_act_26 rfl (lv_at hl 1 rfl) ?_
  refine lv_iconst (v := 2) hx hb dL_act_27 (by decide) ?_
  refine lv_icmp_ne (tgt := 39) hx hb dL_act_28 (by decide) (fun c_3 => ?_) (fun c_3 => absurd c_3 (by decide))
  refine lv_iload_n hx hb dL_act_39 rfl (lv_at hl 1 rfl) ?_
  refine lv_iconst (v := 3) hx hb dL_act_40 (by decide) ?_
  refine lv_icmp_ne (tgt := 52) hx hb dL_act_41 (by decide) (fun c_4 => ?_) (fun c_4 => absurd c_4 (by decide))
  refine lv_iload_n hx hb dL_act_52 rfl (lv_at hl 1 rfl) ?_
  refine lv_iconst (v := 4) hx hb dL_act_53 (by decide) ?_
  refine lv_icmp_ne (tgt := 66) hx hb dL_act_54 (by decide) (fun c_5 => ?_) (fun c_5 => absurd c_5 (by decide))
  refine lv_iload_n hx hb dL_act_66 rfl (lv_at hl 1 rfl) ?_
  refine lv_iconst (v := 5) hx hb dL_act_67 (by decide) ?_
  refine lv_icmp_ne (tgt := 78) hx hb dL_act_68 (by decide) (fun c_6 => ?_) (fun c_6 => absurd c_6 (by decide))
  refine lv_iload_n hx hb dL_act_78 rfl (lv_at hl 1 rfl) ?_
  refine lv_bipush (v := 6) hx hb dL_act_79 (by decide) ?_
  refine lv_icmp_ne (tgt := 91) hx hb dL_act_81 (by decide) (fun c_7 => ?_) (fun c_7 => absurd c_7 (by decide))
  refine lv_iload_n hx hb dL_act_91 rfl (lv_at hl 1 rfl) ?_
  refine lv_bipush (v := 7) hx hb dL_act_92 (by decide) ?_
  refine lv_icmp_ne (tgt := 113) hx hb dL_act_94 (by decide) (fun c_8 => ?_) (fun c_8 => absurd c_8 (by decide))
  refine lv_iload_n hx hb dL_act_113 rfl (lv_at hl 1 rfl) ?_
  refine lv_bipush (v := 8) hx hb dL_act_114 (by decide) ?_
  refine lv_icmp_ne (tgt := 127) hx hb dL_act_116 (by decide) (fun c_9 => ?_) (fun c_9 => absurd c_9 (by decide))
  refine lv_iload_n hx hb dL_act_127 rfl (lv_at hl 1 rfl) ?_
  refine lv_bipush (v := 9) hx hb dL_act_128 (by decide) ?_
  refine lv_icmp_ne (tgt := 141) hx hb dL_act_130 (by decide) (fun c_10 => ?_) (fun c_10 => absurd c_10 (by decide))
  refine lv_iload_n hx hb dL_act_141 rfl (lv_at hl 1 rfl) ?_
  refine lv_bipush (v := 10) hx hb dL_act_142 (by decide) ?_
  refine lv_icmp_ne (tgt := 155) hx hb dL_act_144 (by decide) (fun c_11 => ?_) (fun c_11 => absurd c_11 (by decide))
  refine lv_iload_n hx hb dL_act_155 rfl (lv_at hl 1 rfl) ?_
  refine lv_bipush (v := 11) hx hb dL_act_156 (by decide) ?_
  refine lv_icmp_ne (tgt := 170) hx hb dL_act_158 (by decide) (fun c_12 => absurd c_12 (by decide)) (fun c_12 => ?_)
  refine lv_aload_n hx hb dL_act_161 rfl (lv_at hl 0 rfl) ?_
  refine lv_iload_n hx hb dL_act_162 rfl (lv_at hl 2 rfl) ?_
  refine lv_iload_n hx hb dL_act_163 rfl (lv_at hl 3 rfl) ?_
  refine vx_calli (vx_runV (As := [.int a, .int b]) (rest := []) ⟨hx, hb, hml, hown, hts⟩ (mtX2_compare l hfl g σ μ o a b) (cwV 2 hts gL_act_X2_compare rfl rfl rfl (by decide +kernel) ⟨Nat.le_of_ble_eq_true rfl, Nat.le_of_ble_eq_true rfl⟩) ⟨PW.blind, rcB hC hW, fun U hU hW9 => ⟨rfl, PW.at hC hS hW U hU hW9⟩⟩ rfl rfl hl.1 rfl (lv_room (Nat.le_of_ble_eq_true rfl)) dL_act_164 ⟨Nat.le_of_ble_eq_true rfl, Nat.le_of_ble_eq_true rfl⟩) hS (fun _ _ h => h) (fun _ h => h) (fun _ _ h => h) (fun E9 ce q9 u_15 t H locs ht hvm hpx hbx hz9 hk9 hS hce hcv hcl => ?_) (fun r_14 u_15 t H locs ht hvm h_13 hW hz9 hk9 hS => ?_)
  · skip
    obtain ⟨hbq, hbw⟩ := hbx
    try dsimp only at hbq
    replace hbw : Wd g σ μ o H := by rw [← ht]; exact hbw
    obtain ⟨rfl, hk9⟩ := hbq
    have e9 := hk.symm.trans hk9
    have hr9 : rr = (-71) := hrr.2
    refine vx_catch (own := RL) (name := "java/lang/IndexOutOfBoundsException") hown (tableOf []) ⟨0, 175, 176, 60⟩ (tableOf [(0, 175, 181, 13), (0, 175, 186, 15)]) (htab.trans rfl) (fun z hz => absurd hz List.not_mem_nil) (by decide) (by decide) (hts (.classLink RL 60 "java/lang/IndexOutOfBoundsException") (by decide +kernel)) (cast_w (E := xIO) hC.2.1 (by decide +kernel) (.castable xIO xIO) (by decide +kernel)) hce hcv hcl ?_
    have hW := hbw
    refine lv_astore (lv' := [(4, .ref q9), (0, .ref (gA g 0)), (1, .int 11), (2, .int a), (3, .int b)]) hx hb dL_act_176 hl (by decide) rfl (fun ls hl => ?_)
    refine lv_bipush (v := (-71)) hx hb dL_act_178 (by decide) ?_
    refine W.widen (k := 2) (n := 12) (Nat.le_of_ble_eq_true rfl) (Nat.le_of_ble_eq_true rfl) ?_
    exact W.iret (v := (-71)) hx hb hr (fun t ht hW9 => ⟨⟨_, (), rfl, hr9.symm, by first | (rw [ht]; exact hW) | (dsimp only; rw [ht]; exact hW)⟩, hS.F ht⟩) hS.2.2 dL_act_180
  · skip
    replace hW : Wd g σ μ o H := by rw [← ht]; exact hW
    try dsimp only at h_13
    exact absurd (hk.symm.trans h_13.1) (by rw [hrr.1]; decide)
set_option maxHeartbeats 4000000 in
set_option maxRecDepth 100000 in
theorem mtL_act_12 (l : Launch) (g : Ge) (σ : Sg) (μ : Mg) (o : Nat → Int64) (hfl : l.stackTraces = false) (a b : Int32) (kk rr : Int32) (hk : kRem σ a = kk) (hrr : (kk = 1 ∧ rr = (-71))) : Met l yL_act wsL_act ({ frames := 8, cells := 1, slots := 6, locals := 133 } : Room) (va_Pc [.ref (gA g 0), .int 12, .int a, .int b] (PW g σ μ o)) (va_Qi (S := Unit) (fun r _ => r = rr) (fun _ t => Wd g σ μ o t.heap) (Az g)) 1 6 (Az g) := by
  refine va_MetW (cc := cL_act) (maxL := 5) (ret := (some .int)) (by decide) rfl ?_
  intro p e s m args below meth c s₁ B hml hv
  obtain ⟨rfl, hC, hW⟩ := hv
  have hx := B.exec
  have hb := B.bytes
  have hr := B.returns
  have hts := atoms_spec (ws := wsL_act) B.pre
  have hown : s.vm.findClass RL = some m.cls := findClass_of_methodNamed B.named
  have hlocks := B.notSynchronized
  have hS : va_S (Az g) s.heap s.heap [] := va_S.rf
  have hl := lv_entry ([.ref (gA g 0), .int 12, .int a, .int b]) (n := 5) (Nat.le_of_ble_eq_true rfl)
  rw [lg_entry_eq]
  generalize (lg_sl ([.ref (gA g 0), .int 12, .int a, .int b]) ++ List.replicate (5 - (lg_sl ([.ref (gA g 0), .int 12, .int a, .int b])).length) Slot.unset).toArray = ls at hl ⊢
  have hl : lv_has ls 5 [(0, .ref (gA g 0)), (1, .int 12), (2, .int a), (3, .int b)] := hl
  have htab := vx_table (x := yL_act) B (hts (.codeWith yL_act cL_act 5 (some .int) [(0, 175, 176, 60), (0, 175, 181, 13), (0, 175, 186, 15)] ) (by exact List.mem_cons_self))
  refine lv_iload_n hx hb dL_act_0 rfl (lv_at hl 1 rfl) ?_
  refine lv_if_ne (tgt := 12) hx hb dL_act_1 (by decide) (fun c_1 => ?_) (fun c_1 => absurd c_1 (by decide))
  refine lv_iload_n hx hb dL_act_12 rfl (lv_at hl 1 rfl) ?_
  refine lv_iconst (v := 1) hx hb dL_act_13 (by decide) ?_
  refine lv_icmp_ne (tgt := 26) hx hb dL_act_14 (by decide) (fun c_2 => ?_) (fun c_2 => absurd c_2 (by decide))
  refine lv_iload_n hx hb dL_act_26 rfl (lv_at hl 1 rfl) ?_
  refine lv_iconst (v := 2) hx hb dL_act_27 (by decide) ?_
  refine lv_icmp_ne (tgt := 39) hx hb dL_act_28 (by decide) (fun c_3 => ?_) (fun c_3 => absurd c_3 (by decide))
  refine lv_iload_n hx hb dL_act_39 rfl (lv_at hl 1 rfl) ?_
  refine lv_iconst (v := 3) hx hb dL_act_40 (by decide) ?_
  refine lv_icmp_ne (tgt := 52) hx hb dL_act_41 (by decide) (fun c_4 => ?_) (fun c_4 => absurd c_4 (by decide))
  refine lv_iload_n hx hb dL_act_52 rfl (lv_at hl 1 rfl) ?_
  refine lv_iconst (v := 4) hx hb dL_act_53 (by decide) ?_
  refine lv_icmp_ne (tgt := 66) hx hb dL_act_54 (by decide) (fun c_5 => ?_) (fun c_5 => absurd c_5 (by decide))
  refine lv_iload_n hx hb dL_act_66 rfl (lv_at hl 1 rfl) ?_
  refine lv_iconst (v := 5) hx hb dL_act_67 (by decide) ?_
  refine lv_icmp_ne (tgt := 78) hx hb dL_act_68 (by decide) (fun c_6 => ?_) (fun c_6 => absurd c_6 (by decide))
  refine lv_iload_n hx hb dL_act_78 rfl (lv_at hl 1 rfl) ?_
  refine lv_bipush (v := 6) hx hb dL_act_79 (by decide) ?_
  refine lv_icmp_ne (tgt := 91) hx hb dL_act_81 (by decide) (fun c_7 => ?_) (fun c_7 => absurd c_7 (by decide))
  refine lv_iload_n hx hb dL_act_91 rfl (lv_at hl 1 rfl) ?_
  refine lv_bipush (v := 7) hx hb dL_act_92 (by decide) ?_
  refine lv_icmp_ne (tgt := 113) hx hb dL_act_94 (by decide) (fun c_8 => ?_) (fun c_8 => absurd c_8 (by decide))
  refine lv_iload_n hx hb dL_act_113 rfl (lv_at hl 1 rfl) ?_
  refine lv_bipush (v := 8) hx hb dL_act_114 (by decide) ?_
  refine lv_icmp_ne (tgt := 127) hx hb dL_act_116 (by decide) (fun c_9 => ?_) (fun c_9 => absurd c_9 (by decide))
  refine lv_iload_n hx hb dL_act_127 rfl (lv_at hl 1 rfl) ?_
  refine lv_bipush (v := 9) hx hb dL_act_128 (by decide) ?_
  refine lv_icmp_ne (tgt := 141) hx hb dL_act_130 (by decide) (fun c_10 => ?_) (fun c_10 => absurd c_10 (by decide))
  refine lv_iload_n hx hb dL_act_141 rfl (lv_at hl 1 rfl) ?_
  refine lv_bipush (v := 10) hx hb dL_act_142 (by decide) ?_
  refine lv_icmp_ne (tgt := 155) hx hb dL_act_144 (by decide) (fun c_11 => ?_) (fun c_11 => absurd c_11 (by decide))
  refine lv_iload_n hx hb dL_act_155 rfl (lv_at hl 1 rfl) ?_
  refine lv_bipush (v := 11) hx hb dL_act_156 (by decide) ?_
  refine lv_icmp_ne (tgt := 170) hx hb dL_act_158 (by decide) (fun c_12 => ?_) (fun c_12 => absurd c_12 (by decide))
  refine lv_aload_n hx hb dL_act_170 rfl (lv_at hl 0 rfl) ?_
  refine lv_iload_n hx hb dL_act_171 rfl (lv_at hl 2 rfl) ?_
  refine vx_calli (vx_runV (As := [.int a]) (rest := []) ⟨hx, hb, hml, hown, hts⟩ (mtX2_foretold l hfl g σ μ o a) (cwV 1 hts gL_act_X2_foretold rfl rfl rfl (by decide +kernel) ⟨Nat.le_of_ble_eq_true rfl, Nat.le_of_ble_eq_true rfl⟩) ⟨PW.blind, rcB hC hW, fun U hU hW9 => ⟨rfl, PW.at hC hS hW U hU hW9⟩⟩ rfl rfl hl.1 rfl (lv_room (Nat.le_of_ble_eq_true rfl)) dL_act_172 ⟨Nat.le_of_ble_eq_true rfl, Nat.le_of_ble_eq_true rfl⟩) hS (fun _ _ h => h) (fun _ h => h) (fun _ _ h => h) (fun E9 ce q9 u_15 t H locs ht hvm hpx hbx hz9 hk9 hS hce hcv hcl => ?_) (fun r_14 u_15 t H locs ht hvm h_13 hW hz9 hk9 hS => ?_)
  · skip
    obtain ⟨hbq, hbw⟩ := hbx
    try dsimp only at hbq
    replace hbw : Wd g σ μ o H := by rw [← ht]; exact hbw
    obtain ⟨rfl, hk9⟩ := hbq
    have e9 := hk.symm.trans hk9
    have hr9 : rr = (-71) := hrr.2
    refine vx_catch (own := RL) (name := "java/lang/IndexOutOfBoundsException") hown (tableOf []) ⟨0, 175, 176, 60⟩ (tableOf [(0, 175, 181, 13), (0, 175, 186, 15)]) (htab.trans rfl) (fun z hz => absurd hz List.not_mem_nil) (by decide) (by decide) (hts (.classLink RL 60 "java/lang/IndexOutOfBoundsException") (by decide +kernel)) (cast_w (E := xIO) hC.2.1 (by decide +kernel) (.castable xIO xIO) (by decide +kernel)) hce hcv hcl ?_
    have hW := hbw
    refine lv_astore (lv' := [(4, .ref q9), (0, .ref (gA g 0)), (1, .int 12), (2, .int a), (3, .int b)]) hx hb dL_act_176 hl (by decide) rfl (fun ls hl => ?_)
    refine lv_bipush (v := (-71)) hx hb dL_act_178 (by decide) ?_
    refine W.widen (k := 1) (n := 6) (Nat.le_of_ble_eq_true rfl) (Nat.le_of_ble_eq_true rfl) ?_
    exact W.iret (v := (-71)) hx hb hr (fun t ht hW9 => ⟨⟨_, (), rfl, hr9.symm, by first | (rw [ht]; exact hW) | (dsimp only; rw [ht]; exact hW)⟩, hS.F ht⟩) hS.2.2 dL_act_180
  · skip
    replace hW : Wd g σ μ o H := by rw [← ht]; exact hW
    try dsimp only at h_13
    exact absurd (hk.symm.trans h_13.1) (by rw [hrr.1]; decide)
