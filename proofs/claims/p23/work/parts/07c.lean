set_option maxHeartbeats 4000000 in
set_option maxRecDepth 100000 in
theorem mtL_lockR (l : Launch) (g : Ge) (σ : Sg) (μ : Mg) (o : Nat → Int64) (hfl : l.stackTraces = false) (code many : Int32) (kk rr : Int32) (hk : kLo σ code many = kk) (hrr : (kk = 1 ∧ rr = (-72)) ∨ (kk = 2 ∧ rr = (-73))) : Met l yL_lock wsL_lock ({ frames := 8, cells := 2, slots := 12, locals := 132 } : Room) (va_Pc [.ref (gA g 0), .int code, .int many] (PW g σ μ o)) (va_Qi (S := Unit) (fun r _ => r = rr) (fun _ t => Wd g σ μ o t.heap) (Az g)) 2 12 (Az g) := by
  refine va_MetW (cc := cL_lock) (maxL := 4) (ret := (some .int)) (by decide) rfl ?_
  intro p e s m args below meth c s₁ B hml hv
  obtain ⟨rfl, hC, hW⟩ := hv
  have hx := B.exec
  have hb := B.bytes
  have hr := B.returns
  have hts := atoms_spec (ws := wsL_lock) B.pre
  have hown : s.vm.findClass RL = some m.cls := findClass_of_methodNamed B.named
  have hlocks := B.notSynchronized
  have hS : va_S (Az g) s.heap s.heap [] := va_S.rf
  have hl := lv_entry ([.ref (gA g 0), .int code, .int many]) (n := 4) (Nat.le_of_ble_eq_true rfl)
  rw [lg_entry_eq]
  generalize (lg_sl ([.ref (gA g 0), .int code, .int many]) ++ List.replicate (4 - (lg_sl ([.ref (gA g 0), .int code, .int many])).length) Slot.unset).toArray = ls at hl ⊢
  have hl : lv_has ls 4 [(0, .ref (gA g 0)), (1, .int code), (2, .int many)] := hl
  have htab := vx_table (x := yL_lock) B (hts (.codeWith yL_lock cL_lock 4 (some .int) [(0, 7, 8, 13), (0, 7, 12, 15)] ) (by exact List.mem_cons_self))
  refine lv_aload_n hx hb dL_lock_0 rfl (lv_at hl 0 rfl) ?_
  refine lv_iload_n hx hb dL_lock_1 rfl (lv_at hl 1 rfl) ?_
  refine lv_iload_n hx hb dL_lock_2 rfl (lv_at hl 2 rfl) ?_
  refine vx_callv (vx_runV (As := [.int code, .int many]) (rest := []) ⟨hx, hb, hml, hown, hts⟩ (mtX2_lock l hfl g σ μ o code many) (cwV 2 hts gL_lock_X2_lock rfl rfl rfl (by decide +kernel) ⟨Nat.le_of_ble_eq_true rfl, Nat.le_of_ble_eq_true rfl⟩) ⟨PW.blind, rcB hC hW, fun U hU hW9 => ⟨rfl, PW.at hC hS hW U hU hW9⟩⟩ rfl rfl hl.1 rfl (lv_room (Nat.le_of_ble_eq_true rfl)) dL_lock_3 ⟨Nat.le_of_ble_eq_true rfl, Nat.le_of_ble_eq_true rfl⟩) hS (fun _ _ h => h) (fun _ h => h) (fun _ _ h => h) (fun E9 ce q9 u_3 t H locs ht hvm hpx hbx hz9 hk9 hS hce hcv hcl => ?_) (fun u_3 t H locs ht hvm h_1 hW hz9 hk9 hS => ?_)
  · skip
    obtain ⟨hbq, hbw⟩ := hbx
    try dsimp only at hbq
    replace hbw : Wd g σ μ o H := by rw [← ht]; exact hbw
    rcases hbq with hbq | hbq
    · skip
      obtain ⟨rfl, hk9⟩ := hbq
      have e9 := hk.symm.trans hk9
      have hr9 : rr = (-72) := by rcases hrr with ⟨h1, h2⟩ | ⟨h1, h2⟩ <;> first | exact h2 | exact absurd (h1.symm.trans e9) (by decide)
      refine vx_catch (own := RL) (name := "java/lang/IllegalArgumentException") hown (tableOf []) ⟨0, 7, 8, 13⟩ (tableOf [(0, 7, 12, 15)]) (htab.trans rfl) (fun z hz => absurd hz List.not_mem_nil) (by decide) (by decide) (hts (.classLink RL 13 "java/lang/IllegalArgumentException") (by decide +kernel)) (cast_w (E := xIA) hC.2.1 (by decide +kernel) (.castable xIA xIA) (by decide +kernel)) hce hcv hcl ?_
      have hW := hbw
      refine lv_astore_n (lv' := [(3, .ref q9), (0, .ref (gA g 0)), (1, .int code), (2, .int many)]) hx hb dL_lock_8 rfl hl (by decide) rfl (fun ls hl => ?_)
      refine lv_bipush (v := (-72)) hx hb dL_lock_9 (by decide) ?_
      refine W.widen (k := 2) (n := 12) (Nat.le_of_ble_eq_true rfl) (Nat.le_of_ble_eq_true rfl) ?_
      exact W.iret (v := (-72)) hx hb hr (fun t ht hW9 => ⟨⟨_, (), rfl, hr9.symm, by first | (rw [ht]; exact hW) | (dsimp only; rw [ht]; exact hW)⟩, hS.F ht⟩) hS.2.2 dL_lock_11
    · skip
      obtain ⟨rfl, hk9⟩ := hbq
      have e9 := hk.symm.trans hk9
      have hr9 : rr = (-73) := by rcases hrr with ⟨h1, h2⟩ | ⟨h1, h2⟩ <;> first | exact h2 | exact absurd (h1.symm.trans e9) (by decide)
      refine vx_catch (own := RL) (name := "java/lang/IllegalStateException") hown (tableOf [(0, 7, 8, 13)]) ⟨0, 7, 12, 15⟩ (tableOf []) (htab.trans rfl) (List.forall_mem_cons.mpr ⟨Or.inr ⟨by decide, "java/lang/IllegalArgumentException", hts (.classLink RL 13 "java/lang/IllegalArgumentException") (by decide +kernel), hC.2.1.2.2.2 (xIS, xIA) (by decide +kernel)⟩, (fun z hz => absurd hz List.not_mem_nil)⟩) (by decide) (by decide) (hts (.classLink RL 15 "java/lang/IllegalStateException") (by decide +kernel)) (cast_w (E := xIS) hC.2.1 (by decide +kernel) (.castable xIS xIS) (by decide +kernel)) hce hcv hcl ?_
      have hW := hbw
      refine lv_astore_n (lv' := [(3, .ref q9), (0, .ref (gA g 0)), (1, .int code), (2, .int many)]) hx hb dL_lock_12 rfl hl (by decide) rfl (fun ls hl => ?_)
      refine lv_bipush (v := (-73)) hx hb dL_lock_13 (by decide) ?_
      refine W.widen (k := 2) (n := 12) (Nat.le_of_ble_eq_true rfl) (Nat.le_of_ble_eq_true rfl) ?_
      exact W.iret (v := (-73)) hx hb hr (fun t ht hW9 => ⟨⟨_, (), rfl, hr9.symm, by first | (rw [ht]; exact hW) | (dsimp only; rw [ht]; exact hW)⟩, hS.F ht⟩) hS.2.2 dL_lock_15
  · skip
    replace hW : Wd g ((σ.1, σ.2.1, upd (upd (upd (upd σ.2.2.1 0 1) 1 code) 2 many) 3 0, σ.2.2.2)) μ o H := by rw [← ht]; exact hW
    try dsimp only at h_1
    exact absurd (hk.symm.trans h_1) (by rcases hrr with ⟨h1, h2⟩ | ⟨h1, h2⟩ <;> rw [h1] <;> decide)
set_option maxHeartbeats 4000000 in
set_option maxRecDepth 100000 in
theorem mtL_lockS (l : Launch) (g : Ge) (σ : Sg) (μ : Mg) (o : Nat → Int64) (hfl : l.stackTraces = false) (code many : Int32) (hk : kLo σ code many = 0)  : Met l yL_lock wsL_lock ({ frames := 8, cells := 2, slots := 12, locals := 132 } : Room) (va_Pc [.ref (gA g 0), .int code, .int many] (PW g σ μ o)) (va_Qi (S := Unit) (fun r _ => r = 0) (fun _ t => Wd g (σ.1, σ.2.1, upd (upd (upd (upd σ.2.2.1 0 1) 1 code) 2 many) 3 0, σ.2.2.2) μ o t.heap) (Az g)) 2 12 (Az g) := by
  refine va_MetW (cc := cL_lock) (maxL := 4) (ret := (some .int)) (by decide) rfl ?_
  intro p e s m args below meth c s₁ B hml hv
  obtain ⟨rfl, hC, hW⟩ := hv
  have hx := B.exec
  have hb := B.bytes
  have hr := B.returns
  have hts := atoms_spec (ws := wsL_lock) B.pre
  have hown : s.vm.findClass RL = some m.cls := findClass_of_methodNamed B.named
  have hlocks := B.notSynchronized
  have hS : va_S (Az g) s.heap s.heap [] := va_S.rf
  have hl := lv_entry ([.ref (gA g 0), .int code, .int many]) (n := 4) (Nat.le_of_ble_eq_true rfl)
  rw [lg_entry_eq]
  generalize (lg_sl ([.ref (gA g 0), .int code, .int many]) ++ List.replicate (4 - (lg_sl ([.ref (gA g 0), .int code, .int many])).length) Slot.unset).toArray = ls at hl ⊢
  have hl : lv_has ls 4 [(0, .ref (gA g 0)), (1, .int code), (2, .int many)] := hl
  have htab := vx_table (x := yL_lock) B (hts (.codeWith yL_lock cL_lock 4 (some .int) [(0, 7, 8, 13), (0, 7, 12, 15)] ) (by exact List.mem_cons_self))
  refine lv_aload_n hx hb dL_lock_0 rfl (lv_at hl 0 rfl) ?_
  refine lv_iload_n hx hb dL_lock_1 rfl (lv_at hl 1 rfl) ?_
  refine lv_iload_n hx hb dL_lock_2 rfl (lv_at hl 2 rfl) ?_
  refine vx_callv (vx_runV (As := [.int code, .int many]) (rest := []) ⟨hx, hb, hml, hown, hts⟩ (mtX2_lock l hfl g σ μ o code many) (cwV 2 hts gL_lock_X2_lock rfl rfl rfl (by decide +kernel) ⟨Nat.le_of_ble_eq_true rfl, Nat.le_of_ble_eq_true rfl⟩) ⟨PW.blind, rcB hC hW, fun U hU hW9 => ⟨rfl, PW.at hC hS hW U hU hW9⟩⟩ rfl rfl hl.1 rfl (lv_room (Nat.le_of_ble_eq_true rfl)) dL_lock_3 ⟨Nat.le_of_ble_eq_true rfl, Nat.le_of_ble_eq_true rfl⟩) hS (fun _ _ h => h) (fun _ h => h) (fun _ _ h => h) (fun E9 ce q9 u_3 t H locs ht hvm hpx hbx hz9 hk9 hS hce hcv hcl => ?_) (fun u_3 t H locs ht hvm h_1 hW hz9 hk9 hS => ?_)
  · skip
    obtain ⟨hbq, hbw⟩ := hbx
    try dsimp only at hbq
    replace hbw : Wd g σ μ o H := by rw [← ht]; exact hbw
    rcases hbq with hbq | hbq
    · skip
      obtain ⟨rfl, hk9⟩ := hbq
      exact absurd (hk.symm.trans hk9) (by decide)
    · skip
      obtain ⟨rfl, hk9⟩ := hbq
      exact absurd (hk.symm.trans hk9) (by decide)
  · skip
    replace hW : Wd g ((σ.1, σ.2.1, upd (upd (upd (upd σ.2.2.1 0 1) 1 code) 2 many) 3 0, σ.2.2.2)) μ o H := by rw [← ht]; exact hW
    try dsimp only at h_1
    refine lv_iconst (v := 0) hx hb dL_lock_6 (by decide) ?_
    refine W.widen (k := 2) (n := 12) (Nat.le_of_ble_eq_true rfl) (Nat.le_of_ble_eq_true rfl) ?_
    exact W.iret (v := 0) hx hb hr (fun t ht hW9 => ⟨⟨_, (), rfl, rfl, by first | (rw [ht]; exact hW) | (dsimp only; rw [ht]; exact hW)⟩, hS.F ht⟩) hS.2.2 dL_lock_7
set_option maxHeartbeats 4000000 in
set_option maxRecDepth 100000 in
theorem mtL_addR (l : Launch) (g : Ge) (σ : Sg) (μ : Mg) (o : Nat → Int64) (hfl : l.stackTraces = false) (kind name ver mark tr : Int32) (kk rr : Int32) (hk : kAdd σ kind name ver mark tr = kk) (hrr : (kk = 1 ∧ rr = (-72)) ∨ (kk = 2 ∧ rr = (-73))) : Met l yL_add wsL_add ({ frames := 7, cells := 1, slots := 6, locals := 116 } : Room) (va_Pc [.ref (gA g 0), .int kind, .int name, .int ver, .int mark, .int tr] (PW g σ μ o)) (va_Qi (S := Unit) (fun r _ => r = rr) (fun _ t => Wd g σ μ o t.heap) (Az g)) 1 6 (Az g) := by
  refine va_MetW (cc := cL_add) (maxL := 7) (ret := (some .int)) (by decide) rfl ?_
  intro p e s m args below meth c s₁ B hml hv
  obtain ⟨rfl, hC, hW⟩ := hv
  have hx := B.exec
  have hb := B.bytes
  have hr := B.returns
  have hts := atoms_spec (ws := wsL_add) B.pre
  have hown : s.vm.findClass RL = some m.cls := findClass_of_methodNamed B.named
  have hlocks := B.notSynchronized
  have hS : va_S (Az g) s.heap s.heap [] := va_S.rf
  have hl := lv_entry ([.ref (gA g 0), .int kind, .int name, .int ver, .int mark, .int tr]) (n := 7) (Nat.le_of_ble_eq_true rfl)
  rw [lg_entry_eq]
  generalize (lg_sl ([.ref (gA g 0), .int kind, .int name, .int ver, .int mark, .int tr]) ++ List.replicate (7 - (lg_sl ([.ref (gA g 0), .int kind, .int name, .int ver, .int mark, .int tr])).length) Slot.unset).toArray = ls at hl ⊢
  have hl : lv_has ls 7 [(0, .ref (gA g 0)), (1, .int kind), (2, .int name), (3, .int ver), (4, .int mark), (5, .int tr)] := hl
  have htab := vx_table (x := yL_add) B (hts (.codeWith yL_add cL_add 7 (some .int) [(0, 11, 12, 13), (0, 11, 17, 15)] ) (by exact List.mem_cons_self))
  refine lv_aload_n hx hb dL_add_0 rfl (lv_at hl 0 rfl) ?_
  refine lv_iload_n hx hb dL_add_1 rfl (lv_at hl 1 rfl) ?_
  refine lv_iload_n hx hb dL_add_2 rfl (lv_at hl 2 rfl) ?_
  refine lv_iload_n hx hb dL_add_3 rfl (lv_at hl 3 rfl) ?_
  refine lv_iload hx hb dL_add_4 (lv_at hl 4 rfl) ?_
  refine lv_iload hx hb dL_add_6 (lv_at hl 5 rfl) ?_
  refine vx_calli (vx_runV (As := [.int kind, .int name, .int ver, .int mark, .int tr]) (rest := []) ⟨hx, hb, hml, hown, hts⟩ (mtX2_add l hfl g σ μ o kind name ver mark tr) (cwV 5 hts gL_add_X2_add rfl rfl rfl (by decide +kernel) ⟨Nat.le_of_ble_eq_true rfl, Nat.le_of_ble_eq_true rfl⟩) ⟨PW.blind, rcB hC hW, fun U hU hW9 => ⟨rfl, PW.at hC hS hW U hU hW9⟩⟩ rfl rfl hl.1 rfl (lv_room (Nat.le_of_ble_eq_true rfl)) dL_add_8 ⟨Nat.le_of_ble_eq_true rfl, Nat.le_of_ble_eq_true rfl⟩) hS (fun _ _ h => h) (fun _ h => h) (fun _ _ h => h) (fun E9 ce q9 u_3 t H locs ht hvm hpx hbx hz9 hk9 hS hce hcv hcl => ?_) (fun r_2 u_3 t H locs ht hvm h_1 hW hz9 hk9 hS => ?_)
  · skip
    obtain ⟨hbq, hbw⟩ := hbx
    try dsimp only at hbq
    replace hbw : Wd g σ μ o H := by rw [← ht]; exact hbw
    rcases hbq with hbq | hbq
    · skip
      obtain ⟨rfl, hk9⟩ := hbq
      have e9 := hk.symm.trans hk9
      have hr9 : rr = (-72) := by rcases hrr with ⟨h1, h2⟩ | ⟨h1, h2⟩ <;> first | exact h2 | exact absurd (h1.symm.trans e9) (by decide)
      refine vx_catch (own := RL) (name := "java/lang/IllegalArgumentException") hown (tableOf []) ⟨0, 11, 12, 13⟩ (tableOf [(0, 11, 17, 15)]) (htab.trans rfl) (fun z hz => absurd hz List.not_mem_nil) (by decide) (by decide) (hts (.classLink RL 13 "java/lang/IllegalArgumentException") (by decide +kernel)) (cast_w (E := xIA) hC.2.1 (by decide +kernel) (.castable xIA xIA) (by decide +kernel)) hce hcv hcl ?_
      have hW := hbw
      refine lv_astore (lv' := [(6, .ref q9), (0, .ref (gA g 0)), (1, .int kind), (2, .int name), (3, .int ver), (4, .int mark), (5, .int tr)]) hx hb dL_add_12 hl (by decide) rfl (fun ls hl => ?_)
      refine lv_bipush (v := (-72)) hx hb dL_add_14 (by decide) ?_
      refine W.widen (k := 1) (n := 6) (Nat.le_of_ble_eq_true rfl) (Nat.le_of_ble_eq_true rfl) ?_
      exact W.iret (v := (-72)) hx hb hr (fun t ht hW9 => ⟨⟨_, (), rfl, hr9.symm, by first | (rw [ht]; exact hW) | (dsimp only; rw [ht]; exact hW)⟩, hS.F ht⟩) hS.2.2 dL_add_16
    · skip
      obtain ⟨rfl, hk9⟩ := hbq
      have e9 := hk.symm.trans hk9
      have hr9 : rr = (-73) := by rcases hrr with ⟨h1, h2⟩ | ⟨h1, h2⟩ <;> first | exact h2 | exact absurd (h1.symm.trans e9) (by decide)
      refine vx_catch (own := RL) (name := "java/lang/IllegalStateException") hown (tableOf [(0, 11, 12, 13)]) ⟨0, 11, 17, 15⟩ (tableOf []) (htab.trans rfl) (List.forall_mem_cons.mpr ⟨Or.inr ⟨by decide, "java/lang/IllegalArgumentException", hts (.classLink RL 13 "java/lang/IllegalArgumentException") (by decide +kernel), hC.2.1.2.2.2 (xIS, xIA) (by decide +kernel)⟩, (fun z hz => absurd hz List.not_mem_nil)⟩) (by decide) (by decide) (hts (.classLink RL 15 "java/lang/IllegalStateException") (by decide +kernel)) (cast_w (E := xIS) hC.2.1 (by decide +kernel) (.castable xIS xIS) (by decide +kernel)) hce hcv hcl ?_
      have hW := hbw
      refine lv_astore (lv' := [(6, .ref q9), (0, .ref (gA g 0)), (1, .int kind), (2, .int name), (3, .int ver), (4, .int mark), (5, .int tr)]) hx hb dL_add_17 hl (by decide) rfl (fun ls hl => ?_)
      refine lv_bipush (v := (-73)) hx hb dL_add_19 (by decide) ?_
      refine W.widen (k := 1) (n := 6) (Nat.le_of_ble_eq_true rfl) (Nat.le_of_ble_eq_true rfl) ?_
      exact W.iret (v := (-73)) hx hb hr (fun t ht hW9 => ⟨⟨_, (), rfl, hr9.symm, by first | (rw [ht]; exact hW) | (dsimp only; rw [ht]; exact hW)⟩, hS.F ht⟩) hS.2.2 dL_add_21
  · skip
    replace hW : Wd g ((upd σ.1 0 (σ.1 0 + 1), up2 σ.2.1 u_3 (flE (σ.2.1 u_3) (σ.1 0) kind name ver mark tr), σ.2.2)) μ o H := by rw [← ht]; exact hW
    try dsimp only at h_1
    exact absurd (hk.symm.trans h_1.1) (by rcases hrr with ⟨h1, h2⟩ | ⟨h1, h2⟩ <;> rw [h1] <;> decide)
set_option maxHeartbeats 4000000 in
set_option maxRecDepth 100000 in
theorem mtL_addS (l : Launch) (g : Ge) (σ : Sg) (μ : Mg) (o : Nat → Int64) (hfl : l.stackTraces = false) (kind name ver mark tr : Int32) (hk : kAdd σ kind name ver mark tr = 0) (u0 : Nat) (hu : fs (frP σ.2.1) 16 = some u0) : Met l yL_add wsL_add ({ frames := 7, cells := 1, slots := 6, locals := 116 } : Room) (va_Pc [.ref (gA g 0), .int kind, .int name, .int ver, .int mark, .int tr] (PW g σ μ o)) (va_Qi (S := Unit) (fun r _ => r = σ.1 0) (fun _ t => Wd g (upd σ.1 0 (σ.1 0 + 1), up2 σ.2.1 u0 (flE (σ.2.1 u0) (σ.1 0) kind name ver mark tr), σ.2.2) μ o t.heap) (Az g)) 1 6 (Az g) := by
  refine va_MetW (cc := cL_add) (maxL := 7) (ret := (some .int)) (by decide) rfl ?_
  intro p e s m args below meth c s₁ B hml hv
  obtain ⟨rfl, hC, hW⟩ := hv
  have hx := B.exec
  have hb := B.bytes
  have hr := B.returns
  have hts := atoms_spec (ws := wsL_add) B.pre
  have hown : s.vm.findClass RL = some m.cls := findClass_of_methodNamed B.named
  have hlocks := B.notSynchronized
  have hS : va_S (Az g) s.heap s.heap [] := va_S.rf
  have hl := lv_entry ([.ref (gA g 0), .int kind, .int name, .int ver, .int mark, .int tr]) (n := 7) (Nat.le_of_ble_eq_true rfl)
  rw [lg_entry_eq]
  generalize (lg_sl ([.ref (gA g 0), .int kind, .int name, .int ver, .int mark, .int tr]) ++ List.replicate (7 - (lg_sl ([.ref (gA g 0), .int kind, .int name, .int ver, .int mark, .int tr])).length) Slot.unset).toArray = ls at hl ⊢
  have hl : lv_has ls 7 [(0, .ref (gA g 0)), (1, .int kind), (2, .int name), (3, .int ver), (4, .int mark), (5, .int tr)] := hl
  have htab := vx_table (x := yL_add) B (hts (.codeWith yL_add cL_add 7 (some .int) [(0, 11, 12, 13), (0, 11, 17, 15)] ) (by exact List.mem_cons_self))
  refine lv_aload_n hx hb dL_add_0 rfl (lv_at hl 0 rfl) ?_
  refine lv_iload_n hx hb dL_add_1 rfl (lv_at hl 1 rfl) ?_
  refine lv_iload_n hx hb dL_add_2 rfl (lv_at hl 2 rfl) ?_
  refine lv_iload_n hx hb dL_add_3 rfl (lv_at hl 3 rfl) ?_
  refine lv_iload hx hb dL_add_4 (lv_at hl 4 rfl) ?_
  refine lv_iload hx hb dL_add_6 (lv_at hl 5 rfl) ?_
  refine vx_calli (vx_runV (As := [.int kind, .int name, .int ver, .int mark, .int tr]) (rest := []) ⟨hx, hb, hml, hown, hts⟩ (mtX2_add l hfl g σ μ o kind name ver mark tr) (cwV 5 hts gL_add_X2_add rfl rfl rfl (by decide +kernel) ⟨Nat.le_of_ble_eq_true rfl, Nat.le_of_ble_eq_true rfl⟩) ⟨PW.blind, rcB hC hW, fun U hU hW9 => ⟨rfl, PW.at hC hS hW U hU hW9⟩⟩ rfl rfl hl.1 rfl (lv_room (Nat.le_of_ble_eq_true rfl)) dL_add_8 ⟨Nat.le_of_ble_eq_true rfl, Nat.le_of_ble_eq_true rfl⟩) hS (fun _ _ h => h) (fun _ h => h) (fun _ _ h => h) (fun E9 ce q9 u_3 t H locs ht hvm hpx hbx hz9 hk9 hS hce hcv hcl => ?_) (fun r_2 u_3 t H locs ht hvm h_1 hW hz9 hk9 hS => ?_)
  · skip
    obtain ⟨hbq, hbw⟩ := hbx
    try dsimp only at hbq
    replace hbw : Wd g σ μ o H := by rw [← ht]; exact hbw
    rcases hbq with hbq | hbq
    · skip
      obtain ⟨rfl, hk9⟩ := hbq
      exact absurd (hk.symm.trans hk9) (by decide)
    · skip
      obtain ⟨rfl, hk9⟩ := hbq
      exact absurd (hk.symm.trans hk9) (by decide)
  · skip
    replace hW : Wd g ((upd σ.1 0 (σ.1 0 + 1), up2 σ.2.1 u_3 (flE (σ.2.1 u_3) (σ.1 0) kind name ver mark tr), σ.2.2)) μ o H := by rw [← ht]; exact hW
    try dsimp only at h_1
    obtain rfl : u_3 = u0 := Option.some.inj (h_1.2.1.symm.trans hu)
    refine W.widen (k := 1) (n := 6) (Nat.le_of_ble_eq_true rfl) (Nat.le_of_ble_eq_true rfl) ?_
    exact W.iret (v := r_2) hx hb hr (fun t ht hW9 => ⟨⟨_, (), rfl, h_1.2.2, by first | (rw [ht]; exact hW) | (dsimp only; rw [ht]; exact hW)⟩, hS.F ht⟩) hS.2.2 dL_add_11
