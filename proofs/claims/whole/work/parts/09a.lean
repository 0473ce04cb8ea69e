set_option maxHeartbeats 4000000 in
set_option maxRecDepth 100000 in
theorem mtL_add (l : Launch) (g : Ge) (σ : Sg) (μ : Mg) (o : Nat → Int64) (hfl : l.stackTraces = false) (kind name ver mark tr : Int32) : Met l yL_add wsL_add ({ frames := 7, cells := 1, slots := 6, locals := 116 } : Room) (va_Pc [.ref (gA g 0), .int kind, .int name, .int ver, .int mark, .int tr, .ref (gA g 12)] (PW g σ μ o)) (va_Qi (S := Option (Int32 × (Nat))) (xQ (kAdd σ kind name ver mark tr) (fun r u => kAdd σ kind name ver mark tr = 0 ∧ fs (frP σ.2.1) 16 = some u ∧ r = σ.1 0)) (xB (fun t => Wd g σ μ o t.heap) (fun r u t => Wd g (upd σ.1 0 (σ.1 0 + 1), up2 σ.2.1 u (flE (σ.2.1 u) (σ.1 0) kind name ver mark tr), σ.2.2) μ (vp_updL o 0 (r.toInt64)) t.heap)) (Az g)) 1 6 (Az g) := by
  refine va_MetW (cc := cL_add) (maxL := 8) (ret := (some .int)) (by decide) rfl ?_
  intro p e s m args below meth c s₁ B hml hv
  obtain ⟨rfl, hC, hW⟩ := hv
  have hx := B.exec
  have hb := B.bytes
  have hr := B.returns
  have hts := atoms_spec (ws := wsL_add) B.pre
  have hown : s.vm.findClass RL = some m.cls := findClass_of_methodNamed B.named
  have hlocks := B.notSynchronized
  have hS : va_S (Az g) s.heap s.heap [] := va_S.rf
  have hl := lv_entry ([.ref (gA g 0), .int kind, .int name, .int ver, .int mark, .int tr, .ref (gA g 12)]) (n := 8) (Nat.le_of_ble_eq_true rfl)
  rw [lg_entry_eq]
  generalize (lg_sl ([.ref (gA g 0), .int kind, .int name, .int ver, .int mark, .int tr, .ref (gA g 12)]) ++ List.replicate (8 - (lg_sl ([.ref (gA g 0), .int kind, .int name, .int ver, .int mark, .int tr, .ref (gA g 12)])).length) Slot.unset).toArray = ls at hl ⊢
  have hl : lv_has ls 8 [(0, .ref (gA g 0)), (1, .int kind), (2, .int name), (3, .int ver), (4, .int mark), (5, .int tr), (6, .ref (gA g 12))] := hl
  have htab := vx_table (x := yL_add) B (hts (.codeWith yL_add cL_add 8 (some .int) [(0, 16, 19, 13), (0, 16, 23, 15)]) (by exact List.mem_cons_self))
  refine lv_aload hx hb dL_add_0 (lv_at hl 6 rfl) ?_
  refine lv_iconst (v := 0) hx hb dL_add_2 (by decide) ?_
  refine lv_aload_n hx hb dL_add_3 rfl (lv_at hl 0 rfl) ?_
  refine lv_iload_n hx hb dL_add_4 rfl (lv_at hl 1 rfl) ?_
  refine lv_iload_n hx hb dL_add_5 rfl (lv_at hl 2 rfl) ?_
  refine lv_iload_n hx hb dL_add_6 rfl (lv_at hl 3 rfl) ?_
  refine lv_iload hx hb dL_add_7 (lv_at hl 4 rfl) ?_
  refine lv_iload hx hb dL_add_9 (lv_at hl 5 rfl) ?_
  refine vx_calli (vx_runV (As := [.int kind, .int name, .int ver, .int mark, .int tr]) (rest := [.int 0, .ref (gA g 12)]) ⟨hx, hb, hml, hown, hts⟩ (mtX2_add l hfl g σ μ o kind name ver mark tr) (cwV 5 hts gL_add_X2_add rfl rfl rfl (by decide +kernel) ⟨Nat.le_of_ble_eq_true rfl, Nat.le_of_ble_eq_true rfl⟩) ⟨PW.blind, rcB hC hW, fun U hU hW9 => ⟨rfl, PW.at hC hS hW U hU hW9⟩⟩ rfl rfl hl.1 rfl (lv_room (Nat.le_of_ble_eq_true rfl)) dL_add_11 ⟨Nat.le_of_ble_eq_true rfl, Nat.le_of_ble_eq_true rfl⟩) hS (fun _ _ h => h) (fun _ h => h) (fun _ _ h => h) (fun E9 ce q9 u_3 t H locs ht hvm hpx hbx hz9 hk9 hS hce hcv hcl => ?_) (fun r_2 u_3 t H locs ht hvm h_1 hW hz9 hk9 hS => ?_)
  · skip
    obtain ⟨hbq, hbw⟩ := hbx
    try dsimp only at hbq
    replace hbw : Wd g σ μ o H := by rw [← ht]; exact hbw
    rcases hbq with hbq | hbq
    · skip
      obtain ⟨rfl, hk9⟩ := hbq
      refine vx_catch (own := RL) (name := "java/lang/IllegalArgumentException") hown (tableOf []) ⟨0, 16, 19, 13⟩ (tableOf [(0, 16, 23, 15)]) (htab.trans rfl) (fun z hz => absurd hz List.not_mem_nil) (by decide) (by decide) (hts (.classLink RL 13 "java/lang/IllegalArgumentException") (by decide +kernel)) (cast_w (E := xIA) hC.2.1 (by decide +kernel) (.castable xIA xIA) (by decide +kernel)) hce hcv hcl ?_
      have hW := hbw
      refine lv_astore (lv' := [(7, .ref q9), (0, .ref (gA g 0)), (1, .int kind), (2, .int name), (3, .int ver), (4, .int mark), (5, .int tr), (6, .ref (gA g 12))]) hx hb dL_add_19 hl (by decide) rfl (fun ls hl => ?_)
      refine lv_iconst (v := 1) hx hb dL_add_21 (by decide) ?_
      refine W.widen (k := 1) (n := 6) (Nat.le_of_ble_eq_true rfl) (Nat.le_of_ble_eq_true rfl) ?_
      exact W.iret (v := 1) hx hb hr (fun t ht hW9 => ⟨⟨_, none, rfl, xQ_n (by decide) hk9, by first | (dsimp only [xB]; rw [ht]; exact hW) | (show Wd _ _ _ _ _; rw [ht]; exact hW)⟩, hS.F ht⟩) hS.2.2 dL_add_22
    · skip
      obtain ⟨rfl, hk9⟩ := hbq
      refine vx_catch (own := RL) (name := "java/lang/IllegalStateException") hown (tableOf [(0, 16, 19, 13)]) ⟨0, 16, 23, 15⟩ (tableOf []) (htab.trans rfl) (List.forall_mem_cons.mpr ⟨Or.inr ⟨by decide, "java/lang/IllegalArgumentException", hts (.classLink RL 13 "java/lang/IllegalArgumentException") (by decide +kernel), hC.2.1.2.2.2 (xIS, xIA) (by decide +kernel)⟩, (fun z hz => absurd hz List.not_mem_nil)⟩) (by decide) (by decide) (hts (.classLink RL 15 "java/lang/IllegalStateException") (by decide +kernel)) (cast_w (E := xIS) hC.2.1 (by decide +kernel) (.castable xIS xIS) (by decide +kernel)) hce hcv hcl ?_
      have hW := hbw
      refine lv_astore (lv' := [(7, .ref q9), (0, .ref (gA g 0)), (1, .int kind), (2, .int name), (3, .int ver), (4, .int mark), (5, .int tr), (6, .ref (gA g 12))]) hx hb dL_add_23 hl (by decide) rfl (fun ls hl => ?_)
      refine lv_iconst (v := 2) hx hb dL_add_25 (by decide) ?_
      refine W.widen (k := 1) (n := 6) (Nat.le_of_ble_eq_true rfl) (Nat.le_of_ble_eq_true rfl) ?_
      exact W.iret (v := 2) hx hb hr (fun t ht hW9 => ⟨⟨_, none, rfl, xQ_n (by decide) hk9, by first | (dsimp only [xB]; rw [ht]; exact hW) | (show Wd _ _ _ _ _; rw [ht]; exact hW)⟩, hS.F ht⟩) hS.2.2 dL_add_26
  · skip
    replace hW : Wd g ((upd σ.1 0 (σ.1 0 + 1), up2 σ.2.1 u_3 (flE (σ.2.1 u_3) (σ.1 0) kind name ver mark tr), σ.2.2)) μ o H := by rw [← ht]; exact hW
    try dsimp only at h_1
    refine lv_i2l hx hb dL_add_14 rfl ?_
    refine oSt hx hb hC hS hW ((r_2 : Int32).toInt64) dL_add_15 (fun H locs hW hS => ?_)
    refine lv_goto (tgt := 27) hx hb dL_add_16 (by decide) ?_
    refine lv_iconst (v := 0) hx hb dL_add_27 (by decide) ?_
    refine W.widen (k := 1) (n := 6) (Nat.le_of_ble_eq_true rfl) (Nat.le_of_ble_eq_true rfl) ?_
    exact W.iret (v := 0) hx hb hr (fun t ht hW9 => ⟨⟨_, (some (r_2, u_3)), rfl, xQ_s rfl h_1, by first | (dsimp only [xB]; rw [ht]; exact hW) | (show Wd _ _ _ _ _; rw [ht]; exact hW)⟩, hS.F ht⟩) hS.2.2 dL_add_28
set_option maxHeartbeats 4000000 in
set_option maxRecDepth 100000 in
theorem mtL_remove (l : Launch) (g : Ge) (σ : Sg) (μ : Mg) (o : Nat → Int64) (hfl : l.stackTraces = false) (n : Int32) : Met l yL_remove wsL_remove ({ frames := 8, cells := 1, slots := 6, locals := 133 } : Room) (va_Pc [.ref (gA g 0), .int n, .ref (gA g 12)] (PW g σ μ o)) (va_Qi (S := Option (Int32 × (Nat))) (xQ (kRem σ n) (fun r u => kRem σ n = 0 ∧ fs (pN σ.2.1 n) 16 = some u ∧ r = nI (ct (thr (up2 σ.2.1 u (upd (σ.2.1 u) 0 0))) 16))) (xB (fun t => Wd g σ μ o t.heap) (fun r u t => Wd g (σ.1, up2 σ.2.1 u (upd (σ.2.1 u) 0 0), σ.2.2) μ (vp_updL o 0 (r.toInt64)) t.heap)) (Az g)) 1 6 (Az g) := by
  refine va_MetW (cc := cL_remove) (maxL := 4) (ret := (some .int)) (by decide) rfl ?_
  intro p e s m args below meth c s₁ B hml hv
  obtain ⟨rfl, hC, hW⟩ := hv
  have hx := B.exec
  have hb := B.bytes
  have hr := B.returns
  have hts := atoms_spec (ws := wsL_remove) B.pre
  have hown : s.vm.findClass RL = some m.cls := findClass_of_methodNamed B.named
  have hlocks := B.notSynchronized
  have hS : va_S (Az g) s.heap s.heap [] := va_S.rf
  have hl := lv_entry ([.ref (gA g 0), .int n, .ref (gA g 12)]) (n := 4) (Nat.le_of_ble_eq_true rfl)
  rw [lg_entry_eq]
  generalize (lg_sl ([.ref (gA g 0), .int n, .ref (gA g 12)]) ++ List.replicate (4 - (lg_sl ([.ref (gA g 0), .int n, .ref (gA g 12)])).length) Slot.unset).toArray = ls at hl ⊢
  have hl : lv_has ls 4 [(0, .ref (gA g 0)), (1, .int n), (2, .ref (gA g 12))] := hl
  have htab := vx_table (x := yL_remove) B (hts (.codeWith yL_remove cL_remove 4 (some .int) [(0, 9, 12, 21)]) (by exact List.mem_cons_self))
  refine lv_aload_n hx hb dL_remove_0 rfl (lv_at hl 2 rfl) ?_
  refine lv_iconst (v := 0) hx hb dL_remove_1 (by decide) ?_
  refine lv_aload_n hx hb dL_remove_2 rfl (lv_at hl 0 rfl) ?_
  refine lv_iload_n hx hb dL_remove_3 rfl (lv_at hl 1 rfl) ?_
  refine vx_calli (vx_runV (As := [.int n]) (rest := [.int 0, .ref (gA g 12)]) ⟨hx, hb, hml, hown, hts⟩ (mtX2_remove l hfl g σ μ o n) (cwV 1 hts gL_remove_X2_remove rfl rfl rfl (by decide +kernel) ⟨Nat.le_of_ble_eq_true rfl, Nat.le_of_ble_eq_true rfl⟩) ⟨PW.blind, rcB hC hW, fun U hU hW9 => ⟨rfl, PW.at hC hS hW U hU hW9⟩⟩ rfl rfl hl.1 rfl (lv_room (Nat.le_of_ble_eq_true rfl)) dL_remove_4 ⟨Nat.le_of_ble_eq_true rfl, Nat.le_of_ble_eq_true rfl⟩) hS (fun _ _ h => h) (fun _ h => h) (fun _ _ h => h) (fun E9 ce q9 u_3 t H locs ht hvm hpx hbx hz9 hk9 hS hce hcv hcl => ?_) (fun r_2 u_3 t H locs ht hvm h_1 hW hz9 hk9 hS => ?_)
  · skip
    obtain ⟨hbq, hbw⟩ := hbx
    try dsimp only at hbq
    replace hbw : Wd g σ μ o H := by rw [← ht]; exact hbw
    obtain ⟨rfl, hk9⟩ := hbq
    refine vx_catch (own := RL) (name := "java/lang/IndexOutOfBoundsException") hown (tableOf []) ⟨0, 9, 12, 21⟩ (tableOf []) (htab.trans rfl) (fun z hz => absurd hz List.not_mem_nil) (by decide) (by decide) (hts (.classLink RL 21 "java/lang/IndexOutOfBoundsException") (by decide +kernel)) (cast_w (E := xIO) hC.2.1 (by decide +kernel) (.castable xIO xIO) (by decide +kernel)) hce hcv hcl ?_
    have hW := hbw
    refine lv_astore_n (lv' := [(3, .ref q9), (0, .ref (gA g 0)), (1, .int n), (2, .ref (gA g 12))]) hx hb dL_remove_12 rfl hl (by decide) rfl (fun ls hl => ?_)
    refine lv_iconst (v := 1) hx hb dL_remove_13 (by decide) ?_
    refine W.widen (k := 1) (n := 6) (Nat.le_of_ble_eq_true rfl) (Nat.le_of_ble_eq_true rfl) ?_
    exact W.iret (v := 1) hx hb hr (fun t ht hW9 => ⟨⟨_, none, rfl, xQ_n (by decide) hk9, by first | (dsimp only [xB]; rw [ht]; exact hW) | (show Wd _ _ _ _ _; rw [ht]; exact hW)⟩, hS.F ht⟩) hS.2.2 dL_remove_14
  · skip
    replace hW : Wd g ((σ.1, up2 σ.2.1 u_3 (upd (σ.2.1 u_3) 0 0), σ.2.2)) μ o H := by rw [← ht]; exact hW
    try dsimp only at h_1
    refine lv_i2l hx hb dL_remove_7 rfl ?_
    refine oSt hx hb hC hS hW ((r_2 : Int32).toInt64) dL_remove_8 (fun H locs hW hS => ?_)
    refine lv_goto (tgt := 15) hx hb dL_remove_9 (by decide) ?_
    refine lv_iconst (v := 0) hx hb dL_remove_15 (by decide) ?_
    refine W.widen (k := 1) (n := 6) (Nat.le_of_ble_eq_true rfl) (Nat.le_of_ble_eq_true rfl) ?_
    exact W.iret (v := 0) hx hb hr (fun t ht hW9 => ⟨⟨_, (some (r_2, u_3)), rfl, xQ_s rfl h_1, by first | (dsimp only [xB]; rw [ht]; exact hW) | (show Wd _ _ _ _ _; rw [ht]; exact hW)⟩, hS.F ht⟩) hS.2.2 dL_remove_16
set_option maxHeartbeats 4000000 in
set_option maxRecDepth 100000 in
theorem mtL_edit (l : Launch) (g : Ge) (σ : Sg) (μ : Mg) (o : Nat → Int64) (hfl : l.stackTraces = false) (n opt : Int32) : Met l yL_edit wsL_edit ({ frames := 8, cells := 3, slots := 18, locals := 136 } : Room) (va_Pc [.ref (gA g 0), .int n, .int opt, .ref (gA g 12)] (PW g σ μ o)) (va_Qi (S := Option (Int32 × (Nat))) (xQ (kEd σ n opt) (fun r u => kEd σ n opt = 0 ∧ fs (pN σ.2.1 n) 16 = some u ∧ r = σ.2.1 u 6)) (xB (fun t => Wd g σ μ o t.heap) (fun r u t => Wd g (σ.1, up2 σ.2.1 u (upd (σ.2.1 u) 6 opt), σ.2.2) μ (vp_updL o 0 (r.toInt64)) t.heap)) (Az g)) 3 18 (Az g) := by
  refine va_MetW (cc := cL_edit) (maxL := 5) (ret := (some .int)) (by decide) rfl ?_
  intro p e s m args below meth c s₁ B hml hv
  obtain ⟨rfl, hC, hW⟩ := hv
  have hx := B.exec
  have hb := B.bytes
  have hr := B.returns
  have hts := atoms_spec (ws := wsL_edit) B.pre
  have hown : s.vm.findClass RL = some m.cls := findClass_of_methodNamed B.named
  have hlocks := B.notSynchronized
  have hS : va_S (Az g) s.heap s.heap [] := va_S.rf
  have hl := lv_entry ([.ref (gA g 0), .int n, .int opt, .ref (gA g 12)]) (n := 5) (Nat.le_of_ble_eq_true rfl)
  rw [lg_entry_eq]
  generalize (lg_sl ([.ref (gA g 0), .int n, .int opt, .ref (gA g 12)]) ++ List.replicate (5 - (lg_sl ([.ref (gA g 0), .int n, .int opt, .ref (gA g 12)])).length) Slot.unset).toArray = ls at hl ⊢
  have hl : lv_has ls 5 [(0, .ref (gA g 0)), (1, .int n), (2, .int opt), (3, .ref (gA g 12))] := hl
  have htab := vx_table (x := yL_edit) B (hts (.codeWith yL_edit cL_edit 5 (some .int) [(0, 10, 13, 21), (0, 10, 17, 13), (0, 10, 21, 15)]) (by exact List.mem_cons_self))
  refine lv_aload_n hx hb dL_edit_0 rfl (lv_at hl 3 rfl) ?_
  refine lv_iconst (v := 0) hx hb dL_edit_1 (by decide) ?_
  refine lv_aload_n hx hb dL_edit_2 rfl (lv_at hl 0 rfl) ?_
  refine lv_iload_n hx hb dL_edit_3 rfl (lv_at hl 1 rfl) ?_
  refine lv_iload_n hx hb dL_edit_4 rfl (lv_at hl 2 rfl) ?_
  refine vx_calli (vx_runV (As := [.int n, .int opt]) (rest := [.int 0, .ref (gA g 12)]) ⟨hx, hb, hml, hown, hts⟩ (mtX2_edit l hfl g σ μ o n opt) (cwV 2 hts gL_edit_X2_edit rfl rfl rfl (by decide +kernel) ⟨Nat.le_of_ble_eq_true rfl, Nat.le_of_ble_eq_true rfl⟩) ⟨PW.blind, rcB hC hW, fun U hU hW9 => ⟨rfl, PW.at hC hS hW U hU hW9⟩⟩ rfl rfl hl.1 rfl (lv_room (Nat.le_of_ble_eq_true rfl)) dL_edit_5 ⟨Nat.le_of_ble_eq_true rfl, Nat.le_of_ble_eq_true rfl⟩) hS (fun _ _ h => h) (fun _ h => h) (fun _ _ h => h) (fun E9 ce q9 u_3 t H locs ht hvm hpx hbx hz9 hk9 hS hce hcv hcl => ?_) (fun r_2 u_3 t H locs ht hvm h_1 hW hz9 hk9 hS => ?_)
  · skip
    obtain ⟨hbq, hbw⟩ := hbx
    try dsimp only at hbq
    replace hbw : Wd g σ μ o H := by rw [← ht]; exact hbw
    rcases hbq with hbq | hbq | hbq
    · skip
      obtain ⟨rfl, hk9⟩ := hbq
      refine vx_catch (own := RL) (name := "java/lang/IndexOutOfBoundsException") hown (tableOf []) ⟨0, 10, 13, 21⟩ (tableOf [(0, 10, 17, 13), (0, 10, 21, 15)]) (htab.trans rfl) (fun z hz => absurd hz List.not_mem_nil) (by decide) (by decide) (hts (.classLink RL 21 "java/lang/IndexOutOfBoundsException") (by decide +kernel)) (cast_w (E := xIO) hC.2.1 (by decide +kernel) (.castable xIO xIO) (by decide +kernel)) hce hcv hcl ?_
      have hW := hbw
      refine lv_astore (lv' := [(4, .ref q9), (0, .ref (gA g 0)), (1, .int n), (2, .int opt), (3, .ref (gA g 12))]) hx hb dL_edit_13 hl (by decide) rfl (fun ls hl => ?_)
      refine lv_iconst (v := 1) hx hb dL_edit_15 (by decide) ?_
      refine W.widen (k := 3) (n := 18) (Nat.le_of_ble_eq_true rfl) (Nat.le_of_ble_eq_true rfl) ?_
      exact W.iret (v := 1) hx hb hr (fun t ht hW9 => ⟨⟨_, none, rfl, xQ_n (by decide) hk9, by first | (dsimp only [xB]; rw [ht]; exact hW) | (show Wd _ _ _ _ _; rw [ht]; exact hW)⟩, hS.F ht⟩) hS.2.2 dL_edit_16
    · skip
      obtain ⟨rfl, hk9⟩ := hbq
      refine vx_catch (own := RL) (name := "java/lang/IllegalArgumentException") hown (tableOf [(0, 10, 13, 21)]) ⟨0, 10, 17, 13⟩ (tableOf [(0, 10, 21, 15)]) (htab.trans rfl) (List.forall_mem_cons.mpr ⟨Or.inr ⟨by decide, "java/lang/IndexOutOfBoundsException", hts (.classLink RL 21 "java/lang/IndexOutOfBoundsException") (by decide +kernel), hC.2.1.2.2.2 (xIA, xIO) (by decide +kernel)⟩, (fun z hz => absurd hz List.not_mem_nil)⟩) (by decide) (by decide) (hts (.classLink RL 13 "java/lang/IllegalArgumentException") (by decide +kernel)) (cast_w (E := xIA) hC.2.1 (by decide +kernel) (.castable xIA xIA) (by decide +kernel)) hce hcv hcl ?_
      have hW := hbw
      refine lv_astore (lv' := [(4, .ref q9), (0, .ref (gA g 0)), (1, .int n), (2, .int opt), (3, .ref (gA g 12))]) hx hb dL_edit_17 hl (by decide) rfl (fun ls hl => ?_)
      refine lv_iconst (v := 2) hx hb dL_edit_19 (by decide) ?_
      refine W.widen (k := 3) (n := 18) (Nat.le_of_ble_eq_true rfl) (Nat.le_of_ble_eq_true rfl) ?_
      exact W.iret (v := 2) hx hb hr (fun t ht hW9 => ⟨⟨_, none, rfl, xQ_n (by decide) hk9, by first | (dsimp only [xB]; rw [ht]; exact hW) | (show Wd _ _ _ _ _; rw [ht]; exact hW)⟩, hS.F ht⟩) hS.2.2 dL_edit_20
    · skip
      obtain ⟨rfl, hk9⟩ := hbq
      refine vx_catch (own := RL) (name := "java/lang/IllegalStateException") hown (tableOf [(0, 10, 13, 21), (0, 10, 17, 13)]) ⟨0, 10, 21, 15⟩ (tableOf []) (htab.trans rfl) (List.forall_mem_cons.mpr ⟨Or.inr ⟨by decide, "java/lang/IndexOutOfBoundsException", hts (.classLink RL 21 "java/lang/IndexOutOfBoundsException") (by decide +kernel), hC.2.1.2.2.2 (xIS, xIO) (by decide +kernel)⟩, (List.forall_mem_cons.mpr ⟨Or.inr ⟨by decide, "java/lang/IllegalArgumentException", hts (.classLink RL 13 "java/lang/IllegalArgumentException") (by decide +kernel), hC.2.1.2.2.2 (xIS, xIA) (by decide +kernel)⟩, (fun z hz => absurd hz List.not_mem_nil)⟩)⟩) (by decide) (by decide) (hts (.classLink RL 15 "java/lang/IllegalStateException") (by decide +kernel)) (cast_w (E := xIS) hC.2.1 (by decide +kernel) (.castable xIS xIS) (by decide +kernel)) hce hcv hcl ?_
      have hW := hbw
      refine lv_astore (lv' := [(4, .ref q9), (0, .ref (gA g 0)), (1, .int n), (2, .int opt), (3, .ref (gA g 12))]) hx hb dL_edit_21 hl (by decide) rfl (fun ls hl => ?_)
      refine lv_iconst (v := 3) hx hb dL_edit_23 (by decide) ?_
      refine W.widen (k := 3) (n := 18) (Nat.le_of_ble_eq_true rfl) (Nat.le_of_ble_eq_true rfl) ?_
      exact W.iret (v := 3) hx hb hr (fun t ht hW9 => ⟨⟨_, none, rfl, xQ_n (by decide) hk9, by first | (dsimp only [xB]; rw [ht]; exact hW) | (show Wd _ _ _ _ _; rw [ht]; exact hW)⟩, hS.F ht⟩) hS.2.2 dL_edit_24
  · skip
    replace hW : Wd g ((σ.1, up2 σ.2.1 u_3 (upd (σ.2.1 u_3) 6 opt), σ.2.2)) μ o H := by rw [← ht]; exact hW
    try dsimp only at h_1
    refine lv_i2l hx hb dL_edit_8 rfl ?_
    refine oSt hx hb hC hS hW ((r_2 : Int32).toInt64) dL_edit_9 (fun H locs hW hS => ?_)
    refine lv_goto (tgt := 25) hx hb dL_edit_10 (by decide) ?_
    refine lv_iconst (v := 0) hx hb dL_edit_25 (by decide) ?_
    refine W.widen (k := 3) (n := 18) (Nat.le_of_ble_eq_true rfl) (Nat.le_of_ble_eq_true rfl) ?_
    exact W.iret (v := 0) hx hb hr (fun t ht hW9 => ⟨⟨_, (some (r_2, u_3)), rfl, xQ_s rfl h_1, by first | (dsimp only [xB]; rw [ht]; exact hW) | (show Wd _ _ _ _ _; rw [ht]; exact hW)⟩, hS.F ht⟩) hS.2.2 dL_edit_26
set_option maxHeartbeats 4000000 in
set_option maxRecDepth 100000 in
theorem mtL_choose (l : Launch) (g : Ge) (σ : Sg) (μ : Mg) (o : Nat → Int64) (hfl : l.stackTraces = false) (n : Int32) : Met l yL_choose wsL_choose ({ frames := 8, cells := 2, slots := 12, locals := 133 } : Room) (va_Pc [.ref (gA g 0), .int n, .ref (gA g 12)] (PW g σ μ o)) (va_Qi (S := Option (Int32 × (Unit))) (xQ (kCh σ n) (fun r _ => kCh σ n = 0 ∧ r = σ.1 1)) (xB (fun t => Wd g σ μ o t.heap) (fun r _ t => Wd g (upd σ.1 1 n, σ.2) μ (vp_updL o 0 (r.toInt64)) t.heap)) (Az g)) 2 12 (Az g) := by
  refine va_MetW (cc := cL_choose) (maxL := 4) (ret := (some .int)) (by decide) rfl ?_
  intro p e s m args below meth c s₁ B hml hv
  obtain ⟨rfl, hC, hW⟩ := hv
  have hx := B.exec
  have hb := B.bytes
  have hr := B.returns
  have hts := atoms_spec (ws := wsL_choose) B.pre
  have hown : s.vm.findClass RL = some m.cls := findClass_of_methodNamed B.named
  have hlocks := B.notSynchronized
  have hS : va_S (Az g) s.heap s.heap [] := va_S.rf
  have hl := lv_entry ([.ref (gA g 0), .int n, .ref (gA g 12)]) (n := 4) (Nat.le_of_ble_eq_true rfl)
  rw [lg_entry_eq]
  generalize (lg_sl ([.ref (gA g 0), .int n, .ref (gA g 12)]) ++ List.replicate (4 - (lg_sl ([.ref (gA g 0), .int n, .ref (gA g 12)])).length) Slot.unset).toArray = ls at hl ⊢
  have hl : lv_has ls 4 [(0, .ref (gA g 0)), (1, .int n), (2, .ref (gA g 12))] := hl
  have htab := vx_table (x := yL_choose) B (hts (.codeWith yL_choose cL_choose 4 (some .int) [(0, 9, 12, 21), (0, 9, 15, 15)]) (by exact List.mem_cons_self))
  refine lv_aload_n hx hb dL_choose_0 rfl (lv_at hl 2 rfl) ?_
  refine lv_iconst (v := 0) hx hb dL_choose_1 (by decide) ?_
  refine lv_aload_n hx hb dL_choose_2 rfl (lv_at hl 0 rfl) ?_
  refine lv_iload_n hx hb dL_choose_3 rfl (lv_at hl 1 rfl) ?_
  refine vx_calli (vx_runV (As := [.int n]) (rest := [.int 0, .ref (gA g 12)]) ⟨hx, hb, hml, hown, hts⟩ (mtX2_choose l hfl g σ μ o n) (cwV 1 hts gL_choose_X2_choose rfl rfl rfl (by decide +kernel) ⟨Nat.le_of_ble_eq_true rfl, Nat.le_of_ble_eq_true rfl⟩) ⟨PW.blind, rcB hC hW, fun U hU hW9 => ⟨rfl, PW.at hC hS hW U hU hW9⟩⟩ rfl rfl hl.1 rfl (lv_room (Nat.le_of_ble_eq_true rfl)) dL_choose_4 ⟨Nat.le_of_ble_eq_true rfl, Nat.le_of_ble_eq_true rfl⟩) hS (fun _ _ h => h) (fun _ h => h) (fun _ _ h => h) (fun E9 ce q9 u_3 t H locs ht hvm hpx hbx hz9 hk9 hS hce hcv hcl => ?_) (fun r_2 u_3 t H locs ht hvm h_1 hW hz9 hk9 hS => ?_)
  · skip
    obtain ⟨hbq, hbw⟩ := hbx
    try dsimp only at hbq
    replace hbw : Wd g σ μ o H := by rw [← ht]; exact hbw
    rcases hbq with hbq | hbq
    · skip
      obtain ⟨rfl, hk9⟩ := hbq
      refine vx_catch (own := RL) (name := "java/lang/IndexOutOfBoundsException") hown (tableOf []) ⟨0, 9, 12, 21⟩ (tableOf [(0, 9, 15, 15)]) (htab.trans rfl) (fun z hz => absurd hz List.not_mem_nil) (by decide) (by decide) (hts (.classLink RL 21 "java/lang/IndexOutOfBoundsException") (by decide +kernel)) (cast_w (E := xIO) hC.2.1 (by decide +kernel) (.castable xIO xIO) (by decide +kernel)) hce hcv hcl ?_
      have hW := hbw
      refine lv_astore_n (lv' := [(3, .ref q9), (0, .ref (gA g 0)), (1, .int n), (2, .ref (gA g 12))]) hx hb dL_choose_12 rfl hl (by decide) rfl (fun ls hl => ?_)
      refine lv_iconst (v := 1) hx hb dL_choose_13 (by decide) ?_
      refine W.widen (k := 2) (n := 12) (Nat.le_of_ble_eq_true rfl) (Nat.le_of_ble_eq_true rfl) ?_
      exact W.iret (v := 1) hx hb hr (fun t ht hW9 => ⟨⟨_, none, rfl, xQ_n (by decide) hk9, by first | (dsimp only [xB]; rw [ht]; exact hW) | (show Wd _ _ _ _ _; rw [ht]; exact hW)⟩, hS.F ht⟩) hS.2.2 dL_choose_14
    · skip
      obtain ⟨rfl, hk9⟩ := hbq
      refine vx_catch (own := RL) (name := "java/lang/IllegalStateException") hown (tableOf [(0, 9, 12, 21)]) ⟨0, 9, 15, 15⟩ (tableOf []) (htab.trans rfl) (List.forall_mem_cons.mpr ⟨Or.inr ⟨by decide, "java/lang/IndexOutOfBoundsException", hts (.classLink RL 21 "java/lang/IndexOutOfBoundsException") (by decide +kernel), hC.2.1.2.2.2 (xIS, xIO) (by decide +kernel)⟩, (fun z hz => absurd hz List.not_mem_nil)⟩) (by decide) (by decide) (hts (.classLink RL 15 "java/lang/IllegalStateException") (by decide +kernel)) (cast_w (E := xIS) hC.2.1 (by decide +kernel) (.castable xIS xIS) (by decide +kernel)) hce hcv hcl ?_
      have hW := hbw
      refine lv_astore_n (lv' := [(3, .ref q9), (0, .ref (gA g 0)), (1, .int n), (2, .ref (gA g 12))]) hx hb dL_choose_15 rfl hl (by decide) rfl (fun ls hl => ?_)
      refine lv_iconst (v := 2) hx hb dL_choose_16 (by decide) ?_
      refine W.widen (k := 2) (n := 12) (Nat.le_of_ble_eq_true rfl) (Nat.le_of_ble_eq_true rfl) ?_
      exact W.iret (v := 2) hx hb hr (fun t ht hW9 => ⟨⟨_, none, rfl, xQ_n (by decide) hk9, by first | (dsimp only [xB]; rw [ht]; exact hW) | (show Wd _ _ _ _ _; rw [ht]; exact hW)⟩, hS.F ht⟩) hS.2.2 dL_choose_17
  · skip
    replace hW : Wd g ((upd σ.1 1 n, σ.2)) μ o H := by rw [← ht]; exact hW
    try dsimp only at h_1
    refine lv_i2l hx hb dL_choose_7 rfl ?_
    refine oSt hx hb hC hS hW ((r_2 : Int32).toInt64) dL_choose_8 (fun H locs hW hS => ?_)
    refine lv_goto (tgt := 18) hx hb dL_choose_9 (by decide) ?_
    refine lv_iconst (v := 0) hx hb dL_choose_18 (by decide) ?_
    refine W.widen (k := 2) (n := 12) (Nat.le_of_ble_eq_true rfl) (Nat.le_of_ble_eq_true rfl) ?_
    exact W.iret (v := 0) hx hb hr (fun t ht hW9 => ⟨⟨_, (some (r_2, u_3)), rfl, xQ_s rfl h_1, by first | (dsimp only [xB]; rw [ht]; exact hW) | (show Wd _ _ _ _ _; rw [ht]; exact hW)⟩, hS.F ht⟩) hS.2.2 dL_choose_19
set_option maxHeartbeats 4000000 in
set_option maxRecDepth 100000 in
theorem mtL_chooseOnce (l : Launch) (g : Ge) (σ : Sg) (μ : Mg) (o : Nat → Int64) (hfl : l.stackTraces = false) (n : Int32) : Met l yL_chooseOnce wsL_chooseOnce ({ frames := 8, cells := 1, slots := 6, locals := 133 } : Room) (va_Pc [.ref (gA g 0), .int n, .ref (gA g 12)] (PW g σ μ o)) (va_Qi (S := Option (Int32 × (Unit))) (xQ (kCo σ n) (fun r _ => kCo σ n = 0 ∧ r = σ.1 2)) (xB (fun t => Wd g σ μ o t.heap) (fun r _ t => Wd g (upd σ.1 2 n, σ.2) μ (vp_updL o 0 (r.toInt64)) t.heap)) (Az g)) 1 6 (Az g) := by
  refine va_MetW (cc := cL_chooseOnce) (maxL := 4) (ret := (some .int)) (by decide) rfl ?_
  intro p e s m args below meth c s₁ B hml hv
  obtain ⟨rfl, hC, hW⟩ := hv
  have hx := B.exec
  have hb := B.bytes
  have hr := B.returns
  have hts := atoms_spec (ws := wsL_chooseOnce) B.pre
  have hown : s.vm.findClass RL = some m.cls := findClass_of_methodNamed B.named
  have hlocks := B.notSynchronized
  have hS : va_S (Az g) s.heap s.heap [] := va_S.rf
  have hl := lv_entry ([.ref (gA g 0), .int n, .ref (gA g 12)]) (n := 4) (Nat.le_of_ble_eq_true rfl)
  rw [lg_entry_eq]
  generalize (lg_sl ([.ref (gA g 0), .int n, .ref (gA g 12)]) ++ List.replicate (4 - (lg_sl ([.ref (gA g 0), .int n, .ref (gA g 12)])).length) Slot.unset).toArray = ls at hl ⊢
  have hl : lv_has ls 4 [(0, .ref (gA g 0)), (1, .int n), (2, .ref (gA g 12))] := hl
  have htab := vx_table (x := yL_chooseOnce) B (hts (.codeWith yL_chooseOnce cL_chooseOnce 4 (some .int) [(0, 9, 12, 21)]) (by exact List.mem_cons_self))
  refine lv_aload_n hx hb dL_chooseOnce_0 rfl (lv_at hl 2 rfl) ?_
  refine lv_iconst (v := 0) hx hb dL_chooseOnce_1 (by decide) ?_
  refine lv_aload_n hx hb dL_chooseOnce_2 rfl (lv_at hl 0 rfl) ?_
  refine lv_iload_n hx hb dL_chooseOnce_3 rfl (lv_at hl 1 rfl) ?_
  refine vx_calli (vx_runV (As := [.int n]) (rest := [.int 0, .ref (gA g 12)]) ⟨hx, hb, hml, hown, hts⟩ (mtX2_chooseOnce l hfl g σ μ o n) (cwV 1 hts gL_chooseOnce_X2_chooseOnce rfl rfl rfl (by decide +kernel) ⟨Nat.le_of_ble_eq_true rfl, Nat.le_of_ble_eq_true rfl⟩) ⟨PW.blind, rcB hC hW, fun U hU hW9 => ⟨rfl, PW.at hC hS hW U hU hW9⟩⟩ rfl rfl hl.1 rfl (lv_room (Nat.le_of_ble_eq_true rfl)) dL_chooseOnce_4 ⟨Nat.le_of_ble_eq_true rfl, Nat.le_of_ble_eq_true rfl⟩) hS (fun _ _ h => h) (fun _ h => h) (fun _ _ h => h) (fun E9 ce q9 u_3 t H locs ht hvm hpx hbx hz9 hk9 hS hce hcv hcl => ?_) (fun r_2 u_3 t H locs ht hvm h_1 hW hz9 hk9 hS => ?_)
  · skip
    obtain ⟨hbq, hbw⟩ := hbx
    try dsimp only at hbq
    replace hbw : Wd g σ μ o H := by rw [← ht]; exact hbw
    obtain ⟨rfl, hk9⟩ := hbq
    refine vx_catch (own := RL) (name := "java/lang/IndexOutOfBoundsException") hown (tableOf []) ⟨0, 9, 12, 21⟩ (tableOf []) (htab.trans rfl) (fun z hz => absurd hz List.not_mem_nil) (by decide) (by decide) (hts (.classLink RL 21 "java/lang/IndexOutOfBoundsException") (by decide +kernel)) (cast_w (E := xIO) hC.2.1 (by decide +kernel) (.castable xIO xIO) (by decide +kernel)) hce hcv hcl ?_
    have hW := hbw
    refine lv_astore_n (lv' := [(3, .ref q9), (0, .ref (gA g 0)), (1, .int n), (2, .ref (gA g 12))]) hx hb dL_chooseOnce_12 rfl hl (by decide) rfl (fun ls hl => ?_)
    refine lv_iconst (v := 1) hx hb dL_chooseOnce_13 (by decide) ?_
    refine W.widen (k := 1) (n := 6) (Nat.le_of_ble_eq_true rfl) (Nat.le_of_ble_eq_true rfl) ?_
    exact W.iret (v := 1) hx hb hr (fun t ht hW9 => ⟨⟨_, none, rfl, xQ_n (by decide) hk9, by first | (dsimp only [xB]; rw [ht]; exact hW) | (show Wd _ _ _ _ _; rw [ht]; exact hW)⟩, hS.F ht⟩) hS.2.2 dL_chooseOnce_14
  · skip
    replace hW : Wd g ((upd σ.1 2 n, σ.2)) μ o H := by rw [← ht]; exact hW
    try dsimp only at h_1
    refine lv_i2l hx hb dL_chooseOnce_7 rfl ?_
    refine oSt hx hb hC hS hW ((r_2 : Int32).toInt64) dL_chooseOnce_8 (fun H locs hW hS => ?_)
    refine lv_goto (tgt := 15) hx hb dL_chooseOnce_9 (by decide) ?_
    refine lv_iconst (v := 0) hx hb dL_chooseOnce_15 (by decide) ?_
    refine W.widen (k := 1) (n := 6) (Nat.le_of_ble_eq_true rfl) (Nat.le_of_ble_eq_true rfl) ?_
    exact W.iret (v := 0) hx hb hr (fun t ht hW9 => ⟨⟨_, (some (r_2, u_3)), rfl, xQ_s rfl h_1, by first | (dsimp only [xB]; rw [ht]; exact hW) | (show Wd _ _ _ _ _; rw [ht]; exact hW)⟩, hS.F ht⟩) hS.2.2 dL_chooseOnce_16
