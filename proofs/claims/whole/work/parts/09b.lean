set_option maxHeartbeats 4000000 in
set_option maxRecDepth 100000 in
theorem mtL_setPattern (l : Launch) (g : Ge) (σ : Sg) (μ : Mg) (o : Nat → Int64) (hfl : l.stackTraces = false) (a b : Int32) : Met l yL_setPattern wsL_setPattern ({ frames := 8, cells := 2, slots := 12, locals := 132 } : Room) (va_Pc [.ref (gA g 0), .int a, .int b, .ref (gA g 12)] (PW g σ μ o)) (va_Qi (S := Option (Int32 × (Unit))) (xQ (kPa σ a b) (fun r _ => kPa σ a b = 0 ∧ r = nI (ct (pF (upd (upd σ.1 3 a) 4 b, σ.2)) 16))) (xB (fun t => Wd g σ μ o t.heap) (fun r _ t => Wd g (upd (upd σ.1 3 a) 4 b, σ.2) μ (vp_updL o 0 (r.toInt64)) t.heap)) (Az g)) 2 12 (Az g) := by
  refine va_MetW (cc := cL_setPattern) (maxL := 5) (ret := (some .int)) (by decide) rfl ?_
  intro p e s m args below meth c s₁ B hml hv
  obtain ⟨rfl, hC, hW⟩ := hv
  have hx := B.exec
  have hb := B.bytes
  have hr := B.returns
  have hts := atoms_spec (ws := wsL_setPattern) B.pre
  have hown : s.vm.findClass RL = some m.cls := findClass_of_methodNamed B.named
  have hlocks := B.notSynchronized
  have hS : va_S (Az g) s.heap s.heap [] := va_S.rf
  have hl := lv_entry ([.ref (gA g 0), .int a, .int b, .ref (gA g 12)]) (n := 5) (Nat.le_of_ble_eq_true rfl)
  rw [lg_entry_eq]
  generalize (lg_sl ([.ref (gA g 0), .int a, .int b, .ref (gA g 12)]) ++ List.replicate (5 - (lg_sl ([.ref (gA g 0), .int a, .int b, .ref (gA g 12)])).length) Slot.unset).toArray = ls at hl ⊢
  have hl : lv_has ls 5 [(0, .ref (gA g 0)), (1, .int a), (2, .int b), (3, .ref (gA g 12))] := hl
  have htab := vx_table (x := yL_setPattern) B (hts (.codeWith yL_setPattern cL_setPattern 5 (some .int) [(0, 10, 13, 13), (0, 10, 17, 15)]) (by exact List.mem_cons_self))
  refine lv_aload_n hx hb dL_setPattern_0 rfl (lv_at hl 3 rfl) ?_
  refine lv_iconst (v := 0) hx hb dL_setPattern_1 (by decide) ?_
  refine lv_aload_n hx hb dL_setPattern_2 rfl (lv_at hl 0 rfl) ?_
  refine lv_iload_n hx hb dL_setPattern_3 rfl (lv_at hl 1 rfl) ?_
  refine lv_iload_n hx hb dL_setPattern_4 rfl (lv_at hl 2 rfl) ?_
  refine vx_calli (vx_runV (As := [.int a, .int b]) (rest := [.int 0, .ref (gA g 12)]) ⟨hx, hb, hml, hown, hts⟩ (mtX2_setPattern l hfl g σ μ o a b) (cwV 2 hts gL_setPattern_X2_setPattern rfl rfl rfl (by decide +kernel) ⟨Nat.le_of_ble_eq_true rfl, Nat.le_of_ble_eq_true rfl⟩) ⟨PW.blind, rcB hC hW, fun U hU hW9 => ⟨rfl, PW.at hC hS hW U hU hW9⟩⟩ rfl rfl hl.1 rfl (lv_room (Nat.le_of_ble_eq_true rfl)) dL_setPattern_5 ⟨Nat.le_of_ble_eq_true rfl, Nat.le_of_ble_eq_true rfl⟩) hS (fun _ _ h => h) (fun _ h => h) (fun _ _ h => h) (fun E9 ce q9 u_3 t H locs ht hvm hpx hbx hz9 hk9 hS hce hcv hcl => ?_) (fun r_2 u_3 t H locs ht hvm h_1 hW hz9 hk9 hS => ?_)
  · skip
    obtain ⟨hbq, hbw⟩ := hbx
    try dsimp only at hbq
    replace hbw : Wd g σ μ o H := by rw [← ht]; exact hbw
    rcases hbq with hbq | hbq
    · skip
      obtain ⟨rfl, hk9⟩ := hbq
      refine vx_catch (own := RL) (name := "java/lang/IllegalArgumentException") hown (tableOf []) ⟨0, 10, 13, 13⟩ (tableOf [(0, 10, 17, 15)]) (htab.trans rfl) (fun z hz => absurd hz List.not_mem_nil) (by decide) (by decide) (hts (.classLink RL 13 "java/lang/IllegalArgumentException") (by decide +kernel)) (cast_w (E := xIA) hC.2.1 (by decide +kernel) (.castable xIA xIA) (by decide +kernel)) hce hcv hcl ?_
      have hW := hbw
      refine lv_astore (lv' := [(4, .ref q9), (0, .ref (gA g 0)), (1, .int a), (2, .int b), (3, .ref (gA g 12))]) hx hb dL_setPattern_13 hl (by decide) rfl (fun ls hl => ?_)
      refine lv_iconst (v := 1) hx hb dL_setPattern_15 (by decide) ?_
      refine W.widen (k := 2) (n := 12) (Nat.le_of_ble_eq_true rfl) (Nat.le_of_ble_eq_true rfl) ?_
      exact W.iret (v := 1) hx hb hr (fun t ht hW9 => ⟨⟨_, none, rfl, xQ_n (by decide) hk9, by first | (dsimp only [xB]; rw [ht]; exact hW) | (show Wd _ _ _ _ _; rw [ht]; exact hW)⟩, hS.F ht⟩) hS.2.2 dL_setPattern_16
    · skip
      obtain ⟨rfl, hk9⟩ := hbq
      refine vx_catch (own := RL) (name := "java/lang/IllegalStateException") hown (tableOf [(0, 10, 13, 13)]) ⟨0, 10, 17, 15⟩ (tableOf []) (htab.trans rfl) (List.forall_mem_cons.mpr ⟨Or.inr ⟨by decide, "java/lang/IllegalArgumentException", hts (.classLink RL 13 "java/lang/IllegalArgumentException") (by decide +kernel), hC.2.1.2.2.2 (xIS, xIA) (by decide +kernel)⟩, (fun z hz => absurd hz List.not_mem_nil)⟩) (by decide) (by decide) (hts (.classLink RL 15 "java/lang/IllegalStateException") (by decide +kernel)) (cast_w (E := xIS) hC.2.1 (by decide +kernel) (.castable xIS xIS) (by decide +kernel)) hce hcv hcl ?_
      have hW := hbw
      refine lv_astore (lv' := [(4, .ref q9), (0, .ref (gA g 0)), (1, .int a), (2, .int b), (3, .ref (gA g 12))]) hx hb dL_setPattern_17 hl (by decide) rfl (fun ls hl => ?_)
      refine lv_iconst (v := 2) hx hb dL_setPattern_19 (by decide) ?_
      refine W.widen (k := 2) (n := 12) (Nat.le_of_ble_eq_true rfl) (Nat.le_of_ble_eq_true rfl) ?_
      exact W.iret (v := 2) hx hb hr (fun t ht hW9 => ⟨⟨_, none, rfl, xQ_n (by decide) hk9, by first | (dsimp only [xB]; rw [ht]; exact hW) | (show Wd _ _ _ _ _; rw [ht]; exact hW)⟩, hS.F ht⟩) hS.2.2 dL_setPattern_20
  · skip
    replace hW : Wd g ((upd (upd σ.1 3 a) 4 b, σ.2)) μ o H := by rw [← ht]; exact hW
    try dsimp only at h_1
    refine lv_i2l hx hb dL_setPattern_8 rfl ?_
    refine oSt hx hb hC hS hW ((r_2 : Int32).toInt64) dL_setPattern_9 (fun H locs hW hS => ?_)
    refine lv_goto (tgt := 21) hx hb dL_setPattern_10 (by decide) ?_
    refine lv_iconst (v := 0) hx hb dL_setPattern_21 (by decide) ?_
    refine W.widen (k := 2) (n := 12) (Nat.le_of_ble_eq_true rfl) (Nat.le_of_ble_eq_true rfl) ?_
    exact W.iret (v := 0) hx hb hr (fun t ht hW9 => ⟨⟨_, (some (r_2, u_3)), rfl, xQ_s rfl h_1, by first | (dsimp only [xB]; rw [ht]; exact hW) | (show Wd _ _ _ _ _; rw [ht]; exact hW)⟩, hS.F ht⟩) hS.2.2 dL_setPattern_22
set_option maxHeartbeats 4000000 in
set_option maxRecDepth 100000 in
theorem mtL_start (l : Launch) (g : Ge) (σ : Sg) (μ : Mg) (o : Nat → Int64) (hfl : l.stackTraces = false) : Met l yL_start wsL_start ({ frames := 7, cells := 1, slots := 6, locals := 159 } : Room) (va_Pc [.ref (gA g 0), .ref (gA g 12)] (PW g σ μ o)) (va_Qi (S := Option (Int32 × (Nat))) (xQ (kSt σ) (fun r u => kSt σ = 0 ∧ nx σ = some u ∧ r = σ.2.1 u 1)) (xB (fun t => Wd g σ μ o t.heap) (fun r u t => Wd g (upd (upd (upd σ.1 6 (mz (σ.2.2.1 0) (σ.2.1 u))) 2 (-1)) 5 (σ.2.1 u 1), up2 σ.2.1 u (us1 (σ.2.1 u)), upd σ.2.2.1 3 0, σ.2.2.2) μ (vp_updL o 0 (r.toInt64)) t.heap)) (Az g)) 1 6 (Az g) := by
  refine va_MetW (cc := cL_start) (maxL := 3) (ret := (some .int)) (by decide) rfl ?_
  intro p e s m args below meth c s₁ B hml hv
  obtain ⟨rfl, hC, hW⟩ := hv
  have hx := B.exec
  have hb := B.bytes
  have hr := B.returns
  have hts := atoms_spec (ws := wsL_start) B.pre
  have hown : s.vm.findClass RL = some m.cls := findClass_of_methodNamed B.named
  have hlocks := B.notSynchronized
  have hS : va_S (Az g) s.heap s.heap [] := va_S.rf
  have hl := lv_entry ([.ref (gA g 0), .ref (gA g 12)]) (n := 3) (Nat.le_of_ble_eq_true rfl)
  rw [lg_entry_eq]
  generalize (lg_sl ([.ref (gA g 0), .ref (gA g 12)]) ++ List.replicate (3 - (lg_sl ([.ref (gA g 0), .ref (gA g 12)])).length) Slot.unset).toArray = ls at hl ⊢
  have hl : lv_has ls 3 [(0, .ref (gA g 0)), (1, .ref (gA g 12))] := hl
  have htab := vx_table (x := yL_start) B (hts (.codeWith yL_start cL_start 3 (some .int) [(0, 8, 11, 15)]) (by exact List.mem_cons_self))
  refine lv_aload_n hx hb dL_start_0 rfl (lv_at hl 1 rfl) ?_
  refine lv_iconst (v := 0) hx hb dL_start_1 (by decide) ?_
  refine lv_aload_n hx hb dL_start_2 rfl (lv_at hl 0 rfl) ?_
  refine vx_calli (vx_runV (As := []) (rest := [.int 0, .ref (gA g 12)]) ⟨hx, hb, hml, hown, hts⟩ (mtX2_start l hfl g σ μ o ) (cwV 0 hts gL_start_X2_start rfl rfl rfl (by decide +kernel) ⟨Nat.le_of_ble_eq_true rfl, Nat.le_of_ble_eq_true rfl⟩) ⟨PW.blind, rcB hC hW, fun U hU hW9 => ⟨rfl, PW.at hC hS hW U hU hW9⟩⟩ rfl rfl hl.1 rfl (lv_room (Nat.le_of_ble_eq_true rfl)) dL_start_3 ⟨Nat.le_of_ble_eq_true rfl, Nat.le_of_ble_eq_true rfl⟩) hS (fun _ _ h => h) (fun _ h => h) (fun _ _ h => h) (fun E9 ce q9 u_3 t H locs ht hvm hpx hbx hz9 hk9 hS hce hcv hcl => ?_) (fun r_2 u_3 t H locs ht hvm h_1 hW hz9 hk9 hS => ?_)
  · skip
    obtain ⟨hbq, hbw⟩ := hbx
    try dsimp only at hbq
    replace hbw : Wd g σ μ o H := by rw [← ht]; exact hbw
    obtain ⟨rfl, hk9⟩ := hbq
    refine vx_catch (own := RL) (name := "java/lang/IllegalStateException") hown (tableOf []) ⟨0, 8, 11, 15⟩ (tableOf []) (htab.trans rfl) (fun z hz => absurd hz List.not_mem_nil) (by decide) (by decide) (hts (.classLink RL 15 "java/lang/IllegalStateException") (by decide +kernel)) (cast_w (E := xIS) hC.2.1 (by decide +kernel) (.castable xIS xIS) (by decide +kernel)) hce hcv hcl ?_
    have hW := hbw
    refine lv_astore_n (lv' := [(2, .ref q9), (0, .ref (gA g 0)), (1, .ref (gA g 12))]) hx hb dL_start_11 rfl hl (by decide) rfl (fun ls hl => ?_)
    refine lv_iconst (v := 1) hx hb dL_start_12 (by decide) ?_
    refine W.widen (k := 1) (n := 6) (Nat.le_of_ble_eq_true rfl) (Nat.le_of_ble_eq_true rfl) ?_
    exact W.iret (v := 1) hx hb hr (fun t ht hW9 => ⟨⟨_, none, rfl, xQ_n (by decide) hk9, by first | (dsimp only [xB]; rw [ht]; exact hW) | (show Wd _ _ _ _ _; rw [ht]; exact hW)⟩, hS.F ht⟩) hS.2.2 dL_start_13
  · skip
    replace hW : Wd g ((upd (upd (upd σ.1 6 (mz (σ.2.2.1 0) (σ.2.1 u_3))) 2 (-1)) 5 (σ.2.1 u_3 1), up2 σ.2.1 u_3 (us1 (σ.2.1 u_3)), upd σ.2.2.1 3 0, σ.2.2.2)) μ o H := by rw [← ht]; exact hW
    try dsimp only at h_1
    refine lv_i2l hx hb dL_start_6 rfl ?_
    refine oSt hx hb hC hS hW ((r_2 : Int32).toInt64) dL_start_7 (fun H locs hW hS => ?_)
    refine lv_goto (tgt := 14) hx hb dL_start_8 (by decide) ?_
    refine lv_iconst (v := 0) hx hb dL_start_14 (by decide) ?_
    refine W.widen (k := 1) (n := 6) (Nat.le_of_ble_eq_true rfl) (Nat.le_of_ble_eq_true rfl) ?_
    exact W.iret (v := 0) hx hb hr (fun t ht hW9 => ⟨⟨_, (some (r_2, u_3)), rfl, xQ_s rfl h_1, by first | (dsimp only [xB]; rw [ht]; exact hW) | (show Wd _ _ _ _ _; rw [ht]; exact hW)⟩, hS.F ht⟩) hS.2.2 dL_start_15
set_option maxHeartbeats 4000000 in
set_option maxRecDepth 100000 in
theorem mtL_good (l : Launch) (g : Ge) (σ : Sg) (μ : Mg) (o : Nat → Int64) (hfl : l.stackTraces = false) : Met l yL_good wsL_good ({ frames := 7, cells := 1, slots := 6, locals := 112 } : Room) (va_Pc [.ref (gA g 0), .ref (gA g 12)] (PW g σ μ o)) (va_Qi (S := Option (Int32 × (Unit))) (xQ (kGo σ) (fun r _ => kGo σ = 0 ∧ r = goR σ)) (xB (fun t => Wd g σ μ o t.heap) (fun r _ t => Wd g (σ.1, goE σ, σ.2.2) μ (vp_updL o 0 (r.toInt64)) t.heap)) (Az g)) 1 6 (Az g) := by
  refine va_MetW (cc := cL_good) (maxL := 3) (ret := (some .int)) (by decide) rfl ?_
  intro p e s m args below meth c s₁ B hml hv
  obtain ⟨rfl, hC, hW⟩ := hv
  have hx := B.exec
  have hb := B.bytes
  have hr := B.returns
  have hts := atoms_spec (ws := wsL_good) B.pre
  have hown : s.vm.findClass RL = some m.cls := findClass_of_methodNamed B.named
  have hlocks := B.notSynchronized
  have hS : va_S (Az g) s.heap s.heap [] := va_S.rf
  have hl := lv_entry ([.ref (gA g 0), .ref (gA g 12)]) (n := 3) (Nat.le_of_ble_eq_true rfl)
  rw [lg_entry_eq]
  generalize (lg_sl ([.ref (gA g 0), .ref (gA g 12)]) ++ List.replicate (3 - (lg_sl ([.ref (gA g 0), .ref (gA g 12)])).length) Slot.unset).toArray = ls at hl ⊢
  have hl : lv_has ls 3 [(0, .ref (gA g 0)), (1, .ref (gA g 12))] := hl
  have htab := vx_table (x := yL_good) B (hts (.codeWith yL_good cL_good 3 (some .int) [(0, 8, 11, 15)]) (by exact List.mem_cons_self))
  refine lv_aload_n hx hb dL_good_0 rfl (lv_at hl 1 rfl) ?_
  refine lv_iconst (v := 0) hx hb dL_good_1 (by decide) ?_
  refine lv_aload_n hx hb dL_good_2 rfl (lv_at hl 0 rfl) ?_
  refine vx_calli (vx_runV (As := []) (rest := [.int 0, .ref (gA g 12)]) ⟨hx, hb, hml, hown, hts⟩ (mtX2_good l hfl g σ μ o ) (cwV 0 hts gL_good_X2_good rfl rfl rfl (by decide +kernel) ⟨Nat.le_of_ble_eq_true rfl, Nat.le_of_ble_eq_true rfl⟩) ⟨PW.blind, rcB hC hW, fun U hU hW9 => ⟨rfl, PW.at hC hS hW U hU hW9⟩⟩ rfl rfl hl.1 rfl (lv_room (Nat.le_of_ble_eq_true rfl)) dL_good_3 ⟨Nat.le_of_ble_eq_true rfl, Nat.le_of_ble_eq_true rfl⟩) hS (fun _ _ h => h) (fun _ h => h) (fun _ _ h => h) (fun E9 ce q9 u_3 t H locs ht hvm hpx hbx hz9 hk9 hS hce hcv hcl => ?_) (fun r_2 u_3 t H locs ht hvm h_1 hW hz9 hk9 hS => ?_)
  · skip
    obtain ⟨hbq, hbw⟩ := hbx
    try dsimp only at hbq
    replace hbw : Wd g σ μ o H := by rw [← ht]; exact hbw
    obtain ⟨rfl, hk9⟩ := hbq
    refine vx_catch (own := RL) (name := "java/lang/IllegalStateException") hown (tableOf []) ⟨0, 8, 11, 15⟩ (tableOf []) (htab.trans rfl) (fun z hz => absurd hz List.not_mem_nil) (by decide) (by decide) (hts (.classLink RL 15 "java/lang/IllegalStateException") (by decide +kernel)) (cast_w (E := xIS) hC.2.1 (by decide +kernel) (.castable xIS xIS) (by decide +kernel)) hce hcv hcl ?_
    have hW := hbw
    refine lv_astore_n (lv' := [(2, .ref q9), (0, .ref (gA g 0)), (1, .ref (gA g 12))]) hx hb dL_good_11 rfl hl (by decide) rfl (fun ls hl => ?_)
    refine lv_iconst (v := 1) hx hb dL_good_12 (by decide) ?_
    refine W.widen (k := 1) (n := 6) (Nat.le_of_ble_eq_true rfl) (Nat.le_of_ble_eq_true rfl) ?_
    exact W.iret (v := 1) hx hb hr (fun t ht hW9 => ⟨⟨_, none, rfl, xQ_n (by decide) hk9, by first | (dsimp only [xB]; rw [ht]; exact hW) | (show Wd _ _ _ _ _; rw [ht]; exact hW)⟩, hS.F ht⟩) hS.2.2 dL_good_13
  · skip
    replace hW : Wd g ((σ.1, goE σ, σ.2.2)) μ o H := by rw [← ht]; exact hW
    try dsimp only at h_1
    refine lv_i2l hx hb dL_good_6 rfl ?_
    refine oSt hx hb hC hS hW ((r_2 : Int32).toInt64) dL_good_7 (fun H locs hW hS => ?_)
    refine lv_goto (tgt := 14) hx hb dL_good_8 (by decide) ?_
    refine lv_iconst (v := 0) hx hb dL_good_14 (by decide) ?_
    refine W.widen (k := 1) (n := 6) (Nat.le_of_ble_eq_true rfl) (Nat.le_of_ble_eq_true rfl) ?_
    exact W.iret (v := 0) hx hb hr (fun t ht hW9 => ⟨⟨_, (some (r_2, u_3)), rfl, xQ_s rfl h_1, by first | (dsimp only [xB]; rw [ht]; exact hW) | (show Wd _ _ _ _ _; rw [ht]; exact hW)⟩, hS.F ht⟩) hS.2.2 dL_good_15
set_option maxHeartbeats 4000000 in
set_option maxRecDepth 100000 in
theorem mtL_lock (l : Launch) (g : Ge) (σ : Sg) (μ : Mg) (o : Nat → Int64) (hfl : l.stackTraces = false) (code many : Int32) : Met l yL_lock wsL_lock ({ frames := 8, cells := 2, slots := 12, locals := 132 } : Room) (va_Pc [.ref (gA g 0), .int code, .int many] (PW g σ μ o)) (va_Qi (S := Option (Int32 × (Unit))) (xQ (kLo σ code many) (fun _ u => (fun _ => kLo σ code many = 0) u)) (xB (fun t => Wd g σ μ o t.heap) (fun r _ t => Wd g (σ.1, σ.2.1, upd (upd (upd (upd σ.2.2.1 0 1) 1 code) 2 many) 3 0, σ.2.2.2) μ o t.heap)) (Az g)) 2 12 (Az g) := by
  refine va_MetW (cc := cL_lock) (maxL := 4) (ret := (some .int)) (by decide) rfl ?_
  intro p e s m args below meth c s₁ B hml hv
  obtain ⟨rfl, hC, hW⟩ := hv
  have hx := B.exec
  have hb := B.bytes
  have hr := B.returns
  have hts := atoms_spec (ws := wsL_lock) B.pre
  have hown : s.vm.findClass RL = some m.cls := findClass_of_methodNamed B.named
  have hlocks := B.notSynchronized
  have hS : va_S (Az g) s.heap s.heap [] := va_S.rf
  have hl := lv_entry ([.ref (gA g 0), .int code, .int many]) (n := 4) (Nat.le_of_ble_eq_true rfl)
  rw [lg_entry_eq]
  generalize (lg_sl ([.ref (gA g 0), .int code, .int many]) ++ List.replicate (4 - (lg_sl ([.ref (gA g 0), .int code, .int many])).length) Slot.unset).toArray = ls at hl ⊢
  have hl : lv_has ls 4 [(0, .ref (gA g 0)), (1, .int code), (2, .int many)] := hl
  have htab := vx_table (x := yL_lock) B (hts (.codeWith yL_lock cL_lock 4 (some .int) [(0, 6, 9, 13), (0, 6, 12, 15)]) (by exact List.mem_cons_self))
  refine lv_aload_n hx hb dL_lock_0 rfl (lv_at hl 0 rfl) ?_
  refine lv_iload_n hx hb dL_lock_1 rfl (lv_at hl 1 rfl) ?_
  refine lv_iload_n hx hb dL_lock_2 rfl (lv_at hl 2 rfl) ?_
  refine vx_callv (vx_runV (As := [.int code, .int many]) (rest := []) ⟨hx, hb, hml, hown, hts⟩ (mtX2_lock l hfl g σ μ o code many) (cwV 2 hts gL_lock_X2_lock rfl rfl rfl (by decide +kernel) ⟨Nat.le_of_ble_eq_true rfl, Nat.le_of_ble_eq_true rfl⟩) ⟨PW.blind, rcB hC hW, fun U hU hW9 => ⟨rfl, PW.at hC hS hW U hU hW9⟩⟩ rfl rfl hl.1 rfl (lv_room (Nat.le_of_ble_eq_true rfl)) dL_lock_3 ⟨Nat.le_of_ble_eq_true rfl, Nat.le_of_ble_eq_true rfl⟩) hS (fun _ _ h => h) (fun _ h => h) (fun _ _ h => h) (fun E9 ce q9 u_3 t H locs ht hvm hpx hbx hz9 hk9 hS hce hcv hcl => ?_) (fun u_3 t H locs ht hvm h_1 hW hz9 hk9 hS => ?_)
  · skip
    obtain ⟨hbq, hbw⟩ := hbx
    try dsimp only at hbq
    replace hbw : Wd g σ μ o H := by rw [← ht]; exact hbw
    rcases hbq with hbq | hbq
    · skip
      obtain ⟨rfl, hk9⟩ := hbq
      refine vx_catch (own := RL) (name := "java/lang/IllegalArgumentException") hown (tableOf []) ⟨0, 6, 9, 13⟩ (tableOf [(0, 6, 12, 15)]) (htab.trans rfl) (fun z hz => absurd hz List.not_mem_nil) (by decide) (by decide) (hts (.classLink RL 13 "java/lang/IllegalArgumentException") (by decide +kernel)) (cast_w (E := xIA) hC.2.1 (by decide +kernel) (.castable xIA xIA) (by decide +kernel)) hce hcv hcl ?_
      have hW := hbw
      refine lv_astore_n (lv' := [(3, .ref q9), (0, .ref (gA g 0)), (1, .int code), (2, .int many)]) hx hb dL_lock_9 rfl hl (by decide) rfl (fun ls hl => ?_)
      refine lv_iconst (v := 1) hx hb dL_lock_10 (by decide) ?_
      refine W.widen (k := 2) (n := 12) (Nat.le_of_ble_eq_true rfl) (Nat.le_of_ble_eq_true rfl) ?_
      exact W.iret (v := 1) hx hb hr (fun t ht hW9 => ⟨⟨_, none, rfl, xQ_n (by decide) hk9, by first | (dsimp only [xB]; rw [ht]; exact hW) | (show Wd _ _ _ _ _; rw [ht]; exact hW)⟩, hS.F ht⟩) hS.2.2 dL_lock_11
    · skip
      obtain ⟨rfl, hk9⟩ := hbq
      refine vx_catch (own := RL) (name := "java/lang/IllegalStateException") hown (tableOf [(0, 6, 9, 13)]) ⟨0, 6, 12, 15⟩ (tableOf []) (htab.trans rfl) (List.forall_mem_cons.mpr ⟨Or.inr ⟨by decide, "java/lang/IllegalArgumentException", hts (.classLink RL 13 "java/lang/IllegalArgumentException") (by decide +kernel), hC.2.1.2.2.2 (xIS, xIA) (by decide +kernel)⟩, (fun z hz => absurd hz List.not_mem_nil)⟩) (by decide) (by decide) (hts (.classLink RL 15 "java/lang/IllegalStateException") (by decide +kernel)) (cast_w (E := xIS) hC.2.1 (by decide +kernel) (.castable xIS xIS) (by decide +kernel)) hce hcv hcl ?_
      have hW := hbw
      refine lv_astore_n (lv' := [(3, .ref q9), (0, .ref (gA g 0)), (1, .int code), (2, .int many)]) hx hb dL_lock_12 rfl hl (by decide) rfl (fun ls hl => ?_)
      refine lv_iconst (v := 2) hx hb dL_lock_13 (by decide) ?_
      refine W.widen (k := 2) (n := 12) (Nat.le_of_ble_eq_true rfl) (Nat.le_of_ble_eq_true rfl) ?_
      exact W.iret (v := 2) hx hb hr (fun t ht hW9 => ⟨⟨_, none, rfl, xQ_n (by decide) hk9, by first | (dsimp only [xB]; rw [ht]; exact hW) | (show Wd _ _ _ _ _; rw [ht]; exact hW)⟩, hS.F ht⟩) hS.2.2 dL_lock_14
  · skip
    replace hW : Wd g ((σ.1, σ.2.1, upd (upd (upd (upd σ.2.2.1 0 1) 1 code) 2 many) 3 0, σ.2.2.2)) μ o H := by rw [← ht]; exact hW
    try dsimp only at h_1
    refine lv_goto (tgt := 15) hx hb dL_lock_6 (by decide) ?_
    refine lv_iconst (v := 0) hx hb dL_lock_15 (by decide) ?_
    refine W.widen (k := 2) (n := 12) (Nat.le_of_ble_eq_true rfl) (Nat.le_of_ble_eq_true rfl) ?_
    exact W.iret (v := 0) hx hb hr (fun t ht hW9 => ⟨⟨_, (some (0, u_3)), rfl, xQ_s rfl h_1, by first | (dsimp only [xB]; rw [ht]; exact hW) | (show Wd _ _ _ _ _; rw [ht]; exact hW)⟩, hS.F ht⟩) hS.2.2 dL_lock_16
set_option maxHeartbeats 4000000 in
set_option maxRecDepth 100000 in
theorem mtL_enter (l : Launch) (g : Ge) (σ : Sg) (μ : Mg) (o : Nat → Int64) (hfl : l.stackTraces = false) (d : Int32) (en cl : Nat) (h1 : σ.2.2.1 3 = nI en) (h2 : σ.2.2.1 2 = nI cl) (h3 : en ≤ 12) (h4 : cl ≤ 12) : Met l yL_enter wsL_enter ({ frames := 8, cells := 2, slots := 12, locals := 132 } : Room) (va_Pc [.ref (gA g 0), .int d, .ref (gA g 12)] (PW g σ μ o)) (va_Qi (S := Option (Int32 × (Unit))) (xQ (kEn σ d) (fun r _ => kEn σ d = 0 ∧ r = bI (ec (upd σ.2.2.2 en d) (en + 1) cl (σ.2.2.1 1)))) (xB (fun t => Wd g σ μ o t.heap) (fun r _ t => Wd g (σ.1, σ.2.1, upd (upd σ.2.2.1 3 (σ.2.2.1 3 + 1)) 0 (bI (!ec (upd σ.2.2.2 en d) (en + 1) cl (σ.2.2.1 1))), upd σ.2.2.2 en d) μ (vp_updL o 0 (bJ r)) t.heap)) (Az g)) 2 12 (Az g) := by
  refine va_MetW (cc := cL_enter) (maxL := 4) (ret := (some .int)) (by decide) rfl ?_
  intro p e s m args below meth c s₁ B hml hv
  obtain ⟨rfl, hC, hW⟩ := hv
  have hx := B.exec
  have hb := B.bytes
  have hr := B.returns
  have hts := atoms_spec (ws := wsL_enter) B.pre
  have hown : s.vm.findClass RL = some m.cls := findClass_of_methodNamed B.named
  have hlocks := B.notSynchronized
  have hS : va_S (Az g) s.heap s.heap [] := va_S.rf
  have hl := lv_entry ([.ref (gA g 0), .int d, .ref (gA g 12)]) (n := 4) (Nat.le_of_ble_eq_true rfl)
  rw [lg_entry_eq]
  generalize (lg_sl ([.ref (gA g 0), .int d, .ref (gA g 12)]) ++ List.replicate (4 - (lg_sl ([.ref (gA g 0), .int d, .ref (gA g 12)])).length) Slot.unset).toArray = ls at hl ⊢
  have hl : lv_has ls 4 [(0, .ref (gA g 0)), (1, .int d), (2, .ref (gA g 12))] := hl
  have htab := vx_table (x := yL_enter) B (hts (.codeWith yL_enter cL_enter 4 (some .int) [(0, 16, 19, 13), (0, 16, 22, 15)]) (by exact List.mem_cons_self))
  refine lv_aload_n hx hb dL_enter_0 rfl (lv_at hl 2 rfl) ?_
  refine lv_iconst (v := 0) hx hb dL_enter_1 (by decide) ?_
  refine lv_aload_n hx hb dL_enter_2 rfl (lv_at hl 0 rfl) ?_
  refine lv_iload_n hx hb dL_enter_3 rfl (lv_at hl 1 rfl) ?_
  refine vx_calli (vx_runV (As := [.int d]) (rest := [.int 0, .ref (gA g 12)]) ⟨hx, hb, hml, hown, hts⟩ (mtX2_enter l hfl g σ μ o d en cl h1 h2 h3 h4) (cwV 1 hts gL_enter_X2_enter rfl rfl rfl (by decide +kernel) ⟨Nat.le_of_ble_eq_true rfl, Nat.le_of_ble_eq_true rfl⟩) ⟨PW.blind, rcB hC hW, fun U hU hW9 => ⟨rfl, PW.at hC hS hW U hU hW9⟩⟩ rfl rfl hl.1 rfl (lv_room (Nat.le_of_ble_eq_true rfl)) dL_enter_4 ⟨Nat.le_of_ble_eq_true rfl, Nat.le_of_ble_eq_true rfl⟩) hS (fun _ _ h => h) (fun _ h => h) (fun _ _ h => h) (fun E9 ce q9 u_3 t H locs ht hvm hpx hbx hz9 hk9 hS hce hcv hcl => ?_) (fun r_2 u_3 t H locs ht hvm h_1 hW hz9 hk9 hS => ?_)
  · skip
    obtain ⟨hbq, hbw⟩ := hbx
    try dsimp only at hbq
    replace hbw : Wd g σ μ o H := by rw [← ht]; exact hbw
    rcases hbq with hbq | hbq
    · skip
      obtain ⟨rfl, hk9⟩ := hbq
      refine vx_catch (own := RL) (name := "java/lang/IllegalArgumentException") hown (tableOf []) ⟨0, 16, 19, 13⟩ (tableOf [(0, 16, 22, 15)]) (htab.trans rfl) (fun z hz => absurd hz List.not_mem_nil) (by decide) (by decide) (hts (.classLink RL 13 "java/lang/IllegalArgumentException") (by decide +kernel)) (cast_w (E := xIA) hC.2.1 (by decide +kernel) (.castable xIA xIA) (by decide +kernel)) hce hcv hcl ?_
      have hW := hbw
      refine lv_astore_n (lv' := [(3, .ref q9), (0, .ref (gA g 0)), (1, .int d), (2, .ref (gA g 12))]) hx hb dL_enter_19 rfl hl (by decide) rfl (fun ls hl => ?_)
      refine lv_iconst (v := 1) hx hb dL_enter_20 (by decide) ?_
      refine W.widen (k := 2) (n := 12) (Nat.le_of_ble_eq_true rfl) (Nat.le_of_ble_eq_true rfl) ?_
      exact W.iret (v := 1) hx hb hr (fun t ht hW9 => ⟨⟨_, none, rfl, xQ_n (by decide) hk9, by first | (dsimp only [xB]; rw [ht]; exact hW) | (show Wd _ _ _ _ _; rw [ht]; exact hW)⟩, hS.F ht⟩) hS.2.2 dL_enter_21
    · skip
      obtain ⟨rfl, hk9⟩ := hbq
      refine vx_catch (own := RL) (name := "java/lang/IllegalStateException") hown (tableOf [(0, 16, 19, 13)]) ⟨0, 16, 22, 15⟩ (tableOf []) (htab.trans rfl) (List.forall_mem_cons.mpr ⟨Or.inr ⟨by decide, "java/lang/IllegalArgumentException", hts (.classLink RL 13 "java/lang/IllegalArgumentException") (by decide +kernel), hC.2.1.2.2.2 (xIS, xIA) (by decide +kernel)⟩, (fun z hz => absurd hz List.not_mem_nil)⟩) (by decide) (by decide) (hts (.classLink RL 15 "java/lang/IllegalStateException") (by decide +kernel)) (cast_w (E := xIS) hC.2.1 (by decide +kernel) (.castable xIS xIS) (by decide +kernel)) hce hcv hcl ?_
      have hW := hbw
      refine lv_astore_n (lv' := [(3, .ref q9), (0, .ref (gA g 0)), (1, .int d), (2, .ref (gA g 12))]) hx hb dL_enter_22 rfl hl (by decide) rfl (fun ls hl => ?_)
      refine lv_iconst (v := 2) hx hb dL_enter_23 (by decide) ?_
      refine W.widen (k := 2) (n := 12) (Nat.le_of_ble_eq_true rfl) (Nat.le_of_ble_eq_true rfl) ?_
      exact W.iret (v := 2) hx hb hr (fun t ht hW9 => ⟨⟨_, none, rfl, xQ_n (by decide) hk9, by first | (dsimp only [xB]; rw [ht]; exact hW) | (show Wd _ _ _ _ _; rw [ht]; exact hW)⟩, hS.F ht⟩) hS.2.2 dL_enter_24
  · skip
    replace hW : Wd g ((σ.1, σ.2.1, upd (upd σ.2.2.1 3 (σ.2.2.1 3 + 1)) 0 (bI (!ec (upd σ.2.2.2 en d) (en + 1) cl (σ.2.2.1 1))), upd σ.2.2.2 en d)) μ o H := by rw [← ht]; exact hW
    try dsimp only at h_1
    refine lv_if_eq (tgt := 14) hx hb dL_enter_7 (by decide) (fun c_5 => ?_) (fun c_5 => ?_)
    · skip
      refine lv_lconst (v := 0) hx hb dL_enter_14 (by decide) ?_
      refine oSt hx hb hC hS hW (0) dL_enter_15 (fun H locs hW hS => ?_)
      refine lv_goto (tgt := 25) hx hb dL_enter_16 (by decide) ?_
      refine lv_iconst (v := 0) hx hb dL_enter_25 (by decide) ?_
      refine W.widen (k := 2) (n := 12) (Nat.le_of_ble_eq_true rfl) (Nat.le_of_ble_eq_true rfl) ?_
      exact W.iret (v := 0) hx hb hr (fun t ht hW9 => ⟨⟨_, (some (r_2, u_3)), rfl, xQ_s rfl h_1, by show Wd _ _ _ (vp_updL o 0 (bJ r_2)) _; rw [ht, show bJ r_2 = 0 from if_pos c_5]; exact hW⟩, hS.F ht⟩) hS.2.2 dL_enter_26
    · skip
      refine lv_lconst (v := 1) hx hb dL_enter_10 (by decide) ?_
      refine lv_goto (tgt := 15) hx hb dL_enter_11 (by decide) ?_
      refine oSt hx hb hC hS hW (1) dL_enter_15 (fun H locs hW hS => ?_)
      refine lv_goto (tgt := 25) hx hb dL_enter_16 (by decide) ?_
      refine lv_iconst (v := 0) hx hb dL_enter_25 (by decide) ?_
      refine W.widen (k := 2) (n := 12) (Nat.le_of_ble_eq_true rfl) (Nat.le_of_ble_eq_true rfl) ?_
      exact W.iret (v := 0) hx hb hr (fun t ht hW9 => ⟨⟨_, (some (r_2, u_3)), rfl, xQ_s rfl h_1, by show Wd _ _ _ (vp_updL o 0 (bJ r_2)) _; rw [ht, show bJ r_2 = 1 from if_neg c_5]; exact hW⟩, hS.F ht⟩) hS.2.2 dL_enter_26
