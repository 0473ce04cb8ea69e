set_option maxHeartbeats 4000000 in
set_option maxRecDepth 100000 in
theorem mtL_at (l : Launch) (g : Ge) (σ : Sg) (μ : Mg) (o : Nat → Int64) (hfl : l.stackTraces = false) (pl : Int32) : Met l yL_at wsL_at ({ frames := 7, cells := 1, slots := 6, locals := 137 } : Room) (va_Pc [.ref (gA g 0), .int pl, .ref (gA g 12)] (PW g σ μ o)) (va_Qi (S := Option (Int32 × (Nat))) (xQ (kAt σ pl) (fun r u => kAt σ pl = 0 ∧ fs (pP σ.2.1 pl) 16 = some u ∧ r = σ.2.1 u 1)) (xB (fun t => Wd g σ μ o t.heap) (fun r _ t => Wd g σ μ (vp_updL o 0 (r.toInt64)) t.heap)) (Az g)) 1 6 (Az g) := by
  refine va_MetW (cc := cL_at) (maxL := 4) (ret := (some .int)) (by decide) rfl ?_
  intro p e s m args below meth c s₁ B hml hv
  obtain ⟨rfl, hC, hW⟩ := hv
  have hx := B.exec
  have hb := B.bytes
  have hr := B.returns
  have hts := atoms_spec (ws := wsL_at) B.pre
  have hown : s.vm.findClass RL = some m.cls := findClass_of_methodNamed B.named
  have hlocks := B.notSynchronized
  have hS : va_S (Az g) s.heap s.heap [] := va_S.rf
  have hl := lv_entry ([.ref (gA g 0), .int pl, .ref (gA g 12)]) (n := 4) (Nat.le_of_ble_eq_true rfl)
  rw [lg_entry_eq]
  generalize (lg_sl ([.ref (gA g 0), .int pl, .ref (gA g 12)]) ++ List.replicate (4 - (lg_sl ([.ref (gA g 0), .int pl, .ref (gA g 12)])).length) Slot.unset).toArray = ls at hl ⊢
  have hl : lv_has ls 4 [(0, .ref (gA g 0)), (1, .int pl), (2, .ref (gA g 12))] := hl
  have htab := vx_table (x := yL_at) B (hts (.codeWith yL_at cL_at 4 (some .int) [(0, 9, 12, 21)]) (by exact List.mem_cons_self))
  refine lv_aload_n hx hb dL_at_0 rfl (lv_at hl 2 rfl) ?_
  refine lv_iconst (v := 0) hx hb dL_at_1 (by decide) ?_
  refine lv_aload_n hx hb dL_at_2 rfl (lv_at hl 0 rfl) ?_
  refine lv_iload_n hx hb dL_at_3 rfl (lv_at hl 1 rfl) ?_
  refine vx_calli (vx_runV (As := [.int pl]) (rest := [.int 0, .ref (gA g 12)]) ⟨hx, hb, hml, hown, hts⟩ (mtX2_at l hfl g σ μ o pl) (cwV 1 hts gL_at_X2_at rfl rfl rfl (by decide +kernel) ⟨Nat.le_of_ble_eq_true rfl, Nat.le_of_ble_eq_true rfl⟩) ⟨PW.blind, rcB hC hW, fun U hU hW9 => ⟨rfl, PW.at hC hS hW U hU hW9⟩⟩ rfl rfl hl.1 rfl (lv_room (Nat.le_of_ble_eq_true rfl)) dL_at_4 ⟨Nat.le_of_ble_eq_true rfl, Nat.le_of_ble_eq_true rfl⟩) hS (fun _ _ h => h) (fun _ h => h) (fun _ _ h => h) (fun E9 ce q9 u_3 t H locs ht hvm hpx hbx hz9 hk9 hS hce hcv hcl => ?_) (fun r_2 u_3 t H locs ht hvm h_1 hW hz9 hk9 hS => ?_)
  · skip
    obtain ⟨hbq, hbw⟩ := hbx
    try dsimp only at hbq
    replace hbw : Wd g σ μ o H := by rw [← ht]; exact hbw
    obtain ⟨rfl, hk9⟩ := hbq
    refine vx_catch (own := RL) (name := "java/lang/IndexOutOfBoundsException") hown (tableOf []) ⟨0, 9, 12, 21⟩ (tableOf []) (htab.trans rfl) (fun z hz => absurd hz List.not_mem_nil) (by decide) (by decide) (hts (.classLink RL 21 "java/lang/IndexOutOfBoundsException") (by decide +kernel)) (cast_w (E := xIO) hC.2.1 (by decide +kernel) (.castable xIO xIO) (by decide +kernel)) hce hcv hcl ?_
    have hW := hbw
    refine lv_astore_n (lv' := [(3, .ref q9), (0, .ref (gA g 0)), (1, .int pl), (2, .ref (gA g 12))]) hx hb dL_at_12 rfl hl (by decide) rfl (fun ls hl => ?_)
    refine lv_iconst (v := 1) hx hb dL_at_13 (by decide) ?_
    refine W.widen (k := 1) (n := 6) (Nat.le_of_ble_eq_true rfl) (Nat.le_of_ble_eq_true rfl) ?_
    exact W.iret (v := 1) hx hb hr (fun t ht hW9 => ⟨⟨_, none, rfl, xQ_n (by decide) hk9, by first | (dsimp only [xB]; rw [ht]; exact hW) | (show Wd _ _ _ _ _; rw [ht]; exact hW)⟩, hS.F ht⟩) hS.2.2 dL_at_14
  · skip
    replace hW : Wd g σ μ o H := by rw [← ht]; exact hW
    try dsimp only at h_1
    refine lv_i2l hx hb dL_at_7 rfl ?_
    refine oSt hx hb hC hS hW ((r_2 : Int32).toInt64) dL_at_8 (fun H locs hW hS => ?_)
    refine lv_goto (tgt := 15) hx hb dL_at_9 (by decide) ?_
    refine lv_iconst (v := 0) hx hb dL_at_15 (by decide) ?_
    refine W.widen (k := 1) (n := 6) (Nat.le_of_ble_eq_true rfl) (Nat.le_of_ble_eq_true rfl) ?_
    exact W.iret (v := 0) hx hb hr (fun t ht hW9 => ⟨⟨_, (some (r_2, u_3)), rfl, xQ_s rfl h_1, by first | (dsimp only [xB]; rw [ht]; exact hW) | (show Wd _ _ _ _ _; rw [ht]; exact hW)⟩, hS.F ht⟩) hS.2.2 dL_at_16
set_option maxHeartbeats 4000000 in
set_option maxRecDepth 100000 in
theorem mtL_placeOf (l : Launch) (g : Ge) (σ : Sg) (μ : Mg) (o : Nat → Int64) (hfl : l.stackTraces = false) (n : Int32) : Met l yL_placeOf wsL_placeOf ({ frames := 8, cells := 1, slots := 6, locals := 133 } : Room) (va_Pc [.ref (gA g 0), .int n, .ref (gA g 12)] (PW g σ μ o)) (va_Qi (S := Option (Int32 × (Nat))) (xQ (kRem σ n) (fun r u => kRem σ n = 0 ∧ fs (pN σ.2.1 n) 16 = some u ∧ r = nI (ct (pA σ.2.1 u) 16))) (xB (fun t => Wd g σ μ o t.heap) (fun r _ t => Wd g σ μ (vp_updL o 0 (r.toInt64)) t.heap)) (Az g)) 1 6 (Az g) := by
  refine va_MetW (cc := cL_placeOf) (maxL := 4) (ret := (some .int)) (by decide) rfl ?_
  intro p e s m args below meth c s₁ B hml hv
  obtain ⟨rfl, hC, hW⟩ := hv
  have hx := B.exec
  have hb := B.bytes
  have hr := B.returns
  have hts := atoms_spec (ws := wsL_placeOf) B.pre
  have hown : s.vm.findClass RL = some m.cls := findClass_of_methodNamed B.named
  have hlocks := B.notSynchronized
  have hS : va_S (Az g) s.heap s.heap [] := va_S.rf
  have hl := lv_entry ([.ref (gA g 0), .int n, .ref (gA g 12)]) (n := 4) (Nat.le_of_ble_eq_true rfl)
  rw [lg_entry_eq]
  generalize (lg_sl ([.ref (gA g 0), .int n, .ref (gA g 12)]) ++ List.replicate (4 - (lg_sl ([.ref (gA g 0), .int n, .ref (gA g 12)])).length) Slot.unset).toArray = ls at hl ⊢
  have hl : lv_has ls 4 [(0, .ref (gA g 0)), (1, .int n), (2, .ref (gA g 12))] := hl
  have htab := vx_table (x := yL_placeOf) B (hts (.codeWith yL_placeOf cL_placeOf 4 (some .int) [(0, 9, 12, 21)]) (by exact List.mem_cons_self))
  refine lv_aload_n hx hb dL_placeOf_0 rfl (lv_at hl 2 rfl) ?_
  refine lv_iconst (v := 0) hx hb dL_placeOf_1 (by decide) ?_
  refine lv_aload_n hx hb dL_placeOf_2 rfl (lv_at hl 0 rfl) ?_
  refine lv_iload_n hx hb dL_placeOf_3 rfl (lv_at hl 1 rfl) ?_
  refine vx_calli (vx_runV (As := [.int n]) (rest := [.int 0, .ref (gA g 12)]) ⟨hx, hb, hml, hown, hts⟩ (mtX2_placeOf l hfl g σ μ o n) (cwV 1 hts gL_placeOf_X2_placeOf rfl rfl rfl (by decide +kernel) ⟨Nat.le_of_ble_eq_true rfl, Nat.le_of_ble_eq_true rfl⟩) ⟨PW.blind, rcB hC hW, fun U hU hW9 => ⟨rfl, PW.at hC hS hW U hU hW9⟩⟩ rfl rfl hl.1 rfl (lv_room (Nat.le_of_ble_eq_true rfl)) dL_placeOf_4 ⟨Nat.le_of_ble_eq_true rfl, Nat.le_of_ble_eq_true rfl⟩) hS (fun _ _ h => h) (fun _ h => h) (fun _ _ h => h) (fun E9 ce q9 u_3 t H locs ht hvm hpx hbx hz9 hk9 hS hce hcv hcl => ?_) (fun r_2 u_3 t H locs ht hvm h_1 hW hz9 hk9 hS => ?_)
  · skip
    obtain ⟨hbq, hbw⟩ := hbx
    try dsimp only at hbq
    replace hbw : Wd g σ μ o H := by rw [← ht]; exact hbw
    obtain ⟨rfl, hk9⟩ := hbq
    refine vx_catch (own := RL) (name := "java/lang/IndexOutOfBoundsException") hown (tableOf []) ⟨0, 9, 12, 21⟩ (tableOf []) (htab.trans rfl) (fun z hz => absurd hz List.not_mem_nil) (by decide) (by decide) (hts (.classLink RL 21 "java/lang/IndexOutOfBoundsException") (by decide +kernel)) (cast_w (E := xIO) hC.2.1 (by decide +kernel) (.castable xIO xIO) (by decide +kernel)) hce hcv hcl ?_
    have hW := hbw
    refine lv_astore_n (lv' := [(3, .ref q9), (0, .ref (gA g 0)), (1, .int n), (2, .ref (gA g 12))]) hx hb dL_placeOf_12 rfl hl (by decide) rfl (fun ls hl => ?_)
    refine lv_iconst (v := 1) hx hb dL_placeOf_13 (by decide) ?_
    refine W.widen (k := 1) (n := 6) (Nat.le_of_ble_eq_true rfl) (Nat.le_of_ble_eq_true rfl) ?_
    exact W.iret (v := 1) hx hb hr (fun t ht hW9 => ⟨⟨_, none, rfl, xQ_n (by decide) hk9, by first | (dsimp only [xB]; rw [ht]; exact hW) | (show Wd _ _ _ _ _; rw [ht]; exact hW)⟩, hS.F ht⟩) hS.2.2 dL_placeOf_14
  · skip
    replace hW : Wd g σ μ o H := by rw [← ht]; exact hW
    try dsimp only at h_1
    refine lv_i2l hx hb dL_placeOf_7 rfl ?_
    refine oSt hx hb hC hS hW ((r_2 : Int32).toInt64) dL_placeOf_8 (fun H locs hW hS => ?_)
    refine lv_goto (tgt := 15) hx hb dL_placeOf_9 (by decide) ?_
    refine lv_iconst (v := 0) hx hb dL_placeOf_15 (by decide) ?_
    refine W.widen (k := 1) (n := 6) (Nat.le_of_ble_eq_true rfl) (Nat.le_of_ble_eq_true rfl) ?_
    exact W.iret (v := 0) hx hb hr (fun t ht hW9 => ⟨⟨_, (some (r_2, u_3)), rfl, xQ_s rfl h_1, by first | (dsimp only [xB]; rw [ht]; exact hW) | (show Wd _ _ _ _ _; rw [ht]; exact hW)⟩, hS.F ht⟩) hS.2.2 dL_placeOf_16
set_option maxHeartbeats 4000000 in
set_option maxRecDepth 100000 in
theorem mtL_tries (l : Launch) (g : Ge) (σ : Sg) (μ : Mg) (o : Nat → Int64) (hfl : l.stackTraces = false) (n : Int32) : Met l yL_tries wsL_tries ({ frames := 8, cells := 1, slots := 6, locals := 133 } : Room) (va_Pc [.ref (gA g 0), .int n, .ref (gA g 12)] (PW g σ μ o)) (va_Qi (S := Option (Int32 × (Nat))) (xQ (kRem σ n) (fun r u => kRem σ n = 0 ∧ fs (pN σ.2.1 n) 16 = some u ∧ r = σ.2.1 u 7)) (xB (fun t => Wd g σ μ o t.heap) (fun r _ t => Wd g σ μ (vp_updL o 0 (r.toInt64)) t.heap)) (Az g)) 1 6 (Az g) := by
  refine va_MetW (cc := cL_tries) (maxL := 4) (ret := (some .int)) (by decide) rfl ?_
  intro p e s m args below meth c s₁ B hml hv
  obtain ⟨rfl, hC, hW⟩ := hv
  have hx := B.exec
  have hb := B.bytes
  have hr := B.returns
  have hts := atoms_spec (ws := wsL_tries) B.pre
  have hown : s.vm.findClass RL = some m.cls := findClass_of_methodNamed B.named
  have hlocks := B.notSynchronized
  have hS : va_S (Az g) s.heap s.heap [] := va_S.rf
  have hl := lv_entry ([.ref (gA g 0), .int n, .ref (gA g 12)]) (n := 4) (Nat.le_of_ble_eq_true rfl)
  rw [lg_entry_eq]
  generalize (lg_sl ([.ref (gA g 0), .int n, .ref (gA g 12)]) ++ List.replicate (4 - (lg_sl ([.ref (gA g 0), .int n, .ref (gA g 12)])).length) Slot.unset).toArray = ls at hl ⊢
  have hl : lv_has ls 4 [(0, .ref (gA g 0)), (1, .int n), (2, .ref (gA g 12))] := hl
  have htab := vx_table (x := yL_tries) B (hts (.codeWith yL_tries cL_tries 4 (some .int) [(0, 9, 12, 21)]) (by exact List.mem_cons_self))
  refine lv_aload_n hx hb dL_tries_0 rfl (lv_at hl 2 rfl) ?_
  refine lv_iconst (v := 0) hx hb dL_tries_1 (by decide) ?_
  refine lv_aload_n hx hb dL_tries_2 rfl (lv_at hl 0 rfl) ?_
  refine lv_iload_n hx hb dL_tries_3 rfl (lv_at hl 1 rfl) ?_
  refine vx_calli (vx_runV (As := [.int n]) (rest := [.int 0, .ref (gA g 12)]) ⟨hx, hb, hml, hown, hts⟩ (mtX2_tries l hfl g σ μ o n) (cwV 1 hts gL_tries_X2_tries rfl rfl rfl (by decide +kernel) ⟨Nat.le_of_ble_eq_true rfl, Nat.le_of_ble_eq_true rfl⟩) ⟨PW.blind, rcB hC hW, fun U hU hW9 => ⟨rfl, PW.at hC hS hW U hU hW9⟩⟩ rfl rfl hl.1 rfl (lv_room (Nat.le_of_ble_eq_true rfl)) dL_tries_4 ⟨Nat.le_of_ble_eq_true rfl, Nat.le_of_ble_eq_true rfl⟩) hS (fun _ _ h => h) (fun _ h => h) (fun _ _ h => h) (fun E9 ce q9 u_3 t H locs ht hvm hpx hbx hz9 hk9 hS hce hcv hcl => ?_) (fun r_2 u_3 t H locs ht hvm h_1 hW hz9 hk9 hS => ?_)
  · skip
    obtain ⟨hbq, hbw⟩ := hbx
    try dsimp only at hbq
    replace hbw : Wd g σ μ o H := by rw [← ht]; exact hbw
    obtain ⟨rfl, hk9⟩ := hbq
    refine vx_catch (own := RL) (name := "java/lang/IndexOutOfBoundsException") hown (tableOf []) ⟨0, 9, 12, 21⟩ (tableOf []) (htab.trans rfl) (fun z hz => absurd hz List.not_mem_nil) (by decide) (by decide) (hts (.classLink RL 21 "java/lang/IndexOutOfBoundsException") (by decide +kernel)) (cast_w (E := xIO) hC.2.1 (by decide +kernel) (.castable xIO xIO) (by decide +kernel)) hce hcv hcl ?_
    have hW := hbw
    refine lv_astore_n (lv' := [(3, .ref q9), (0, .ref (gA g 0)), (1, .int n), (2, .ref (gA g 12))]) hx hb dL_tries_12 rfl hl (by decide) rfl (fun ls hl => ?_)
    refine lv_iconst (v := 1) hx hb dL_tries_13 (by decide) ?_
    refine W.widen (k := 1) (n := 6) (Nat.le_of_ble_eq_true rfl) (Nat.le_of_ble_eq_true rfl) ?_
    exact W.iret (v := 1) hx hb hr (fun t ht hW9 => ⟨⟨_, none, rfl, xQ_n (by decide) hk9, by first | (dsimp only [xB]; rw [ht]; exact hW) | (show Wd _ _ _ _ _; rw [ht]; exact hW)⟩, hS.F ht⟩) hS.2.2 dL_tries_14
  · skip
    replace hW : Wd g σ μ o H := by rw [← ht]; exact hW
    try dsimp only at h_1
    refine lv_i2l hx hb dL_tries_7 rfl ?_
    refine oSt hx hb hC hS hW ((r_2 : Int32).toInt64) dL_tries_8 (fun H locs hW hS => ?_)
    refine lv_goto (tgt := 15) hx hb dL_tries_9 (by decide) ?_
    refine lv_iconst (v := 0) hx hb dL_tries_15 (by decide) ?_
    refine W.widen (k := 1) (n := 6) (Nat.le_of_ble_eq_true rfl) (Nat.le_of_ble_eq_true rfl) ?_
    exact W.iret (v := 0) hx hb hr (fun t ht hW9 => ⟨⟨_, (some (r_2, u_3)), rfl, xQ_s rfl h_1, by first | (dsimp only [xB]; rw [ht]; exact hW) | (show Wd _ _ _ _ _; rw [ht]; exact hW)⟩, hS.F ht⟩) hS.2.2 dL_tries_16
set_option maxHeartbeats 4000000 in
set_option maxRecDepth 100000 in
theorem mtL_compare (l : Launch) (g : Ge) (σ : Sg) (μ : Mg) (o : Nat → Int64) (hfl : l.stackTraces = false) (a b : Int32) : Met l yL_compare wsL_compare ({ frames := 8, cells := 2, slots := 12, locals := 136 } : Room) (va_Pc [.ref (gA g 0), .int a, .int b, .ref (gA g 12)] (PW g σ μ o)) (va_Qi (S := Option (Int32 × (Nat × Nat))) (xQ (kCm σ a b) (fun r u => kCm σ a b = 0 ∧ fs (pN σ.2.1 a) 16 = some u.1 ∧ fs (pN σ.2.1 b) 16 = some u.2 ∧ r = cv (σ.2.1 u.1) (σ.2.1 u.2))) (xB (fun t => Wd g σ μ o t.heap) (fun r _ t => Wd g σ μ (vp_updL o 0 (r.toInt64)) t.heap)) (Az g)) 2 12 (Az g) := by
  refine va_MetW (cc := cL_compare) (maxL := 5) (ret := (some .int)) (by decide) rfl ?_
  intro p e s m args below meth c s₁ B hml hv
  obtain ⟨rfl, hC, hW⟩ := hv
  have hx := B.exec
  have hb := B.bytes
  have hr := B.returns
  have hts := atoms_spec (ws := wsL_compare) B.pre
  have hown : s.vm.findClass RL = some m.cls := findClass_of_methodNamed B.named
  have hlocks := B.notSynchronized
  have hS : va_S (Az g) s.heap s.heap [] := va_S.rf
  have hl := lv_entry ([.ref (gA g 0), .int a, .int b, .ref (gA g 12)]) (n := 5) (Nat.le_of_ble_eq_true rfl)
  rw [lg_entry_eq]
  generalize (lg_sl ([.ref (gA g 0), .int a, .int b, .ref (gA g 12)]) ++ List.replicate (5 - (lg_sl ([.ref (gA g 0), .int a, .int b, .ref (gA g 12)])).length) Slot.unset).toArray = ls at hl ⊢
  have hl : lv_has ls 5 [(0, .ref (gA g 0)), (1, .int a), (2, .int b), (3, .ref (gA g 12))] := hl
  have htab := vx_table (x := yL_compare) B (hts (.codeWith yL_compare cL_compare 5 (some .int) [(0, 10, 13, 21)]) (by exact List.mem_cons_self))
  refine lv_aload_n hx hb dL_compare_0 rfl (lv_at hl 3 rfl) ?_
  refine lv_iconst (v := 0) hx hb dL_compare_1 (by decide) ?_
  refine lv_aload_n hx hb dL_compare_2 rfl (lv_at hl 0 rfl) ?_
  refine lv_iload_n hx hb dL_compare_3 rfl (lv_at hl 1 rfl) ?_
  refine lv_iload_n hx hb dL_compare_4 rfl (lv_at hl 2 rfl) ?_
  refine vx_calli (vx_runV (As := [.int a, .int b]) (rest := [.int 0, .ref (gA g 12)]) ⟨hx, hb, hml, hown, hts⟩ (mtX2_compare l hfl g σ μ o a b) (cwV 2 hts gL_compare_X2_compare rfl rfl rfl (by decide +kernel) ⟨Nat.le_of_ble_eq_true rfl, Nat.le_of_ble_eq_true rfl⟩) ⟨PW.blind, rcB hC hW, fun U hU hW9 => ⟨rfl, PW.at hC hS hW U hU hW9⟩⟩ rfl rfl hl.1 rfl (lv_room (Nat.le_of_ble_eq_true rfl)) dL_compare_5 ⟨Nat.le_of_ble_eq_true rfl, Nat.le_of_ble_eq_true rfl⟩) hS (fun _ _ h => h) (fun _ h => h) (fun _ _ h => h) (fun E9 ce q9 u_3 t H locs ht hvm hpx hbx hz9 hk9 hS hce hcv hcl => ?_) (fun r_2 u_3 t H locs ht hvm h_1 hW hz9 hk9 hS => ?_)
  · skip
    obtain ⟨hbq, hbw⟩ := hbx
    try dsimp only at hbq
    replace hbw : Wd g σ μ o H := by rw [← ht]; exact hbw
    obtain ⟨rfl, hk9⟩ := hbq
    refine vx_catch (own := RL) (name := "java/lang/IndexOutOfBoundsException") hown (tableOf []) ⟨0, 10, 13, 21⟩ (tableOf []) (htab.trans rfl) (fun z hz => absurd hz List.not_mem_nil) (by decide) (by decide) (hts (.classLink RL 21 "java/lang/IndexOutOfBoundsException") (by decide +kernel)) (cast_w (E := xIO) hC.2.1 (by decide +kernel) (.castable xIO xIO) (by decide +kernel)) hce hcv hcl ?_
    have hW := hbw
    refine lv_astore (lv' := [(4, .ref q9), (0, .ref (gA g 0)), (1, .int a), (2, .int b), (3, .ref (gA g 12))]) hx hb dL_compare_13 hl (by decide) rfl (fun ls hl => ?_)
    refine lv_iconst (v := 1) hx hb dL_compare_15 (by decide) ?_
    refine W.widen (k := 2) (n := 12) (Nat.le_of_ble_eq_true rfl) (Nat.le_of_ble_eq_true rfl) ?_
    exact W.iret (v := 1) hx hb hr (fun t ht hW9 => ⟨⟨_, none, rfl, xQ_n (by decide) hk9, by first | (dsimp only [xB]; rw [ht]; exact hW) | (show Wd _ _ _ _ _; rw [ht]; exact hW)⟩, hS.F ht⟩) hS.2.2 dL_compare_16
  · skip
    replace hW : Wd g σ μ o H := by rw [← ht]; exact hW
    try dsimp only at h_1
    refine lv_i2l hx hb dL_compare_8 rfl ?_
    refine oSt hx hb hC hS hW ((r_2 : Int32).toInt64) dL_compare_9 (fun H locs hW hS => ?_)
    refine lv_goto (tgt := 17) hx hb dL_compare_10 (by decide) ?_
    refine lv_iconst (v := 0) hx hb dL_compare_17 (by decide) ?_
    refine W.widen (k := 2) (n := 12) (Nat.le_of_ble_eq_true rfl) (Nat.le_of_ble_eq_true rfl) ?_
    exact W.iret (v := 0) hx hb hr (fun t ht hW9 => ⟨⟨_, (some (r_2, u_3)), rfl, xQ_s rfl h_1, by first | (dsimp only [xB]; rw [ht]; exact hW) | (show Wd _ _ _ _ _; rw [ht]; exact hW)⟩, hS.F ht⟩) hS.2.2 dL_compare_18
set_option maxHeartbeats 4000000 in
set_option maxRecDepth 100000 in
theorem mtL_foretold (l : Launch) (g : Ge) (σ : Sg) (μ : Mg) (o : Nat → Int64) (hfl : l.stackTraces = false) (n : Int32) : Met l yL_foretold wsL_foretold ({ frames := 8, cells := 1, slots := 6, locals := 133 } : Room) (va_Pc [.ref (gA g 0), .int n, .ref (gA g 12)] (PW g σ μ o)) (va_Qi (S := Option (Int32 × (Nat))) (xQ (kRem σ n) (fun r u => kRem σ n = 0 ∧ fs (pN σ.2.1 n) 16 = some u ∧ r = mz (σ.2.2.1 0) (σ.2.1 u))) (xB (fun t => Wd g σ μ o t.heap) (fun r _ t => Wd g σ μ (vp_updL o 0 (r.toInt64)) t.heap)) (Az g)) 1 6 (Az g) := by
  refine va_MetW (cc := cL_foretold) (maxL := 4) (ret := (some .int)) (by decide) rfl ?_
  intro p e s m args below meth c s₁ B hml hv
  obtain ⟨rfl, hC, hW⟩ := hv
  have hx := B.exec
  have hb := B.bytes
  have hr := B.returns
  have hts := atoms_spec (ws := wsL_foretold) B.pre
  have hown : s.vm.findClass RL = some m.cls := findClass_of_methodNamed B.named
  have hlocks := B.notSynchronized
  have hS : va_S (Az g) s.heap s.heap [] := va_S.rf
  have hl := lv_entry ([.ref (gA g 0), .int n, .ref (gA g 12)]) (n := 4) (Nat.le_of_ble_eq_true rfl)
  rw [lg_entry_eq]
  generalize (lg_sl ([.ref (gA g 0), .int n, .ref (gA g 12)]) ++ List.replicate (4 - (lg_sl ([.ref (gA g 0), .int n, .ref (gA g 12)])).length) Slot.unset).toArray = ls at hl ⊢
  have hl : lv_has ls 4 [(0, .ref (gA g 0)), (1, .int n), (2, .ref (gA g 12))] := hl
  have htab := vx_table (x := yL_foretold) B (hts (.codeWith yL_foretold cL_foretold 4 (some .int) [(0, 9, 12, 21)]) (by exact List.mem_cons_self))
  refine lv_aload_n hx hb dL_foretold_0 rfl (lv_at hl 2 rfl) ?_
  refine lv_iconst (v := 0) hx hb dL_foretold_1 (by decide) ?_
  refine lv_aload_n hx hb dL_foretold_2 rfl (lv_at hl 0 rfl) ?_
  refine lv_iload_n hx hb dL_foretold_3 rfl (lv_at hl 1 rfl) ?_
  refine vx_calli (vx_runV (As := [.int n]) (rest := [.int 0, .ref (gA g 12)]) ⟨hx, hb, hml, hown, hts⟩ (mtX2_foretold l hfl g σ μ o n) (cwV 1 hts gL_foretold_X2_foretold rfl rfl rfl (by decide +kernel) ⟨Nat.le_of_ble_eq_true rfl, Nat.le_of_ble_eq_true rfl⟩) ⟨PW.blind, rcB hC hW, fun U hU hW9 => ⟨rfl, PW.at hC hS hW U hU hW9⟩⟩ rfl rfl hl.1 rfl (lv_room (Nat.le_of_ble_eq_true rfl)) dL_foretold_4 ⟨Nat.le_of_ble_eq_true rfl, Nat.le_of_ble_eq_true rfl⟩) hS (fun _ _ h => h) (fun _ h => h) (fun _ _ h => h) (fun E9 ce q9 u_3 t H locs ht hvm hpx hbx hz9 hk9 hS hce hcv hcl => ?_) (fun r_2 u_3 t H locs ht hvm h_1 hW hz9 hk9 hS => ?_)
  · skip
    obtain ⟨hbq, hbw⟩ := hbx
    try dsimp only at hbq
    replace hbw : Wd g σ μ o H := by rw [← ht]; exact hbw
    obtain ⟨rfl, hk9⟩ := hbq
    refine vx_catch (own := RL) (name := "java/lang/IndexOutOfBoundsException") hown (tableOf []) ⟨0, 9, 12, 21⟩ (tableOf []) (htab.trans rfl) (fun z hz => absurd hz List.not_mem_nil) (by decide) (by decide) (hts (.classLink RL 21 "java/lang/IndexOutOfBoundsException") (by decide +kernel)) (cast_w (E := xIO) hC.2.1 (by decide +kernel) (.castable xIO xIO) (by decide +kernel)) hce hcv hcl ?_
    have hW := hbw
    refine lv_astore_n (lv' := [(3, .ref q9), (0, .ref (gA g 0)), (1, .int n), (2, .ref (gA g 12))]) hx hb dL_foretold_12 rfl hl (by decide) rfl (fun ls hl => ?_)
    refine lv_iconst (v := 1) hx hb dL_foretold_13 (by decide) ?_
    refine W.widen (k := 1) (n := 6) (Nat.le_of_ble_eq_true rfl) (Nat.le_of_ble_eq_true rfl) ?_
    exact W.iret (v := 1) hx hb hr (fun t ht hW9 => ⟨⟨_, none, rfl, xQ_n (by decide) hk9, by first | (dsimp only [xB]; rw [ht]; exact hW) | (show Wd _ _ _ _ _; rw [ht]; exact hW)⟩, hS.F ht⟩) hS.2.2 dL_foretold_14
  · skip
    replace hW : Wd g σ μ o H := by rw [← ht]; exact hW
    try dsimp only at h_1
    refine lv_i2l hx hb dL_foretold_7 rfl ?_
    refine oSt hx hb hC hS hW ((r_2 : Int32).toInt64) dL_foretold_8 (fun H locs hW hS => ?_)
    refine lv_goto (tgt := 15) hx hb dL_foretold_9 (by decide) ?_
    refine lv_iconst (v := 0) hx hb dL_foretold_15 (by decide) ?_
    refine W.widen (k := 1) (n := 6) (Nat.le_of_ble_eq_true rfl) (Nat.le_of_ble_eq_true rfl) ?_
    exact W.iret (v := 0) hx hb hr (fun t ht hW9 => ⟨⟨_, (some (r_2, u_3)), rfl, xQ_s rfl h_1, by first | (dsimp only [xB]; rw [ht]; exact hW) | (show Wd _ _ _ _ _; rw [ht]; exact hW)⟩, hS.F ht⟩) hS.2.2 dL_foretold_16
