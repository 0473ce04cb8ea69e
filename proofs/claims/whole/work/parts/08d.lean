set_option maxHeartbeats 4000000 in
set_option maxRecDepth 100000 in
theorem mtX3_running (l : Launch) (g : Ge) (σ : Sg) (μ : Mg) (o : Nat → Int64)  : Met l yX3_running wsX3_running ({ frames := 0, cells := 0, slots := 0, locals := 0 } : Room) (va_Pc [.ref (gA g 4)] (PW g σ μ o)) (va_Qi (S := Unit) (fun r _ => r = μ.1 5) (fun _ t => Wd g σ (thr12 μ 0) o t.heap) (Az g)) 0 0 (Az g) := by
  refine Met.ofW (cc := cX3_running) (maxL := 1) (ret := (some .int)) (by decide) rfl ?_
  intro p e s m args below meth c s₁ B hml hv
  obtain ⟨rfl, hC, hW⟩ := hv
  have hx := B.exec
  have hb := B.bytes
  have hr := B.returns
  have hts := atoms_spec (ws := wsX3_running) B.pre
  have hown : s.vm.findClass RX3 = some m.cls := findClass_of_methodNamed B.named
  have hlocks := B.notSynchronized
  have hinX3 : ∀ w ∈ wsX30, w ∈ wsX3_running := by decide +kernel
  have hS : va_S (Az g) s.heap s.heap [] := va_S.rf
  have hl := lv_entry ([.ref (gA g 4)]) (n := 1) (Nat.le_of_ble_eq_true rfl)
  rw [lg_entry_eq]
  generalize (lg_sl ([.ref (gA g 4)]) ++ List.replicate (1 - (lg_sl ([.ref (gA g 4)])).length) Slot.unset).toArray = ls at hl ⊢
  have hl : lv_has ls 1 [(0, .ref (gA g 4))] := hl
  refine lv_aload_n hx hb dX3_running_0 rfl (lv_at hl 0 rfl) ?_
  refine lv_iconst (v := 0) hx hb dX3_running_1 (by decide) ?_
  refine pM (ty := .int) hx hb hts hinX3 hown hC hS hW 12 19 (by decide) (by decide +kernel) (by decide +kernel) (0) rfl rfl dX3_running_2 (fun H locs hW hS => ?_)
  refine lv_aload_n hx hb dX3_running_5 rfl (lv_at hl 0 rfl) ?_
  refine gM (v := .int (μ.1 5)) hx hb hts hinX3 hown hC hW 12 (by decide) (by decide +kernel) rfl rfl dX3_running_6 ?_
  exact W.iret (v := μ.1 5) hx hb hr (fun t ht hW9 => ⟨⟨_, (), rfl, rfl, by first | (rw [ht]; exact hW) | (dsimp only; rw [ht]; exact hW)⟩, hS.F ht⟩) hS.2.2 dX3_running_9
set_option maxHeartbeats 4000000 in
set_option maxRecDepth 100000 in
theorem mtX3_next (l : Launch) (g : Ge) (σ : Sg) (μ : Mg) (o : Nat → Int64) (a : Nat) (hM : μ.1 0 = nI a) (ha : a ≤ 60) : Met l yX3_next wsX3_next ({ frames := 4, cells := 0, slots := 0, locals := 93 } : Room) (va_Pc [.ref (gA g 4)] (PW g σ μ o)) (va_Qi (S := Unit) (fun r _ => r = chM μ a) (fun _ t => Wd g σ (thr12 μ 0) o t.heap) (Az g)) 0 0 (Az g) := by
  refine Met.ofW (cc := cX3_next) (maxL := 1) (ret := (some .int)) (by decide) rfl ?_
  intro p e s m args below meth c s₁ B hml hv
  obtain ⟨rfl, hC, hW⟩ := hv
  have hx := B.exec
  have hb := B.bytes
  have hr := B.returns
  have hts := atoms_spec (ws := wsX3_next) B.pre
  have hown : s.vm.findClass RX3 = some m.cls := findClass_of_methodNamed B.named
  have hlocks := B.notSynchronized
  have hinX3 : ∀ w ∈ wsX30, w ∈ wsX3_next := by decide +kernel
  have hS : va_S (Az g) s.heap s.heap [] := va_S.rf
  have hl := lv_entry ([.ref (gA g 4)]) (n := 1) (Nat.le_of_ble_eq_true rfl)
  rw [lg_entry_eq]
  generalize (lg_sl ([.ref (gA g 4)]) ++ List.replicate (1 - (lg_sl ([.ref (gA g 4)])).length) Slot.unset).toArray = ls at hl ⊢
  have hl : lv_has ls 1 [(0, .ref (gA g 4))] := hl
  refine lv_aload_n hx hb dX3_next_0 rfl (lv_at hl 0 rfl) ?_
  refine lv_iconst (v := 0) hx hb dX3_next_1 (by decide) ?_
  refine pM (ty := .int) hx hb hts hinX3 hown hC hS hW 12 19 (by decide) (by decide +kernel) (by decide +kernel) (0) rfl rfl dX3_next_2 (fun H locs hW hS => ?_)
  refine lv_aload_n hx hb dX3_next_5 rfl (lv_at hl 0 rfl) ?_
  refine vp_callSi (va_Run.run (va_runV (As := []) (rest := []) ⟨hx, hb, hml, hown, hts⟩ (mtX3_chosen l g σ ((upd μ.1 12 0, μ.2)) o a hM ha) (cwV 0 hts gX3_next_X3_chosen rfl rfl rfl (by decide +kernel) ⟨Nat.le_of_ble_eq_true rfl, Nat.le_of_ble_eq_true rfl⟩) ⟨PW.blind, rcM hC hW, fun U hU hW9 => ⟨rfl, PW.at hC hS hW U hU hW9⟩⟩ rfl rfl hl.1 rfl (lv_room (Nat.le_of_ble_eq_true rfl)) dX3_next_6 ⟨Nat.zero_le _, Nat.zero_le _⟩)) (fun r_2 h_1 => ?_)
  obtain rfl : r_2 = chM (upd μ.1 12 0, μ.2) a := h_1
  exact W.iret (v := (chM (upd μ.1 12 0, μ.2) a)) hx hb hr (fun t ht hW9 => ⟨⟨_, (), rfl, rfl, by first | (rw [ht]; exact hW) | (dsimp only; rw [ht]; exact hW)⟩, hS.F ht⟩) hS.2.2 dX3_next_9
set_option maxHeartbeats 4000000 in
set_option maxRecDepth 100000 in
theorem mtX3_entries (l : Launch) (g : Ge) (σ : Sg) (μ : Mg) (o : Nat → Int64) (a : Nat) (hM : μ.1 0 = nI a) (ha : a ≤ 60) : Met l yX3_entries wsX3_entries ({ frames := 1, cells := 0, slots := 0, locals := 22 } : Room) (va_Pc [.ref (gA g 4)] (PW g σ μ o)) (va_Qi (S := Unit) (fun r _ => r = nI (ct (thM μ) a)) (fun _ t => Wd g σ (thr12 μ 0) o t.heap) (Az g)) 0 0 (Az g) := by
  refine Met.ofW (cc := cX3_entries) (maxL := 1) (ret := (some .int)) (by decide) rfl ?_
  intro p e s m args below meth c s₁ B hml hv
  obtain ⟨rfl, hC, hW⟩ := hv
  have hx := B.exec
  have hb := B.bytes
  have hr := B.returns
  have hts := atoms_spec (ws := wsX3_entries) B.pre
  have hown : s.vm.findClass RX3 = some m.cls := findClass_of_methodNamed B.named
  have hlocks := B.notSynchronized
  have hinX3 : ∀ w ∈ wsX30, w ∈ wsX3_entries := by decide +kernel
  have hS : va_S (Az g) s.heap s.heap [] := va_S.rf
  have hl := lv_entry ([.ref (gA g 4)]) (n := 1) (Nat.le_of_ble_eq_true rfl)
  rw [lg_entry_eq]
  generalize (lg_sl ([.ref (gA g 4)]) ++ List.replicate (1 - (lg_sl ([.ref (gA g 4)])).length) Slot.unset).toArray = ls at hl ⊢
  have hl : lv_has ls 1 [(0, .ref (gA g 4))] := hl
  refine lv_aload_n hx hb dX3_entries_0 rfl (lv_at hl 0 rfl) ?_
  refine lv_iconst (v := 0) hx hb dX3_entries_1 (by decide) ?_
  refine pM (ty := .int) hx hb hts hinX3 hown hC hS hW 12 19 (by decide) (by decide +kernel) (by decide +kernel) (0) rfl rfl dX3_entries_2 (fun H locs hW hS => ?_)
  refine lv_aload_n hx hb dX3_entries_5 rfl (lv_at hl 0 rfl) ?_
  refine vp_callSi (va_Run.run (va_runV (As := []) (rest := []) ⟨hx, hb, hml, hown, hts⟩ (mtX3_count l g σ ((upd μ.1 12 0, μ.2)) o a hM ha) (cwV 0 hts gX3_entries_X3_count rfl rfl rfl (by decide +kernel) ⟨Nat.le_of_ble_eq_true rfl, Nat.le_of_ble_eq_true rfl⟩) ⟨PW.blind, rcM hC hW, fun U hU hW9 => ⟨rfl, PW.at hC hS hW U hU hW9⟩⟩ rfl rfl hl.1 rfl (lv_room (Nat.le_of_ble_eq_true rfl)) dX3_entries_6 ⟨Nat.zero_le _, Nat.zero_le _⟩)) (fun r_2 h_1 => ?_)
  obtain rfl : r_2 = nI (ct (thM (upd μ.1 12 0, μ.2)) a) := h_1
  exact W.iret (v := (nI (ct (thM (upd μ.1 12 0, μ.2)) a))) hx hb hr (fun t ht hW9 => ⟨⟨_, (), rfl, rfl, by first | (rw [ht]; exact hW) | (dsimp only; rw [ht]; exact hW)⟩, hS.F ht⟩) hS.2.2 dX3_entries_9
set_option maxHeartbeats 4000000 in
set_option maxRecDepth 100000 in
theorem mtX3_register (l : Launch) (g : Ge) (σ : Sg) (μ : Mg) (o : Nat → Int64)  : Met l yX3_register wsX3_register ({ frames := 0, cells := 0, slots := 0, locals := 0 } : Room) (va_Pc [.ref (gA g 4)] (PW g σ μ o)) (va_Qi (S := Unit) (fun r _ => r = μ.1 6) (fun _ t => Wd g σ (thr12 μ 0) o t.heap) (Az g)) 0 0 (Az g) := by
  refine Met.ofW (cc := cX3_register) (maxL := 1) (ret := (some .int)) (by decide) rfl ?_
  intro p e s m args below meth c s₁ B hml hv
  obtain ⟨rfl, hC, hW⟩ := hv
  have hx := B.exec
  have hb := B.bytes
  have hr := B.returns
  have hts := atoms_spec (ws := wsX3_register) B.pre
  have hown : s.vm.findClass RX3 = some m.cls := findClass_of_methodNamed B.named
  have hlocks := B.notSynchronized
  have hinX3 : ∀ w ∈ wsX30, w ∈ wsX3_register := by decide +kernel
  have hS : va_S (Az g) s.heap s.heap [] := va_S.rf
  have hl := lv_entry ([.ref (gA g 4)]) (n := 1) (Nat.le_of_ble_eq_true rfl)
  rw [lg_entry_eq]
  generalize (lg_sl ([.ref (gA g 4)]) ++ List.replicate (1 - (lg_sl ([.ref (gA g 4)])).length) Slot.unset).toArray = ls at hl ⊢
  have hl : lv_has ls 1 [(0, .ref (gA g 4))] := hl
  refine lv_aload_n hx hb dX3_register_0 rfl (lv_at hl 0 rfl) ?_
  refine lv_iconst (v := 0) hx hb dX3_register_1 (by decide) ?_
  refine pM (ty := .int) hx hb hts hinX3 hown hC hS hW 12 19 (by decide) (by decide +kernel) (by decide +kernel) (0) rfl rfl dX3_register_2 (fun H locs hW hS => ?_)
  refine lv_aload_n hx hb dX3_register_5 rfl (lv_at hl 0 rfl) ?_
  refine gM (v := .int (μ.1 6)) hx hb hts hinX3 hown hC hW 13 (by decide) (by decide +kernel) rfl rfl dX3_register_6 ?_
  exact W.iret (v := μ.1 6) hx hb hr (fun t ht hW9 => ⟨⟨_, (), rfl, rfl, by first | (rw [ht]; exact hW) | (dsimp only; rw [ht]; exact hW)⟩, hS.F ht⟩) hS.2.2 dX3_register_9
set_option maxHeartbeats 4000000 in
set_option maxRecDepth 100000 in
theorem mtX3_isLocked (l : Launch) (g : Ge) (σ : Sg) (μ : Mg) (o : Nat → Int64) (hk7 : narrow .boolean (.int (μ.1 7)) = .int (μ.1 7)) : Met l yX3_isLocked wsX3_isLocked ({ frames := 0, cells := 0, slots := 0, locals := 0 } : Room) (va_Pc [.ref (gA g 4)] (PW g σ μ o)) (va_Qi (S := Unit) (fun r _ => r = μ.1 7) (fun _ t => Wd g σ (thr12 μ 0) o t.heap) (Az g)) 0 0 (Az g) := by
  refine Met.ofW (cc := cX3_isLocked) (maxL := 1) (ret := (some .boolean)) (by decide) rfl ?_
  intro p e s m args below meth c s₁ B hml hv
  obtain ⟨rfl, hC, hW⟩ := hv
  have hx := B.exec
  have hb := B.bytes
  have hr := B.returns
  have hts := atoms_spec (ws := wsX3_isLocked) B.pre
  have hown : s.vm.findClass RX3 = some m.cls := findClass_of_methodNamed B.named
  have hlocks := B.notSynchronized
  have hinX3 : ∀ w ∈ wsX30, w ∈ wsX3_isLocked := by decide +kernel
  have hS : va_S (Az g) s.heap s.heap [] := va_S.rf
  have hl := lv_entry ([.ref (gA g 4)]) (n := 1) (Nat.le_of_ble_eq_true rfl)
  rw [lg_entry_eq]
  generalize (lg_sl ([.ref (gA g 4)]) ++ List.replicate (1 - (lg_sl ([.ref (gA g 4)])).length) Slot.unset).toArray = ls at hl ⊢
  have hl : lv_has ls 1 [(0, .ref (gA g 4))] := hl
  refine lv_aload_n hx hb dX3_isLocked_0 rfl (lv_at hl 0 rfl) ?_
  refine lv_iconst (v := 0) hx hb dX3_isLocked_1 (by decide) ?_
  refine pM (ty := .int) hx hb hts hinX3 hown hC hS hW 12 19 (by decide) (by decide +kernel) (by decide +kernel) (0) rfl rfl dX3_isLocked_2 (fun H locs hW hS => ?_)
  refine lv_aload_n hx hb dX3_isLocked_5 rfl (lv_at hl 0 rfl) ?_
  refine gM (v := .int (μ.1 7)) hx hb hts hinX3 hown hC hW 14 (by decide) (by decide +kernel) rfl rfl dX3_isLocked_6 ?_
  exact W.zret (v := μ.1 7) (ty := .boolean) hx hb hr hk7 (fun t ht hW9 => ⟨⟨_, (), rfl, rfl, by first | (rw [ht]; exact hW) | (dsimp only; rw [ht]; exact hW)⟩, hS.F ht⟩) hS.2.2 dX3_isLocked_9
set_option maxHeartbeats 4000000 in
set_option maxRecDepth 100000 in
theorem mtX3_lock (l : Launch) (g : Ge) (σ : Sg) (μ : Mg) (o : Nat → Int64) (code many : Int32) : Met l yX3_lock wsX3_lock ({ frames := 1, cells := 0, slots := 0, locals := 22 } : Room) (va_Pc [.ref (gA g 4), .int code, .int many] (PW g σ μ o)) (va_Qv (S := Unit) (fun _ => True) (fun _ t => Wd g σ (loM μ code many) o t.heap) (Az g)) 0 0 (Az g) := by
  refine Met.ofW (cc := cX3_lock) (maxL := 3) (ret := none) (by decide) rfl ?_
  intro p e s m args below meth c s₁ B hml hv
  obtain ⟨rfl, hC, hW⟩ := hv
  have hx := B.exec
  have hb := B.bytes
  have hr := B.returns
  have hts := atoms_spec (ws := wsX3_lock) B.pre
  have hown : s.vm.findClass RX3 = some m.cls := findClass_of_methodNamed B.named
  have hlocks := B.notSynchronized
  have hinX3 : ∀ w ∈ wsX30, w ∈ wsX3_lock := by decide +kernel
  have hS : va_S (Az g) s.heap s.heap [] := va_S.rf
  have hl := lv_entry ([.ref (gA g 4), .int code, .int many]) (n := 3) (Nat.le_of_ble_eq_true rfl)
  rw [lg_entry_eq]
  generalize (lg_sl ([.ref (gA g 4), .int code, .int many]) ++ List.replicate (3 - (lg_sl ([.ref (gA g 4), .int code, .int many])).length) Slot.unset).toArray = ls at hl ⊢
  have hl : lv_has ls 3 [(0, .ref (gA g 4)), (1, .int code), (2, .int many)] := hl
  refine lv_aload_n hx hb dX3_lock_0 rfl (lv_at hl 0 rfl) ?_
  refine lv_iload_n hx hb dX3_lock_1 rfl (lv_at hl 2 rfl) ?_
  refine lv_iconst (v := 1) hx hb dX3_lock_2 (by decide) ?_
  refine lv_bipush (v := 6) hx hb dX3_lock_3 (by decide) ?_
  refine vp_callSi (va_Run.run (va_runS (As := [.int many, .int 1, .int 6]) (rest := [.ref (gA g 4)]) ⟨hx, hb, hml, hown, hts⟩ (mtX3_isIn l many 1 6) (va_cwS 3 hts gX3_lock_X3_isIn rfl rfl rfl (by decide +kernel) ⟨Nat.le_of_ble_eq_true rfl, Nat.le_of_ble_eq_true rfl⟩) ⟨P0.blind, fun U hU hW9 => ⟨rfl, trivial⟩⟩ rfl rfl hl.1 rfl (lv_room (Nat.le_of_ble_eq_true rfl)) dX3_lock_5 ⟨Nat.zero_le _, Nat.zero_le _⟩)) (fun r_2 h_1 => ?_)
  obtain rfl : r_2 = bI (wi many 1 6) := h_1
  refine lv_if_ne (tgt := 15) hx hb dX3_lock_8 (by decide) (fun c_3 => ?_) (fun c_3 => ?_)
  · skip
    replace c_3 := bI_n0.mp c_3
    refine lv_iload_n hx hb dX3_lock_15 rfl (lv_at hl 1 rfl) ?_
    refine lv_if_lt (tgt := 27) hx hb dX3_lock_16 (by decide) (fun c_4 => ?_) (fun c_4 => ?_)
    · skip
      refine lv_iconst (v := 1) hx hb dX3_lock_27 (by decide) ?_
      refine lv_goto (tgt := 43) hx hb dX3_lock_28 (by decide) ?_
      refine pM (ty := .int) hx hb hts hinX3 hown hC hS hW 12 19 (by decide) (by decide +kernel) (by decide +kernel) (1) rfl rfl dX3_lock_43 (fun H locs hW hS => ?_)
      refine lv_aload_n hx hb dX3_lock_46 rfl (lv_at hl 0 rfl) ?_
      refine gM (v := .int 1) hx hb hts hinX3 hown hC hW 19 (by decide) (by decide +kernel) rfl rfl dX3_lock_47 ?_
      refine lv_if_le (tgt := 54) hx hb dX3_lock_50 (by decide) (fun c_5 => absurd c_5 (by decide)) (fun c_5 => ?_)
      have hk9 : kML μ code many = 1 := by simp [kML, c_3, c_4]
      exact W.vret hx hb hr (fun t ht hW9 => ⟨⟨(), rfl, trivial, by first | (dsimp only; rw [ht, show loM μ code many = (upd μ.1 12 1, μ.2) from by unfold loM; rw [hk9]; first | exact if_pos rfl | exact if_neg (by decide)]; exact hW) | (rw [ht, show loM μ code many = (upd μ.1 12 1, μ.2) from by unfold loM; rw [hk9]; first | exact if_pos rfl | exact if_neg (by decide)]; exact hW)⟩, hS.F ht⟩) hS.2.2 dX3_lock_53
    · skip
      refine lv_iload_n hx hb dX3_lock_19 rfl (lv_at hl 1 rfl) ?_
      refine lv_iload_n hx hb dX3_lock_20 rfl (lv_at hl 2 rfl) ?_
      refine vp_callSi (va_Run.run (va_runS (As := [.int many]) (rest := [.int code, .ref (gA g 4)]) ⟨hx, hb, hml, hown, hts⟩ (mtX3_ten l many (wi_n c_3)) (va_cwS 1 hts gX3_lock_X3_ten rfl rfl rfl (by decide +kernel) ⟨Nat.le_of_ble_eq_true rfl, Nat.le_of_ble_eq_true rfl⟩) ⟨P0.blind, fun U hU hW9 => ⟨rfl, trivial⟩⟩ rfl rfl hl.1 rfl (lv_room (Nat.le_of_ble_eq_true rfl)) dX3_lock_21 ⟨Nat.zero_le _, Nat.zero_le _⟩)) (fun r_7 h_6 => ?_)
      obtain rfl : r_7 = tn many := h_6
      refine lv_icmp_lt (tgt := 31) hx hb dX3_lock_24 (by decide) (fun c_8 => ?_) (fun c_8 => ?_)
      · skip
        refine lv_aload_n hx hb dX3_lock_31 rfl (lv_at hl 0 rfl) ?_
        refine gM (v := .int (μ.1 7)) hx hb hts hinX3 hown hC hW 14 (by decide) (by decide +kernel) rfl rfl dX3_lock_32 ?_
        refine lv_if_eq (tgt := 42) hx hb dX3_lock_35 (by decide) (fun c_9 => ?_) (fun c_9 => ?_)
        · skip
          refine lv_iconst (v := 0) hx hb dX3_lock_42 (by decide) ?_
          refine pM (ty := .int) hx hb hts hinX3 hown hC hS hW 12 19 (by decide) (by decide +kernel) (by decide +kernel) (0) rfl rfl dX3_lock_43 (fun H locs hW hS => ?_)
          refine lv_aload_n hx hb dX3_lock_46 rfl (lv_at hl 0 rfl) ?_
          refine gM (v := .int 0) hx hb hts hinX3 hown hC hW 19 (by decide) (by decide +kernel) rfl rfl dX3_lock_47 ?_
          refine lv_if_le (tgt := 54) hx hb dX3_lock_50 (by decide) (fun c_10 => ?_) (fun c_10 => absurd c_10 (by decide))
          refine lv_aload_n hx hb dX3_lock_54 rfl (lv_at hl 0 rfl) ?_
          refine lv_iload_n hx hb dX3_lock_55 rfl (lv_at hl 1 rfl) ?_
          refine pM (ty := .int) hx hb hts hinX3 hown hC hS hW 8 15 (by decide) (by decide +kernel) (by decide +kernel) (code) rfl rfl dX3_lock_56 (fun H locs hW hS => ?_)
          refine lv_aload_n hx hb dX3_lock_59 rfl (lv_at hl 0 rfl) ?_
          refine lv_iload_n hx hb dX3_lock_60 rfl (lv_at hl 2 rfl) ?_
          refine pM (ty := .int) hx hb hts hinX3 hown hC hS hW 9 16 (by decide) (by decide +kernel) (by decide +kernel) (many) rfl rfl dX3_lock_61 (fun H locs hW hS => ?_)
          refine lv_aload_n hx hb dX3_lock_64 rfl (lv_at hl 0 rfl) ?_
          refine lv_iconst (v := 1) hx hb dX3_lock_65 (by decide) ?_
          refine pM (ty := .boolean) hx hb hts hinX3 hown hC hS hW 7 14 (by decide) (by decide +kernel) (by decide +kernel) (1) rfl rfl dX3_lock_66 (fun H locs hW hS => ?_)
          refine lv_aload_n hx hb dX3_lock_69 rfl (lv_at hl 0 rfl) ?_
          refine lv_iconst (v := 0) hx hb dX3_lock_70 (by decide) ?_
          refine pM (ty := .int) hx hb hts hinX3 hown hC hS hW 10 17 (by decide) (by decide +kernel) (by decide +kernel) (0) rfl rfl dX3_lock_71 (fun H locs hW hS => ?_)
          refine lv_aload_n hx hb dX3_lock_74 rfl (lv_at hl 0 rfl) ?_
          refine lv_iconst (v := 0) hx hb dX3_lock_75 (by decide) ?_
          refine pM (ty := .int) hx hb hts hinX3 hown hC hS hW 11 18 (by decide) (by decide +kernel) (by decide +kernel) (0) rfl rfl dX3_lock_76 (fun H locs hW hS => ?_)
          have hk9 : kML μ code many = 0 := by simp [kML, c_3, c_4, c_8, c_9]
          exact W.vret hx hb hr (fun t ht hW9 => ⟨⟨(), rfl, trivial, by first | (dsimp only; rw [ht, show loM μ code many = (upd (upd (upd (upd (upd (upd μ.1 12 0) 8 code) 9 many) 7 1) 10 0) 11 0, μ.2) from by unfold loM; rw [hk9]; first | exact if_pos rfl | exact if_neg (by decide)]; exact hW) | (rw [ht, show loM μ code many = (upd (upd (upd (upd (upd (upd μ.1 12 0) 8 code) 9 many) 7 1) 10 0) 11 0, μ.2) from by unfold loM; rw [hk9]; first | exact if_pos rfl | exact if_neg (by decide)]; exact hW)⟩, hS.F ht⟩) hS.2.2 dX3_lock_79
        · skip
          refine lv_iconst (v := 2) hx hb dX3_lock_38 (by decide) ?_
          refine lv_goto (tgt := 43) hx hb dX3_lock_39 (by decide) ?_
          refine pM (ty := .int) hx hb hts hinX3 hown hC hS hW 12 19 (by decide) (by decide +kernel) (by decide +kernel) (2) rfl rfl dX3_lock_43 (fun H locs hW hS => ?_)
          refine lv_aload_n hx hb dX3_lock_46 rfl (lv_at hl 0 rfl) ?_
          refine gM (v := .int 2) hx hb hts hinX3 hown hC hW 19 (by decide) (by decide +kernel) rfl rfl dX3_lock_47 ?_
          refine lv_if_le (tgt := 54) hx hb dX3_lock_50 (by decide) (fun c_11 => absurd c_11 (by decide)) (fun c_11 => ?_)
          have hk9 : kML μ code many = 2 := by simp [kML, c_3, c_4, c_8, c_9]
          exact W.vret hx hb hr (fun t ht hW9 => ⟨⟨(), rfl, trivial, by first | (dsimp only; rw [ht, show loM μ code many = (upd μ.1 12 2, μ.2) from by unfold loM; rw [hk9]; first | exact if_pos rfl | exact if_neg (by decide)]; exact hW) | (rw [ht, show loM μ code many = (upd μ.1 12 2, μ.2) from by unfold loM; rw [hk9]; first | exact if_pos rfl | exact if_neg (by decide)]; exact hW)⟩, hS.F ht⟩) hS.2.2 dX3_lock_53
      · skip
        refine lv_iconst (v := 1) hx hb dX3_lock_27 (by decide) ?_
        refine lv_goto (tgt := 43) hx hb dX3_lock_28 (by decide) ?_
        refine pM (ty := .int) hx hb hts hinX3 hown hC hS hW 12 19 (by decide) (by decide +kernel) (by decide +kernel) (1) rfl rfl dX3_lock_43 (fun H locs hW hS => ?_)
        refine lv_aload_n hx hb dX3_lock_46 rfl (lv_at hl 0 rfl) ?_
        refine gM (v := .int 1) hx hb hts hinX3 hown hC hW 19 (by decide) (by decide +kernel) rfl rfl dX3_lock_47 ?_
        refine lv_if_le (tgt := 54) hx hb dX3_lock_50 (by decide) (fun c_12 => absurd c_12 (by decide)) (fun c_12 => ?_)
        have hk9 : kML μ code many = 1 := by simp [kML, c_3, c_4, c_8]
        exact W.vret hx hb hr (fun t ht hW9 => ⟨⟨(), rfl, trivial, by first | (dsimp only; rw [ht, show loM μ code many = (upd μ.1 12 1, μ.2) from by unfold loM; rw [hk9]; first | exact if_pos rfl | exact if_neg (by decide)]; exact hW) | (rw [ht, show loM μ code many = (upd μ.1 12 1, μ.2) from by unfold loM; rw [hk9]; first | exact if_pos rfl | exact if_neg (by decide)]; exact hW)⟩, hS.F ht⟩) hS.2.2 dX3_lock_53
  · skip
    replace c_3 := bI_0.mp c_3
    refine lv_iconst (v := 1) hx hb dX3_lock_11 (by decide) ?_
    refine lv_goto (tgt := 43) hx hb dX3_lock_12 (by decide) ?_
    refine pM (ty := .int) hx hb hts hinX3 hown hC hS hW 12 19 (by decide) (by decide +kernel) (by decide +kernel) (1) rfl rfl dX3_lock_43 (fun H locs hW hS => ?_)
    refine lv_aload_n hx hb dX3_lock_46 rfl (lv_at hl 0 rfl) ?_
    refine gM (v := .int 1) hx hb hts hinX3 hown hC hW 19 (by decide) (by decide +kernel) rfl rfl dX3_lock_47 ?_
    refine lv_if_le (tgt := 54) hx hb dX3_lock_50 (by decide) (fun c_13 => absurd c_13 (by decide)) (fun c_13 => ?_)
    have hk9 : kML μ code many = 1 := by simp [kML, c_3]
    exact W.vret hx hb hr (fun t ht hW9 => ⟨⟨(), rfl, trivial, by first | (dsimp only; rw [ht, show loM μ code many = (upd μ.1 12 1, μ.2) from by unfold loM; rw [hk9]; first | exact if_pos rfl | exact if_neg (by decide)]; exact hW) | (rw [ht, show loM μ code many = (upd μ.1 12 1, μ.2) from by unfold loM; rw [hk9]; first | exact if_pos rfl | exact if_neg (by decide)]; exact hW)⟩, hS.F ht⟩) hS.2.2 dX3_lock_53
