set_option maxHeartbeats 4000000 in
set_option maxRecDepth 100000 in
theorem mtX3_chosen (l : Launch) (g : Ge) (σ : Sg) (μ : Mg) (o : Nat → Int64) (a : Nat) (hM : μ.1 0 = nI a) (ha : a ≤ 60) : Met l yX3_chosen wsX3_chosen ({ frames := 3, cells := 0, slots := 0, locals := 72 } : Room) (va_Pc [.ref (gA g 4)] (PW g σ μ o)) (vp_Si (fun r => r = chM μ a)) 0 0 (fun _ => False) := by
  refine Met.ofW (cc := cX3_chosen) (maxL := 2) (ret := (some .int)) (by decide) rfl ?_
  intro p e s m args below meth c s₁ B hml hv
  obtain ⟨rfl, hC, hW⟩ := hv
  have hx := B.exec
  have hb := B.bytes
  have hr := B.returns
  have hts := atoms_spec (ws := wsX3_chosen) B.pre
  have hown : s.vm.findClass RX3 = some m.cls := findClass_of_methodNamed B.named
  have hlocks := B.notSynchronized
  have hinX3 : ∀ w ∈ wsX30, w ∈ wsX3_chosen := by decide +kernel
  have hS : va_S (Az g) s.heap s.heap [] := va_S.rf
  have hl := lv_entry ([.ref (gA g 4)]) (n := 2) (Nat.le_of_ble_eq_true rfl)
  rw [lg_entry_eq]
  generalize (lg_sl ([.ref (gA g 4)]) ++ List.replicate (2 - (lg_sl ([.ref (gA g 4)])).length) Slot.unset).toArray = ls at hl ⊢
  have hl : lv_has ls 2 [(0, .ref (gA g 4))] := hl
  refine lv_aload_n hx hb dX3_chosen_0 rfl (lv_at hl 0 rfl) ?_
  refine lv_aload_n hx hb dX3_chosen_1 rfl (lv_at hl 0 rfl) ?_
  refine gM (v := .int (μ.1 2)) hx hb hts hinX3 hown hC hW 9 (by decide) (by decide +kernel) rfl rfl dX3_chosen_2 ?_
  refine vp_callSi (va_Run.run (va_runV (As := [.int (μ.1 2)]) (rest := []) ⟨hx, hb, hml, hown, hts⟩ (mtX3_isThere l g σ μ o (μ.1 2) a hM ha) (cwV 1 hts gX3_chosen_X3_isThere rfl rfl rfl (by decide +kernel) ⟨Nat.le_of_ble_eq_true rfl, Nat.le_of_ble_eq_true rfl⟩) ⟨PW.blind, rcM hC hW, fun U hU hW9 => ⟨rfl, PW.at hC hS hW U hU hW9⟩⟩ rfl rfl hl.1 rfl (lv_room (Nat.le_of_ble_eq_true rfl)) dX3_chosen_5 ⟨Nat.zero_le _, Nat.zero_le _⟩)) (fun r_2 h_1 => ?_)
  obtain rfl : r_2 = bI (mt μ (μ.1 2)) := h_1
  refine lv_if_eq (tgt := 16) hx hb dX3_chosen_8 (by decide) (fun c_3 => ?_) (fun c_3 => ?_)
  · skip
    replace c_3 := bI_0.mp c_3
    refine lv_aload_n hx hb dX3_chosen_16 rfl (lv_at hl 0 rfl) ?_
    refine lv_aload_n hx hb dX3_chosen_17 rfl (lv_at hl 0 rfl) ?_
    refine gM (v := .int (μ.1 1)) hx hb hts hinX3 hown hC hW 8 (by decide) (by decide +kernel) rfl rfl dX3_chosen_18 ?_
    refine vp_callSi (va_Run.run (va_runV (As := [.int (μ.1 1)]) (rest := []) ⟨hx, hb, hml, hown, hts⟩ (mtX3_isThere l g σ μ o (μ.1 1) a hM ha) (cwV 1 hts gX3_chosen_X3_isThere rfl rfl rfl (by decide +kernel) ⟨Nat.le_of_ble_eq_true rfl, Nat.le_of_ble_eq_true rfl⟩) ⟨PW.blind, rcM hC hW, fun U hU hW9 => ⟨rfl, PW.at hC hS hW U hU hW9⟩⟩ rfl rfl hl.1 rfl (lv_room (Nat.le_of_ble_eq_true rfl)) dX3_chosen_21 ⟨Nat.zero_le _, Nat.zero_le _⟩)) (fun r_5 h_4 => ?_)
    obtain rfl : r_5 = bI (mt μ (μ.1 1)) := h_4
    refine lv_if_eq (tgt := 44) hx hb dX3_chosen_24 (by decide) (fun c_6 => ?_) (fun c_6 => ?_)
    · skip
      replace c_6 := bI_0.mp c_6
      refine lv_aload_n hx hb dX3_chosen_44 rfl (lv_at hl 0 rfl) ?_
      refine lv_iconst (v := 0) hx hb dX3_chosen_45 (by decide) ?_
      refine vp_callSi (va_Run.run (va_runV (As := [.int 0]) (rest := []) ⟨hx, hb, hml, hown, hts⟩ (mtX3_first l g σ μ o false a hM ha) (cwV 1 hts gX3_chosen_X3_first rfl rfl rfl (by decide +kernel) ⟨Nat.le_of_ble_eq_true rfl, Nat.le_of_ble_eq_true rfl⟩) ⟨PW.blind, rcM hC hW, fun U hU hW9 => ⟨rfl, PW.at hC hS hW U hU hW9⟩⟩ rfl rfl hl.1 rfl (lv_room (Nat.le_of_ble_eq_true rfl)) dX3_chosen_46 ⟨Nat.zero_le _, Nat.zero_le _⟩)) (fun r_8 h_7 => ?_)
      obtain rfl : r_8 = oI (fstM μ false a) := h_7
      refine lv_istore_n (lv' := [(1, .int ((oI (fstM μ false a)))), (0, .ref (gA g 4))]) hx hb dX3_chosen_49 rfl hl (by decide) rfl (fun ls hl => ?_)
      refine lv_iload_n hx hb dX3_chosen_50 rfl (lv_at hl 0 rfl) ?_
      refine lv_if_ge (tgt := 62) hx hb dX3_chosen_51 (by decide) (fun c_9 => ?_) (fun c_9 => ?_)
      · skip
        refine lv_iload_n hx hb dX3_chosen_62 rfl (lv_at hl 0 rfl) ?_
        exact W.iret (v := (oI (fstM μ false a))) hx hb hr (fun t ht hW9 => ⟨_, rfl, by simp only [chM, ↓reduceIte, Bool.false_eq_true, c_3, c_6, c_9], ht⟩) (fun q h => by cases h) dX3_chosen_63
      · skip
        refine lv_aload_n hx hb dX3_chosen_54 rfl (lv_at hl 1 rfl) ?_
        refine lv_iconst (v := 1) hx hb dX3_chosen_55 (by decide) ?_
        refine vp_callSi (va_Run.run (va_runV (As := [.int 1]) (rest := []) ⟨hx, hb, hml, hown, hts⟩ (mtX3_first l g σ μ o true a hM ha) (cwV 1 hts gX3_chosen_X3_first rfl rfl rfl (by decide +kernel) ⟨Nat.le_of_ble_eq_true rfl, Nat.le_of_ble_eq_true rfl⟩) ⟨PW.blind, rcM hC hW, fun U hU hW9 => ⟨rfl, PW.at hC hS hW U hU hW9⟩⟩ rfl rfl hl.1 rfl (lv_room (Nat.le_of_ble_eq_true rfl)) dX3_chosen_56 ⟨Nat.zero_le _, Nat.zero_le _⟩)) (fun r_11 h_10 => ?_)
        obtain rfl : r_11 = oI (fstM μ true a) := h_10
        refine lv_goto (tgt := 63) hx hb dX3_chosen_59 (by decide) ?_
        exact W.iret (v := (oI (fstM μ true a))) hx hb hr (fun t ht hW9 => ⟨_, rfl, by simp only [chM, ↓reduceIte, Bool.false_eq_true, c_3, c_6, c_9], ht⟩) (fun q h => by cases h) dX3_chosen_63
    · skip
      replace c_6 := bI_n0.mp c_6
      refine lv_aload_n hx hb dX3_chosen_27 rfl (lv_at hl 0 rfl) ?_
      refine gM (v := .ref (gA g 10)) hx hb hts hinX3 hown hC hW 6 (by decide) (by decide +kernel) rfl rfl dX3_chosen_28 ?_
      refine lv_aload_n hx hb dX3_chosen_31 rfl (lv_at hl 0 rfl) ?_
      refine gM (v := .int (μ.1 1)) hx hb hts hinX3 hown hC hW 8 (by decide) (by decide +kernel) rfl rfl dX3_chosen_32 ?_
      refine mLdI 4 (by decide) (mt_in hM ha c_6) hx hb hC hW dX3_chosen_35 ?_
      refine lv_if_eq (tgt := 44) hx hb dX3_chosen_36 (by decide) (fun c_12 => ?_) (fun c_12 => ?_)
      · skip
        refine lv_aload_n hx hb dX3_chosen_44 rfl (lv_at hl 0 rfl) ?_
        refine lv_iconst (v := 0) hx hb dX3_chosen_45 (by decide) ?_
        refine vp_callSi (va_Run.run (va_runV (As := [.int 0]) (rest := []) ⟨hx, hb, hml, hown, hts⟩ (mtX3_first l g σ μ o false a hM ha) (cwV 1 hts gX3_chosen_X3_first rfl rfl rfl (by decide +kernel) ⟨Nat.le_of_ble_eq_true rfl, Nat.le_of_ble_eq_true rfl⟩) ⟨PW.blind, rcM hC hW, fun U hU hW9 => ⟨rfl, PW.at hC hS hW U hU hW9⟩⟩ rfl rfl hl.1 rfl (lv_room (Nat.le_of_ble_eq_true rfl)) dX3_chosen_46 ⟨Nat.zero_le _, Nat.zero_le _⟩)) (fun r_14 h_13 => ?_)
        obtain rfl : r_14 = oI (fstM μ false a) := h_13
        refine lv_istore_n (lv' := [(1, .int ((oI (fstM μ false a)))), (0, .ref (gA g 4))]) hx hb dX3_chosen_49 rfl hl (by decide) rfl (fun ls hl => ?_)
        refine lv_iload_n hx hb dX3_chosen_50 rfl (lv_at hl 0 rfl) ?_
        refine lv_if_ge (tgt := 62) hx hb dX3_chosen_51 (by decide) (fun c_15 => ?_) (fun c_15 => ?_)
        · skip
          refine lv_iload_n hx hb dX3_chosen_62 rfl (lv_at hl 0 rfl) ?_
          exact W.iret (v := (oI (fstM μ false a))) hx hb hr (fun t ht hW9 => ⟨_, rfl, by simp only [chM, ↓reduceIte, Bool.false_eq_true, c_3, c_6, c_12, c_15], ht⟩) (fun q h => by cases h) dX3_chosen_63
        · skip
          refine lv_aload_n hx hb dX3_chosen_54 rfl (lv_at hl 1 rfl) ?_
          refine lv_iconst (v := 1) hx hb dX3_chosen_55 (by decide) ?_
          refine vp_callSi (va_Run.run (va_runV (As := [.int 1]) (rest := []) ⟨hx, hb, hml, hown, hts⟩ (mtX3_first l g σ μ o true a hM ha) (cwV 1 hts gX3_chosen_X3_first rfl rfl rfl (by decide +kernel) ⟨Nat.le_of_ble_eq_true rfl, Nat.le_of_ble_eq_true rfl⟩) ⟨PW.blind, rcM hC hW, fun U hU hW9 => ⟨rfl, PW.at hC hS hW U hU hW9⟩⟩ rfl rfl hl.1 rfl (lv_room (Nat.le_of_ble_eq_true rfl)) dX3_chosen_56 ⟨Nat.zero_le _, Nat.zero_le _⟩)) (fun r_17 h_16 => ?_)
          obtain rfl : r_17 = oI (fstM μ true a) := h_16
          refine lv_goto (tgt := 63) hx hb dX3_chosen_59 (by decide) ?_
          exact W.iret (v := (oI (fstM μ true a))) hx hb hr (fun t ht hW9 => ⟨_, rfl, by simp only [chM, ↓reduceIte, Bool.false_eq_true, c_3, c_6, c_12, c_15], ht⟩) (fun q h => by cases h) dX3_chosen_63
      · skip
        refine lv_aload_n hx hb dX3_chosen_39 rfl (lv_at hl 0 rfl) ?_
        refine gM (v := .int (μ.1 1)) hx hb hts hinX3 hown hC hW 8 (by decide) (by decide +kernel) rfl rfl dX3_chosen_40 ?_
        exact W.iret (v := μ.1 1) hx hb hr (fun t ht hW9 => ⟨_, rfl, by simp only [chM, ↓reduceIte, Bool.false_eq_true, c_3, c_6, c_12], ht⟩) (fun q h => by cases h) dX3_chosen_43
  · skip
    replace c_3 := bI_n0.mp c_3
    refine lv_aload_n hx hb dX3_chosen_11 rfl (lv_at hl 0 rfl) ?_
    refine gM (v := .int (μ.1 2)) hx hb hts hinX3 hown hC hW 9 (by decide) (by decide +kernel) rfl rfl dX3_chosen_12 ?_
    exact W.iret (v := μ.1 2) hx hb hr (fun t ht hW9 => ⟨_, rfl, by simp only [chM, ↓reduceIte, Bool.false_eq_true, c_3], ht⟩) (fun q h => by cases h) dX3_chosen_15
set_option maxHeartbeats 4000000 in
set_option maxRecDepth 100000 in
theorem mtX3_taken (l : Launch) (x y : Int32) : Met l yX3_taken wsX3_taken ({ frames := 0, cells := 0, slots := 0, locals := 0 } : Room) (va_Pc [.int x, .int y] P0) (vp_Si (fun r => r = tk x y)) 0 0 (fun _ => False) := by
  refine Met.ofW (cc := cX3_taken) (maxL := 2) (ret := (some .int)) (by decide) rfl ?_
  intro p e s m args below meth c s₁ B hml hv
  obtain ⟨rfl, -⟩ := hv
  have hx := B.exec
  have hb := B.bytes
  have hr := B.returns
  have hts := atoms_spec (ws := wsX3_taken) B.pre
  have hown : s.vm.findClass RX3 = some m.cls := findClass_of_methodNamed B.named
  have hlocks := B.notSynchronized
  have hl := lv_entry ([.int x, .int y]) (n := 2) (Nat.le_of_ble_eq_true rfl)
  rw [lg_entry_eq]
  generalize (lg_sl ([.int x, .int y]) ++ List.replicate (2 - (lg_sl ([.int x, .int y])).length) Slot.unset).toArray = ls at hl ⊢
  have hl : lv_has ls 2 [(0, .int x), (1, .int y)] := hl
  refine lv_iload_n hx hb dX3_taken_0 rfl (lv_at hl 0 rfl) ?_
  refine lv_i2l hx hb dX3_taken_1 rfl ?_
  refine lv_ldc2 (v := 31) hx hb hown (hts (.constantLong RX3 86 (31)) (by decide +kernel)) dX3_taken_2 ?_
  refine lv_lmul hx hb dX3_taken_5 ?_
  refine lv_iload_n hx hb dX3_taken_6 rfl (lv_at hl 1 rfl) ?_
  refine lv_i2l hx hb dX3_taken_7 rfl ?_
  refine lv_ladd hx hb dX3_taken_8 ?_
  refine lv_ldc2 (v := 7) hx hb hown (hts (.constantLong RX3 88 (7)) (by decide +kernel)) dX3_taken_9 ?_
  refine lv_ladd hx hb dX3_taken_12 ?_
  refine lv_ldc2 (v := 1000003) hx hb hown (hts (.constantLong RX3 90 (1000003)) (by decide +kernel)) dX3_taken_13 ?_
  refine lv_lrem hx hb dX3_taken_16 (by decide) ?_
  refine lv_l2i hx hb dX3_taken_17 rfl ?_
  exact W.iret (v := ((((((x : Int32).toInt64 * 31) + (y : Int32).toInt64) + 7) - ((((x : Int32).toInt64 * 31) + (y : Int32).toInt64) + 7) / 1000003 * 1000003) : Int64).toInt32) hx hb hr (fun t ht hW9 => ⟨_, rfl, rfl, ht⟩) (fun q h => by cases h) dX3_taken_18
set_option maxHeartbeats 4000000 in
set_option maxRecDepth 100000 in
theorem mtX3_measured (l : Launch) (g : Ge) (σ : Sg) (μ : Mg) (o : Nat → Int64) (x : Int32) (hx1 : vp_in x 60) : Met l yX3_measured wsX3_measured ({ frames := 1, cells := 0, slots := 0, locals := 21 } : Room) (va_Pc [.ref (gA g 4), .int x] (PW g σ μ o)) (vp_Si (fun r => r = mzM μ x)) 0 0 (fun _ => False) := by
  refine Met.ofW (cc := cX3_measured) (maxL := 3) (ret := (some .int)) (by decide) rfl ?_
  intro p e s m args below meth c s₁ B hml hv
  obtain ⟨rfl, hC, hW⟩ := hv
  have hx := B.exec
  have hb := B.bytes
  have hr := B.returns
  have hts := atoms_spec (ws := wsX3_measured) B.pre
  have hown : s.vm.findClass RX3 = some m.cls := findClass_of_methodNamed B.named
  have hlocks := B.notSynchronized
  have hinX3 : ∀ w ∈ wsX30, w ∈ wsX3_measured := by decide +kernel
  have hS : va_S (Az g) s.heap s.heap [] := va_S.rf
  have hl := lv_entry ([.ref (gA g 4), .int x]) (n := 3) (Nat.le_of_ble_eq_true rfl)
  rw [lg_entry_eq]
  generalize (lg_sl ([.ref (gA g 4), .int x]) ++ List.replicate (3 - (lg_sl ([.ref (gA g 4), .int x])).length) Slot.unset).toArray = ls at hl ⊢
  have hl : lv_has ls 3 [(0, .ref (gA g 4)), (1, .int x)] := hl
  refine lv_iconst (v := 0) hx hb dX3_measured_0 (by decide) ?_
  refine lv_aload_n hx hb dX3_measured_1 rfl (lv_at hl 0 rfl) ?_
  refine gM (v := .int (μ.1 7)) hx hb hts hinX3 hown hC hW 14 (by decide) (by decide +kernel) rfl rfl dX3_measured_2 ?_
  refine lv_if_eq (tgt := 12) hx hb dX3_measured_5 (by decide) (fun c_1 => ?_) (fun c_1 => ?_)
  · skip
    refine lv_iconst (v := 0) hx hb dX3_measured_12 (by decide) ?_
    refine vp_callSi (va_Run.run (va_runS (As := [.int 0, .int 0]) (rest := []) ⟨hx, hb, hml, hown, hts⟩ (mtX3_taken l 0 0) (va_cwS 2 hts gX3_measured_X3_taken rfl rfl rfl (by decide +kernel) ⟨Nat.le_of_ble_eq_true rfl, Nat.le_of_ble_eq_true rfl⟩) ⟨P0.blind, fun U hU hW9 => ⟨rfl, trivial⟩⟩ rfl rfl hl.1 rfl (lv_room (Nat.le_of_ble_eq_true rfl)) dX3_measured_13 ⟨Nat.zero_le _, Nat.zero_le _⟩)) (fun r_3 h_2 => ?_)
    obtain rfl : r_3 = tk 0 0 := h_2
    refine lv_istore_n (lv' := [(2, .int ((tk 0 0))), (0, .ref (gA g 4)), (1, .int x)]) hx hb dX3_measured_16 rfl hl (by decide) rfl (fun ls hl => ?_)
    refine lv_iload_n hx hb dX3_measured_17 rfl (lv_at hl 0 rfl) ?_
    refine lv_aload_n hx hb dX3_measured_18 rfl (lv_at hl 1 rfl) ?_
    refine gM (v := .ref (gA g 6)) hx hb hts hinX3 hown hC hW 2 (by decide) (by decide +kernel) rfl rfl dX3_measured_19 ?_
    refine lv_iload_n hx hb dX3_measured_22 rfl (lv_at hl 2 rfl) ?_
    refine mLdI 0 (by decide) hx1 hx hb hC hW dX3_measured_23 ?_
    refine vp_callSi (va_Run.run (va_runS (As := [.int ((tk 0 0)), .int (μ.2 1 x.toNatClampNeg)]) (rest := []) ⟨hx, hb, hml, hown, hts⟩ (mtX3_taken l (tk 0 0) (μ.2 1 x.toNatClampNeg)) (va_cwS 2 hts gX3_measured_X3_taken rfl rfl rfl (by decide +kernel) ⟨Nat.le_of_ble_eq_true rfl, Nat.le_of_ble_eq_true rfl⟩) ⟨P0.blind, fun U hU hW9 => ⟨rfl, trivial⟩⟩ rfl rfl hl.1 rfl (lv_room (Nat.le_of_ble_eq_true rfl)) dX3_measured_24 ⟨Nat.zero_le _, Nat.zero_le _⟩)) (fun r_5 h_4 => ?_)
    obtain rfl : r_5 = tk (tk 0 0) (μ.2 1 x.toNatClampNeg) := h_4
    refine lv_istore_n (lv' := [(2, .int ((tk (tk 0 0) (μ.2 1 x.toNatClampNeg)))), (0, .ref (gA g 4)), (1, .int x)]) hx hb dX3_measured_27 rfl hl (by decide) rfl (fun ls hl => ?_)
    refine lv_iload_n hx hb dX3_measured_28 rfl (lv_at hl 0 rfl) ?_
    refine lv_aload_n hx hb dX3_measured_29 rfl (lv_at hl 1 rfl) ?_
    refine gM (v := .ref (gA g 8)) hx hb hts hinX3 hown hC hW 4 (by decide) (by decide +kernel) rfl rfl dX3_measured_30 ?_
    refine lv_iload_n hx hb dX3_measured_33 rfl (lv_at hl 2 rfl) ?_
    refine mLdI 2 (by decide) hx1 hx hb hC hW dX3_measured_34 ?_
    refine lv_ldc (v := 1000000) hx hb hown (hts (.constant RX3 95 (1000000)) (by decide +kernel)) dX3_measured_35 ?_
    refine lv_idiv hx hb dX3_measured_37 (by decide) ?_
    refine vp_callSi (va_Run.run (va_runS (As := [.int ((tk (tk 0 0) (μ.2 1 x.toNatClampNeg))), .int ((μ.2 3 x.toNatClampNeg / 1000000))]) (rest := []) ⟨hx, hb, hml, hown, hts⟩ (mtX3_taken l (tk (tk 0 0) (μ.2 1 x.toNatClampNeg)) (μ.2 3 x.toNatClampNeg / 1000000)) (va_cwS 2 hts gX3_measured_X3_taken rfl rfl rfl (by decide +kernel) ⟨Nat.le_of_ble_eq_true rfl, Nat.le_of_ble_eq_true rfl⟩) ⟨P0.blind, fun U hU hW9 => ⟨rfl, trivial⟩⟩ rfl rfl hl.1 rfl (lv_room (Nat.le_of_ble_eq_true rfl)) dX3_measured_38 ⟨Nat.zero_le _, Nat.zero_le _⟩)) (fun r_7 h_6 => ?_)
    obtain rfl : r_7 = tk (tk (tk 0 0) (μ.2 1 x.toNatClampNeg)) (μ.2 3 x.toNatClampNeg / 1000000) := h_6
    refine lv_istore_n (lv' := [(2, .int ((tk (tk (tk 0 0) (μ.2 1 x.toNatClampNeg)) (μ.2 3 x.toNatClampNeg / 1000000)))), (0, .ref (gA g 4)), (1, .int x)]) hx hb dX3_measured_41 rfl hl (by decide) rfl (fun ls hl => ?_)
    refine lv_iload_n hx hb dX3_measured_42 rfl (lv_at hl 0 rfl) ?_
    refine lv_aload_n hx hb dX3_measured_43 rfl (lv_at hl 1 rfl) ?_
    refine gM (v := .ref (gA g 8)) hx hb hts hinX3 hown hC hW 4 (by decide) (by decide +kernel) rfl rfl dX3_measured_44 ?_
    refine lv_iload_n hx hb dX3_measured_47 rfl (lv_at hl 2 rfl) ?_
    refine mLdI 2 (by decide) hx1 hx hb hC hW dX3_measured_48 ?_
    refine lv_sipush (v := 1000) hx hb dX3_measured_49 (by decide) ?_
    refine lv_idiv hx hb dX3_measured_52 (by decide) ?_
    refine lv_sipush (v := 1000) hx hb dX3_measured_53 (by decide) ?_
    refine lv_irem hx hb dX3_measured_56 (by decide) ?_
    refine vp_callSi (va_Run.run (va_runS (As := [.int ((tk (tk (tk 0 0) (μ.2 1 x.toNatClampNeg)) (μ.2 3 x.toNatClampNeg / 1000000))), .int (((μ.2 3 x.toNatClampNeg / 1000) - (μ.2 3 x.toNatClampNeg / 1000) / 1000 * 1000))]) (rest := []) ⟨hx, hb, hml, hown, hts⟩ (mtX3_taken l (tk (tk (tk 0 0) (μ.2 1 x.toNatClampNeg)) (μ.2 3 x.toNatClampNeg / 1000000)) ((μ.2 3 x.toNatClampNeg / 1000) - (μ.2 3 x.toNatClampNeg / 1000) / 1000 * 1000)) (va_cwS 2 hts gX3_measured_X3_taken rfl rfl rfl (by decide +kernel) ⟨Nat.le_of_ble_eq_true rfl, Nat.le_of_ble_eq_true rfl⟩) ⟨P0.blind, fun U hU hW9 => ⟨rfl, trivial⟩⟩ rfl rfl hl.1 rfl (lv_room (Nat.le_of_ble_eq_true rfl)) dX3_measured_57 ⟨Nat.zero_le _, Nat.zero_le _⟩)) (fun r_9 h_8 => ?_)
    obtain rfl : r_9 = tk (tk (tk (tk 0 0) (μ.2 1 x.toNatClampNeg)) (μ.2 3 x.toNatClampNeg / 1000000)) ((μ.2 3 x.toNatClampNeg / 1000) - (μ.2 3 x.toNatClampNeg / 1000) / 1000 * 1000) := h_8
    refine lv_istore_n (lv' := [(2, .int ((tk (tk (tk (tk 0 0) (μ.2 1 x.toNatClampNeg)) (μ.2 3 x.toNatClampNeg / 1000000)) ((μ.2 3 x.toNatClampNeg / 1000) - (μ.2 3 x.toNatClampNeg / 1000) / 1000 * 1000)))), (0, .ref (gA g 4)), (1, .int x)]) hx hb dX3_measured_60 rfl hl (by decide) rfl (fun ls hl => ?_)
    refine lv_iload_n hx hb dX3_measured_61 rfl (lv_at hl 0 rfl) ?_
    refine lv_aload_n hx hb dX3_measured_62 rfl (lv_at hl 1 rfl) ?_
    refine gM (v := .ref (gA g 8)) hx hb hts hinX3 hown hC hW 4 (by decide) (by decide +kernel) rfl rfl dX3_measured_63 ?_
    refine lv_iload_n hx hb dX3_measured_66 rfl (lv_at hl 2 rfl) ?_
    refine mLdI 2 (by decide) hx1 hx hb hC hW dX3_measured_67 ?_
    refine lv_sipush (v := 1000) hx hb dX3_measured_68 (by decide) ?_
    refine lv_irem hx hb dX3_measured_71 (by decide) ?_
    refine vp_callSi (va_Run.run (va_runS (As := [.int ((tk (tk (tk (tk 0 0) (μ.2 1 x.toNatClampNeg)) (μ.2 3 x.toNatClampNeg / 1000000)) ((μ.2 3 x.toNatClampNeg / 1000) - (μ.2 3 x.toNatClampNeg / 1000) / 1000 * 1000))), .int ((μ.2 3 x.toNatClampNeg - μ.2 3 x.toNatClampNeg / 1000 * 1000))]) (rest := []) ⟨hx, hb, hml, hown, hts⟩ (mtX3_taken l (tk (tk (tk (tk 0 0) (μ.2 1 x.toNatClampNeg)) (μ.2 3 x.toNatClampNeg / 1000000)) ((μ.2 3 x.toNatClampNeg / 1000) - (μ.2 3 x.toNatClampNeg / 1000) / 1000 * 1000)) (μ.2 3 x.toNatClampNeg - μ.2 3 x.toNatClampNeg / 1000 * 1000)) (va_cwS 2 hts gX3_measured_X3_taken rfl rfl rfl (by decide +kernel) ⟨Nat.le_of_ble_eq_true rfl, Nat.le_of_ble_eq_true rfl⟩) ⟨P0.blind, fun U hU hW9 => ⟨rfl, trivial⟩⟩ rfl rfl hl.1 rfl (lv_room (Nat.le_of_ble_eq_true rfl)) dX3_measured_72 ⟨Nat.zero_le _, Nat.zero_le _⟩)) (fun r_11 h_10 => ?_)
    obtain rfl : r_11 = tk (tk (tk (tk (tk 0 0) (μ.2 1 x.toNatClampNeg)) (μ.2 3 x.toNatClampNeg / 1000000)) ((μ.2 3 x.toNatClampNeg / 1000) - (μ.2 3 x.toNatClampNeg / 1000) / 1000 * 1000)) (μ.2 3 x.toNatClampNeg - μ.2 3 x.toNatClampNeg / 1000 * 1000) := h_10
    refine lv_istore_n (lv' := [(2, .int ((tk (tk (tk (tk (tk 0 0) (μ.2 1 x.toNatClampNeg)) (μ.2 3 x.toNatClampNeg / 1000000)) ((μ.2 3 x.toNatClampNeg / 1000) - (μ.2 3 x.toNatClampNeg / 1000) / 1000 * 1000)) (μ.2 3 x.toNatClampNeg - μ.2 3 x.toNatClampNeg / 1000 * 1000)))), (0, .ref (gA g 4)), (1, .int x)]) hx hb dX3_measured_75 rfl hl (by decide) rfl (fun ls hl => ?_)
    refine lv_iload_n hx hb dX3_measured_76 rfl (lv_at hl 0 rfl) ?_
    refine lv_aload_n hx hb dX3_measured_77 rfl (lv_at hl 1 rfl) ?_
    refine gM (v := .ref (gA g 9)) hx hb hts hinX3 hown hC hW 5 (by decide) (by decide +kernel) rfl rfl dX3_measured_78 ?_
    refine lv_iload_n hx hb dX3_measured_81 rfl (lv_at hl 2 rfl) ?_
    refine mLdI 3 (by decide) hx1 hx hb hC hW dX3_measured_82 ?_
    refine vp_callSi (va_Run.run (va_runS (As := [.int ((tk (tk (tk (tk (tk 0 0) (μ.2 1 x.toNatClampNeg)) (μ.2 3 x.toNatClampNeg / 1000000)) ((μ.2 3 x.toNatClampNeg / 1000) - (μ.2 3 x.toNatClampNeg / 1000) / 1000 * 1000)) (μ.2 3 x.toNatClampNeg - μ.2 3 x.toNatClampNeg / 1000 * 1000))), .int (μ.2 4 x.toNatClampNeg)]) (rest := []) ⟨hx, hb, hml, hown, hts⟩ (mtX3_taken l (tk (tk (tk (tk (tk 0 0) (μ.2 1 x.toNatClampNeg)) (μ.2 3 x.toNatClampNeg / 1000000)) ((μ.2 3 x.toNatClampNeg / 1000) - (μ.2 3 x.toNatClampNeg / 1000) / 1000 * 1000)) (μ.2 3 x.toNatClampNeg - μ.2 3 x.toNatClampNeg / 1000 * 1000)) (μ.2 4 x.toNatClampNeg)) (va_cwS 2 hts gX3_measured_X3_taken rfl rfl rfl (by decide +kernel) ⟨Nat.le_of_ble_eq_true rfl, Nat.le_of_ble_eq_true rfl⟩) ⟨P0.blind, fun U hU hW9 => ⟨rfl, trivial⟩⟩ rfl rfl hl.1 rfl (lv_room (Nat.le_of_ble_eq_true rfl)) dX3_measured_83 ⟨Nat.zero_le _, Nat.zero_le _⟩)) (fun r_13 h_12 => ?_)
    obtain rfl : r_13 = tk (tk (tk (tk (tk (tk 0 0) (μ.2 1 x.toNatClampNeg)) (μ.2 3 x.toNatClampNeg / 1000000)) ((μ.2 3 x.toNatClampNeg / 1000) - (μ.2 3 x.toNatClampNeg / 1000) / 1000 * 1000)) (μ.2 3 x.toNatClampNeg - μ.2 3 x.toNatClampNeg / 1000 * 1000)) (μ.2 4 x.toNatClampNeg) := h_12
    refine lv_istore_n (lv' := [(2, .int ((tk (tk (tk (tk (tk (tk 0 0) (μ.2 1 x.toNatClampNeg)) (μ.2 3 x.toNatClampNeg / 1000000)) ((μ.2 3 x.toNatClampNeg / 1000) - (μ.2 3 x.toNatClampNeg / 1000) / 1000 * 1000)) (μ.2 3 x.toNatClampNeg - μ.2 3 x.toNatClampNeg / 1000 * 1000)) (μ.2 4 x.toNatClampNeg)))), (0, .ref (gA g 4)), (1, .int x)]) hx hb dX3_measured_86 rfl hl (by decide) rfl (fun ls hl => ?_)
    refine lv_iload_n hx hb dX3_measured_87 rfl (lv_at hl 0 rfl) ?_
    refine lv_aload_n hx hb dX3_measured_88 rfl (lv_at hl 1 rfl) ?_
    refine gM (v := .ref (gA g 7)) hx hb hts hinX3 hown hC hW 3 (by decide) (by decide +kernel) rfl rfl dX3_measured_89 ?_
    refine lv_iload_n hx hb dX3_measured_92 rfl (lv_at hl 2 rfl) ?_
    refine mLdI 1 (by decide) hx1 hx hb hC hW dX3_measured_93 ?_
    refine vp_callSi (va_Run.run (va_runS (As := [.int ((tk (tk (tk (tk (tk (tk 0 0) (μ.2 1 x.toNatClampNeg)) (μ.2 3 x.toNatClampNeg / 1000000)) ((μ.2 3 x.toNatClampNeg / 1000) - (μ.2 3 x.toNatClampNeg / 1000) / 1000 * 1000)) (μ.2 3 x.toNatClampNeg - μ.2 3 x.toNatClampNeg / 1000 * 1000)) (μ.2 4 x.toNatClampNeg))), .int (μ.2 2 x.toNatClampNeg)]) (rest := []) ⟨hx, hb, hml, hown, hts⟩ (mtX3_taken l (tk (tk (tk (tk (tk (tk 0 0) (μ.2 1 x.toNatClampNeg)) (μ.2 3 x.toNatClampNeg / 1000000)) ((μ.2 3 x.toNatClampNeg / 1000) - (μ.2 3 x.toNatClampNeg / 1000) / 1000 * 1000)) (μ.2 3 x.toNatClampNeg - μ.2 3 x.toNatClampNeg / 1000 * 1000)) (μ.2 4 x.toNatClampNeg)) (μ.2 2 x.toNatClampNeg)) (va_cwS 2 hts gX3_measured_X3_taken rfl rfl rfl (by decide +kernel) ⟨Nat.le_of_ble_eq_true rfl, Nat.le_of_ble_eq_true rfl⟩) ⟨P0.blind, fun U hU hW9 => ⟨rfl, trivial⟩⟩ rfl rfl hl.1 rfl (lv_room (Nat.le_of_ble_eq_true rfl)) dX3_measured_94 ⟨Nat.zero_le _, Nat.zero_le _⟩)) (fun r_15 h_14 => ?_)
    obtain rfl : r_15 = tk (tk (tk (tk (tk (tk (tk 0 0) (μ.2 1 x.toNatClampNeg)) (μ.2 3 x.toNatClampNeg / 1000000)) ((μ.2 3 x.toNatClampNeg / 1000) - (μ.2 3 x.toNatClampNeg / 1000) / 1000 * 1000)) (μ.2 3 x.toNatClampNeg - μ.2 3 x.toNatClampNeg / 1000 * 1000)) (μ.2 4 x.toNatClampNeg)) (μ.2 2 x.toNatClampNeg) := h_14
    refine lv_istore_n (lv' := [(2, .int ((tk (tk (tk (tk (tk (tk (tk 0 0) (μ.2 1 x.toNatClampNeg)) (μ.2 3 x.toNatClampNeg / 1000000)) ((μ.2 3 x.toNatClampNeg / 1000) - (μ.2 3 x.toNatClampNeg / 1000) / 1000 * 1000)) (μ.2 3 x.toNatClampNeg - μ.2 3 x.toNatClampNeg / 1000 * 1000)) (μ.2 4 x.toNatClampNeg)) (μ.2 2 x.toNatClampNeg)))), (0, .ref (gA g 4)), (1, .int x)]) hx hb dX3_measured_97 rfl hl (by decide) rfl (fun ls hl => ?_)
    refine lv_iload_n hx hb dX3_measured_98 rfl (lv_at hl 0 rfl) ?_
    refine lv_aload_n hx hb dX3_measured_99 rfl (lv_at hl 1 rfl) ?_
    refine gM (v := .ref (gA g 11)) hx hb hts hinX3 hown hC hW 7 (by decide) (by decide +kernel) rfl rfl dX3_measured_100 ?_
    refine lv_iload_n hx hb dX3_measured_103 rfl (lv_at hl 2 rfl) ?_
    refine mLdI 5 (by decide) hx1 hx hb hC hW dX3_measured_104 ?_
    refine vp_callSi (va_Run.run (va_runS (As := [.int ((tk (tk (tk (tk (tk (tk (tk 0 0) (μ.2 1 x.toNatClampNeg)) (μ.2 3 x.toNatClampNeg / 1000000)) ((μ.2 3 x.toNatClampNeg / 1000) - (μ.2 3 x.toNatClampNeg / 1000) / 1000 * 1000)) (μ.2 3 x.toNatClampNeg - μ.2 3 x.toNatClampNeg / 1000 * 1000)) (μ.2 4 x.toNatClampNeg)) (μ.2 2 x.toNatClampNeg))), .int (μ.2 6 x.toNatClampNeg)]) (rest := []) ⟨hx, hb, hml, hown, hts⟩ (mtX3_taken l (tk (tk (tk (tk (tk (tk (tk 0 0) (μ.2 1 x.toNatClampNeg)) (μ.2 3 x.toNatClampNeg / 1000000)) ((μ.2 3 x.toNatClampNeg / 1000) - (μ.2 3 x.toNatClampNeg / 1000) / 1000 * 1000)) (μ.2 3 x.toNatClampNeg - μ.2 3 x.toNatClampNeg / 1000 * 1000)) (μ.2 4 x.toNatClampNeg)) (μ.2 2 x.toNatClampNeg)) (μ.2 6 x.toNatClampNeg)) (va_cwS 2 hts gX3_measured_X3_taken rfl rfl rfl (by decide +kernel) ⟨Nat.le_of_ble_eq_true rfl, Nat.le_of_ble_eq_true rfl⟩) ⟨P0.blind, fun U hU hW9 => ⟨rfl, trivial⟩⟩ rfl rfl hl.1 rfl (lv_room (Nat.le_of_ble_eq_true rfl)) dX3_measured_105 ⟨Nat.zero_le _, Nat.zero_le _⟩)) (fun r_17 h_16 => ?_)
    obtain rfl : r_17 = tk (tk (tk (tk (tk (tk (tk (tk 0 0) (μ.2 1 x.toNatClampNeg)) (μ.2 3 x.toNatClampNeg / 1000000)) ((μ.2 3 x.toNatClampNeg / 1000) - (μ.2 3 x.toNatClampNeg / 1000) / 1000 * 1000)) (μ.2 3 x.toNatClampNeg - μ.2 3 x.toNatClampNeg / 1000 * 1000)) (μ.2 4 x.toNatClampNeg)) (μ.2 2 x.toNatClampNeg)) (μ.2 6 x.toNatClampNeg) := h_16
    exact W.iret (v := (tk (tk (tk (tk (tk (tk (tk (tk 0 0) (μ.2 1 x.toNatClampNeg)) (μ.2 3 x.toNatClampNeg / 1000000)) ((μ.2 3 x.toNatClampNeg / 1000) - (μ.2 3 x.toNatClampNeg / 1000) / 1000 * 1000)) (μ.2 3 x.toNatClampNeg - μ.2 3 x.toNatClampNeg / 1000 * 1000)) (μ.2 4 x.toNatClampNeg)) (μ.2 2 x.toNatClampNeg)) (μ.2 6 x.toNatClampNeg))) hx hb hr (fun t ht hW9 => ⟨_, rfl, by simp only [mzM, rm, ↓reduceIte, Bool.false_eq_true, c_1], ht⟩) (fun q h => by cases h) dX3_measured_108
  · skip
    refine lv_iconst (v := 1) hx hb dX3_measured_8 (by decide) ?_
    refine lv_goto (tgt := 13) hx hb dX3_measured_9 (by decide) ?_
    refine vp_callSi (va_Run.run (va_runS (As := [.int 0, .int 1]) (rest := []) ⟨hx, hb, hml, hown, hts⟩ (mtX3_taken l 0 1) (va_cwS 2 hts gX3_measured_X3_taken rfl rfl rfl (by decide +kernel) ⟨Nat.le_of_ble_eq_true rfl, Nat.le_of_ble_eq_true rfl⟩) ⟨P0.blind, fun U hU hW9 => ⟨rfl, trivial⟩⟩ rfl rfl hl.1 rfl (lv_room (Nat.le_of_ble_eq_true rfl)) dX3_measured_13 ⟨Nat.zero_le _, Nat.zero_le _⟩)) (fun r_19 h_18 => ?_)
    obtain rfl : r_19 = tk 0 1 := h_18
    refine lv_istore_n (lv' := [(2, .int ((tk 0 1))), (0, .ref (gA g 4)), (1, .int x)]) hx hb dX3_measured_16 rfl hl (by decide) rfl (fun ls hl => ?_)
    refine lv_iload_n hx hb dX3_measured_17 rfl (lv_at hl 0 rfl) ?_
    refine lv_aload_n hx hb dX3_measured_18 rfl (lv_at hl 1 rfl) ?_
    refine gM (v := .ref (gA g 6)) hx hb hts hinX3 hown hC hW 2 (by decide) (by decide +kernel) rfl rfl dX3_measured_19 ?_
    refine lv_iload_n hx hb dX3_measured_22 rfl (lv_at hl 2 rfl) ?_
    refine mLdI 0 (by decide) hx1 hx hb hC hW dX3_measured_23 ?_
    refine vp_callSi (va_Run.run (va_runS (As := [.int ((tk 0 1)), .int (μ.2 1 x.toNatClampNeg)]) (rest := []) ⟨hx, hb, hml, hown, hts⟩ (mtX3_taken l (tk 0 1) (μ.2 1 x.toNatClampNeg)) (va_cwS 2 hts gX3_measured_X3_taken rfl rfl rfl (by decide +kernel) ⟨Nat.le_of_ble_eq_true rfl, Nat.le_of_ble_eq_true rfl⟩) ⟨P0.blind, fun U hU hW9 => ⟨rfl, trivial⟩⟩ rfl rfl hl.1 rfl (lv_room (Nat.le_of_ble_eq_true rfl)) dX3_measured_24 ⟨Nat.zero_le _, Nat.zero_le _⟩)) (fun r_21 h_20 => ?_)
    obtain rfl : r_21 = tk (tk 0 1) (μ.2 1 x.toNatClampNeg) := h_20
    refine lv_istore_n (lv' := [(2, .int ((tk (tk 0 1) (μ.2 1 x.toNatClampNeg)))), (0, .ref (gA g 4)), (1, .int x)]) hx hb dX3_measured_27 rfl hl (by decide) rfl (fun ls hl => ?_)
    refine lv_iload_n hx hb dX3_measured_28 rfl (lv_at hl 0 rfl) ?_
    refine lv_aload_n hx hb dX3_measured_29 rfl (lv_at hl 1 rfl) ?_
    refine gM (v := .ref (gA g 8)) hx hb hts hinX3 hown hC hW 4 (by decide) (by decide +kernel) rfl rfl dX3_measured_30 ?_
    refine lv_iload_n hx hb dX3_measured_33 rfl (lv_at hl 2 rfl) ?_
    refine mLdI 2 (by decide) hx1 hx hb hC hW dX3_measured_34 ?_
    refine lv_ldc (v := 1000000) hx hb hown (hts (.constant RX3 95 (1000000)) (by decide +kernel)) dX3_measured_35 ?_
    refine lv_idiv hx hb dX3_measured_37 (by decide) ?_
    refine vp_callSi (va_Run.run (va_runS (As := [.int ((tk (tk 0 1) (μ.2 1 x.toNatClampNeg))), .int ((μ.2 3 x.toNatClampNeg / 1000000))]) (rest := []) ⟨hx, hb, hml, hown, hts⟩ (mtX3_taken l (tk (tk 0 1) (μ.2 1 x.toNatClampNeg)) (μ.2 3 x.toNatClampNeg / 1000000)) (va_cwS 2 hts gX3_measured_X3_taken rfl rfl rfl (by decide +kernel) ⟨Nat.le_of_ble_eq_true rfl, Nat.le_of_ble_eq_true rfl⟩) ⟨P0.blind, fun U hU hW9 => ⟨rfl, trivial⟩⟩ rfl rfl hl.1 rfl (lv_room (Nat.le_of_ble_eq_true rfl)) dX3_measured_38 ⟨Nat.zero_le _, Nat.zero_le _⟩)) (fun r_23 h_22 => ?_)
    obtain rfl : r_23 = tk (tk (tk 0 1) (μ.2 1 x.toNatClampNeg)) (μ.2 3 x.toNatClampNeg / 1000000) := h_22
    refine lv_istore_n (lv' := [(2, .int ((tk (tk (tk 0 1) (μ.2 1 x.toNatClampNeg)) (μ.2 3 x.toNatClampNeg / 1000000)))), (0, .ref (gA g 4)), (1, .int x)]) hx hb dX3_measured_41 rfl hl (by decide) rfl (fun ls hl => ?_)
    refine lv_iload_n hx hb dX3_measured_42 rfl (lv_at hl 0 rfl) ?_
    refine lv_aload_n hx hb dX3_measured_43 rfl (lv_at hl 1 rfl) ?_
    refine gM (v := .ref (gA g 8)) hx hb hts hinX3 hown hC hW 4 (by decide) (by decide +kernel) rfl rfl dX3_measured_44 ?_
    refine lv_iload_n hx hb dX3_measured_47 rfl (lv_at hl 2 rfl) ?_
    refine mLdI 2 (by decide) hx1 hx hb hC hW dX3_measured_48 ?_
    refine lv_sipush (v := 1000) hx hb dX3_measured_49 (by decide) ?_
    refine lv_idiv hx hb dX3_measured_52 (by decide) ?_
    refine lv_sipush (v := 1000) hx hb dX3_measured_53 (by decide) ?_
    refine lv_irem hx hb dX3_measured_56 (by decide) ?_
    refine vp_callSi (va_Run.run (va_runS (As := [.int ((tk (tk (tk 0 1) (μ.2 1 x.toNatClampNeg)) (μ.2 3 x.toNatClampNeg / 1000000))), .int (((μ.2 3 x.toNatClampNeg / 1000) - (μ.2 3 x.toNatClampNeg / 1000) / 1000 * 1000))]) (rest := []) ⟨hx, hb, hml, hown, hts⟩ (mtX3_taken l (tk (tk (tk 0 1) (μ.2 1 x.toNatClampNeg)) (μ.2 3 x.toNatClampNeg / 1000000)) ((μ.2 3 x.toNatClampNeg / 1000) - (μ.2 3 x.toNatClampNeg / 1000) / 1000 * 1000)) (va_cwS 2 hts gX3_measured_X3_taken rfl rfl rfl (by decide +kernel) ⟨Nat.le_of_ble_eq_true rfl, Nat.le_of_ble_eq_true rfl⟩) ⟨P0.blind, fun U hU hW9 => ⟨rfl, trivial⟩⟩ rfl rfl hl.1 rfl (lv_room (Nat.le_of_ble_eq_true rfl)) dX3_measured_57 ⟨Nat.zero_le _, Nat.zero_le _⟩)) (fun r_25 h_24 => ?_)
    obtain rfl : r_25 = tk (tk (tk (tk 0 1) (μ.2 1 x.toNatClampNeg)) (μ.2 3 x.toNatClampNeg / 1000000)) ((μ.2 3 x.toNatClampNeg / 1000) - (μ.2 3 x.toNatClampNeg / 1000) / 1000 * 1000) := h_24
    refine lv_istore_n (lv' := [(2, .int ((tk (tk (tk (tk 0 1) (μ.2 1 x.toNatClampNeg)) (μ.2 3 x.toNatClampNeg / 1000000)) ((μ.2 3 x.toNatClampNeg / 1000) - (μ.2 3 x.toNatClampNeg / 1000) / 1000 * 1000)))), (0, .ref (gA g 4)), (1, .int x)]) hx hb dX3_measured_60 rfl hl (by decide) rfl (fun ls hl => ?_)
    refine lv_iload_n hx hb dX3_measured_61 rfl (lv_at hl 0 rfl) ?_
    refine lv_aload_n hx hb dX3_measured_62 rfl (lv_at hl 1 rfl) ?_
    refine gM (v := .ref (gA g 8)) hx hb hts hinX3 hown hC hW 4 (by decide) (by decide +kernel) rfl rfl dX3_measured_63 ?_
    refine lv_iload_n hx hb dX3_measured_66 rfl (lv_at hl 2 rfl) ?_
    refine mLdI 2 (by decide) hx1 hx hb hC hW dX3_measured_67 ?_
    refine lv_sipush (v := 1000) hx hb dX3_measured_68 (by decide) ?_
    refine lv_irem hx hb dX3_measured_71 (by decide) ?_
    refine vp_callSi (va_Run.run (va_runS (As := [.int ((tk (tk (tk (tk 0 1) (μ.2 1 x.toNatClampNeg)) (μ.2 3 x.toNatClampNeg / 1000000)) ((μ.2 3 x.toNatClampNeg / 1000) - (μ.2 3 x.toNatClampNeg / 1000) / 1000 * 1000))), .int ((μ.2 3 x.toNatClampNeg - μ.2 3 x.toNatClampNeg / 1000 * 1000))]) (rest := []) ⟨hx, hb, hml, hown, hts⟩ (mtX3_taken l (tk (tk (tk (tk 0 1) (μ.2 1 x.toNatClampNeg)) (μ.2 3 x.toNatClampNeg / 1000000)) ((μ.2 3 x.toNatClampNeg / 1000) - (μ.2 3 x.toNatClampNeg / 1000) / 1000 * 1000)) (μ.2 3 x.toNatClampNeg - μ.2 3 x.toNatClampNeg / 1000 * 1000)) (va_cwS 2 hts gX3_measured_X3_taken rfl rfl rfl (by decide +kernel) ⟨Nat.le_of_ble_eq_true rfl, Nat.le_of_ble_eq_true rfl⟩) ⟨P0.blind, fun U hU hW9 => ⟨rfl, trivial⟩⟩ rfl rfl hl.1 rfl (lv_room (Nat.le_of_ble_eq_true rfl)) dX3_measured_72 ⟨Nat.zero_le _, Nat.zero_le _⟩)) (fun r_27 h_26 => ?_)
    obtain rfl : r_27 = tk (tk (tk (tk (tk 0 1) (μ.2 1 x.toNatClampNeg)) (μ.2 3 x.toNatClampNeg / 1000000)) ((μ.2 3 x.toNatClampNeg / 1000) - (μ.2 3 x.toNatClampNeg / 1000) / 1000 * 1000)) (μ.2 3 x.toNatClampNeg - μ.2 3 x.toNatClampNeg / 1000 * 1000) := h_26
    refine lv_istore_n (lv' := [(2, .int ((tk (tk (tk (tk (tk 0 1) (μ.2 1 x.toNatClampNeg)) (μ.2 3 x.toNatClampNeg / 1000000)) ((μ.2 3 x.toNatClampNeg / 1000) - (μ.2 3 x.toNatClampNeg / 1000) / 1000 * 1000)) (μ.2 3 x.toNatClampNeg - μ.2 3 x.toNatClampNeg / 1000 * 1000)))), (0, .ref (gA g 4)), (1, .int x)]) hx hb dX3_measured_75 rfl hl (by decide) rfl (fun ls hl => ?_)
    refine lv_iload_n hx hb dX3_measured_76 rfl (lv_at hl 0 rfl) ?_
    refine lv_aload_n hx hb dX3_measured_77 rfl (lv_at hl 1 rfl) ?_
    refine gM (v := .ref (gA g 9)) hx hb hts hinX3 hown hC hW 5 (by decide) (by decide +kernel) rfl rfl dX3_measured_78 ?_
    refine lv_iload_n hx hb dX3_measured_81 rfl (lv_at hl 2 rfl) ?_
    refine mLdI 3 (by decide) hx1 hx hb hC hW dX3_measured_82 ?_
    refine vp_callSi (va_Run.run (va_runS (As := [.int ((tk (tk (tk (tk (tk 0 1) (μ.2 1 x.toNatClampNeg)) (μ.2 3 x.toNatClampNeg / 1000000)) ((μ.2 3 x.toNatClampNeg / 1000) - (μ.2 3 x.toNatClampNeg / 1000) / 1000 * 1000)) (μ.2 3 x.toNatClampNeg - μ.2 3 x.toNatClampNeg / 1000 * 1000))), .int (μ.2 4 x.toNatClampNeg)]) (rest := []) ⟨hx, hb, hml, hown, hts⟩ (mtX3_taken l (tk (tk (tk (tk (tk 0 1) (μ.2 1 x.toNatClampNeg)) (μ.2 3 x.toNatClampNeg / 1000000)) ((μ.2 3 x.toNatClampNeg / 1000) - (μ.2 3 x.toNatClampNeg / 1000) / 1000 * 1000)) (μ.2 3 x.toNatClampNeg - μ.2 3 x.toNatClampNeg / 1000 * 1000)) (μ.2 4 x.toNatClampNeg)) (va_cwS 2 hts gX3_measured_X3_taken rfl rfl rfl (by decide +kernel) ⟨Nat.le_of_ble_eq_true rfl, Nat.le_of_ble_eq_true rfl⟩) ⟨P0.blind, fun U hU hW9 => ⟨rfl, trivial⟩⟩ rfl rfl hl.1 rfl (lv_room (Nat.le_of_ble_eq_true rfl)) dX3_measured_83 ⟨Nat.zero_le _, Nat.zero_le _⟩)) (fun r_29 h_28 => ?_)
    obtain rfl : r_29 = tk (tk (tk (tk (tk (tk 0 1) (μ.2 1 x.toNatClampNeg)) (μ.2 3 x.toNatClampNeg / 1000000)) ((μ.2 3 x.toNatClampNeg / 1000) - (μ.2 3 x.toNatClampNeg / 1000) / 1000 * 1000)) (μ.2 3 x.toNatClampNeg - μ.2 3 x.toNatClampNeg / 1000 * 1000)) (μ.2 4 x.toNatClampNeg) := h_28
    refine lv_istore_n (lv' := [(2, .int ((tk (tk (tk (tk (tk (tk 0 1) (μ.2 1 x.toNatClampNeg)) (μ.2 3 x.toNatClampNeg / 1000000)) ((μ.2 3 x.toNatClampNeg / 1000) - (μ.2 3 x.toNatClampNeg / 1000) / 1000 * 1000)) (μ.2 3 x.toNatClampNeg - μ.2 3 x.toNatClampNeg / 1000 * 1000)) (μ.2 4 x.toNatClampNeg)))), (0, .ref (gA g 4)), (1, .int x)]) hx hb dX3_measured_86 rfl hl (by decide) rfl (fun ls hl => ?_)
    refine lv_iload_n hx hb dX3_measured_87 rfl (lv_at hl 0 rfl) ?_
    refine lv_aload_n hx hb dX3_measured_88 rfl (lv_at hl 1 rfl) ?_
    refine gM (v := .ref (gA g 7)) hx hb hts hinX3 hown hC hW 3 (by decide) (by decide +kernel) rfl rfl dX3_measured_89 ?_
    refine lv_iload_n hx hb dX3_measured_92 rfl (lv_at hl 2 rfl) ?_
    refine mLdI 1 (by decide) hx1 hx hb hC hW dX3_measured_93 ?_
    refine vp_callSi (va_Run.run (va_runS (As := [.int ((tk (tk (tk (tk (tk (tk 0 1) (μ.2 1 x.toNatClampNeg)) (μ.2 3 x.toNatClampNeg / 1000000)) ((μ.2 3 x.toNatClampNeg / 1000) - (μ.2 3 x.toNatClampNeg / 1000) / 1000 * 1000)) (μ.2 3 x.toNatClampNeg - μ.2 3 x.toNatClampNeg / 1000 * 1000)) (μ.2 4 x.toNatClampNeg))), .int (μ.2 2 x.toNatClampNeg)]) (rest := []) ⟨hx, hb, hml, hown, hts⟩ (mtX3_taken l (tk (tk (tk (tk (tk (tk 0 1) (μ.2 1 x.toNatClampNeg)) (μ.2 3 x.toNatClampNeg / 1000000)) ((μ.2 3 x.toNatClampNeg / 1000) - (μ.2 3 x.toNatClampNeg / 1000) / 1000 * 1000)) (μ.2 3 x.toNatClampNeg - μ.2 3 x.toNatClampNeg / 1000 * 1000)) (μ.2 4 x.toNatClampNeg)) (μ.2 2 x.toNatClampNeg)) (va_cwS 2 hts gX3_measured_X3_taken rfl rfl rfl (by decide +kernel) ⟨Nat.le_of_ble_eq_true rfl, Nat.le_of_ble_eq_true rfl⟩) ⟨P0.blind, fun U hU hW9 => ⟨rfl, trivial⟩⟩ rfl rfl hl.1 rfl (lv_room (Nat.le_of_ble_eq_true rfl)) dX3_measured_94 ⟨Nat.zero_le _, Nat.zero_le _⟩)) (fun r_31 h_30 => ?_)
    obtain rfl : r_31 = tk (tk (tk (tk (tk (tk (tk 0 1) (μ.2 1 x.toNatClampNeg)) (μ.2 3 x.toNatClampNeg / 1000000)) ((μ.2 3 x.toNatClampNeg / 1000) - (μ.2 3 x.toNatClampNeg / 1000) / 1000 * 1000)) (μ.2 3 x.toNatClampNeg - μ.2 3 x.toNatClampNeg / 1000 * 1000)) (μ.2 4 x.toNatClampNeg)) (μ.2 2 x.toNatClampNeg) := h_30
    refine lv_istore_n (lv' := [(2, .int ((tk (tk (tk (tk (tk (tk (tk 0 1) (μ.2 1 x.toNatClampNeg)) (μ.2 3 x.toNatClampNeg / 1000000)) ((μ.2 3 x.toNatClampNeg / 1000) - (μ.2 3 x.toNatClampNeg / 1000) / 1000 * 1000)) (μ.2 3 x.toNatClampNeg - μ.2 3 x.toNatClampNeg / 1000 * 1000)) (μ.2 4 x.toNatClampNeg)) (μ.2 2 x.toNatClampNeg)))), (0, .ref (gA g 4)), (1, .int x)]) hx hb dX3_measured_97 rfl hl (by decide) rfl (fun ls hl => ?_)
    refine lv_iload_n hx hb dX3_measured_98 rfl (lv_at hl 0 rfl) ?_
    refine lv_aload_n hx hb dX3_measured_99 rfl (lv_at hl 1 rfl) ?_
    refine gM (v := .ref (gA g 11)) hx hb hts hinX3 hown hC hW 7 (by decide) (by decide +kernel) rfl rfl dX3_measured_100 ?_
    refine lv_iload_n hx hb dX3_measured_103 rfl (lv_at hl 2 rfl) ?_
    refine mLdI 5 (by decide) hx1 hx hb hC hW dX3_measured_104 ?_
    refine vp_callSi (va_Run.run (va_runS (As := [.int ((tk (tk (tk (tk (tk (tk (tk 0 1) (μ.2 1 x.toNatClampNeg)) (μ.2 3 x.toNatClampNeg / 1000000)) ((μ.2 3 x.toNatClampNeg / 1000) - (μ.2 3 x.toNatClampNeg / 1000) / 1000 * 1000)) (μ.2 3 x.toNatClampNeg - μ.2 3 x.toNatClampNeg / 1000 * 1000)) (μ.2 4 x.toNatClampNeg)) (μ.2 2 x.toNatClampNeg))), .int (μ.2 6 x.toNatClampNeg)]) (rest := []) ⟨hx, hb, hml, hown, hts⟩ (mtX3_taken l (tk (tk (tk (tk (tk (tk (tk 0 1) (μ.2 1 x.toNatClampNeg)) (μ.2 3 x.toNatClampNeg / 1000000)) ((μ.2 3 x.toNatClampNeg / 1000) - (μ.2 3 x.toNatClampNeg / 1000) / 1000 * 1000)) (μ.2 3 x.toNatClampNeg - μ.2 3 x.toNatClampNeg / 1000 * 1000)) (μ.2 4 x.toNatClampNeg)) (μ.2 2 x.toNatClampNeg)) (μ.2 6 x.toNatClampNeg)) (va_cwS 2 hts gX3_measured_X3_taken rfl rfl rfl (by decide +kernel) ⟨Nat.le_of_ble_eq_true rfl, Nat.le_of_ble_eq_true rfl⟩) ⟨P0.blind, fun U hU hW9 => ⟨rfl, trivial⟩⟩ rfl rfl hl.1 rfl (lv_room (Nat.le_of_ble_eq_true rfl)) dX3_measured_105 ⟨Nat.zero_le _, Nat.zero_le _⟩)) (fun r_33 h_32 => ?_)
    obtain rfl : r_33 = tk (tk (tk (tk (tk (tk (tk (tk 0 1) (μ.2 1 x.toNatClampNeg)) (μ.2 3 x.toNatClampNeg / 1000000)) ((μ.2 3 x.toNatClampNeg / 1000) - (μ.2 3 x.toNatClampNeg / 1000) / 1000 * 1000)) (μ.2 3 x.toNatClampNeg - μ.2 3 x.toNatClampNeg / 1000 * 1000)) (μ.2 4 x.toNatClampNeg)) (μ.2 2 x.toNatClampNeg)) (μ.2 6 x.toNatClampNeg) := h_32
    exact W.iret (v := (tk (tk (tk (tk (tk (tk (tk (tk 0 1) (μ.2 1 x.toNatClampNeg)) (μ.2 3 x.toNatClampNeg / 1000000)) ((μ.2 3 x.toNatClampNeg / 1000) - (μ.2 3 x.toNatClampNeg / 1000) / 1000 * 1000)) (μ.2 3 x.toNatClampNeg - μ.2 3 x.toNatClampNeg / 1000 * 1000)) (μ.2 4 x.toNatClampNeg)) (μ.2 2 x.toNatClampNeg)) (μ.2 6 x.toNatClampNeg))) hx hb hr (fun t ht hW9 => ⟨_, rfl, by simp only [mzM, rm, ↓reduceIte, Bool.false_eq_true, c_1], ht⟩) (fun q h => by cases h) dX3_measured_108
set_option maxHeartbeats 4000000 in
set_option maxRecDepth 100000 in
theorem mtX3_ten (l : Launch) (m9 : Int32) (hm : ∃ k : Nat, 1 ≤ k ∧ k ≤ 6 ∧ m9 = nI k) : Met l yX3_ten wsX3_ten ({ frames := 0, cells := 0, slots := 0, locals := 0 } : Room) (va_Pc [.int m9] P0) (vp_Si (fun r => r = tn m9)) 0 0 (fun _ => False) := by
  refine Met.ofW (cc := cX3_ten) (maxL := 3) (ret := (some .int)) (by decide) rfl ?_
  intro p e s m args below meth c s₁ B hml hv
  obtain ⟨rfl, -⟩ := hv
  have hx := B.exec
  have hb := B.bytes
  have hr := B.returns
  have hts := atoms_spec (ws := wsX3_ten) B.pre
  have hown : s.vm.findClass RX3 = some m.cls := findClass_of_methodNamed B.named
  have hlocks := B.notSynchronized
  have hl := lv_entry ([.int m9]) (n := 3) (Nat.le_of_ble_eq_true rfl)
  rw [lg_entry_eq]
  generalize (lg_sl ([.int m9]) ++ List.replicate (3 - (lg_sl ([.int m9])).length) Slot.unset).toArray = ls at hl ⊢
  have hl : lv_has ls 3 [(0, .int m9)] := hl
  obtain ⟨k, hk1, hk6, hmk⟩ := hm
  refine lv_iconst (v := 1) hx hb dX3_ten_0 (by decide) ?_
  refine lv_istore_n (lv' := [(1, .int 1), (0, .int m9)]) hx hb dX3_ten_1 rfl hl (by decide) rfl (fun ls hl => ?_)
  refine lv_iconst (v := 0) hx hb dX3_ten_2 (by decide) ?_
  refine lv_istore_n (lv' := [(2, .int 0), (1, .int 1), (0, .int m9)]) hx hb dX3_ten_3 rfl hl (by decide) rfl (fun ls hl => ?_)
  have loop_1 : ∀ (n9 i : Nat), i ≤ k → k < i + n9 → True → ∀ (ls : Array Slot), lv_has ls 3 [(0, .int m9), (1, .int (nI (10 ^ i))), (2, .int (nI i))] → W p l e (headSpec wsX3_ten ({ frames := 0, cells := 0, slots := 0, locals := 0 } : Room)).room s m ([.int m9] : List Value).toArray below meth c s.heap [] 0 0 (MQ below (vp_Si (fun r => r = tn m9)) ([.int m9] : List Value).toArray s 0 0 (fun _ => False)) (F0 m 4 ls []) := by
    intro n9
    induction n9 with
    | zero =>
      intro i h1 h2
      exact absurd h2 (by omega)
    | succ n9 ih =>
      intro i hi hin hinv ls hl
      refine lv_iload_n hx hb dX3_ten_4 rfl (lv_at hl 2 rfl) ?_
      refine lv_iload_n hx hb dX3_ten_5 rfl (lv_at hl 0 rfl) ?_
      refine lv_icmp_ge (tgt := 20) hx hb dX3_ten_6 (by decide) (fun c_2 => ?_) (fun c_2 => ?_)
      · skip
        have hik : i = k := by rw [hmk, nI_leI (by omega) (by omega)] at c_2; omega
        refine lv_iload_n hx hb dX3_ten_20 rfl (lv_at hl 1 rfl) ?_
        exact W.iret (v := nI (10 ^ i)) hx hb hr (fun t ht hW9 => ⟨_, rfl, by rw [tn, hmk, nI_clamp (by omega), hik], ht⟩) (fun q h => by cases h) dX3_ten_21
      · skip
        have hlt : i < k := by rw [hmk, nI_leI (by omega) (by omega)] at c_2; omega
        refine lv_iload_n hx hb dX3_ten_9 rfl (lv_at hl 1 rfl) ?_
        refine lv_bipush (v := 10) hx hb dX3_ten_10 (by decide) ?_
        refine lv_imul hx hb dX3_ten_12 ?_
        refine lv_istore_n (lv' := [(1, .int ((nI (10 ^ i) * 10))), (0, .int m9), (2, .int (nI i))]) hx hb dX3_ten_13 rfl hl (by decide) rfl (fun ls hl => ?_)
        refine lv_iinc (v := nI (i + 1)) (lv' := [(2, .int (nI (i + 1))), (1, .int ((nI (10 ^ i) * 10))), (0, .int m9)]) hx hb dX3_ten_14 hl (k := 2) rfl (nI_1 _) (by decide) rfl (fun ls hl => ?_)
        refine lv_goto (tgt := 4) hx hb dX3_ten_17 (by decide) ?_
        have hct : nI (10 ^ (i + 1)) = nI (10 ^ i) * 10 := by rw [Nat.pow_succ]; exact (pk_mul (10 ^ i) 10).symm
        exact ih (i + 1) (by omega) (by omega) trivial ls (by rw [hct]; exact lv_sub hl [2, 1, 0] rfl)
  exact loop_1 (k + 1) 0 (Nat.zero_le _) (by omega) trivial ls (by exact lv_sub hl [2, 1, 0] rfl)
