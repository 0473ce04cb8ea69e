set_option maxHeartbeats 4000000 in
set_option maxRecDepth 100000 in
theorem mtX3_add (l : Launch) (g : Ge) (σ : Sg) (μ : Mg) (o : Nat → Int64) (kind name ver mark tr : Int32) (a : Nat) (hM : μ.1 0 = nI a) (ha : a ≤ 60) : Met l yX3_add wsX3_add ({ frames := 1, cells := 0, slots := 0, locals := 22 } : Room) (va_Pc [.ref (gA g 4), .int kind, .int name, .int ver, .int mark, .int tr] (PW g σ μ o)) (va_Qi (S := Unit) (fun r _ => r = adR μ a kind name ver mark tr) (fun _ t => Wd g σ (adM μ a kind name ver mark tr) o t.heap) (Az g)) 0 0 (Az g) := by
  refine Met.ofW (cc := cX3_add) (maxL := 7) (ret := (some .int)) (by decide) rfl ?_
  intro p e s m args below meth c s₁ B hml hv
  obtain ⟨rfl, hC, hW⟩ := hv
  have hx := B.exec
  have hb := B.bytes
  have hr := B.returns
  have hts := atoms_spec (ws := wsX3_add) B.pre
  have hown : s.vm.findClass RX3 = some m.cls := findClass_of_methodNamed B.named
  have hlocks := B.notSynchronized
  have hinX3 : ∀ w ∈ wsX30, w ∈ wsX3_add := by decide +kernel
  have hS : va_S (Az g) s.heap s.heap [] := va_S.rf
  have hl := lv_entry ([.ref (gA g 4), .int kind, .int name, .int ver, .int mark, .int tr]) (n := 7) (Nat.le_of_ble_eq_true rfl)
  rw [lg_entry_eq]
  generalize (lg_sl ([.ref (gA g 4), .int kind, .int name, .int ver, .int mark, .int tr]) ++ List.replicate (7 - (lg_sl ([.ref (gA g 4), .int kind, .int name, .int ver, .int mark, .int tr])).length) Slot.unset).toArray = ls at hl ⊢
  have hl : lv_has ls 7 [(0, .ref (gA g 4)), (1, .int kind), (2, .int name), (3, .int ver), (4, .int mark), (5, .int tr)] := hl
  refine lv_iload_n hx hb dX3_add_0 rfl (lv_at hl 1 rfl) ?_
  refine lv_iconst (v := 0) hx hb dX3_add_1 (by decide) ?_
  refine lv_iconst (v := 2) hx hb dX3_add_2 (by decide) ?_
  refine vp_callSi (va_Run.run (va_runS (As := [.int kind, .int 0, .int 2]) (rest := []) ⟨hx, hb, hml, hown, hts⟩ (mtX3_isIn l kind 0 2) (va_cwS 3 hts gX3_add_X3_isIn rfl rfl rfl (by decide +kernel) ⟨Nat.le_of_ble_eq_true rfl, Nat.le_of_ble_eq_true rfl⟩) ⟨P0.blind, fun U hU hW9 => ⟨rfl, trivial⟩⟩ rfl rfl hl.1 rfl (lv_room (Nat.le_of_ble_eq_true rfl)) dX3_add_3 ⟨Nat.zero_le _, Nat.zero_le _⟩)) (fun r_2 h_1 => ?_)
  obtain rfl : r_2 = bI (wi kind 0 2) := h_1
  refine lv_if_eq (tgt := 54) hx hb dX3_add_6 (by decide) (fun c_3 => ?_) (fun c_3 => ?_)
  · skip
    replace c_3 := bI_0.mp c_3
    refine lv_iconst (v := 0) hx hb dX3_add_54 (by decide) ?_
    refine lv_istore (lv' := [(6, .int 0), (0, .ref (gA g 4)), (1, .int kind), (2, .int name), (3, .int ver), (4, .int mark), (5, .int tr)]) hx hb dX3_add_55 hl (by decide) rfl (fun ls hl => ?_)
    refine lv_aload_n hx hb dX3_add_57 rfl (lv_at hl 1 rfl) ?_
    refine lv_iload hx hb dX3_add_58 (lv_at hl 0 rfl) ?_
    refine lv_if_ne (tgt := 67) hx hb dX3_add_60 (by decide) (fun c_4 => absurd c_4 (by decide)) (fun c_4 => ?_)
    refine lv_iconst (v := 1) hx hb dX3_add_63 (by decide) ?_
    refine lv_goto (tgt := 90) hx hb dX3_add_64 (by decide) ?_
    refine pM (ty := .int) hx hb hts hinX3 hown hC hS hW 12 19 (by decide) (by decide +kernel) (by decide +kernel) (1) rfl rfl dX3_add_90 (fun H locs hW hS => ?_)
    refine lv_aload_n hx hb dX3_add_93 rfl (lv_at hl 1 rfl) ?_
    refine gM (v := .int 1) hx hb hts hinX3 hown hC hW 19 (by decide) (by decide +kernel) rfl rfl dX3_add_94 ?_
    refine lv_if_le (tgt := 102) hx hb dX3_add_97 (by decide) (fun c_5 => absurd c_5 (by decide)) (fun c_5 => ?_)
    refine lv_iconst (v := 0) hx hb dX3_add_100 (by decide) ?_
    have hk9 : kMA μ a kind name ver mark tr = 1 := by simp [kMA, okM, c_3]
    exact W.iret (v := 0) hx hb hr (fun t ht hW9 => ⟨⟨_, (), rfl, (by dsimp only; unfold adR; rw [hk9]; first | exact (if_pos rfl).symm | exact (if_neg (by decide)).symm), by first | (dsimp only; rw [ht, show adM μ a kind name ver mark tr = (upd μ.1 12 1, μ.2) from by unfold adM; rw [hk9]; first | exact if_pos rfl | exact if_neg (by decide)]; exact hW) | (rw [ht, show adM μ a kind name ver mark tr = (upd μ.1 12 1, μ.2) from by unfold adM; rw [hk9]; first | exact if_pos rfl | exact if_neg (by decide)]; exact hW)⟩, hS.F ht⟩) hS.2.2 dX3_add_101
  · skip
    replace c_3 := bI_n0.mp c_3
    refine lv_iload_n hx hb dX3_add_9 rfl (lv_at hl 2 rfl) ?_
    refine lv_iconst (v := 0) hx hb dX3_add_10 (by decide) ?_
    refine lv_bipush (v := 99) hx hb dX3_add_11 (by decide) ?_
    refine vp_callSi (va_Run.run (va_runS (As := [.int name, .int 0, .int 99]) (rest := []) ⟨hx, hb, hml, hown, hts⟩ (mtX3_isIn l name 0 99) (va_cwS 3 hts gX3_add_X3_isIn rfl rfl rfl (by decide +kernel) ⟨Nat.le_of_ble_eq_true rfl, Nat.le_of_ble_eq_true rfl⟩) ⟨P0.blind, fun U hU hW9 => ⟨rfl, trivial⟩⟩ rfl rfl hl.1 rfl (lv_room (Nat.le_of_ble_eq_true rfl)) dX3_add_13 ⟨Nat.zero_le _, Nat.zero_le _⟩)) (fun r_7 h_6 => ?_)
    obtain rfl : r_7 = bI (wi name 0 99) := h_6
    refine lv_if_eq (tgt := 54) hx hb dX3_add_16 (by decide) (fun c_8 => ?_) (fun c_8 => ?_)
    · skip
      replace c_8 := bI_0.mp c_8
      refine lv_iconst (v := 0) hx hb dX3_add_54 (by decide) ?_
      refine lv_istore (lv' := [(6, .int 0), (0, .ref (gA g 4)), (1, .int kind), (2, .int name), (3, .int ver), (4, .int mark), (5, .int tr)]) hx hb dX3_add_55 hl (by decide) rfl (fun ls hl => ?_)
      refine lv_aload_n hx hb dX3_add_57 rfl (lv_at hl 1 rfl) ?_
      refine lv_iload hx hb dX3_add_58 (lv_at hl 0 rfl) ?_
      refine lv_if_ne (tgt := 67) hx hb dX3_add_60 (by decide) (fun c_9 => absurd c_9 (by decide)) (fun c_9 => ?_)
      refine lv_iconst (v := 1) hx hb dX3_add_63 (by decide) ?_
      refine lv_goto (tgt := 90) hx hb dX3_add_64 (by decide) ?_
      refine pM (ty := .int) hx hb hts hinX3 hown hC hS hW 12 19 (by decide) (by decide +kernel) (by decide +kernel) (1) rfl rfl dX3_add_90 (fun H locs hW hS => ?_)
      refine lv_aload_n hx hb dX3_add_93 rfl (lv_at hl 1 rfl) ?_
      refine gM (v := .int 1) hx hb hts hinX3 hown hC hW 19 (by decide) (by decide +kernel) rfl rfl dX3_add_94 ?_
      refine lv_if_le (tgt := 102) hx hb dX3_add_97 (by decide) (fun c_10 => absurd c_10 (by decide)) (fun c_10 => ?_)
      refine lv_iconst (v := 0) hx hb dX3_add_100 (by decide) ?_
      have hk9 : kMA μ a kind name ver mark tr = 1 := by simp [kMA, okM, c_3, c_8]
      exact W.iret (v := 0) hx hb hr (fun t ht hW9 => ⟨⟨_, (), rfl, (by dsimp only; unfold adR; rw [hk9]; first | exact (if_pos rfl).symm | exact (if_neg (by decide)).symm), by first | (dsimp only; rw [ht, show adM μ a kind name ver mark tr = (upd μ.1 12 1, μ.2) from by unfold adM; rw [hk9]; first | exact if_pos rfl | exact if_neg (by decide)]; exact hW) | (rw [ht, show adM μ a kind name ver mark tr = (upd μ.1 12 1, μ.2) from by unfold adM; rw [hk9]; first | exact if_pos rfl | exact if_neg (by decide)]; exact hW)⟩, hS.F ht⟩) hS.2.2 dX3_add_101
    · skip
      replace c_8 := bI_n0.mp c_8
      refine lv_iload_n hx hb dX3_add_19 rfl (lv_at hl 3 rfl) ?_
      refine lv_iconst (v := 0) hx hb dX3_add_20 (by decide) ?_
      refine lv_ldc (v := 999999999) hx hb hown (hts (.constant RX3 55 (999999999)) (by decide +kernel)) dX3_add_21 ?_
      refine vp_callSi (va_Run.run (va_runS (As := [.int ver, .int 0, .int 999999999]) (rest := []) ⟨hx, hb, hml, hown, hts⟩ (mtX3_isIn l ver 0 999999999) (va_cwS 3 hts gX3_add_X3_isIn rfl rfl rfl (by decide +kernel) ⟨Nat.le_of_ble_eq_true rfl, Nat.le_of_ble_eq_true rfl⟩) ⟨P0.blind, fun U hU hW9 => ⟨rfl, trivial⟩⟩ rfl rfl hl.1 rfl (lv_room (Nat.le_of_ble_eq_true rfl)) dX3_add_23 ⟨Nat.zero_le _, Nat.zero_le _⟩)) (fun r_12 h_11 => ?_)
      obtain rfl : r_12 = bI (wi ver 0 999999999) := h_11
      refine lv_if_eq (tgt := 54) hx hb dX3_add_26 (by decide) (fun c_13 => ?_) (fun c_13 => ?_)
      · skip
        replace c_13 := bI_0.mp c_13
        refine lv_iconst (v := 0) hx hb dX3_add_54 (by decide) ?_
        refine lv_istore (lv' := [(6, .int 0), (0, .ref (gA g 4)), (1, .int kind), (2, .int name), (3, .int ver), (4, .int mark), (5, .int tr)]) hx hb dX3_add_55 hl (by decide) rfl (fun ls hl => ?_)
        refine lv_aload_n hx hb dX3_add_57 rfl (lv_at hl 1 rfl) ?_
        refine lv_iload hx hb dX3_add_58 (lv_at hl 0 rfl) ?_
        refine lv_if_ne (tgt := 67) hx hb dX3_add_60 (by decide) (fun c_14 => absurd c_14 (by decide)) (fun c_14 => ?_)
        refine lv_iconst (v := 1) hx hb dX3_add_63 (by decide) ?_
        refine lv_goto (tgt := 90) hx hb dX3_add_64 (by decide) ?_
        refine pM (ty := .int) hx hb hts hinX3 hown hC hS hW 12 19 (by decide) (by decide +kernel) (by decide +kernel) (1) rfl rfl dX3_add_90 (fun H locs hW hS => ?_)
        refine lv_aload_n hx hb dX3_add_93 rfl (lv_at hl 1 rfl) ?_
        refine gM (v := .int 1) hx hb hts hinX3 hown hC hW 19 (by decide) (by decide +kernel) rfl rfl dX3_add_94 ?_
        refine lv_if_le (tgt := 102) hx hb dX3_add_97 (by decide) (fun c_15 => absurd c_15 (by decide)) (fun c_15 => ?_)
        refine lv_iconst (v := 0) hx hb dX3_add_100 (by decide) ?_
        have hk9 : kMA μ a kind name ver mark tr = 1 := by simp [kMA, okM, c_3, c_8, c_13]
        exact W.iret (v := 0) hx hb hr (fun t ht hW9 => ⟨⟨_, (), rfl, (by dsimp only; unfold adR; rw [hk9]; first | exact (if_pos rfl).symm | exact (if_neg (by decide)).symm), by first | (dsimp only; rw [ht, show adM μ a kind name ver mark tr = (upd μ.1 12 1, μ.2) from by unfold adM; rw [hk9]; first | exact if_pos rfl | exact if_neg (by decide)]; exact hW) | (rw [ht, show adM μ a kind name ver mark tr = (upd μ.1 12 1, μ.2) from by unfold adM; rw [hk9]; first | exact if_pos rfl | exact if_neg (by decide)]; exact hW)⟩, hS.F ht⟩) hS.2.2 dX3_add_101
      · skip
        replace c_13 := bI_n0.mp c_13
        refine lv_iload hx hb dX3_add_29 (lv_at hl 4 rfl) ?_
        refine lv_iconst (v := 0) hx hb dX3_add_31 (by decide) ?_
        refine lv_iconst (v := 2) hx hb dX3_add_32 (by decide) ?_
        refine vp_callSi (va_Run.run (va_runS (As := [.int mark, .int 0, .int 2]) (rest := []) ⟨hx, hb, hml, hown, hts⟩ (mtX3_isIn l mark 0 2) (va_cwS 3 hts gX3_add_X3_isIn rfl rfl rfl (by decide +kernel) ⟨Nat.le_of_ble_eq_true rfl, Nat.le_of_ble_eq_true rfl⟩) ⟨P0.blind, fun U hU hW9 => ⟨rfl, trivial⟩⟩ rfl rfl hl.1 rfl (lv_room (Nat.le_of_ble_eq_true rfl)) dX3_add_33 ⟨Nat.zero_le _, Nat.zero_le _⟩)) (fun r_17 h_16 => ?_)
        obtain rfl : r_17 = bI (wi mark 0 2) := h_16
        refine lv_if_eq (tgt := 54) hx hb dX3_add_36 (by decide) (fun c_18 => ?_) (fun c_18 => ?_)
        · skip
          replace c_18 := bI_0.mp c_18
          refine lv_iconst (v := 0) hx hb dX3_add_54 (by decide) ?_
          refine lv_istore (lv' := [(6, .int 0), (0, .ref (gA g 4)), (1, .int kind), (2, .int name), (3, .int ver), (4, .int mark), (5, .int tr)]) hx hb dX3_add_55 hl (by decide) rfl (fun ls hl => ?_)
          refine lv_aload_n hx hb dX3_add_57 rfl (lv_at hl 1 rfl) ?_
          refine lv_iload hx hb dX3_add_58 (lv_at hl 0 rfl) ?_
          refine lv_if_ne (tgt := 67) hx hb dX3_add_60 (by decide) (fun c_19 => absurd c_19 (by decide)) (fun c_19 => ?_)
          refine lv_iconst (v := 1) hx hb dX3_add_63 (by decide) ?_
          refine lv_goto (tgt := 90) hx hb dX3_add_64 (by decide) ?_
          refine pM (ty := .int) hx hb hts hinX3 hown hC hS hW 12 19 (by decide) (by decide +kernel) (by decide +kernel) (1) rfl rfl dX3_add_90 (fun H locs hW hS => ?_)
          refine lv_aload_n hx hb dX3_add_93 rfl (lv_at hl 1 rfl) ?_
          refine gM (v := .int 1) hx hb hts hinX3 hown hC hW 19 (by decide) (by decide +kernel) rfl rfl dX3_add_94 ?_
          refine lv_if_le (tgt := 102) hx hb dX3_add_97 (by decide) (fun c_20 => absurd c_20 (by decide)) (fun c_20 => ?_)
          refine lv_iconst (v := 0) hx hb dX3_add_100 (by decide) ?_
          have hk9 : kMA μ a kind name ver mark tr = 1 := by simp [kMA, okM, c_3, c_8, c_13, c_18]
          exact W.iret (v := 0) hx hb hr (fun t ht hW9 => ⟨⟨_, (), rfl, (by dsimp only; unfold adR; rw [hk9]; first | exact (if_pos rfl).symm | exact (if_neg (by decide)).symm), by first | (dsimp only; rw [ht, show adM μ a kind name ver mark tr = (upd μ.1 12 1, μ.2) from by unfold adM; rw [hk9]; first | exact if_pos rfl | exact if_neg (by decide)]; exact hW) | (rw [ht, show adM μ a kind name ver mark tr = (upd μ.1 12 1, μ.2) from by unfold adM; rw [hk9]; first | exact if_pos rfl | exact if_neg (by decide)]; exact hW)⟩, hS.F ht⟩) hS.2.2 dX3_add_101
        · skip
          replace c_18 := bI_n0.mp c_18
          refine lv_iload hx hb dX3_add_39 (lv_at hl 5 rfl) ?_
          refine lv_iconst (v := (-1)) hx hb dX3_add_41 (by decide) ?_
          refine lv_bipush (v := 9) hx hb dX3_add_42 (by decide) ?_
          refine vp_callSi (va_Run.run (va_runS (As := [.int tr, .int ((-1)), .int 9]) (rest := []) ⟨hx, hb, hml, hown, hts⟩ (mtX3_isIn l tr (-1) 9) (va_cwS 3 hts gX3_add_X3_isIn rfl rfl rfl (by decide +kernel) ⟨Nat.le_of_ble_eq_true rfl, Nat.le_of_ble_eq_true rfl⟩) ⟨P0.blind, fun U hU hW9 => ⟨rfl, trivial⟩⟩ rfl rfl hl.1 rfl (lv_room (Nat.le_of_ble_eq_true rfl)) dX3_add_44 ⟨Nat.zero_le _, Nat.zero_le _⟩)) (fun r_22 h_21 => ?_)
          obtain rfl : r_22 = bI (wi tr (-1) 9) := h_21
          refine lv_if_eq (tgt := 54) hx hb dX3_add_47 (by decide) (fun c_23 => ?_) (fun c_23 => ?_)
          · skip
            replace c_23 := bI_0.mp c_23
            refine lv_iconst (v := 0) hx hb dX3_add_54 (by decide) ?_
            refine lv_istore (lv' := [(6, .int 0), (0, .ref (gA g 4)), (1, .int kind), (2, .int name), (3, .int ver), (4, .int mark), (5, .int tr)]) hx hb dX3_add_55 hl (by decide) rfl (fun ls hl => ?_)
            refine lv_aload_n hx hb dX3_add_57 rfl (lv_at hl 1 rfl) ?_
            refine lv_iload hx hb dX3_add_58 (lv_at hl 0 rfl) ?_
            refine lv_if_ne (tgt := 67) hx hb dX3_add_60 (by decide) (fun c_24 => absurd c_24 (by decide)) (fun c_24 => ?_)
            refine lv_iconst (v := 1) hx hb dX3_add_63 (by decide) ?_
            refine lv_goto (tgt := 90) hx hb dX3_add_64 (by decide) ?_
            refine pM (ty := .int) hx hb hts hinX3 hown hC hS hW 12 19 (by decide) (by decide +kernel) (by decide +kernel) (1) rfl rfl dX3_add_90 (fun H locs hW hS => ?_)
            refine lv_aload_n hx hb dX3_add_93 rfl (lv_at hl 1 rfl) ?_
            refine gM (v := .int 1) hx hb hts hinX3 hown hC hW 19 (by decide) (by decide +kernel) rfl rfl dX3_add_94 ?_
            refine lv_if_le (tgt := 102) hx hb dX3_add_97 (by decide) (fun c_25 => absurd c_25 (by decide)) (fun c_25 => ?_)
            refine lv_iconst (v := 0) hx hb dX3_add_100 (by decide) ?_
            have hk9 : kMA μ a kind name ver mark tr = 1 := by simp [kMA, okM, c_3, c_8, c_13, c_18, c_23]
            exact W.iret (v := 0) hx hb hr (fun t ht hW9 => ⟨⟨_, (), rfl, (by dsimp only; unfold adR; rw [hk9]; first | exact (if_pos rfl).symm | exact (if_neg (by decide)).symm), by first | (dsimp only; rw [ht, show adM μ a kind name ver mark tr = (upd μ.1 12 1, μ.2) from by unfold adM; rw [hk9]; first | exact if_pos rfl | exact if_neg (by decide)]; exact hW) | (rw [ht, show adM μ a kind name ver mark tr = (upd μ.1 12 1, μ.2) from by unfold adM; rw [hk9]; first | exact if_pos rfl | exact if_neg (by decide)]; exact hW)⟩, hS.F ht⟩) hS.2.2 dX3_add_101
          · skip
            replace c_23 := bI_n0.mp c_23
            refine lv_iconst (v := 1) hx hb dX3_add_50 (by decide) ?_
            refine lv_goto (tgt := 55) hx hb dX3_add_51 (by decide) ?_
            refine lv_istore (lv' := [(6, .int 1), (0, .ref (gA g 4)), (1, .int kind), (2, .int name), (3, .int ver), (4, .int mark), (5, .int tr)]) hx hb dX3_add_55 hl (by decide) rfl (fun ls hl => ?_)
            refine lv_aload_n hx hb dX3_add_57 rfl (lv_at hl 1 rfl) ?_
            refine lv_iload hx hb dX3_add_58 (lv_at hl 0 rfl) ?_
            refine lv_if_ne (tgt := 67) hx hb dX3_add_60 (by decide) (fun c_26 => ?_) (fun c_26 => absurd c_26 (by decide))
            refine lv_aload_n hx hb dX3_add_67 rfl (lv_at hl 1 rfl) ?_
            refine vp_callSi (va_Run.run (va_runV (As := []) (rest := [.ref (gA g 4)]) ⟨hx, hb, hml, hown, hts⟩ (mtX3_count l g σ μ o a hM ha) (cwV 0 hts gX3_add_X3_count rfl rfl rfl (by decide +kernel) ⟨Nat.le_of_ble_eq_true rfl, Nat.le_of_ble_eq_true rfl⟩) ⟨PW.blind, rcM hC hW, fun U hU hW9 => ⟨rfl, PW.at hC hS hW U hU hW9⟩⟩ rfl rfl hl.1 rfl (lv_room (Nat.le_of_ble_eq_true rfl)) dX3_add_68 ⟨Nat.zero_le _, Nat.zero_le _⟩)) (fun r_28 h_27 => ?_)
            obtain rfl : r_28 = nI (ct (thM μ) a) := h_27
            refine lv_bipush (v := 16) hx hb dX3_add_71 (by decide) ?_
            refine lv_icmp_eq (tgt := 85) hx hb dX3_add_73 (by decide) (fun c_29 => ?_) (fun c_29 => ?_)
            · skip
              refine lv_iconst (v := 2) hx hb dX3_add_85 (by decide) ?_
              refine lv_goto (tgt := 90) hx hb dX3_add_86 (by decide) ?_
              refine pM (ty := .int) hx hb hts hinX3 hown hC hS hW 12 19 (by decide) (by decide +kernel) (by decide +kernel) (2) rfl rfl dX3_add_90 (fun H locs hW hS => ?_)
              refine lv_aload_n hx hb dX3_add_93 rfl (lv_at hl 1 rfl) ?_
              refine gM (v := .int 2) hx hb hts hinX3 hown hC hW 19 (by decide) (by decide +kernel) rfl rfl dX3_add_94 ?_
              refine lv_if_le (tgt := 102) hx hb dX3_add_97 (by decide) (fun c_30 => absurd c_30 (by decide)) (fun c_30 => ?_)
              refine lv_iconst (v := 0) hx hb dX3_add_100 (by decide) ?_
              have hk9 : kMA μ a kind name ver mark tr = 2 := by simp [kMA, okM, c_3, c_8, c_13, c_18, c_23, c_29]
              exact W.iret (v := 0) hx hb hr (fun t ht hW9 => ⟨⟨_, (), rfl, (by dsimp only; unfold adR; rw [hk9]; first | exact (if_pos rfl).symm | exact (if_neg (by decide)).symm), by first | (dsimp only; rw [ht, show adM μ a kind name ver mark tr = (upd μ.1 12 2, μ.2) from by unfold adM; rw [hk9]; first | exact if_pos rfl | exact if_neg (by decide)]; exact hW) | (rw [ht, show adM μ a kind name ver mark tr = (upd μ.1 12 2, μ.2) from by unfold adM; rw [hk9]; first | exact if_pos rfl | exact if_neg (by decide)]; exact hW)⟩, hS.F ht⟩) hS.2.2 dX3_add_101
            · skip
              refine lv_aload_n hx hb dX3_add_76 rfl (lv_at hl 1 rfl) ?_
              refine gM (v := .int (μ.1 0)) hx hb hts hinX3 hown hC hW 0 (by decide) (by decide +kernel) rfl rfl dX3_add_77 ?_
              refine lv_bipush (v := 60) hx hb dX3_add_80 (by decide) ?_
              refine lv_icmp_ne (tgt := 89) hx hb dX3_add_82 (by decide) (fun c_31 => ?_) (fun c_31 => ?_)
              · skip
                refine lv_iconst (v := 0) hx hb dX3_add_89 (by decide) ?_
                refine pM (ty := .int) hx hb hts hinX3 hown hC hS hW 12 19 (by decide) (by decide +kernel) (by decide +kernel) (0) rfl rfl dX3_add_90 (fun H locs hW hS => ?_)
                refine lv_aload_n hx hb dX3_add_93 rfl (lv_at hl 1 rfl) ?_
                refine gM (v := .int 0) hx hb hts hinX3 hown hC hW 19 (by decide) (by decide +kernel) rfl rfl dX3_add_94 ?_
                refine lv_if_le (tgt := 102) hx hb dX3_add_97 (by decide) (fun c_32 => ?_) (fun c_32 => absurd c_32 (by decide))
                refine lv_aload_n hx hb dX3_add_102 rfl (lv_at hl 1 rfl) ?_
                refine gM (v := .ref (gA g 5)) hx hb hts hinX3 hown hC hW 1 (by decide) (by decide +kernel) rfl rfl dX3_add_103 ?_
                refine lv_aload_n hx hb dX3_add_106 rfl (lv_at hl 1 rfl) ?_
                refine gM (v := .int (μ.1 0)) hx hb hts hinX3 hown hC hW 0 (by decide) (by decide +kernel) rfl rfl dX3_add_107 ?_
                refine lv_iconst (v := 1) hx hb dX3_add_110 (by decide) ?_
                have c9 := c_31
                refine mStZI (ad_in hM ha c9) hx hb hC hS hW (1) rfl dX3_add_111 (fun H locs hW hS => ?_)
                refine lv_aload_n hx hb dX3_add_112 rfl (lv_at hl 1 rfl) ?_
                refine gM (v := .ref (gA g 6)) hx hb hts hinX3 hown hC hW 2 (by decide) (by decide +kernel) rfl rfl dX3_add_113 ?_
                refine lv_aload_n hx hb dX3_add_116 rfl (lv_at hl 1 rfl) ?_
                refine gM (v := .int (μ.1 0)) hx hb hts hinX3 hown hC hW 0 (by decide) (by decide +kernel) rfl rfl dX3_add_117 ?_
                refine lv_iload_n hx hb dX3_add_120 rfl (lv_at hl 2 rfl) ?_
                refine mStI 0 (by decide) (ad_in hM ha c9) hx hb hC hS hW (kind) dX3_add_121 (fun H locs hW hS => ?_)
                refine lv_aload_n hx hb dX3_add_122 rfl (lv_at hl 1 rfl) ?_
                refine gM (v := .ref (gA g 7)) hx hb hts hinX3 hown hC hW 3 (by decide) (by decide +kernel) rfl rfl dX3_add_123 ?_
                refine lv_aload_n hx hb dX3_add_126 rfl (lv_at hl 1 rfl) ?_
                refine gM (v := .int (μ.1 0)) hx hb hts hinX3 hown hC hW 0 (by decide) (by decide +kernel) rfl rfl dX3_add_127 ?_
                refine lv_iload_n hx hb dX3_add_130 rfl (lv_at hl 3 rfl) ?_
                refine mStI 1 (by decide) (ad_in hM ha c9) hx hb hC hS hW (name) dX3_add_131 (fun H locs hW hS => ?_)
                refine lv_aload_n hx hb dX3_add_132 rfl (lv_at hl 1 rfl) ?_
                refine gM (v := .ref (gA g 8)) hx hb hts hinX3 hown hC hW 4 (by decide) (by decide +kernel) rfl rfl dX3_add_133 ?_
                refine lv_aload_n hx hb dX3_add_136 rfl (lv_at hl 1 rfl) ?_
                refine gM (v := .int (μ.1 0)) hx hb hts hinX3 hown hC hW 0 (by decide) (by decide +kernel) rfl rfl dX3_add_137 ?_
                refine lv_iload_n hx hb dX3_add_140 rfl (lv_at hl 4 rfl) ?_
                refine mStI 2 (by decide) (ad_in hM ha c9) hx hb hC hS hW (ver) dX3_add_141 (fun H locs hW hS => ?_)
                refine lv_aload_n hx hb dX3_add_142 rfl (lv_at hl 1 rfl) ?_
                refine gM (v := .ref (gA g 9)) hx hb hts hinX3 hown hC hW 5 (by decide) (by decide +kernel) rfl rfl dX3_add_143 ?_
                refine lv_aload_n hx hb dX3_add_146 rfl (lv_at hl 1 rfl) ?_
                refine gM (v := .int (μ.1 0)) hx hb hts hinX3 hown hC hW 0 (by decide) (by decide +kernel) rfl rfl dX3_add_147 ?_
                refine lv_iload hx hb dX3_add_150 (lv_at hl 5 rfl) ?_
                refine mStI 3 (by decide) (ad_in hM ha c9) hx hb hC hS hW (mark) dX3_add_152 (fun H locs hW hS => ?_)
                refine lv_aload_n hx hb dX3_add_153 rfl (lv_at hl 1 rfl) ?_
                refine gM (v := .ref (gA g 10)) hx hb hts hinX3 hown hC hW 6 (by decide) (by decide +kernel) rfl rfl dX3_add_154 ?_
                refine lv_aload_n hx hb dX3_add_157 rfl (lv_at hl 1 rfl) ?_
                refine gM (v := .int (μ.1 0)) hx hb hts hinX3 hown hC hW 0 (by decide) (by decide +kernel) rfl rfl dX3_add_158 ?_
                refine lv_iload hx hb dX3_add_161 (lv_at hl 6 rfl) ?_
                refine mStI 4 (by decide) (ad_in hM ha c9) hx hb hC hS hW (tr) dX3_add_163 (fun H locs hW hS => ?_)
                refine lv_aload_n hx hb dX3_add_164 rfl (lv_at hl 1 rfl) ?_
                refine lv_dup hx hb dX3_add_165 rfl ?_
                refine gM (v := .int (μ.1 0)) hx hb hts hinX3 hown hC hW 0 (by decide) (by decide +kernel) rfl rfl dX3_add_166 ?_
                refine lv_iconst (v := 1) hx hb dX3_add_169 (by decide) ?_
                refine lv_iadd hx hb dX3_add_170 ?_
                refine pM (ty := .int) hx hb hts hinX3 hown hC hS hW 0 0 (by decide) (by decide +kernel) (by decide +kernel) ((μ.1 0 + 1)) rfl rfl dX3_add_171 (fun H locs hW hS => ?_)
                refine lv_aload_n hx hb dX3_add_174 rfl (lv_at hl 1 rfl) ?_
                refine gM (v := .int (μ.1 0 + 1)) hx hb hts hinX3 hown hC hW 0 (by decide) (by decide +kernel) rfl rfl dX3_add_175 ?_
                refine lv_iconst (v := 1) hx hb dX3_add_178 (by decide) ?_
                refine lv_isub hx hb dX3_add_179 ?_
                have hk9 : kMA μ a kind name ver mark tr = 0 := by simp [kMA, okM, c_3, c_8, c_13, c_18, c_23, c_29, c_31]
                exact W.iret (v := (μ.1 0 + 1 - 1)) hx hb hr (fun t ht hW9 => ⟨⟨_, (), rfl, (by dsimp only; unfold adR; rw [hk9]; first | exact (if_pos rfl).symm | exact (if_neg (by decide)).symm), by first | (dsimp only; rw [ht, show adM μ a kind name ver mark tr = (upd (upd μ.1 12 0) 0 ((μ.1 0 + 1)), up2 (up2 (up2 (up2 (up2 (up2 μ.2 0 (upd (μ.2 0) (μ.1 0).toNatClampNeg 1)) 1 (upd ((up2 μ.2 0 (upd (μ.2 0) (μ.1 0).toNatClampNeg 1)) 1) (μ.1 0).toNatClampNeg kind)) 2 (upd ((up2 (up2 μ.2 0 (upd (μ.2 0) (μ.1 0).toNatClampNeg 1)) 1 (upd ((up2 μ.2 0 (upd (μ.2 0) (μ.1 0).toNatClampNeg 1)) 1) (μ.1 0).toNatClampNeg kind)) 2) (μ.1 0).toNatClampNeg name)) 3 (upd ((up2 (up2 (up2 μ.2 0 (upd (μ.2 0) (μ.1 0).toNatClampNeg 1)) 1 (upd ((up2 μ.2 0 (upd (μ.2 0) (μ.1 0).toNatClampNeg 1)) 1) (μ.1 0).toNatClampNeg kind)) 2 (upd ((up2 (up2 μ.2 0 (upd (μ.2 0) (μ.1 0).toNatClampNeg 1)) 1 (upd ((up2 μ.2 0 (upd (μ.2 0) (μ.1 0).toNatClampNeg 1)) 1) (μ.1 0).toNatClampNeg kind)) 2) (μ.1 0).toNatClampNeg name)) 3) (μ.1 0).toNatClampNeg ver)) 4 (upd ((up2 (up2 (up2 (up2 μ.2 0 (upd (μ.2 0) (μ.1 0).toNatClampNeg 1)) 1 (upd ((up2 μ.2 0 (upd (μ.2 0) (μ.1 0).toNatClampNeg 1)) 1) (μ.1 0).toNatClampNeg kind)) 2 (upd ((up2 (up2 μ.2 0 (upd (μ.2 0) (μ.1 0).toNatClampNeg 1)) 1 (upd ((up2 μ.2 0 (upd (μ.2 0) (μ.1 0).toNatClampNeg 1)) 1) (μ.1 0).toNatClampNeg kind)) 2) (μ.1 0).toNatClampNeg name)) 3 (upd ((up2 (up2 (up2 μ.2 0 (upd (μ.2 0) (μ.1 0).toNatClampNeg 1)) 1 (upd ((up2 μ.2 0 (upd (μ.2 0) (μ.1 0).toNatClampNeg 1)) 1) (μ.1 0).toNatClampNeg kind)) 2 (upd ((up2 (up2 μ.2 0 (upd (μ.2 0) (μ.1 0).toNatClampNeg 1)) 1 (upd ((up2 μ.2 0 (upd (μ.2 0) (μ.1 0).toNatClampNeg 1)) 1) (μ.1 0).toNatClampNeg kind)) 2) (μ.1 0).toNatClampNeg name)) 3) (μ.1 0).toNatClampNeg ver)) 4) (μ.1 0).toNatClampNeg mark)) 5 (upd ((up2 (up2 (up2 (up2 (up2 μ.2 0 (upd (μ.2 0) (μ.1 0).toNatClampNeg 1)) 1 (upd ((up2 μ.2 0 (upd (μ.2 0) (μ.1 0).toNatClampNeg 1)) 1) (μ.1 0).toNatClampNeg kind)) 2 (upd ((up2 (up2 μ.2 0 (upd (μ.2 0) (μ.1 0).toNatClampNeg 1)) 1 (upd ((up2 μ.2 0 (upd (μ.2 0) (μ.1 0).toNatClampNeg 1)) 1) (μ.1 0).toNatClampNeg kind)) 2) (μ.1 0).toNatClampNeg name)) 3 (upd ((up2 (up2 (up2 μ.2 0 (upd (μ.2 0) (μ.1 0).toNatClampNeg 1)) 1 (upd ((up2 μ.2 0 (upd (μ.2 0) (μ.1 0).toNatClampNeg 1)) 1) (μ.1 0).toNatClampNeg kind)) 2 (upd ((up2 (up2 μ.2 0 (upd (μ.2 0) (μ.1 0).toNatClampNeg 1)) 1 (upd ((up2 μ.2 0 (upd (μ.2 0) (μ.1 0).toNatClampNeg 1)) 1) (μ.1 0).toNatClampNeg kind)) 2) (μ.1 0).toNatClampNeg name)) 3) (μ.1 0).toNatClampNeg ver)) 4 (upd ((up2 (up2 (up2 (up2 μ.2 0 (upd (μ.2 0) (μ.1 0).toNatClampNeg 1)) 1 (upd ((up2 μ.2 0 (upd (μ.2 0) (μ.1 0).toNatClampNeg 1)) 1) (μ.1 0).toNatClampNeg kind)) 2 (upd ((up2 (up2 μ.2 0 (upd (μ.2 0) (μ.1 0).toNatClampNeg 1)) 1 (upd ((up2 μ.2 0 (upd (μ.2 0) (μ.1 0).toNatClampNeg 1)) 1) (μ.1 0).toNatClampNeg kind)) 2) (μ.1 0).toNatClampNeg name)) 3 (upd ((up2 (up2 (up2 μ.2 0 (upd (μ.2 0) (μ.1 0).toNatClampNeg 1)) 1 (upd ((up2 μ.2 0 (upd (μ.2 0) (μ.1 0).toNatClampNeg 1)) 1) (μ.1 0).toNatClampNeg kind)) 2 (upd ((up2 (up2 μ.2 0 (upd (μ.2 0) (μ.1 0).toNatClampNeg 1)) 1 (upd ((up2 μ.2 0 (upd (μ.2 0) (μ.1 0).toNatClampNeg 1)) 1) (μ.1 0).toNatClampNeg kind)) 2) (μ.1 0).toNatClampNeg name)) 3) (μ.1 0).toNatClampNeg ver)) 4) (μ.1 0).toNatClampNeg mark)) 5) (μ.1 0).toNatClampNeg tr)) from by unfold adM; rw [hk9]; first | exact if_pos rfl | exact if_neg (by decide)]; exact hW) | (rw [ht, show adM μ a kind name ver mark tr = (upd (upd μ.1 12 0) 0 ((μ.1 0 + 1)), up2 (up2 (up2 (up2 (up2 (up2 μ.2 0 (upd (μ.2 0) (μ.1 0).toNatClampNeg 1)) 1 (upd ((up2 μ.2 0 (upd (μ.2 0) (μ.1 0).toNatClampNeg 1)) 1) (μ.1 0).toNatClampNeg kind)) 2 (upd ((up2 (up2 μ.2 0 (upd (μ.2 0) (μ.1 0).toNatClampNeg 1)) 1 (upd ((up2 μ.2 0 (upd (μ.2 0) (μ.1 0).toNatClampNeg 1)) 1) (μ.1 0).toNatClampNeg kind)) 2) (μ.1 0).toNatClampNeg name)) 3 (upd ((up2 (up2 (up2 μ.2 0 (upd (μ.2 0) (μ.1 0).toNatClampNeg 1)) 1 (upd ((up2 μ.2 0 (upd (μ.2 0) (μ.1 0).toNatClampNeg 1)) 1) (μ.1 0).toNatClampNeg kind)) 2 (upd ((up2 (up2 μ.2 0 (upd (μ.2 0) (μ.1 0).toNatClampNeg 1)) 1 (upd ((up2 μ.2 0 (upd (μ.2 0) (μ.1 0).toNatClampNeg 1)) 1) (μ.1 0).toNatClampNeg kind)) 2) (μ.1 0).toNatClampNeg name)) 3) (μ.1 0).toNatClampNeg ver)) 4 (upd ((up2 (up2 (up2 (up2 μ.2 0 (upd (μ.2 0) (μ.1 0).toNatClampNeg 1)) 1 (upd ((up2 μ.2 0 (upd (μ.2 0) (μ.1 0).toNatClampNeg 1)) 1) (μ.1 0).toNatClampNeg kind)) 2 (upd ((up2 (up2 μ.2 0 (upd (μ.2 0) (μ.1 0).toNatClampNeg 1)) 1 (upd ((up2 μ.2 0 (upd (μ.2 0) (μ.1 0).toNatClampNeg 1)) 1) (μ.1 0).toNatClampNeg kind)) 2) (μ.1 0).toNatClampNeg name)) 3 (upd ((up2 (up2 (up2 μ.2 0 (upd (μ.2 0) (μ.1 0).toNatClampNeg 1)) 1 (upd ((up2 μ.2 0 (upd (μ.2 0) (μ.1 0).toNatClampNeg 1)) 1) (μ.1 0).toNatClampNeg kind)) 2 (upd ((up2 (up2 μ.2 0 (upd (μ.2 0) (μ.1 0).toNatClampNeg 1)) 1 (upd ((up2 μ.2 0 (upd (μ.2 0) (μ.1 0).toNatClampNeg 1)) 1) (μ.1 0).toNatClampNeg kind)) 2) (μ.1 0).toNatClampNeg name)) 3) (μ.1 0).toNatClampNeg ver)) 4) (μ.1 0).toNatClampNeg mark)) 5 (upd ((up2 (up2 (up2 (up2 (up2 μ.2 0 (upd (μ.2 0) (μ.1 0).toNatClampNeg 1)) 1 (upd ((up2 μ.2 0 (upd (μ.2 0) (μ.1 0).toNatClampNeg 1)) 1) (μ.1 0).toNatClampNeg kind)) 2 (upd ((up2 (up2 μ.2 0 (upd (μ.2 0) (μ.1 0).toNatClampNeg 1)) 1 (upd ((up2 μ.2 0 (upd (μ.2 0) (μ.1 0).toNatClampNeg 1)) 1) (μ.1 0).toNatClampNeg kind)) 2) (μ.1 0).toNatClampNeg name)) 3 (upd ((up2 (up2 (up2 μ.2 0 (upd (μ.2 0) (μ.1 0).toNatClampNeg 1)) 1 (upd ((up2 μ.2 0 (upd (μ.2 0) (μ.1 0).toNatClampNeg 1)) 1) (μ.1 0).toNatClampNeg kind)) 2 (upd ((up2 (up2 μ.2 0 (upd (μ.2 0) (μ.1 0).toNatClampNeg 1)) 1 (upd ((up2 μ.2 0 (upd (μ.2 0) (μ.1 0).toNatClampNeg 1)) 1) (μ.1 0).toNatClampNeg kind)) 2) (μ.1 0).toNatClampNeg name)) 3) (μ.1 0).toNatClampNeg ver)) 4 (upd ((up2 (up2 (up2 (up2 μ.2 0 (upd (μ.2 0) (μ.1 0).toNatClampNeg 1)) 1 (upd ((up2 μ.2 0 (upd (μ.2 0) (μ.1 0).toNatClampNeg 1)) 1) (μ.1 0).toNatClampNeg kind)) 2 (upd ((up2 (up2 μ.2 0 (upd (μ.2 0) (μ.1 0).toNatClampNeg 1)) 1 (upd ((up2 μ.2 0 (upd (μ.2 0) (μ.1 0).toNatClampNeg 1)) 1) (μ.1 0).toNatClampNeg kind)) 2) (μ.1 0).toNatClampNeg name)) 3 (upd ((up2 (up2 (up2 μ.2 0 (upd (μ.2 0) (μ.1 0).toNatClampNeg 1)) 1 (upd ((up2 μ.2 0 (upd (μ.2 0) (μ.1 0).toNatClampNeg 1)) 1) (μ.1 0).toNatClampNeg kind)) 2 (upd ((up2 (up2 μ.2 0 (upd (μ.2 0) (μ.1 0).toNatClampNeg 1)) 1 (upd ((up2 μ.2 0 (upd (μ.2 0) (μ.1 0).toNatClampNeg 1)) 1) (μ.1 0).toNatClampNeg kind)) 2) (μ.1 0).toNatClampNeg name)) 3) (μ.1 0).toNatClampNeg ver)) 4) (μ.1 0).toNatClampNeg mark)) 5) (μ.1 0).toNatClampNeg tr)) from by unfold adM; rw [hk9]; first | exact if_pos rfl | exact if_neg (by decide)]; exact hW)⟩, hS.F ht⟩) hS.2.2 dX3_add_180
              · skip
                refine lv_iconst (v := 2) hx hb dX3_add_85 (by decide) ?_
                refine lv_goto (tgt := 90) hx hb dX3_add_86 (by decide) ?_
                refine pM (ty := .int) hx hb hts hinX3 hown hC hS hW 12 19 (by decide) (by decide +kernel) (by decide +kernel) (2) rfl rfl dX3_add_90 (fun H locs hW hS => ?_)
                refine lv_aload_n hx hb dX3_add_93 rfl (lv_at hl 1 rfl) ?_
                refine gM (v := .int 2) hx hb hts hinX3 hown hC hW 19 (by decide) (by decide +kernel) rfl rfl dX3_add_94 ?_
                refine lv_if_le (tgt := 102) hx hb dX3_add_97 (by decide) (fun c_33 => absurd c_33 (by decide)) (fun c_33 => ?_)
                refine lv_iconst (v := 0) hx hb dX3_add_100 (by decide) ?_
                have hk9 : kMA μ a kind name ver mark tr = 2 := by simp [kMA, okM, c_3, c_8, c_13, c_18, c_23, c_29, c_31]
                exact W.iret (v := 0) hx hb hr (fun t ht hW9 => ⟨⟨_, (), rfl, (by dsimp only; unfold adR; rw [hk9]; first | exact (if_pos rfl).symm | exact (if_neg (by decide)).symm), by first | (dsimp only; rw [ht, show adM μ a kind name ver mark tr = (upd μ.1 12 2, μ.2) from by unfold adM; rw [hk9]; first | exact if_pos rfl | exact if_neg (by decide)]; exact hW) | (rw [ht, show adM μ a kind name ver mark tr = (upd μ.1 12 2, μ.2) from by unfold adM; rw [hk9]; first | exact if_pos rfl | exact if_neg (by decide)]; exact hW)⟩, hS.F ht⟩) hS.2.2 dX3_add_101
set_option maxHeartbeats 4000000 in
set_option maxRecDepth 100000 in
theorem mtX3_remove (l : Launch) (g : Ge) (σ : Sg) (μ : Mg) (o : Nat → Int64) (e9 : Int32) (a : Nat) (hM : μ.1 0 = nI a) (ha : a ≤ 60) : Met l yX3_remove wsX3_remove ({ frames := 2, cells := 0, slots := 0, locals := 43 } : Room) (va_Pc [.ref (gA g 4), .int e9] (PW g σ μ o)) (va_Qi (S := Unit) (fun r _ => r = reR μ a e9) (fun _ t => Wd g σ (reM μ e9) o t.heap) (Az g)) 0 0 (Az g) := by
  refine Met.ofW (cc := cX3_remove) (maxL := 2) (ret := (some .int)) (by decide) rfl ?_
  intro p e s m args below meth c s₁ B hml hv
  obtain ⟨rfl, hC, hW⟩ := hv
  have hx := B.exec
  have hb := B.bytes
  have hr := B.returns
  have hts := atoms_spec (ws := wsX3_remove) B.pre
  have hown : s.vm.findClass RX3 = some m.cls := findClass_of_methodNamed B.named
  have hlocks := B.notSynchronized
  have hinX3 : ∀ w ∈ wsX30, w ∈ wsX3_remove := by decide +kernel
  have hS : va_S (Az g) s.heap s.heap [] := va_S.rf
  have hl := lv_entry ([.ref (gA g 4), .int e9]) (n := 2) (Nat.le_of_ble_eq_true rfl)
  rw [lg_entry_eq]
  generalize (lg_sl ([.ref (gA g 4), .int e9]) ++ List.replicate (2 - (lg_sl ([.ref (gA g 4), .int e9])).length) Slot.unset).toArray = ls at hl ⊢
  have hl : lv_has ls 2 [(0, .ref (gA g 4)), (1, .int e9)] := hl
  refine lv_aload_n hx hb dX3_remove_0 rfl (lv_at hl 0 rfl) ?_
  refine lv_aload_n hx hb dX3_remove_1 rfl (lv_at hl 0 rfl) ?_
  refine lv_iload_n hx hb dX3_remove_2 rfl (lv_at hl 1 rfl) ?_
  refine vp_callSi (va_Run.run (va_runV (As := [.int e9]) (rest := [.ref (gA g 4)]) ⟨hx, hb, hml, hown, hts⟩ (mtX3_isThere l g σ μ o e9 a hM ha) (cwV 1 hts gX3_remove_X3_isThere rfl rfl rfl (by decide +kernel) ⟨Nat.le_of_ble_eq_true rfl, Nat.le_of_ble_eq_true rfl⟩) ⟨PW.blind, rcM hC hW, fun U hU hW9 => ⟨rfl, PW.at hC hS hW U hU hW9⟩⟩ rfl rfl hl.1 rfl (lv_room (Nat.le_of_ble_eq_true rfl)) dX3_remove_3 ⟨Nat.zero_le _, Nat.zero_le _⟩)) (fun r_2 h_1 => ?_)
  obtain rfl : r_2 = bI (mt μ e9) := h_1
  refine lv_if_eq (tgt := 13) hx hb dX3_remove_6 (by decide) (fun c_3 => ?_) (fun c_3 => ?_)
  · skip
    replace c_3 := bI_0.mp c_3
    refine lv_iconst (v := 1) hx hb dX3_remove_13 (by decide) ?_
    refine pM (ty := .int) hx hb hts hinX3 hown hC hS hW 12 19 (by decide) (by decide +kernel) (by decide +kernel) (1) rfl rfl dX3_remove_14 (fun H locs hW hS => ?_)
    refine lv_aload_n hx hb dX3_remove_17 rfl (lv_at hl 0 rfl) ?_
    refine gM (v := .int 1) hx hb hts hinX3 hown hC hW 19 (by decide) (by decide +kernel) rfl rfl dX3_remove_18 ?_
    refine lv_if_le (tgt := 26) hx hb dX3_remove_21 (by decide) (fun c_4 => absurd c_4 (by decide)) (fun c_4 => ?_)
    refine lv_iconst (v := 0) hx hb dX3_remove_24 (by decide) ?_
    have hk9 : kMR μ e9 = 1 := by simp [kMR, c_3]
    exact W.iret (v := 0) hx hb hr (fun t ht hW9 => ⟨⟨_, (), rfl, (by dsimp only; unfold reR; rw [hk9]; first | exact (if_pos rfl).symm | exact (if_neg (by decide)).symm), by first | (dsimp only; rw [ht, show reM μ e9 = (upd μ.1 12 1, μ.2) from by unfold reM; rw [hk9]; first | exact if_pos rfl | exact if_neg (by decide)]; exact hW) | (rw [ht, show reM μ e9 = (upd μ.1 12 1, μ.2) from by unfold reM; rw [hk9]; first | exact if_pos rfl | exact if_neg (by decide)]; exact hW)⟩, hS.F ht⟩) hS.2.2 dX3_remove_25
  · skip
    replace c_3 := bI_n0.mp c_3
    refine lv_iconst (v := 0) hx hb dX3_remove_9 (by decide) ?_
    refine lv_goto (tgt := 14) hx hb dX3_remove_10 (by decide) ?_
    refine pM (ty := .int) hx hb hts hinX3 hown hC hS hW 12 19 (by decide) (by decide +kernel) (by decide +kernel) (0) rfl rfl dX3_remove_14 (fun H locs hW hS => ?_)
    refine lv_aload_n hx hb dX3_remove_17 rfl (lv_at hl 0 rfl) ?_
    refine gM (v := .int 0) hx hb hts hinX3 hown hC hW 19 (by decide) (by decide +kernel) rfl rfl dX3_remove_18 ?_
    refine lv_if_le (tgt := 26) hx hb dX3_remove_21 (by decide) (fun c_5 => ?_) (fun c_5 => absurd c_5 (by decide))
    refine lv_aload_n hx hb dX3_remove_26 rfl (lv_at hl 0 rfl) ?_
    refine gM (v := .ref (gA g 5)) hx hb hts hinX3 hown hC hW 1 (by decide) (by decide +kernel) rfl rfl dX3_remove_27 ?_
    refine lv_iload_n hx hb dX3_remove_30 rfl (lv_at hl 1 rfl) ?_
    refine lv_iconst (v := 0) hx hb dX3_remove_31 (by decide) ?_
    refine mStZI (mt_in hM ha c_3) hx hb hC hS hW (0) rfl dX3_remove_32 (fun H locs hW hS => ?_)
    refine lv_aload_n hx hb dX3_remove_33 rfl (lv_at hl 0 rfl) ?_
    refine vp_callSi (va_Run.run (va_runV (As := []) (rest := []) ⟨hx, hb, hml, hown, hts⟩ (mtX3_count l g σ ((upd μ.1 12 0, up2 μ.2 0 (upd (μ.2 0) e9.toNatClampNeg 0))) o a hM ha) (cwV 0 hts gX3_remove_X3_count rfl rfl rfl (by decide +kernel) ⟨Nat.le_of_ble_eq_true rfl, Nat.le_of_ble_eq_true rfl⟩) ⟨PW.blind, rcM hC hW, fun U hU hW9 => ⟨rfl, PW.at hC hS hW U hU hW9⟩⟩ rfl rfl hl.1 rfl (lv_room (Nat.le_of_ble_eq_true rfl)) dX3_remove_34 ⟨Nat.zero_le _, Nat.zero_le _⟩)) (fun r_7 h_6 => ?_)
    obtain rfl : r_7 = nI (ct (thM (upd μ.1 12 0, up2 μ.2 0 (upd (μ.2 0) e9.toNatClampNeg 0))) a) := h_6
    have hk9 : kMR μ e9 = 0 := by simp [kMR, c_3]
    exact W.iret (v := (nI (ct (thM (upd μ.1 12 0, up2 μ.2 0 (upd (μ.2 0) e9.toNatClampNeg 0))) a))) hx hb hr (fun t ht hW9 => ⟨⟨_, (), rfl, (by dsimp only; unfold reR; rw [hk9]; first | exact (if_pos rfl).symm | exact (if_neg (by decide)).symm), by first | (dsimp only; rw [ht, show reM μ e9 = (upd μ.1 12 0, up2 μ.2 0 (upd (μ.2 0) e9.toNatClampNeg 0)) from by unfold reM; rw [hk9]; first | exact if_pos rfl | exact if_neg (by decide)]; exact hW) | (rw [ht, show reM μ e9 = (upd μ.1 12 0, up2 μ.2 0 (upd (μ.2 0) e9.toNatClampNeg 0)) from by unfold reM; rw [hk9]; first | exact if_pos rfl | exact if_neg (by decide)]; exact hW)⟩, hS.F ht⟩) hS.2.2 dX3_remove_37
set_option maxHeartbeats 4000000 in
set_option maxRecDepth 100000 in
theorem mtX3_edit (l : Launch) (g : Ge) (σ : Sg) (μ : Mg) (o : Nat → Int64) (e9 opt : Int32) (a : Nat) (hM : μ.1 0 = nI a) (ha : a ≤ 60) : Met l yX3_edit wsX3_edit ({ frames := 2, cells := 0, slots := 0, locals := 43 } : Room) (va_Pc [.ref (gA g 4), .int e9, .int opt] (PW g σ μ o)) (va_Qi (S := Unit) (fun r _ => r = edR μ e9 opt) (fun _ t => Wd g σ (edM μ e9 opt) o t.heap) (Az g)) 0 0 (Az g) := by
  refine Met.ofW (cc := cX3_edit) (maxL := 4) (ret := (some .int)) (by decide) rfl ?_
  intro p e s m args below meth c s₁ B hml hv
  obtain ⟨rfl, hC, hW⟩ := hv
  have hx := B.exec
  have hb := B.bytes
  have hr := B.returns
  have hts := atoms_spec (ws := wsX3_edit) B.pre
  have hown : s.vm.findClass RX3 = some m.cls := findClass_of_methodNamed B.named
  have hlocks := B.notSynchronized
  have hinX3 : ∀ w ∈ wsX30, w ∈ wsX3_edit := by decide +kernel
  have hS : va_S (Az g) s.heap s.heap [] := va_S.rf
  have hl := lv_entry ([.ref (gA g 4), .int e9, .int opt]) (n := 4) (Nat.le_of_ble_eq_true rfl)
  rw [lg_entry_eq]
  generalize (lg_sl ([.ref (gA g 4), .int e9, .int opt]) ++ List.replicate (4 - (lg_sl ([.ref (gA g 4), .int e9, .int opt])).length) Slot.unset).toArray = ls at hl ⊢
  have hl : lv_has ls 4 [(0, .ref (gA g 4)), (1, .int e9), (2, .int opt)] := hl
  refine lv_aload_n hx hb dX3_edit_0 rfl (lv_at hl 0 rfl) ?_
  refine lv_aload_n hx hb dX3_edit_1 rfl (lv_at hl 0 rfl) ?_
  refine lv_iload_n hx hb dX3_edit_2 rfl (lv_at hl 1 rfl) ?_
  refine vp_callSi (va_Run.run (va_runV (As := [.int e9]) (rest := [.ref (gA g 4)]) ⟨hx, hb, hml, hown, hts⟩ (mtX3_isThere l g σ μ o e9 a hM ha) (cwV 1 hts gX3_edit_X3_isThere rfl rfl rfl (by decide +kernel) ⟨Nat.le_of_ble_eq_true rfl, Nat.le_of_ble_eq_true rfl⟩) ⟨PW.blind, rcM hC hW, fun U hU hW9 => ⟨rfl, PW.at hC hS hW U hU hW9⟩⟩ rfl rfl hl.1 rfl (lv_room (Nat.le_of_ble_eq_true rfl)) dX3_edit_3 ⟨Nat.zero_le _, Nat.zero_le _⟩)) (fun r_2 h_1 => ?_)
  obtain rfl : r_2 = bI (mt μ e9) := h_1
  refine lv_if_ne (tgt := 13) hx hb dX3_edit_6 (by decide) (fun c_3 => ?_) (fun c_3 => ?_)
  · skip
    replace c_3 := bI_n0.mp c_3
    refine lv_iload_n hx hb dX3_edit_13 rfl (lv_at hl 2 rfl) ?_
    refine lv_iconst (v := 0) hx hb dX3_edit_14 (by decide) ?_
    refine lv_bipush (v := 99) hx hb dX3_edit_15 (by decide) ?_
    refine vp_callSi (va_Run.run (va_runS (As := [.int opt, .int 0, .int 99]) (rest := [.ref (gA g 4)]) ⟨hx, hb, hml, hown, hts⟩ (mtX3_isIn l opt 0 99) (va_cwS 3 hts gX3_edit_X3_isIn rfl rfl rfl (by decide +kernel) ⟨Nat.le_of_ble_eq_true rfl, Nat.le_of_ble_eq_true rfl⟩) ⟨P0.blind, fun U hU hW9 => ⟨rfl, trivial⟩⟩ rfl rfl hl.1 rfl (lv_room (Nat.le_of_ble_eq_true rfl)) dX3_edit_17 ⟨Nat.zero_le _, Nat.zero_le _⟩)) (fun r_5 h_4 => ?_)
    obtain rfl : r_5 = bI (wi opt 0 99) := h_4
    refine lv_if_ne (tgt := 27) hx hb dX3_edit_20 (by decide) (fun c_6 => ?_) (fun c_6 => ?_)
    · skip
      replace c_6 := bI_n0.mp c_6
      refine lv_aload_n hx hb dX3_edit_27 rfl (lv_at hl 0 rfl) ?_
      refine gM (v := .int (μ.1 7)) hx hb hts hinX3 hown hC hW 14 (by decide) (by decide +kernel) rfl rfl dX3_edit_28 ?_
      refine lv_if_eq (tgt := 38) hx hb dX3_edit_31 (by decide) (fun c_7 => ?_) (fun c_7 => ?_)
      · skip
        refine lv_iconst (v := 0) hx hb dX3_edit_38 (by decide) ?_
        refine pM (ty := .int) hx hb hts hinX3 hown hC hS hW 12 19 (by decide) (by decide +kernel) (by decide +kernel) (0) rfl rfl dX3_edit_39 (fun H locs hW hS => ?_)
        refine lv_aload_n hx hb dX3_edit_42 rfl (lv_at hl 0 rfl) ?_
        refine gM (v := .int 0) hx hb hts hinX3 hown hC hW 19 (by decide) (by decide +kernel) rfl rfl dX3_edit_43 ?_
        refine lv_if_le (tgt := 51) hx hb dX3_edit_46 (by decide) (fun c_8 => ?_) (fun c_8 => absurd c_8 (by decide))
        refine lv_aload_n hx hb dX3_edit_51 rfl (lv_at hl 0 rfl) ?_
        refine gM (v := .ref (gA g 11)) hx hb hts hinX3 hown hC hW 7 (by decide) (by decide +kernel) rfl rfl dX3_edit_52 ?_
        refine lv_iload_n hx hb dX3_edit_55 rfl (lv_at hl 1 rfl) ?_
        refine mLdI 5 (by decide) (mt_in hM ha c_3) hx hb hC hW dX3_edit_56 ?_
        refine lv_istore_n (lv' := [(3, .int (μ.2 6 e9.toNatClampNeg)), (0, .ref (gA g 4)), (1, .int e9), (2, .int opt)]) hx hb dX3_edit_57 rfl hl (by decide) rfl (fun ls hl => ?_)
        refine lv_aload_n hx hb dX3_edit_58 rfl (lv_at hl 1 rfl) ?_
        refine gM (v := .ref (gA g 11)) hx hb hts hinX3 hown hC hW 7 (by decide) (by decide +kernel) rfl rfl dX3_edit_59 ?_
        refine lv_iload_n hx hb dX3_edit_62 rfl (lv_at hl 2 rfl) ?_
        refine lv_iload_n hx hb dX3_edit_63 rfl (lv_at hl 3 rfl) ?_
        refine mStI 5 (by decide) (mt_in hM ha c_3) hx hb hC hS hW (opt) dX3_edit_64 (fun H locs hW hS => ?_)
        refine lv_iload_n hx hb dX3_edit_65 rfl (lv_at hl 0 rfl) ?_
        have hk9 : kME μ e9 opt = 0 := by simp [kME, c_3, c_6, c_7]
        exact W.iret (v := μ.2 6 e9.toNatClampNeg) hx hb hr (fun t ht hW9 => ⟨⟨_, (), rfl, (by dsimp only; unfold edR; rw [hk9]; first | exact (if_pos rfl).symm | exact (if_neg (by decide)).symm), by first | (dsimp only; rw [ht, show edM μ e9 opt = (upd μ.1 12 0, up2 μ.2 6 (upd (μ.2 6) e9.toNatClampNeg opt)) from by unfold edM; rw [hk9]; first | exact if_pos rfl | exact if_neg (by decide)]; exact hW) | (rw [ht, show edM μ e9 opt = (upd μ.1 12 0, up2 μ.2 6 (upd (μ.2 6) e9.toNatClampNeg opt)) from by unfold edM; rw [hk9]; first | exact if_pos rfl | exact if_neg (by decide)]; exact hW)⟩, hS.F ht⟩) hS.2.2 dX3_edit_66
      · skip
        refine lv_iconst (v := 3) hx hb dX3_edit_34 (by decide) ?_
        refine lv_goto (tgt := 39) hx hb dX3_edit_35 (by decide) ?_
        refine pM (ty := .int) hx hb hts hinX3 hown hC hS hW 12 19 (by decide) (by decide +kernel) (by decide +kernel) (3) rfl rfl dX3_edit_39 (fun H locs hW hS => ?_)
        refine lv_aload_n hx hb dX3_edit_42 rfl (lv_at hl 0 rfl) ?_
        refine gM (v := .int 3) hx hb hts hinX3 hown hC hW 19 (by decide) (by decide +kernel) rfl rfl dX3_edit_43 ?_
        refine lv_if_le (tgt := 51) hx hb dX3_edit_46 (by decide) (fun c_9 => absurd c_9 (by decide)) (fun c_9 => ?_)
        refine lv_iconst (v := 0) hx hb dX3_edit_49 (by decide) ?_
        have hk9 : kME μ e9 opt = 3 := by simp [kME, c_3, c_6, c_7]
        exact W.iret (v := 0) hx hb hr (fun t ht hW9 => ⟨⟨_, (), rfl, (by dsimp only; unfold edR; rw [hk9]; first | exact (if_pos rfl).symm | exact (if_neg (by decide)).symm), by first | (dsimp only; rw [ht, show edM μ e9 opt = (upd μ.1 12 3, μ.2) from by unfold edM; rw [hk9]; first | exact if_pos rfl | exact if_neg (by decide)]; exact hW) | (rw [ht, show edM μ e9 opt = (upd μ.1 12 3, μ.2) from by unfold edM; rw [hk9]; first | exact if_pos rfl | exact if_neg (by decide)]; exact hW)⟩, hS.F ht⟩) hS.2.2 dX3_edit_50
    · skip
      replace c_6 := bI_0.mp c_6
      refine lv_iconst (v := 2) hx hb dX3_edit_23 (by decide) ?_
      refine lv_goto (tgt := 39) hx hb dX3_edit_24 (by decide) ?_
      refine pM (ty := .int) hx hb hts hinX3 hown hC hS hW 12 19 (by decide) (by decide +kernel) (by decide +kernel) (2) rfl rfl dX3_edit_39 (fun H locs hW hS => ?_)
      refine lv_aload_n hx hb dX3_edit_42 rfl (lv_at hl 0 rfl) ?_
      refine gM (v := .int 2) hx hb hts hinX3 hown hC hW 19 (by decide) (by decide +kernel) rfl rfl dX3_edit_43 ?_
      refine lv_if_le (tgt := 51) hx hb dX3_edit_46 (by decide) (fun c_10 => absurd c_10 (by decide)) (fun c_10 => ?_)
      refine lv_iconst (v := 0) hx hb dX3_edit_49 (by decide) ?_
      have hk9 : kME μ e9 opt = 2 := by simp [kME, c_3, c_6]
      exact W.iret (v := 0) hx hb hr (fun t ht hW9 => ⟨⟨_, (), rfl, (by dsimp only; unfold edR; rw [hk9]; first | exact (if_pos rfl).symm | exact (if_neg (by decide)).symm), by first | (dsimp only; rw [ht, show edM μ e9 opt = (upd μ.1 12 2, μ.2) from by unfold edM; rw [hk9]; first | exact if_pos rfl | exact if_neg (by decide)]; exact hW) | (rw [ht, show edM μ e9 opt = (upd μ.1 12 2, μ.2) from by unfold edM; rw [hk9]; first | exact if_pos rfl | exact if_neg (by decide)]; exact hW)⟩, hS.F ht⟩) hS.2.2 dX3_edit_50
  · skip
    replace c_3 := bI_0.mp c_3
    refine lv_iconst (v := 1) hx hb dX3_edit_9 (by decide) ?_
    refine lv_goto (tgt := 39) hx hb dX3_edit_10 (by decide) ?_
    refine pM (ty := .int) hx hb hts hinX3 hown hC hS hW 12 19 (by decide) (by decide +kernel) (by decide +kernel) (1) rfl rfl dX3_edit_39 (fun H locs hW hS => ?_)
    refine lv_aload_n hx hb dX3_edit_42 rfl (lv_at hl 0 rfl) ?_
    refine gM (v := .int 1) hx hb hts hinX3 hown hC hW 19 (by decide) (by decide +kernel) rfl rfl dX3_edit_43 ?_
    refine lv_if_le (tgt := 51) hx hb dX3_edit_46 (by decide) (fun c_11 => absurd c_11 (by decide)) (fun c_11 => ?_)
    refine lv_iconst (v := 0) hx hb dX3_edit_49 (by decide) ?_
    have hk9 : kME μ e9 opt = 1 := by simp [kME, c_3]
    exact W.iret (v := 0) hx hb hr (fun t ht hW9 => ⟨⟨_, (), rfl, (by dsimp only; unfold edR; rw [hk9]; first | exact (if_pos rfl).symm | exact (if_neg (by decide)).symm), by first | (dsimp only; rw [ht, show edM μ e9 opt = (upd μ.1 12 1, μ.2) from by unfold edM; rw [hk9]; first | exact if_pos rfl | exact if_neg (by decide)]; exact hW) | (rw [ht, show edM μ e9 opt = (upd μ.1 12 1, μ.2) from by unfold edM; rw [hk9]; first | exact if_pos rfl | exact if_neg (by decide)]; exact hW)⟩, hS.F ht⟩) hS.2.2 dX3_edit_50
set_option maxHeartbeats 4000000 in
set_option maxRecDepth 100000 in
theorem mtX3_choose (l : Launch) (g : Ge) (σ : Sg) (μ : Mg) (o : Nat → Int64) (e9 : Int32) (a : Nat) (hM : μ.1 0 = nI a) (ha : a ≤ 60) : Met l yX3_choose wsX3_choose ({ frames := 2, cells := 0, slots := 0, locals := 43 } : Room) (va_Pc [.ref (gA g 4), .int e9] (PW g σ μ o)) (va_Qi (S := Unit) (fun r _ => r = csR μ e9) (fun _ t => Wd g σ (csM μ e9) o t.heap) (Az g)) 0 0 (Az g) := by
  refine Met.ofW (cc := cX3_choose) (maxL := 3) (ret := (some .int)) (by decide) rfl ?_
  intro p e s m args below meth c s₁ B hml hv
  obtain ⟨rfl, hC, hW⟩ := hv
  have hx := B.exec
  have hb := B.bytes
  have hr := B.returns
  have hts := atoms_spec (ws := wsX3_choose) B.pre
  have hown : s.vm.findClass RX3 = some m.cls := findClass_of_methodNamed B.named
  have hlocks := B.notSynchronized
  have hinX3 : ∀ w ∈ wsX30, w ∈ wsX3_choose := by decide +kernel
  have hS : va_S (Az g) s.heap s.heap [] := va_S.rf
  have hl := lv_entry ([.ref (gA g 4), .int e9]) (n := 3) (Nat.le_of_ble_eq_true rfl)
  rw [lg_entry_eq]
  generalize (lg_sl ([.ref (gA g 4), .int e9]) ++ List.replicate (3 - (lg_sl ([.ref (gA g 4), .int e9])).length) Slot.unset).toArray = ls at hl ⊢
  have hl : lv_has ls 3 [(0, .ref (gA g 4)), (1, .int e9)] := hl
  refine lv_aload_n hx hb dX3_choose_0 rfl (lv_at hl 0 rfl) ?_
  refine lv_iload_n hx hb dX3_choose_1 rfl (lv_at hl 1 rfl) ?_
  refine lv_iconst (v := (-1)) hx hb dX3_choose_2 (by decide) ?_
  refine lv_icmp_eq (tgt := 18) hx hb dX3_choose_3 (by decide) (fun c_1 => ?_) (fun c_1 => ?_)
  · skip
    refine lv_aload_n hx hb dX3_choose_18 rfl (lv_at hl 0 rfl) ?_
    refine gM (v := .int (μ.1 7)) hx hb hts hinX3 hown hC hW 14 (by decide) (by decide +kernel) rfl rfl dX3_choose_19 ?_
    refine lv_if_eq (tgt := 29) hx hb dX3_choose_22 (by decide) (fun c_2 => ?_) (fun c_2 => ?_)
    · skip
      refine lv_iconst (v := 0) hx hb dX3_choose_29 (by decide) ?_
      refine pM (ty := .int) hx hb hts hinX3 hown hC hS hW 12 19 (by decide) (by decide +kernel) (by decide +kernel) (0) rfl rfl dX3_choose_30 (fun H locs hW hS => ?_)
      refine lv_aload_n hx hb dX3_choose_33 rfl (lv_at hl 0 rfl) ?_
      refine gM (v := .int 0) hx hb hts hinX3 hown hC hW 19 (by decide) (by decide +kernel) rfl rfl dX3_choose_34 ?_
      refine lv_if_le (tgt := 42) hx hb dX3_choose_37 (by decide) (fun c_3 => ?_) (fun c_3 => absurd c_3 (by decide))
      refine lv_aload_n hx hb dX3_choose_42 rfl (lv_at hl 0 rfl) ?_
      refine gM (v := .int (μ.1 1)) hx hb hts hinX3 hown hC hW 8 (by decide) (by decide +kernel) rfl rfl dX3_choose_43 ?_
      refine lv_istore_n (lv' := [(2, .int (μ.1 1)), (0, .ref (gA g 4)), (1, .int e9)]) hx hb dX3_choose_46 rfl hl (by decide) rfl (fun ls hl => ?_)
      refine lv_aload_n hx hb dX3_choose_47 rfl (lv_at hl 1 rfl) ?_
      refine lv_iload_n hx hb dX3_choose_48 rfl (lv_at hl 2 rfl) ?_
      refine pM (ty := .int) hx hb hts hinX3 hown hC hS hW 1 8 (by decide) (by decide +kernel) (by decide +kernel) (e9) rfl rfl dX3_choose_49 (fun H locs hW hS => ?_)
      refine lv_iload_n hx hb dX3_choose_52 rfl (lv_at hl 0 rfl) ?_
      have hk9 : kMC μ e9 = 0 := by simp [kMC, okMC, c_1, c_2]
      exact W.iret (v := μ.1 1) hx hb hr (fun t ht hW9 => ⟨⟨_, (), rfl, (by dsimp only; unfold csR; rw [hk9]; first | exact (if_pos rfl).symm | exact (if_neg (by decide)).symm), by first | (dsimp only; rw [ht, show csM μ e9 = (upd (upd μ.1 12 0) 1 e9, μ.2) from by unfold csM; rw [hk9]; first | exact if_pos rfl | exact if_neg (by decide)]; exact hW) | (rw [ht, show csM μ e9 = (upd (upd μ.1 12 0) 1 e9, μ.2) from by unfold csM; rw [hk9]; first | exact if_pos rfl | exact if_neg (by decide)]; exact hW)⟩, hS.F ht⟩) hS.2.2 dX3_choose_53
    · skip
      refine lv_iconst (v := 2) hx hb dX3_choose_25 (by decide) ?_
      refine lv_goto (tgt := 30) hx hb dX3_choose_26 (by decide) ?_
      refine pM (ty := .int) hx hb hts hinX3 hown hC hS hW 12 19 (by decide) (by decide +kernel) (by decide +kernel) (2) rfl rfl dX3_choose_30 (fun H locs hW hS => ?_)
      refine lv_aload_n hx hb dX3_choose_33 rfl (lv_at hl 0 rfl) ?_
      refine gM (v := .int 2) hx hb hts hinX3 hown hC hW 19 (by decide) (by decide +kernel) rfl rfl dX3_choose_34 ?_
      refine lv_if_le (tgt := 42) hx hb dX3_choose_37 (by decide) (fun c_4 => absurd c_4 (by decide)) (fun c_4 => ?_)
      refine lv_iconst (v := 0) hx hb dX3_choose_40 (by decide) ?_
      have hk9 : kMC μ e9 = 2 := by simp [kMC, okMC, c_1, c_2]
      exact W.iret (v := 0) hx hb hr (fun t ht hW9 => ⟨⟨_, (), rfl, (by dsimp only; unfold csR; rw [hk9]; first | exact (if_pos rfl).symm | exact (if_neg (by decide)).symm), by first | (dsimp only; rw [ht, show csM μ e9 = (upd μ.1 12 2, μ.2) from by unfold csM; rw [hk9]; first | exact if_pos rfl | exact if_neg (by decide)]; exact hW) | (rw [ht, show csM μ e9 = (upd μ.1 12 2, μ.2) from by unfold csM; rw [hk9]; first | exact if_pos rfl | exact if_neg (by decide)]; exact hW)⟩, hS.F ht⟩) hS.2.2 dX3_choose_41
  · skip
    refine lv_aload_n hx hb dX3_choose_6 rfl (lv_at hl 0 rfl) ?_
    refine lv_iload_n hx hb dX3_choose_7 rfl (lv_at hl 1 rfl) ?_
    refine vp_callSi (va_Run.run (va_runV (As := [.int e9]) (rest := [.ref (gA g 4)]) ⟨hx, hb, hml, hown, hts⟩ (mtX3_isThere l g σ μ o e9 a hM ha) (cwV 1 hts gX3_choose_X3_isThere rfl rfl rfl (by decide +kernel) ⟨Nat.le_of_ble_eq_true rfl, Nat.le_of_ble_eq_true rfl⟩) ⟨PW.blind, rcM hC hW, fun U hU hW9 => ⟨rfl, PW.at hC hS hW U hU hW9⟩⟩ rfl rfl hl.1 rfl (lv_room (Nat.le_of_ble_eq_true rfl)) dX3_choose_8 ⟨Nat.zero_le _, Nat.zero_le _⟩)) (fun r_6 h_5 => ?_)
    obtain rfl : r_6 = bI (mt μ e9) := h_5
    refine lv_if_ne (tgt := 18) hx hb dX3_choose_11 (by decide) (fun c_7 => ?_) (fun c_7 => ?_)
    · skip
      replace c_7 := bI_n0.mp c_7
      refine lv_aload_n hx hb dX3_choose_18 rfl (lv_at hl 0 rfl) ?_
      refine gM (v := .int (μ.1 7)) hx hb hts hinX3 hown hC hW 14 (by decide) (by decide +kernel) rfl rfl dX3_choose_19 ?_
      refine lv_if_eq (tgt := 29) hx hb dX3_choose_22 (by decide) (fun c_8 => ?_) (fun c_8 => ?_)
      · skip
        refine lv_iconst (v := 0) hx hb dX3_choose_29 (by decide) ?_
        refine pM (ty := .int) hx hb hts hinX3 hown hC hS hW 12 19 (by decide) (by decide +kernel) (by decide +kernel) (0) rfl rfl dX3_choose_30 (fun H locs hW hS => ?_)
        refine lv_aload_n hx hb dX3_choose_33 rfl (lv_at hl 0 rfl) ?_
        refine gM (v := .int 0) hx hb hts hinX3 hown hC hW 19 (by decide) (by decide +kernel) rfl rfl dX3_choose_34 ?_
        refine lv_if_le (tgt := 42) hx hb dX3_choose_37 (by decide) (fun c_9 => ?_) (fun c_9 => absurd c_9 (by decide))
        refine lv_aload_n hx hb dX3_choose_42 rfl (lv_at hl 0 rfl) ?_
        refine gM (v := .int (μ.1 1)) hx hb hts hinX3 hown hC hW 8 (by decide) (by decide +kernel) rfl rfl dX3_choose_43 ?_
        refine lv_istore_n (lv' := [(2, .int (μ.1 1)), (0, .ref (gA g 4)), (1, .int e9)]) hx hb dX3_choose_46 rfl hl (by decide) rfl (fun ls hl => ?_)
        refine lv_aload_n hx hb dX3_choose_47 rfl (lv_at hl 1 rfl) ?_
        refine lv_iload_n hx hb dX3_choose_48 rfl (lv_at hl 2 rfl) ?_
        refine pM (ty := .int) hx hb hts hinX3 hown hC hS hW 1 8 (by decide) (by decide +kernel) (by decide +kernel) (e9) rfl rfl dX3_choose_49 (fun H locs hW hS => ?_)
        refine lv_iload_n hx hb dX3_choose_52 rfl (lv_at hl 0 rfl) ?_
        have hk9 : kMC μ e9 = 0 := by simp [kMC, okMC, c_1, c_7, c_8]
        exact W.iret (v := μ.1 1) hx hb hr (fun t ht hW9 => ⟨⟨_, (), rfl, (by dsimp only; unfold csR; rw [hk9]; first | exact (if_pos rfl).symm | exact (if_neg (by decide)).symm), by first | (dsimp only; rw [ht, show csM μ e9 = (upd (upd μ.1 12 0) 1 e9, μ.2) from by unfold csM; rw [hk9]; first | exact if_pos rfl | exact if_neg (by decide)]; exact hW) | (rw [ht, show csM μ e9 = (upd (upd μ.1 12 0) 1 e9, μ.2) from by unfold csM; rw [hk9]; first | exact if_pos rfl | exact if_neg (by decide)]; exact hW)⟩, hS.F ht⟩) hS.2.2 dX3_choose_53
      · skip
        refine lv_iconst (v := 2) hx hb dX3_choose_25 (by decide) ?_
        refine lv_goto (tgt := 30) hx hb dX3_choose_26 (by decide) ?_
        refine pM (ty := .int) hx hb hts hinX3 hown hC hS hW 12 19 (by decide) (by decide +kernel) (by decide +kernel) (2) rfl rfl dX3_choose_30 (fun H locs hW hS => ?_)
        refine lv_aload_n hx hb dX3_choose_33 rfl (lv_at hl 0 rfl) ?_
        refine gM (v := .int 2) hx hb hts hinX3 hown hC hW 19 (by decide) (by decide +kernel) rfl rfl dX3_choose_34 ?_
        refine lv_if_le (tgt := 42) hx hb dX3_choose_37 (by decide) (fun c_10 => absurd c_10 (by decide)) (fun c_10 => ?_)
        refine lv_iconst (v := 0) hx hb dX3_choose_40 (by decide) ?_
        have hk9 : kMC μ e9 = 2 := by simp [kMC, okMC, c_1, c_7, c_8]
        exact W.iret (v := 0) hx hb hr (fun t ht hW9 => ⟨⟨_, (), rfl, (by dsimp only; unfold csR; rw [hk9]; first | exact (if_pos rfl).symm | exact (if_neg (by decide)).symm), by first | (dsimp only; rw [ht, show csM μ e9 = (upd μ.1 12 2, μ.2) from by unfold csM; rw [hk9]; first | exact if_pos rfl | exact if_neg (by decide)]; exact hW) | (rw [ht, show csM μ e9 = (upd μ.1 12 2, μ.2) from by unfold csM; rw [hk9]; first | exact if_pos rfl | exact if_neg (by decide)]; exact hW)⟩, hS.F ht⟩) hS.2.2 dX3_choose_41
    · skip
      replace c_7 := bI_0.mp c_7
      refine lv_iconst (v := 1) hx hb dX3_choose_14 (by decide) ?_
      refine lv_goto (tgt := 30) hx hb dX3_choose_15 (by decide) ?_
      refine pM (ty := .int) hx hb hts hinX3 hown hC hS hW 12 19 (by decide) (by decide +kernel) (by decide +kernel) (1) rfl rfl dX3_choose_30 (fun H locs hW hS => ?_)
      refine lv_aload_n hx hb dX3_choose_33 rfl (lv_at hl 0 rfl) ?_
      refine gM (v := .int 1) hx hb hts hinX3 hown hC hW 19 (by decide) (by decide +kernel) rfl rfl dX3_choose_34 ?_
      refine lv_if_le (tgt := 42) hx hb dX3_choose_37 (by decide) (fun c_11 => absurd c_11 (by decide)) (fun c_11 => ?_)
      refine lv_iconst (v := 0) hx hb dX3_choose_40 (by decide) ?_
      have hk9 : kMC μ e9 = 1 := by simp [kMC, okMC, c_1, c_7]
      exact W.iret (v := 0) hx hb hr (fun t ht hW9 => ⟨⟨_, (), rfl, (by dsimp only; unfold csR; rw [hk9]; first | exact (if_pos rfl).symm | exact (if_neg (by decide)).symm), by first | (dsimp only; rw [ht, show csM μ e9 = (upd μ.1 12 1, μ.2) from by unfold csM; rw [hk9]; first | exact if_pos rfl | exact if_neg (by decide)]; exact hW) | (rw [ht, show csM μ e9 = (upd μ.1 12 1, μ.2) from by unfold csM; rw [hk9]; first | exact if_pos rfl | exact if_neg (by decide)]; exact hW)⟩, hS.F ht⟩) hS.2.2 dX3_choose_41
set_option maxHeartbeats 4000000 in
set_option maxRecDepth 100000 in
theorem mtX3_chooseOnce (l : Launch) (g : Ge) (σ : Sg) (μ : Mg) (o : Nat → Int64) (e9 : Int32) (a : Nat) (hM : μ.1 0 = nI a) (ha : a ≤ 60) : Met l yX3_chooseOnce wsX3_chooseOnce ({ frames := 2, cells := 0, slots := 0, locals := 43 } : Room) (va_Pc [.ref (gA g 4), .int e9] (PW g σ μ o)) (va_Qi (S := Unit) (fun r _ => r = coR μ e9) (fun _ t => Wd g σ (coM μ e9) o t.heap) (Az g)) 0 0 (Az g) := by
  refine Met.ofW (cc := cX3_chooseOnce) (maxL := 3) (ret := (some .int)) (by decide) rfl ?_
  intro p e s m args below meth c s₁ B hml hv
  obtain ⟨rfl, hC, hW⟩ := hv
  have hx := B.exec
  have hb := B.bytes
  have hr := B.returns
  have hts := atoms_spec (ws := wsX3_chooseOnce) B.pre
  have hown : s.vm.findClass RX3 = some m.cls := findClass_of_methodNamed B.named
  have hlocks := B.notSynchronized
  have hinX3 : ∀ w ∈ wsX30, w ∈ wsX3_chooseOnce := by decide +kernel
  have hS : va_S (Az g) s.heap s.heap [] := va_S.rf
  have hl := lv_entry ([.ref (gA g 4), .int e9]) (n := 3) (Nat.le_of_ble_eq_true rfl)
  rw [lg_entry_eq]
  generalize (lg_sl ([.ref (gA g 4), .int e9]) ++ List.replicate (3 - (lg_sl ([.ref (gA g 4), .int e9])).length) Slot.unset).toArray = ls at hl ⊢
  have hl : lv_has ls 3 [(0, .ref (gA g 4)), (1, .int e9)] := hl
  refine lv_aload_n hx hb dX3_chooseOnce_0 rfl (lv_at hl 0 rfl) ?_
  refine lv_iload_n hx hb dX3_chooseOnce_1 rfl (lv_at hl 1 rfl) ?_
  refine lv_iconst (v := (-1)) hx hb dX3_chooseOnce_2 (by decide) ?_
  refine lv_icmp_eq (tgt := 18) hx hb dX3_chooseOnce_3 (by decide) (fun c_1 => ?_) (fun c_1 => ?_)
  · skip
    refine lv_iconst (v := 0) hx hb dX3_chooseOnce_18 (by decide) ?_
    refine pM (ty := .int) hx hb hts hinX3 hown hC hS hW 12 19 (by decide) (by decide +kernel) (by decide +kernel) (0) rfl rfl dX3_chooseOnce_19 (fun H locs hW hS => ?_)
    refine lv_aload_n hx hb dX3_chooseOnce_22 rfl (lv_at hl 0 rfl) ?_
    refine gM (v := .int 0) hx hb hts hinX3 hown hC hW 19 (by decide) (by decide +kernel) rfl rfl dX3_chooseOnce_23 ?_
    refine lv_if_le (tgt := 31) hx hb dX3_chooseOnce_26 (by decide) (fun c_2 => ?_) (fun c_2 => absurd c_2 (by decide))
    refine lv_aload_n hx hb dX3_chooseOnce_31 rfl (lv_at hl 0 rfl) ?_
    refine gM (v := .int (μ.1 2)) hx hb hts hinX3 hown hC hW 9 (by decide) (by decide +kernel) rfl rfl dX3_chooseOnce_32 ?_
    refine lv_istore_n (lv' := [(2, .int (μ.1 2)), (0, .ref (gA g 4)), (1, .int e9)]) hx hb dX3_chooseOnce_35 rfl hl (by decide) rfl (fun ls hl => ?_)
    refine lv_aload_n hx hb dX3_chooseOnce_36 rfl (lv_at hl 1 rfl) ?_
    refine lv_iload_n hx hb dX3_chooseOnce_37 rfl (lv_at hl 2 rfl) ?_
    refine pM (ty := .int) hx hb hts hinX3 hown hC hS hW 2 9 (by decide) (by decide +kernel) (by decide +kernel) (e9) rfl rfl dX3_chooseOnce_38 (fun H locs hW hS => ?_)
    refine lv_iload_n hx hb dX3_chooseOnce_41 rfl (lv_at hl 0 rfl) ?_
    have hk9 : kMO μ e9 = 0 := by simp [kMO, okMC, c_1]
    exact W.iret (v := μ.1 2) hx hb hr (fun t ht hW9 => ⟨⟨_, (), rfl, (by dsimp only; unfold coR; rw [hk9]; first | exact (if_pos rfl).symm | exact (if_neg (by decide)).symm), by first | (dsimp only; rw [ht, show coM μ e9 = (upd (upd μ.1 12 0) 2 e9, μ.2) from by unfold coM; rw [hk9]; first | exact if_pos rfl | exact if_neg (by decide)]; exact hW) | (rw [ht, show coM μ e9 = (upd (upd μ.1 12 0) 2 e9, μ.2) from by unfold coM; rw [hk9]; first | exact if_pos rfl | exact if_neg (by decide)]; exact hW)⟩, hS.F ht⟩) hS.2.2 dX3_chooseOnce_42
  · skip
    refine lv_aload_n hx hb dX3_chooseOnce_6 rfl (lv_at hl 0 rfl) ?_
    refine lv_iload_n hx hb dX3_chooseOnce_7 rfl (lv_at hl 1 rfl) ?_
    refine vp_callSi (va_Run.run (va_runV (As := [.int e9]) (rest := [.ref (gA g 4)]) ⟨hx, hb, hml, hown, hts⟩ (mtX3_isThere l g σ μ o e9 a hM ha) (cwV 1 hts gX3_chooseOnce_X3_isThere rfl rfl rfl (by decide +kernel) ⟨Nat.le_of_ble_eq_true rfl, Nat.le_of_ble_eq_true rfl⟩) ⟨PW.blind, rcM hC hW, fun U hU hW9 => ⟨rfl, PW.at hC hS hW U hU hW9⟩⟩ rfl rfl hl.1 rfl (lv_room (Nat.le_of_ble_eq_true rfl)) dX3_chooseOnce_8 ⟨Nat.zero_le _, Nat.zero_le _⟩)) (fun r_4 h_3 => ?_)
    obtain rfl : r_4 = bI (mt μ e9) := h_3
    refine lv_if_ne (tgt := 18) hx hb dX3_chooseOnce_11 (by decide) (fun c_5 => ?_) (fun c_5 => ?_)
    · skip
      replace c_5 := bI_n0.mp c_5
      refine lv_iconst (v := 0) hx hb dX3_chooseOnce_18 (by decide) ?_
      refine pM (ty := .int) hx hb hts hinX3 hown hC hS hW 12 19 (by decide) (by decide +kernel) (by decide +kernel) (0) rfl rfl dX3_chooseOnce_19 (fun H locs hW hS => ?_)
      refine lv_aload_n hx hb dX3_chooseOnce_22 rfl (lv_at hl 0 rfl) ?_
      refine gM (v := .int 0) hx hb hts hinX3 hown hC hW 19 (by decide) (by decide +kernel) rfl rfl dX3_chooseOnce_23 ?_
      refine lv_if_le (tgt := 31) hx hb dX3_chooseOnce_26 (by decide) (fun c_6 => ?_) (fun c_6 => absurd c_6 (by decide))
      refine lv_aload_n hx hb dX3_chooseOnce_31 rfl (lv_at hl 0 rfl) ?_
      refine gM (v := .int (μ.1 2)) hx hb hts hinX3 hown hC hW 9 (by decide) (by decide +kernel) rfl rfl dX3_chooseOnce_32 ?_
      refine lv_istore_n (lv' := [(2, .int (μ.1 2)), (0, .ref (gA g 4)), (1, .int e9)]) hx hb dX3_chooseOnce_35 rfl hl (by decide) rfl (fun ls hl => ?_)
      refine lv_aload_n hx hb dX3_chooseOnce_36 rfl (lv_at hl 1 rfl) ?_
      refine lv_iload_n hx hb dX3_chooseOnce_37 rfl (lv_at hl 2 rfl) ?_
      refine pM (ty := .int) hx hb hts hinX3 hown hC hS hW 2 9 (by decide) (by decide +kernel) (by decide +kernel) (e9) rfl rfl dX3_chooseOnce_38 (fun H locs hW hS => ?_)
      refine lv_iload_n hx hb dX3_chooseOnce_41 rfl (lv_at hl 0 rfl) ?_
      have hk9 : kMO μ e9 = 0 := by simp [kMO, okMC, c_1, c_5]
      exact W.iret (v := μ.1 2) hx hb hr (fun t ht hW9 => ⟨⟨_, (), rfl, (by dsimp only; unfold coR; rw [hk9]; first | exact (if_pos rfl).symm | exact (if_neg (by decide)).symm), by first | (dsimp only; rw [ht, show coM μ e9 = (upd (upd μ.1 12 0) 2 e9, μ.2) from by unfold coM; rw [hk9]; first | exact if_pos rfl | exact if_neg (by decide)]; exact hW) | (rw [ht, show coM μ e9 = (upd (upd μ.1 12 0) 2 e9, μ.2) from by unfold coM; rw [hk9]; first | exact if_pos rfl | exact if_neg (by decide)]; exact hW)⟩, hS.F ht⟩) hS.2.2 dX3_chooseOnce_42
    · skip
      replace c_5 := bI_0.mp c_5
      refine lv_iconst (v := 1) hx hb dX3_chooseOnce_14 (by decide) ?_
      refine lv_goto (tgt := 19) hx hb dX3_chooseOnce_15 (by decide) ?_
      refine pM (ty := .int) hx hb hts hinX3 hown hC hS hW 12 19 (by decide) (by decide +kernel) (by decide +kernel) (1) rfl rfl dX3_chooseOnce_19 (fun H locs hW hS => ?_)
      refine lv_aload_n hx hb dX3_chooseOnce_22 rfl (lv_at hl 0 rfl) ?_
      refine gM (v := .int 1) hx hb hts hinX3 hown hC hW 19 (by decide) (by decide +kernel) rfl rfl dX3_chooseOnce_23 ?_
      refine lv_if_le (tgt := 31) hx hb dX3_chooseOnce_26 (by decide) (fun c_7 => absurd c_7 (by decide)) (fun c_7 => ?_)
      refine lv_iconst (v := 0) hx hb dX3_chooseOnce_29 (by decide) ?_
      have hk9 : kMO μ e9 = 1 := by simp [kMO, okMC, c_1, c_5]
      exact W.iret (v := 0) hx hb hr (fun t ht hW9 => ⟨⟨_, (), rfl, (by dsimp only; unfold coR; rw [hk9]; first | exact (if_pos rfl).symm | exact (if_neg (by decide)).symm), by first | (dsimp only; rw [ht, show coM μ e9 = (upd μ.1 12 1, μ.2) from by unfold coM; rw [hk9]; first | exact if_pos rfl | exact if_neg (by decide)]; exact hW) | (rw [ht, show coM μ e9 = (upd μ.1 12 1, μ.2) from by unfold coM; rw [hk9]; first | exact if_pos rfl | exact if_neg (by decide)]; exact hW)⟩, hS.F ht⟩) hS.2.2 dX3_chooseOnce_30
