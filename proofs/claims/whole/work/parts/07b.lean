set_option maxHeartbeats 4000000 in
set_option maxRecDepth 100000 in
theorem mtX3_fits (l : Launch) (g : Ge) (σ : Sg) (μ : Mg) (o : Nat → Int64) (x : Int32) (hx1 : vp_in x 60) : Met l yX3_fits wsX3_fits ({ frames := 1, cells := 0, slots := 0, locals := 22 } : Room) (va_Pc [.ref (gA g 4), .int x] (PW g σ μ o)) (vp_Si (fun r => r = bI (fitM μ x))) 0 0 (fun _ => False) := by
  refine Met.ofW (cc := cX3_fits) (maxL := 2) (ret := (some .boolean)) (by decide) rfl ?_
  intro p e s m args below meth c s₁ B hml hv
  obtain ⟨rfl, hC, hW⟩ := hv
  have hx := B.exec
  have hb := B.bytes
  have hr := B.returns
  have hts := atoms_spec (ws := wsX3_fits) B.pre
  have hown : s.vm.findClass RX3 = some m.cls := findClass_of_methodNamed B.named
  have hlocks := B.notSynchronized
  have hinX3 : ∀ w ∈ wsX30, w ∈ wsX3_fits := by decide +kernel
  have hS : va_S (Az g) s.heap s.heap [] := va_S.rf
  have hl := lv_entry ([.ref (gA g 4), .int x]) (n := 2) (Nat.le_of_ble_eq_true rfl)
  rw [lg_entry_eq]
  generalize (lg_sl ([.ref (gA g 4), .int x]) ++ List.replicate (2 - (lg_sl ([.ref (gA g 4), .int x])).length) Slot.unset).toArray = ls at hl ⊢
  have hl : lv_has ls 2 [(0, .ref (gA g 4)), (1, .int x)] := hl
  refine lv_aload_n hx hb dX3_fits_0 rfl (lv_at hl 0 rfl) ?_
  refine gM (v := .ref (gA g 7)) hx hb hts hinX3 hown hC hW 3 (by decide) (by decide +kernel) rfl rfl dX3_fits_1 ?_
  refine lv_iload_n hx hb dX3_fits_4 rfl (lv_at hl 1 rfl) ?_
  refine mLdI 1 (by decide) hx1 hx hb hC hW dX3_fits_5 ?_
  refine lv_aload_n hx hb dX3_fits_6 rfl (lv_at hl 0 rfl) ?_
  refine gM (v := .int (μ.1 3)) hx hb hts hinX3 hown hC hW 10 (by decide) (by decide +kernel) rfl rfl dX3_fits_7 ?_
  refine lv_aload_n hx hb dX3_fits_10 rfl (lv_at hl 0 rfl) ?_
  refine gM (v := .int (μ.1 4)) hx hb hts hinX3 hown hC hW 11 (by decide) (by decide +kernel) rfl rfl dX3_fits_11 ?_
  refine vp_callSi (va_Run.run (va_runS (As := [.int (μ.2 2 x.toNatClampNeg), .int (μ.1 3), .int (μ.1 4)]) (rest := []) ⟨hx, hb, hml, hown, hts⟩ (mtX3_isIn l (μ.2 2 x.toNatClampNeg) (μ.1 3) (μ.1 4)) (va_cwS 3 hts gX3_fits_X3_isIn rfl rfl rfl (by decide +kernel) ⟨Nat.le_of_ble_eq_true rfl, Nat.le_of_ble_eq_true rfl⟩) ⟨P0.blind, fun U hU hW9 => ⟨rfl, trivial⟩⟩ rfl rfl hl.1 rfl (lv_room (Nat.le_of_ble_eq_true rfl)) dX3_fits_14 ⟨Nat.zero_le _, Nat.zero_le _⟩)) (fun r_2 h_1 => ?_)
  obtain rfl : r_2 = bI (wi (μ.2 2 x.toNatClampNeg) (μ.1 3) (μ.1 4)) := h_1
  exact W.zret (v := (bI (wi (μ.2 2 x.toNatClampNeg) (μ.1 3) (μ.1 4)))) (ty := .boolean) hx hb hr (bI_nar _) (fun t ht hW9 => ⟨_, rfl, rfl, ht⟩) (fun q h => by cases h) dX3_fits_17
set_option maxHeartbeats 4000000 in
set_option maxRecDepth 100000 in
theorem mtX3_compared (l : Launch) (g : Ge) (σ : Sg) (μ : Mg) (o : Nat → Int64) (x y : Int32) (hx1 : vp_in x 60) (hy1 : vp_in y 60) : Met l yX3_compared wsX3_compared ({ frames := 0, cells := 0, slots := 0, locals := 0 } : Room) (va_Pc [.ref (gA g 4), .int x, .int y] (PW g σ μ o)) (vp_Si (fun r => r = cmM μ.2 x y)) 0 0 (fun _ => False) := by
  refine Met.ofW (cc := cX3_compared) (maxL := 5) (ret := (some .int)) (by decide) rfl ?_
  intro p e s m args below meth c s₁ B hml hv
  obtain ⟨rfl, hC, hW⟩ := hv
  have hx := B.exec
  have hb := B.bytes
  have hr := B.returns
  have hts := atoms_spec (ws := wsX3_compared) B.pre
  have hown : s.vm.findClass RX3 = some m.cls := findClass_of_methodNamed B.named
  have hlocks := B.notSynchronized
  have hinX3 : ∀ w ∈ wsX30, w ∈ wsX3_compared := by decide +kernel
  have hS : va_S (Az g) s.heap s.heap [] := va_S.rf
  have hl := lv_entry ([.ref (gA g 4), .int x, .int y]) (n := 5) (Nat.le_of_ble_eq_true rfl)
  rw [lg_entry_eq]
  generalize (lg_sl ([.ref (gA g 4), .int x, .int y]) ++ List.replicate (5 - (lg_sl ([.ref (gA g 4), .int x, .int y])).length) Slot.unset).toArray = ls at hl ⊢
  have hl : lv_has ls 5 [(0, .ref (gA g 4)), (1, .int x), (2, .int y)] := hl
  refine lv_aload_n hx hb dX3_compared_0 rfl (lv_at hl 0 rfl) ?_
  refine gM (v := .ref (gA g 8)) hx hb hts hinX3 hown hC hW 4 (by decide) (by decide +kernel) rfl rfl dX3_compared_1 ?_
  refine lv_iload_n hx hb dX3_compared_4 rfl (lv_at hl 1 rfl) ?_
  refine mLdI 2 (by decide) hx1 hx hb hC hW dX3_compared_5 ?_
  refine lv_aload_n hx hb dX3_compared_6 rfl (lv_at hl 0 rfl) ?_
  refine gM (v := .ref (gA g 8)) hx hb hts hinX3 hown hC hW 4 (by decide) (by decide +kernel) rfl rfl dX3_compared_7 ?_
  refine lv_iload_n hx hb dX3_compared_10 rfl (lv_at hl 2 rfl) ?_
  refine mLdI 2 (by decide) hy1 hx hb hC hW dX3_compared_11 ?_
  refine lv_isub hx hb dX3_compared_12 ?_
  refine lv_istore_n (lv' := [(3, .int ((μ.2 3 x.toNatClampNeg - μ.2 3 y.toNatClampNeg))), (0, .ref (gA g 4)), (1, .int x), (2, .int y)]) hx hb dX3_compared_13 rfl hl (by decide) rfl (fun ls hl => ?_)
  refine lv_iload_n hx hb dX3_compared_14 rfl (lv_at hl 0 rfl) ?_
  refine lv_if_ne (tgt := 34) hx hb dX3_compared_15 (by decide) (fun c_1 => ?_) (fun c_1 => ?_)
  · skip
    refine lv_iload_n hx hb dX3_compared_34 rfl (lv_at hl 0 rfl) ?_
    refine lv_istore (lv' := [(4, .int ((μ.2 3 x.toNatClampNeg - μ.2 3 y.toNatClampNeg))), (3, .int ((μ.2 3 x.toNatClampNeg - μ.2 3 y.toNatClampNeg))), (0, .ref (gA g 4)), (1, .int x), (2, .int y)]) hx hb dX3_compared_35 hl (by decide) rfl (fun ls hl => ?_)
    refine lv_iload hx hb dX3_compared_37 (lv_at hl 0 rfl) ?_
    refine lv_if_le (tgt := 46) hx hb dX3_compared_39 (by decide) (fun c_2 => ?_) (fun c_2 => ?_)
    · skip
      refine lv_iload hx hb dX3_compared_46 (lv_at hl 0 rfl) ?_
      refine lv_if_ge (tgt := 55) hx hb dX3_compared_48 (by decide) (fun c_3 => ?_) (fun c_3 => ?_)
      · skip
        refine lv_iconst (v := 0) hx hb dX3_compared_55 (by decide) ?_
        exact W.iret (v := 0) hx hb hr (fun t ht hW9 => ⟨_, rfl, by simp only [cmM, sgI, ↓reduceIte, c_1, c_2, c_3], ht⟩) (fun q h => by cases h) dX3_compared_56
      · skip
        refine lv_iconst (v := (-1)) hx hb dX3_compared_51 (by decide) ?_
        refine lv_goto (tgt := 56) hx hb dX3_compared_52 (by decide) ?_
        exact W.iret (v := (-1)) hx hb hr (fun t ht hW9 => ⟨_, rfl, by simp only [cmM, sgI, ↓reduceIte, c_1, c_2, c_3], ht⟩) (fun q h => by cases h) dX3_compared_56
    · skip
      refine lv_iconst (v := 1) hx hb dX3_compared_42 (by decide) ?_
      refine lv_goto (tgt := 56) hx hb dX3_compared_43 (by decide) ?_
      exact W.iret (v := 1) hx hb hr (fun t ht hW9 => ⟨_, rfl, by simp only [cmM, sgI, ↓reduceIte, c_1, c_2], ht⟩) (fun q h => by cases h) dX3_compared_56
  · skip
    refine lv_aload_n hx hb dX3_compared_18 rfl (lv_at hl 1 rfl) ?_
    refine gM (v := .ref (gA g 9)) hx hb hts hinX3 hown hC hW 5 (by decide) (by decide +kernel) rfl rfl dX3_compared_19 ?_
    refine lv_iload_n hx hb dX3_compared_22 rfl (lv_at hl 2 rfl) ?_
    refine mLdI 3 (by decide) hx1 hx hb hC hW dX3_compared_23 ?_
    refine lv_aload_n hx hb dX3_compared_24 rfl (lv_at hl 1 rfl) ?_
    refine gM (v := .ref (gA g 9)) hx hb hts hinX3 hown hC hW 5 (by decide) (by decide +kernel) rfl rfl dX3_compared_25 ?_
    refine lv_iload_n hx hb dX3_compared_28 rfl (lv_at hl 3 rfl) ?_
    refine mLdI 3 (by decide) hy1 hx hb hC hW dX3_compared_29 ?_
    refine lv_isub hx hb dX3_compared_30 ?_
    refine lv_goto (tgt := 35) hx hb dX3_compared_31 (by decide) ?_
    refine lv_istore (lv' := [(4, .int ((μ.2 4 x.toNatClampNeg - μ.2 4 y.toNatClampNeg))), (3, .int ((μ.2 3 x.toNatClampNeg - μ.2 3 y.toNatClampNeg))), (0, .ref (gA g 4)), (1, .int x), (2, .int y)]) hx hb dX3_compared_35 hl (by decide) rfl (fun ls hl => ?_)
    refine lv_iload hx hb dX3_compared_37 (lv_at hl 0 rfl) ?_
    refine lv_if_le (tgt := 46) hx hb dX3_compared_39 (by decide) (fun c_4 => ?_) (fun c_4 => ?_)
    · skip
      refine lv_iload hx hb dX3_compared_46 (lv_at hl 0 rfl) ?_
      refine lv_if_ge (tgt := 55) hx hb dX3_compared_48 (by decide) (fun c_5 => ?_) (fun c_5 => ?_)
      · skip
        refine lv_iconst (v := 0) hx hb dX3_compared_55 (by decide) ?_
        exact W.iret (v := 0) hx hb hr (fun t ht hW9 => ⟨_, rfl, by simp only [cmM, sgI, ↓reduceIte, c_1, c_4, c_5], ht⟩) (fun q h => by cases h) dX3_compared_56
      · skip
        refine lv_iconst (v := (-1)) hx hb dX3_compared_51 (by decide) ?_
        refine lv_goto (tgt := 56) hx hb dX3_compared_52 (by decide) ?_
        exact W.iret (v := (-1)) hx hb hr (fun t ht hW9 => ⟨_, rfl, by simp only [cmM, sgI, ↓reduceIte, c_1, c_4, c_5], ht⟩) (fun q h => by cases h) dX3_compared_56
    · skip
      refine lv_iconst (v := 1) hx hb dX3_compared_42 (by decide) ?_
      refine lv_goto (tgt := 56) hx hb dX3_compared_43 (by decide) ?_
      exact W.iret (v := 1) hx hb hr (fun t ht hW9 => ⟨_, rfl, by simp only [cmM, sgI, ↓reduceIte, c_1, c_4], ht⟩) (fun q h => by cases h) dX3_compared_56
set_option maxHeartbeats 4000000 in
set_option maxRecDepth 100000 in
theorem mtX3_isAhead (l : Launch) (g : Ge) (σ : Sg) (μ : Mg) (o : Nat → Int64) (x y : Int32) (hx1 : vp_in x 60) (hy1 : vp_in y 60) : Met l yX3_isAhead wsX3_isAhead ({ frames := 1, cells := 0, slots := 0, locals := 24 } : Room) (va_Pc [.ref (gA g 4), .int x, .int y] (PW g σ μ o)) (vp_Si (fun r => r = bI (ahM μ.2 x y))) 0 0 (fun _ => False) := by
  refine Met.ofW (cc := cX3_isAhead) (maxL := 5) (ret := (some .boolean)) (by decide) rfl ?_
  intro p e s m args below meth c s₁ B hml hv
  obtain ⟨rfl, hC, hW⟩ := hv
  have hx := B.exec
  have hb := B.bytes
  have hr := B.returns
  have hts := atoms_spec (ws := wsX3_isAhead) B.pre
  have hown : s.vm.findClass RX3 = some m.cls := findClass_of_methodNamed B.named
  have hlocks := B.notSynchronized
  have hinX3 : ∀ w ∈ wsX30, w ∈ wsX3_isAhead := by decide +kernel
  have hS : va_S (Az g) s.heap s.heap [] := va_S.rf
  have hl := lv_entry ([.ref (gA g 4), .int x, .int y]) (n := 5) (Nat.le_of_ble_eq_true rfl)
  rw [lg_entry_eq]
  generalize (lg_sl ([.ref (gA g 4), .int x, .int y]) ++ List.replicate (5 - (lg_sl ([.ref (gA g 4), .int x, .int y])).length) Slot.unset).toArray = ls at hl ⊢
  have hl : lv_has ls 5 [(0, .ref (gA g 4)), (1, .int x), (2, .int y)] := hl
  refine lv_aload_n hx hb dX3_isAhead_0 rfl (lv_at hl 0 rfl) ?_
  refine gM (v := .ref (gA g 10)) hx hb hts hinX3 hown hC hW 6 (by decide) (by decide +kernel) rfl rfl dX3_isAhead_1 ?_
  refine lv_iload_n hx hb dX3_isAhead_4 rfl (lv_at hl 1 rfl) ?_
  refine mLdI 4 (by decide) hx1 hx hb hC hW dX3_isAhead_5 ?_
  refine lv_if_ne (tgt := 13) hx hb dX3_isAhead_6 (by decide) (fun c_1 => ?_) (fun c_1 => ?_)
  · skip
    refine lv_iconst (v := 0) hx hb dX3_isAhead_13 (by decide) ?_
    refine lv_istore_n (lv' := [(3, .int 0), (0, .ref (gA g 4)), (1, .int x), (2, .int y)]) hx hb dX3_isAhead_14 rfl hl (by decide) rfl (fun ls hl => ?_)
    refine lv_iload_n hx hb dX3_isAhead_15 rfl (lv_at hl 0 rfl) ?_
    refine lv_aload_n hx hb dX3_isAhead_16 rfl (lv_at hl 1 rfl) ?_
    refine gM (v := .ref (gA g 10)) hx hb hts hinX3 hown hC hW 6 (by decide) (by decide +kernel) rfl rfl dX3_isAhead_17 ?_
    refine lv_iload_n hx hb dX3_isAhead_20 rfl (lv_at hl 3 rfl) ?_
    refine mLdI 4 (by decide) hy1 hx hb hC hW dX3_isAhead_21 ?_
    refine lv_if_ne (tgt := 29) hx hb dX3_isAhead_22 (by decide) (fun c_2 => ?_) (fun c_2 => ?_)
    · skip
      refine lv_iconst (v := 0) hx hb dX3_isAhead_29 (by decide) ?_
      refine lv_icmp_eq (tgt := 43) hx hb dX3_isAhead_30 (by decide) (fun c_3 => ?_) (fun c_3 => absurd c_3 (by decide))
      refine lv_aload_n hx hb dX3_isAhead_43 rfl (lv_at hl 1 rfl) ?_
      refine gM (v := .ref (gA g 6)) hx hb hts hinX3 hown hC hW 2 (by decide) (by decide +kernel) rfl rfl dX3_isAhead_44 ?_
      refine lv_iload_n hx hb dX3_isAhead_47 rfl (lv_at hl 2 rfl) ?_
      refine mLdI 0 (by decide) hx1 hx hb hC hW dX3_isAhead_48 ?_
      refine lv_aload_n hx hb dX3_isAhead_49 rfl (lv_at hl 1 rfl) ?_
      refine gM (v := .ref (gA g 6)) hx hb hts hinX3 hown hC hW 2 (by decide) (by decide +kernel) rfl rfl dX3_isAhead_50 ?_
      refine lv_iload_n hx hb dX3_isAhead_53 rfl (lv_at hl 3 rfl) ?_
      refine mLdI 0 (by decide) hy1 hx hb hC hW dX3_isAhead_54 ?_
      refine lv_icmp_eq (tgt := 79) hx hb dX3_isAhead_55 (by decide) (fun c_4 => ?_) (fun c_4 => ?_)
      · skip
        refine lv_aload_n hx hb dX3_isAhead_79 rfl (lv_at hl 1 rfl) ?_
        refine lv_iload_n hx hb dX3_isAhead_80 rfl (lv_at hl 2 rfl) ?_
        refine lv_iload_n hx hb dX3_isAhead_81 rfl (lv_at hl 3 rfl) ?_
        refine vp_callSi (va_Run.run (va_runV (As := [.int x, .int y]) (rest := []) ⟨hx, hb, hml, hown, hts⟩ (mtX3_compared l g σ μ o x y hx1 hy1) (cwV 2 hts gX3_isAhead_X3_compared rfl rfl rfl (by decide +kernel) ⟨Nat.le_of_ble_eq_true rfl, Nat.le_of_ble_eq_true rfl⟩) ⟨PW.blind, rcM hC hW, fun U hU hW9 => ⟨rfl, PW.at hC hS hW U hU hW9⟩⟩ rfl rfl hl.1 rfl (lv_room (Nat.le_of_ble_eq_true rfl)) dX3_isAhead_82 ⟨Nat.zero_le _, Nat.zero_le _⟩)) (fun r_6 h_5 => ?_)
        obtain rfl : r_6 = cmM μ.2 x y := h_5
        refine lv_istore (lv' := [(4, .int ((cmM μ.2 x y))), (3, .int 0), (0, .ref (gA g 4)), (1, .int x), (2, .int y)]) hx hb dX3_isAhead_85 hl (by decide) rfl (fun ls hl => ?_)
        refine lv_iload hx hb dX3_isAhead_87 (lv_at hl 0 rfl) ?_
        refine lv_if_eq (tgt := 103) hx hb dX3_isAhead_89 (by decide) (fun c_7 => ?_) (fun c_7 => ?_)
        · skip
          refine lv_aload_n hx hb dX3_isAhead_103 rfl (lv_at hl 2 rfl) ?_
          refine gM (v := .ref (gA g 7)) hx hb hts hinX3 hown hC hW 3 (by decide) (by decide +kernel) rfl rfl dX3_isAhead_104 ?_
          refine lv_iload_n hx hb dX3_isAhead_107 rfl (lv_at hl 3 rfl) ?_
          refine mLdI 1 (by decide) hx1 hx hb hC hW dX3_isAhead_108 ?_
          refine lv_aload_n hx hb dX3_isAhead_109 rfl (lv_at hl 2 rfl) ?_
          refine gM (v := .ref (gA g 7)) hx hb hts hinX3 hown hC hW 3 (by decide) (by decide +kernel) rfl rfl dX3_isAhead_110 ?_
          refine lv_iload_n hx hb dX3_isAhead_113 rfl (lv_at hl 4 rfl) ?_
          refine mLdI 1 (by decide) hy1 hx hb hC hW dX3_isAhead_114 ?_
          refine lv_icmp_eq (tgt := 141) hx hb dX3_isAhead_115 (by decide) (fun c_8 => ?_) (fun c_8 => ?_)
          · skip
            refine lv_iload_n hx hb dX3_isAhead_141 rfl (lv_at hl 3 rfl) ?_
            refine lv_iload_n hx hb dX3_isAhead_142 rfl (lv_at hl 4 rfl) ?_
            refine lv_icmp_ge (tgt := 150) hx hb dX3_isAhead_143 (by decide) (fun c_9 => ?_) (fun c_9 => ?_)
            · skip
              refine lv_iconst (v := 0) hx hb dX3_isAhead_150 (by decide) ?_
              exact W.zret (v := 0) (ty := .boolean) hx hb hr rfl (fun t ht hW9 => ⟨_, rfl, by unfold ahM; simp [bI, c_1, c_2, c_4, c_7, c_8, c_9], ht⟩) (fun q h => by cases h) dX3_isAhead_151
            · skip
              refine lv_iconst (v := 1) hx hb dX3_isAhead_146 (by decide) ?_
              refine lv_goto (tgt := 151) hx hb dX3_isAhead_147 (by decide) ?_
              exact W.zret (v := 1) (ty := .boolean) hx hb hr rfl (fun t ht hW9 => ⟨_, rfl, by unfold ahM; simp [bI, c_1, c_2, c_4, c_7, c_8, c_9], ht⟩) (fun q h => by cases h) dX3_isAhead_151
          · skip
            refine lv_aload_n hx hb dX3_isAhead_118 rfl (lv_at hl 2 rfl) ?_
            refine gM (v := .ref (gA g 7)) hx hb hts hinX3 hown hC hW 3 (by decide) (by decide +kernel) rfl rfl dX3_isAhead_119 ?_
            refine lv_iload_n hx hb dX3_isAhead_122 rfl (lv_at hl 3 rfl) ?_
            refine mLdI 1 (by decide) hx1 hx hb hC hW dX3_isAhead_123 ?_
            refine lv_aload_n hx hb dX3_isAhead_124 rfl (lv_at hl 2 rfl) ?_
            refine gM (v := .ref (gA g 7)) hx hb hts hinX3 hown hC hW 3 (by decide) (by decide +kernel) rfl rfl dX3_isAhead_125 ?_
            refine lv_iload_n hx hb dX3_isAhead_128 rfl (lv_at hl 4 rfl) ?_
            refine mLdI 1 (by decide) hy1 hx hb hC hW dX3_isAhead_129 ?_
            refine lv_icmp_ge (tgt := 137) hx hb dX3_isAhead_130 (by decide) (fun c_10 => ?_) (fun c_10 => ?_)
            · skip
              refine lv_iconst (v := 0) hx hb dX3_isAhead_137 (by decide) ?_
              refine lv_goto (tgt := 151) hx hb dX3_isAhead_138 (by decide) ?_
              exact W.zret (v := 0) (ty := .boolean) hx hb hr rfl (fun t ht hW9 => ⟨_, rfl, by unfold ahM; simp [bI, c_1, c_2, c_4, c_7, c_8, c_10], ht⟩) (fun q h => by cases h) dX3_isAhead_151
            · skip
              refine lv_iconst (v := 1) hx hb dX3_isAhead_133 (by decide) ?_
              refine lv_goto (tgt := 151) hx hb dX3_isAhead_134 (by decide) ?_
              exact W.zret (v := 1) (ty := .boolean) hx hb hr rfl (fun t ht hW9 => ⟨_, rfl, by unfold ahM; simp [bI, c_1, c_2, c_4, c_7, c_8, c_10], ht⟩) (fun q h => by cases h) dX3_isAhead_151
        · skip
          refine lv_iload hx hb dX3_isAhead_92 (lv_at hl 0 rfl) ?_
          refine lv_if_le (tgt := 101) hx hb dX3_isAhead_94 (by decide) (fun c_11 => ?_) (fun c_11 => ?_)
          · skip
            refine lv_iconst (v := 0) hx hb dX3_isAhead_101 (by decide) ?_
            exact W.zret (v := 0) (ty := .boolean) hx hb hr rfl (fun t ht hW9 => ⟨_, rfl, by unfold ahM; simp [bI, c_1, c_2, c_4, c_7, c_11], ht⟩) (fun q h => by cases h) dX3_isAhead_102
          · skip
            refine lv_iconst (v := 1) hx hb dX3_isAhead_97 (by decide) ?_
            refine lv_goto (tgt := 102) hx hb dX3_isAhead_98 (by decide) ?_
            exact W.zret (v := 1) (ty := .boolean) hx hb hr rfl (fun t ht hW9 => ⟨_, rfl, by unfold ahM; simp [bI, c_1, c_2, c_4, c_7, c_11], ht⟩) (fun q h => by cases h) dX3_isAhead_102
      · skip
        refine lv_aload_n hx hb dX3_isAhead_58 rfl (lv_at hl 1 rfl) ?_
        refine gM (v := .ref (gA g 6)) hx hb hts hinX3 hown hC hW 2 (by decide) (by decide +kernel) rfl rfl dX3_isAhead_59 ?_
        refine lv_iload_n hx hb dX3_isAhead_62 rfl (lv_at hl 2 rfl) ?_
        refine mLdI 0 (by decide) hx1 hx hb hC hW dX3_isAhead_63 ?_
        refine lv_aload_n hx hb dX3_isAhead_64 rfl (lv_at hl 1 rfl) ?_
        refine gM (v := .ref (gA g 6)) hx hb hts hinX3 hown hC hW 2 (by decide) (by decide +kernel) rfl rfl dX3_isAhead_65 ?_
        refine lv_iload_n hx hb dX3_isAhead_68 rfl (lv_at hl 3 rfl) ?_
        refine mLdI 0 (by decide) hy1 hx hb hC hW dX3_isAhead_69 ?_
        refine lv_icmp_ge (tgt := 77) hx hb dX3_isAhead_70 (by decide) (fun c_12 => ?_) (fun c_12 => ?_)
        · skip
          refine lv_iconst (v := 0) hx hb dX3_isAhead_77 (by decide) ?_
          exact W.zret (v := 0) (ty := .boolean) hx hb hr rfl (fun t ht hW9 => ⟨_, rfl, by unfold ahM; simp [bI, c_1, c_2, c_4, c_12], ht⟩) (fun q h => by cases h) dX3_isAhead_78
        · skip
          refine lv_iconst (v := 1) hx hb dX3_isAhead_73 (by decide) ?_
          refine lv_goto (tgt := 78) hx hb dX3_isAhead_74 (by decide) ?_
          exact W.zret (v := 1) (ty := .boolean) hx hb hr rfl (fun t ht hW9 => ⟨_, rfl, by unfold ahM; simp [bI, c_1, c_2, c_4, c_12], ht⟩) (fun q h => by cases h) dX3_isAhead_78
    · skip
      refine lv_iconst (v := 1) hx hb dX3_isAhead_25 (by decide) ?_
      refine lv_goto (tgt := 30) hx hb dX3_isAhead_26 (by decide) ?_
      refine lv_icmp_eq (tgt := 43) hx hb dX3_isAhead_30 (by decide) (fun c_13 => absurd c_13 (by decide)) (fun c_13 => ?_)
      refine lv_iload_n hx hb dX3_isAhead_33 rfl (lv_at hl 0 rfl) ?_
      refine lv_if_ne (tgt := 41) hx hb dX3_isAhead_34 (by decide) (fun c_14 => absurd c_14 (by decide)) (fun c_14 => ?_)
      refine lv_iconst (v := 1) hx hb dX3_isAhead_37 (by decide) ?_
      refine lv_goto (tgt := 42) hx hb dX3_isAhead_38 (by decide) ?_
      exact W.zret (v := 1) (ty := .boolean) hx hb hr rfl (fun t ht hW9 => ⟨_, rfl, by unfold ahM; simp [bI, c_1, c_2], ht⟩) (fun q h => by cases h) dX3_isAhead_42
  · skip
    refine lv_iconst (v := 1) hx hb dX3_isAhead_9 (by decide) ?_
    refine lv_goto (tgt := 14) hx hb dX3_isAhead_10 (by decide) ?_
    refine lv_istore_n (lv' := [(3, .int 1), (0, .ref (gA g 4)), (1, .int x), (2, .int y)]) hx hb dX3_isAhead_14 rfl hl (by decide) rfl (fun ls hl => ?_)
    refine lv_iload_n hx hb dX3_isAhead_15 rfl (lv_at hl 0 rfl) ?_
    refine lv_aload_n hx hb dX3_isAhead_16 rfl (lv_at hl 1 rfl) ?_
    refine gM (v := .ref (gA g 10)) hx hb hts hinX3 hown hC hW 6 (by decide) (by decide +kernel) rfl rfl dX3_isAhead_17 ?_
    refine lv_iload_n hx hb dX3_isAhead_20 rfl (lv_at hl 3 rfl) ?_
    refine mLdI 4 (by decide) hy1 hx hb hC hW dX3_isAhead_21 ?_
    refine lv_if_ne (tgt := 29) hx hb dX3_isAhead_22 (by decide) (fun c_15 => ?_) (fun c_15 => ?_)
    · skip
      refine lv_iconst (v := 0) hx hb dX3_isAhead_29 (by decide) ?_
      refine lv_icmp_eq (tgt := 43) hx hb dX3_isAhead_30 (by decide) (fun c_16 => absurd c_16 (by decide)) (fun c_16 => ?_)
      refine lv_iload_n hx hb dX3_isAhead_33 rfl (lv_at hl 0 rfl) ?_
      refine lv_if_ne (tgt := 41) hx hb dX3_isAhead_34 (by decide) (fun c_17 => ?_) (fun c_17 => absurd c_17 (by decide))
      refine lv_iconst (v := 0) hx hb dX3_isAhead_41 (by decide) ?_
      exact W.zret (v := 0) (ty := .boolean) hx hb hr rfl (fun t ht hW9 => ⟨_, rfl, by unfold ahM; simp [bI, c_1, c_15], ht⟩) (fun q h => by cases h) dX3_isAhead_42
    · skip
      refine lv_iconst (v := 1) hx hb dX3_isAhead_25 (by decide) ?_
      refine lv_goto (tgt := 30) hx hb dX3_isAhead_26 (by decide) ?_
      refine lv_icmp_eq (tgt := 43) hx hb dX3_isAhead_30 (by decide) (fun c_18 => ?_) (fun c_18 => absurd c_18 (by decide))
      refine lv_aload_n hx hb dX3_isAhead_43 rfl (lv_at hl 1 rfl) ?_
      refine gM (v := .ref (gA g 6)) hx hb hts hinX3 hown hC hW 2 (by decide) (by decide +kernel) rfl rfl dX3_isAhead_44 ?_
      refine lv_iload_n hx hb dX3_isAhead_47 rfl (lv_at hl 2 rfl) ?_
      refine mLdI 0 (by decide) hx1 hx hb hC hW dX3_isAhead_48 ?_
      refine lv_aload_n hx hb dX3_isAhead_49 rfl (lv_at hl 1 rfl) ?_
      refine gM (v := .ref (gA g 6)) hx hb hts hinX3 hown hC hW 2 (by decide) (by decide +kernel) rfl rfl dX3_isAhead_50 ?_
      refine lv_iload_n hx hb dX3_isAhead_53 rfl (lv_at hl 3 rfl) ?_
      refine mLdI 0 (by decide) hy1 hx hb hC hW dX3_isAhead_54 ?_
      refine lv_icmp_eq (tgt := 79) hx hb dX3_isAhead_55 (by decide) (fun c_19 => ?_) (fun c_19 => ?_)
      · skip
        refine lv_aload_n hx hb dX3_isAhead_79 rfl (lv_at hl 1 rfl) ?_
        refine lv_iload_n hx hb dX3_isAhead_80 rfl (lv_at hl 2 rfl) ?_
        refine lv_iload_n hx hb dX3_isAhead_81 rfl (lv_at hl 3 rfl) ?_
        refine vp_callSi (va_Run.run (va_runV (As := [.int x, .int y]) (rest := []) ⟨hx, hb, hml, hown, hts⟩ (mtX3_compared l g σ μ o x y hx1 hy1) (cwV 2 hts gX3_isAhead_X3_compared rfl rfl rfl (by decide +kernel) ⟨Nat.le_of_ble_eq_true rfl, Nat.le_of_ble_eq_true rfl⟩) ⟨PW.blind, rcM hC hW, fun U hU hW9 => ⟨rfl, PW.at hC hS hW U hU hW9⟩⟩ rfl rfl hl.1 rfl (lv_room (Nat.le_of_ble_eq_true rfl)) dX3_isAhead_82 ⟨Nat.zero_le _, Nat.zero_le _⟩)) (fun r_21 h_20 => ?_)
        obtain rfl : r_21 = cmM μ.2 x y := h_20
        refine lv_istore (lv' := [(4, .int ((cmM μ.2 x y))), (3, .int 1), (0, .ref (gA g 4)), (1, .int x), (2, .int y)]) hx hb dX3_isAhead_85 hl (by decide) rfl (fun ls hl => ?_)
        refine lv_iload hx hb dX3_isAhead_87 (lv_at hl 0 rfl) ?_
        refine lv_if_eq (tgt := 103) hx hb dX3_isAhead_89 (by decide) (fun c_22 => ?_) (fun c_22 => ?_)
        · skip
          refine lv_aload_n hx hb dX3_isAhead_103 rfl (lv_at hl 2 rfl) ?_
          refine gM (v := .ref (gA g 7)) hx hb hts hinX3 hown hC hW 3 (by decide) (by decide +kernel) rfl rfl dX3_isAhead_104 ?_
          refine lv_iload_n hx hb dX3_isAhead_107 rfl (lv_at hl 3 rfl) ?_
          refine mLdI 1 (by decide) hx1 hx hb hC hW dX3_isAhead_108 ?_
          refine lv_aload_n hx hb dX3_isAhead_109 rfl (lv_at hl 2 rfl) ?_
          refine gM (v := .ref (gA g 7)) hx hb hts hinX3 hown hC hW 3 (by decide) (by decide +kernel) rfl rfl dX3_isAhead_110 ?_
          refine lv_iload_n hx hb dX3_isAhead_113 rfl (lv_at hl 4 rfl) ?_
          refine mLdI 1 (by decide) hy1 hx hb hC hW dX3_isAhead_114 ?_
          refine lv_icmp_eq (tgt := 141) hx hb dX3_isAhead_115 (by decide) (fun c_23 => ?_) (fun c_23 => ?_)
          · skip
            refine lv_iload_n hx hb dX3_isAhead_141 rfl (lv_at hl 3 rfl) ?_
            refine lv_iload_n hx hb dX3_isAhead_142 rfl (lv_at hl 4 rfl) ?_
            refine lv_icmp_ge (tgt := 150) hx hb dX3_isAhead_143 (by decide) (fun c_24 => ?_) (fun c_24 => ?_)
            · skip
              refine lv_iconst (v := 0) hx hb dX3_isAhead_150 (by decide) ?_
              exact W.zret (v := 0) (ty := .boolean) hx hb hr rfl (fun t ht hW9 => ⟨_, rfl, by unfold ahM; simp [bI, c_1, c_15, c_19, c_22, c_23, c_24], ht⟩) (fun q h => by cases h) dX3_isAhead_151
            · skip
              refine lv_iconst (v := 1) hx hb dX3_isAhead_146 (by decide) ?_
              refine lv_goto (tgt := 151) hx hb dX3_isAhead_147 (by decide) ?_
              exact W.zret (v := 1) (ty := .boolean) hx hb hr rfl (fun t ht hW9 => ⟨_, rfl, by unfold ahM; simp [bI, c_1, c_15, c_19, c_22, c_23, c_24], ht⟩) (fun q h => by cases h) dX3_isAhead_151
          · skip
            refine lv_aload_n hx hb dX3_isAhead_118 rfl (lv_at hl 2 rfl) ?_
            refine gM (v := .ref (gA g 7)) hx hb hts hinX3 hown hC hW 3 (by decide) (by decide +kernel) rfl rfl dX3_isAhead_119 ?_
            refine lv_iload_n hx hb dX3_isAhead_122 rfl (lv_at hl 3 rfl) ?_
            refine mLdI 1 (by decide) hx1 hx hb hC hW dX3_isAhead_123 ?_
            refine lv_aload_n hx hb dX3_isAhead_124 rfl (lv_at hl 2 rfl) ?_
            refine gM (v := .ref (gA g 7)) hx hb hts hinX3 hown hC hW 3 (by decide) (by decide +kernel) rfl rfl dX3_isAhead_125 ?_
            refine lv_iload_n hx hb dX3_isAhead_128 rfl (lv_at hl 4 rfl) ?_
            refine mLdI 1 (by decide) hy1 hx hb hC hW dX3_isAhead_129 ?_
            refine lv_icmp_ge (tgt := 137) hx hb dX3_isAhead_130 (by decide) (fun c_25 => ?_) (fun c_25 => ?_)
            · skip
              refine lv_iconst (v := 0) hx hb dX3_isAhead_137 (by decide) ?_
              refine lv_goto (tgt := 151) hx hb dX3_isAhead_138 (by decide) ?_
              exact W.zret (v := 0) (ty := .boolean) hx hb hr rfl (fun t ht hW9 => ⟨_, rfl, by unfold ahM; simp [bI, c_1, c_15, c_19, c_22, c_23, c_25], ht⟩) (fun q h => by cases h) dX3_isAhead_151
            · skip
              refine lv_iconst (v := 1) hx hb dX3_isAhead_133 (by decide) ?_
              refine lv_goto (tgt := 151) hx hb dX3_isAhead_134 (by decide) ?_
              exact W.zret (v := 1) (ty := .boolean) hx hb hr rfl (fun t ht hW9 => ⟨_, rfl, by unfold ahM; simp [bI, c_1, c_15, c_19, c_22, c_23, c_25], ht⟩) (fun q h => by cases h) dX3_isAhead_151
        · skip
          refine lv_iload hx hb dX3_isAhead_92 (lv_at hl 0 rfl) ?_
          refine lv_if_le (tgt := 101) hx hb dX3_isAhead_94 (by decide) (fun c_26 => ?_) (fun c_26 => ?_)
          · skip
            refine lv_iconst (v := 0) hx hb dX3_isAhead_101 (by decide) ?_
            exact W.zret (v := 0) (ty := .boolean) hx hb hr rfl (fun t ht hW9 => ⟨_, rfl, by unfold ahM; simp [bI, c_1, c_15, c_19, c_22, c_26], ht⟩) (fun q h => by cases h) dX3_isAhead_102
          · skip
            refine lv_iconst (v := 1) hx hb dX3_isAhead_97 (by decide) ?_
            refine lv_goto (tgt := 102) hx hb dX3_isAhead_98 (by decide) ?_
            exact W.zret (v := 1) (ty := .boolean) hx hb hr rfl (fun t ht hW9 => ⟨_, rfl, by unfold ahM; simp [bI, c_1, c_15, c_19, c_22, c_26], ht⟩) (fun q h => by cases h) dX3_isAhead_102
      · skip
        refine lv_aload_n hx hb dX3_isAhead_58 rfl (lv_at hl 1 rfl) ?_
        refine gM (v := .ref (gA g 6)) hx hb hts hinX3 hown hC hW 2 (by decide) (by decide +kernel) rfl rfl dX3_isAhead_59 ?_
        refine lv_iload_n hx hb dX3_isAhead_62 rfl (lv_at hl 2 rfl) ?_
        refine mLdI 0 (by decide) hx1 hx hb hC hW dX3_isAhead_63 ?_
        refine lv_aload_n hx hb dX3_isAhead_64 rfl (lv_at hl 1 rfl) ?_
        refine gM (v := .ref (gA g 6)) hx hb hts hinX3 hown hC hW 2 (by decide) (by decide +kernel) rfl rfl dX3_isAhead_65 ?_
        refine lv_iload_n hx hb dX3_isAhead_68 rfl (lv_at hl 3 rfl) ?_
        refine mLdI 0 (by decide) hy1 hx hb hC hW dX3_isAhead_69 ?_
        refine lv_icmp_ge (tgt := 77) hx hb dX3_isAhead_70 (by decide) (fun c_27 => ?_) (fun c_27 => ?_)
        · skip
          refine lv_iconst (v := 0) hx hb dX3_isAhead_77 (by decide) ?_
          exact W.zret (v := 0) (ty := .boolean) hx hb hr rfl (fun t ht hW9 => ⟨_, rfl, by unfold ahM; simp [bI, c_1, c_15, c_19, c_27], ht⟩) (fun q h => by cases h) dX3_isAhead_78
        · skip
          refine lv_iconst (v := 1) hx hb dX3_isAhead_73 (by decide) ?_
          refine lv_goto (tgt := 78) hx hb dX3_isAhead_74 (by decide) ?_
          exact W.zret (v := 1) (ty := .boolean) hx hb hr rfl (fun t ht hW9 => ⟨_, rfl, by unfold ahM; simp [bI, c_1, c_15, c_19, c_27], ht⟩) (fun q h => by cases h) dX3_isAhead_78
set_option maxHeartbeats 4000000 in
set_option maxRecDepth 100000 in
theorem mtX3_place (l : Launch) (g : Ge) (σ : Sg) (μ : Mg) (o : Nat → Int64) (e9 : Int32) (he : vp_in e9 60) (a : Nat) (hM : μ.1 0 = nI a) (ha : a ≤ 60) : Met l yX3_place wsX3_place ({ frames := 2, cells := 0, slots := 0, locals := 48 } : Room) (va_Pc [.ref (gA g 4), .int e9] (PW g σ μ o)) (vp_Si (fun r => r = nI (ct (plP μ e9) a))) 0 0 (fun _ => False) := by
  refine Met.ofW (cc := cX3_place) (maxL := 4) (ret := (some .int)) (by decide) rfl ?_
  intro p e s m args below meth c s₁ B hml hv
  obtain ⟨rfl, hC, hW⟩ := hv
  have hx := B.exec
  have hb := B.bytes
  have hr := B.returns
  have hts := atoms_spec (ws := wsX3_place) B.pre
  have hown : s.vm.findClass RX3 = some m.cls := findClass_of_methodNamed B.named
  have hlocks := B.notSynchronized
  have hinX3 : ∀ w ∈ wsX30, w ∈ wsX3_place := by decide +kernel
  have hS : va_S (Az g) s.heap s.heap [] := va_S.rf
  have hl := lv_entry ([.ref (gA g 4), .int e9]) (n := 4) (Nat.le_of_ble_eq_true rfl)
  rw [lg_entry_eq]
  generalize (lg_sl ([.ref (gA g 4), .int e9]) ++ List.replicate (4 - (lg_sl ([.ref (gA g 4), .int e9])).length) Slot.unset).toArray = ls at hl ⊢
  have hl : lv_has ls 4 [(0, .ref (gA g 4)), (1, .int e9)] := hl
  refine lv_iconst (v := 0) hx hb dX3_place_0 (by decide) ?_
  refine lv_istore_n (lv' := [(2, .int 0), (0, .ref (gA g 4)), (1, .int e9)]) hx hb dX3_place_1 rfl hl (by decide) rfl (fun ls hl => ?_)
  refine lv_iconst (v := 0) hx hb dX3_place_2 (by decide) ?_
  refine lv_istore_n (lv' := [(3, .int 0), (2, .int 0), (0, .ref (gA g 4)), (1, .int e9)]) hx hb dX3_place_3 rfl hl (by decide) rfl (fun ls hl => ?_)
  have loop_1 : ∀ (n9 i : Nat), i ≤ a → a < i + n9 → True → ∀ (ls : Array Slot), lv_has ls 4 [(0, .ref (gA g 4)), (1, .int e9), (2, .int (nI (ct (plP μ e9) i))), (3, .int (nI i))] → W p l e (headSpec wsX3_place ({ frames := 2, cells := 0, slots := 0, locals := 48 } : Room)).room s m ([.ref (gA g 4), .int e9] : List Value).toArray below meth c s.heap [] 0 0 (MQ below (vp_Si (fun r => r = nI (ct (plP μ e9) a))) ([.ref (gA g 4), .int e9] : List Value).toArray s 0 0 (fun _ => False)) (F0 m 4 ls []) := by
    intro n9
    induction n9 with
    | zero =>
      intro i h1 h2
      exact absurd h2 (by omega)
    | succ n9 ih =>
      intro i hi hin hinv ls hl
      refine lv_iload_n hx hb dX3_place_4 rfl (lv_at hl 3 rfl) ?_
      refine lv_aload_n hx hb dX3_place_5 rfl (lv_at hl 0 rfl) ?_
      refine gM (v := .int (μ.1 0)) hx hb hts hinX3 hown hC hW 0 (by decide) (by decide +kernel) rfl rfl dX3_place_6 ?_
      refine lv_icmp_ge (tgt := 49) hx hb dX3_place_9 (by decide) (fun c_2 => ?_) (fun c_2 => ?_)
      · skip
        have hi16 : i = a := by rw [hM, nI_leI (by omega) (by omega)] at c_2; omega
        refine lv_iload_n hx hb dX3_place_49 rfl (lv_at hl 2 rfl) ?_
        exact W.iret (v := nI (ct (plP μ e9) i)) hx hb hr (fun t ht hW9 => ⟨_, rfl, by rw [hi16], ht⟩) (fun q h => by cases h) dX3_place_50
      · skip
        have hlt : i < a := by rw [hM, nI_leI (by omega) (by omega)] at c_2; omega
        refine lv_iload_n hx hb dX3_place_12 rfl (lv_at hl 2 rfl) ?_
        refine lv_aload_n hx hb dX3_place_13 rfl (lv_at hl 0 rfl) ?_
        refine gM (v := .ref (gA g 5)) hx hb hts hinX3 hown hC hW 1 (by decide) (by decide +kernel) rfl rfl dX3_place_14 ?_
        refine lv_iload_n hx hb dX3_place_17 rfl (lv_at hl 3 rfl) ?_
        refine mLdZ hx hb hC hW (show i < 60 by omega) dX3_place_18 ?_
        refine lv_if_eq (tgt := 40) hx hb dX3_place_19 (by decide) (fun c_3 => ?_) (fun c_3 => ?_)
        · skip
          refine lv_iconst (v := 0) hx hb dX3_place_40 (by decide) ?_
          refine lv_iadd hx hb dX3_place_41 ?_
          refine lv_istore_n (lv' := [(2, .int ((nI (ct (plP μ e9) i) + 0))), (0, .ref (gA g 4)), (1, .int e9), (3, .int (nI i))]) hx hb dX3_place_42 rfl hl (by decide) rfl (fun ls hl => ?_)
          refine lv_iinc (v := nI (i + 1)) (lv' := [(3, .int (nI (i + 1))), (2, .int ((nI (ct (plP μ e9) i) + 0))), (0, .ref (gA g 4)), (1, .int e9)]) hx hb dX3_place_43 hl (k := 3) rfl (nI_1 _) (by decide) rfl (fun ls hl => ?_)
          refine lv_goto (tgt := 4) hx hb dX3_place_46 (by decide) ?_
          have hct : nI (ct (plP μ e9) (i + 1)) = nI (ct (plP μ e9) i) + 0 := by rw [ct_f (by simp [plP, thM, c_3]), Int32.add_zero]
          exact ih (i + 1) (by omega) (by omega) trivial ls (by rw [hct]; exact lv_sub hl [2, 3, 1, 0] rfl)
        · skip
          refine lv_iload_n hx hb dX3_place_22 rfl (lv_at hl 3 rfl) ?_
          refine lv_iload_n hx hb dX3_place_23 rfl (lv_at hl 1 rfl) ?_
          refine lv_icmp_eq (tgt := 40) hx hb dX3_place_24 (by decide) (fun c_4 => ?_) (fun c_4 => ?_)
          · skip
            refine lv_iconst (v := 0) hx hb dX3_place_40 (by decide) ?_
            refine lv_iadd hx hb dX3_place_41 ?_
            refine lv_istore_n (lv' := [(2, .int ((nI (ct (plP μ e9) i) + 0))), (0, .ref (gA g 4)), (1, .int e9), (3, .int (nI i))]) hx hb dX3_place_42 rfl hl (by decide) rfl (fun ls hl => ?_)
            refine lv_iinc (v := nI (i + 1)) (lv' := [(3, .int (nI (i + 1))), (2, .int ((nI (ct (plP μ e9) i) + 0))), (0, .ref (gA g 4)), (1, .int e9)]) hx hb dX3_place_43 hl (k := 3) rfl (nI_1 _) (by decide) rfl (fun ls hl => ?_)
            refine lv_goto (tgt := 4) hx hb dX3_place_46 (by decide) ?_
            have hct : nI (ct (plP μ e9) (i + 1)) = nI (ct (plP μ e9) i) + 0 := by rw [ct_f (by simp [plP, thM, c_3, c_4]), Int32.add_zero]
            exact ih (i + 1) (by omega) (by omega) trivial ls (by rw [hct]; exact lv_sub hl [2, 3, 1, 0] rfl)
          · skip
            refine lv_aload_n hx hb dX3_place_27 rfl (lv_at hl 0 rfl) ?_
            refine lv_iload_n hx hb dX3_place_28 rfl (lv_at hl 3 rfl) ?_
            refine lv_iload_n hx hb dX3_place_29 rfl (lv_at hl 1 rfl) ?_
            refine vp_callSi (va_Run.run (va_runV (As := [.int (nI i), .int e9]) (rest := [.int (nI (ct (plP μ e9) i))]) ⟨hx, hb, hml, hown, hts⟩ (mtX3_isAhead l g σ μ o (nI i) e9 (vp_in_nI (show i < 60 by omega) (by omega)) he) (cwV 2 hts gX3_place_X3_isAhead rfl rfl rfl (by decide +kernel) ⟨Nat.le_of_ble_eq_true rfl, Nat.le_of_ble_eq_true rfl⟩) ⟨PW.blind, rcM hC hW, fun U hU hW9 => ⟨rfl, PW.at hC hS hW U hU hW9⟩⟩ rfl rfl hl.1 rfl (lv_room (Nat.le_of_ble_eq_true rfl)) dX3_place_30 ⟨Nat.zero_le _, Nat.zero_le _⟩)) (fun r_6 h_5 => ?_)
            obtain rfl : r_6 = bI (ahM μ.2 (nI i) e9) := h_5
            refine lv_if_eq (tgt := 40) hx hb dX3_place_33 (by decide) (fun c_7 => ?_) (fun c_7 => ?_)
            · skip
              replace c_7 := bI_0.mp c_7
              refine lv_iconst (v := 0) hx hb dX3_place_40 (by decide) ?_
              refine lv_iadd hx hb dX3_place_41 ?_
              refine lv_istore_n (lv' := [(2, .int ((nI (ct (plP μ e9) i) + 0))), (0, .ref (gA g 4)), (1, .int e9), (3, .int (nI i))]) hx hb dX3_place_42 rfl hl (by decide) rfl (fun ls hl => ?_)
              refine lv_iinc (v := nI (i + 1)) (lv' := [(3, .int (nI (i + 1))), (2, .int ((nI (ct (plP μ e9) i) + 0))), (0, .ref (gA g 4)), (1, .int e9)]) hx hb dX3_place_43 hl (k := 3) rfl (nI_1 _) (by decide) rfl (fun ls hl => ?_)
              refine lv_goto (tgt := 4) hx hb dX3_place_46 (by decide) ?_
              have hct : nI (ct (plP μ e9) (i + 1)) = nI (ct (plP μ e9) i) + 0 := by rw [ct_f (by simp [plP, thM, c_3, c_4, c_7]), Int32.add_zero]
              exact ih (i + 1) (by omega) (by omega) trivial ls (by rw [hct]; exact lv_sub hl [2, 3, 1, 0] rfl)
            · skip
              replace c_7 := bI_n0.mp c_7
              refine lv_iconst (v := 1) hx hb dX3_place_36 (by decide) ?_
              refine lv_goto (tgt := 41) hx hb dX3_place_37 (by decide) ?_
              refine lv_iadd hx hb dX3_place_41 ?_
              refine lv_istore_n (lv' := [(2, .int ((nI (ct (plP μ e9) i) + 1))), (0, .ref (gA g 4)), (1, .int e9), (3, .int (nI i))]) hx hb dX3_place_42 rfl hl (by decide) rfl (fun ls hl => ?_)
              refine lv_iinc (v := nI (i + 1)) (lv' := [(3, .int (nI (i + 1))), (2, .int ((nI (ct (plP μ e9) i) + 1))), (0, .ref (gA g 4)), (1, .int e9)]) hx hb dX3_place_43 hl (k := 3) rfl (nI_1 _) (by decide) rfl (fun ls hl => ?_)
              refine lv_goto (tgt := 4) hx hb dX3_place_46 (by decide) ?_
              have hct : nI (ct (plP μ e9) (i + 1)) = nI (ct (plP μ e9) i) + 1 := by rw [ct_t (by simp [plP, thM, c_3, c_4, c_7])]; exact (nI_1 _).symm
              exact ih (i + 1) (by omega) (by omega) trivial ls (by rw [hct]; exact lv_sub hl [2, 3, 1, 0] rfl)
  exact loop_1 (a + 1) 0 (Nat.zero_le _) (by omega) trivial ls (by exact lv_sub hl [2, 3, 1, 0] rfl)
