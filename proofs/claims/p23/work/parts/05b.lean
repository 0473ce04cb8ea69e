set_option maxHeartbeats 4000000 in
set_option maxRecDepth 100000 in
theorem mtX1_isBad (l : Launch) (g : Ge) (σ : Sg) (μ : Mg) (o : Nat → Int64) (j : Nat) (hj : j < 16) : Met l yX1_isBad wsX1_isBad ({ frames := 0, cells := 0, slots := 0, locals := 0 } : Room) (va_Pc [.ref (gA g (13 + j))] (PW g σ μ o)) (vp_Si (fun r => r = bI (bad (σ.2.1 j)))) 0 0 (fun _ => False) := by
  refine Met.ofW (cc := cX1_isBad) (maxL := 1) (ret := (some .boolean)) (by decide) rfl ?_
  intro p e s m args below meth c s₁ B hml hv
  obtain ⟨rfl, hC, hW⟩ := hv
  have hx := B.exec
  have hb := B.bytes
  have hr := B.returns
  have hts := atoms_spec (ws := wsX1_isBad) B.pre
  have hown : s.vm.findClass RX1 = some m.cls := findClass_of_methodNamed B.named
  have hlocks := B.notSynchronized
  have hinX1 : ∀ w ∈ wsX10, w ∈ wsX1_isBad := by decide +kernel
  have hS : va_S (Az g) s.heap s.heap [] := va_S.rf
  have hl := lv_entry ([.ref (gA g (13 + j))]) (n := 1) (Nat.le_of_ble_eq_true rfl)
  rw [lg_entry_eq]
  generalize (lg_sl ([.ref (gA g (13 + j))]) ++ List.replicate (1 - (lg_sl ([.ref (gA g (13 + j))])).length) Slot.unset).toArray = ls at hl ⊢
  have hl : lv_has ls 1 [(0, .ref (gA g (13 + j)))] := hl
  refine lv_aload_n hx hb dX1_isBad_0 rfl (lv_at hl 0 rfl) ?_
  refine gE (v := .int (σ.2.1 j 7)) hx hb hts hinX1 hown hC hW hj 7 (by decide) (by decide +kernel) rfl rfl dX1_isBad_1 ?_
  refine lv_if_ne (tgt := 11) hx hb dX1_isBad_4 (by decide) (fun c_1 => ?_) (fun c_1 => ?_)
  · skip
    refine lv_iconst (v := 0) hx hb dX1_isBad_11 (by decide) ?_
    exact W.zret (v := 0) (ty := .boolean) hx hb hr rfl (fun t ht hW9 => ⟨_, rfl, by simp [bad, bI, c_1], ht⟩) (fun q h => by cases h) dX1_isBad_12
  · skip
    refine lv_iconst (v := 1) hx hb dX1_isBad_7 (by decide) ?_
    refine lv_goto (tgt := 12) hx hb dX1_isBad_8 (by decide) ?_
    exact W.zret (v := 1) (ty := .boolean) hx hb hr rfl (fun t ht hW9 => ⟨_, rfl, by simp [bad, bI, c_1], ht⟩) (fun q h => by cases h) dX1_isBad_12
set_option maxHeartbeats 4000000 in
set_option maxRecDepth 100000 in
theorem mtX1_compareVersion (l : Launch) (g : Ge) (σ : Sg) (μ : Mg) (o : Nat → Int64) (j k : Nat) (hj : j < 16) (hk : k < 16) : Met l yX1_compareVersion wsX1_compareVersion ({ frames := 1, cells := 0, slots := 0, locals := 21 } : Room) (va_Pc [.ref (gA g (13 + j)), .ref (gA g (13 + k))] (PW g σ μ o)) (vp_Si (fun r => r = cv (σ.2.1 j) (σ.2.1 k))) 0 0 (fun _ => False) := by
  refine Met.ofW (cc := cX1_compareVersion) (maxL := 2) (ret := (some .int)) (by decide) rfl ?_
  intro p e s m args below meth c s₁ B hml hv
  obtain ⟨rfl, hC, hW⟩ := hv
  have hx := B.exec
  have hb := B.bytes
  have hr := B.returns
  have hts := atoms_spec (ws := wsX1_compareVersion) B.pre
  have hown : s.vm.findClass RX1 = some m.cls := findClass_of_methodNamed B.named
  have hlocks := B.notSynchronized
  have hinX1 : ∀ w ∈ wsX10, w ∈ wsX1_compareVersion := by decide +kernel
  have hS : va_S (Az g) s.heap s.heap [] := va_S.rf
  have hl := lv_entry ([.ref (gA g (13 + j)), .ref (gA g (13 + k))]) (n := 2) (Nat.le_of_ble_eq_true rfl)
  rw [lg_entry_eq]
  generalize (lg_sl ([.ref (gA g (13 + j)), .ref (gA g (13 + k))]) ++ List.replicate (2 - (lg_sl ([.ref (gA g (13 + j)), .ref (gA g (13 + k))])).length) Slot.unset).toArray = ls at hl ⊢
  have hl : lv_has ls 2 [(0, .ref (gA g (13 + j))), (1, .ref (gA g (13 + k)))] := hl
  refine lv_aload_n hx hb dX1_compareVersion_0 rfl (lv_at hl 0 rfl) ?_
  refine gE (v := .int (σ.2.1 j 4)) hx hb hts hinX1 hown hC hW hj 4 (by decide) (by decide +kernel) rfl rfl dX1_compareVersion_1 ?_
  refine lv_aload_n hx hb dX1_compareVersion_4 rfl (lv_at hl 1 rfl) ?_
  refine gE (v := .int (σ.2.1 k 4)) hx hb hts hinX1 hown hC hW hk 4 (by decide) (by decide +kernel) rfl rfl dX1_compareVersion_5 ?_
  refine lv_icmp_eq (tgt := 28) hx hb dX1_compareVersion_8 (by decide) (fun c_1 => ?_) (fun c_1 => ?_)
  · skip
    refine lv_aload_n hx hb dX1_compareVersion_28 rfl (lv_at hl 0 rfl) ?_
    refine gE (v := .int (σ.2.1 j 5)) hx hb hts hinX1 hown hC hW hj 5 (by decide) (by decide +kernel) rfl rfl dX1_compareVersion_29 ?_
    refine lv_aload_n hx hb dX1_compareVersion_32 rfl (lv_at hl 1 rfl) ?_
    refine gE (v := .int (σ.2.1 k 5)) hx hb hts hinX1 hown hC hW hk 5 (by decide) (by decide +kernel) rfl rfl dX1_compareVersion_33 ?_
    refine vp_callSi (va_Run.run (va_runS (As := [.int (σ.2.1 j 5), .int (σ.2.1 k 5)]) (rest := []) ⟨hx, hb, hml, hown, hts⟩ (mtJ6_compare_7cf53 l (σ.2.1 j 5) (σ.2.1 k 5)) (va_cwS 2 hts gX1_compareVersion_J6_compare_7cf53 rfl rfl rfl (by decide +kernel) ⟨Nat.le_of_ble_eq_true rfl, Nat.le_of_ble_eq_true rfl⟩) ⟨P0.blind, fun U hU hW9 => ⟨rfl, trivial⟩⟩ rfl rfl hl.1 rfl (lv_room (Nat.le_of_ble_eq_true rfl)) dX1_compareVersion_36 ⟨Nat.zero_le _, Nat.zero_le _⟩)) (fun r_3 h_2 => ?_)
    obtain rfl : r_3 = icp (σ.2.1 j 5) (σ.2.1 k 5) := h_2
    exact W.iret (v := (icp (σ.2.1 j 5) (σ.2.1 k 5))) hx hb hr (fun t ht hW9 => ⟨_, rfl, by simp [cv, bI, c_1], ht⟩) (fun q h => by cases h) dX1_compareVersion_39
  · skip
    refine lv_aload_n hx hb dX1_compareVersion_11 rfl (lv_at hl 0 rfl) ?_
    refine gE (v := .int (σ.2.1 j 4)) hx hb hts hinX1 hown hC hW hj 4 (by decide) (by decide +kernel) rfl rfl dX1_compareVersion_12 ?_
    refine lv_aload_n hx hb dX1_compareVersion_15 rfl (lv_at hl 1 rfl) ?_
    refine gE (v := .int (σ.2.1 k 4)) hx hb hts hinX1 hown hC hW hk 4 (by decide) (by decide +kernel) rfl rfl dX1_compareVersion_16 ?_
    refine lv_icmp_le (tgt := 26) hx hb dX1_compareVersion_19 (by decide) (fun c_4 => ?_) (fun c_4 => ?_)
    · skip
      refine lv_iconst (v := (-1)) hx hb dX1_compareVersion_26 (by decide) ?_
      exact W.iret (v := (-1)) hx hb hr (fun t ht hW9 => ⟨_, rfl, by simp [cv, bI, c_1, c_4], ht⟩) (fun q h => by cases h) dX1_compareVersion_27
    · skip
      refine lv_iconst (v := 1) hx hb dX1_compareVersion_22 (by decide) ?_
      refine lv_goto (tgt := 27) hx hb dX1_compareVersion_23 (by decide) ?_
      exact W.iret (v := 1) hx hb hr (fun t ht hW9 => ⟨_, rfl, by simp [cv, bI, c_1, c_4], ht⟩) (fun q h => by cases h) dX1_compareVersion_27
set_option maxHeartbeats 4000000 in
set_option maxRecDepth 100000 in
theorem mtX1_isAheadOf (l : Launch) (g : Ge) (σ : Sg) (μ : Mg) (o : Nat → Int64) (j k : Nat) (hj : j < 16) (hk : k < 16) : Met l yX1_isAheadOf wsX1_isAheadOf ({ frames := 2, cells := 0, slots := 0, locals := 42 } : Room) (va_Pc [.ref (gA g (13 + j)), .ref (gA g (13 + k))] (PW g σ μ o)) (vp_Si (fun r => r = bI (ah (σ.2.1 j) (σ.2.1 k)))) 0 0 (fun _ => False) := by
  refine Met.ofW (cc := cX1_isAheadOf) (maxL := 3) (ret := (some .boolean)) (by decide) rfl ?_
  intro p e s m args below meth c s₁ B hml hv
  obtain ⟨rfl, hC, hW⟩ := hv
  have hx := B.exec
  have hb := B.bytes
  have hr := B.returns
  have hts := atoms_spec (ws := wsX1_isAheadOf) B.pre
  have hown : s.vm.findClass RX1 = some m.cls := findClass_of_methodNamed B.named
  have hlocks := B.notSynchronized
  have hinX1 : ∀ w ∈ wsX10, w ∈ wsX1_isAheadOf := by decide +kernel
  have hS : va_S (Az g) s.heap s.heap [] := va_S.rf
  have hl := lv_entry ([.ref (gA g (13 + j)), .ref (gA g (13 + k))]) (n := 3) (Nat.le_of_ble_eq_true rfl)
  rw [lg_entry_eq]
  generalize (lg_sl ([.ref (gA g (13 + j)), .ref (gA g (13 + k))]) ++ List.replicate (3 - (lg_sl ([.ref (gA g (13 + j)), .ref (gA g (13 + k))])).length) Slot.unset).toArray = ls at hl ⊢
  have hl : lv_has ls 3 [(0, .ref (gA g (13 + j))), (1, .ref (gA g (13 + k)))] := hl
  refine lv_aload_n hx hb dX1_isAheadOf_0 rfl (lv_at hl 0 rfl) ?_
  refine vp_callSi (va_Run.run (va_runV (As := []) (rest := []) ⟨hx, hb, hml, hown, hts⟩ (mtX1_isBad l g σ μ o j hj) (cwV 0 hts gX1_isAheadOf_X1_isBad rfl rfl rfl (by decide +kernel) ⟨Nat.le_of_ble_eq_true rfl, Nat.le_of_ble_eq_true rfl⟩) ⟨PW.blind, rcE hC hW hj, fun U hU hW9 => ⟨rfl, PW.at hC hS hW U hU hW9⟩⟩ rfl rfl hl.1 rfl (lv_room (Nat.le_of_ble_eq_true rfl)) dX1_isAheadOf_1 ⟨Nat.zero_le _, Nat.zero_le _⟩)) (fun r_2 h_1 => ?_)
  obtain rfl : r_2 = bI (bad (σ.2.1 j)) := h_1
  refine lv_aload_n hx hb dX1_isAheadOf_4 rfl (lv_at hl 1 rfl) ?_
  refine vp_callSi (va_Run.run (va_runV (As := []) (rest := [.int ((bI (bad (σ.2.1 j))))]) ⟨hx, hb, hml, hown, hts⟩ (mtX1_isBad l g σ μ o k hk) (cwV 0 hts gX1_isAheadOf_X1_isBad rfl rfl rfl (by decide +kernel) ⟨Nat.le_of_ble_eq_true rfl, Nat.le_of_ble_eq_true rfl⟩) ⟨PW.blind, rcE hC hW hk, fun U hU hW9 => ⟨rfl, PW.at hC hS hW U hU hW9⟩⟩ rfl rfl hl.1 rfl (lv_room (Nat.le_of_ble_eq_true rfl)) dX1_isAheadOf_5 ⟨Nat.zero_le _, Nat.zero_le _⟩)) (fun r_4 h_3 => ?_)
  obtain rfl : r_4 = bI (bad (σ.2.1 k)) := h_3
  refine lv_icmp_eq (tgt := 16) hx hb dX1_isAheadOf_8 (by decide) (fun c_5 => ?_) (fun c_5 => ?_)
  · skip
    refine lv_aload_n hx hb dX1_isAheadOf_16 rfl (lv_at hl 0 rfl) ?_
    refine gE (v := .int (σ.2.1 j 2)) hx hb hts hinX1 hown hC hW hj 2 (by decide) (by decide +kernel) rfl rfl dX1_isAheadOf_17 ?_
    refine lv_aload_n hx hb dX1_isAheadOf_20 rfl (lv_at hl 1 rfl) ?_
    refine gE (v := .int (σ.2.1 k 2)) hx hb hts hinX1 hown hC hW hk 2 (by decide) (by decide +kernel) rfl rfl dX1_isAheadOf_21 ?_
    refine lv_icmp_eq (tgt := 44) hx hb dX1_isAheadOf_24 (by decide) (fun c_6 => ?_) (fun c_6 => ?_)
    · skip
      refine lv_aload_n hx hb dX1_isAheadOf_44 rfl (lv_at hl 0 rfl) ?_
      refine lv_aload_n hx hb dX1_isAheadOf_45 rfl (lv_at hl 1 rfl) ?_
      refine vp_callSi (va_Run.run (va_runV (As := [.ref (gA g (13 + k))]) (rest := []) ⟨hx, hb, hml, hown, hts⟩ (mtX1_compareVersion l g σ μ o j k hj hk) (cwV 1 hts gX1_isAheadOf_X1_compareVersion rfl rfl rfl (by decide +kernel) ⟨Nat.le_of_ble_eq_true rfl, Nat.le_of_ble_eq_true rfl⟩) ⟨PW.blind, rcE hC hW hj, fun U hU hW9 => ⟨rfl, PW.at hC hS hW U hU hW9⟩⟩ rfl rfl hl.1 rfl (lv_room (Nat.le_of_ble_eq_true rfl)) dX1_isAheadOf_46 ⟨Nat.zero_le _, Nat.zero_le _⟩)) (fun r_8 h_7 => ?_)
      obtain rfl : r_8 = cv (σ.2.1 j) (σ.2.1 k) := h_7
      refine lv_istore_n (lv' := [(2, .int ((cv (σ.2.1 j) (σ.2.1 k)))), (0, .ref (gA g (13 + j))), (1, .ref (gA g (13 + k)))]) hx hb dX1_isAheadOf_49 rfl hl (by decide) rfl (fun ls hl => ?_)
      refine lv_iload_n hx hb dX1_isAheadOf_50 rfl (lv_at hl 0 rfl) ?_
      refine lv_if_eq (tgt := 64) hx hb dX1_isAheadOf_51 (by decide) (fun c_9 => ?_) (fun c_9 => ?_)
      · skip
        refine lv_aload_n hx hb dX1_isAheadOf_64 rfl (lv_at hl 1 rfl) ?_
        refine gE (v := .int (σ.2.1 j 3)) hx hb hts hinX1 hown hC hW hj 3 (by decide) (by decide +kernel) rfl rfl dX1_isAheadOf_65 ?_
        refine lv_aload_n hx hb dX1_isAheadOf_68 rfl (lv_at hl 2 rfl) ?_
        refine gE (v := .int (σ.2.1 k 3)) hx hb hts hinX1 hown hC hW hk 3 (by decide) (by decide +kernel) rfl rfl dX1_isAheadOf_69 ?_
        refine lv_icmp_eq (tgt := 92) hx hb dX1_isAheadOf_72 (by decide) (fun c_10 => ?_) (fun c_10 => ?_)
        · skip
          refine lv_aload_n hx hb dX1_isAheadOf_92 rfl (lv_at hl 1 rfl) ?_
          refine gE (v := .int (σ.2.1 j 1)) hx hb hts hinX1 hown hC hW hj 1 (by decide) (by decide +kernel) rfl rfl dX1_isAheadOf_93 ?_
          refine lv_aload_n hx hb dX1_isAheadOf_96 rfl (lv_at hl 2 rfl) ?_
          refine gE (v := .int (σ.2.1 k 1)) hx hb hts hinX1 hown hC hW hk 1 (by decide) (by decide +kernel) rfl rfl dX1_isAheadOf_97 ?_
          refine lv_icmp_ge (tgt := 107) hx hb dX1_isAheadOf_100 (by decide) (fun c_11 => ?_) (fun c_11 => ?_)
          · skip
            refine lv_iconst (v := 0) hx hb dX1_isAheadOf_107 (by decide) ?_
            exact W.zret (v := 0) (ty := .boolean) hx hb hr rfl (fun t ht hW9 => ⟨_, rfl, by unfold ah; simp [bI_t, bI_f, c_5, c_6, c_9, c_10, c_11], ht⟩) (fun q h => by cases h) dX1_isAheadOf_108
          · skip
            refine lv_iconst (v := 1) hx hb dX1_isAheadOf_103 (by decide) ?_
            refine lv_goto (tgt := 108) hx hb dX1_isAheadOf_104 (by decide) ?_
            exact W.zret (v := 1) (ty := .boolean) hx hb hr rfl (fun t ht hW9 => ⟨_, rfl, by unfold ah; simp [bI_t, bI_f, c_5, c_6, c_9, c_10, c_11], ht⟩) (fun q h => by cases h) dX1_isAheadOf_108
        · skip
          refine lv_aload_n hx hb dX1_isAheadOf_75 rfl (lv_at hl 1 rfl) ?_
          refine gE (v := .int (σ.2.1 j 3)) hx hb hts hinX1 hown hC hW hj 3 (by decide) (by decide +kernel) rfl rfl dX1_isAheadOf_76 ?_
          refine lv_aload_n hx hb dX1_isAheadOf_79 rfl (lv_at hl 2 rfl) ?_
          refine gE (v := .int (σ.2.1 k 3)) hx hb hts hinX1 hown hC hW hk 3 (by decide) (by decide +kernel) rfl rfl dX1_isAheadOf_80 ?_
          refine lv_icmp_ge (tgt := 90) hx hb dX1_isAheadOf_83 (by decide) (fun c_12 => ?_) (fun c_12 => ?_)
          · skip
            refine lv_iconst (v := 0) hx hb dX1_isAheadOf_90 (by decide) ?_
            exact W.zret (v := 0) (ty := .boolean) hx hb hr rfl (fun t ht hW9 => ⟨_, rfl, by unfold ah; simp [bI_t, bI_f, c_5, c_6, c_9, c_10, c_12], ht⟩) (fun q h => by cases h) dX1_isAheadOf_91
          · skip
            refine lv_iconst (v := 1) hx hb dX1_isAheadOf_86 (by decide) ?_
            refine lv_goto (tgt := 91) hx hb dX1_isAheadOf_87 (by decide) ?_
            exact W.zret (v := 1) (ty := .boolean) hx hb hr rfl (fun t ht hW9 => ⟨_, rfl, by unfold ah; simp [bI_t, bI_f, c_5, c_6, c_9, c_10, c_12], ht⟩) (fun q h => by cases h) dX1_isAheadOf_91
      · skip
        refine lv_iload_n hx hb dX1_isAheadOf_54 rfl (lv_at hl 0 rfl) ?_
        refine lv_if_le (tgt := 62) hx hb dX1_isAheadOf_55 (by decide) (fun c_13 => ?_) (fun c_13 => ?_)
        · skip
          refine lv_iconst (v := 0) hx hb dX1_isAheadOf_62 (by decide) ?_
          exact W.zret (v := 0) (ty := .boolean) hx hb hr rfl (fun t ht hW9 => ⟨_, rfl, by unfold ah; simp [bI_t, bI_f, c_5, c_6, c_9, c_13], ht⟩) (fun q h => by cases h) dX1_isAheadOf_63
        · skip
          refine lv_iconst (v := 1) hx hb dX1_isAheadOf_58 (by decide) ?_
          refine lv_goto (tgt := 63) hx hb dX1_isAheadOf_59 (by decide) ?_
          exact W.zret (v := 1) (ty := .boolean) hx hb hr rfl (fun t ht hW9 => ⟨_, rfl, by unfold ah; simp [bI_t, bI_f, c_5, c_6, c_9, c_13], ht⟩) (fun q h => by cases h) dX1_isAheadOf_63
    · skip
      refine lv_aload_n hx hb dX1_isAheadOf_27 rfl (lv_at hl 0 rfl) ?_
      refine gE (v := .int (σ.2.1 j 2)) hx hb hts hinX1 hown hC hW hj 2 (by decide) (by decide +kernel) rfl rfl dX1_isAheadOf_28 ?_
      refine lv_aload_n hx hb dX1_isAheadOf_31 rfl (lv_at hl 1 rfl) ?_
      refine gE (v := .int (σ.2.1 k 2)) hx hb hts hinX1 hown hC hW hk 2 (by decide) (by decide +kernel) rfl rfl dX1_isAheadOf_32 ?_
      refine lv_icmp_ge (tgt := 42) hx hb dX1_isAheadOf_35 (by decide) (fun c_14 => ?_) (fun c_14 => ?_)
      · skip
        refine lv_iconst (v := 0) hx hb dX1_isAheadOf_42 (by decide) ?_
        exact W.zret (v := 0) (ty := .boolean) hx hb hr rfl (fun t ht hW9 => ⟨_, rfl, by unfold ah; simp [bI_t, bI_f, c_5, c_6, c_14], ht⟩) (fun q h => by cases h) dX1_isAheadOf_43
      · skip
        refine lv_iconst (v := 1) hx hb dX1_isAheadOf_38 (by decide) ?_
        refine lv_goto (tgt := 43) hx hb dX1_isAheadOf_39 (by decide) ?_
        exact W.zret (v := 1) (ty := .boolean) hx hb hr rfl (fun t ht hW9 => ⟨_, rfl, by unfold ah; simp [bI_t, bI_f, c_5, c_6, c_14], ht⟩) (fun q h => by cases h) dX1_isAheadOf_43
  · skip
    refine lv_aload_n hx hb dX1_isAheadOf_11 rfl (lv_at hl 1 rfl) ?_
    refine vp_callSi (va_Run.run (va_runV (As := []) (rest := []) ⟨hx, hb, hml, hown, hts⟩ (mtX1_isBad l g σ μ o k hk) (cwV 0 hts gX1_isAheadOf_X1_isBad rfl rfl rfl (by decide +kernel) ⟨Nat.le_of_ble_eq_true rfl, Nat.le_of_ble_eq_true rfl⟩) ⟨PW.blind, rcE hC hW hk, fun U hU hW9 => ⟨rfl, PW.at hC hS hW U hU hW9⟩⟩ rfl rfl hl.1 rfl (lv_room (Nat.le_of_ble_eq_true rfl)) dX1_isAheadOf_12 ⟨Nat.zero_le _, Nat.zero_le _⟩)) (fun r_16 h_15 => ?_)
    obtain rfl : r_16 = bI (bad (σ.2.1 k)) := h_15
    exact W.zret (v := (bI (bad (σ.2.1 k)))) (ty := .boolean) hx hb hr (bI_nar _) (fun t ht hW9 => ⟨_, rfl, by unfold ah; simp [bI_t, bI_f, c_5], ht⟩) (fun q h => by cases h) dX1_isAheadOf_15
