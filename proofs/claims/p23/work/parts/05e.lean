set_option maxHeartbeats 4000000 in
set_option maxRecDepth 100000 in
theorem mtX2_firstFittingNotBad (l : Launch) (g : Ge) (σ : Sg) (μ : Mg) (o : Nat → Int64)  : Met l yX2_firstFittingNotBad wsX2_firstFittingNotBad ({ frames := 3, cells := 0, slots := 0, locals := 64 } : Room) (va_Pc [.ref (gA g 0)] (PW g σ μ o)) (va_Sq (fun r => r = (ff σ.2.1 (pC σ) 16).map (fun j => gA g (13 + j)))) 0 0 (fun _ => False) := by
  refine Met.ofW (cc := cX2_firstFittingNotBad) (maxL := 6) (ret := (some (.object "BootChooser$Entry"))) (by decide) rfl ?_
  intro p e s m args below meth c s₁ B hml hv
  obtain ⟨rfl, hC, hW⟩ := hv
  have hx := B.exec
  have hb := B.bytes
  have hr := B.returns
  have hts := atoms_spec (ws := wsX2_firstFittingNotBad) B.pre
  have hown : s.vm.findClass RX2 = some m.cls := findClass_of_methodNamed B.named
  have hlocks := B.notSynchronized
  have hinX1 : ∀ w ∈ wsX10, w ∈ wsX2_firstFittingNotBad := by decide +kernel
  have hinX2 : ∀ w ∈ wsX20, w ∈ wsX2_firstFittingNotBad := by decide +kernel
  have hS : va_S (Az g) s.heap s.heap [] := va_S.rf
  have hl := lv_entry ([.ref (gA g 0)]) (n := 6) (Nat.le_of_ble_eq_true rfl)
  rw [lg_entry_eq]
  generalize (lg_sl ([.ref (gA g 0)]) ++ List.replicate (6 - (lg_sl ([.ref (gA g 0)])).length) Slot.unset).toArray = ls at hl ⊢
  have hl : lv_has ls 6 [(0, .ref (gA g 0))] := hl
  refine lv_null hx hb dX2_firstFittingNotBad_0 ?_
  refine lv_astore_nN (lv' := [(1, .null), (0, .ref (gA g 0))]) hx hb dX2_firstFittingNotBad_1 rfl hl (by decide) rfl (fun ls hl => ?_)
  refine lv_aload_n hx hb dX2_firstFittingNotBad_2 rfl (lv_at hl 1 rfl) ?_
  refine gB (v := .ref (gA g 1)) hx hb hts hinX2 hown hC hW 0 (by decide) (by decide +kernel) rfl rfl dX2_firstFittingNotBad_3 ?_
  refine lv_astore_n (lv' := [(2, .ref (gA g 1)), (1, .null), (0, .ref (gA g 0))]) hx hb dX2_firstFittingNotBad_6 rfl hl (by decide) rfl (fun ls hl => ?_)
  refine lv_aload_n hx hb dX2_firstFittingNotBad_7 rfl (lv_at hl 0 rfl) ?_
  refine rLen hx hb hC hW dX2_firstFittingNotBad_8 ?_
  refine lv_istore_n (lv' := [(3, .int 16), (2, .ref (gA g 1)), (1, .null), (0, .ref (gA g 0))]) hx hb dX2_firstFittingNotBad_9 rfl hl (by decide) rfl (fun ls hl => ?_)
  refine lv_iconst (v := 0) hx hb dX2_firstFittingNotBad_10 (by decide) ?_
  refine lv_istore (lv' := [(4, .int 0), (3, .int 16), (2, .ref (gA g 1)), (1, .null), (0, .ref (gA g 0))]) hx hb dX2_firstFittingNotBad_11 hl (by decide) rfl (fun ls hl => ?_)
  have loop_1 : ∀ (n9 i : Nat), i ≤ 16 → 16 < i + n9 → ∀ (ls : Array Slot), lv_has ls 6 [(0, .ref (gA g 0)), (1, va_rf ((ff σ.2.1 (pC σ) i).map (fun j => gA g (13 + j)))), (2, .ref (gA g 1)), (3, .int 16), (4, .int (nI i))] → W p l e (headSpec wsX2_firstFittingNotBad ({ frames := 3, cells := 0, slots := 0, locals := 64 } : Room)).room s m ([.ref (gA g 0)] : List Value).toArray below meth c s.heap [] 0 0 (MQ below (va_Sq (fun r => r = (ff σ.2.1 (pC σ) 16).map (fun j => gA g (13 + j)))) ([.ref (gA g 0)] : List Value).toArray s 0 0 (fun _ => False)) (F0 m 13 ls []) := by
    intro n9
    induction n9 with
    | zero =>
      intro i h1 h2
      exact absurd h2 (by omega)
    | succ n9 ih =>
      intro i hi hin ls hl
      cases hff : ff σ.2.1 (pC σ) i with
      | none =>
        rw [hff] at hl
        have hl : lv_has ls 6 [(0, .ref (gA g 0)), (1, .null), (2, .ref (gA g 1)), (3, .int 16), (4, .int (nI i))] := hl
        refine lv_iload hx hb dX2_firstFittingNotBad_13 (lv_at hl 4 rfl) ?_
        refine lv_iload_n hx hb dX2_firstFittingNotBad_15 rfl (lv_at hl 3 rfl) ?_
        refine lv_icmp_ge (tgt := 72) hx hb dX2_firstFittingNotBad_16 (by decide) (fun c_1 => ?_) (fun c_1 => ?_)
        · skip
          have hi16 : i = 16 := (nI16_le hi).mp c_1
          refine lv_aload_nN hx hb dX2_firstFittingNotBad_72 rfl (lv_at hl 1 rfl) ?_
          exact W.aret (v := va_rf none) hx hb hr (Or.inl ⟨_, rfl⟩) (va_rf_or _) (fun t ht hW9 => ⟨none, rfl, by rw [hi16] at hff; rw [hff]; rfl, ht⟩) (fun q h => by cases h) dX2_firstFittingNotBad_73
        · skip
          have hlt : i < 16 := (nI16_le_n hi).mp c_1
          refine lv_aload_n hx hb dX2_firstFittingNotBad_19 rfl (lv_at hl 2 rfl) ?_
          refine lv_iload hx hb dX2_firstFittingNotBad_20 (lv_at hl 4 rfl) ?_
          refine rLd hx hb hC hW hlt dX2_firstFittingNotBad_22 ?_
          refine lv_astore (lv' := [(5, .ref (gA g (13 + i))), (0, .ref (gA g 0)), (1, .null), (2, .ref (gA g 1)), (3, .int 16), (4, .int (nI i))]) hx hb dX2_firstFittingNotBad_23 hl (by decide) rfl (fun ls hl => ?_)
          refine lv_aload hx hb dX2_firstFittingNotBad_25 (lv_at hl 0 rfl) ?_
          refine gEn (v := .int (σ.2.1 i 0)) hx hb hts hinX1 hown hC hW hlt 0 (by decide) (by decide +kernel) rfl rfl dX2_firstFittingNotBad_27 ?_
          refine lv_if_eq (tgt := 66) hx hb dX2_firstFittingNotBad_30 (by decide) (fun c_2 => ?_) (fun c_2 => ?_)
          · skip
            refine lv_iinc (v := nI (i + 1)) (lv' := [(4, .int (nI (i + 1))), (5, .ref (gA g (13 + i))), (0, .ref (gA g 0)), (1, .null), (2, .ref (gA g 1)), (3, .int 16)]) hx hb dX2_firstFittingNotBad_66 hl (k := 5) rfl (nI_1 _) (by decide) rfl (fun ls hl => ?_)
            refine lv_goto (tgt := 13) hx hb dX2_firstFittingNotBad_69 (by decide) ?_
            have hct : ff σ.2.1 (pC σ) (i + 1) = none := (ff_f (by simp [pC, thr, bI, fb, hff, c_2])).trans hff
            exact ih (i + 1) (by omega) (by omega) ls (by rw [hct]; exact lv_sub hl [2, 3, 4, 5, 0] rfl)
          · skip
            refine lv_aload_n hx hb dX2_firstFittingNotBad_33 rfl (lv_at hl 1 rfl) ?_
            refine lv_aload hx hb dX2_firstFittingNotBad_34 (lv_at hl 0 rfl) ?_
            refine vp_callSi (va_Run.run (va_runV (As := [.ref (gA g (13 + i))]) (rest := []) ⟨hx, hb, hml, hown, hts⟩ (mtX2_isFitting l g σ μ o i hlt) (cwV 1 hts gX2_firstFittingNotBad_X2_isFitting rfl rfl rfl (by decide +kernel) ⟨Nat.le_of_ble_eq_true rfl, Nat.le_of_ble_eq_true rfl⟩) ⟨PW.blind, rcB hC hW, fun U hU hW9 => ⟨rfl, PW.at hC hS hW U hU hW9⟩⟩ rfl rfl hl.1 rfl (lv_room (Nat.le_of_ble_eq_true rfl)) dX2_firstFittingNotBad_36 ⟨Nat.zero_le _, Nat.zero_le _⟩)) (fun r_4 h_3 => ?_)
            obtain rfl : r_4 = bI (fit σ.1 (σ.2.1 i)) := h_3
            refine lv_if_eq (tgt := 66) hx hb dX2_firstFittingNotBad_39 (by decide) (fun c_5 => ?_) (fun c_5 => ?_)
            · skip
              replace c_5 := bI_0.mp c_5
              refine lv_iinc (v := nI (i + 1)) (lv' := [(4, .int (nI (i + 1))), (5, .ref (gA g (13 + i))), (0, .ref (gA g 0)), (1, .null), (2, .ref (gA g 1)), (3, .int 16)]) hx hb dX2_firstFittingNotBad_66 hl (k := 5) rfl (nI_1 _) (by decide) rfl (fun ls hl => ?_)
              refine lv_goto (tgt := 13) hx hb dX2_firstFittingNotBad_69 (by decide) ?_
              have hct : ff σ.2.1 (pC σ) (i + 1) = none := (ff_f (by simp [pC, thr, bI, fb, hff, c_2, c_5])).trans hff
              exact ih (i + 1) (by omega) (by omega) ls (by rw [hct]; exact lv_sub hl [2, 3, 4, 5, 0] rfl)
            · skip
              replace c_5 := bI_n0.mp c_5
              refine lv_aload hx hb dX2_firstFittingNotBad_42 (lv_at hl 0 rfl) ?_
              refine vp_callSi (va_Run.run (va_runVN (As := []) (rest := []) ⟨hx, hb, hml, hown, hts⟩ (mtX1_isBad l g σ μ o i hlt) ⟨(va_cnB (host := "BootChooser") 0 hts gX2_firstFittingNotBad_X1_isBad_n176 rfl rfl rfl (va_Nw.of (A := #[]) rfl (hC.2.1.nest (w := .methodLinkNest RX2 176 yX1_isBad "BootChooser") (by decide +kernel) rfl)) (hts (.initialized RX1) (by decide +kernel)) (by decide +kernel) ⟨Nat.le_of_ble_eq_true rfl, Nat.le_of_ble_eq_true rfl⟩), (hts (.instanceMethod yX1_isBad) (by decide +kernel)), (hts (.selects RX1 yX1_isBad yX1_isBad) (by decide +kernel))⟩ ⟨PW.blind, rcE hC hW hlt, fun U hU hW9 => ⟨rfl, PW.at hC hS hW U hU hW9⟩⟩ rfl rfl hl.1 rfl (lv_room (Nat.le_of_ble_eq_true rfl)) dX2_firstFittingNotBad_44 ⟨Nat.zero_le _, Nat.zero_le _⟩)) (fun r_7 h_6 => ?_)
              obtain rfl : r_7 = bI (bad (σ.2.1 i)) := h_6
              refine lv_if_ne (tgt := 66) hx hb dX2_firstFittingNotBad_47 (by decide) (fun c_8 => ?_) (fun c_8 => ?_)
              · skip
                replace c_8 := bI_n0.mp c_8
                refine lv_iinc (v := nI (i + 1)) (lv' := [(4, .int (nI (i + 1))), (5, .ref (gA g (13 + i))), (0, .ref (gA g 0)), (1, .null), (2, .ref (gA g 1)), (3, .int 16)]) hx hb dX2_firstFittingNotBad_66 hl (k := 5) rfl (nI_1 _) (by decide) rfl (fun ls hl => ?_)
                refine lv_goto (tgt := 13) hx hb dX2_firstFittingNotBad_69 (by decide) ?_
                have hct : ff σ.2.1 (pC σ) (i + 1) = none := (ff_f (by simp [pC, thr, bI, fb, hff, c_2, c_5, c_8])).trans hff
                exact ih (i + 1) (by omega) (by omega) ls (by rw [hct]; exact lv_sub hl [2, 3, 4, 5, 0] rfl)
              · skip
                replace c_8 := bI_0.mp c_8
                refine lv_aload_nN hx hb dX2_firstFittingNotBad_50 rfl (lv_at hl 2 rfl) ?_
                refine lv_ifnullN (tgt := 63) hx hb dX2_firstFittingNotBad_51 (by decide) ?_
                refine lv_aload hx hb dX2_firstFittingNotBad_63 (lv_at hl 0 rfl) ?_
                refine lv_astore_n (lv' := [(1, .ref (gA g (13 + i))), (5, .ref (gA g (13 + i))), (0, .ref (gA g 0)), (2, .ref (gA g 1)), (3, .int 16), (4, .int (nI i))]) hx hb dX2_firstFittingNotBad_65 rfl hl (by decide) rfl (fun ls hl => ?_)
                refine lv_iinc (v := nI (i + 1)) (lv' := [(4, .int (nI (i + 1))), (1, .ref (gA g (13 + i))), (5, .ref (gA g (13 + i))), (0, .ref (gA g 0)), (2, .ref (gA g 1)), (3, .int 16)]) hx hb dX2_firstFittingNotBad_66 hl (k := 5) rfl (nI_1 _) (by decide) rfl (fun ls hl => ?_)
                refine lv_goto (tgt := 13) hx hb dX2_firstFittingNotBad_69 (by decide) ?_
                have hct : ff σ.2.1 (pC σ) (i + 1) = some i := ff_t (by simp [pC, thr, bI, fb, hff, c_2, c_5, c_8])
                exact ih (i + 1) (by omega) (by omega) ls (by rw [hct]; exact lv_sub hl [3, 1, 4, 5, 0] rfl)
      | some b9 =>
        rw [hff] at hl
        have hl : lv_has ls 6 [(0, .ref (gA g 0)), (1, .ref (gA g (13 + b9))), (2, .ref (gA g 1)), (3, .int 16), (4, .int (nI i))] := hl
        have hb9 : b9 < 16 := Nat.lt_of_lt_of_le (ff_lt hff) hi
        refine lv_iload hx hb dX2_firstFittingNotBad_13 (lv_at hl 4 rfl) ?_
        refine lv_iload_n hx hb dX2_firstFittingNotBad_15 rfl (lv_at hl 3 rfl) ?_
        refine lv_icmp_ge (tgt := 72) hx hb dX2_firstFittingNotBad_16 (by decide) (fun c_9 => ?_) (fun c_9 => ?_)
        · skip
          have hi16 : i = 16 := (nI16_le hi).mp c_9
          refine lv_aload_n hx hb dX2_firstFittingNotBad_72 rfl (lv_at hl 1 rfl) ?_
          exact W.aret (v := va_rf (some (gA g (13 + b9)))) hx hb hr (Or.inl ⟨_, rfl⟩) (va_rf_or _) (fun t ht hW9 => ⟨(some (gA g (13 + b9))), rfl, by rw [hi16] at hff; rw [hff]; rfl, ht⟩) (fun q h => by cases h) dX2_firstFittingNotBad_73
        · skip
          have hlt : i < 16 := (nI16_le_n hi).mp c_9
          refine lv_aload_n hx hb dX2_firstFittingNotBad_19 rfl (lv_at hl 2 rfl) ?_
          refine lv_iload hx hb dX2_firstFittingNotBad_20 (lv_at hl 4 rfl) ?_
          refine rLd hx hb hC hW hlt dX2_firstFittingNotBad_22 ?_
          refine lv_astore (lv' := [(5, .ref (gA g (13 + i))), (0, .ref (gA g 0)), (1, .ref (gA g (13 + b9))), (2, .ref (gA g 1)), (3, .int 16), (4, .int (nI i))]) hx hb dX2_firstFittingNotBad_23 hl (by decide) rfl (fun ls hl => ?_)
          refine lv_aload hx hb dX2_firstFittingNotBad_25 (lv_at hl 0 rfl) ?_
          refine gEn (v := .int (σ.2.1 i 0)) hx hb hts hinX1 hown hC hW hlt 0 (by decide) (by decide +kernel) rfl rfl dX2_firstFittingNotBad_27 ?_
          refine lv_if_eq (tgt := 66) hx hb dX2_firstFittingNotBad_30 (by decide) (fun c_10 => ?_) (fun c_10 => ?_)
          · skip
            refine lv_iinc (v := nI (i + 1)) (lv' := [(4, .int (nI (i + 1))), (5, .ref (gA g (13 + i))), (0, .ref (gA g 0)), (1, .ref (gA g (13 + b9))), (2, .ref (gA g 1)), (3, .int 16)]) hx hb dX2_firstFittingNotBad_66 hl (k := 5) rfl (nI_1 _) (by decide) rfl (fun ls hl => ?_)
            refine lv_goto (tgt := 13) hx hb dX2_firstFittingNotBad_69 (by decide) ?_
            have hct : ff σ.2.1 (pC σ) (i + 1) = some b9 := (ff_f (by simp [pC, thr, bI, fb, hff, c_10])).trans hff
            exact ih (i + 1) (by omega) (by omega) ls (by rw [hct]; exact lv_sub hl [2, 3, 4, 5, 0] rfl)
          · skip
            refine lv_aload_n hx hb dX2_firstFittingNotBad_33 rfl (lv_at hl 1 rfl) ?_
            refine lv_aload hx hb dX2_firstFittingNotBad_34 (lv_at hl 0 rfl) ?_
            refine vp_callSi (va_Run.run (va_runV (As := [.ref (gA g (13 + i))]) (rest := []) ⟨hx, hb, hml, hown, hts⟩ (mtX2_isFitting l g σ μ o i hlt) (cwV 1 hts gX2_firstFittingNotBad_X2_isFitting rfl rfl rfl (by decide +kernel) ⟨Nat.le_of_ble_eq_true rfl, Nat.le_of_ble_eq_true rfl⟩) ⟨PW.blind, rcB hC hW, fun U hU hW9 => ⟨rfl, PW.at hC hS hW U hU hW9⟩⟩ rfl rfl hl.1 rfl (lv_room (Nat.le_of_ble_eq_true rfl)) dX2_firstFittingNotBad_36 ⟨Nat.zero_le _, Nat.zero_le _⟩)) (fun r_12 h_11 => ?_)
            obtain rfl : r_12 = bI (fit σ.1 (σ.2.1 i)) := h_11
            refine lv_if_eq (tgt := 66) hx hb dX2_firstFittingNotBad_39 (by decide) (fun c_13 => ?_) (fun c_13 => ?_)
            · skip
              replace c_13 := bI_0.mp c_13
              refine lv_iinc (v := nI (i + 1)) (lv' := [(4, .int (nI (i + 1))), (5, .ref (gA g (13 + i))), (0, .ref (gA g 0)), (1, .ref (gA g (13 + b9))), (2, .ref (gA g 1)), (3, .int 16)]) hx hb dX2_firstFittingNotBad_66 hl (k := 5) rfl (nI_1 _) (by decide) rfl (fun ls hl => ?_)
              refine lv_goto (tgt := 13) hx hb dX2_firstFittingNotBad_69 (by decide) ?_
              have hct : ff σ.2.1 (pC σ) (i + 1) = some b9 := (ff_f (by simp [pC, thr, bI, fb, hff, c_10, c_13])).trans hff
              exact ih (i + 1) (by omega) (by omega) ls (by rw [hct]; exact lv_sub hl [2, 3, 4, 5, 0] rfl)
            · skip
              replace c_13 := bI_n0.mp c_13
              refine lv_aload hx hb dX2_firstFittingNotBad_42 (lv_at hl 0 rfl) ?_
              refine vp_callSi (va_Run.run (va_runVN (As := []) (rest := []) ⟨hx, hb, hml, hown, hts⟩ (mtX1_isBad l g σ μ o i hlt) ⟨(va_cnB (host := "BootChooser") 0 hts gX2_firstFittingNotBad_X1_isBad_n176 rfl rfl rfl (va_Nw.of (A := #[]) rfl (hC.2.1.nest (w := .methodLinkNest RX2 176 yX1_isBad "BootChooser") (by decide +kernel) rfl)) (hts (.initialized RX1) (by decide +kernel)) (by decide +kernel) ⟨Nat.le_of_ble_eq_true rfl, Nat.le_of_ble_eq_true rfl⟩), (hts (.instanceMethod yX1_isBad) (by decide +kernel)), (hts (.selects RX1 yX1_isBad yX1_isBad) (by decide +kernel))⟩ ⟨PW.blind, rcE hC hW hlt, fun U hU hW9 => ⟨rfl, PW.at hC hS hW U hU hW9⟩⟩ rfl rfl hl.1 rfl (lv_room (Nat.le_of_ble_eq_true rfl)) dX2_firstFittingNotBad_44 ⟨Nat.zero_le _, Nat.zero_le _⟩)) (fun r_15 h_14 => ?_)
              obtain rfl : r_15 = bI (bad (σ.2.1 i)) := h_14
              refine lv_if_ne (tgt := 66) hx hb dX2_firstFittingNotBad_47 (by decide) (fun c_16 => ?_) (fun c_16 => ?_)
              · skip
                replace c_16 := bI_n0.mp c_16
                refine lv_iinc (v := nI (i + 1)) (lv' := [(4, .int (nI (i + 1))), (5, .ref (gA g (13 + i))), (0, .ref (gA g 0)), (1, .ref (gA g (13 + b9))), (2, .ref (gA g 1)), (3, .int 16)]) hx hb dX2_firstFittingNotBad_66 hl (k := 5) rfl (nI_1 _) (by decide) rfl (fun ls hl => ?_)
                refine lv_goto (tgt := 13) hx hb dX2_firstFittingNotBad_69 (by decide) ?_
                have hct : ff σ.2.1 (pC σ) (i + 1) = some b9 := (ff_f (by simp [pC, thr, bI, fb, hff, c_10, c_13, c_16])).trans hff
                exact ih (i + 1) (by omega) (by omega) ls (by rw [hct]; exact lv_sub hl [2, 3, 4, 5, 0] rfl)
              · skip
                replace c_16 := bI_0.mp c_16
                refine lv_aload_n hx hb dX2_firstFittingNotBad_50 rfl (lv_at hl 2 rfl) ?_
                refine lv_ifnull hx hb dX2_firstFittingNotBad_51 ?_
                refine lv_aload hx hb dX2_firstFittingNotBad_54 (lv_at hl 0 rfl) ?_
                refine lv_aload_n hx hb dX2_firstFittingNotBad_56 rfl (lv_at hl 2 rfl) ?_
                refine vp_callSi (va_Run.run (va_runVN (As := [.ref (gA g (13 + b9))]) (rest := []) ⟨hx, hb, hml, hown, hts⟩ (mtX1_isAheadOf l g σ μ o i b9 hlt hb9) ⟨(va_cnB (host := "BootChooser") 1 hts gX2_firstFittingNotBad_X1_isAheadOf_n173 rfl rfl rfl (va_Nw.of (A := #[]) rfl (hC.2.1.nest (w := .methodLinkNest RX2 173 yX1_isAheadOf "BootChooser") (by decide +kernel) rfl)) (hts (.initialized RX1) (by decide +kernel)) (by decide +kernel) ⟨Nat.le_of_ble_eq_true rfl, Nat.le_of_ble_eq_true rfl⟩), (hts (.instanceMethod yX1_isAheadOf) (by decide +kernel)), (hts (.selects RX1 yX1_isAheadOf yX1_isAheadOf) (by decide +kernel))⟩ ⟨PW.blind, rcE hC hW hlt, fun U hU hW9 => ⟨rfl, PW.at hC hS hW U hU hW9⟩⟩ rfl rfl hl.1 rfl (lv_room (Nat.le_of_ble_eq_true rfl)) dX2_firstFittingNotBad_57 ⟨Nat.zero_le _, Nat.zero_le _⟩)) (fun r_18 h_17 => ?_)
                obtain rfl : r_18 = bI (ah (σ.2.1 i) (σ.2.1 b9)) := h_17
                refine lv_if_eq (tgt := 66) hx hb dX2_firstFittingNotBad_60 (by decide) (fun c_19 => ?_) (fun c_19 => ?_)
                · skip
                  replace c_19 := bI_0.mp c_19
                  refine lv_iinc (v := nI (i + 1)) (lv' := [(4, .int (nI (i + 1))), (5, .ref (gA g (13 + i))), (0, .ref (gA g 0)), (1, .ref (gA g (13 + b9))), (2, .ref (gA g 1)), (3, .int 16)]) hx hb dX2_firstFittingNotBad_66 hl (k := 5) rfl (nI_1 _) (by decide) rfl (fun ls hl => ?_)
                  refine lv_goto (tgt := 13) hx hb dX2_firstFittingNotBad_69 (by decide) ?_
                  have hct : ff σ.2.1 (pC σ) (i + 1) = some b9 := (ff_f (by simp [pC, thr, bI, fb, hff, c_10, c_13, c_16, c_19])).trans hff
                  exact ih (i + 1) (by omega) (by omega) ls (by rw [hct]; exact lv_sub hl [2, 3, 4, 5, 0] rfl)
                · skip
                  replace c_19 := bI_n0.mp c_19
                  refine lv_aload hx hb dX2_firstFittingNotBad_63 (lv_at hl 0 rfl) ?_
                  refine lv_astore_n (lv' := [(1, .ref (gA g (13 + i))), (5, .ref (gA g (13 + i))), (0, .ref (gA g 0)), (2, .ref (gA g 1)), (3, .int 16), (4, .int (nI i))]) hx hb dX2_firstFittingNotBad_65 rfl hl (by decide) rfl (fun ls hl => ?_)
                  refine lv_iinc (v := nI (i + 1)) (lv' := [(4, .int (nI (i + 1))), (1, .ref (gA g (13 + i))), (5, .ref (gA g (13 + i))), (0, .ref (gA g 0)), (2, .ref (gA g 1)), (3, .int 16)]) hx hb dX2_firstFittingNotBad_66 hl (k := 5) rfl (nI_1 _) (by decide) rfl (fun ls hl => ?_)
                  refine lv_goto (tgt := 13) hx hb dX2_firstFittingNotBad_69 (by decide) ?_
                  have hct : ff σ.2.1 (pC σ) (i + 1) = some i := ff_t (by simp [pC, thr, bI, fb, hff, c_10, c_13, c_16, c_19])
                  exact ih (i + 1) (by omega) (by omega) ls (by rw [hct]; exact lv_sub hl [3, 1, 4, 5, 0] rfl)
  exact loop_1 (16 + 1) 0 (Nat.zero_le _) (by omega) ls (by exact lv_sub hl [4, 3, 2, 1, 0] rfl)
set_option maxHeartbeats 4000000 in
set_option maxRecDepth 100000 in
theorem mtX2_nextEntry (l : Launch) (g : Ge) (σ : Sg) (μ : Mg) (o : Nat → Int64)  : Met l yX2_nextEntry wsX2_nextEntry ({ frames := 5, cells := 0, slots := 0, locals := 115 } : Room) (va_Pc [.ref (gA g 0)] (PW g σ μ o)) (va_Sq (fun r => r = (nx σ).map (fun j => gA g (13 + j)))) 0 0 (fun _ => False) := by
  refine Met.ofW (cc := cX2_nextEntry) (maxL := 4) (ret := (some (.object "BootChooser$Entry"))) (by decide) rfl ?_
  intro p e s m args below meth c s₁ B hml hv
  obtain ⟨rfl, hC, hW⟩ := hv
  have hx := B.exec
  have hb := B.bytes
  have hr := B.returns
  have hts := atoms_spec (ws := wsX2_nextEntry) B.pre
  have hown : s.vm.findClass RX2 = some m.cls := findClass_of_methodNamed B.named
  have hlocks := B.notSynchronized
  have hinX2 : ∀ w ∈ wsX20, w ∈ wsX2_nextEntry := by decide +kernel
  have hS : va_S (Az g) s.heap s.heap [] := va_S.rf
  have hl := lv_entry ([.ref (gA g 0)]) (n := 4) (Nat.le_of_ble_eq_true rfl)
  rw [lg_entry_eq]
  generalize (lg_sl ([.ref (gA g 0)]) ++ List.replicate (4 - (lg_sl ([.ref (gA g 0)])).length) Slot.unset).toArray = ls at hl ⊢
  have hl : lv_has ls 4 [(0, .ref (gA g 0))] := hl
  refine lv_aload_n hx hb dX2_nextEntry_0 rfl (lv_at hl 0 rfl) ?_
  refine lv_aload_n hx hb dX2_nextEntry_1 rfl (lv_at hl 0 rfl) ?_
  refine gB (v := .int (σ.1 2)) hx hb hts hinX2 hown hC hW 4 (by decide) (by decide +kernel) rfl rfl dX2_nextEntry_2 ?_
  refine va_csq (va_Run.run (va_runV (As := [.int (σ.1 2)]) (rest := []) ⟨hx, hb, hml, hown, hts⟩ (mtX2_findEntry l g σ μ o (σ.1 2)) (cwV 1 hts gX2_nextEntry_X2_findEntry rfl rfl rfl (by decide +kernel) ⟨Nat.le_of_ble_eq_true rfl, Nat.le_of_ble_eq_true rfl⟩) ⟨PW.blind, rcB hC hW, fun U hU hW9 => ⟨rfl, PW.at hC hS hW U hU hW9⟩⟩ rfl rfl hl.1 rfl (lv_room (Nat.le_of_ble_eq_true rfl)) dX2_nextEntry_5 ⟨Nat.zero_le _, Nat.zero_le _⟩)) (fun r_2 h_1 => ?_)
  replace h_1 : r_2 = (fs (pN σ.2.1 (σ.1 2)) 16).map (fun j => gA g (13 + j)) := h_1
  rcases optc (fs (pN σ.2.1 (σ.1 2)) 16) with f_3 | ⟨j_4, f_3⟩
  · skip
    obtain rfl : r_2 = none := by rw [h_1, f_3]; rfl
    refine lv_astore_nN (lv' := [(1, .null), (0, .ref (gA g 0))]) hx hb dX2_nextEntry_8 rfl hl (by decide) rfl (fun ls hl => ?_)
    refine lv_aload_nN hx hb dX2_nextEntry_9 rfl (lv_at hl 0 rfl) ?_
    refine lv_ifnullN (tgt := 15) hx hb dX2_nextEntry_10 (by decide) ?_
    refine lv_aload_n hx hb dX2_nextEntry_15 rfl (lv_at hl 1 rfl) ?_
    refine lv_aload_n hx hb dX2_nextEntry_16 rfl (lv_at hl 1 rfl) ?_
    refine gB (v := .int (σ.1 1)) hx hb hts hinX2 hown hC hW 3 (by decide) (by decide +kernel) rfl rfl dX2_nextEntry_17 ?_
    refine va_csq (va_Run.run (va_runV (As := [.int (σ.1 1)]) (rest := []) ⟨hx, hb, hml, hown, hts⟩ (mtX2_findEntry l g σ μ o (σ.1 1)) (cwV 1 hts gX2_nextEntry_X2_findEntry rfl rfl rfl (by decide +kernel) ⟨Nat.le_of_ble_eq_true rfl, Nat.le_of_ble_eq_true rfl⟩) ⟨PW.blind, rcB hC hW, fun U hU hW9 => ⟨rfl, PW.at hC hS hW U hU hW9⟩⟩ rfl rfl hl.1 rfl (lv_room (Nat.le_of_ble_eq_true rfl)) dX2_nextEntry_20 ⟨Nat.zero_le _, Nat.zero_le _⟩)) (fun r_6 h_5 => ?_)
    replace h_5 : r_6 = (fs (pN σ.2.1 (σ.1 1)) 16).map (fun j => gA g (13 + j)) := h_5
    rcases optc (fs (pN σ.2.1 (σ.1 1)) 16) with f_7 | ⟨j_8, f_7⟩
    · skip
      obtain rfl : r_6 = none := by rw [h_5, f_7]; rfl
      refine lv_astore_nN (lv' := [(2, .null), (1, .null), (0, .ref (gA g 0))]) hx hb dX2_nextEntry_23 rfl hl (by decide) rfl (fun ls hl => ?_)
      refine lv_aload_nN hx hb dX2_nextEntry_24 rfl (lv_at hl 0 rfl) ?_
      refine lv_ifnullN (tgt := 37) hx hb dX2_nextEntry_25 (by decide) ?_
      refine lv_aload_n hx hb dX2_nextEntry_37 rfl (lv_at hl 2 rfl) ?_
      refine va_csq (va_Run.run (va_runV (As := []) (rest := []) ⟨hx, hb, hml, hown, hts⟩ (mtX2_firstFittingNotBad l g σ μ o ) (cwV 0 hts gX2_nextEntry_X2_firstFittingNotBad rfl rfl rfl (by decide +kernel) ⟨Nat.le_of_ble_eq_true rfl, Nat.le_of_ble_eq_true rfl⟩) ⟨PW.blind, rcB hC hW, fun U hU hW9 => ⟨rfl, PW.at hC hS hW U hU hW9⟩⟩ rfl rfl hl.1 rfl (lv_room (Nat.le_of_ble_eq_true rfl)) dX2_nextEntry_38 ⟨Nat.zero_le _, Nat.zero_le _⟩)) (fun r_10 h_9 => ?_)
      replace h_9 : r_10 = (ff σ.2.1 (pC σ) 16).map (fun j => gA g (13 + j)) := h_9
      rcases optc (ff σ.2.1 (pC σ) 16) with f_11 | ⟨j_12, f_11⟩
      · skip
        obtain rfl : r_10 = none := by rw [h_9, f_11]; rfl
        refine lv_astore_nN (lv' := [(3, .null), (2, .null), (1, .null), (0, .ref (gA g 0))]) hx hb dX2_nextEntry_41 rfl hl (by decide) rfl (fun ls hl => ?_)
        refine lv_aload_nN hx hb dX2_nextEntry_42 rfl (lv_at hl 0 rfl) ?_
        refine lv_ifnullN (tgt := 50) hx hb dX2_nextEntry_43 (by decide) ?_
        refine lv_aload_n hx hb dX2_nextEntry_50 rfl (lv_at hl 3 rfl) ?_
        refine lv_iconst (v := 0) hx hb dX2_nextEntry_51 (by decide) ?_
        refine va_csq (va_Run.run (va_runV (As := [.int 0]) (rest := []) ⟨hx, hb, hml, hown, hts⟩ (mtX2_entryWithPlace l g σ μ o 0) (cwV 1 hts gX2_nextEntry_X2_entryWithPlace rfl rfl rfl (by decide +kernel) ⟨Nat.le_of_ble_eq_true rfl, Nat.le_of_ble_eq_true rfl⟩) ⟨PW.blind, rcB hC hW, fun U hU hW9 => ⟨rfl, PW.at hC hS hW U hU hW9⟩⟩ rfl rfl hl.1 rfl (lv_room (Nat.le_of_ble_eq_true rfl)) dX2_nextEntry_52 ⟨Nat.zero_le _, Nat.zero_le _⟩)) (fun r_14 h_13 => ?_)
        replace h_13 : r_14 = (fs (pP σ.2.1 0) 16).map (fun j => gA g (13 + j)) := h_13
        rcases optc (fs (pP σ.2.1 0) 16) with f_15 | ⟨j_16, f_15⟩
        · skip
          obtain rfl : r_14 = none := by rw [h_13, f_15]; rfl
          exact W.aret (v := va_rf none) hx hb hr (Or.inl ⟨_, rfl⟩) (va_rf_or _) (fun t ht hW9 => ⟨none, rfl, by rw [show nx σ = none from by simp [nx, nx2, oel_s, oel_n, f_3, f_7, f_11, f_15]]; rfl, ht⟩) (fun q h => by cases h) dX2_nextEntry_55
        · skip
          obtain rfl : r_14 = some (gA g (13 + j_16)) := by rw [h_13, f_15]; rfl
          have hj_16 : j_16 < 16 := fs_16 f_15
          exact W.aret (v := va_rf (some (gA g (13 + j_16)))) hx hb hr (Or.inl ⟨_, rfl⟩) (va_rf_or _) (fun t ht hW9 => ⟨(some (gA g (13 + j_16))), rfl, by rw [show nx σ = some j_16 from by simp [nx, nx2, oel_s, oel_n, f_3, f_7, f_11, f_15]]; rfl, ht⟩) (fun q h => by cases h) dX2_nextEntry_55
      · skip
        obtain rfl : r_10 = some (gA g (13 + j_12)) := by rw [h_9, f_11]; rfl
        have hj_12 : j_12 < 16 := ff_16 f_11
        refine lv_astore_n (lv' := [(3, .ref (gA g (13 + j_12))), (2, .null), (1, .null), (0, .ref (gA g 0))]) hx hb dX2_nextEntry_41 rfl hl (by decide) rfl (fun ls hl => ?_)
        refine lv_aload_n hx hb dX2_nextEntry_42 rfl (lv_at hl 0 rfl) ?_
        refine lv_ifnull hx hb dX2_nextEntry_43 ?_
        refine lv_aload_n hx hb dX2_nextEntry_46 rfl (lv_at hl 0 rfl) ?_
        refine lv_goto (tgt := 55) hx hb dX2_nextEntry_47 (by decide) ?_
        exact W.aret (v := va_rf (some (gA g (13 + j_12)))) hx hb hr (Or.inl ⟨_, rfl⟩) (va_rf_or _) (fun t ht hW9 => ⟨(some (gA g (13 + j_12))), rfl, by rw [show nx σ = some j_12 from by simp [nx, nx2, oel_s, oel_n, f_3, f_7, f_11]]; rfl, ht⟩) (fun q h => by cases h) dX2_nextEntry_55
    · skip
      obtain rfl : r_6 = some (gA g (13 + j_8)) := by rw [h_5, f_7]; rfl
      have hj_8 : j_8 < 16 := fs_16 f_7
      refine lv_astore_n (lv' := [(2, .ref (gA g (13 + j_8))), (1, .null), (0, .ref (gA g 0))]) hx hb dX2_nextEntry_23 rfl hl (by decide) rfl (fun ls hl => ?_)
      refine lv_aload_n hx hb dX2_nextEntry_24 rfl (lv_at hl 0 rfl) ?_
      refine lv_ifnull hx hb dX2_nextEntry_25 ?_
      refine lv_aload_n hx hb dX2_nextEntry_28 rfl (lv_at hl 0 rfl) ?_
      refine vp_callSi (va_Run.run (va_runVN (As := []) (rest := []) ⟨hx, hb, hml, hown, hts⟩ (mtX1_isBad l g σ μ o j_8 hj_8) ⟨(va_cnB (host := "BootChooser") 0 hts gX2_nextEntry_X1_isBad_n176 rfl rfl rfl (va_Nw.of (A := #[]) rfl (hC.2.1.nest (w := .methodLinkNest RX2 176 yX1_isBad "BootChooser") (by decide +kernel) rfl)) (hts (.initialized RX1) (by decide +kernel)) (by decide +kernel) ⟨Nat.le_of_ble_eq_true rfl, Nat.le_of_ble_eq_true rfl⟩), (hts (.instanceMethod yX1_isBad) (by decide +kernel)), (hts (.selects RX1 yX1_isBad yX1_isBad) (by decide +kernel))⟩ ⟨PW.blind, rcE hC hW hj_8, fun U hU hW9 => ⟨rfl, PW.at hC hS hW U hU hW9⟩⟩ rfl rfl hl.1 rfl (lv_room (Nat.le_of_ble_eq_true rfl)) dX2_nextEntry_29 ⟨Nat.zero_le _, Nat.zero_le _⟩)) (fun r_18 h_17 => ?_)
      obtain rfl : r_18 = bI (bad (σ.2.1 j_8)) := h_17
      refine lv_if_ne (tgt := 37) hx hb dX2_nextEntry_32 (by decide) (fun c_19 => ?_) (fun c_19 => ?_)
      · skip
        replace c_19 := bI_n0.mp c_19
        refine lv_aload_n hx hb dX2_nextEntry_37 rfl (lv_at hl 2 rfl) ?_
        refine va_csq (va_Run.run (va_runV (As := []) (rest := []) ⟨hx, hb, hml, hown, hts⟩ (mtX2_firstFittingNotBad l g σ μ o ) (cwV 0 hts gX2_nextEntry_X2_firstFittingNotBad rfl rfl rfl (by decide +kernel) ⟨Nat.le_of_ble_eq_true rfl, Nat.le_of_ble_eq_true rfl⟩) ⟨PW.blind, rcB hC hW, fun U hU hW9 => ⟨rfl, PW.at hC hS hW U hU hW9⟩⟩ rfl rfl hl.1 rfl (lv_room (Nat.le_of_ble_eq_true rfl)) dX2_nextEntry_38 ⟨Nat.zero_le _, Nat.zero_le _⟩)) (fun r_21 h_20 => ?_)
        replace h_20 : r_21 = (ff σ.2.1 (pC σ) 16).map (fun j => gA g (13 + j)) := h_20
        rcases optc (ff σ.2.1 (pC σ) 16) with f_22 | ⟨j_23, f_22⟩
        · skip
          obtain rfl : r_21 = none := by rw [h_20, f_22]; rfl
          refine lv_astore_nN (lv' := [(3, .null), (2, .ref (gA g (13 + j_8))), (1, .null), (0, .ref (gA g 0))]) hx hb dX2_nextEntry_41 rfl hl (by decide) rfl (fun ls hl => ?_)
          refine lv_aload_nN hx hb dX2_nextEntry_42 rfl (lv_at hl 0 rfl) ?_
          refine lv_ifnullN (tgt := 50) hx hb dX2_nextEntry_43 (by decide) ?_
          refine lv_aload_n hx hb dX2_nextEntry_50 rfl (lv_at hl 3 rfl) ?_
          refine lv_iconst (v := 0) hx hb dX2_nextEntry_51 (by decide) ?_
          refine va_csq (va_Run.run (va_runV (As := [.int 0]) (rest := []) ⟨hx, hb, hml, hown, hts⟩ (mtX2_entryWithPlace l g σ μ o 0) (cwV 1 hts gX2_nextEntry_X2_entryWithPlace rfl rfl rfl (by decide +kernel) ⟨Nat.le_of_ble_eq_true rfl, Nat.le_of_ble_eq_true rfl⟩) ⟨PW.blind, rcB hC hW, fun U hU hW9 => ⟨rfl, PW.at hC hS hW U hU hW9⟩⟩ rfl rfl hl.1 rfl (lv_room (Nat.le_of_ble_eq_true rfl)) dX2_nextEntry_52 ⟨Nat.zero_le _, Nat.zero_le _⟩)) (fun r_25 h_24 => ?_)
          replace h_24 : r_25 = (fs (pP σ.2.1 0) 16).map (fun j => gA g (13 + j)) := h_24
          rcases optc (fs (pP σ.2.1 0) 16) with f_26 | ⟨j_27, f_26⟩
          · skip
            obtain rfl : r_25 = none := by rw [h_24, f_26]; rfl
            exact W.aret (v := va_rf none) hx hb hr (Or.inl ⟨_, rfl⟩) (va_rf_or _) (fun t ht hW9 => ⟨none, rfl, by rw [show nx σ = none from by simp [nx, nx2, oel_s, oel_n, f_3, f_7, c_19, f_22, f_26]]; rfl, ht⟩) (fun q h => by cases h) dX2_nextEntry_55
          · skip
            obtain rfl : r_25 = some (gA g (13 + j_27)) := by rw [h_24, f_26]; rfl
            have hj_27 : j_27 < 16 := fs_16 f_26
            exact W.aret (v := va_rf (some (gA g (13 + j_27)))) hx hb hr (Or.inl ⟨_, rfl⟩) (va_rf_or _) (fun t ht hW9 => ⟨(some (gA g (13 + j_27))), rfl, by rw [show nx σ = some j_27 from by simp [nx, nx2, oel_s, oel_n, f_3, f_7, c_19, f_22, f_26]]; rfl, ht⟩) (fun q h => by cases h) dX2_nextEntry_55
        · skip
          obtain rfl : r_21 = some (gA g (13 + j_23)) := by rw [h_20, f_22]; rfl
          have hj_23 : j_23 < 16 := ff_16 f_22
          refine lv_astore_n (lv' := [(3, .ref (gA g (13 + j_23))), (2, .ref (gA g (13 + j_8))), (1, .null), (0, .ref (gA g 0))]) hx hb dX2_nextEntry_41 rfl hl (by decide) rfl (fun ls hl => ?_)
          refine lv_aload_n hx hb dX2_nextEntry_42 rfl (lv_at hl 0 rfl) ?_
          refine lv_ifnull hx hb dX2_nextEntry_43 ?_
          refine lv_aload_n hx hb dX2_nextEntry_46 rfl (lv_at hl 0 rfl) ?_
          refine lv_goto (tgt := 55) hx hb dX2_nextEntry_47 (by decide) ?_
          exact W.aret (v := va_rf (some (gA g (13 + j_23)))) hx hb hr (Or.inl ⟨_, rfl⟩) (va_rf_or _) (fun t ht hW9 => ⟨(some (gA g (13 + j_23))), rfl, by rw [show nx σ = some j_23 from by simp [nx, nx2, oel_s, oel_n, f_3, f_7, c_19, f_22]]; rfl, ht⟩) (fun q h => by cases h) dX2_nextEntry_55
      · skip
        replace c_19 := bI_0.mp c_19
        refine lv_aload_n hx hb dX2_nextEntry_35 rfl (lv_at hl 0 rfl) ?_
        exact W.aret (v := va_rf (some (gA g (13 + j_8)))) hx hb hr (Or.inl ⟨_, rfl⟩) (va_rf_or _) (fun t ht hW9 => ⟨(some (gA g (13 + j_8))), rfl, by rw [show nx σ = some j_8 from by simp [nx, nx2, oel_s, oel_n, f_3, f_7, c_19]]; rfl, ht⟩) (fun q h => by cases h) dX2_nextEntry_36
  · skip
    obtain rfl : r_2 = some (gA g (13 + j_4)) := by rw [h_1, f_3]; rfl
    have hj_4 : j_4 < 16 := fs_16 f_3
    refine lv_astore_n (lv' := [(1, .ref (gA g (13 + j_4))), (0, .ref (gA g 0))]) hx hb dX2_nextEntry_8 rfl hl (by decide) rfl (fun ls hl => ?_)
    refine lv_aload_n hx hb dX2_nextEntry_9 rfl (lv_at hl 0 rfl) ?_
    refine lv_ifnull hx hb dX2_nextEntry_10 ?_
    refine lv_aload_n hx hb dX2_nextEntry_13 rfl (lv_at hl 0 rfl) ?_
    exact W.aret (v := va_rf (some (gA g (13 + j_4)))) hx hb hr (Or.inl ⟨_, rfl⟩) (va_rf_or _) (fun t ht hW9 => ⟨(some (gA g (13 + j_4))), rfl, by rw [show nx σ = some j_4 from by simp [nx, nx2, oel_s, oel_n, f_3]]; rfl, ht⟩) (fun q h => by cases h) dX2_nextEntry_14
set_option maxHeartbeats 4000000 in
set_option maxRecDepth 100000 in
theorem mtX2_measure (l : Launch) (g : Ge) (σ : Sg) (μ : Mg) (o : Nat → Int64) (j : Nat) (hj : j < 16) : Met l yX2_measure wsX2_measure ({ frames := 1, cells := 0, slots := 0, locals := 21 } : Room) (va_Pc [.ref (gA g 0), .ref (gA g (13 + j))] (PW g σ μ o)) (vp_Si (fun r => r = mz (σ.2.2.1 0) (σ.2.1 j))) 0 0 (fun _ => False) := by
  refine Met.ofW (cc := cX2_measure) (maxL := 3) (ret := (some .int)) (by decide) rfl ?_
  intro p e s m args below meth c s₁ B hml hv
  obtain ⟨rfl, hC, hW⟩ := hv
  have hx := B.exec
  have hb := B.bytes
  have hr := B.returns
  have hts := atoms_spec (ws := wsX2_measure) B.pre
  have hown : s.vm.findClass RX2 = some m.cls := findClass_of_methodNamed B.named
  have hlocks := B.notSynchronized
  have hinX0 : ∀ w ∈ wsX00, w ∈ wsX2_measure := by decide +kernel
  have hinX1 : ∀ w ∈ wsX10, w ∈ wsX2_measure := by decide +kernel
  have hinX2 : ∀ w ∈ wsX20, w ∈ wsX2_measure := by decide +kernel
  have hS : va_S (Az g) s.heap s.heap [] := va_S.rf
  have hl := lv_entry ([.ref (gA g 0), .ref (gA g (13 + j))]) (n := 3) (Nat.le_of_ble_eq_true rfl)
  rw [lg_entry_eq]
  generalize (lg_sl ([.ref (gA g 0), .ref (gA g (13 + j))]) ++ List.replicate (3 - (lg_sl ([.ref (gA g 0), .ref (gA g (13 + j))])).length) Slot.unset).toArray = ls at hl ⊢
  have hl : lv_has ls 3 [(0, .ref (gA g 0)), (1, .ref (gA g (13 + j)))] := hl
  refine lv_iconst (v := 0) hx hb dX2_measure_0 (by decide) ?_
  refine lv_aload_n hx hb dX2_measure_1 rfl (lv_at hl 0 rfl) ?_
  refine gB (v := .ref (gA g 2)) hx hb hts hinX2 hown hC hW 1 (by decide) (by decide +kernel) rfl rfl dX2_measure_2 ?_
  refine gLn (v := .int (σ.2.2.1 0)) hx hb hts hinX0 hown hC hW 1 (by decide) (by decide +kernel) rfl rfl dX2_measure_5 ?_
  refine lv_if_eq (tgt := 15) hx hb dX2_measure_8 (by decide) (fun c_1 => ?_) (fun c_1 => ?_)
  · skip
    refine lv_iconst (v := 0) hx hb dX2_measure_15 (by decide) ?_
    refine vp_callSi (va_Run.run (va_runS (As := [.int 0, .int 0]) (rest := []) ⟨hx, hb, hml, hown, hts⟩ (mtX2_step l 0 0) (va_cwS 2 hts gX2_measure_X2_step rfl rfl rfl (by decide +kernel) ⟨Nat.le_of_ble_eq_true rfl, Nat.le_of_ble_eq_true rfl⟩) ⟨P0.blind, fun U hU hW9 => ⟨rfl, trivial⟩⟩ rfl rfl hl.1 rfl (lv_room (Nat.le_of_ble_eq_true rfl)) dX2_measure_16 ⟨Nat.zero_le _, Nat.zero_le _⟩)) (fun r_3 h_2 => ?_)
    obtain rfl : r_3 = sp 0 0 := h_2
    refine lv_istore_n (lv' := [(2, .int ((sp 0 0))), (0, .ref (gA g 0)), (1, .ref (gA g (13 + j)))]) hx hb dX2_measure_19 rfl hl (by decide) rfl (fun ls hl => ?_)
    refine lv_iload_n hx hb dX2_measure_20 rfl (lv_at hl 0 rfl) ?_
    refine lv_aload_n hx hb dX2_measure_21 rfl (lv_at hl 2 rfl) ?_
    refine gEn (v := .int (σ.2.1 j 2)) hx hb hts hinX1 hown hC hW hj 2 (by decide) (by decide +kernel) rfl rfl dX2_measure_22 ?_
    refine vp_callSi (va_Run.run (va_runS (As := [.int ((sp 0 0)), .int (σ.2.1 j 2)]) (rest := []) ⟨hx, hb, hml, hown, hts⟩ (mtX2_step l (sp 0 0) (σ.2.1 j 2)) (va_cwS 2 hts gX2_measure_X2_step rfl rfl rfl (by decide +kernel) ⟨Nat.le_of_ble_eq_true rfl, Nat.le_of_ble_eq_true rfl⟩) ⟨P0.blind, fun U hU hW9 => ⟨rfl, trivial⟩⟩ rfl rfl hl.1 rfl (lv_room (Nat.le_of_ble_eq_true rfl)) dX2_measure_25 ⟨Nat.zero_le _, Nat.zero_le _⟩)) (fun r_5 h_4 => ?_)
    obtain rfl : r_5 = sp (sp 0 0) (σ.2.1 j 2) := h_4
    refine lv_istore_n (lv' := [(2, .int ((sp (sp 0 0) (σ.2.1 j 2)))), (0, .ref (gA g 0)), (1, .ref (gA g (13 + j)))]) hx hb dX2_measure_28 rfl hl (by decide) rfl (fun ls hl => ?_)
    refine lv_iload_n hx hb dX2_measure_29 rfl (lv_at hl 0 rfl) ?_
    refine lv_aload_n hx hb dX2_measure_30 rfl (lv_at hl 2 rfl) ?_
    refine gEn (v := .int (σ.2.1 j 4)) hx hb hts hinX1 hown hC hW hj 4 (by decide) (by decide +kernel) rfl rfl dX2_measure_31 ?_
    refine lv_ldc (v := 1000000) hx hb hown (hts (.constant RX2 193 (1000000)) (by decide +kernel)) dX2_measure_34 ?_
    refine lv_idiv hx hb dX2_measure_36 (by decide) ?_
    refine vp_callSi (va_Run.run (va_runS (As := [.int ((sp (sp 0 0) (σ.2.1 j 2))), .int ((σ.2.1 j 4 / 1000000))]) (rest := []) ⟨hx, hb, hml, hown, hts⟩ (mtX2_step l (sp (sp 0 0) (σ.2.1 j 2)) (σ.2.1 j 4 / 1000000)) (va_cwS 2 hts gX2_measure_X2_step rfl rfl rfl (by decide +kernel) ⟨Nat.le_of_ble_eq_true rfl, Nat.le_of_ble_eq_true rfl⟩) ⟨P0.blind, fun U hU hW9 => ⟨rfl, trivial⟩⟩ rfl rfl hl.1 rfl (lv_room (Nat.le_of_ble_eq_true rfl)) dX2_measure_37 ⟨Nat.zero_le _, Nat.zero_le _⟩)) (fun r_7 h_6 => ?_)
    obtain rfl : r_7 = sp (sp (sp 0 0) (σ.2.1 j 2)) (σ.2.1 j 4 / 1000000) := h_6
    refine lv_istore_n (lv' := [(2, .int ((sp (sp (sp 0 0) (σ.2.1 j 2)) (σ.2.1 j 4 / 1000000)))), (0, .ref (gA g 0)), (1, .ref (gA g (13 + j)))]) hx hb dX2_measure_40 rfl hl (by decide) rfl (fun ls hl => ?_)
    refine lv_iload_n hx hb dX2_measure_41 rfl (lv_at hl 0 rfl) ?_
    refine lv_aload_n hx hb dX2_measure_42 rfl (lv_at hl 2 rfl) ?_
    refine gEn (v := .int (σ.2.1 j 4)) hx hb hts hinX1 hown hC hW hj 4 (by decide) (by decide +kernel) rfl rfl dX2_measure_43 ?_
    refine lv_sipush (v := 1000) hx hb dX2_measure_46 (by decide) ?_
    refine lv_idiv hx hb dX2_measure_49 (by decide) ?_
    refine lv_sipush (v := 1000) hx hb dX2_measure_50 (by decide) ?_
    refine lv_irem hx hb dX2_measure_53 (by decide) ?_
    refine vp_callSi (va_Run.run (va_runS (As := [.int ((sp (sp (sp 0 0) (σ.2.1 j 2)) (σ.2.1 j 4 / 1000000))), .int (((σ.2.1 j 4 / 1000) - (σ.2.1 j 4 / 1000) / 1000 * 1000))]) (rest := []) ⟨hx, hb, hml, hown, hts⟩ (mtX2_step l (sp (sp (sp 0 0) (σ.2.1 j 2)) (σ.2.1 j 4 / 1000000)) ((σ.2.1 j 4 / 1000) - (σ.2.1 j 4 / 1000) / 1000 * 1000)) (va_cwS 2 hts gX2_measure_X2_step rfl rfl rfl (by decide +kernel) ⟨Nat.le_of_ble_eq_true rfl, Nat.le_of_ble_eq_true rfl⟩) ⟨P0.blind, fun U hU hW9 => ⟨rfl, trivial⟩⟩ rfl rfl hl.1 rfl (lv_room (Nat.le_of_ble_eq_true rfl)) dX2_measure_54 ⟨Nat.zero_le _, Nat.zero_le _⟩)) (fun r_9 h_8 => ?_)
    obtain rfl : r_9 = sp (sp (sp (sp 0 0) (σ.2.1 j 2)) (σ.2.1 j 4 / 1000000)) ((σ.2.1 j 4 / 1000) - (σ.2.1 j 4 / 1000) / 1000 * 1000) := h_8
    refine lv_istore_n (lv' := [(2, .int ((sp (sp (sp (sp 0 0) (σ.2.1 j 2)) (σ.2.1 j 4 / 1000000)) ((σ.2.1 j 4 / 1000) - (σ.2.1 j 4 / 1000) / 1000 * 1000)))), (0, .ref (gA g 0)), (1, .ref (gA g (13 + j)))]) hx hb dX2_measure_57 rfl hl (by decide) rfl (fun ls hl => ?_)
    refine lv_iload_n hx hb dX2_measure_58 rfl (lv_at hl 0 rfl) ?_
    refine lv_aload_n hx hb dX2_measure_59 rfl (lv_at hl 2 rfl) ?_
    refine gEn (v := .int (σ.2.1 j 4)) hx hb hts hinX1 hown hC hW hj 4 (by decide) (by decide +kernel) rfl rfl dX2_measure_60 ?_
    refine lv_sipush (v := 1000) hx hb dX2_measure_63 (by decide) ?_
    refine lv_irem hx hb dX2_measure_66 (by decide) ?_
    refine vp_callSi (va_Run.run (va_runS (As := [.int ((sp (sp (sp (sp 0 0) (σ.2.1 j 2)) (σ.2.1 j 4 / 1000000)) ((σ.2.1 j 4 / 1000) - (σ.2.1 j 4 / 1000) / 1000 * 1000))), .int ((σ.2.1 j 4 - σ.2.1 j 4 / 1000 * 1000))]) (rest := []) ⟨hx, hb, hml, hown, hts⟩ (mtX2_step l (sp (sp (sp (sp 0 0) (σ.2.1 j 2)) (σ.2.1 j 4 / 1000000)) ((σ.2.1 j 4 / 1000) - (σ.2.1 j 4 / 1000) / 1000 * 1000)) (σ.2.1 j 4 - σ.2.1 j 4 / 1000 * 1000)) (va_cwS 2 hts gX2_measure_X2_step rfl rfl rfl (by decide +kernel) ⟨Nat.le_of_ble_eq_true rfl, Nat.le_of_ble_eq_true rfl⟩) ⟨P0.blind, fun U hU hW9 => ⟨rfl, trivial⟩⟩ rfl rfl hl.1 rfl (lv_room (Nat.le_of_ble_eq_true rfl)) dX2_measure_67 ⟨Nat.zero_le _, Nat.zero_le _⟩)) (fun r_11 h_10 => ?_)
    obtain rfl : r_11 = sp (sp (sp (sp (sp 0 0) (σ.2.1 j 2)) (σ.2.1 j 4 / 1000000)) ((σ.2.1 j 4 / 1000) - (σ.2.1 j 4 / 1000) / 1000 * 1000)) (σ.2.1 j 4 - σ.2.1 j 4 / 1000 * 1000) := h_10
    refine lv_istore_n (lv' := [(2, .int ((sp (sp (sp (sp (sp 0 0) (σ.2.1 j 2)) (σ.2.1 j 4 / 1000000)) ((σ.2.1 j 4 / 1000) - (σ.2.1 j 4 / 1000) / 1000 * 1000)) (σ.2.1 j 4 - σ.2.1 j 4 / 1000 * 1000)))), (0, .ref (gA g 0)), (1, .ref (gA g (13 + j)))]) hx hb dX2_measure_70 rfl hl (by decide) rfl (fun ls hl => ?_)
    refine lv_iload_n hx hb dX2_measure_71 rfl (lv_at hl 0 rfl) ?_
    refine lv_aload_n hx hb dX2_measure_72 rfl (lv_at hl 2 rfl) ?_
    refine gEn (v := .int (σ.2.1 j 5)) hx hb hts hinX1 hown hC hW hj 5 (by decide) (by decide +kernel) rfl rfl dX2_measure_73 ?_
    refine vp_callSi (va_Run.run (va_runS (As := [.int ((sp (sp (sp (sp (sp 0 0) (σ.2.1 j 2)) (σ.2.1 j 4 / 1000000)) ((σ.2.1 j 4 / 1000) - (σ.2.1 j 4 / 1000) / 1000 * 1000)) (σ.2.1 j 4 - σ.2.1 j 4 / 1000 * 1000))), .int (σ.2.1 j 5)]) (rest := []) ⟨hx, hb, hml, hown, hts⟩ (mtX2_step l (sp (sp (sp (sp (sp 0 0) (σ.2.1 j 2)) (σ.2.1 j 4 / 1000000)) ((σ.2.1 j 4 / 1000) - (σ.2.1 j 4 / 1000) / 1000 * 1000)) (σ.2.1 j 4 - σ.2.1 j 4 / 1000 * 1000)) (σ.2.1 j 5)) (va_cwS 2 hts gX2_measure_X2_step rfl rfl rfl (by decide +kernel) ⟨Nat.le_of_ble_eq_true rfl, Nat.le_of_ble_eq_true rfl⟩) ⟨P0.blind, fun U hU hW9 => ⟨rfl, trivial⟩⟩ rfl rfl hl.1 rfl (lv_room (Nat.le_of_ble_eq_true rfl)) dX2_measure_76 ⟨Nat.zero_le _, Nat.zero_le _⟩)) (fun r_13 h_12 => ?_)
    obtain rfl : r_13 = sp (sp (sp (sp (sp (sp 0 0) (σ.2.1 j 2)) (σ.2.1 j 4 / 1000000)) ((σ.2.1 j 4 / 1000) - (σ.2.1 j 4 / 1000) / 1000 * 1000)) (σ.2.1 j 4 - σ.2.1 j 4 / 1000 * 1000)) (σ.2.1 j 5) := h_12
    refine lv_istore_n (lv' := [(2, .int ((sp (sp (sp (sp (sp (sp 0 0) (σ.2.1 j 2)) (σ.2.1 j 4 / 1000000)) ((σ.2.1 j 4 / 1000) - (σ.2.1 j 4 / 1000) / 1000 * 1000)) (σ.2.1 j 4 - σ.2.1 j 4 / 1000 * 1000)) (σ.2.1 j 5)))), (0, .ref (gA g 0)), (1, .ref (gA g (13 + j)))]) hx hb dX2_measure_79 rfl hl (by decide) rfl (fun ls hl => ?_)
    refine lv_iload_n hx hb dX2_measure_80 rfl (lv_at hl 0 rfl) ?_
    refine lv_aload_n hx hb dX2_measure_81 rfl (lv_at hl 2 rfl) ?_
    refine gEn (v := .int (σ.2.1 j 3)) hx hb hts hinX1 hown hC hW hj 3 (by decide) (by decide +kernel) rfl rfl dX2_measure_82 ?_
    refine vp_callSi (va_Run.run (va_runS (As := [.int ((sp (sp (sp (sp (sp (sp 0 0) (σ.2.1 j 2)) (σ.2.1 j 4 / 1000000)) ((σ.2.1 j 4 / 1000) - (σ.2.1 j 4 / 1000) / 1000 * 1000)) (σ.2.1 j 4 - σ.2.1 j 4 / 1000 * 1000)) (σ.2.1 j 5))), .int (σ.2.1 j 3)]) (rest := []) ⟨hx, hb, hml, hown, hts⟩ (mtX2_step l (sp (sp (sp (sp (sp (sp 0 0) (σ.2.1 j 2)) (σ.2.1 j 4 / 1000000)) ((σ.2.1 j 4 / 1000) - (σ.2.1 j 4 / 1000) / 1000 * 1000)) (σ.2.1 j 4 - σ.2.1 j 4 / 1000 * 1000)) (σ.2.1 j 5)) (σ.2.1 j 3)) (va_cwS 2 hts gX2_measure_X2_step rfl rfl rfl (by decide +kernel) ⟨Nat.le_of_ble_eq_true rfl, Nat.le_of_ble_eq_true rfl⟩) ⟨P0.blind, fun U hU hW9 => ⟨rfl, trivial⟩⟩ rfl rfl hl.1 rfl (lv_room (Nat.le_of_ble_eq_true rfl)) dX2_measure_85 ⟨Nat.zero_le _, Nat.zero_le _⟩)) (fun r_15 h_14 => ?_)
    obtain rfl : r_15 = sp (sp (sp (sp (sp (sp (sp 0 0) (σ.2.1 j 2)) (σ.2.1 j 4 / 1000000)) ((σ.2.1 j 4 / 1000) - (σ.2.1 j 4 / 1000) / 1000 * 1000)) (σ.2.1 j 4 - σ.2.1 j 4 / 1000 * 1000)) (σ.2.1 j 5)) (σ.2.1 j 3) := h_14
    refine lv_istore_n (lv' := [(2, .int ((sp (sp (sp (sp (sp (sp (sp 0 0) (σ.2.1 j 2)) (σ.2.1 j 4 / 1000000)) ((σ.2.1 j 4 / 1000) - (σ.2.1 j 4 / 1000) / 1000 * 1000)) (σ.2.1 j 4 - σ.2.1 j 4 / 1000 * 1000)) (σ.2.1 j 5)) (σ.2.1 j 3)))), (0, .ref (gA g 0)), (1, .ref (gA g (13 + j)))]) hx hb dX2_measure_88 rfl hl (by decide) rfl (fun ls hl => ?_)
    refine lv_iload_n hx hb dX2_measure_89 rfl (lv_at hl 0 rfl) ?_
    refine lv_aload_n hx hb dX2_measure_90 rfl (lv_at hl 2 rfl) ?_
    refine gEn (v := .int (σ.2.1 j 6)) hx hb hts hinX1 hown hC hW hj 6 (by decide) (by decide +kernel) rfl rfl dX2_measure_91 ?_
    refine vp_callSi (va_Run.run (va_runS (As := [.int ((sp (sp (sp (sp (sp (sp (sp 0 0) (σ.2.1 j 2)) (σ.2.1 j 4 / 1000000)) ((σ.2.1 j 4 / 1000) - (σ.2.1 j 4 / 1000) / 1000 * 1000)) (σ.2.1 j 4 - σ.2.1 j 4 / 1000 * 1000)) (σ.2.1 j 5)) (σ.2.1 j 3))), .int (σ.2.1 j 6)]) (rest := []) ⟨hx, hb, hml, hown, hts⟩ (mtX2_step l (sp (sp (sp (sp (sp (sp (sp 0 0) (σ.2.1 j 2)) (σ.2.1 j 4 / 1000000)) ((σ.2.1 j 4 / 1000) - (σ.2.1 j 4 / 1000) / 1000 * 1000)) (σ.2.1 j 4 - σ.2.1 j 4 / 1000 * 1000)) (σ.2.1 j 5)) (σ.2.1 j 3)) (σ.2.1 j 6)) (va_cwS 2 hts gX2_measure_X2_step rfl rfl rfl (by decide +kernel) ⟨Nat.le_of_ble_eq_true rfl, Nat.le_of_ble_eq_true rfl⟩) ⟨P0.blind, fun U hU hW9 => ⟨rfl, trivial⟩⟩ rfl rfl hl.1 rfl (lv_room (Nat.le_of_ble_eq_true rfl)) dX2_measure_94 ⟨Nat.zero_le _, Nat.zero_le _⟩)) (fun r_17 h_16 => ?_)
    obtain rfl : r_17 = sp (sp (sp (sp (sp (sp (sp (sp 0 0) (σ.2.1 j 2)) (σ.2.1 j 4 / 1000000)) ((σ.2.1 j 4 / 1000) - (σ.2.1 j 4 / 1000) / 1000 * 1000)) (σ.2.1 j 4 - σ.2.1 j 4 / 1000 * 1000)) (σ.2.1 j 5)) (σ.2.1 j 3)) (σ.2.1 j 6) := h_16
    exact W.iret (v := (sp (sp (sp (sp (sp (sp (sp (sp 0 0) (σ.2.1 j 2)) (σ.2.1 j 4 / 1000000)) ((σ.2.1 j 4 / 1000) - (σ.2.1 j 4 / 1000) / 1000 * 1000)) (σ.2.1 j 4 - σ.2.1 j 4 / 1000 * 1000)) (σ.2.1 j 5)) (σ.2.1 j 3)) (σ.2.1 j 6))) hx hb hr (fun t ht hW9 => ⟨_, rfl, by simp [mz, rm, c_1], ht⟩) (fun q h => by cases h) dX2_measure_97
  · skip
    refine lv_iconst (v := 1) hx hb dX2_measure_11 (by decide) ?_
    refine lv_goto (tgt := 16) hx hb dX2_measure_12 (by decide) ?_
    refine vp_callSi (va_Run.run (va_runS (As := [.int 0, .int 1]) (rest := []) ⟨hx, hb, hml, hown, hts⟩ (mtX2_step l 0 1) (va_cwS 2 hts gX2_measure_X2_step rfl rfl rfl (by decide +kernel) ⟨Nat.le_of_ble_eq_true rfl, Nat.le_of_ble_eq_true rfl⟩) ⟨P0.blind, fun U hU hW9 => ⟨rfl, trivial⟩⟩ rfl rfl hl.1 rfl (lv_room (Nat.le_of_ble_eq_true rfl)) dX2_measure_16 ⟨Nat.zero_le _, Nat.zero_le _⟩)) (fun r_19 h_18 => ?_)
    obtain rfl : r_19 = sp 0 1 := h_18
    refine lv_istore_n (lv' := [(2, .int ((sp 0 1))), (0, .ref (gA g 0)), (1, .ref (gA g (13 + j)))]) hx hb dX2_measure_19 rfl hl (by decide) rfl (fun ls hl => ?_)
    refine lv_iload_n hx hb dX2_measure_20 rfl (lv_at hl 0 rfl) ?_
    refine lv_aload_n hx hb dX2_measure_21 rfl (lv_at hl 2 rfl) ?_
    refine gEn (v := .int (σ.2.1 j 2)) hx hb hts hinX1 hown hC hW hj 2 (by decide) (by decide +kernel) rfl rfl dX2_measure_22 ?_
    refine vp_callSi (va_Run.run (va_runS (As := [.int ((sp 0 1)), .int (σ.2.1 j 2)]) (rest := []) ⟨hx, hb, hml, hown, hts⟩ (mtX2_step l (sp 0 1) (σ.2.1 j 2)) (va_cwS 2 hts gX2_measure_X2_step rfl rfl rfl (by decide +kernel) ⟨Nat.le_of_ble_eq_true rfl, Nat.le_of_ble_eq_true rfl⟩) ⟨P0.blind, fun U hU hW9 => ⟨rfl, trivial⟩⟩ rfl rfl hl.1 rfl (lv_room (Nat.le_of_ble_eq_true rfl)) dX2_measure_25 ⟨Nat.zero_le _, Nat.zero_le _⟩)) (fun r_21 h_20 => ?_)
    obtain rfl : r_21 = sp (sp 0 1) (σ.2.1 j 2) := h_20
    refine lv_istore_n (lv' := [(2, .int ((sp (sp 0 1) (σ.2.1 j 2)))), (0, .ref (gA g 0)), (1, .ref (gA g (13 + j)))]) hx hb dX2_measure_28 rfl hl (by decide) rfl (fun ls hl => ?_)
    refine lv_iload_n hx hb dX2_measure_29 rfl (lv_at hl 0 rfl) ?_
    refine lv_aload_n hx hb dX2_measure_30 rfl (lv_at hl 2 rfl) ?_
    refine gEn (v := .int (σ.2.1 j 4)) hx hb hts hinX1 hown hC hW hj 4 (by decide) (by decide +kernel) rfl rfl dX2_measure_31 ?_
    refine lv_ldc (v := 1000000) hx hb hown (hts (.constant RX2 193 (1000000)) (by decide +kernel)) dX2_measure_34 ?_
    refine lv_idiv hx hb dX2_measure_36 (by decide) ?_
    refine vp_callSi (va_Run.run (va_runS (As := [.int ((sp (sp 0 1) (σ.2.1 j 2))), .int ((σ.2.1 j 4 / 1000000))]) (rest := []) ⟨hx, hb, hml, hown, hts⟩ (mtX2_step l (sp (sp 0 1) (σ.2.1 j 2)) (σ.2.1 j 4 / 1000000)) (va_cwS 2 hts gX2_measure_X2_step rfl rfl rfl (by decide +kernel) ⟨Nat.le_of_ble_eq_true rfl, Nat.le_of_ble_eq_true rfl⟩) ⟨P0.blind, fun U hU hW9 => ⟨rfl, trivial⟩⟩ rfl rfl hl.1 rfl (lv_room (Nat.le_of_ble_eq_true rfl)) dX2_measure_37 ⟨Nat.zero_le _, Nat.zero_le _⟩)) (fun r_23 h_22 => ?_)
    obtain rfl : r_23 = sp (sp (sp 0 1) (σ.2.1 j 2)) (σ.2.1 j 4 / 1000000) := h_22
    refine lv_istore_n (lv' := [(2, .int ((sp (sp (sp 0 1) (σ.2.1 j 2)) (σ.2.1 j 4 / 1000000)))), (0, .ref (gA g 0)), (1, .ref (gA g (13 + j)))]) hx hb dX2_measure_40 rfl hl (by decide) rfl (fun ls hl => ?_)
    refine lv_iload_n hx hb dX2_measure_41 rfl (lv_at hl 0 rfl) ?_
    refine lv_aload_n hx hb dX2_measure_42 rfl (lv_at hl 2 rfl) ?_
    refine gEn (v := .int (σ.2.1 j 4)) hx hb hts hinX1 hown hC hW hj 4 (by decide) (by decide +kernel) rfl rfl dX2_measure_43 ?_
    refine lv_sipush (v := 1000) hx hb dX2_measure_46 (by decide) ?_
    refine lv_idiv hx hb dX2_measure_49 (by decide) ?_
    refine lv_sipush (v := 1000) hx hb dX2_measure_50 (by decide) ?_
    refine lv_irem hx hb dX2_measure_53 (by decide) ?_
    refine vp_callSi (va_Run.run (va_runS (As := [.int ((sp (sp (sp 0 1) (σ.2.1 j 2)) (σ.2.1 j 4 / 1000000))), .int (((σ.2.1 j 4 / 1000) - (σ.2.1 j 4 / 1000) / 1000 * 1000))]) (rest := []) ⟨hx, hb, hml, hown, hts⟩ (mtX2_step l (sp (sp (sp 0 1) (σ.2.1 j 2)) (σ.2.1 j 4 / 1000000)) ((σ.2.1 j 4 / 1000) - (σ.2.1 j 4 / 1000) / 1000 * 1000)) (va_cwS 2 hts gX2_measure_X2_step rfl rfl rfl (by decide +kernel) ⟨Nat.le_of_ble_eq_true rfl, Nat.le_of_ble_eq_true rfl⟩) ⟨P0.blind, fun U hU hW9 => ⟨rfl, trivial⟩⟩ rfl rfl hl.1 rfl (lv_room (Nat.le_of_ble_eq_true rfl)) dX2_measure_54 ⟨Nat.zero_le _, Nat.zero_le _⟩)) (fun r_25 h_24 => ?_)
    obtain rfl : r_25 = sp (sp (sp (sp 0 1) (σ.2.1 j 2)) (σ.2.1 j 4 / 1000000)) ((σ.2.1 j 4 / 1000) - (σ.2.1 j 4 / 1000) / 1000 * 1000) := h_24
    refine lv_istore_n (lv' := [(2, .int ((sp (sp (sp (sp 0 1) (σ.2.1 j 2)) (σ.2.1 j 4 / 1000000)) ((σ.2.1 j 4 / 1000) - (σ.2.1 j 4 / 1000) / 1000 * 1000)))), (0, .ref (gA g 0)), (1, .ref (gA g (13 + j)))]) hx hb dX2_measure_57 rfl hl (by decide) rfl (fun ls hl => ?_)
    refine lv_iload_n hx hb dX2_measure_58 rfl (lv_at hl 0 rfl) ?_
    refine lv_aload_n hx hb dX2_measure_59 rfl (lv_at hl 2 rfl) ?_
    refine gEn (v := .int (σ.2.1 j 4)) hx hb hts hinX1 hown hC hW hj 4 (by decide) (by decide +kernel) rfl rfl dX2_measure_60 ?_
    refine lv_sipush (v := 1000) hx hb dX2_measure_63 (by decide) ?_
    refine lv_irem hx hb dX2_measure_66 (by decide) ?_
    refine vp_callSi (va_Run.run (va_runS (As := [.int ((sp (sp (sp (sp 0 1) (σ.2.1 j 2)) (σ.2.1 j 4 / 1000000)) ((σ.2.1 j 4 / 1000) - (σ.2.1 j 4 / 1000) / 1000 * 1000))), .int ((σ.2.1 j 4 - σ.2.1 j 4 / 1000 * 1000))]) (rest := []) ⟨hx, hb, hml, hown, hts⟩ (mtX2_step l (sp (sp (sp (sp 0 1) (σ.2.1 j 2)) (σ.2.1 j 4 / 1000000)) ((σ.2.1 j 4 / 1000) - (σ.2.1 j 4 / 1000) / 1000 * 1000)) (σ.2.1 j 4 - σ.2.1 j 4 / 1000 * 1000)) (va_cwS 2 hts gX2_measure_X2_step rfl rfl rfl (by decide +kernel) ⟨Nat.le_of_ble_eq_true rfl, Nat.le_of_ble_eq_true rfl⟩) ⟨P0.blind, fun U hU hW9 => ⟨rfl, trivial⟩⟩ rfl rfl hl.1 rfl (lv_room (Nat.le_of_ble_eq_true rfl)) dX2_measure_67 ⟨Nat.zero_le _, Nat.zero_le _⟩)) (fun r_27 h_26 => ?_)
    obtain rfl : r_27 = sp (sp (sp (sp (sp 0 1) (σ.2.1 j 2)) (σ.2.1 j 4 / 1000000)) ((σ.2.1 j 4 / 1000) - (σ.2.1 j 4 / 1000) / 1000 * 1000)) (σ.2.1 j 4 - σ.2.1 j 4 / 1000 * 1000) := h_26
    refine lv_istore_n (lv' := [(2, .int ((sp (sp (sp (sp (sp 0 1) (σ.2.1 j 2)) (σ.2.1 j 4 / 1000000)) ((σ.2.1 j 4 / 1000) - (σ.2.1 j 4 / 1000) / 1000 * 1000)) (σ.2.1 j 4 - σ.2.1 j 4 / 1000 * 1000)))), (0, .ref (gA g 0)), (1, .ref (gA g (13 + j)))]) hx hb dX2_measure_70 rfl hl (by decide) rfl (fun ls hl => ?_)
    refine lv_iload_n hx hb dX2_measure_71 rfl (lv_at hl 0 rfl) ?_
    refine lv_aload_n hx hb dX2_measure_72 rfl (lv_at hl 2 rfl) ?_
    refine gEn (v := .int (σ.2.1 j 5)) hx hb hts hinX1 hown hC hW hj 5 (by decide) (by decide +kernel) rfl rfl dX2_measure_73 ?_
    refine vp_callSi (va_Run.run (va_runS (As := [.int ((sp (sp (sp (sp (sp 0 1) (σ.2.1 j 2)) (σ.2.1 j 4 / 1000000)) ((σ.2.1 j 4 / 1000) - (σ.2.1 j 4 / 1000) / 1000 * 1000)) (σ.2.1 j 4 - σ.2.1 j 4 / 1000 * 1000))), .int (σ.2.1 j 5)]) (rest := []) ⟨hx, hb, hml, hown, hts⟩ (mtX2_step l (sp (sp (sp (sp (sp 0 1) (σ.2.1 j 2)) (σ.2.1 j 4 / 1000000)) ((σ.2.1 j 4 / 1000) - (σ.2.1 j 4 / 1000) / 1000 * 1000)) (σ.2.1 j 4 - σ.2.1 j 4 / 1000 * 1000)) (σ.2.1 j 5)) (va_cwS 2 hts gX2_measure_X2_step rfl rfl rfl (by decide +kernel) ⟨Nat.le_of_ble_eq_true rfl, Nat.le_of_ble_eq_true rfl⟩) ⟨P0.blind, fun U hU hW9 => ⟨rfl, trivial⟩⟩ rfl rfl hl.1 rfl (lv_room (Nat.le_of_ble_eq_true rfl)) dX2_measure_76 ⟨Nat.zero_le _, Nat.zero_le _⟩)) (fun r_29 h_28 => ?_)
    obtain rfl : r_29 = sp (sp (sp (sp (sp (sp 0 1) (σ.2.1 j 2)) (σ.2.1 j 4 / 1000000)) ((σ.2.1 j 4 / 1000) - (σ.2.1 j 4 / 1000) / 1000 * 1000)) (σ.2.1 j 4 - σ.2.1 j 4 / 1000 * 1000)) (σ.2.1 j 5) := h_28
    refine lv_istore_n (lv' := [(2, .int ((sp (sp (sp (sp (sp (sp 0 1) (σ.2.1 j 2)) (σ.2.1 j 4 / 1000000)) ((σ.2.1 j 4 / 1000) - (σ.2.1 j 4 / 1000) / 1000 * 1000)) (σ.2.1 j 4 - σ.2.1 j 4 / 1000 * 1000)) (σ.2.1 j 5)))), (0, .ref (gA g 0)), (1, .ref (gA g (13 + j)))]) hx hb dX2_measure_79 rfl hl (by decide) rfl (fun ls hl => ?_)
    refine lv_iload_n hx hb dX2_measure_80 rfl (lv_at hl 0 rfl) ?_
    refine lv_aload_n hx hb dX2_measure_81 rfl (lv_at hl 2 rfl) ?_
    refine gEn (v := .int (σ.2.1 j 3)) hx hb hts hinX1 hown hC hW hj 3 (by decide) (by decide +kernel) rfl rfl dX2_measure_82 ?_
    refine vp_callSi (va_Run.run (va_runS (As := [.int ((sp (sp (sp (sp (sp (sp 0 1) (σ.2.1 j 2)) (σ.2.1 j 4 / 1000000)) ((σ.2.1 j 4 / 1000) - (σ.2.1 j 4 / 1000) / 1000 * 1000)) (σ.2.1 j 4 - σ.2.1 j 4 / 1000 * 1000)) (σ.2.1 j 5))), .int (σ.2.1 j 3)]) (rest := []) ⟨hx, hb, hml, hown, hts⟩ (mtX2_step l (sp (sp (sp (sp (sp (sp 0 1) (σ.2.1 j 2)) (σ.2.1 j 4 / 1000000)) ((σ.2.1 j 4 / 1000) - (σ.2.1 j 4 / 1000) / 1000 * 1000)) (σ.2.1 j 4 - σ.2.1 j 4 / 1000 * 1000)) (σ.2.1 j 5)) (σ.2.1 j 3)) (va_cwS 2 hts gX2_measure_X2_step rfl rfl rfl (by decide +kernel) ⟨Nat.le_of_ble_eq_true rfl, Nat.le_of_ble_eq_true rfl⟩) ⟨P0.blind, fun U hU hW9 => ⟨rfl, trivial⟩⟩ rfl rfl hl.1 rfl (lv_room (Nat.le_of_ble_eq_true rfl)) dX2_measure_85 ⟨Nat.zero_le _, Nat.zero_le _⟩)) (fun r_31 h_30 => ?_)
    obtain rfl : r_31 = sp (sp (sp (sp (sp (sp (sp 0 1) (σ.2.1 j 2)) (σ.2.1 j 4 / 1000000)) ((σ.2.1 j 4 / 1000) - (σ.2.1 j 4 / 1000) / 1000 * 1000)) (σ.2.1 j 4 - σ.2.1 j 4 / 1000 * 1000)) (σ.2.1 j 5)) (σ.2.1 j 3) := h_30
    refine lv_istore_n (lv' := [(2, .int ((sp (sp (sp (sp (sp (sp (sp 0 1) (σ.2.1 j 2)) (σ.2.1 j 4 / 1000000)) ((σ.2.1 j 4 / 1000) - (σ.2.1 j 4 / 1000) / 1000 * 1000)) (σ.2.1 j 4 - σ.2.1 j 4 / 1000 * 1000)) (σ.2.1 j 5)) (σ.2.1 j 3)))), (0, .ref (gA g 0)), (1, .ref (gA g (13 + j)))]) hx hb dX2_measure_88 rfl hl (by decide) rfl (fun ls hl => ?_)
    refine lv_iload_n hx hb dX2_measure_89 rfl (lv_at hl 0 rfl) ?_
    refine lv_aload_n hx hb dX2_measure_90 rfl (lv_at hl 2 rfl) ?_
    refine gEn (v := .int (σ.2.1 j 6)) hx hb hts hinX1 hown hC hW hj 6 (by decide) (by decide +kernel) rfl rfl dX2_measure_91 ?_
    refine vp_callSi (va_Run.run (va_runS (As := [.int ((sp (sp (sp (sp (sp (sp (sp 0 1) (σ.2.1 j 2)) (σ.2.1 j 4 / 1000000)) ((σ.2.1 j 4 / 1000) - (σ.2.1 j 4 / 1000) / 1000 * 1000)) (σ.2.1 j 4 - σ.2.1 j 4 / 1000 * 1000)) (σ.2.1 j 5)) (σ.2.1 j 3))), .int (σ.2.1 j 6)]) (rest := []) ⟨hx, hb, hml, hown, hts⟩ (mtX2_step l (sp (sp (sp (sp (sp (sp (sp 0 1) (σ.2.1 j 2)) (σ.2.1 j 4 / 1000000)) ((σ.2.1 j 4 / 1000) - (σ.2.1 j 4 / 1000) / 1000 * 1000)) (σ.2.1 j 4 - σ.2.1 j 4 / 1000 * 1000)) (σ.2.1 j 5)) (σ.2.1 j 3)) (σ.2.1 j 6)) (va_cwS 2 hts gX2_measure_X2_step rfl rfl rfl (by decide +kernel) ⟨Nat.le_of_ble_eq_true rfl, Nat.le_of_ble_eq_true rfl⟩) ⟨P0.blind, fun U hU hW9 => ⟨rfl, trivial⟩⟩ rfl rfl hl.1 rfl (lv_room (Nat.le_of_ble_eq_true rfl)) dX2_measure_94 ⟨Nat.zero_le _, Nat.zero_le _⟩)) (fun r_33 h_32 => ?_)
    obtain rfl : r_33 = sp (sp (sp (sp (sp (sp (sp (sp 0 1) (σ.2.1 j 2)) (σ.2.1 j 4 / 1000000)) ((σ.2.1 j 4 / 1000) - (σ.2.1 j 4 / 1000) / 1000 * 1000)) (σ.2.1 j 4 - σ.2.1 j 4 / 1000 * 1000)) (σ.2.1 j 5)) (σ.2.1 j 3)) (σ.2.1 j 6) := h_32
    exact W.iret (v := (sp (sp (sp (sp (sp (sp (sp (sp 0 1) (σ.2.1 j 2)) (σ.2.1 j 4 / 1000000)) ((σ.2.1 j 4 / 1000) - (σ.2.1 j 4 / 1000) / 1000 * 1000)) (σ.2.1 j 4 - σ.2.1 j 4 / 1000 * 1000)) (σ.2.1 j 5)) (σ.2.1 j 3)) (σ.2.1 j 6))) hx hb hr (fun t ht hW9 => ⟨_, rfl, by simp [mz, rm, c_1], ht⟩) (fun q h => by cases h) dX2_measure_97
set_option maxHeartbeats 4000000 in
set_option maxRecDepth 100000 in
theorem mtX2_highestCode (l : Launch) (m9 : Int32) (hm : ∃ k : Nat, 1 ≤ k ∧ k ≤ 6 ∧ m9 = nI k) : Met l yX2_highestCode wsX2_highestCode ({ frames := 0, cells := 0, slots := 0, locals := 0 } : Room) (va_Pc [.int m9] P0) (vp_Si (fun r => r = hc m9)) 0 0 (fun _ => False) := by
  refine Met.ofW (cc := cX2_highestCode) (maxL := 3) (ret := (some .int)) (by decide) rfl ?_
  intro p e s m args below meth c s₁ B hml hv
  obtain ⟨rfl, -⟩ := hv
  have hx := B.exec
  have hb := B.bytes
  have hr := B.returns
  have hts := atoms_spec (ws := wsX2_highestCode) B.pre
  have hown : s.vm.findClass RX2 = some m.cls := findClass_of_methodNamed B.named
  have hlocks := B.notSynchronized
  have hl := lv_entry ([.int m9]) (n := 3) (Nat.le_of_ble_eq_true rfl)
  rw [lg_entry_eq]
  generalize (lg_sl ([.int m9]) ++ List.replicate (3 - (lg_sl ([.int m9])).length) Slot.unset).toArray = ls at hl ⊢
  have hl : lv_has ls 3 [(0, .int m9)] := hl
  obtain ⟨k, hk1, hk6, hmk⟩ := hm
  refine lv_iconst (v := 1) hx hb dX2_highestCode_0 (by decide) ?_
  refine lv_istore_n (lv' := [(1, .int 1), (0, .int m9)]) hx hb dX2_highestCode_1 rfl hl (by decide) rfl (fun ls hl => ?_)
  refine lv_iconst (v := 0) hx hb dX2_highestCode_2 (by decide) ?_
  refine lv_istore_n (lv' := [(2, .int 0), (1, .int 1), (0, .int m9)]) hx hb dX2_highestCode_3 rfl hl (by decide) rfl (fun ls hl => ?_)
  have loop_1 : ∀ (n9 i : Nat), i ≤ k → k < i + n9 → True → ∀ (ls : Array Slot), lv_has ls 3 [(0, .int m9), (1, .int (nI (10 ^ i))), (2, .int (nI i))] → W p l e (headSpec wsX2_highestCode ({ frames := 0, cells := 0, slots := 0, locals := 0 } : Room)).room s m ([.int m9] : List Value).toArray below meth c s.heap [] 0 0 (MQ below (vp_Si (fun r => r = hc m9)) ([.int m9] : List Value).toArray s 0 0 (fun _ => False)) (F0 m 4 ls []) := by
    intro n9
    induction n9 with
    | zero =>
      intro i h1 h2
      exact absurd h2 (by omega)
    | succ n9 ih =>
      intro i hi hin hinv ls hl
      refine lv_iload_n hx hb dX2_highestCode_4 rfl (lv_at hl 2 rfl) ?_
      refine lv_iload_n hx hb dX2_highestCode_5 rfl (lv_at hl 0 rfl) ?_
      refine lv_icmp_ge (tgt := 20) hx hb dX2_highestCode_6 (by decide) (fun c_2 => ?_) (fun c_2 => ?_)
      · skip
        have hik : i = k := by rw [hmk, nI_leI (by omega) (by omega)] at c_2; omega
        refine lv_iload_n hx hb dX2_highestCode_20 rfl (lv_at hl 1 rfl) ?_
        refine lv_iconst (v := 1) hx hb dX2_highestCode_21 (by decide) ?_
        refine lv_isub hx hb dX2_highestCode_22 ?_
        exact W.iret (v := (nI (10 ^ i) - 1)) hx hb hr (fun t ht hW9 => ⟨_, rfl, by rw [hc, hmk, nI_clamp (by omega), hik], ht⟩) (fun q h => by cases h) dX2_highestCode_23
      · skip
        have hlt : i < k := by rw [hmk, nI_leI (by omega) (by omega)] at c_2; omega
        refine lv_iload_n hx hb dX2_highestCode_9 rfl (lv_at hl 1 rfl) ?_
        refine lv_bipush (v := 10) hx hb dX2_highestCode_10 (by decide) ?_
        refine lv_imul hx hb dX2_highestCode_12 ?_
        refine lv_istore_n (lv' := [(1, .int ((nI (10 ^ i) * 10))), (0, .int m9), (2, .int (nI i))]) hx hb dX2_highestCode_13 rfl hl (by decide) rfl (fun ls hl => ?_)
        refine lv_iinc (v := nI (i + 1)) (lv' := [(2, .int (nI (i + 1))), (1, .int ((nI (10 ^ i) * 10))), (0, .int m9)]) hx hb dX2_highestCode_14 hl (k := 2) rfl (nI_1 _) (by decide) rfl (fun ls hl => ?_)
        refine lv_goto (tgt := 4) hx hb dX2_highestCode_17 (by decide) ?_
        have hct : nI (10 ^ (i + 1)) = nI (10 ^ i) * 10 := by rw [Nat.pow_succ]; exact (pk_mul (10 ^ i) 10).symm
        exact ih (i + 1) (by omega) (by omega) trivial ls (by rw [hct]; exact lv_sub hl [2, 1, 0] rfl)
  exact loop_1 (k + 1) 0 (Nat.zero_le _) (by omega) trivial ls (by exact lv_sub hl [2, 1, 0] rfl)
