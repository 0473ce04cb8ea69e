set_option maxHeartbeats 4000000 in
set_option maxRecDepth 100000 in
theorem mtX3_first (l : Launch) (g : Ge) (σ : Sg) (μ : Mg) (o : Nat → Int64) (b : Bool) (a : Nat) (hM : μ.1 0 = nI a) (ha : a ≤ 60) : Met l yX3_first wsX3_first ({ frames := 2, cells := 0, slots := 0, locals := 48 } : Room) (va_Pc [.ref (gA g 4), .int (bI b)] (PW g σ μ o)) (vp_Si (fun r => r = oI (fstM μ b a))) 0 0 (fun _ => False) := by
  refine Met.ofW (cc := cX3_first) (maxL := 5) (ret := (some .int)) (by decide) rfl ?_
  intro p e s m args below meth c s₁ B hml hv
  obtain ⟨rfl, hC, hW⟩ := hv
  have hx := B.exec
  have hb := B.bytes
  have hr := B.returns
  have hts := atoms_spec (ws := wsX3_first) B.pre
  have hown : s.vm.findClass RX3 = some m.cls := findClass_of_methodNamed B.named
  have hlocks := B.notSynchronized
  have hinX3 : ∀ w ∈ wsX30, w ∈ wsX3_first := by decide +kernel
  have hS : va_S (Az g) s.heap s.heap [] := va_S.rf
  have hl := lv_entry ([.ref (gA g 4), .int (bI b)]) (n := 5) (Nat.le_of_ble_eq_true rfl)
  rw [lg_entry_eq]
  generalize (lg_sl ([.ref (gA g 4), .int (bI b)]) ++ List.replicate (5 - (lg_sl ([.ref (gA g 4), .int (bI b)])).length) Slot.unset).toArray = ls at hl ⊢
  have hl : lv_has ls 5 [(0, .ref (gA g 4)), (1, .int (bI b))] := hl
  refine lv_iconst (v := (-1)) hx hb dX3_first_0 (by decide) ?_
  refine lv_istore_n (lv' := [(2, .int ((-1))), (0, .ref (gA g 4)), (1, .int (bI b))]) hx hb dX3_first_1 rfl hl (by decide) rfl (fun ls hl => ?_)
  refine lv_iconst (v := 0) hx hb dX3_first_2 (by decide) ?_
  refine lv_istore_n (lv' := [(3, .int 0), (2, .int ((-1))), (0, .ref (gA g 4)), (1, .int (bI b))]) hx hb dX3_first_3 rfl hl (by decide) rfl (fun ls hl => ?_)
  have loop_1 : ∀ (n9 i : Nat), i ≤ a → a < i + n9 → ∀ (ls : Array Slot), lv_has ls 5 [(0, .ref (gA g 4)), (1, .int (bI b)), (2, .int (oI (mf (aM μ.2) (canM μ b) i))), (3, .int (nI i))] → W p l e (headSpec wsX3_first ({ frames := 2, cells := 0, slots := 0, locals := 48 } : Room)).room s m ([.ref (gA g 4), .int (bI b)] : List Value).toArray below meth c s.heap [] 0 0 (MQ below (vp_Si (fun r => r = oI (fstM μ b a))) ([.ref (gA g 4), .int (bI b)] : List Value).toArray s 0 0 (fun _ => False)) (F0 m 4 ls []) := by
    intro n9
    induction n9 with
    | zero =>
      intro i h1 h2
      exact absurd h2 (by omega)
    | succ n9 ih =>
      intro i hi hin ls hl
      rcases optc (mf (aM μ.2) (canM μ b) i) with hff | ⟨b9, hff⟩
      · skip
        rw [hff] at hl
        have hl : lv_has ls 5 [(0, .ref (gA g 4)), (1, .int (bI b)), (2, .int (-1)), (3, .int (nI i))] := hl
        refine lv_iload_n hx hb dX3_first_4 rfl (lv_at hl 3 rfl) ?_
        refine lv_aload_n hx hb dX3_first_5 rfl (lv_at hl 0 rfl) ?_
        refine gM (v := .int (μ.1 0)) hx hb hts hinX3 hown hC hW 0 (by decide) (by decide +kernel) rfl rfl dX3_first_6 ?_
        refine lv_icmp_ge (tgt := 79) hx hb dX3_first_9 (by decide) (fun c_1 => ?_) (fun c_1 => ?_)
        · skip
          have hi16 : i = a := by rw [hM, nI_leI (by omega) (by omega)] at c_1; omega
          refine lv_iload_n hx hb dX3_first_79 rfl (lv_at hl 2 rfl) ?_
          exact W.iret (v := (-1)) hx hb hr (fun t ht hW9 => ⟨_, rfl, by rw [hi16] at hff; rw [fstM, hff]; rfl, ht⟩) (fun q h => by cases h) dX3_first_80
        · skip
          have hlt : i < a := by rw [hM, nI_leI (by omega) (by omega)] at c_1; omega
          refine lv_aload_n hx hb dX3_first_12 rfl (lv_at hl 0 rfl) ?_
          refine gM (v := .ref (gA g 5)) hx hb hts hinX3 hown hC hW 1 (by decide) (by decide +kernel) rfl rfl dX3_first_13 ?_
          refine lv_iload_n hx hb dX3_first_16 rfl (lv_at hl 3 rfl) ?_
          refine mLdZ hx hb hC hW (show i < 60 by omega) dX3_first_17 ?_
          refine lv_if_eq (tgt := 46) hx hb dX3_first_18 (by decide) (fun c_2 => ?_) (fun c_2 => ?_)
          · skip
            refine lv_iconst (v := 0) hx hb dX3_first_46 (by decide) ?_
            refine lv_istore (lv' := [(4, .int 0), (0, .ref (gA g 4)), (1, .int (bI b)), (2, .int ((-1))), (3, .int (nI i))]) hx hb dX3_first_47 hl (by decide) rfl (fun ls hl => ?_)
            refine lv_iload hx hb dX3_first_49 (lv_at hl 0 rfl) ?_
            refine lv_if_eq (tgt := 71) hx hb dX3_first_51 (by decide) (fun c_3 => ?_) (fun c_3 => absurd c_3 (by decide))
            refine lv_iload_n hx hb dX3_first_71 rfl (lv_at hl 3 rfl) ?_
            refine lv_istore_n (lv' := [(2, .int ((-1))), (4, .int 0), (0, .ref (gA g 4)), (1, .int (bI b)), (3, .int (nI i))]) hx hb dX3_first_72 rfl hl (by decide) rfl (fun ls hl => ?_)
            refine lv_iinc (v := nI (i + 1)) (lv' := [(3, .int (nI (i + 1))), (2, .int ((-1))), (4, .int 0), (0, .ref (gA g 4)), (1, .int (bI b))]) hx hb dX3_first_73 hl (k := 4) rfl (nI_1 _) (by decide) rfl (fun ls hl => ?_)
            refine lv_goto (tgt := 4) hx hb dX3_first_76 (by decide) ?_
            have hct : mf (aM μ.2) (canM μ b) (i + 1) = none := (mf_f (by rw [hff]; simp [canM, thM, mfb, aM, c_2])).trans hff
            exact ih (i + 1) (by omega) (by omega) ls (by rw [hct]; exact lv_sub hl [3, 4, 1, 0] rfl)
          · skip
            refine lv_iload_n hx hb dX3_first_21 rfl (lv_at hl 1 rfl) ?_
            refine lv_if_ne (tgt := 42) hx hb dX3_first_22 (by decide) (fun c_4 => ?_) (fun c_4 => ?_)
            · skip
              replace c_4 := bI_n0.mp c_4
              refine lv_iconst (v := 1) hx hb dX3_first_42 (by decide) ?_
              refine lv_goto (tgt := 47) hx hb dX3_first_43 (by decide) ?_
              refine lv_istore (lv' := [(4, .int 1), (0, .ref (gA g 4)), (1, .int (bI b)), (2, .int ((-1))), (3, .int (nI i))]) hx hb dX3_first_47 hl (by decide) rfl (fun ls hl => ?_)
              refine lv_iload hx hb dX3_first_49 (lv_at hl 0 rfl) ?_
              refine lv_if_eq (tgt := 71) hx hb dX3_first_51 (by decide) (fun c_5 => absurd c_5 (by decide)) (fun c_5 => ?_)
              refine lv_iload_n hx hb dX3_first_54 rfl (lv_at hl 3 rfl) ?_
              refine lv_if_lt (tgt := 67) hx hb dX3_first_55 (by decide) (fun c_6 => ?_) (fun c_6 => absurd c_6 (by decide))
              refine lv_iload_n hx hb dX3_first_67 rfl (lv_at hl 4 rfl) ?_
              refine lv_goto (tgt := 72) hx hb dX3_first_68 (by decide) ?_
              refine lv_istore_n (lv' := [(2, .int (nI i)), (4, .int 1), (0, .ref (gA g 4)), (1, .int (bI b)), (3, .int (nI i))]) hx hb dX3_first_72 rfl hl (by decide) rfl (fun ls hl => ?_)
              refine lv_iinc (v := nI (i + 1)) (lv' := [(3, .int (nI (i + 1))), (2, .int (nI i)), (4, .int 1), (0, .ref (gA g 4)), (1, .int (bI b))]) hx hb dX3_first_73 hl (k := 4) rfl (nI_1 _) (by decide) rfl (fun ls hl => ?_)
              refine lv_goto (tgt := 4) hx hb dX3_first_76 (by decide) ?_
              have hct : mf (aM μ.2) (canM μ b) (i + 1) = some i := mf_t (by rw [hff]; simp [canM, thM, mfb, aM, c_2, c_4])
              exact ih (i + 1) (by omega) (by omega) ls (by rw [hct]; exact lv_sub hl [3, 4, 1, 0] rfl)
            · skip
              replace c_4 := bI_0.mp c_4
              refine lv_aload_n hx hb dX3_first_25 rfl (lv_at hl 0 rfl) ?_
              refine lv_iload_n hx hb dX3_first_26 rfl (lv_at hl 3 rfl) ?_
              refine vp_callSi (va_Run.run (va_runV (As := [.int (nI i)]) (rest := []) ⟨hx, hb, hml, hown, hts⟩ (mtX3_fits l g σ μ o (nI i) (vp_in_nI (show i < 60 by omega) (by omega))) (cwV 1 hts gX3_first_X3_fits rfl rfl rfl (by decide +kernel) ⟨Nat.le_of_ble_eq_true rfl, Nat.le_of_ble_eq_true rfl⟩) ⟨PW.blind, rcM hC hW, fun U hU hW9 => ⟨rfl, PW.at hC hS hW U hU hW9⟩⟩ rfl rfl hl.1 rfl (lv_room (Nat.le_of_ble_eq_true rfl)) dX3_first_27 ⟨Nat.zero_le _, Nat.zero_le _⟩)) (fun r_8 h_7 => ?_)
              obtain rfl : r_8 = bI (fitM μ (nI i)) := h_7
              refine lv_if_eq (tgt := 46) hx hb dX3_first_30 (by decide) (fun c_9 => ?_) (fun c_9 => ?_)
              · skip
                replace c_9 := bI_0.mp c_9
                refine lv_iconst (v := 0) hx hb dX3_first_46 (by decide) ?_
                refine lv_istore (lv' := [(4, .int 0), (0, .ref (gA g 4)), (1, .int (bI b)), (2, .int ((-1))), (3, .int (nI i))]) hx hb dX3_first_47 hl (by decide) rfl (fun ls hl => ?_)
                refine lv_iload hx hb dX3_first_49 (lv_at hl 0 rfl) ?_
                refine lv_if_eq (tgt := 71) hx hb dX3_first_51 (by decide) (fun c_10 => ?_) (fun c_10 => absurd c_10 (by decide))
                refine lv_iload_n hx hb dX3_first_71 rfl (lv_at hl 3 rfl) ?_
                refine lv_istore_n (lv' := [(2, .int ((-1))), (4, .int 0), (0, .ref (gA g 4)), (1, .int (bI b)), (3, .int (nI i))]) hx hb dX3_first_72 rfl hl (by decide) rfl (fun ls hl => ?_)
                refine lv_iinc (v := nI (i + 1)) (lv' := [(3, .int (nI (i + 1))), (2, .int ((-1))), (4, .int 0), (0, .ref (gA g 4)), (1, .int (bI b))]) hx hb dX3_first_73 hl (k := 4) rfl (nI_1 _) (by decide) rfl (fun ls hl => ?_)
                refine lv_goto (tgt := 4) hx hb dX3_first_76 (by decide) ?_
                have hct : mf (aM μ.2) (canM μ b) (i + 1) = none := (mf_f (by rw [hff]; simp [canM, thM, mfb, aM, c_2, c_4, c_9])).trans hff
                exact ih (i + 1) (by omega) (by omega) ls (by rw [hct]; exact lv_sub hl [3, 4, 1, 0] rfl)
              · skip
                replace c_9 := bI_n0.mp c_9
                refine lv_aload_n hx hb dX3_first_33 rfl (lv_at hl 0 rfl) ?_
                refine gM (v := .ref (gA g 10)) hx hb hts hinX3 hown hC hW 6 (by decide) (by decide +kernel) rfl rfl dX3_first_34 ?_
                refine lv_iload_n hx hb dX3_first_37 rfl (lv_at hl 3 rfl) ?_
                refine mLd 4 (by decide) hx hb hC hW (show i < 60 by omega) dX3_first_38 ?_
                refine lv_if_eq (tgt := 46) hx hb dX3_first_39 (by decide) (fun c_11 => ?_) (fun c_11 => ?_)
                · skip
                  refine lv_iconst (v := 0) hx hb dX3_first_46 (by decide) ?_
                  refine lv_istore (lv' := [(4, .int 0), (0, .ref (gA g 4)), (1, .int (bI b)), (2, .int ((-1))), (3, .int (nI i))]) hx hb dX3_first_47 hl (by decide) rfl (fun ls hl => ?_)
                  refine lv_iload hx hb dX3_first_49 (lv_at hl 0 rfl) ?_
                  refine lv_if_eq (tgt := 71) hx hb dX3_first_51 (by decide) (fun c_12 => ?_) (fun c_12 => absurd c_12 (by decide))
                  refine lv_iload_n hx hb dX3_first_71 rfl (lv_at hl 3 rfl) ?_
                  refine lv_istore_n (lv' := [(2, .int ((-1))), (4, .int 0), (0, .ref (gA g 4)), (1, .int (bI b)), (3, .int (nI i))]) hx hb dX3_first_72 rfl hl (by decide) rfl (fun ls hl => ?_)
                  refine lv_iinc (v := nI (i + 1)) (lv' := [(3, .int (nI (i + 1))), (2, .int ((-1))), (4, .int 0), (0, .ref (gA g 4)), (1, .int (bI b))]) hx hb dX3_first_73 hl (k := 4) rfl (nI_1 _) (by decide) rfl (fun ls hl => ?_)
                  refine lv_goto (tgt := 4) hx hb dX3_first_76 (by decide) ?_
                  have hct : mf (aM μ.2) (canM μ b) (i + 1) = none := (mf_f (by rw [hff]; simp [canM, thM, mfb, aM, c_2, c_4, c_9, c_11])).trans hff
                  exact ih (i + 1) (by omega) (by omega) ls (by rw [hct]; exact lv_sub hl [3, 4, 1, 0] rfl)
                · skip
                  refine lv_iconst (v := 1) hx hb dX3_first_42 (by decide) ?_
                  refine lv_goto (tgt := 47) hx hb dX3_first_43 (by decide) ?_
                  refine lv_istore (lv' := [(4, .int 1), (0, .ref (gA g 4)), (1, .int (bI b)), (2, .int ((-1))), (3, .int (nI i))]) hx hb dX3_first_47 hl (by decide) rfl (fun ls hl => ?_)
                  refine lv_iload hx hb dX3_first_49 (lv_at hl 0 rfl) ?_
                  refine lv_if_eq (tgt := 71) hx hb dX3_first_51 (by decide) (fun c_13 => absurd c_13 (by decide)) (fun c_13 => ?_)
                  refine lv_iload_n hx hb dX3_first_54 rfl (lv_at hl 3 rfl) ?_
                  refine lv_if_lt (tgt := 67) hx hb dX3_first_55 (by decide) (fun c_14 => ?_) (fun c_14 => absurd c_14 (by decide))
                  refine lv_iload_n hx hb dX3_first_67 rfl (lv_at hl 4 rfl) ?_
                  refine lv_goto (tgt := 72) hx hb dX3_first_68 (by decide) ?_
                  refine lv_istore_n (lv' := [(2, .int (nI i)), (4, .int 1), (0, .ref (gA g 4)), (1, .int (bI b)), (3, .int (nI i))]) hx hb dX3_first_72 rfl hl (by decide) rfl (fun ls hl => ?_)
                  refine lv_iinc (v := nI (i + 1)) (lv' := [(3, .int (nI (i + 1))), (2, .int (nI i)), (4, .int 1), (0, .ref (gA g 4)), (1, .int (bI b))]) hx hb dX3_first_73 hl (k := 4) rfl (nI_1 _) (by decide) rfl (fun ls hl => ?_)
                  refine lv_goto (tgt := 4) hx hb dX3_first_76 (by decide) ?_
                  have hct : mf (aM μ.2) (canM μ b) (i + 1) = some i := mf_t (by rw [hff]; simp [canM, thM, mfb, aM, c_2, c_4, c_9, c_11])
                  exact ih (i + 1) (by omega) (by omega) ls (by rw [hct]; exact lv_sub hl [3, 4, 1, 0] rfl)
      · skip
        rw [hff] at hl
        have hl : lv_has ls 5 [(0, .ref (gA g 4)), (1, .int (bI b)), (2, .int (nI b9)), (3, .int (nI i))] := hl
        have hb9 : b9 < 60 := by have := mf_lt hff; omega
        refine lv_iload_n hx hb dX3_first_4 rfl (lv_at hl 3 rfl) ?_
        refine lv_aload_n hx hb dX3_first_5 rfl (lv_at hl 0 rfl) ?_
        refine gM (v := .int (μ.1 0)) hx hb hts hinX3 hown hC hW 0 (by decide) (by decide +kernel) rfl rfl dX3_first_6 ?_
        refine lv_icmp_ge (tgt := 79) hx hb dX3_first_9 (by decide) (fun c_15 => ?_) (fun c_15 => ?_)
        · skip
          have hi16 : i = a := by rw [hM, nI_leI (by omega) (by omega)] at c_15; omega
          refine lv_iload_n hx hb dX3_first_79 rfl (lv_at hl 2 rfl) ?_
          exact W.iret (v := nI b9) hx hb hr (fun t ht hW9 => ⟨_, rfl, by rw [hi16] at hff; rw [fstM, hff]; rfl, ht⟩) (fun q h => by cases h) dX3_first_80
        · skip
          have hlt : i < a := by rw [hM, nI_leI (by omega) (by omega)] at c_15; omega
          refine lv_aload_n hx hb dX3_first_12 rfl (lv_at hl 0 rfl) ?_
          refine gM (v := .ref (gA g 5)) hx hb hts hinX3 hown hC hW 1 (by decide) (by decide +kernel) rfl rfl dX3_first_13 ?_
          refine lv_iload_n hx hb dX3_first_16 rfl (lv_at hl 3 rfl) ?_
          refine mLdZ hx hb hC hW (show i < 60 by omega) dX3_first_17 ?_
          refine lv_if_eq (tgt := 46) hx hb dX3_first_18 (by decide) (fun c_16 => ?_) (fun c_16 => ?_)
          · skip
            refine lv_iconst (v := 0) hx hb dX3_first_46 (by decide) ?_
            refine lv_istore (lv' := [(4, .int 0), (0, .ref (gA g 4)), (1, .int (bI b)), (2, .int (nI b9)), (3, .int (nI i))]) hx hb dX3_first_47 hl (by decide) rfl (fun ls hl => ?_)
            refine lv_iload hx hb dX3_first_49 (lv_at hl 0 rfl) ?_
            refine lv_if_eq (tgt := 71) hx hb dX3_first_51 (by decide) (fun c_17 => ?_) (fun c_17 => absurd c_17 (by decide))
            refine lv_iload_n hx hb dX3_first_71 rfl (lv_at hl 3 rfl) ?_
            refine lv_istore_n (lv' := [(2, .int (nI b9)), (4, .int 0), (0, .ref (gA g 4)), (1, .int (bI b)), (3, .int (nI i))]) hx hb dX3_first_72 rfl hl (by decide) rfl (fun ls hl => ?_)
            refine lv_iinc (v := nI (i + 1)) (lv' := [(3, .int (nI (i + 1))), (2, .int (nI b9)), (4, .int 0), (0, .ref (gA g 4)), (1, .int (bI b))]) hx hb dX3_first_73 hl (k := 4) rfl (nI_1 _) (by decide) rfl (fun ls hl => ?_)
            refine lv_goto (tgt := 4) hx hb dX3_first_76 (by decide) ?_
            have hct : mf (aM μ.2) (canM μ b) (i + 1) = some b9 := (mf_f (by rw [hff]; simp [canM, thM, mfb, aM, c_16])).trans hff
            exact ih (i + 1) (by omega) (by omega) ls (by rw [hct]; exact lv_sub hl [3, 4, 1, 0] rfl)
          · skip
            refine lv_iload_n hx hb dX3_first_21 rfl (lv_at hl 1 rfl) ?_
            refine lv_if_ne (tgt := 42) hx hb dX3_first_22 (by decide) (fun c_18 => ?_) (fun c_18 => ?_)
            · skip
              replace c_18 := bI_n0.mp c_18
              refine lv_iconst (v := 1) hx hb dX3_first_42 (by decide) ?_
              refine lv_goto (tgt := 47) hx hb dX3_first_43 (by decide) ?_
              refine lv_istore (lv' := [(4, .int 1), (0, .ref (gA g 4)), (1, .int (bI b)), (2, .int (nI b9)), (3, .int (nI i))]) hx hb dX3_first_47 hl (by decide) rfl (fun ls hl => ?_)
              refine lv_iload hx hb dX3_first_49 (lv_at hl 0 rfl) ?_
              refine lv_if_eq (tgt := 71) hx hb dX3_first_51 (by decide) (fun c_19 => absurd c_19 (by decide)) (fun c_19 => ?_)
              refine lv_iload_n hx hb dX3_first_54 rfl (lv_at hl 3 rfl) ?_
              refine lv_if_lt (tgt := 67) hx hb dX3_first_55 (by decide) (fun c_20 => ?_) (fun c_20 => ?_)
              · skip
                exact absurd c_20 (nI_pos (by omega))
              · skip
                refine lv_aload_n hx hb dX3_first_58 rfl (lv_at hl 1 rfl) ?_
                refine lv_iload_n hx hb dX3_first_59 rfl (lv_at hl 4 rfl) ?_
                refine lv_iload_n hx hb dX3_first_60 rfl (lv_at hl 3 rfl) ?_
                refine vp_callSi (va_Run.run (va_runV (As := [.int (nI i), .int (nI b9)]) (rest := []) ⟨hx, hb, hml, hown, hts⟩ (mtX3_isAhead l g σ μ o (nI i) (nI b9) (vp_in_nI (show i < 60 by omega) (by omega)) (vp_in_nI (show b9 < 60 by omega) (by omega))) (cwV 2 hts gX3_first_X3_isAhead rfl rfl rfl (by decide +kernel) ⟨Nat.le_of_ble_eq_true rfl, Nat.le_of_ble_eq_true rfl⟩) ⟨PW.blind, rcM hC hW, fun U hU hW9 => ⟨rfl, PW.at hC hS hW U hU hW9⟩⟩ rfl rfl hl.1 rfl (lv_room (Nat.le_of_ble_eq_true rfl)) dX3_first_61 ⟨Nat.zero_le _, Nat.zero_le _⟩)) (fun r_22 h_21 => ?_)
                obtain rfl : r_22 = bI (ahM μ.2 (nI i) (nI b9)) := h_21
                refine lv_if_eq (tgt := 71) hx hb dX3_first_64 (by decide) (fun c_23 => ?_) (fun c_23 => ?_)
                · skip
                  replace c_23 := bI_0.mp c_23
                  refine lv_iload_n hx hb dX3_first_71 rfl (lv_at hl 3 rfl) ?_
                  refine lv_istore_n (lv' := [(2, .int (nI b9)), (4, .int 1), (0, .ref (gA g 4)), (1, .int (bI b)), (3, .int (nI i))]) hx hb dX3_first_72 rfl hl (by decide) rfl (fun ls hl => ?_)
                  refine lv_iinc (v := nI (i + 1)) (lv' := [(3, .int (nI (i + 1))), (2, .int (nI b9)), (4, .int 1), (0, .ref (gA g 4)), (1, .int (bI b))]) hx hb dX3_first_73 hl (k := 4) rfl (nI_1 _) (by decide) rfl (fun ls hl => ?_)
                  refine lv_goto (tgt := 4) hx hb dX3_first_76 (by decide) ?_
                  have hct : mf (aM μ.2) (canM μ b) (i + 1) = some b9 := (mf_f (by rw [hff]; simp [canM, thM, mfb, aM, c_16, c_18, c_23])).trans hff
                  exact ih (i + 1) (by omega) (by omega) ls (by rw [hct]; exact lv_sub hl [3, 4, 1, 0] rfl)
                · skip
                  replace c_23 := bI_n0.mp c_23
                  refine lv_iload_n hx hb dX3_first_67 rfl (lv_at hl 4 rfl) ?_
                  refine lv_goto (tgt := 72) hx hb dX3_first_68 (by decide) ?_
                  refine lv_istore_n (lv' := [(2, .int (nI i)), (4, .int 1), (0, .ref (gA g 4)), (1, .int (bI b)), (3, .int (nI i))]) hx hb dX3_first_72 rfl hl (by decide) rfl (fun ls hl => ?_)
                  refine lv_iinc (v := nI (i + 1)) (lv' := [(3, .int (nI (i + 1))), (2, .int (nI i)), (4, .int 1), (0, .ref (gA g 4)), (1, .int (bI b))]) hx hb dX3_first_73 hl (k := 4) rfl (nI_1 _) (by decide) rfl (fun ls hl => ?_)
                  refine lv_goto (tgt := 4) hx hb dX3_first_76 (by decide) ?_
                  have hct : mf (aM μ.2) (canM μ b) (i + 1) = some i := mf_t (by rw [hff]; simp [canM, thM, mfb, aM, c_16, c_18, c_23])
                  exact ih (i + 1) (by omega) (by omega) ls (by rw [hct]; exact lv_sub hl [3, 4, 1, 0] rfl)
            · skip
              replace c_18 := bI_0.mp c_18
              refine lv_aload_n hx hb dX3_first_25 rfl (lv_at hl 0 rfl) ?_
              refine lv_iload_n hx hb dX3_first_26 rfl (lv_at hl 3 rfl) ?_
              refine vp_callSi (va_Run.run (va_runV (As := [.int (nI i)]) (rest := []) ⟨hx, hb, hml, hown, hts⟩ (mtX3_fits l g σ μ o (nI i) (vp_in_nI (show i < 60 by omega) (by omega))) (cwV 1 hts gX3_first_X3_fits rfl rfl rfl (by decide +kernel) ⟨Nat.le_of_ble_eq_true rfl, Nat.le_of_ble_eq_true rfl⟩) ⟨PW.blind, rcM hC hW, fun U hU hW9 => ⟨rfl, PW.at hC hS hW U hU hW9⟩⟩ rfl rfl hl.1 rfl (lv_room (Nat.le_of_ble_eq_true rfl)) dX3_first_27 ⟨Nat.zero_le _, Nat.zero_le _⟩)) (fun r_25 h_24 => ?_)
              obtain rfl : r_25 = bI (fitM μ (nI i)) := h_24
              refine lv_if_eq (tgt := 46) hx hb dX3_first_30 (by decide) (fun c_26 => ?_) (fun c_26 => ?_)
              · skip
                replace c_26 := bI_0.mp c_26
                refine lv_iconst (v := 0) hx hb dX3_first_46 (by decide) ?_
                refine lv_istore (lv' := [(4, .int 0), (0, .ref (gA g 4)), (1, .int (bI b)), (2, .int (nI b9)), (3, .int (nI i))]) hx hb dX3_first_47 hl (by decide) rfl (fun ls hl => ?_)
                refine lv_iload hx hb dX3_first_49 (lv_at hl 0 rfl) ?_
                refine lv_if_eq (tgt := 71) hx hb dX3_first_51 (by decide) (fun c_27 => ?_) (fun c_27 => absurd c_27 (by decide))
                refine lv_iload_n hx hb dX3_first_71 rfl (lv_at hl 3 rfl) ?_
                refine lv_istore_n (lv' := [(2, .int (nI b9)), (4, .int 0), (0, .ref (gA g 4)), (1, .int (bI b)), (3, .int (nI i))]) hx hb dX3_first_72 rfl hl (by decide) rfl (fun ls hl => ?_)
                refine lv_iinc (v := nI (i + 1)) (lv' := [(3, .int (nI (i + 1))), (2, .int (nI b9)), (4, .int 0), (0, .ref (gA g 4)), (1, .int (bI b))]) hx hb dX3_first_73 hl (k := 4) rfl (nI_1 _) (by decide) rfl (fun ls hl => ?_)
                refine lv_goto (tgt := 4) hx hb dX3_first_76 (by decide) ?_
                have hct : mf (aM μ.2) (canM μ b) (i + 1) = some b9 := (mf_f (by rw [hff]; simp [canM, thM, mfb, aM, c_16, c_18, c_26])).trans hff
                exact ih (i + 1) (by omega) (by omega) ls (by rw [hct]; exact lv_sub hl [3, 4, 1, 0] rfl)
              · skip
                replace c_26 := bI_n0.mp c_26
                refine lv_aload_n hx hb dX3_first_33 rfl (lv_at hl 0 rfl) ?_
                refine gM (v := .ref (gA g 10)) hx hb hts hinX3 hown hC hW 6 (by decide) (by decide +kernel) rfl rfl dX3_first_34 ?_
                refine lv_iload_n hx hb dX3_first_37 rfl (lv_at hl 3 rfl) ?_
                refine mLd 4 (by decide) hx hb hC hW (show i < 60 by omega) dX3_first_38 ?_
                refine lv_if_eq (tgt := 46) hx hb dX3_first_39 (by decide) (fun c_28 => ?_) (fun c_28 => ?_)
                · skip
                  refine lv_iconst (v := 0) hx hb dX3_first_46 (by decide) ?_
                  refine lv_istore (lv' := [(4, .int 0), (0, .ref (gA g 4)), (1, .int (bI b)), (2, .int (nI b9)), (3, .int (nI i))]) hx hb dX3_first_47 hl (by decide) rfl (fun ls hl => ?_)
                  refine lv_iload hx hb dX3_first_49 (lv_at hl 0 rfl) ?_
                  refine lv_if_eq (tgt := 71) hx hb dX3_first_51 (by decide) (fun c_29 => ?_) (fun c_29 => absurd c_29 (by decide))
                  refine lv_iload_n hx hb dX3_first_71 rfl (lv_at hl 3 rfl) ?_
                  refine lv_istore_n (lv' := [(2, .int (nI b9)), (4, .int 0), (0, .ref (gA g 4)), (1, .int (bI b)), (3, .int (nI i))]) hx hb dX3_first_72 rfl hl (by decide) rfl (fun ls hl => ?_)
                  refine lv_iinc (v := nI (i + 1)) (lv' := [(3, .int (nI (i + 1))), (2, .int (nI b9)), (4, .int 0), (0, .ref (gA g 4)), (1, .int (bI b))]) hx hb dX3_first_73 hl (k := 4) rfl (nI_1 _) (by decide) rfl (fun ls hl => ?_)
                  refine lv_goto (tgt := 4) hx hb dX3_first_76 (by decide) ?_
                  have hct : mf (aM μ.2) (canM μ b) (i + 1) = some b9 := (mf_f (by rw [hff]; simp [canM, thM, mfb, aM, c_16, c_18, c_26, c_28])).trans hff
                  exact ih (i + 1) (by omega) (by omega) ls (by rw [hct]; exact lv_sub hl [3, 4, 1, 0] rfl)
                · skip
                  refine lv_iconst (v := 1) hx hb dX3_first_42 (by decide) ?_
                  refine lv_goto (tgt := 47) hx hb dX3_first_43 (by decide) ?_
                  refine lv_istore (lv' := [(4, .int 1), (0, .ref (gA g 4)), (1, .int (bI b)), (2, .int (nI b9)), (3, .int (nI i))]) hx hb dX3_first_47 hl (by decide) rfl (fun ls hl => ?_)
                  refine lv_iload hx hb dX3_first_49 (lv_at hl 0 rfl) ?_
                  refine lv_if_eq (tgt := 71) hx hb dX3_first_51 (by decide) (fun c_30 => absurd c_30 (by decide)) (fun c_30 => ?_)
                  refine lv_iload_n hx hb dX3_first_54 rfl (lv_at hl 3 rfl) ?_
                  refine lv_if_lt (tgt := 67) hx hb dX3_first_55 (by decide) (fun c_31 => ?_) (fun c_31 => ?_)
                  · skip
                    exact absurd c_31 (nI_pos (by omega))
                  · skip
                    refine lv_aload_n hx hb dX3_first_58 rfl (lv_at hl 1 rfl) ?_
                    refine lv_iload_n hx hb dX3_first_59 rfl (lv_at hl 4 rfl) ?_
                    refine lv_iload_n hx hb dX3_first_60 rfl (lv_at hl 3 rfl) ?_
                    refine vp_callSi (va_Run.run (va_runV (As := [.int (nI i), .int (nI b9)]) (rest := []) ⟨hx, hb, hml, hown, hts⟩ (mtX3_isAhead l g σ μ o (nI i) (nI b9) (vp_in_nI (show i < 60 by omega) (by omega)) (vp_in_nI (show b9 < 60 by omega) (by omega))) (cwV 2 hts gX3_first_X3_isAhead rfl rfl rfl (by decide +kernel) ⟨Nat.le_of_ble_eq_true rfl, Nat.le_of_ble_eq_true rfl⟩) ⟨PW.blind, rcM hC hW, fun U hU hW9 => ⟨rfl, PW.at hC hS hW U hU hW9⟩⟩ rfl rfl hl.1 rfl (lv_room (Nat.le_of_ble_eq_true rfl)) dX3_first_61 ⟨Nat.zero_le _, Nat.zero_le _⟩)) (fun r_33 h_32 => ?_)
                    obtain rfl : r_33 = bI (ahM μ.2 (nI i) (nI b9)) := h_32
                    refine lv_if_eq (tgt := 71) hx hb dX3_first_64 (by decide) (fun c_34 => ?_) (fun c_34 => ?_)
                    · skip
                      replace c_34 := bI_0.mp c_34
                      refine lv_iload_n hx hb dX3_first_71 rfl (lv_at hl 3 rfl) ?_
                      refine lv_istore_n (lv' := [(2, .int (nI b9)), (4, .int 1), (0, .ref (gA g 4)), (1, .int (bI b)), (3, .int (nI i))]) hx hb dX3_first_72 rfl hl (by decide) rfl (fun ls hl => ?_)
                      refine lv_iinc (v := nI (i + 1)) (lv' := [(3, .int (nI (i + 1))), (2, .int (nI b9)), (4, .int 1), (0, .ref (gA g 4)), (1, .int (bI b))]) hx hb dX3_first_73 hl (k := 4) rfl (nI_1 _) (by decide) rfl (fun ls hl => ?_)
                      refine lv_goto (tgt := 4) hx hb dX3_first_76 (by decide) ?_
                      have hct : mf (aM μ.2) (canM μ b) (i + 1) = some b9 := (mf_f (by rw [hff]; simp [canM, thM, mfb, aM, c_16, c_18, c_26, c_28, c_34])).trans hff
                      exact ih (i + 1) (by omega) (by omega) ls (by rw [hct]; exact lv_sub hl [3, 4, 1, 0] rfl)
                    · skip
                      replace c_34 := bI_n0.mp c_34
                      refine lv_iload_n hx hb dX3_first_67 rfl (lv_at hl 4 rfl) ?_
                      refine lv_goto (tgt := 72) hx hb dX3_first_68 (by decide) ?_
                      refine lv_istore_n (lv' := [(2, .int (nI i)), (4, .int 1), (0, .ref (gA g 4)), (1, .int (bI b)), (3, .int (nI i))]) hx hb dX3_first_72 rfl hl (by decide) rfl (fun ls hl => ?_)
                      refine lv_iinc (v := nI (i + 1)) (lv' := [(3, .int (nI (i + 1))), (2, .int (nI i)), (4, .int 1), (0, .ref (gA g 4)), (1, .int (bI b))]) hx hb dX3_first_73 hl (k := 4) rfl (nI_1 _) (by decide) rfl (fun ls hl => ?_)
                      refine lv_goto (tgt := 4) hx hb dX3_first_76 (by decide) ?_
                      have hct : mf (aM μ.2) (canM μ b) (i + 1) = some i := mf_t (by rw [hff]; simp [canM, thM, mfb, aM, c_16, c_18, c_26, c_28, c_34])
                      exact ih (i + 1) (by omega) (by omega) ls (by rw [hct]; exact lv_sub hl [3, 4, 1, 0] rfl)
  exact loop_1 (a + 1) 0 (Nat.zero_le _) (by omega) ls (by exact lv_sub hl [2, 3, 1, 0] rfl)
