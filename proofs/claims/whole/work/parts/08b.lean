set_option maxHeartbeats 4000000 in
set_option maxRecDepth 100000 in
theorem mtX3_setPattern (l : Launch) (g : Ge) (σ : Sg) (μ : Mg) (o : Nat → Int64) (x y : Int32) (a : Nat) (hM : μ.1 0 = nI a) (ha : a ≤ 60) : Met l yX3_setPattern wsX3_setPattern ({ frames := 2, cells := 0, slots := 0, locals := 43 } : Room) (va_Pc [.ref (gA g 4), .int x, .int y] (PW g σ μ o)) (va_Qi (S := Unit) (fun r _ => r = paR μ a x y) (fun _ t => Wd g σ (paM μ x y) o t.heap) (Az g)) 0 0 (Az g) := by
  refine Met.ofW (cc := cX3_setPattern) (maxL := 5) (ret := (some .int)) (by decide) rfl ?_
  intro p e s m args below meth c s₁ B hml hv
  obtain ⟨rfl, hC, hW⟩ := hv
  have hx := B.exec
  have hb := B.bytes
  have hr := B.returns
  have hts := atoms_spec (ws := wsX3_setPattern) B.pre
  have hown : s.vm.findClass RX3 = some m.cls := findClass_of_methodNamed B.named
  have hlocks := B.notSynchronized
  have hinX3 : ∀ w ∈ wsX30, w ∈ wsX3_setPattern := by decide +kernel
  have hS : va_S (Az g) s.heap s.heap [] := va_S.rf
  have hl := lv_entry ([.ref (gA g 4), .int x, .int y]) (n := 5) (Nat.le_of_ble_eq_true rfl)
  rw [lg_entry_eq]
  generalize (lg_sl ([.ref (gA g 4), .int x, .int y]) ++ List.replicate (5 - (lg_sl ([.ref (gA g 4), .int x, .int y])).length) Slot.unset).toArray = ls at hl ⊢
  have hl : lv_has ls 5 [(0, .ref (gA g 4)), (1, .int x), (2, .int y)] := hl
  refine lv_aload_n hx hb dX3_setPattern_0 rfl (lv_at hl 0 rfl) ?_
  refine lv_iload_n hx hb dX3_setPattern_1 rfl (lv_at hl 1 rfl) ?_
  refine lv_iconst (v := 0) hx hb dX3_setPattern_2 (by decide) ?_
  refine lv_bipush (v := 99) hx hb dX3_setPattern_3 (by decide) ?_
  refine vp_callSi (va_Run.run (va_runS (As := [.int x, .int 0, .int 99]) (rest := [.ref (gA g 4)]) ⟨hx, hb, hml, hown, hts⟩ (mtX3_isIn l x 0 99) (va_cwS 3 hts gX3_setPattern_X3_isIn rfl rfl rfl (by decide +kernel) ⟨Nat.le_of_ble_eq_true rfl, Nat.le_of_ble_eq_true rfl⟩) ⟨P0.blind, fun U hU hW9 => ⟨rfl, trivial⟩⟩ rfl rfl hl.1 rfl (lv_room (Nat.le_of_ble_eq_true rfl)) dX3_setPattern_5 ⟨Nat.zero_le _, Nat.zero_le _⟩)) (fun r_2 h_1 => ?_)
  obtain rfl : r_2 = bI (wi x 0 99) := h_1
  refine lv_if_eq (tgt := 21) hx hb dX3_setPattern_8 (by decide) (fun c_3 => ?_) (fun c_3 => ?_)
  · skip
    replace c_3 := bI_0.mp c_3
    refine lv_iconst (v := 1) hx hb dX3_setPattern_21 (by decide) ?_
    refine lv_goto (tgt := 37) hx hb dX3_setPattern_22 (by decide) ?_
    refine pM (ty := .int) hx hb hts hinX3 hown hC hS hW 12 19 (by decide) (by decide +kernel) (by decide +kernel) (1) rfl rfl dX3_setPattern_37 (fun H locs hW hS => ?_)
    refine lv_aload_n hx hb dX3_setPattern_40 rfl (lv_at hl 0 rfl) ?_
    refine gM (v := .int 1) hx hb hts hinX3 hown hC hW 19 (by decide) (by decide +kernel) rfl rfl dX3_setPattern_41 ?_
    refine lv_if_le (tgt := 49) hx hb dX3_setPattern_44 (by decide) (fun c_4 => absurd c_4 (by decide)) (fun c_4 => ?_)
    refine lv_iconst (v := 0) hx hb dX3_setPattern_47 (by decide) ?_
    have hk9 : kMP μ x y = 1 := by simp [kMP, c_3]
    exact W.iret (v := 0) hx hb hr (fun t ht hW9 => ⟨⟨_, (), rfl, (by dsimp only; unfold paR; rw [hk9]; exact (if_neg (by decide)).symm), by first | (dsimp only; rw [ht, show paM μ x y = (upd μ.1 12 1, μ.2) from by unfold paM; rw [hk9]; first | exact if_pos rfl | exact if_neg (by decide)]; exact hW) | (rw [ht, show paM μ x y = (upd μ.1 12 1, μ.2) from by unfold paM; rw [hk9]; first | exact if_pos rfl | exact if_neg (by decide)]; exact hW)⟩, hS.F ht⟩) hS.2.2 dX3_setPattern_48
  · skip
    replace c_3 := bI_n0.mp c_3
    refine lv_iload_n hx hb dX3_setPattern_11 rfl (lv_at hl 2 rfl) ?_
    refine lv_iload_n hx hb dX3_setPattern_12 rfl (lv_at hl 1 rfl) ?_
    refine lv_bipush (v := 99) hx hb dX3_setPattern_13 (by decide) ?_
    refine vp_callSi (va_Run.run (va_runS (As := [.int y, .int x, .int 99]) (rest := [.ref (gA g 4)]) ⟨hx, hb, hml, hown, hts⟩ (mtX3_isIn l y x 99) (va_cwS 3 hts gX3_setPattern_X3_isIn rfl rfl rfl (by decide +kernel) ⟨Nat.le_of_ble_eq_true rfl, Nat.le_of_ble_eq_true rfl⟩) ⟨P0.blind, fun U hU hW9 => ⟨rfl, trivial⟩⟩ rfl rfl hl.1 rfl (lv_room (Nat.le_of_ble_eq_true rfl)) dX3_setPattern_15 ⟨Nat.zero_le _, Nat.zero_le _⟩)) (fun r_6 h_5 => ?_)
    obtain rfl : r_6 = bI (wi y x 99) := h_5
    refine lv_if_ne (tgt := 25) hx hb dX3_setPattern_18 (by decide) (fun c_7 => ?_) (fun c_7 => ?_)
    · skip
      replace c_7 := bI_n0.mp c_7
      refine lv_aload_n hx hb dX3_setPattern_25 rfl (lv_at hl 0 rfl) ?_
      refine gM (v := .int (μ.1 7)) hx hb hts hinX3 hown hC hW 14 (by decide) (by decide +kernel) rfl rfl dX3_setPattern_26 ?_
      refine lv_if_eq (tgt := 36) hx hb dX3_setPattern_29 (by decide) (fun c_8 => ?_) (fun c_8 => ?_)
      · skip
        refine lv_iconst (v := 0) hx hb dX3_setPattern_36 (by decide) ?_
        refine pM (ty := .int) hx hb hts hinX3 hown hC hS hW 12 19 (by decide) (by decide +kernel) (by decide +kernel) (0) rfl rfl dX3_setPattern_37 (fun H locs hW hS => ?_)
        refine lv_aload_n hx hb dX3_setPattern_40 rfl (lv_at hl 0 rfl) ?_
        refine gM (v := .int 0) hx hb hts hinX3 hown hC hW 19 (by decide) (by decide +kernel) rfl rfl dX3_setPattern_41 ?_
        refine lv_if_le (tgt := 49) hx hb dX3_setPattern_44 (by decide) (fun c_9 => ?_) (fun c_9 => absurd c_9 (by decide))
        refine lv_aload_n hx hb dX3_setPattern_49 rfl (lv_at hl 0 rfl) ?_
        refine lv_iload_n hx hb dX3_setPattern_50 rfl (lv_at hl 1 rfl) ?_
        refine pM (ty := .int) hx hb hts hinX3 hown hC hS hW 3 10 (by decide) (by decide +kernel) (by decide +kernel) (x) rfl rfl dX3_setPattern_51 (fun H locs hW hS => ?_)
        refine lv_aload_n hx hb dX3_setPattern_54 rfl (lv_at hl 0 rfl) ?_
        refine lv_iload_n hx hb dX3_setPattern_55 rfl (lv_at hl 2 rfl) ?_
        refine pM (ty := .int) hx hb hts hinX3 hown hC hS hW 4 11 (by decide) (by decide +kernel) (by decide +kernel) (y) rfl rfl dX3_setPattern_56 (fun H locs hW hS => ?_)
        refine lv_iconst (v := 0) hx hb dX3_setPattern_59 (by decide) ?_
        refine lv_istore_n (lv' := [(3, .int 0), (0, .ref (gA g 4)), (1, .int x), (2, .int y)]) hx hb dX3_setPattern_60 rfl hl (by decide) rfl (fun ls hl => ?_)
        refine lv_iconst (v := 0) hx hb dX3_setPattern_61 (by decide) ?_
        refine lv_istore (lv' := [(4, .int 0), (3, .int 0), (0, .ref (gA g 4)), (1, .int x), (2, .int y)]) hx hb dX3_setPattern_62 hl (by decide) rfl (fun ls hl => ?_)
        have loop_10 : ∀ (n9 i : Nat), i ≤ a → a < i + n9 → True → ∀ (ls : Array Slot), lv_has ls 5 [(0, .ref (gA g 4)), (1, .int x), (2, .int y), (3, .int (nI (ct (fiP (paP μ x y)) i))), (4, .int (nI i))] → W p l e (headSpec wsX3_setPattern ({ frames := 2, cells := 0, slots := 0, locals := 43 } : Room)).room s m ([.ref (gA g 4), .int x, .int y] : List Value).toArray below meth c H locs 0 0 (MQ below (va_Qi (S := Unit) (fun r _ => r = paR μ a x y) (fun _ t => Wd g σ (paM μ x y) o t.heap) (Az g)) ([.ref (gA g 4), .int x, .int y] : List Value).toArray s 0 0 (Az g)) (F0 m 64 ls []) := by
          intro n9
          induction n9 with
          | zero =>
            intro i h1 h2
            exact absurd h2 (by omega)
          | succ n9 ih =>
            intro i hi hin hinv ls hl
            refine lv_iload hx hb dX3_setPattern_64 (lv_at hl 4 rfl) ?_
            refine lv_aload_n hx hb dX3_setPattern_66 rfl (lv_at hl 0 rfl) ?_
            refine gM (v := .int (μ.1 0)) hx hb hts hinX3 hown hC hW 0 (by decide) (by decide +kernel) rfl rfl dX3_setPattern_67 ?_
            refine lv_icmp_ge (tgt := 106) hx hb dX3_setPattern_70 (by decide) (fun c_11 => ?_) (fun c_11 => ?_)
            · skip
              have hi16 : i = a := by rw [hM, nI_leI (by omega) (by omega)] at c_11; omega
              refine lv_iload_n hx hb dX3_setPattern_106 rfl (lv_at hl 3 rfl) ?_
              have hk9 : kMP μ x y = 0 := by simp [kMP, c_3, c_7, c_8]
              exact W.iret (v := nI (ct (fiP (paP μ x y)) i)) hx hb hr (fun t ht hW9 => ⟨⟨_, (), rfl, (by dsimp only; unfold paR; rw [hk9, if_pos rfl, hi16]), by first | (dsimp only; rw [ht, show paM μ x y = (upd (upd (upd μ.1 12 0) 3 x) 4 y, μ.2) from by unfold paM; rw [hk9]; first | exact if_pos rfl | exact if_neg (by decide)]; exact hW) | (rw [ht, show paM μ x y = (upd (upd (upd μ.1 12 0) 3 x) 4 y, μ.2) from by unfold paM; rw [hk9]; first | exact if_pos rfl | exact if_neg (by decide)]; exact hW)⟩, hS.F ht⟩) hS.2.2 dX3_setPattern_107
            · skip
              have hlt : i < a := by rw [hM, nI_leI (by omega) (by omega)] at c_11; omega
              refine lv_iload_n hx hb dX3_setPattern_73 rfl (lv_at hl 3 rfl) ?_
              refine lv_aload_n hx hb dX3_setPattern_74 rfl (lv_at hl 0 rfl) ?_
              refine gM (v := .ref (gA g 5)) hx hb hts hinX3 hown hC hW 1 (by decide) (by decide +kernel) rfl rfl dX3_setPattern_75 ?_
              refine lv_iload hx hb dX3_setPattern_78 (lv_at hl 4 rfl) ?_
              refine mLdZ hx hb hC hW (show i < 60 by omega) dX3_setPattern_80 ?_
              refine lv_if_eq (tgt := 97) hx hb dX3_setPattern_81 (by decide) (fun c_12 => ?_) (fun c_12 => ?_)
              · skip
                refine lv_iconst (v := 0) hx hb dX3_setPattern_97 (by decide) ?_
                refine lv_iadd hx hb dX3_setPattern_98 ?_
                refine lv_istore_n (lv' := [(3, .int ((nI (ct (fiP (paP μ x y)) i) + 0))), (0, .ref (gA g 4)), (1, .int x), (2, .int y), (4, .int (nI i))]) hx hb dX3_setPattern_99 rfl hl (by decide) rfl (fun ls hl => ?_)
                refine lv_iinc (v := nI (i + 1)) (lv' := [(4, .int (nI (i + 1))), (3, .int ((nI (ct (fiP (paP μ x y)) i) + 0))), (0, .ref (gA g 4)), (1, .int x), (2, .int y)]) hx hb dX3_setPattern_100 hl (k := 4) rfl (nI_1 _) (by decide) rfl (fun ls hl => ?_)
                refine lv_goto (tgt := 64) hx hb dX3_setPattern_103 (by decide) ?_
                have hct : nI (ct (fiP (paP μ x y)) (i + 1)) = nI (ct (fiP (paP μ x y)) i) + 0 := by rw [ct_f (by simp [fiP, thM, paP, c_12]), Int32.add_zero]
                exact ih (i + 1) (by omega) (by omega) trivial ls (by rw [hct]; exact lv_sub hl [2, 3, 4, 1, 0] rfl)
              · skip
                refine lv_aload_n hx hb dX3_setPattern_84 rfl (lv_at hl 0 rfl) ?_
                refine lv_iload hx hb dX3_setPattern_85 (lv_at hl 4 rfl) ?_
                refine vp_callSi (va_Run.run (va_runV (As := [.int (nI i)]) (rest := [.int (nI (ct (fiP (paP μ x y)) i))]) ⟨hx, hb, hml, hown, hts⟩ (mtX3_fits l g σ ((upd (upd (upd μ.1 12 0) 3 x) 4 y, μ.2)) o (nI i) (vp_in_nI (show i < 60 by omega) (by omega))) (cwV 1 hts gX3_setPattern_X3_fits rfl rfl rfl (by decide +kernel) ⟨Nat.le_of_ble_eq_true rfl, Nat.le_of_ble_eq_true rfl⟩) ⟨PW.blind, rcM hC hW, fun U hU hW9 => ⟨rfl, PW.at hC hS hW U hU hW9⟩⟩ rfl rfl hl.1 rfl (lv_room (Nat.le_of_ble_eq_true rfl)) dX3_setPattern_87 ⟨Nat.zero_le _, Nat.zero_le _⟩)) (fun r_14 h_13 => ?_)
                obtain rfl : r_14 = bI (fitM (upd (upd (upd μ.1 12 0) 3 x) 4 y, μ.2) (nI i)) := h_13
                refine lv_if_eq (tgt := 97) hx hb dX3_setPattern_90 (by decide) (fun c_15 => ?_) (fun c_15 => ?_)
                · skip
                  replace c_15 := bI_0.mp c_15
                  refine lv_iconst (v := 0) hx hb dX3_setPattern_97 (by decide) ?_
                  refine lv_iadd hx hb dX3_setPattern_98 ?_
                  refine lv_istore_n (lv' := [(3, .int ((nI (ct (fiP (paP μ x y)) i) + 0))), (0, .ref (gA g 4)), (1, .int x), (2, .int y), (4, .int (nI i))]) hx hb dX3_setPattern_99 rfl hl (by decide) rfl (fun ls hl => ?_)
                  refine lv_iinc (v := nI (i + 1)) (lv' := [(4, .int (nI (i + 1))), (3, .int ((nI (ct (fiP (paP μ x y)) i) + 0))), (0, .ref (gA g 4)), (1, .int x), (2, .int y)]) hx hb dX3_setPattern_100 hl (k := 4) rfl (nI_1 _) (by decide) rfl (fun ls hl => ?_)
                  refine lv_goto (tgt := 64) hx hb dX3_setPattern_103 (by decide) ?_
                  have hct : nI (ct (fiP (paP μ x y)) (i + 1)) = nI (ct (fiP (paP μ x y)) i) + 0 := by rw [ct_f (by simp [fiP, thM, paP, c_12, c_15]), Int32.add_zero]
                  exact ih (i + 1) (by omega) (by omega) trivial ls (by rw [hct]; exact lv_sub hl [2, 3, 4, 1, 0] rfl)
                · skip
                  replace c_15 := bI_n0.mp c_15
                  refine lv_iconst (v := 1) hx hb dX3_setPattern_93 (by decide) ?_
                  refine lv_goto (tgt := 98) hx hb dX3_setPattern_94 (by decide) ?_
                  refine lv_iadd hx hb dX3_setPattern_98 ?_
                  refine lv_istore_n (lv' := [(3, .int ((nI (ct (fiP (paP μ x y)) i) + 1))), (0, .ref (gA g 4)), (1, .int x), (2, .int y), (4, .int (nI i))]) hx hb dX3_setPattern_99 rfl hl (by decide) rfl (fun ls hl => ?_)
                  refine lv_iinc (v := nI (i + 1)) (lv' := [(4, .int (nI (i + 1))), (3, .int ((nI (ct (fiP (paP μ x y)) i) + 1))), (0, .ref (gA g 4)), (1, .int x), (2, .int y)]) hx hb dX3_setPattern_100 hl (k := 4) rfl (nI_1 _) (by decide) rfl (fun ls hl => ?_)
                  refine lv_goto (tgt := 64) hx hb dX3_setPattern_103 (by decide) ?_
                  have hct : nI (ct (fiP (paP μ x y)) (i + 1)) = nI (ct (fiP (paP μ x y)) i) + 1 := by rw [ct_t (by simp [fiP, thM, paP, c_12, c_15])]; exact (nI_1 _).symm
                  exact ih (i + 1) (by omega) (by omega) trivial ls (by rw [hct]; exact lv_sub hl [2, 3, 4, 1, 0] rfl)
        exact loop_10 (a + 1) 0 (Nat.zero_le _) (by omega) trivial ls (by exact lv_sub hl [2, 3, 4, 1, 0] rfl)
      · skip
        refine lv_iconst (v := 2) hx hb dX3_setPattern_32 (by decide) ?_
        refine lv_goto (tgt := 37) hx hb dX3_setPattern_33 (by decide) ?_
        refine pM (ty := .int) hx hb hts hinX3 hown hC hS hW 12 19 (by decide) (by decide +kernel) (by decide +kernel) (2) rfl rfl dX3_setPattern_37 (fun H locs hW hS => ?_)
        refine lv_aload_n hx hb dX3_setPattern_40 rfl (lv_at hl 0 rfl) ?_
        refine gM (v := .int 2) hx hb hts hinX3 hown hC hW 19 (by decide) (by decide +kernel) rfl rfl dX3_setPattern_41 ?_
        refine lv_if_le (tgt := 49) hx hb dX3_setPattern_44 (by decide) (fun c_16 => absurd c_16 (by decide)) (fun c_16 => ?_)
        refine lv_iconst (v := 0) hx hb dX3_setPattern_47 (by decide) ?_
        have hk9 : kMP μ x y = 2 := by simp [kMP, c_3, c_7, c_8]
        exact W.iret (v := 0) hx hb hr (fun t ht hW9 => ⟨⟨_, (), rfl, (by dsimp only; unfold paR; rw [hk9]; exact (if_neg (by decide)).symm), by first | (dsimp only; rw [ht, show paM μ x y = (upd μ.1 12 2, μ.2) from by unfold paM; rw [hk9]; first | exact if_pos rfl | exact if_neg (by decide)]; exact hW) | (rw [ht, show paM μ x y = (upd μ.1 12 2, μ.2) from by unfold paM; rw [hk9]; first | exact if_pos rfl | exact if_neg (by decide)]; exact hW)⟩, hS.F ht⟩) hS.2.2 dX3_setPattern_48
    · skip
      replace c_7 := bI_0.mp c_7
      refine lv_iconst (v := 1) hx hb dX3_setPattern_21 (by decide) ?_
      refine lv_goto (tgt := 37) hx hb dX3_setPattern_22 (by decide) ?_
      refine pM (ty := .int) hx hb hts hinX3 hown hC hS hW 12 19 (by decide) (by decide +kernel) (by decide +kernel) (1) rfl rfl dX3_setPattern_37 (fun H locs hW hS => ?_)
      refine lv_aload_n hx hb dX3_setPattern_40 rfl (lv_at hl 0 rfl) ?_
      refine gM (v := .int 1) hx hb hts hinX3 hown hC hW 19 (by decide) (by decide +kernel) rfl rfl dX3_setPattern_41 ?_
      refine lv_if_le (tgt := 49) hx hb dX3_setPattern_44 (by decide) (fun c_17 => absurd c_17 (by decide)) (fun c_17 => ?_)
      refine lv_iconst (v := 0) hx hb dX3_setPattern_47 (by decide) ?_
      have hk9 : kMP μ x y = 1 := by simp [kMP, c_3, c_7]
      exact W.iret (v := 0) hx hb hr (fun t ht hW9 => ⟨⟨_, (), rfl, (by dsimp only; unfold paR; rw [hk9]; exact (if_neg (by decide)).symm), by first | (dsimp only; rw [ht, show paM μ x y = (upd μ.1 12 1, μ.2) from by unfold paM; rw [hk9]; first | exact if_pos rfl | exact if_neg (by decide)]; exact hW) | (rw [ht, show paM μ x y = (upd μ.1 12 1, μ.2) from by unfold paM; rw [hk9]; first | exact if_pos rfl | exact if_neg (by decide)]; exact hW)⟩, hS.F ht⟩) hS.2.2 dX3_setPattern_48
