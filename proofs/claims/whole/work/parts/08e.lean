set_option maxHeartbeats 4000000 in
set_option maxRecDepth 100000 in
theorem mtX3_enter (l : Launch) (g : Ge) (σ : Sg) (μ : Mg) (o : Nat → Int64) (d : Int32) (hcl : ¬ μ.1 7 = 0 → ∃ k : Nat, 1 ≤ k ∧ k ≤ 6 ∧ μ.1 9 = nI k) : Met l yX3_enter wsX3_enter ({ frames := 1, cells := 0, slots := 0, locals := 22 } : Room) (va_Pc [.ref (gA g 4), .int d] (PW g σ μ o)) (va_Qi (S := Unit) (fun r _ => r = enR μ d) (fun _ t => Wd g σ (enM μ d) o t.heap) (Az g)) 0 0 (Az g) := by
  refine Met.ofW (cc := cX3_enter) (maxL := 3) (ret := (some .boolean)) (by decide) rfl ?_
  intro p e s m args below meth c s₁ B hml hv
  obtain ⟨rfl, hC, hW⟩ := hv
  have hx := B.exec
  have hb := B.bytes
  have hr := B.returns
  have hts := atoms_spec (ws := wsX3_enter) B.pre
  have hown : s.vm.findClass RX3 = some m.cls := findClass_of_methodNamed B.named
  have hlocks := B.notSynchronized
  have hinX3 : ∀ w ∈ wsX30, w ∈ wsX3_enter := by decide +kernel
  have hS : va_S (Az g) s.heap s.heap [] := va_S.rf
  have hl := lv_entry ([.ref (gA g 4), .int d]) (n := 3) (Nat.le_of_ble_eq_true rfl)
  rw [lg_entry_eq]
  generalize (lg_sl ([.ref (gA g 4), .int d]) ++ List.replicate (3 - (lg_sl ([.ref (gA g 4), .int d])).length) Slot.unset).toArray = ls at hl ⊢
  have hl : lv_has ls 3 [(0, .ref (gA g 4)), (1, .int d)] := hl
  refine lv_aload_n hx hb dX3_enter_0 rfl (lv_at hl 0 rfl) ?_
  refine lv_iload_n hx hb dX3_enter_1 rfl (lv_at hl 1 rfl) ?_
  refine lv_iconst (v := 0) hx hb dX3_enter_2 (by decide) ?_
  refine lv_bipush (v := 9) hx hb dX3_enter_3 (by decide) ?_
  refine vp_callSi (va_Run.run (va_runS (As := [.int d, .int 0, .int 9]) (rest := [.ref (gA g 4)]) ⟨hx, hb, hml, hown, hts⟩ (mtX3_isIn l d 0 9) (va_cwS 3 hts gX3_enter_X3_isIn rfl rfl rfl (by decide +kernel) ⟨Nat.le_of_ble_eq_true rfl, Nat.le_of_ble_eq_true rfl⟩) ⟨P0.blind, fun U hU hW9 => ⟨rfl, trivial⟩⟩ rfl rfl hl.1 rfl (lv_room (Nat.le_of_ble_eq_true rfl)) dX3_enter_5 ⟨Nat.zero_le _, Nat.zero_le _⟩)) (fun r_2 h_1 => ?_)
  obtain rfl : r_2 = bI (wi d 0 9) := h_1
  refine lv_if_ne (tgt := 15) hx hb dX3_enter_8 (by decide) (fun c_3 => ?_) (fun c_3 => ?_)
  · skip
    replace c_3 := bI_n0.mp c_3
    refine lv_aload_n hx hb dX3_enter_15 rfl (lv_at hl 0 rfl) ?_
    refine gM (v := .int (μ.1 7)) hx hb hts hinX3 hown hC hW 14 (by decide) (by decide +kernel) rfl rfl dX3_enter_16 ?_
    refine lv_if_eq (tgt := 31) hx hb dX3_enter_19 (by decide) (fun c_4 => ?_) (fun c_4 => ?_)
    · skip
      refine lv_iconst (v := 2) hx hb dX3_enter_31 (by decide) ?_
      refine lv_goto (tgt := 36) hx hb dX3_enter_32 (by decide) ?_
      refine pM (ty := .int) hx hb hts hinX3 hown hC hS hW 12 19 (by decide) (by decide +kernel) (by decide +kernel) (2) rfl rfl dX3_enter_36 (fun H locs hW hS => ?_)
      refine lv_aload_n hx hb dX3_enter_39 rfl (lv_at hl 0 rfl) ?_
      refine gM (v := .int 2) hx hb hts hinX3 hown hC hW 19 (by decide) (by decide +kernel) rfl rfl dX3_enter_40 ?_
      refine lv_if_le (tgt := 48) hx hb dX3_enter_43 (by decide) (fun c_5 => absurd c_5 (by decide)) (fun c_5 => ?_)
      refine lv_iconst (v := 0) hx hb dX3_enter_46 (by decide) ?_
      have hk9 : kMN μ d = 2 := by simp [kMN, c_3, c_4]
      exact W.zret (v := 0) (ty := .boolean) hx hb hr rfl (fun t ht hW9 => ⟨⟨_, (), rfl, (by dsimp only; unfold enR; rw [hk9]; exact (if_neg (by decide)).symm), by first | (dsimp only; rw [ht, show enM μ d = (upd μ.1 12 2, μ.2) from by unfold enM; rw [hk9]; exact if_neg (by decide)]; exact hW) | (rw [ht, show enM μ d = (upd μ.1 12 2, μ.2) from by unfold enM; rw [hk9]; exact if_neg (by decide)]; exact hW)⟩, hS.F ht⟩) hS.2.2 dX3_enter_47
    · skip
      refine lv_aload_n hx hb dX3_enter_22 rfl (lv_at hl 0 rfl) ?_
      refine gM (v := .int (μ.1 10)) hx hb hts hinX3 hown hC hW 17 (by decide) (by decide +kernel) rfl rfl dX3_enter_23 ?_
      refine lv_bipush (v := 12) hx hb dX3_enter_26 (by decide) ?_
      refine lv_icmp_ne (tgt := 35) hx hb dX3_enter_28 (by decide) (fun c_6 => ?_) (fun c_6 => ?_)
      · skip
        refine lv_iconst (v := 0) hx hb dX3_enter_35 (by decide) ?_
        refine pM (ty := .int) hx hb hts hinX3 hown hC hS hW 12 19 (by decide) (by decide +kernel) (by decide +kernel) (0) rfl rfl dX3_enter_36 (fun H locs hW hS => ?_)
        refine lv_aload_n hx hb dX3_enter_39 rfl (lv_at hl 0 rfl) ?_
        refine gM (v := .int 0) hx hb hts hinX3 hown hC hW 19 (by decide) (by decide +kernel) rfl rfl dX3_enter_40 ?_
        refine lv_if_le (tgt := 48) hx hb dX3_enter_43 (by decide) (fun c_7 => ?_) (fun c_7 => absurd c_7 (by decide))
        refine lv_aload_n hx hb dX3_enter_48 rfl (lv_at hl 0 rfl) ?_
        refine lv_dup hx hb dX3_enter_49 rfl ?_
        refine gM (v := .int (μ.1 10)) hx hb hts hinX3 hown hC hW 17 (by decide) (by decide +kernel) rfl rfl dX3_enter_50 ?_
        refine lv_iconst (v := 1) hx hb dX3_enter_53 (by decide) ?_
        refine lv_iadd hx hb dX3_enter_54 ?_
        refine pM (ty := .int) hx hb hts hinX3 hown hC hS hW 10 17 (by decide) (by decide +kernel) (by decide +kernel) ((μ.1 10 + 1)) rfl rfl dX3_enter_55 (fun H locs hW hS => ?_)
        refine lv_aload_n hx hb dX3_enter_58 rfl (lv_at hl 0 rfl) ?_
        refine lv_bipush (v := 10) hx hb dX3_enter_59 (by decide) ?_
        refine lv_aload_n hx hb dX3_enter_61 rfl (lv_at hl 0 rfl) ?_
        refine gM (v := .int (μ.1 11)) hx hb hts hinX3 hown hC hW 18 (by decide) (by decide +kernel) rfl rfl dX3_enter_62 ?_
        refine lv_imul hx hb dX3_enter_65 ?_
        refine lv_iload_n hx hb dX3_enter_66 rfl (lv_at hl 1 rfl) ?_
        refine lv_iadd hx hb dX3_enter_67 ?_
        refine lv_ldc (v := 1000000) hx hb hown (hts (.constant RX3 95 (1000000)) (by decide +kernel)) dX3_enter_68 ?_
        refine lv_irem hx hb dX3_enter_70 (by decide) ?_
        refine pM (ty := .int) hx hb hts hinX3 hown hC hS hW 11 18 (by decide) (by decide +kernel) (by decide +kernel) ((((10 * μ.1 11) + d) - ((10 * μ.1 11) + d) / 1000000 * 1000000)) rfl rfl dX3_enter_71 (fun H locs hW hS => ?_)
        refine lv_aload_n hx hb dX3_enter_74 rfl (lv_at hl 0 rfl) ?_
        refine gM (v := .int (μ.1 10 + 1)) hx hb hts hinX3 hown hC hW 17 (by decide) (by decide +kernel) rfl rfl dX3_enter_75 ?_
        refine lv_aload_n hx hb dX3_enter_78 rfl (lv_at hl 0 rfl) ?_
        refine gM (v := .int (μ.1 9)) hx hb hts hinX3 hown hC hW 16 (by decide) (by decide +kernel) rfl rfl dX3_enter_79 ?_
        refine lv_icmp_lt (tgt := 108) hx hb dX3_enter_82 (by decide) (fun c_8 => ?_) (fun c_8 => ?_)
        · skip
          refine lv_iconst (v := 0) hx hb dX3_enter_108 (by decide) ?_
          refine lv_istore_n (lv' := [(2, .int 0), (0, .ref (gA g 4)), (1, .int d)]) hx hb dX3_enter_109 rfl hl (by decide) rfl (fun ls hl => ?_)
          refine lv_aload_n hx hb dX3_enter_110 rfl (lv_at hl 1 rfl) ?_
          refine lv_iload_n hx hb dX3_enter_111 rfl (lv_at hl 0 rfl) ?_
          refine lv_if_ne (tgt := 119) hx hb dX3_enter_112 (by decide) (fun c_9 => absurd c_9 (by decide)) (fun c_9 => ?_)
          refine lv_iconst (v := 1) hx hb dX3_enter_115 (by decide) ?_
          refine lv_goto (tgt := 120) hx hb dX3_enter_116 (by decide) ?_
          refine pM (ty := .boolean) hx hb hts hinX3 hown hC hS hW 7 14 (by decide) (by decide +kernel) (by decide +kernel) (1) rfl rfl dX3_enter_120 (fun H locs hW hS => ?_)
          refine lv_iload_n hx hb dX3_enter_123 rfl (lv_at hl 0 rfl) ?_
          have hk9 : kMN μ d = 0 := by simp [kMN, c_3, c_4, c_6, c_8]
          have hb9 : enB μ d = false := by simp only [enB, tl1, rm, ↓reduceIte, decide_true, decide_false, c_8]
          exact W.zret (v := 0) (ty := .boolean) hx hb hr rfl (fun t ht hW9 => ⟨⟨_, (), rfl, (by dsimp only; unfold enR; rw [hk9, if_pos rfl, hb9]; rfl), (by have hz9 : enM μ d = (upd (upd (upd (upd μ.1 12 0) 10 ((μ.1 10 + 1))) 11 ((((10 * μ.1 11) + d) - ((10 * μ.1 11) + d) / 1000000 * 1000000))) 7 1, μ.2) := (by unfold enM; rw [hk9, if_pos rfl, enP, hb9]; rfl); first | (dsimp only; rw [ht, hz9]; exact hW) | (rw [ht, hz9]; exact hW))⟩, hS.F ht⟩) hS.2.2 dX3_enter_124
        · skip
          refine lv_aload_n hx hb dX3_enter_85 rfl (lv_at hl 0 rfl) ?_
          refine gM (v := .int (((10 * μ.1 11) + d) - ((10 * μ.1 11) + d) / 1000000 * 1000000)) hx hb hts hinX3 hown hC hW 18 (by decide) (by decide +kernel) rfl rfl dX3_enter_86 ?_
          refine lv_aload_n hx hb dX3_enter_89 rfl (lv_at hl 0 rfl) ?_
          refine gM (v := .int (μ.1 9)) hx hb hts hinX3 hown hC hW 16 (by decide) (by decide +kernel) rfl rfl dX3_enter_90 ?_
          have hlk := c_4
          refine vp_callSi (va_Run.run (va_runS (As := [.int (μ.1 9)]) (rest := [.int (((10 * μ.1 11) + d) - ((10 * μ.1 11) + d) / 1000000 * 1000000)]) ⟨hx, hb, hml, hown, hts⟩ (mtX3_ten l (μ.1 9) (hcl c_4)) (va_cwS 1 hts gX3_enter_X3_ten rfl rfl rfl (by decide +kernel) ⟨Nat.le_of_ble_eq_true rfl, Nat.le_of_ble_eq_true rfl⟩) ⟨P0.blind, fun U hU hW9 => ⟨rfl, trivial⟩⟩ rfl rfl hl.1 rfl (lv_room (Nat.le_of_ble_eq_true rfl)) dX3_enter_93 ⟨Nat.zero_le _, Nat.zero_le _⟩)) (fun r_11 h_10 => ?_)
          obtain rfl : r_11 = tn (μ.1 9) := h_10
          refine lv_irem hx hb dX3_enter_96 (tn_ne (hcl hlk)) ?_
          refine lv_aload_n hx hb dX3_enter_97 rfl (lv_at hl 0 rfl) ?_
          refine gM (v := .int (μ.1 8)) hx hb hts hinX3 hown hC hW 15 (by decide) (by decide +kernel) rfl rfl dX3_enter_98 ?_
          refine lv_icmp_ne (tgt := 108) hx hb dX3_enter_101 (by decide) (fun c_12 => ?_) (fun c_12 => ?_)
          · skip
            refine lv_iconst (v := 0) hx hb dX3_enter_108 (by decide) ?_
            refine lv_istore_n (lv' := [(2, .int 0), (0, .ref (gA g 4)), (1, .int d)]) hx hb dX3_enter_109 rfl hl (by decide) rfl (fun ls hl => ?_)
            refine lv_aload_n hx hb dX3_enter_110 rfl (lv_at hl 1 rfl) ?_
            refine lv_iload_n hx hb dX3_enter_111 rfl (lv_at hl 0 rfl) ?_
            refine lv_if_ne (tgt := 119) hx hb dX3_enter_112 (by decide) (fun c_13 => absurd c_13 (by decide)) (fun c_13 => ?_)
            refine lv_iconst (v := 1) hx hb dX3_enter_115 (by decide) ?_
            refine lv_goto (tgt := 120) hx hb dX3_enter_116 (by decide) ?_
            refine pM (ty := .boolean) hx hb hts hinX3 hown hC hS hW 7 14 (by decide) (by decide +kernel) (by decide +kernel) (1) rfl rfl dX3_enter_120 (fun H locs hW hS => ?_)
            refine lv_iload_n hx hb dX3_enter_123 rfl (lv_at hl 0 rfl) ?_
            have hk9 : kMN μ d = 0 := by simp [kMN, c_3, c_4, c_6, c_8, c_12]
            have hb9 : enB μ d = false := by simp only [enB, tl1, rm, ↓reduceIte, decide_true, decide_false, c_8, c_12]
            exact W.zret (v := 0) (ty := .boolean) hx hb hr rfl (fun t ht hW9 => ⟨⟨_, (), rfl, (by dsimp only; unfold enR; rw [hk9, if_pos rfl, hb9]; rfl), (by have hz9 : enM μ d = (upd (upd (upd (upd μ.1 12 0) 10 ((μ.1 10 + 1))) 11 ((((10 * μ.1 11) + d) - ((10 * μ.1 11) + d) / 1000000 * 1000000))) 7 1, μ.2) := (by unfold enM; rw [hk9, if_pos rfl, enP, hb9]; rfl); first | (dsimp only; rw [ht, hz9]; exact hW) | (rw [ht, hz9]; exact hW))⟩, hS.F ht⟩) hS.2.2 dX3_enter_124
          · skip
            refine lv_iconst (v := 1) hx hb dX3_enter_104 (by decide) ?_
            refine lv_goto (tgt := 109) hx hb dX3_enter_105 (by decide) ?_
            refine lv_istore_n (lv' := [(2, .int 1), (0, .ref (gA g 4)), (1, .int d)]) hx hb dX3_enter_109 rfl hl (by decide) rfl (fun ls hl => ?_)
            refine lv_aload_n hx hb dX3_enter_110 rfl (lv_at hl 1 rfl) ?_
            refine lv_iload_n hx hb dX3_enter_111 rfl (lv_at hl 0 rfl) ?_
            refine lv_if_ne (tgt := 119) hx hb dX3_enter_112 (by decide) (fun c_14 => ?_) (fun c_14 => absurd c_14 (by decide))
            refine lv_iconst (v := 0) hx hb dX3_enter_119 (by decide) ?_
            refine pM (ty := .boolean) hx hb hts hinX3 hown hC hS hW 7 14 (by decide) (by decide +kernel) (by decide +kernel) (0) rfl rfl dX3_enter_120 (fun H locs hW hS => ?_)
            refine lv_iload_n hx hb dX3_enter_123 rfl (lv_at hl 0 rfl) ?_
            have hk9 : kMN μ d = 0 := by simp [kMN, c_3, c_4, c_6, c_8, c_12]
            have hb9 : enB μ d = true := by simp only [enB, tl1, rm, ↓reduceIte, decide_true, decide_false, c_8, c_12]
            exact W.zret (v := 1) (ty := .boolean) hx hb hr rfl (fun t ht hW9 => ⟨⟨_, (), rfl, (by dsimp only; unfold enR; rw [hk9, if_pos rfl, hb9]; rfl), (by have hz9 : enM μ d = (upd (upd (upd (upd μ.1 12 0) 10 ((μ.1 10 + 1))) 11 ((((10 * μ.1 11) + d) - ((10 * μ.1 11) + d) / 1000000 * 1000000))) 7 0, μ.2) := (by unfold enM; rw [hk9, if_pos rfl, enP, hb9]; rfl); first | (dsimp only; rw [ht, hz9]; exact hW) | (rw [ht, hz9]; exact hW))⟩, hS.F ht⟩) hS.2.2 dX3_enter_124
      · skip
        refine lv_iconst (v := 2) hx hb dX3_enter_31 (by decide) ?_
        refine lv_goto (tgt := 36) hx hb dX3_enter_32 (by decide) ?_
        refine pM (ty := .int) hx hb hts hinX3 hown hC hS hW 12 19 (by decide) (by decide +kernel) (by decide +kernel) (2) rfl rfl dX3_enter_36 (fun H locs hW hS => ?_)
        refine lv_aload_n hx hb dX3_enter_39 rfl (lv_at hl 0 rfl) ?_
        refine gM (v := .int 2) hx hb hts hinX3 hown hC hW 19 (by decide) (by decide +kernel) rfl rfl dX3_enter_40 ?_
        refine lv_if_le (tgt := 48) hx hb dX3_enter_43 (by decide) (fun c_15 => absurd c_15 (by decide)) (fun c_15 => ?_)
        refine lv_iconst (v := 0) hx hb dX3_enter_46 (by decide) ?_
        have hk9 : kMN μ d = 2 := by simp [kMN, c_3, c_4, c_6]
        exact W.zret (v := 0) (ty := .boolean) hx hb hr rfl (fun t ht hW9 => ⟨⟨_, (), rfl, (by dsimp only; unfold enR; rw [hk9]; exact (if_neg (by decide)).symm), by first | (dsimp only; rw [ht, show enM μ d = (upd μ.1 12 2, μ.2) from by unfold enM; rw [hk9]; exact if_neg (by decide)]; exact hW) | (rw [ht, show enM μ d = (upd μ.1 12 2, μ.2) from by unfold enM; rw [hk9]; exact if_neg (by decide)]; exact hW)⟩, hS.F ht⟩) hS.2.2 dX3_enter_47
  · skip
    replace c_3 := bI_0.mp c_3
    refine lv_iconst (v := 1) hx hb dX3_enter_11 (by decide) ?_
    refine lv_goto (tgt := 36) hx hb dX3_enter_12 (by decide) ?_
    refine pM (ty := .int) hx hb hts hinX3 hown hC hS hW 12 19 (by decide) (by decide +kernel) (by decide +kernel) (1) rfl rfl dX3_enter_36 (fun H locs hW hS => ?_)
    refine lv_aload_n hx hb dX3_enter_39 rfl (lv_at hl 0 rfl) ?_
    refine gM (v := .int 1) hx hb hts hinX3 hown hC hW 19 (by decide) (by decide +kernel) rfl rfl dX3_enter_40 ?_
    refine lv_if_le (tgt := 48) hx hb dX3_enter_43 (by decide) (fun c_16 => absurd c_16 (by decide)) (fun c_16 => ?_)
    refine lv_iconst (v := 0) hx hb dX3_enter_46 (by decide) ?_
    have hk9 : kMN μ d = 1 := by simp [kMN, c_3]
    exact W.zret (v := 0) (ty := .boolean) hx hb hr rfl (fun t ht hW9 => ⟨⟨_, (), rfl, (by dsimp only; unfold enR; rw [hk9]; exact (if_neg (by decide)).symm), by first | (dsimp only; rw [ht, show enM μ d = (upd μ.1 12 1, μ.2) from by unfold enM; rw [hk9]; exact if_neg (by decide)]; exact hW) | (rw [ht, show enM μ d = (upd μ.1 12 1, μ.2) from by unfold enM; rw [hk9]; exact if_neg (by decide)]; exact hW)⟩, hS.F ht⟩) hS.2.2 dX3_enter_47
