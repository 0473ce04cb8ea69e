set_option maxHeartbeats 4000000 in
set_option maxRecDepth 100000 in
theorem mtX3_start (l : Launch) (g : Ge) (σ : Sg) (μ : Mg) (o : Nat → Int64) (a : Nat) (hM : μ.1 0 = nI a) (ha : a ≤ 60) : Met l yX3_start wsX3_start ({ frames := 4, cells := 0, slots := 0, locals := 93 } : Room) (va_Pc [.ref (gA g 4)] (PW g σ μ o)) (va_Qi (S := Unit) (fun r _ => r = stR μ a) (fun _ t => Wd g σ (stM μ a) o t.heap) (Az g)) 0 0 (Az g) := by
  refine Met.ofW (cc := cX3_start) (maxL := 2) (ret := (some .int)) (by decide) rfl ?_
  intro p e s m args below meth c s₁ B hml hv
  obtain ⟨rfl, hC, hW⟩ := hv
  have hx := B.exec
  have hb := B.bytes
  have hr := B.returns
  have hts := atoms_spec (ws := wsX3_start) B.pre
  have hown : s.vm.findClass RX3 = some m.cls := findClass_of_methodNamed B.named
  have hlocks := B.notSynchronized
  have hinX3 : ∀ w ∈ wsX30, w ∈ wsX3_start := by decide +kernel
  have hS : va_S (Az g) s.heap s.heap [] := va_S.rf
  have hl := lv_entry ([.ref (gA g 4)]) (n := 2) (Nat.le_of_ble_eq_true rfl)
  rw [lg_entry_eq]
  generalize (lg_sl ([.ref (gA g 4)]) ++ List.replicate (2 - (lg_sl ([.ref (gA g 4)])).length) Slot.unset).toArray = ls at hl ⊢
  have hl : lv_has ls 2 [(0, .ref (gA g 4))] := hl
  refine lv_aload_n hx hb dX3_start_0 rfl (lv_at hl 0 rfl) ?_
  refine vp_callSi (va_Run.run (va_runV (As := []) (rest := []) ⟨hx, hb, hml, hown, hts⟩ (mtX3_chosen l g σ μ o a hM ha) (cwV 0 hts gX3_start_X3_chosen rfl rfl rfl (by decide +kernel) ⟨Nat.le_of_ble_eq_true rfl, Nat.le_of_ble_eq_true rfl⟩) ⟨PW.blind, rcM hC hW, fun U hU hW9 => ⟨rfl, PW.at hC hS hW U hU hW9⟩⟩ rfl rfl hl.1 rfl (lv_room (Nat.le_of_ble_eq_true rfl)) dX3_start_1 ⟨Nat.zero_le _, Nat.zero_le _⟩)) (fun r_2 h_1 => ?_)
  obtain rfl : r_2 = chM μ a := h_1
  refine lv_istore_n (lv' := [(1, .int ((chM μ a))), (0, .ref (gA g 4))]) hx hb dX3_start_4 rfl hl (by decide) rfl (fun ls hl => ?_)
  refine lv_aload_n hx hb dX3_start_5 rfl (lv_at hl 1 rfl) ?_
  refine lv_iload_n hx hb dX3_start_6 rfl (lv_at hl 0 rfl) ?_
  refine lv_if_ge (tgt := 14) hx hb dX3_start_7 (by decide) (fun c_3 => ?_) (fun c_3 => ?_)
  · skip
    refine lv_iconst (v := 0) hx hb dX3_start_14 (by decide) ?_
    refine pM (ty := .int) hx hb hts hinX3 hown hC hS hW 12 19 (by decide) (by decide +kernel) (by decide +kernel) (0) rfl rfl dX3_start_15 (fun H locs hW hS => ?_)
    refine lv_aload_n hx hb dX3_start_18 rfl (lv_at hl 1 rfl) ?_
    refine gM (v := .int 0) hx hb hts hinX3 hown hC hW 19 (by decide) (by decide +kernel) rfl rfl dX3_start_19 ?_
    refine lv_if_le (tgt := 27) hx hb dX3_start_22 (by decide) (fun c_4 => ?_) (fun c_4 => absurd c_4 (by decide))
    have hch : vp_in (chM μ a) 60 := ch_in hM ha c_3
    refine lv_aload_n hx hb dX3_start_27 rfl (lv_at hl 1 rfl) ?_
    refine lv_aload_n hx hb dX3_start_28 rfl (lv_at hl 1 rfl) ?_
    refine lv_iload_n hx hb dX3_start_29 rfl (lv_at hl 0 rfl) ?_
    refine vp_callSi (va_Run.run (va_runV (As := [.int ((chM μ a))]) (rest := [.ref (gA g 4)]) ⟨hx, hb, hml, hown, hts⟩ (mtX3_measured l g σ ((upd μ.1 12 0, μ.2)) o (chM μ a) hch) (cwV 1 hts gX3_start_X3_measured rfl rfl rfl (by decide +kernel) ⟨Nat.le_of_ble_eq_true rfl, Nat.le_of_ble_eq_true rfl⟩) ⟨PW.blind, rcM hC hW, fun U hU hW9 => ⟨rfl, PW.at hC hS hW U hU hW9⟩⟩ rfl rfl hl.1 rfl (lv_room (Nat.le_of_ble_eq_true rfl)) dX3_start_30 ⟨Nat.zero_le _, Nat.zero_le _⟩)) (fun r_6 h_5 => ?_)
    obtain rfl : r_6 = mzM (upd μ.1 12 0, μ.2) (chM μ a) := h_5
    refine pM (ty := .int) hx hb hts hinX3 hown hC hS hW 6 13 (by decide) (by decide +kernel) (by decide +kernel) ((mzM (upd μ.1 12 0, μ.2) (chM μ a))) rfl rfl dX3_start_33 (fun H locs hW hS => ?_)
    refine lv_aload_n hx hb dX3_start_36 rfl (lv_at hl 1 rfl) ?_
    refine gM (v := .ref (gA g 10)) hx hb hts hinX3 hown hC hW 6 (by decide) (by decide +kernel) rfl rfl dX3_start_37 ?_
    refine lv_iload_n hx hb dX3_start_40 rfl (lv_at hl 0 rfl) ?_
    refine lv_dup2_11 hx hb dX3_start_41 rfl rfl ?_
    refine mLdI 4 (by decide) hch hx hb hC hW dX3_start_42 ?_
    refine lv_aload_n hx hb dX3_start_43 rfl (lv_at hl 1 rfl) ?_
    refine gM (v := .ref (gA g 10)) hx hb hts hinX3 hown hC hW 6 (by decide) (by decide +kernel) rfl rfl dX3_start_44 ?_
    refine lv_iload_n hx hb dX3_start_47 rfl (lv_at hl 0 rfl) ?_
    refine mLdI 4 (by decide) hch hx hb hC hW dX3_start_48 ?_
    refine lv_if_le (tgt := 56) hx hb dX3_start_49 (by decide) (fun c_7 => ?_) (fun c_7 => ?_)
    · skip
      refine lv_iconst (v := 0) hx hb dX3_start_56 (by decide) ?_
      refine lv_isub hx hb dX3_start_57 ?_
      refine mStI 4 (by decide) hch hx hb hC hS hW ((μ.2 5 (chM μ a).toNatClampNeg - 0)) dX3_start_58 (fun H locs hW hS => ?_)
      refine lv_aload_n hx hb dX3_start_59 rfl (lv_at hl 1 rfl) ?_
      refine lv_iconst (v := (-1)) hx hb dX3_start_60 (by decide) ?_
      refine pM (ty := .int) hx hb hts hinX3 hown hC hS hW 2 9 (by decide) (by decide +kernel) (by decide +kernel) ((-1)) rfl rfl dX3_start_61 (fun H locs hW hS => ?_)
      refine lv_aload_n hx hb dX3_start_64 rfl (lv_at hl 1 rfl) ?_
      refine lv_iload_n hx hb dX3_start_65 rfl (lv_at hl 0 rfl) ?_
      refine pM (ty := .int) hx hb hts hinX3 hown hC hS hW 5 12 (by decide) (by decide +kernel) (by decide +kernel) ((chM μ a)) rfl rfl dX3_start_66 (fun H locs hW hS => ?_)
      refine lv_aload_n hx hb dX3_start_69 rfl (lv_at hl 1 rfl) ?_
      refine lv_iconst (v := 0) hx hb dX3_start_70 (by decide) ?_
      refine pM (ty := .int) hx hb hts hinX3 hown hC hS hW 10 17 (by decide) (by decide +kernel) (by decide +kernel) (0) rfl rfl dX3_start_71 (fun H locs hW hS => ?_)
      refine lv_aload_n hx hb dX3_start_74 rfl (lv_at hl 1 rfl) ?_
      refine lv_iconst (v := 0) hx hb dX3_start_75 (by decide) ?_
      refine pM (ty := .int) hx hb hts hinX3 hown hC hS hW 11 18 (by decide) (by decide +kernel) (by decide +kernel) (0) rfl rfl dX3_start_76 (fun H locs hW hS => ?_)
      refine lv_iload_n hx hb dX3_start_79 rfl (lv_at hl 0 rfl) ?_
      have hk9 : kMS μ a = 0 := by simp [kMS, c_3, c_7]
      exact W.iret (v := (chM μ a)) hx hb hr (fun t ht hW9 => ⟨⟨_, (), rfl, (by dsimp only; unfold stR; rw [hk9]; first | exact (if_pos rfl).symm | exact (if_neg (by decide)).symm), by first | (dsimp only; rw [ht, show stM μ a = (upd (upd (upd (upd (upd (upd μ.1 12 0) 6 ((mzM (upd μ.1 12 0, μ.2) (chM μ a)))) 2 ((-1))) 5 ((chM μ a))) 10 0) 11 0, up2 μ.2 5 (upd (μ.2 5) (chM μ a).toNatClampNeg ((μ.2 5 (chM μ a).toNatClampNeg - 0)))) from by unfold stM; rw [hk9]; rw [if_pos rfl, stP, stF, if_pos c_7]; rfl]; exact hW) | (rw [ht, show stM μ a = (upd (upd (upd (upd (upd (upd μ.1 12 0) 6 ((mzM (upd μ.1 12 0, μ.2) (chM μ a)))) 2 ((-1))) 5 ((chM μ a))) 10 0) 11 0, up2 μ.2 5 (upd (μ.2 5) (chM μ a).toNatClampNeg ((μ.2 5 (chM μ a).toNatClampNeg - 0)))) from by unfold stM; rw [hk9]; rw [if_pos rfl, stP, stF, if_pos c_7]; rfl]; exact hW)⟩, hS.F ht⟩) hS.2.2 dX3_start_80
    · skip
      refine lv_iconst (v := 1) hx hb dX3_start_52 (by decide) ?_
      refine lv_goto (tgt := 57) hx hb dX3_start_53 (by decide) ?_
      refine lv_isub hx hb dX3_start_57 ?_
      refine mStI 4 (by decide) hch hx hb hC hS hW ((μ.2 5 (chM μ a).toNatClampNeg - 1)) dX3_start_58 (fun H locs hW hS => ?_)
      refine lv_aload_n hx hb dX3_start_59 rfl (lv_at hl 1 rfl) ?_
      refine lv_iconst (v := (-1)) hx hb dX3_start_60 (by decide) ?_
      refine pM (ty := .int) hx hb hts hinX3 hown hC hS hW 2 9 (by decide) (by decide +kernel) (by decide +kernel) ((-1)) rfl rfl dX3_start_61 (fun H locs hW hS => ?_)
      refine lv_aload_n hx hb dX3_start_64 rfl (lv_at hl 1 rfl) ?_
      refine lv_iload_n hx hb dX3_start_65 rfl (lv_at hl 0 rfl) ?_
      refine pM (ty := .int) hx hb hts hinX3 hown hC hS hW 5 12 (by decide) (by decide +kernel) (by decide +kernel) ((chM μ a)) rfl rfl dX3_start_66 (fun H locs hW hS => ?_)
      refine lv_aload_n hx hb dX3_start_69 rfl (lv_at hl 1 rfl) ?_
      refine lv_iconst (v := 0) hx hb dX3_start_70 (by decide) ?_
      refine pM (ty := .int) hx hb hts hinX3 hown hC hS hW 10 17 (by decide) (by decide +kernel) (by decide +kernel) (0) rfl rfl dX3_start_71 (fun H locs hW hS => ?_)
      refine lv_aload_n hx hb dX3_start_74 rfl (lv_at hl 1 rfl) ?_
      refine lv_iconst (v := 0) hx hb dX3_start_75 (by decide) ?_
      refine pM (ty := .int) hx hb hts hinX3 hown hC hS hW 11 18 (by decide) (by decide +kernel) (by decide +kernel) (0) rfl rfl dX3_start_76 (fun H locs hW hS => ?_)
      refine lv_iload_n hx hb dX3_start_79 rfl (lv_at hl 0 rfl) ?_
      have hk9 : kMS μ a = 0 := by simp [kMS, c_3, c_7]
      exact W.iret (v := (chM μ a)) hx hb hr (fun t ht hW9 => ⟨⟨_, (), rfl, (by dsimp only; unfold stR; rw [hk9]; first | exact (if_pos rfl).symm | exact (if_neg (by decide)).symm), by first | (dsimp only; rw [ht, show stM μ a = (upd (upd (upd (upd (upd (upd μ.1 12 0) 6 ((mzM (upd μ.1 12 0, μ.2) (chM μ a)))) 2 ((-1))) 5 ((chM μ a))) 10 0) 11 0, up2 μ.2 5 (upd (μ.2 5) (chM μ a).toNatClampNeg ((μ.2 5 (chM μ a).toNatClampNeg - 1)))) from by unfold stM; rw [hk9]; rw [if_pos rfl, stP, stF, if_neg c_7]; rfl]; exact hW) | (rw [ht, show stM μ a = (upd (upd (upd (upd (upd (upd μ.1 12 0) 6 ((mzM (upd μ.1 12 0, μ.2) (chM μ a)))) 2 ((-1))) 5 ((chM μ a))) 10 0) 11 0, up2 μ.2 5 (upd (μ.2 5) (chM μ a).toNatClampNeg ((μ.2 5 (chM μ a).toNatClampNeg - 1)))) from by unfold stM; rw [hk9]; rw [if_pos rfl, stP, stF, if_neg c_7]; rfl]; exact hW)⟩, hS.F ht⟩) hS.2.2 dX3_start_80
  · skip
    refine lv_iconst (v := 1) hx hb dX3_start_10 (by decide) ?_
    refine lv_goto (tgt := 15) hx hb dX3_start_11 (by decide) ?_
    refine pM (ty := .int) hx hb hts hinX3 hown hC hS hW 12 19 (by decide) (by decide +kernel) (by decide +kernel) (1) rfl rfl dX3_start_15 (fun H locs hW hS => ?_)
    refine lv_aload_n hx hb dX3_start_18 rfl (lv_at hl 1 rfl) ?_
    refine gM (v := .int 1) hx hb hts hinX3 hown hC hW 19 (by decide) (by decide +kernel) rfl rfl dX3_start_19 ?_
    refine lv_if_le (tgt := 27) hx hb dX3_start_22 (by decide) (fun c_8 => absurd c_8 (by decide)) (fun c_8 => ?_)
    refine lv_iconst (v := 0) hx hb dX3_start_25 (by decide) ?_
    have hk9 : kMS μ a = 1 := by simp [kMS, c_3]
    exact W.iret (v := 0) hx hb hr (fun t ht hW9 => ⟨⟨_, (), rfl, (by dsimp only; unfold stR; rw [hk9]; first | exact (if_pos rfl).symm | exact (if_neg (by decide)).symm), by first | (dsimp only; rw [ht, show stM μ a = (upd μ.1 12 1, μ.2) from by unfold stM; rw [hk9]; first | exact if_pos rfl | exact if_neg (by decide)]; exact hW) | (rw [ht, show stM μ a = (upd μ.1 12 1, μ.2) from by unfold stM; rw [hk9]; first | exact if_pos rfl | exact if_neg (by decide)]; exact hW)⟩, hS.F ht⟩) hS.2.2 dX3_start_26
set_option maxHeartbeats 4000000 in
set_option maxRecDepth 100000 in
theorem mtX3_good (l : Launch) (g : Ge) (σ : Sg) (μ : Mg) (o : Nat → Int64) (hrun : 0 ≤ μ.1 5 → vp_in (μ.1 5) 60) : Met l yX3_good wsX3_good ({ frames := 0, cells := 0, slots := 0, locals := 0 } : Room) (va_Pc [.ref (gA g 4)] (PW g σ μ o)) (va_Qi (S := Unit) (fun r _ => r = goMR μ) (fun _ t => Wd g σ (goM μ) o t.heap) (Az g)) 0 0 (Az g) := by
  refine Met.ofW (cc := cX3_good) (maxL := 2) (ret := (some .int)) (by decide) rfl ?_
  intro p e s m args below meth c s₁ B hml hv
  obtain ⟨rfl, hC, hW⟩ := hv
  have hx := B.exec
  have hb := B.bytes
  have hr := B.returns
  have hts := atoms_spec (ws := wsX3_good) B.pre
  have hown : s.vm.findClass RX3 = some m.cls := findClass_of_methodNamed B.named
  have hlocks := B.notSynchronized
  have hinX3 : ∀ w ∈ wsX30, w ∈ wsX3_good := by decide +kernel
  have hS : va_S (Az g) s.heap s.heap [] := va_S.rf
  have hl := lv_entry ([.ref (gA g 4)]) (n := 2) (Nat.le_of_ble_eq_true rfl)
  rw [lg_entry_eq]
  generalize (lg_sl ([.ref (gA g 4)]) ++ List.replicate (2 - (lg_sl ([.ref (gA g 4)])).length) Slot.unset).toArray = ls at hl ⊢
  have hl : lv_has ls 2 [(0, .ref (gA g 4))] := hl
  refine lv_aload_n hx hb dX3_good_0 rfl (lv_at hl 0 rfl) ?_
  refine lv_aload_n hx hb dX3_good_1 rfl (lv_at hl 0 rfl) ?_
  refine gM (v := .int (μ.1 5)) hx hb hts hinX3 hown hC hW 12 (by decide) (by decide +kernel) rfl rfl dX3_good_2 ?_
  refine lv_if_ge (tgt := 12) hx hb dX3_good_5 (by decide) (fun c_1 => ?_) (fun c_1 => ?_)
  · skip
    refine lv_iconst (v := 0) hx hb dX3_good_12 (by decide) ?_
    refine pM (ty := .int) hx hb hts hinX3 hown hC hS hW 12 19 (by decide) (by decide +kernel) (by decide +kernel) (0) rfl rfl dX3_good_13 (fun H locs hW hS => ?_)
    refine lv_aload_n hx hb dX3_good_16 rfl (lv_at hl 0 rfl) ?_
    refine gM (v := .int 0) hx hb hts hinX3 hown hC hW 19 (by decide) (by decide +kernel) rfl rfl dX3_good_17 ?_
    refine lv_if_le (tgt := 25) hx hb dX3_good_20 (by decide) (fun c_2 => ?_) (fun c_2 => absurd c_2 (by decide))
    have hr5 : vp_in (μ.1 5) 60 := hrun c_1
    refine lv_aload_n hx hb dX3_good_25 rfl (lv_at hl 0 rfl) ?_
    refine gM (v := .ref (gA g 5)) hx hb hts hinX3 hown hC hW 1 (by decide) (by decide +kernel) rfl rfl dX3_good_26 ?_
    refine lv_aload_n hx hb dX3_good_29 rfl (lv_at hl 0 rfl) ?_
    refine gM (v := .int (μ.1 5)) hx hb hts hinX3 hown hC hW 12 (by decide) (by decide +kernel) rfl rfl dX3_good_30 ?_
    refine mLdZI hr5 hx hb hC hW dX3_good_33 ?_
    refine lv_if_ne (tgt := 39) hx hb dX3_good_34 (by decide) (fun c_3 => ?_) (fun c_3 => ?_)
    · skip
      refine lv_aload_n hx hb dX3_good_39 rfl (lv_at hl 0 rfl) ?_
      refine gM (v := .ref (gA g 10)) hx hb hts hinX3 hown hC hW 6 (by decide) (by decide +kernel) rfl rfl dX3_good_40 ?_
      refine lv_aload_n hx hb dX3_good_43 rfl (lv_at hl 0 rfl) ?_
      refine gM (v := .int (μ.1 5)) hx hb hts hinX3 hown hC hW 12 (by decide) (by decide +kernel) rfl rfl dX3_good_44 ?_
      refine mLdI 4 (by decide) hr5 hx hb hC hW dX3_good_47 ?_
      refine lv_istore_n (lv' := [(1, .int (μ.2 5 (μ.1 5).toNatClampNeg)), (0, .ref (gA g 4))]) hx hb dX3_good_48 rfl hl (by decide) rfl (fun ls hl => ?_)
      refine lv_aload_n hx hb dX3_good_49 rfl (lv_at hl 1 rfl) ?_
      refine gM (v := .ref (gA g 10)) hx hb hts hinX3 hown hC hW 6 (by decide) (by decide +kernel) rfl rfl dX3_good_50 ?_
      refine lv_aload_n hx hb dX3_good_53 rfl (lv_at hl 1 rfl) ?_
      refine gM (v := .int (μ.1 5)) hx hb hts hinX3 hown hC hW 12 (by decide) (by decide +kernel) rfl rfl dX3_good_54 ?_
      refine lv_iconst (v := (-1)) hx hb dX3_good_57 (by decide) ?_
      refine mStI 4 (by decide) hr5 hx hb hC hS hW ((-1)) dX3_good_58 (fun H locs hW hS => ?_)
      refine lv_iload_n hx hb dX3_good_59 rfl (lv_at hl 0 rfl) ?_
      have hk9 : kMG μ = 0 := by simp [kMG, c_1, c_3]
      exact W.iret (v := μ.2 5 (μ.1 5).toNatClampNeg) hx hb hr (fun t ht hW9 => ⟨⟨_, (), rfl, (by dsimp only; unfold goMR; rw [hk9]; first | exact (if_neg (by decide)).symm | (rw [if_pos rfl]; first | exact (if_pos c_3).symm | exact (if_neg c_3).symm)), by first | (dsimp only; rw [ht, show goM μ = (upd μ.1 12 0, up2 μ.2 5 (upd (μ.2 5) (μ.1 5).toNatClampNeg ((-1)))) from by unfold goM; rw [hk9]; rw [if_pos rfl, goF, if_neg c_3]]; exact hW) | (rw [ht, show goM μ = (upd μ.1 12 0, up2 μ.2 5 (upd (μ.2 5) (μ.1 5).toNatClampNeg ((-1)))) from by unfold goM; rw [hk9]; rw [if_pos rfl, goF, if_neg c_3]]; exact hW)⟩, hS.F ht⟩) hS.2.2 dX3_good_60
    · skip
      refine lv_iconst (v := (-1)) hx hb dX3_good_37 (by decide) ?_
      have hk9 : kMG μ = 0 := by simp [kMG, c_1, c_3]
      exact W.iret (v := (-1)) hx hb hr (fun t ht hW9 => ⟨⟨_, (), rfl, (by dsimp only; unfold goMR; rw [hk9]; first | exact (if_neg (by decide)).symm | (rw [if_pos rfl]; first | exact (if_pos c_3).symm | exact (if_neg c_3).symm)), by first | (dsimp only; rw [ht, show goM μ = (upd μ.1 12 0, μ.2) from by unfold goM; rw [hk9]; rw [if_pos rfl, goF, if_pos c_3]]; exact hW) | (rw [ht, show goM μ = (upd μ.1 12 0, μ.2) from by unfold goM; rw [hk9]; rw [if_pos rfl, goF, if_pos c_3]]; exact hW)⟩, hS.F ht⟩) hS.2.2 dX3_good_38
  · skip
    refine lv_iconst (v := 1) hx hb dX3_good_8 (by decide) ?_
    refine lv_goto (tgt := 13) hx hb dX3_good_9 (by decide) ?_
    refine pM (ty := .int) hx hb hts hinX3 hown hC hS hW 12 19 (by decide) (by decide +kernel) (by decide +kernel) (1) rfl rfl dX3_good_13 (fun H locs hW hS => ?_)
    refine lv_aload_n hx hb dX3_good_16 rfl (lv_at hl 0 rfl) ?_
    refine gM (v := .int 1) hx hb hts hinX3 hown hC hW 19 (by decide) (by decide +kernel) rfl rfl dX3_good_17 ?_
    refine lv_if_le (tgt := 25) hx hb dX3_good_20 (by decide) (fun c_4 => absurd c_4 (by decide)) (fun c_4 => ?_)
    refine lv_iconst (v := 0) hx hb dX3_good_23 (by decide) ?_
    have hk9 : kMG μ = 1 := by simp [kMG, c_1]
    exact W.iret (v := 0) hx hb hr (fun t ht hW9 => ⟨⟨_, (), rfl, (by dsimp only; unfold goMR; rw [hk9]; first | exact (if_neg (by decide)).symm | (rw [if_pos rfl]; first | exact (if_pos c_1).symm | exact (if_neg c_1).symm)), by first | (dsimp only; rw [ht, show goM μ = (upd μ.1 12 1, μ.2) from by unfold goM; rw [hk9]; first | exact if_pos rfl | exact if_neg (by decide)]; exact hW) | (rw [ht, show goM μ = (upd μ.1 12 1, μ.2) from by unfold goM; rw [hk9]; first | exact if_pos rfl | exact if_neg (by decide)]; exact hW)⟩, hS.F ht⟩) hS.2.2 dX3_good_24
