set_option maxHeartbeats 4000000 in
set_option maxRecDepth 100000 in
theorem mtX3_at (l : Launch) (g : Ge) (σ : Sg) (μ : Mg) (o : Nat → Int64) (pl : Int32) (a : Nat) (hM : μ.1 0 = nI a) (ha : a ≤ 60) : Met l yX3_at wsX3_at ({ frames := 3, cells := 0, slots := 0, locals := 71 } : Room) (va_Pc [.ref (gA g 4), .int pl] (PW g σ μ o)) (va_Qi (S := Unit) (fun r _ => r = atR μ a pl) (fun _ t => Wd g σ (thr12 μ (kMT μ a pl)) o t.heap) (Az g)) 0 0 (Az g) := by
  refine Met.ofW (cc := cX3_at) (maxL := 4) (ret := (some .int)) (by decide) rfl ?_
  intro p e s m args below meth c s₁ B hml hv
  obtain ⟨rfl, hC, hW⟩ := hv
  have hx := B.exec
  have hb := B.bytes
  have hr := B.returns
  have hts := atoms_spec (ws := wsX3_at) B.pre
  have hown : s.vm.findClass RX3 = some m.cls := findClass_of_methodNamed B.named
  have hlocks := B.notSynchronized
  have hinX3 : ∀ w ∈ wsX30, w ∈ wsX3_at := by decide +kernel
  have hS : va_S (Az g) s.heap s.heap [] := va_S.rf
  have hl := lv_entry ([.ref (gA g 4), .int pl]) (n := 4) (Nat.le_of_ble_eq_true rfl)
  rw [lg_entry_eq]
  generalize (lg_sl ([.ref (gA g 4), .int pl]) ++ List.replicate (4 - (lg_sl ([.ref (gA g 4), .int pl])).length) Slot.unset).toArray = ls at hl ⊢
  have hl : lv_has ls 4 [(0, .ref (gA g 4)), (1, .int pl)] := hl
  refine lv_iconst (v := (-1)) hx hb dX3_at_0 (by decide) ?_
  refine lv_istore_n (lv' := [(2, .int ((-1))), (0, .ref (gA g 4)), (1, .int pl)]) hx hb dX3_at_1 rfl hl (by decide) rfl (fun ls hl => ?_)
  refine lv_iconst (v := 0) hx hb dX3_at_2 (by decide) ?_
  refine lv_istore_n (lv' := [(3, .int 0), (2, .int ((-1))), (0, .ref (gA g 4)), (1, .int pl)]) hx hb dX3_at_3 rfl hl (by decide) rfl (fun ls hl => ?_)
  have loop_1 : ∀ (n9 i : Nat), i ≤ a → a < i + n9 → True → ∀ (ls : Array Slot), lv_has ls 4 [(0, .ref (gA g 4)), (1, .int pl), (2, .int (oI (lf (atP μ a pl) i))), (3, .int (nI i))] → W p l e (headSpec wsX3_at ({ frames := 3, cells := 0, slots := 0, locals := 71 } : Room)).room s m ([.ref (gA g 4), .int pl] : List Value).toArray below meth c s.heap [] 0 0 (MQ below (va_Qi (S := Unit) (fun r _ => r = atR μ a pl) (fun _ t => Wd g σ (thr12 μ (kMT μ a pl)) o t.heap) (Az g)) ([.ref (gA g 4), .int pl] : List Value).toArray s 0 0 (Az g)) (F0 m 4 ls []) := by
    intro n9
    induction n9 with
    | zero =>
      intro i h1 h2
      exact absurd h2 (by omega)
    | succ n9 ih =>
      intro i hi hin hinv ls hl
      refine lv_iload_n hx hb dX3_at_4 rfl (lv_at hl 3 rfl) ?_
      refine lv_aload_n hx hb dX3_at_5 rfl (lv_at hl 0 rfl) ?_
      refine gM (v := .int (μ.1 0)) hx hb hts hinX3 hown hC hW 0 (by decide) (by decide +kernel) rfl rfl dX3_at_6 ?_
      refine lv_icmp_ge (tgt := 42) hx hb dX3_at_9 (by decide) (fun c_2 => ?_) (fun c_2 => ?_)
      · skip
        have hi16 : i = a := by rw [hM, nI_leI (by omega) (by omega)] at c_2; omega
        refine lv_aload_n hx hb dX3_at_42 rfl (lv_at hl 0 rfl) ?_
        refine lv_iload_n hx hb dX3_at_43 rfl (lv_at hl 2 rfl) ?_
        refine lv_if_ge (tgt := 51) hx hb dX3_at_44 (by decide) (fun c_3 => ?_) (fun c_3 => ?_)
        · skip
          rw [hi16] at c_3
          refine lv_iconst (v := 0) hx hb dX3_at_51 (by decide) ?_
          refine pM (ty := .int) hx hb hts hinX3 hown hC hS hW 12 19 (by decide) (by decide +kernel) (by decide +kernel) (0) rfl rfl dX3_at_52 (fun H locs hW hS => ?_)
          refine lv_aload_n hx hb dX3_at_55 rfl (lv_at hl 0 rfl) ?_
          refine gM (v := .int 0) hx hb hts hinX3 hown hC hW 19 (by decide) (by decide +kernel) rfl rfl dX3_at_56 ?_
          refine lv_if_le (tgt := 66) hx hb dX3_at_59 (by decide) (fun c_4 => ?_) (fun c_4 => absurd c_4 (by decide))
          refine lv_iload_n hx hb dX3_at_66 rfl (lv_at hl 2 rfl) ?_
          have hk9 : kMT μ a pl = 0 := by simp [kMT, c_3]
          exact W.iret (v := oI (lf (atP μ a pl) i)) hx hb hr (fun t ht hW9 => ⟨⟨_, (), rfl, (by dsimp only; unfold atR; rw [hk9, if_pos rfl, hi16]), by first | (dsimp only; rw [ht, hk9]; exact hW) | (rw [ht, hk9]; exact hW)⟩, hS.F ht⟩) hS.2.2 dX3_at_67
        · skip
          rw [hi16] at c_3
          refine lv_iconst (v := 1) hx hb dX3_at_47 (by decide) ?_
          refine lv_goto (tgt := 52) hx hb dX3_at_48 (by decide) ?_
          refine pM (ty := .int) hx hb hts hinX3 hown hC hS hW 12 19 (by decide) (by decide +kernel) (by decide +kernel) (1) rfl rfl dX3_at_52 (fun H locs hW hS => ?_)
          refine lv_aload_n hx hb dX3_at_55 rfl (lv_at hl 0 rfl) ?_
          refine gM (v := .int 1) hx hb hts hinX3 hown hC hW 19 (by decide) (by decide +kernel) rfl rfl dX3_at_56 ?_
          refine lv_if_le (tgt := 66) hx hb dX3_at_59 (by decide) (fun c_5 => absurd c_5 (by decide)) (fun c_5 => ?_)
          refine lv_iconst (v := 0) hx hb dX3_at_62 (by decide) ?_
          refine lv_goto (tgt := 67) hx hb dX3_at_63 (by decide) ?_
          have hk9 : kMT μ a pl = 1 := by simp [kMT, c_3]
          exact W.iret (v := 0) hx hb hr (fun t ht hW9 => ⟨⟨_, (), rfl, (by dsimp only; unfold atR; rw [hk9]; exact (if_neg (by decide)).symm), by first | (dsimp only; rw [ht, hk9]; exact hW) | (rw [ht, hk9]; exact hW)⟩, hS.F ht⟩) hS.2.2 dX3_at_67
      · skip
        have hlt : i < a := by rw [hM, nI_leI (by omega) (by omega)] at c_2; omega
        refine lv_aload_n hx hb dX3_at_12 rfl (lv_at hl 0 rfl) ?_
        refine gM (v := .ref (gA g 5)) hx hb hts hinX3 hown hC hW 1 (by decide) (by decide +kernel) rfl rfl dX3_at_13 ?_
        refine lv_iload_n hx hb dX3_at_16 rfl (lv_at hl 3 rfl) ?_
        refine mLdZ hx hb hC hW (show i < 60 by omega) dX3_at_17 ?_
        refine lv_if_eq (tgt := 34) hx hb dX3_at_18 (by decide) (fun c_6 => ?_) (fun c_6 => ?_)
        · skip
          refine lv_iload_n hx hb dX3_at_34 rfl (lv_at hl 2 rfl) ?_
          refine lv_istore_n (lv' := [(2, .int (oI (lf (atP μ a pl) i))), (0, .ref (gA g 4)), (1, .int pl), (3, .int (nI i))]) hx hb dX3_at_35 rfl hl (by decide) rfl (fun ls hl => ?_)
          refine lv_iinc (v := nI (i + 1)) (lv' := [(3, .int (nI (i + 1))), (2, .int (oI (lf (atP μ a pl) i))), (0, .ref (gA g 4)), (1, .int pl)]) hx hb dX3_at_36 hl (k := 3) rfl (nI_1 _) (by decide) rfl (fun ls hl => ?_)
          refine lv_goto (tgt := 4) hx hb dX3_at_39 (by decide) ?_
          have hct : lf (atP μ a pl) (i + 1) = lf (atP μ a pl) i := by rw [lf]; exact if_neg (by simp [atP, thM, c_6])
          exact ih (i + 1) (by omega) (by omega) trivial ls (by rw [hct]; exact lv_sub hl [2, 3, 1, 0] rfl)
        · skip
          refine lv_aload_n hx hb dX3_at_21 rfl (lv_at hl 0 rfl) ?_
          refine lv_iload_n hx hb dX3_at_22 rfl (lv_at hl 3 rfl) ?_
          refine vp_callSi (va_Run.run (va_runV (As := [.int (nI i)]) (rest := []) ⟨hx, hb, hml, hown, hts⟩ (mtX3_place l g σ μ o (nI i) (vp_in_nI (show i < 60 by omega) (by omega)) a hM ha) (cwV 1 hts gX3_at_X3_place rfl rfl rfl (by decide +kernel) ⟨Nat.le_of_ble_eq_true rfl, Nat.le_of_ble_eq_true rfl⟩) ⟨PW.blind, rcM hC hW, fun U hU hW9 => ⟨rfl, PW.at hC hS hW U hU hW9⟩⟩ rfl rfl hl.1 rfl (lv_room (Nat.le_of_ble_eq_true rfl)) dX3_at_23 ⟨Nat.zero_le _, Nat.zero_le _⟩)) (fun r_8 h_7 => ?_)
          obtain rfl : r_8 = nI (ct (plP μ (nI i)) a) := h_7
          refine lv_iload_n hx hb dX3_at_26 rfl (lv_at hl 1 rfl) ?_
          refine lv_icmp_ne (tgt := 34) hx hb dX3_at_27 (by decide) (fun c_9 => ?_) (fun c_9 => ?_)
          · skip
            refine lv_iload_n hx hb dX3_at_34 rfl (lv_at hl 2 rfl) ?_
            refine lv_istore_n (lv' := [(2, .int (oI (lf (atP μ a pl) i))), (0, .ref (gA g 4)), (1, .int pl), (3, .int (nI i))]) hx hb dX3_at_35 rfl hl (by decide) rfl (fun ls hl => ?_)
            refine lv_iinc (v := nI (i + 1)) (lv' := [(3, .int (nI (i + 1))), (2, .int (oI (lf (atP μ a pl) i))), (0, .ref (gA g 4)), (1, .int pl)]) hx hb dX3_at_36 hl (k := 3) rfl (nI_1 _) (by decide) rfl (fun ls hl => ?_)
            refine lv_goto (tgt := 4) hx hb dX3_at_39 (by decide) ?_
            have hct : lf (atP μ a pl) (i + 1) = lf (atP μ a pl) i := by rw [lf]; exact if_neg (by simp [atP, thM, c_6, c_9])
            exact ih (i + 1) (by omega) (by omega) trivial ls (by rw [hct]; exact lv_sub hl [2, 3, 1, 0] rfl)
          · skip
            refine lv_iload_n hx hb dX3_at_30 rfl (lv_at hl 3 rfl) ?_
            refine lv_goto (tgt := 35) hx hb dX3_at_31 (by decide) ?_
            refine lv_istore_n (lv' := [(2, .int (nI i)), (0, .ref (gA g 4)), (1, .int pl), (3, .int (nI i))]) hx hb dX3_at_35 rfl hl (by decide) rfl (fun ls hl => ?_)
            refine lv_iinc (v := nI (i + 1)) (lv' := [(3, .int (nI (i + 1))), (2, .int (nI i)), (0, .ref (gA g 4)), (1, .int pl)]) hx hb dX3_at_36 hl (k := 3) rfl (nI_1 _) (by decide) rfl (fun ls hl => ?_)
            refine lv_goto (tgt := 4) hx hb dX3_at_39 (by decide) ?_
            have hct : lf (atP μ a pl) (i + 1) = some i := by rw [lf]; exact if_pos (by simp [atP, thM, c_6, c_9])
            exact ih (i + 1) (by omega) (by omega) trivial ls (by rw [hct]; exact lv_sub hl [2, 3, 1, 0] rfl)
  exact loop_1 (a + 1) 0 (Nat.zero_le _) (by omega) trivial ls (by exact lv_sub hl [2, 3, 1, 0] rfl)
set_option maxHeartbeats 4000000 in
set_option maxRecDepth 100000 in
theorem mtX3_asks (l : Launch) (g : Ge) (σ : Sg) (μ : Mg) (o : Nat → Int64) (e9 : Int32) (a : Nat) (hM : μ.1 0 = nI a) (ha : a ≤ 60) : Met l yX3_asks wsX3_asks ({ frames := 2, cells := 0, slots := 0, locals := 43 } : Room) (va_Pc [.ref (gA g 4), .int e9] (PW g σ μ o)) (va_Qi (S := Unit) (fun r _ => r = bI (mt μ e9)) (fun _ t => Wd g σ (thr12 μ (kMR μ e9)) o t.heap) (Az g)) 0 0 (Az g) := by
  refine Met.ofW (cc := cX3_asks) (maxL := 2) (ret := (some .boolean)) (by decide) rfl ?_
  intro p e s m args below meth c s₁ B hml hv
  obtain ⟨rfl, hC, hW⟩ := hv
  have hx := B.exec
  have hb := B.bytes
  have hr := B.returns
  have hts := atoms_spec (ws := wsX3_asks) B.pre
  have hown : s.vm.findClass RX3 = some m.cls := findClass_of_methodNamed B.named
  have hlocks := B.notSynchronized
  have hinX3 : ∀ w ∈ wsX30, w ∈ wsX3_asks := by decide +kernel
  have hS : va_S (Az g) s.heap s.heap [] := va_S.rf
  have hl := lv_entry ([.ref (gA g 4), .int e9]) (n := 2) (Nat.le_of_ble_eq_true rfl)
  rw [lg_entry_eq]
  generalize (lg_sl ([.ref (gA g 4), .int e9]) ++ List.replicate (2 - (lg_sl ([.ref (gA g 4), .int e9])).length) Slot.unset).toArray = ls at hl ⊢
  have hl : lv_has ls 2 [(0, .ref (gA g 4)), (1, .int e9)] := hl
  refine lv_aload_n hx hb dX3_asks_0 rfl (lv_at hl 0 rfl) ?_
  refine lv_aload_n hx hb dX3_asks_1 rfl (lv_at hl 0 rfl) ?_
  refine lv_iload_n hx hb dX3_asks_2 rfl (lv_at hl 1 rfl) ?_
  refine vp_callSi (va_Run.run (va_runV (As := [.int e9]) (rest := [.ref (gA g 4)]) ⟨hx, hb, hml, hown, hts⟩ (mtX3_isThere l g σ μ o e9 a hM ha) (cwV 1 hts gX3_asks_X3_isThere rfl rfl rfl (by decide +kernel) ⟨Nat.le_of_ble_eq_true rfl, Nat.le_of_ble_eq_true rfl⟩) ⟨PW.blind, rcM hC hW, fun U hU hW9 => ⟨rfl, PW.at hC hS hW U hU hW9⟩⟩ rfl rfl hl.1 rfl (lv_room (Nat.le_of_ble_eq_true rfl)) dX3_asks_3 ⟨Nat.zero_le _, Nat.zero_le _⟩)) (fun r_2 h_1 => ?_)
  obtain rfl : r_2 = bI (mt μ e9) := h_1
  refine lv_if_eq (tgt := 13) hx hb dX3_asks_6 (by decide) (fun c_3 => ?_) (fun c_3 => ?_)
  · skip
    replace c_3 := bI_0.mp c_3
    refine lv_iconst (v := 1) hx hb dX3_asks_13 (by decide) ?_
    refine pM (ty := .int) hx hb hts hinX3 hown hC hS hW 12 19 (by decide) (by decide +kernel) (by decide +kernel) (1) rfl rfl dX3_asks_14 (fun H locs hW hS => ?_)
    refine lv_aload_n hx hb dX3_asks_17 rfl (lv_at hl 0 rfl) ?_
    refine gM (v := .int 1) hx hb hts hinX3 hown hC hW 19 (by decide) (by decide +kernel) rfl rfl dX3_asks_18 ?_
    refine lv_if_ne (tgt := 28) hx hb dX3_asks_21 (by decide) (fun c_4 => ?_) (fun c_4 => absurd c_4 (by decide))
    refine lv_iconst (v := 0) hx hb dX3_asks_28 (by decide) ?_
    have hk9 : kMR μ e9 = 1 := by simp [kMR, c_3]
    exact W.zret (v := 0) (ty := .boolean) hx hb hr rfl (fun t ht hW9 => ⟨⟨_, (), rfl, (by simp [bI, c_3]), by first | (dsimp only; rw [ht, hk9]; exact hW) | (rw [ht, hk9]; exact hW)⟩, hS.F ht⟩) hS.2.2 dX3_asks_29
  · skip
    replace c_3 := bI_n0.mp c_3
    refine lv_iconst (v := 0) hx hb dX3_asks_9 (by decide) ?_
    refine lv_goto (tgt := 14) hx hb dX3_asks_10 (by decide) ?_
    refine pM (ty := .int) hx hb hts hinX3 hown hC hS hW 12 19 (by decide) (by decide +kernel) (by decide +kernel) (0) rfl rfl dX3_asks_14 (fun H locs hW hS => ?_)
    refine lv_aload_n hx hb dX3_asks_17 rfl (lv_at hl 0 rfl) ?_
    refine gM (v := .int 0) hx hb hts hinX3 hown hC hW 19 (by decide) (by decide +kernel) rfl rfl dX3_asks_18 ?_
    refine lv_if_ne (tgt := 28) hx hb dX3_asks_21 (by decide) (fun c_5 => absurd c_5 (by decide)) (fun c_5 => ?_)
    refine lv_iconst (v := 1) hx hb dX3_asks_24 (by decide) ?_
    refine lv_goto (tgt := 29) hx hb dX3_asks_25 (by decide) ?_
    have hk9 : kMR μ e9 = 0 := by simp [kMR, c_3]
    exact W.zret (v := 1) (ty := .boolean) hx hb hr rfl (fun t ht hW9 => ⟨⟨_, (), rfl, (by simp [bI, c_3]), by first | (dsimp only; rw [ht, hk9]; exact hW) | (rw [ht, hk9]; exact hW)⟩, hS.F ht⟩) hS.2.2 dX3_asks_29
set_option maxHeartbeats 4000000 in
set_option maxRecDepth 100000 in
theorem mtX3_placeOf (l : Launch) (g : Ge) (σ : Sg) (μ : Mg) (o : Nat → Int64) (e9 : Int32) (a : Nat) (hM : μ.1 0 = nI a) (ha : a ≤ 60) : Met l yX3_placeOf wsX3_placeOf ({ frames := 3, cells := 0, slots := 0, locals := 71 } : Room) (va_Pc [.ref (gA g 4), .int e9] (PW g σ μ o)) (va_Qi (S := Unit) (fun r _ => r = poR μ a e9) (fun _ t => Wd g σ (thr12 μ (kMR μ e9)) o t.heap) (Az g)) 0 0 (Az g) := by
  refine Met.ofW (cc := cX3_placeOf) (maxL := 2) (ret := (some .int)) (by decide) rfl ?_
  intro p e s m args below meth c s₁ B hml hv
  obtain ⟨rfl, hC, hW⟩ := hv
  have hx := B.exec
  have hb := B.bytes
  have hr := B.returns
  have hts := atoms_spec (ws := wsX3_placeOf) B.pre
  have hown : s.vm.findClass RX3 = some m.cls := findClass_of_methodNamed B.named
  have hlocks := B.notSynchronized
  have hS : va_S (Az g) s.heap s.heap [] := va_S.rf
  have hl := lv_entry ([.ref (gA g 4), .int e9]) (n := 2) (Nat.le_of_ble_eq_true rfl)
  rw [lg_entry_eq]
  generalize (lg_sl ([.ref (gA g 4), .int e9]) ++ List.replicate (2 - (lg_sl ([.ref (gA g 4), .int e9])).length) Slot.unset).toArray = ls at hl ⊢
  have hl : lv_has ls 2 [(0, .ref (gA g 4)), (1, .int e9)] := hl
  refine lv_aload_n hx hb dX3_placeOf_0 rfl (lv_at hl 0 rfl) ?_
  refine lv_iload_n hx hb dX3_placeOf_1 rfl (lv_at hl 1 rfl) ?_
  refine va_calli (va_runV (As := [.int e9]) (rest := []) ⟨hx, hb, hml, hown, hts⟩ (mtX3_asks l g σ μ o e9 a hM ha) (cwV 1 hts gX3_placeOf_X3_asks rfl rfl rfl (by decide +kernel) ⟨Nat.le_of_ble_eq_true rfl, Nat.le_of_ble_eq_true rfl⟩) ⟨PW.blind, rcM hC hW, fun U hU hW9 => ⟨rfl, PW.at hC hS hW U hU hW9⟩⟩ rfl rfl hl.1 rfl (lv_room (Nat.le_of_ble_eq_true rfl)) dX3_placeOf_2 ⟨Nat.zero_le _, Nat.zero_le _⟩) hS (fun _ _ h => h) (fun _ h => h) (fun r_2 u_3 t H locs ht hvm h_1 hW hz9 hk9 hS => ?_)
  replace hW : Wd g σ (thr12 μ (kMR μ e9)) o H := by rw [← ht]; exact hW
  try dsimp only at h_1
  obtain rfl : r_2 = bI (mt μ e9) := h_1
  refine lv_if_eq (tgt := 16) hx hb dX3_placeOf_5 (by decide) (fun c_5 => ?_) (fun c_5 => ?_)
  · skip
    replace c_5 := bI_0.mp c_5
    refine lv_iconst (v := 0) hx hb dX3_placeOf_16 (by decide) ?_
    have hk9 : kMR μ e9 = 1 := by simp [kMR, c_5]
    exact W.iret (v := 0) hx hb hr (fun t ht hW9 => ⟨⟨_, (), rfl, (by dsimp only; unfold poR; rw [hk9]; exact (if_neg (by decide)).symm), by first | (rw [ht]; exact hW) | (dsimp only; rw [ht]; exact hW)⟩, hS.F ht⟩) hS.2.2 dX3_placeOf_17
  · skip
    replace c_5 := bI_n0.mp c_5
    refine lv_aload_n hx hb dX3_placeOf_8 rfl (lv_at hl 0 rfl) ?_
    refine lv_iload_n hx hb dX3_placeOf_9 rfl (lv_at hl 1 rfl) ?_
    refine vp_callSi (va_Run.run (va_runV (As := [.int e9]) (rest := []) ⟨hx, hb, hml, hown, hts⟩ (mtX3_place l g σ (thr12 μ (kMR μ e9)) o e9 (mt_in hM ha c_5) a hM ha) (cwV 1 hts gX3_placeOf_X3_place rfl rfl rfl (by decide +kernel) ⟨Nat.le_of_ble_eq_true rfl, Nat.le_of_ble_eq_true rfl⟩) ⟨PW.blind, rcM hC hW, fun U hU hW9 => ⟨rfl, PW.at hC hS hW U hU hW9⟩⟩ rfl rfl hl.1 rfl (lv_room (Nat.le_of_ble_eq_true rfl)) dX3_placeOf_10 ⟨Nat.zero_le _, Nat.zero_le _⟩)) (fun r_7 h_6 => ?_)
    obtain rfl : r_7 = nI (ct (plP (thr12 μ (kMR μ e9)) e9) a) := h_6
    refine lv_goto (tgt := 17) hx hb dX3_placeOf_13 (by decide) ?_
    have hk9 : kMR μ e9 = 0 := by simp [kMR, c_5]
    exact W.iret (v := (nI (ct (plP (thr12 μ (kMR μ e9)) e9) a))) hx hb hr (fun t ht hW9 => ⟨⟨_, (), rfl, (by dsimp only; unfold poR; rw [hk9, if_pos rfl] <;> rfl), by first | (rw [ht]; exact hW) | (dsimp only; rw [ht]; exact hW)⟩, hS.F ht⟩) hS.2.2 dX3_placeOf_17
set_option maxHeartbeats 4000000 in
set_option maxRecDepth 100000 in
theorem mtX3_tries (l : Launch) (g : Ge) (σ : Sg) (μ : Mg) (o : Nat → Int64) (e9 : Int32) (a : Nat) (hM : μ.1 0 = nI a) (ha : a ≤ 60) : Met l yX3_tries wsX3_tries ({ frames := 3, cells := 0, slots := 0, locals := 64 } : Room) (va_Pc [.ref (gA g 4), .int e9] (PW g σ μ o)) (va_Qi (S := Unit) (fun r _ => r = trR μ e9) (fun _ t => Wd g σ (thr12 μ (kMR μ e9)) o t.heap) (Az g)) 0 0 (Az g) := by
  refine Met.ofW (cc := cX3_tries) (maxL := 2) (ret := (some .int)) (by decide) rfl ?_
  intro p e s m args below meth c s₁ B hml hv
  obtain ⟨rfl, hC, hW⟩ := hv
  have hx := B.exec
  have hb := B.bytes
  have hr := B.returns
  have hts := atoms_spec (ws := wsX3_tries) B.pre
  have hown : s.vm.findClass RX3 = some m.cls := findClass_of_methodNamed B.named
  have hlocks := B.notSynchronized
  have hinX3 : ∀ w ∈ wsX30, w ∈ wsX3_tries := by decide +kernel
  have hS : va_S (Az g) s.heap s.heap [] := va_S.rf
  have hl := lv_entry ([.ref (gA g 4), .int e9]) (n := 2) (Nat.le_of_ble_eq_true rfl)
  rw [lg_entry_eq]
  generalize (lg_sl ([.ref (gA g 4), .int e9]) ++ List.replicate (2 - (lg_sl ([.ref (gA g 4), .int e9])).length) Slot.unset).toArray = ls at hl ⊢
  have hl : lv_has ls 2 [(0, .ref (gA g 4)), (1, .int e9)] := hl
  refine lv_aload_n hx hb dX3_tries_0 rfl (lv_at hl 0 rfl) ?_
  refine lv_iload_n hx hb dX3_tries_1 rfl (lv_at hl 1 rfl) ?_
  refine va_calli (va_runV (As := [.int e9]) (rest := []) ⟨hx, hb, hml, hown, hts⟩ (mtX3_asks l g σ μ o e9 a hM ha) (cwV 1 hts gX3_tries_X3_asks rfl rfl rfl (by decide +kernel) ⟨Nat.le_of_ble_eq_true rfl, Nat.le_of_ble_eq_true rfl⟩) ⟨PW.blind, rcM hC hW, fun U hU hW9 => ⟨rfl, PW.at hC hS hW U hU hW9⟩⟩ rfl rfl hl.1 rfl (lv_room (Nat.le_of_ble_eq_true rfl)) dX3_tries_2 ⟨Nat.zero_le _, Nat.zero_le _⟩) hS (fun _ _ h => h) (fun _ h => h) (fun r_2 u_3 t H locs ht hvm h_1 hW hz9 hk9 hS => ?_)
  replace hW : Wd g σ (thr12 μ (kMR μ e9)) o H := by rw [← ht]; exact hW
  try dsimp only at h_1
  obtain rfl : r_2 = bI (mt μ e9) := h_1
  refine lv_if_eq (tgt := 17) hx hb dX3_tries_5 (by decide) (fun c_5 => ?_) (fun c_5 => ?_)
  · skip
    replace c_5 := bI_0.mp c_5
    refine lv_iconst (v := 0) hx hb dX3_tries_17 (by decide) ?_
    have hk9 : kMR μ e9 = 1 := by simp [kMR, c_5]
    exact W.iret (v := 0) hx hb hr (fun t ht hW9 => ⟨⟨_, (), rfl, (by dsimp only; unfold trR; rw [hk9]; exact (if_neg (by decide)).symm), by first | (rw [ht]; exact hW) | (dsimp only; rw [ht]; exact hW)⟩, hS.F ht⟩) hS.2.2 dX3_tries_18
  · skip
    replace c_5 := bI_n0.mp c_5
    refine lv_aload_n hx hb dX3_tries_8 rfl (lv_at hl 0 rfl) ?_
    refine gM (v := .ref (gA g 10)) hx hb hts hinX3 hown hC hW 6 (by decide) (by decide +kernel) rfl rfl dX3_tries_9 ?_
    refine lv_iload_n hx hb dX3_tries_12 rfl (lv_at hl 1 rfl) ?_
    refine mLdI 4 (by decide) (mt_in hM ha c_5) hx hb hC hW dX3_tries_13 ?_
    refine lv_goto (tgt := 18) hx hb dX3_tries_14 (by decide) ?_
    have hk9 : kMR μ e9 = 0 := by simp [kMR, c_5]
    exact W.iret (v := μ.2 5 e9.toNatClampNeg) hx hb hr (fun t ht hW9 => ⟨⟨_, (), rfl, (by dsimp only; unfold trR; rw [hk9, if_pos rfl] <;> rfl), by first | (rw [ht]; exact hW) | (dsimp only; rw [ht]; exact hW)⟩, hS.F ht⟩) hS.2.2 dX3_tries_18
set_option maxHeartbeats 4000000 in
set_option maxRecDepth 100000 in
theorem mtX3_foretold (l : Launch) (g : Ge) (σ : Sg) (μ : Mg) (o : Nat → Int64) (e9 : Int32) (a : Nat) (hM : μ.1 0 = nI a) (ha : a ≤ 60) : Met l yX3_foretold wsX3_foretold ({ frames := 3, cells := 0, slots := 0, locals := 64 } : Room) (va_Pc [.ref (gA g 4), .int e9] (PW g σ μ o)) (va_Qi (S := Unit) (fun r _ => r = foR μ e9) (fun _ t => Wd g σ (thr12 μ (kMR μ e9)) o t.heap) (Az g)) 0 0 (Az g) := by
  refine Met.ofW (cc := cX3_foretold) (maxL := 2) (ret := (some .int)) (by decide) rfl ?_
  intro p e s m args below meth c s₁ B hml hv
  obtain ⟨rfl, hC, hW⟩ := hv
  have hx := B.exec
  have hb := B.bytes
  have hr := B.returns
  have hts := atoms_spec (ws := wsX3_foretold) B.pre
  have hown : s.vm.findClass RX3 = some m.cls := findClass_of_methodNamed B.named
  have hlocks := B.notSynchronized
  have hS : va_S (Az g) s.heap s.heap [] := va_S.rf
  have hl := lv_entry ([.ref (gA g 4), .int e9]) (n := 2) (Nat.le_of_ble_eq_true rfl)
  rw [lg_entry_eq]
  generalize (lg_sl ([.ref (gA g 4), .int e9]) ++ List.replicate (2 - (lg_sl ([.ref (gA g 4), .int e9])).length) Slot.unset).toArray = ls at hl ⊢
  have hl : lv_has ls 2 [(0, .ref (gA g 4)), (1, .int e9)] := hl
  refine lv_aload_n hx hb dX3_foretold_0 rfl (lv_at hl 0 rfl) ?_
  refine lv_iload_n hx hb dX3_foretold_1 rfl (lv_at hl 1 rfl) ?_
  refine va_calli (va_runV (As := [.int e9]) (rest := []) ⟨hx, hb, hml, hown, hts⟩ (mtX3_asks l g σ μ o e9 a hM ha) (cwV 1 hts gX3_foretold_X3_asks rfl rfl rfl (by decide +kernel) ⟨Nat.le_of_ble_eq_true rfl, Nat.le_of_ble_eq_true rfl⟩) ⟨PW.blind, rcM hC hW, fun U hU hW9 => ⟨rfl, PW.at hC hS hW U hU hW9⟩⟩ rfl rfl hl.1 rfl (lv_room (Nat.le_of_ble_eq_true rfl)) dX3_foretold_2 ⟨Nat.zero_le _, Nat.zero_le _⟩) hS (fun _ _ h => h) (fun _ h => h) (fun r_2 u_3 t H locs ht hvm h_1 hW hz9 hk9 hS => ?_)
  replace hW : Wd g σ (thr12 μ (kMR μ e9)) o H := by rw [← ht]; exact hW
  try dsimp only at h_1
  obtain rfl : r_2 = bI (mt μ e9) := h_1
  refine lv_if_eq (tgt := 16) hx hb dX3_foretold_5 (by decide) (fun c_5 => ?_) (fun c_5 => ?_)
  · skip
    replace c_5 := bI_0.mp c_5
    refine lv_iconst (v := 0) hx hb dX3_foretold_16 (by decide) ?_
    have hk9 : kMR μ e9 = 1 := by simp [kMR, c_5]
    exact W.iret (v := 0) hx hb hr (fun t ht hW9 => ⟨⟨_, (), rfl, (by dsimp only; unfold foR; rw [hk9]; exact (if_neg (by decide)).symm), by first | (rw [ht]; exact hW) | (dsimp only; rw [ht]; exact hW)⟩, hS.F ht⟩) hS.2.2 dX3_foretold_17
  · skip
    replace c_5 := bI_n0.mp c_5
    refine lv_aload_n hx hb dX3_foretold_8 rfl (lv_at hl 0 rfl) ?_
    refine lv_iload_n hx hb dX3_foretold_9 rfl (lv_at hl 1 rfl) ?_
    refine vp_callSi (va_Run.run (va_runV (As := [.int e9]) (rest := []) ⟨hx, hb, hml, hown, hts⟩ (mtX3_measured l g σ (thr12 μ (kMR μ e9)) o e9 (mt_in hM ha c_5)) (cwV 1 hts gX3_foretold_X3_measured rfl rfl rfl (by decide +kernel) ⟨Nat.le_of_ble_eq_true rfl, Nat.le_of_ble_eq_true rfl⟩) ⟨PW.blind, rcM hC hW, fun U hU hW9 => ⟨rfl, PW.at hC hS hW U hU hW9⟩⟩ rfl rfl hl.1 rfl (lv_room (Nat.le_of_ble_eq_true rfl)) dX3_foretold_10 ⟨Nat.zero_le _, Nat.zero_le _⟩)) (fun r_7 h_6 => ?_)
    obtain rfl : r_7 = mzM (thr12 μ (kMR μ e9)) e9 := h_6
    refine lv_goto (tgt := 17) hx hb dX3_foretold_13 (by decide) ?_
    have hk9 : kMR μ e9 = 0 := by simp [kMR, c_5]
    exact W.iret (v := (mzM (thr12 μ (kMR μ e9)) e9)) hx hb hr (fun t ht hW9 => ⟨⟨_, (), rfl, (by dsimp only; unfold foR; rw [hk9, if_pos rfl] <;> rfl), by first | (rw [ht]; exact hW) | (dsimp only; rw [ht]; exact hW)⟩, hS.F ht⟩) hS.2.2 dX3_foretold_17
set_option maxHeartbeats 4000000 in
set_option maxRecDepth 100000 in
theorem mtX3_compare (l : Launch) (g : Ge) (σ : Sg) (μ : Mg) (o : Nat → Int64) (x y : Int32) (a : Nat) (hM : μ.1 0 = nI a) (ha : a ≤ 60) : Met l yX3_compare wsX3_compare ({ frames := 2, cells := 0, slots := 0, locals := 43 } : Room) (va_Pc [.ref (gA g 4), .int x, .int y] (PW g σ μ o)) (va_Qi (S := Unit) (fun r _ => r = cmR μ x y) (fun _ t => Wd g σ (thr12 μ (kMX μ x y)) o t.heap) (Az g)) 0 0 (Az g) := by
  refine Met.ofW (cc := cX3_compare) (maxL := 3) (ret := (some .int)) (by decide) rfl ?_
  intro p e s m args below meth c s₁ B hml hv
  obtain ⟨rfl, hC, hW⟩ := hv
  have hx := B.exec
  have hb := B.bytes
  have hr := B.returns
  have hts := atoms_spec (ws := wsX3_compare) B.pre
  have hown : s.vm.findClass RX3 = some m.cls := findClass_of_methodNamed B.named
  have hlocks := B.notSynchronized
  have hinX3 : ∀ w ∈ wsX30, w ∈ wsX3_compare := by decide +kernel
  have hS : va_S (Az g) s.heap s.heap [] := va_S.rf
  have hl := lv_entry ([.ref (gA g 4), .int x, .int y]) (n := 3) (Nat.le_of_ble_eq_true rfl)
  rw [lg_entry_eq]
  generalize (lg_sl ([.ref (gA g 4), .int x, .int y]) ++ List.replicate (3 - (lg_sl ([.ref (gA g 4), .int x, .int y])).length) Slot.unset).toArray = ls at hl ⊢
  have hl : lv_has ls 3 [(0, .ref (gA g 4)), (1, .int x), (2, .int y)] := hl
  refine lv_aload_n hx hb dX3_compare_0 rfl (lv_at hl 0 rfl) ?_
  refine lv_aload_n hx hb dX3_compare_1 rfl (lv_at hl 0 rfl) ?_
  refine lv_iload_n hx hb dX3_compare_2 rfl (lv_at hl 1 rfl) ?_
  refine vp_callSi (va_Run.run (va_runV (As := [.int x]) (rest := [.ref (gA g 4)]) ⟨hx, hb, hml, hown, hts⟩ (mtX3_isThere l g σ μ o x a hM ha) (cwV 1 hts gX3_compare_X3_isThere rfl rfl rfl (by decide +kernel) ⟨Nat.le_of_ble_eq_true rfl, Nat.le_of_ble_eq_true rfl⟩) ⟨PW.blind, rcM hC hW, fun U hU hW9 => ⟨rfl, PW.at hC hS hW U hU hW9⟩⟩ rfl rfl hl.1 rfl (lv_room (Nat.le_of_ble_eq_true rfl)) dX3_compare_3 ⟨Nat.zero_le _, Nat.zero_le _⟩)) (fun r_2 h_1 => ?_)
  obtain rfl : r_2 = bI (mt μ x) := h_1
  refine lv_if_eq (tgt := 21) hx hb dX3_compare_6 (by decide) (fun c_3 => ?_) (fun c_3 => ?_)
  · skip
    replace c_3 := bI_0.mp c_3
    refine lv_iconst (v := 1) hx hb dX3_compare_21 (by decide) ?_
    refine pM (ty := .int) hx hb hts hinX3 hown hC hS hW 12 19 (by decide) (by decide +kernel) (by decide +kernel) (1) rfl rfl dX3_compare_22 (fun H locs hW hS => ?_)
    refine lv_aload_n hx hb dX3_compare_25 rfl (lv_at hl 0 rfl) ?_
    refine gM (v := .int 1) hx hb hts hinX3 hown hC hW 19 (by decide) (by decide +kernel) rfl rfl dX3_compare_26 ?_
    refine lv_if_le (tgt := 36) hx hb dX3_compare_29 (by decide) (fun c_4 => absurd c_4 (by decide)) (fun c_4 => ?_)
    refine lv_iconst (v := 0) hx hb dX3_compare_32 (by decide) ?_
    refine lv_goto (tgt := 42) hx hb dX3_compare_33 (by decide) ?_
    have hk9 : kMX μ x y = 1 := by simp [kMX, c_3]
    exact W.iret (v := 0) hx hb hr (fun t ht hW9 => ⟨⟨_, (), rfl, (by dsimp only; unfold cmR; rw [hk9]; first | exact (if_neg (by decide)).symm | (rw [if_pos rfl] <;> rfl)), by first | (dsimp only; rw [ht, hk9]; exact hW) | (rw [ht, hk9]; exact hW)⟩, hS.F ht⟩) hS.2.2 dX3_compare_42
  · skip
    replace c_3 := bI_n0.mp c_3
    refine lv_aload_n hx hb dX3_compare_9 rfl (lv_at hl 0 rfl) ?_
    refine lv_iload_n hx hb dX3_compare_10 rfl (lv_at hl 2 rfl) ?_
    refine vp_callSi (va_Run.run (va_runV (As := [.int y]) (rest := [.ref (gA g 4)]) ⟨hx, hb, hml, hown, hts⟩ (mtX3_isThere l g σ μ o y a hM ha) (cwV 1 hts gX3_compare_X3_isThere rfl rfl rfl (by decide +kernel) ⟨Nat.le_of_ble_eq_true rfl, Nat.le_of_ble_eq_true rfl⟩) ⟨PW.blind, rcM hC hW, fun U hU hW9 => ⟨rfl, PW.at hC hS hW U hU hW9⟩⟩ rfl rfl hl.1 rfl (lv_room (Nat.le_of_ble_eq_true rfl)) dX3_compare_11 ⟨Nat.zero_le _, Nat.zero_le _⟩)) (fun r_6 h_5 => ?_)
    obtain rfl : r_6 = bI (mt μ y) := h_5
    refine lv_if_eq (tgt := 21) hx hb dX3_compare_14 (by decide) (fun c_7 => ?_) (fun c_7 => ?_)
    · skip
      replace c_7 := bI_0.mp c_7
      refine lv_iconst (v := 1) hx hb dX3_compare_21 (by decide) ?_
      refine pM (ty := .int) hx hb hts hinX3 hown hC hS hW 12 19 (by decide) (by decide +kernel) (by decide +kernel) (1) rfl rfl dX3_compare_22 (fun H locs hW hS => ?_)
      refine lv_aload_n hx hb dX3_compare_25 rfl (lv_at hl 0 rfl) ?_
      refine gM (v := .int 1) hx hb hts hinX3 hown hC hW 19 (by decide) (by decide +kernel) rfl rfl dX3_compare_26 ?_
      refine lv_if_le (tgt := 36) hx hb dX3_compare_29 (by decide) (fun c_8 => absurd c_8 (by decide)) (fun c_8 => ?_)
      refine lv_iconst (v := 0) hx hb dX3_compare_32 (by decide) ?_
      refine lv_goto (tgt := 42) hx hb dX3_compare_33 (by decide) ?_
      have hk9 : kMX μ x y = 1 := by simp [kMX, c_3, c_7]
      exact W.iret (v := 0) hx hb hr (fun t ht hW9 => ⟨⟨_, (), rfl, (by dsimp only; unfold cmR; rw [hk9]; first | exact (if_neg (by decide)).symm | (rw [if_pos rfl] <;> rfl)), by first | (dsimp only; rw [ht, hk9]; exact hW) | (rw [ht, hk9]; exact hW)⟩, hS.F ht⟩) hS.2.2 dX3_compare_42
    · skip
      replace c_7 := bI_n0.mp c_7
      refine lv_iconst (v := 0) hx hb dX3_compare_17 (by decide) ?_
      refine lv_goto (tgt := 22) hx hb dX3_compare_18 (by decide) ?_
      refine pM (ty := .int) hx hb hts hinX3 hown hC hS hW 12 19 (by decide) (by decide +kernel) (by decide +kernel) (0) rfl rfl dX3_compare_22 (fun H locs hW hS => ?_)
      refine lv_aload_n hx hb dX3_compare_25 rfl (lv_at hl 0 rfl) ?_
      refine gM (v := .int 0) hx hb hts hinX3 hown hC hW 19 (by decide) (by decide +kernel) rfl rfl dX3_compare_26 ?_
      refine lv_if_le (tgt := 36) hx hb dX3_compare_29 (by decide) (fun c_9 => ?_) (fun c_9 => absurd c_9 (by decide))
      refine lv_aload_n hx hb dX3_compare_36 rfl (lv_at hl 0 rfl) ?_
      refine lv_iload_n hx hb dX3_compare_37 rfl (lv_at hl 1 rfl) ?_
      refine lv_iload_n hx hb dX3_compare_38 rfl (lv_at hl 2 rfl) ?_
      refine vp_callSi (va_Run.run (va_runV (As := [.int x, .int y]) (rest := []) ⟨hx, hb, hml, hown, hts⟩ (mtX3_compared l g σ ((upd μ.1 12 0, μ.2)) o x y (mt_in hM ha c_3) (mt_in hM ha c_7)) (cwV 2 hts gX3_compare_X3_compared rfl rfl rfl (by decide +kernel) ⟨Nat.le_of_ble_eq_true rfl, Nat.le_of_ble_eq_true rfl⟩) ⟨PW.blind, rcM hC hW, fun U hU hW9 => ⟨rfl, PW.at hC hS hW U hU hW9⟩⟩ rfl rfl hl.1 rfl (lv_room (Nat.le_of_ble_eq_true rfl)) dX3_compare_39 ⟨Nat.zero_le _, Nat.zero_le _⟩)) (fun r_11 h_10 => ?_)
      obtain rfl : r_11 = cmM μ.2 x y := h_10
      have hk9 : kMX μ x y = 0 := by simp [kMX, c_3, c_7]
      exact W.iret (v := (cmM μ.2 x y)) hx hb hr (fun t ht hW9 => ⟨⟨_, (), rfl, (by dsimp only; unfold cmR; rw [hk9]; first | exact (if_neg (by decide)).symm | (rw [if_pos rfl] <;> rfl)), by first | (dsimp only; rw [ht, hk9]; exact hW) | (rw [ht, hk9]; exact hW)⟩, hS.F ht⟩) hS.2.2 dX3_compare_42
