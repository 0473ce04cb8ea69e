set_option maxHeartbeats 4000000 in
set_option maxRecDepth 100000 in
theorem mtX2_isFitting (l : Launch) (g : Ge) (σ : Sg) (μ : Mg) (o : Nat → Int64) (j : Nat) (hj : j < 16) : Met l yX2_isFitting wsX2_isFitting ({ frames := 1, cells := 0, slots := 0, locals := 22 } : Room) (va_Pc [.ref (gA g 0), .ref (gA g (13 + j))] (PW g σ μ o)) (vp_Si (fun r => r = bI (fit σ.1 (σ.2.1 j)))) 0 0 (fun _ => False) := by
  refine Met.ofW (cc := cX2_isFitting) (maxL := 2) (ret := (some .boolean)) (by decide) rfl ?_
  intro p e s m args below meth c s₁ B hml hv
  obtain ⟨rfl, hC, hW⟩ := hv
  have hx := B.exec
  have hb := B.bytes
  have hr := B.returns
  have hts := atoms_spec (ws := wsX2_isFitting) B.pre
  have hown : s.vm.findClass RX2 = some m.cls := findClass_of_methodNamed B.named
  have hlocks := B.notSynchronized
  have hinX1 : ∀ w ∈ wsX10, w ∈ wsX2_isFitting := by decide +kernel
  have hinX2 : ∀ w ∈ wsX20, w ∈ wsX2_isFitting := by decide +kernel
  have hS : va_S (Az g) s.heap s.heap [] := va_S.rf
  have hl := lv_entry ([.ref (gA g 0), .ref (gA g (13 + j))]) (n := 2) (Nat.le_of_ble_eq_true rfl)
  rw [lg_entry_eq]
  generalize (lg_sl ([.ref (gA g 0), .ref (gA g (13 + j))]) ++ List.replicate (2 - (lg_sl ([.ref (gA g 0), .ref (gA g (13 + j))])).length) Slot.unset).toArray = ls at hl ⊢
  have hl : lv_has ls 2 [(0, .ref (gA g 0)), (1, .ref (gA g (13 + j)))] := hl
  refine lv_aload_n hx hb dX2_isFitting_0 rfl (lv_at hl 1 rfl) ?_
  refine gEn (v := .int (σ.2.1 j 3)) hx hb hts hinX1 hown hC hW hj 3 (by decide) (by decide +kernel) rfl rfl dX2_isFitting_1 ?_
  refine lv_aload_n hx hb dX2_isFitting_4 rfl (lv_at hl 0 rfl) ?_
  refine gB (v := .int (σ.1 3)) hx hb hts hinX2 hown hC hW 5 (by decide) (by decide +kernel) rfl rfl dX2_isFitting_5 ?_
  refine lv_aload_n hx hb dX2_isFitting_8 rfl (lv_at hl 0 rfl) ?_
  refine gB (v := .int (σ.1 4)) hx hb hts hinX2 hown hC hW 6 (by decide) (by decide +kernel) rfl rfl dX2_isFitting_9 ?_
  refine vp_callSi (va_Run.run (va_runS (As := [.int (σ.2.1 j 3), .int (σ.1 3), .int (σ.1 4)]) (rest := []) ⟨hx, hb, hml, hown, hts⟩ (mtX2_isWithin l (σ.2.1 j 3) (σ.1 3) (σ.1 4)) (va_cwS 3 hts gX2_isFitting_X2_isWithin rfl rfl rfl (by decide +kernel) ⟨Nat.le_of_ble_eq_true rfl, Nat.le_of_ble_eq_true rfl⟩) ⟨P0.blind, fun U hU hW9 => ⟨rfl, trivial⟩⟩ rfl rfl hl.1 rfl (lv_room (Nat.le_of_ble_eq_true rfl)) dX2_isFitting_12 ⟨Nat.zero_le _, Nat.zero_le _⟩)) (fun r_2 h_1 => ?_)
  obtain rfl : r_2 = bI (wi (σ.2.1 j 3) (σ.1 3) (σ.1 4)) := h_1
  exact W.zret (v := (bI (wi (σ.2.1 j 3) (σ.1 3) (σ.1 4)))) (ty := .boolean) hx hb hr (bI_nar _) (fun t ht hW9 => ⟨_, rfl, rfl, ht⟩) (fun q h => by cases h) dX2_isFitting_15
