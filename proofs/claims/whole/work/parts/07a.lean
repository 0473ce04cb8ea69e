set_option maxHeartbeats 4000000 in
set_option maxRecDepth 100000 in
theorem mtX3_thrown (l : Launch) (g : Ge) (σ : Sg) (μ : Mg) (o : Nat → Int64)  : Met l yX3_thrown wsX3_thrown ({ frames := 0, cells := 0, slots := 0, locals := 0 } : Room) (va_Pc [.ref (gA g 4)] (PW g σ μ o)) (vp_Si (fun r => r = μ.1 12)) 0 0 (fun _ => False) := by
  refine Met.ofW (cc := cX3_thrown) (maxL := 1) (ret := (some .int)) (by decide) rfl ?_
  intro p e s m args below meth c s₁ B hml hv
  obtain ⟨rfl, hC, hW⟩ := hv
  have hx := B.exec
  have hb := B.bytes
  have hr := B.returns
  have hts := atoms_spec (ws := wsX3_thrown) B.pre
  have hown : s.vm.findClass RX3 = some m.cls := findClass_of_methodNamed B.named
  have hlocks := B.notSynchronized
  have hinX3 : ∀ w ∈ wsX30, w ∈ wsX3_thrown := by decide +kernel
  have hS : va_S (Az g) s.heap s.heap [] := va_S.rf
  have hl := lv_entry ([.ref (gA g 4)]) (n := 1) (Nat.le_of_ble_eq_true rfl)
  rw [lg_entry_eq]
  generalize (lg_sl ([.ref (gA g 4)]) ++ List.replicate (1 - (lg_sl ([.ref (gA g 4)])).length) Slot.unset).toArray = ls at hl ⊢
  have hl : lv_has ls 1 [(0, .ref (gA g 4))] := hl
  refine lv_aload_n hx hb dX3_thrown_0 rfl (lv_at hl 0 rfl) ?_
  refine gM (v := .int (μ.1 12)) hx hb hts hinX3 hown hC hW 19 (by decide) (by decide +kernel) rfl rfl dX3_thrown_1 ?_
  exact W.iret (v := μ.1 12) hx hb hr (fun t ht hW9 => ⟨_, rfl, rfl, ht⟩) (fun q h => by cases h) dX3_thrown_4
set_option maxHeartbeats 4000000 in
set_option maxRecDepth 100000 in
theorem mtX3_isThere (l : Launch) (g : Ge) (σ : Sg) (μ : Mg) (o : Nat → Int64) (e9 : Int32) (a : Nat) (hM : μ.1 0 = nI a) (ha : a ≤ 60) : Met l yX3_isThere wsX3_isThere ({ frames := 1, cells := 0, slots := 0, locals := 22 } : Room) (va_Pc [.ref (gA g 4), .int e9] (PW g σ μ o)) (vp_Si (fun r => r = bI (mt μ e9))) 0 0 (fun _ => False) := by
  refine Met.ofW (cc := cX3_isThere) (maxL := 2) (ret := (some .boolean)) (by decide) rfl ?_
  intro p e s m args below meth c s₁ B hml hv
  obtain ⟨rfl, hC, hW⟩ := hv
  have hx := B.exec
  have hb := B.bytes
  have hr := B.returns
  have hts := atoms_spec (ws := wsX3_isThere) B.pre
  have hown : s.vm.findClass RX3 = some m.cls := findClass_of_methodNamed B.named
  have hlocks := B.notSynchronized
  have hinX3 : ∀ w ∈ wsX30, w ∈ wsX3_isThere := by decide +kernel
  have hS : va_S (Az g) s.heap s.heap [] := va_S.rf
  have hl := lv_entry ([.ref (gA g 4), .int e9]) (n := 2) (Nat.le_of_ble_eq_true rfl)
  rw [lg_entry_eq]
  generalize (lg_sl ([.ref (gA g 4), .int e9]) ++ List.replicate (2 - (lg_sl ([.ref (gA g 4), .int e9])).length) Slot.unset).toArray = ls at hl ⊢
  have hl : lv_has ls 2 [(0, .ref (gA g 4)), (1, .int e9)] := hl
  refine lv_iload_n hx hb dX3_isThere_0 rfl (lv_at hl 1 rfl) ?_
  refine lv_iconst (v := 0) hx hb dX3_isThere_1 (by decide) ?_
  refine lv_aload_n hx hb dX3_isThere_2 rfl (lv_at hl 0 rfl) ?_
  refine gM (v := .int (μ.1 0)) hx hb hts hinX3 hown hC hW 0 (by decide) (by decide +kernel) rfl rfl dX3_isThere_3 ?_
  refine lv_iconst (v := 1) hx hb dX3_isThere_6 (by decide) ?_
  refine lv_isub hx hb dX3_isThere_7 ?_
  refine vp_callSi (va_Run.run (va_runS (As := [.int e9, .int 0, .int ((μ.1 0 - 1))]) (rest := []) ⟨hx, hb, hml, hown, hts⟩ (mtX3_isIn l e9 0 (μ.1 0 - 1)) (va_cwS 3 hts gX3_isThere_X3_isIn rfl rfl rfl (by decide +kernel) ⟨Nat.le_of_ble_eq_true rfl, Nat.le_of_ble_eq_true rfl⟩) ⟨P0.blind, fun U hU hW9 => ⟨rfl, trivial⟩⟩ rfl rfl hl.1 rfl (lv_room (Nat.le_of_ble_eq_true rfl)) dX3_isThere_8 ⟨Nat.zero_le _, Nat.zero_le _⟩)) (fun r_2 h_1 => ?_)
  obtain rfl : r_2 = bI (wi e9 0 (μ.1 0 - 1)) := h_1
  refine lv_if_eq (tgt := 27) hx hb dX3_isThere_11 (by decide) (fun c_3 => ?_) (fun c_3 => ?_)
  · skip
    replace c_3 := bI_0.mp c_3
    refine lv_iconst (v := 0) hx hb dX3_isThere_27 (by decide) ?_
    exact W.zret (v := 0) (ty := .boolean) hx hb hr rfl (fun t ht hW9 => ⟨_, rfl, by simp [mt, bI, c_3], ht⟩) (fun q h => by cases h) dX3_isThere_28
  · skip
    replace c_3 := bI_n0.mp c_3
    refine lv_aload_n hx hb dX3_isThere_14 rfl (lv_at hl 0 rfl) ?_
    refine gM (v := .ref (gA g 5)) hx hb hts hinX3 hown hC hW 1 (by decide) (by decide +kernel) rfl rfl dX3_isThere_15 ?_
    refine lv_iload_n hx hb dX3_isThere_18 rfl (lv_at hl 1 rfl) ?_
    refine mLdZI (in60 hM ha c_3) hx hb hC hW dX3_isThere_19 ?_
    refine lv_if_eq (tgt := 27) hx hb dX3_isThere_20 (by decide) (fun c_4 => ?_) (fun c_4 => ?_)
    · skip
      refine lv_iconst (v := 0) hx hb dX3_isThere_27 (by decide) ?_
      exact W.zret (v := 0) (ty := .boolean) hx hb hr rfl (fun t ht hW9 => ⟨_, rfl, by simp [mt, bI, c_3, c_4], ht⟩) (fun q h => by cases h) dX3_isThere_28
    · skip
      refine lv_iconst (v := 1) hx hb dX3_isThere_23 (by decide) ?_
      refine lv_goto (tgt := 28) hx hb dX3_isThere_24 (by decide) ?_
      exact W.zret (v := 1) (ty := .boolean) hx hb hr rfl (fun t ht hW9 => ⟨_, rfl, by simp [mt, bI, c_3, c_4], ht⟩) (fun q h => by cases h) dX3_isThere_28
set_option maxHeartbeats 4000000 in
set_option maxRecDepth 100000 in
theorem mtX3_count (l : Launch) (g : Ge) (σ : Sg) (μ : Mg) (o : Nat → Int64) (a : Nat) (hM : μ.1 0 = nI a) (ha : a ≤ 60) : Met l yX3_count wsX3_count ({ frames := 0, cells := 0, slots := 0, locals := 0 } : Room) (va_Pc [.ref (gA g 4)] (PW g σ μ o)) (vp_Si (fun r => r = nI (ct (thM μ) a))) 0 0 (fun _ => False) := by
  refine Met.ofW (cc := cX3_count) (maxL := 3) (ret := (some .int)) (by decide) rfl ?_
  intro p e s m args below meth c s₁ B hml hv
  obtain ⟨rfl, hC, hW⟩ := hv
  have hx := B.exec
  have hb := B.bytes
  have hr := B.returns
  have hts := atoms_spec (ws := wsX3_count) B.pre
  have hown : s.vm.findClass RX3 = some m.cls := findClass_of_methodNamed B.named
  have hlocks := B.notSynchronized
  have hinX3 : ∀ w ∈ wsX30, w ∈ wsX3_count := by decide +kernel
  have hS : va_S (Az g) s.heap s.heap [] := va_S.rf
  have hl := lv_entry ([.ref (gA g 4)]) (n := 3) (Nat.le_of_ble_eq_true rfl)
  rw [lg_entry_eq]
  generalize (lg_sl ([.ref (gA g 4)]) ++ List.replicate (3 - (lg_sl ([.ref (gA g 4)])).length) Slot.unset).toArray = ls at hl ⊢
  have hl : lv_has ls 3 [(0, .ref (gA g 4))] := hl
  refine lv_iconst (v := 0) hx hb dX3_count_0 (by decide) ?_
  refine lv_istore_n (lv' := [(1, .int 0), (0, .ref (gA g 4))]) hx hb dX3_count_1 rfl hl (by decide) rfl (fun ls hl => ?_)
  refine lv_iconst (v := 0) hx hb dX3_count_2 (by decide) ?_
  refine lv_istore_n (lv' := [(2, .int 0), (1, .int 0), (0, .ref (gA g 4))]) hx hb dX3_count_3 rfl hl (by decide) rfl (fun ls hl => ?_)
  have loop_1 : ∀ (n9 i : Nat), i ≤ a → a < i + n9 → True → ∀ (ls : Array Slot), lv_has ls 3 [(0, .ref (gA g 4)), (1, .int (nI (ct (thM μ) i))), (2, .int (nI i))] → W p l e (headSpec wsX3_count ({ frames := 0, cells := 0, slots := 0, locals := 0 } : Room)).room s m ([.ref (gA g 4)] : List Value).toArray below meth c s.heap [] 0 0 (MQ below (vp_Si (fun r => r = nI (ct (thM μ) a))) ([.ref (gA g 4)] : List Value).toArray s 0 0 (fun _ => False)) (F0 m 4 ls []) := by
    intro n9
    induction n9 with
    | zero =>
      intro i h1 h2
      exact absurd h2 (by omega)
    | succ n9 ih =>
      intro i hi hin hinv ls hl
      refine lv_iload_n hx hb dX3_count_4 rfl (lv_at hl 2 rfl) ?_
      refine lv_aload_n hx hb dX3_count_5 rfl (lv_at hl 0 rfl) ?_
      refine gM (v := .int (μ.1 0)) hx hb hts hinX3 hown hC hW 0 (by decide) (by decide +kernel) rfl rfl dX3_count_6 ?_
      refine lv_icmp_ge (tgt := 35) hx hb dX3_count_9 (by decide) (fun c_2 => ?_) (fun c_2 => ?_)
      · skip
        have hi16 : i = a := by rw [hM, nI_leI (by omega) (by omega)] at c_2; omega
        refine lv_iload_n hx hb dX3_count_35 rfl (lv_at hl 1 rfl) ?_
        exact W.iret (v := nI (ct (thM μ) i)) hx hb hr (fun t ht hW9 => ⟨_, rfl, by rw [hi16], ht⟩) (fun q h => by cases h) dX3_count_36
      · skip
        have hlt : i < a := by rw [hM, nI_leI (by omega) (by omega)] at c_2; omega
        refine lv_iload_n hx hb dX3_count_12 rfl (lv_at hl 1 rfl) ?_
        refine lv_aload_n hx hb dX3_count_13 rfl (lv_at hl 0 rfl) ?_
        refine gM (v := .ref (gA g 5)) hx hb hts hinX3 hown hC hW 1 (by decide) (by decide +kernel) rfl rfl dX3_count_14 ?_
        refine lv_iload_n hx hb dX3_count_17 rfl (lv_at hl 2 rfl) ?_
        refine mLdZ hx hb hC hW (show i < 60 by omega) dX3_count_18 ?_
        refine lv_if_eq (tgt := 26) hx hb dX3_count_19 (by decide) (fun c_3 => ?_) (fun c_3 => ?_)
        · skip
          refine lv_iconst (v := 0) hx hb dX3_count_26 (by decide) ?_
          refine lv_iadd hx hb dX3_count_27 ?_
          refine lv_istore_n (lv' := [(1, .int ((nI (ct (thM μ) i) + 0))), (0, .ref (gA g 4)), (2, .int (nI i))]) hx hb dX3_count_28 rfl hl (by decide) rfl (fun ls hl => ?_)
          refine lv_iinc (v := nI (i + 1)) (lv' := [(2, .int (nI (i + 1))), (1, .int ((nI (ct (thM μ) i) + 0))), (0, .ref (gA g 4))]) hx hb dX3_count_29 hl (k := 2) rfl (nI_1 _) (by decide) rfl (fun ls hl => ?_)
          refine lv_goto (tgt := 4) hx hb dX3_count_32 (by decide) ?_
          have hct : nI (ct (thM μ) (i + 1)) = nI (ct (thM μ) i) + 0 := by rw [ct_f (by simp [thM, c_3]), Int32.add_zero]
          exact ih (i + 1) (by omega) (by omega) trivial ls (by rw [hct]; exact lv_sub hl [2, 1, 0] rfl)
        · skip
          refine lv_iconst (v := 1) hx hb dX3_count_22 (by decide) ?_
          refine lv_goto (tgt := 27) hx hb dX3_count_23 (by decide) ?_
          refine lv_iadd hx hb dX3_count_27 ?_
          refine lv_istore_n (lv' := [(1, .int ((nI (ct (thM μ) i) + 1))), (0, .ref (gA g 4)), (2, .int (nI i))]) hx hb dX3_count_28 rfl hl (by decide) rfl (fun ls hl => ?_)
          refine lv_iinc (v := nI (i + 1)) (lv' := [(2, .int (nI (i + 1))), (1, .int ((nI (ct (thM μ) i) + 1))), (0, .ref (gA g 4))]) hx hb dX3_count_29 hl (k := 2) rfl (nI_1 _) (by decide) rfl (fun ls hl => ?_)
          refine lv_goto (tgt := 4) hx hb dX3_count_32 (by decide) ?_
          have hct : nI (ct (thM μ) (i + 1)) = nI (ct (thM μ) i) + 1 := by rw [ct_t (by simp [thM, c_3])]; exact (nI_1 _).symm
          exact ih (i + 1) (by omega) (by omega) trivial ls (by rw [hct]; exact lv_sub hl [2, 1, 0] rfl)
  exact loop_1 (a + 1) 0 (Nat.zero_le _) (by omega) trivial ls (by exact lv_sub hl [2, 1, 0] rfl)
