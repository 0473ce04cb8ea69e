set_option maxHeartbeats 4000000 in
set_option maxRecDepth 100000 in
theorem mtX2_findEntry (l : Launch) (g : Ge) (σ : Sg) (μ : Mg) (o : Nat → Int64) (n : Int32) : Met l yX2_findEntry wsX2_findEntry ({ frames := 0, cells := 0, slots := 0, locals := 0 } : Room) (va_Pc [.ref (gA g 0), .int n] (PW g σ μ o)) (va_Sq (fun r => r = (fs (pN σ.2.1 n) 16).map (fun j => gA g (13 + j)))) 0 0 (fun _ => False) := by
  refine Met.ofW (cc := cX2_findEntry) (maxL := 6) (ret := (some (.object "BootChooser$Entry"))) (by decide) rfl ?_
  intro p e s m args below meth c s₁ B hml hv
  obtain ⟨rfl, hC, hW⟩ := hv
  have hx := B.exec
  have hb := B.bytes
  have hr := B.returns
  have hts := atoms_spec (ws := wsX2_findEntry) B.pre
  have hown : s.vm.findClass RX2 = some m.cls := findClass_of_methodNamed B.named
  have hlocks := B.notSynchronized
  have hinX1 : ∀ w ∈ wsX10, w ∈ wsX2_findEntry := by decide +kernel
  have hinX2 : ∀ w ∈ wsX20, w ∈ wsX2_findEntry := by decide +kernel
  have hS : va_S (Az g) s.heap s.heap [] := va_S.rf
  have hl := lv_entry ([.ref (gA g 0), .int n]) (n := 6) (Nat.le_of_ble_eq_true rfl)
  rw [lg_entry_eq]
  generalize (lg_sl ([.ref (gA g 0), .int n]) ++ List.replicate (6 - (lg_sl ([.ref (gA g 0), .int n])).length) Slot.unset).toArray = ls at hl ⊢
  have hl : lv_has ls 6 [(0, .ref (gA g 0)), (1, .int n)] := hl
  refine lv_aload_n hx hb dX2_findEntry_0 rfl (lv_at hl 0 rfl) ?_
  refine gB (v := .ref (gA g 1)) hx hb hts hinX2 hown hC hW 0 (by decide) (by decide +kernel) rfl rfl dX2_findEntry_1 ?_
  refine lv_astore_n (lv' := [(2, .ref (gA g 1)), (0, .ref (gA g 0)), (1, .int n)]) hx hb dX2_findEntry_4 rfl hl (by decide) rfl (fun ls hl => ?_)
  refine lv_aload_n hx hb dX2_findEntry_5 rfl (lv_at hl 0 rfl) ?_
  refine rLen hx hb hC hW dX2_findEntry_6 ?_
  refine lv_istore_n (lv' := [(3, .int 16), (2, .ref (gA g 1)), (0, .ref (gA g 0)), (1, .int n)]) hx hb dX2_findEntry_7 rfl hl (by decide) rfl (fun ls hl => ?_)
  refine lv_iconst (v := 0) hx hb dX2_findEntry_8 (by decide) ?_
  refine lv_istore (lv' := [(4, .int 0), (3, .int 16), (2, .ref (gA g 1)), (0, .ref (gA g 0)), (1, .int n)]) hx hb dX2_findEntry_9 hl (by decide) rfl (fun ls hl => ?_)
  have loop_1 : ∀ (n9 i : Nat), i ≤ 16 → 16 < i + n9 → fs (pN σ.2.1 n) i = none → ∀ (ls : Array Slot), lv_has ls 6 [(0, .ref (gA g 0)), (1, .int n), (2, .ref (gA g 1)), (3, .int 16), (4, .int (nI i))] → W p l e (headSpec wsX2_findEntry ({ frames := 0, cells := 0, slots := 0, locals := 0 } : Room)).room s m ([.ref (gA g 0), .int n] : List Value).toArray below meth c s.heap [] 0 0 (MQ below (va_Sq (fun r => r = (fs (pN σ.2.1 n) 16).map (fun j => gA g (13 + j)))) ([.ref (gA g 0), .int n] : List Value).toArray s 0 0 (fun _ => False)) (F0 m 11 ls []) := by
    intro n9
    induction n9 with
    | zero =>
      intro i h1 h2
      exact absurd h2 (by omega)
    | succ n9 ih =>
      intro i hi hin hinv ls hl
      refine lv_iload hx hb dX2_findEntry_11 (lv_at hl 4 rfl) ?_
      refine lv_iload_n hx hb dX2_findEntry_13 rfl (lv_at hl 3 rfl) ?_
      refine lv_icmp_ge (tgt := 49) hx hb dX2_findEntry_14 (by decide) (fun c_2 => ?_) (fun c_2 => ?_)
      · skip
        have hi16 : i = 16 := (nI16_le hi).mp c_2
        refine lv_null hx hb dX2_findEntry_49 ?_
        exact W.aret (v := va_rf none) hx hb hr (Or.inl ⟨_, rfl⟩) (va_rf_or _) (fun t ht hW9 => ⟨none, rfl, by rw [hi16] at hinv; rw [hinv]; rfl, ht⟩) (fun q h => by cases h) dX2_findEntry_50
      · skip
        have hlt : i < 16 := (nI16_le_n hi).mp c_2
        refine lv_aload_n hx hb dX2_findEntry_17 rfl (lv_at hl 2 rfl) ?_
        refine lv_iload hx hb dX2_findEntry_18 (lv_at hl 4 rfl) ?_
        refine rLd hx hb hC hW hlt dX2_findEntry_20 ?_
        refine lv_astore (lv' := [(5, .ref (gA g (13 + i))), (0, .ref (gA g 0)), (1, .int n), (2, .ref (gA g 1)), (3, .int 16), (4, .int (nI i))]) hx hb dX2_findEntry_21 hl (by decide) rfl (fun ls hl => ?_)
        refine lv_aload hx hb dX2_findEntry_23 (lv_at hl 0 rfl) ?_
        refine gEn (v := .int (σ.2.1 i 0)) hx hb hts hinX1 hown hC hW hlt 0 (by decide) (by decide +kernel) rfl rfl dX2_findEntry_25 ?_
        refine lv_if_eq (tgt := 43) hx hb dX2_findEntry_28 (by decide) (fun c_3 => ?_) (fun c_3 => ?_)
        · skip
          refine lv_iinc (v := nI (i + 1)) (lv' := [(4, .int (nI (i + 1))), (5, .ref (gA g (13 + i))), (0, .ref (gA g 0)), (1, .int n), (2, .ref (gA g 1)), (3, .int 16)]) hx hb dX2_findEntry_43 hl (k := 5) rfl (nI_1 _) (by decide) rfl (fun ls hl => ?_)
          refine lv_goto (tgt := 11) hx hb dX2_findEntry_46 (by decide) ?_
          exact ih (i + 1) (by omega) (by omega) (fs_step hinv (by simp [pN, thr, c_3])) ls (by exact lv_sub hl [2, 3, 4, 5, 0] rfl)
        · skip
          refine lv_aload hx hb dX2_findEntry_31 (lv_at hl 0 rfl) ?_
          refine gEn (v := .int (σ.2.1 i 1)) hx hb hts hinX1 hown hC hW hlt 1 (by decide) (by decide +kernel) rfl rfl dX2_findEntry_33 ?_
          refine lv_iload_n hx hb dX2_findEntry_36 rfl (lv_at hl 2 rfl) ?_
          refine lv_icmp_ne (tgt := 43) hx hb dX2_findEntry_37 (by decide) (fun c_4 => ?_) (fun c_4 => ?_)
          · skip
            refine lv_iinc (v := nI (i + 1)) (lv' := [(4, .int (nI (i + 1))), (5, .ref (gA g (13 + i))), (0, .ref (gA g 0)), (1, .int n), (2, .ref (gA g 1)), (3, .int 16)]) hx hb dX2_findEntry_43 hl (k := 5) rfl (nI_1 _) (by decide) rfl (fun ls hl => ?_)
            refine lv_goto (tgt := 11) hx hb dX2_findEntry_46 (by decide) ?_
            exact ih (i + 1) (by omega) (by omega) (fs_step hinv (by simp [pN, thr, c_3, c_4])) ls (by exact lv_sub hl [2, 3, 4, 5, 0] rfl)
          · skip
            refine lv_aload hx hb dX2_findEntry_40 (lv_at hl 0 rfl) ?_
            exact W.aret (v := va_rf (some (gA g (13 + i)))) hx hb hr (Or.inl ⟨_, rfl⟩) (va_rf_or _) (fun t ht hW9 => ⟨(some (gA g (13 + i))), rfl, by rw [fs_hit hinv (by simp [pN, thr, c_3, c_4]) hlt]; rfl, ht⟩) (fun q h => by cases h) dX2_findEntry_42
  exact loop_1 (16 + 1) 0 (Nat.zero_le _) (by omega) rfl ls (by exact lv_sub hl [3, 4, 2, 1, 0] rfl)
set_option maxHeartbeats 4000000 in
set_option maxRecDepth 100000 in
theorem mtX2_freeRow (l : Launch) (g : Ge) (σ : Sg) (μ : Mg) (o : Nat → Int64)  : Met l yX2_freeRow wsX2_freeRow ({ frames := 0, cells := 0, slots := 0, locals := 0 } : Room) (va_Pc [.ref (gA g 0)] (PW g σ μ o)) (va_Sq (fun r => r = (fs (frP σ.2.1) 16).map (fun j => gA g (13 + j)))) 0 0 (fun _ => False) := by
  refine Met.ofW (cc := cX2_freeRow) (maxL := 5) (ret := (some (.object "BootChooser$Entry"))) (by decide) rfl ?_
  intro p e s m args below meth c s₁ B hml hv
  obtain ⟨rfl, hC, hW⟩ := hv
  have hx := B.exec
  have hb := B.bytes
  have hr := B.returns
  have hts := atoms_spec (ws := wsX2_freeRow) B.pre
  have hown : s.vm.findClass RX2 = some m.cls := findClass_of_methodNamed B.named
  have hlocks := B.notSynchronized
  have hinX1 : ∀ w ∈ wsX10, w ∈ wsX2_freeRow := by decide +kernel
  have hinX2 : ∀ w ∈ wsX20, w ∈ wsX2_freeRow := by decide +kernel
  have hS : va_S (Az g) s.heap s.heap [] := va_S.rf
  have hl := lv_entry ([.ref (gA g 0)]) (n := 5) (Nat.le_of_ble_eq_true rfl)
  rw [lg_entry_eq]
  generalize (lg_sl ([.ref (gA g 0)]) ++ List.replicate (5 - (lg_sl ([.ref (gA g 0)])).length) Slot.unset).toArray = ls at hl ⊢
  have hl : lv_has ls 5 [(0, .ref (gA g 0))] := hl
  refine lv_aload_n hx hb dX2_freeRow_0 rfl (lv_at hl 0 rfl) ?_
  refine gB (v := .ref (gA g 1)) hx hb hts hinX2 hown hC hW 0 (by decide) (by decide +kernel) rfl rfl dX2_freeRow_1 ?_
  refine lv_astore_n (lv' := [(1, .ref (gA g 1)), (0, .ref (gA g 0))]) hx hb dX2_freeRow_4 rfl hl (by decide) rfl (fun ls hl => ?_)
  refine lv_aload_n hx hb dX2_freeRow_5 rfl (lv_at hl 0 rfl) ?_
  refine rLen hx hb hC hW dX2_freeRow_6 ?_
  refine lv_istore_n (lv' := [(2, .int 16), (1, .ref (gA g 1)), (0, .ref (gA g 0))]) hx hb dX2_freeRow_7 rfl hl (by decide) rfl (fun ls hl => ?_)
  refine lv_iconst (v := 0) hx hb dX2_freeRow_8 (by decide) ?_
  refine lv_istore_n (lv' := [(3, .int 0), (2, .int 16), (1, .ref (gA g 1)), (0, .ref (gA g 0))]) hx hb dX2_freeRow_9 rfl hl (by decide) rfl (fun ls hl => ?_)
  have loop_1 : ∀ (n9 i : Nat), i ≤ 16 → 16 < i + n9 → fs (frP σ.2.1) i = none → ∀ (ls : Array Slot), lv_has ls 5 [(0, .ref (gA g 0)), (1, .ref (gA g 1)), (2, .int 16), (3, .int (nI i))] → W p l e (headSpec wsX2_freeRow ({ frames := 0, cells := 0, slots := 0, locals := 0 } : Room)).room s m ([.ref (gA g 0)] : List Value).toArray below meth c s.heap [] 0 0 (MQ below (va_Sq (fun r => r = (fs (frP σ.2.1) 16).map (fun j => gA g (13 + j)))) ([.ref (gA g 0)] : List Value).toArray s 0 0 (fun _ => False)) (F0 m 10 ls []) := by
    intro n9
    induction n9 with
    | zero =>
      intro i h1 h2
      exact absurd h2 (by omega)
    | succ n9 ih =>
      intro i hi hin hinv ls hl
      refine lv_iload_n hx hb dX2_freeRow_10 rfl (lv_at hl 3 rfl) ?_
      refine lv_iload_n hx hb dX2_freeRow_11 rfl (lv_at hl 2 rfl) ?_
      refine lv_icmp_ge (tgt := 37) hx hb dX2_freeRow_12 (by decide) (fun c_2 => ?_) (fun c_2 => ?_)
      · skip
        have hi16 : i = 16 := (nI16_le hi).mp c_2
        refine lv_null hx hb dX2_freeRow_37 ?_
        exact W.aret (v := va_rf none) hx hb hr (Or.inl ⟨_, rfl⟩) (va_rf_or _) (fun t ht hW9 => ⟨none, rfl, by rw [hi16] at hinv; rw [hinv]; rfl, ht⟩) (fun q h => by cases h) dX2_freeRow_38
      · skip
        have hlt : i < 16 := (nI16_le_n hi).mp c_2
        refine lv_aload_n hx hb dX2_freeRow_15 rfl (lv_at hl 1 rfl) ?_
        refine lv_iload_n hx hb dX2_freeRow_16 rfl (lv_at hl 3 rfl) ?_
        refine rLd hx hb hC hW hlt dX2_freeRow_17 ?_
        refine lv_astore (lv' := [(4, .ref (gA g (13 + i))), (0, .ref (gA g 0)), (1, .ref (gA g 1)), (2, .int 16), (3, .int (nI i))]) hx hb dX2_freeRow_18 hl (by decide) rfl (fun ls hl => ?_)
        refine lv_aload hx hb dX2_freeRow_20 (lv_at hl 0 rfl) ?_
        refine gEn (v := .int (σ.2.1 i 0)) hx hb hts hinX1 hown hC hW hlt 0 (by decide) (by decide +kernel) rfl rfl dX2_freeRow_22 ?_
        refine lv_if_ne (tgt := 31) hx hb dX2_freeRow_25 (by decide) (fun c_3 => ?_) (fun c_3 => ?_)
        · skip
          refine lv_iinc (v := nI (i + 1)) (lv' := [(3, .int (nI (i + 1))), (4, .ref (gA g (13 + i))), (0, .ref (gA g 0)), (1, .ref (gA g 1)), (2, .int 16)]) hx hb dX2_freeRow_31 hl (k := 4) rfl (nI_1 _) (by decide) rfl (fun ls hl => ?_)
          refine lv_goto (tgt := 10) hx hb dX2_freeRow_34 (by decide) ?_
          exact ih (i + 1) (by omega) (by omega) (fs_step hinv (by simp [frP, c_3])) ls (by exact lv_sub hl [2, 3, 4, 0] rfl)
        · skip
          refine lv_aload hx hb dX2_freeRow_28 (lv_at hl 0 rfl) ?_
          exact W.aret (v := va_rf (some (gA g (13 + i)))) hx hb hr (Or.inl ⟨_, rfl⟩) (va_rf_or _) (fun t ht hW9 => ⟨(some (gA g (13 + i))), rfl, by rw [fs_hit hinv (by simp [frP, c_3]) hlt]; rfl, ht⟩) (fun q h => by cases h) dX2_freeRow_30
  exact loop_1 (16 + 1) 0 (Nat.zero_le _) (by omega) rfl ls (by exact lv_sub hl [3, 2, 1, 0] rfl)
set_option maxHeartbeats 4000000 in
set_option maxRecDepth 100000 in
theorem mtX2_countEntries (l : Launch) (g : Ge) (σ : Sg) (μ : Mg) (o : Nat → Int64)  : Met l yX2_countEntries wsX2_countEntries ({ frames := 0, cells := 0, slots := 0, locals := 0 } : Room) (va_Pc [.ref (gA g 0)] (PW g σ μ o)) (vp_Si (fun r => r = nI (ct (thr σ.2.1) 16))) 0 0 (fun _ => False) := by
  refine Met.ofW (cc := cX2_countEntries) (maxL := 6) (ret := (some .int)) (by decide) rfl ?_
  intro p e s m args below meth c s₁ B hml hv
  obtain ⟨rfl, hC, hW⟩ := hv
  have hx := B.exec
  have hb := B.bytes
  have hr := B.returns
  have hts := atoms_spec (ws := wsX2_countEntries) B.pre
  have hown : s.vm.findClass RX2 = some m.cls := findClass_of_methodNamed B.named
  have hlocks := B.notSynchronized
  have hinX1 : ∀ w ∈ wsX10, w ∈ wsX2_countEntries := by decide +kernel
  have hinX2 : ∀ w ∈ wsX20, w ∈ wsX2_countEntries := by decide +kernel
  have hS : va_S (Az g) s.heap s.heap [] := va_S.rf
  have hl := lv_entry ([.ref (gA g 0)]) (n := 6) (Nat.le_of_ble_eq_true rfl)
  rw [lg_entry_eq]
  generalize (lg_sl ([.ref (gA g 0)]) ++ List.replicate (6 - (lg_sl ([.ref (gA g 0)])).length) Slot.unset).toArray = ls at hl ⊢
  have hl : lv_has ls 6 [(0, .ref (gA g 0))] := hl
  refine lv_iconst (v := 0) hx hb dX2_countEntries_0 (by decide) ?_
  refine lv_istore_n (lv' := [(1, .int 0), (0, .ref (gA g 0))]) hx hb dX2_countEntries_1 rfl hl (by decide) rfl (fun ls hl => ?_)
  refine lv_aload_n hx hb dX2_countEntries_2 rfl (lv_at hl 1 rfl) ?_
  refine gB (v := .ref (gA g 1)) hx hb hts hinX2 hown hC hW 0 (by decide) (by decide +kernel) rfl rfl dX2_countEntries_3 ?_
  refine lv_astore_n (lv' := [(2, .ref (gA g 1)), (1, .int 0), (0, .ref (gA g 0))]) hx hb dX2_countEntries_6 rfl hl (by decide) rfl (fun ls hl => ?_)
  refine lv_aload_n hx hb dX2_countEntries_7 rfl (lv_at hl 0 rfl) ?_
  refine rLen hx hb hC hW dX2_countEntries_8 ?_
  refine lv_istore_n (lv' := [(3, .int 16), (2, .ref (gA g 1)), (1, .int 0), (0, .ref (gA g 0))]) hx hb dX2_countEntries_9 rfl hl (by decide) rfl (fun ls hl => ?_)
  refine lv_iconst (v := 0) hx hb dX2_countEntries_10 (by decide) ?_
  refine lv_istore (lv' := [(4, .int 0), (3, .int 16), (2, .ref (gA g 1)), (1, .int 0), (0, .ref (gA g 0))]) hx hb dX2_countEntries_11 hl (by decide) rfl (fun ls hl => ?_)
  have loop_1 : ∀ (n9 i : Nat), i ≤ 16 → 16 < i + n9 → True → ∀ (ls : Array Slot), lv_has ls 6 [(0, .ref (gA g 0)), (1, .int (nI (ct (thr σ.2.1) i))), (2, .ref (gA g 1)), (3, .int 16), (4, .int (nI i))] → W p l e (headSpec wsX2_countEntries ({ frames := 0, cells := 0, slots := 0, locals := 0 } : Room)).room s m ([.ref (gA g 0)] : List Value).toArray below meth c s.heap [] 0 0 (MQ below (vp_Si (fun r => r = nI (ct (thr σ.2.1) 16))) ([.ref (gA g 0)] : List Value).toArray s 0 0 (fun _ => False)) (F0 m 13 ls []) := by
    intro n9
    induction n9 with
    | zero =>
      intro i h1 h2
      exact absurd h2 (by omega)
    | succ n9 ih =>
      intro i hi hin hinv ls hl
      refine lv_iload hx hb dX2_countEntries_13 (lv_at hl 4 rfl) ?_
      refine lv_iload_n hx hb dX2_countEntries_15 rfl (lv_at hl 3 rfl) ?_
      refine lv_icmp_ge (tgt := 42) hx hb dX2_countEntries_16 (by decide) (fun c_2 => ?_) (fun c_2 => ?_)
      · skip
        have hi16 : i = 16 := (nI16_le hi).mp c_2
        refine lv_iload_n hx hb dX2_countEntries_42 rfl (lv_at hl 1 rfl) ?_
        exact W.iret (v := nI (ct (thr σ.2.1) i)) hx hb hr (fun t ht hW9 => ⟨_, rfl, by rw [hi16], ht⟩) (fun q h => by cases h) dX2_countEntries_43
      · skip
        have hlt : i < 16 := (nI16_le_n hi).mp c_2
        refine lv_aload_n hx hb dX2_countEntries_19 rfl (lv_at hl 2 rfl) ?_
        refine lv_iload hx hb dX2_countEntries_20 (lv_at hl 4 rfl) ?_
        refine rLd hx hb hC hW hlt dX2_countEntries_22 ?_
        refine lv_astore (lv' := [(5, .ref (gA g (13 + i))), (0, .ref (gA g 0)), (1, .int (nI (ct (thr σ.2.1) i))), (2, .ref (gA g 1)), (3, .int 16), (4, .int (nI i))]) hx hb dX2_countEntries_23 hl (by decide) rfl (fun ls hl => ?_)
        refine lv_aload hx hb dX2_countEntries_25 (lv_at hl 0 rfl) ?_
        refine gEn (v := .int (σ.2.1 i 0)) hx hb hts hinX1 hown hC hW hlt 0 (by decide) (by decide +kernel) rfl rfl dX2_countEntries_27 ?_
        refine lv_if_eq (tgt := 36) hx hb dX2_countEntries_30 (by decide) (fun c_3 => ?_) (fun c_3 => ?_)
        · skip
          refine lv_iinc (v := nI (i + 1)) (lv' := [(4, .int (nI (i + 1))), (5, .ref (gA g (13 + i))), (0, .ref (gA g 0)), (1, .int (nI (ct (thr σ.2.1) i))), (2, .ref (gA g 1)), (3, .int 16)]) hx hb dX2_countEntries_36 hl (k := 5) rfl (nI_1 _) (by decide) rfl (fun ls hl => ?_)
          refine lv_goto (tgt := 13) hx hb dX2_countEntries_39 (by decide) ?_
          have hct : ct (thr σ.2.1) (i + 1) = ct (thr σ.2.1) i := ct_f (by simp [thr, c_3])
          exact ih (i + 1) (by omega) (by omega) trivial ls (by rw [hct]; exact lv_sub hl [2, 3, 4, 5, 0] rfl)
        · skip
          refine lv_iinc (v := nI ((ct (thr σ.2.1) i) + 1)) (lv' := [(1, .int (nI ((ct (thr σ.2.1) i) + 1))), (5, .ref (gA g (13 + i))), (0, .ref (gA g 0)), (2, .ref (gA g 1)), (3, .int 16), (4, .int (nI i))]) hx hb dX2_countEntries_33 hl (k := 2) rfl (nI_1 _) (by decide) rfl (fun ls hl => ?_)
          refine lv_iinc (v := nI (i + 1)) (lv' := [(4, .int (nI (i + 1))), (1, .int (nI ((ct (thr σ.2.1) i) + 1))), (5, .ref (gA g (13 + i))), (0, .ref (gA g 0)), (2, .ref (gA g 1)), (3, .int 16)]) hx hb dX2_countEntries_36 hl (k := 5) rfl (nI_1 _) (by decide) rfl (fun ls hl => ?_)
          refine lv_goto (tgt := 13) hx hb dX2_countEntries_39 (by decide) ?_
          have hct : ct (thr σ.2.1) (i + 1) = ct (thr σ.2.1) i + 1 := ct_t (by simp [thr, c_3])
          exact ih (i + 1) (by omega) (by omega) trivial ls (by rw [hct]; exact lv_sub hl [3, 1, 4, 5, 0] rfl)
  exact loop_1 (16 + 1) 0 (Nat.zero_le _) (by omega) trivial ls (by exact lv_sub hl [4, 3, 2, 1, 0] rfl)
set_option maxHeartbeats 4000000 in
set_option maxRecDepth 100000 in
theorem mtX2_countFitting (l : Launch) (g : Ge) (σ : Sg) (μ : Mg) (o : Nat → Int64)  : Met l yX2_countFitting wsX2_countFitting ({ frames := 2, cells := 0, slots := 0, locals := 43 } : Room) (va_Pc [.ref (gA g 0)] (PW g σ μ o)) (vp_Si (fun r => r = nI (ct (pF σ) 16))) 0 0 (fun _ => False) := by
  refine Met.ofW (cc := cX2_countFitting) (maxL := 6) (ret := (some .int)) (by decide) rfl ?_
  intro p e s m args below meth c s₁ B hml hv
  obtain ⟨rfl, hC, hW⟩ := hv
  have hx := B.exec
  have hb := B.bytes
  have hr := B.returns
  have hts := atoms_spec (ws := wsX2_countFitting) B.pre
  have hown : s.vm.findClass RX2 = some m.cls := findClass_of_methodNamed B.named
  have hlocks := B.notSynchronized
  have hinX1 : ∀ w ∈ wsX10, w ∈ wsX2_countFitting := by decide +kernel
  have hinX2 : ∀ w ∈ wsX20, w ∈ wsX2_countFitting := by decide +kernel
  have hS : va_S (Az g) s.heap s.heap [] := va_S.rf
  have hl := lv_entry ([.ref (gA g 0)]) (n := 6) (Nat.le_of_ble_eq_true rfl)
  rw [lg_entry_eq]
  generalize (lg_sl ([.ref (gA g 0)]) ++ List.replicate (6 - (lg_sl ([.ref (gA g 0)])).length) Slot.unset).toArray = ls at hl ⊢
  have hl : lv_has ls 6 [(0, .ref (gA g 0))] := hl
  refine lv_iconst (v := 0) hx hb dX2_countFitting_0 (by decide) ?_
  refine lv_istore_n (lv' := [(1, .int 0), (0, .ref (gA g 0))]) hx hb dX2_countFitting_1 rfl hl (by decide) rfl (fun ls hl => ?_)
  refine lv_aload_n hx hb dX2_countFitting_2 rfl (lv_at hl 1 rfl) ?_
  refine gB (v := .ref (gA g 1)) hx hb hts hinX2 hown hC hW 0 (by decide) (by decide +kernel) rfl rfl dX2_countFitting_3 ?_
  refine lv_astore_n (lv' := [(2, .ref (gA g 1)), (1, .int 0), (0, .ref (gA g 0))]) hx hb dX2_countFitting_6 rfl hl (by decide) rfl (fun ls hl => ?_)
  refine lv_aload_n hx hb dX2_countFitting_7 rfl (lv_at hl 0 rfl) ?_
  refine rLen hx hb hC hW dX2_countFitting_8 ?_
  refine lv_istore_n (lv' := [(3, .int 16), (2, .ref (gA g 1)), (1, .int 0), (0, .ref (gA g 0))]) hx hb dX2_countFitting_9 rfl hl (by decide) rfl (fun ls hl => ?_)
  refine lv_iconst (v := 0) hx hb dX2_countFitting_10 (by decide) ?_
  refine lv_istore (lv' := [(4, .int 0), (3, .int 16), (2, .ref (gA g 1)), (1, .int 0), (0, .ref (gA g 0))]) hx hb dX2_countFitting_11 hl (by decide) rfl (fun ls hl => ?_)
  have loop_1 : ∀ (n9 i : Nat), i ≤ 16 → 16 < i + n9 → True → ∀ (ls : Array Slot), lv_has ls 6 [(0, .ref (gA g 0)), (1, .int (nI (ct (pF σ) i))), (2, .ref (gA g 1)), (3, .int 16), (4, .int (nI i))] → W p l e (headSpec wsX2_countFitting ({ frames := 2, cells := 0, slots := 0, locals := 43 } : Room)).room s m ([.ref (gA g 0)] : List Value).toArray below meth c s.heap [] 0 0 (MQ below (vp_Si (fun r => r = nI (ct (pF σ) 16))) ([.ref (gA g 0)] : List Value).toArray s 0 0 (fun _ => False)) (F0 m 13 ls []) := by
    intro n9
    induction n9 with
    | zero =>
      intro i h1 h2
      exact absurd h2 (by omega)
    | succ n9 ih =>
      intro i hi hin hinv ls hl
      refine lv_iload hx hb dX2_countFitting_13 (lv_at hl 4 rfl) ?_
      refine lv_iload_n hx hb dX2_countFitting_15 rfl (lv_at hl 3 rfl) ?_
      refine lv_icmp_ge (tgt := 51) hx hb dX2_countFitting_16 (by decide) (fun c_2 => ?_) (fun c_2 => ?_)
      · skip
        have hi16 : i = 16 := (nI16_le hi).mp c_2
        refine lv_iload_n hx hb dX2_countFitting_51 rfl (lv_at hl 1 rfl) ?_
        exact W.iret (v := nI (ct (pF σ) i)) hx hb hr (fun t ht hW9 => ⟨_, rfl, by rw [hi16], ht⟩) (fun q h => by cases h) dX2_countFitting_52
      · skip
        have hlt : i < 16 := (nI16_le_n hi).mp c_2
        refine lv_aload_n hx hb dX2_countFitting_19 rfl (lv_at hl 2 rfl) ?_
        refine lv_iload hx hb dX2_countFitting_20 (lv_at hl 4 rfl) ?_
        refine rLd hx hb hC hW hlt dX2_countFitting_22 ?_
        refine lv_astore (lv' := [(5, .ref (gA g (13 + i))), (0, .ref (gA g 0)), (1, .int (nI (ct (pF σ) i))), (2, .ref (gA g 1)), (3, .int 16), (4, .int (nI i))]) hx hb dX2_countFitting_23 hl (by decide) rfl (fun ls hl => ?_)
        refine lv_aload hx hb dX2_countFitting_25 (lv_at hl 0 rfl) ?_
        refine gEn (v := .int (σ.2.1 i 0)) hx hb hts hinX1 hown hC hW hlt 0 (by decide) (by decide +kernel) rfl rfl dX2_countFitting_27 ?_
        refine lv_if_eq (tgt := 45) hx hb dX2_countFitting_30 (by decide) (fun c_3 => ?_) (fun c_3 => ?_)
        · skip
          refine lv_iinc (v := nI (i + 1)) (lv' := [(4, .int (nI (i + 1))), (5, .ref (gA g (13 + i))), (0, .ref (gA g 0)), (1, .int (nI (ct (pF σ) i))), (2, .ref (gA g 1)), (3, .int 16)]) hx hb dX2_countFitting_45 hl (k := 5) rfl (nI_1 _) (by decide) rfl (fun ls hl => ?_)
          refine lv_goto (tgt := 13) hx hb dX2_countFitting_48 (by decide) ?_
          have hct : ct (pF σ) (i + 1) = ct (pF σ) i := ct_f (by simp [pF, thr, bI, c_3])
          exact ih (i + 1) (by omega) (by omega) trivial ls (by rw [hct]; exact lv_sub hl [2, 3, 4, 5, 0] rfl)
        · skip
          refine lv_aload_n hx hb dX2_countFitting_33 rfl (lv_at hl 1 rfl) ?_
          refine lv_aload hx hb dX2_countFitting_34 (lv_at hl 0 rfl) ?_
          refine vp_callSi (va_Run.run (va_runV (As := [.ref (gA g (13 + i))]) (rest := []) ⟨hx, hb, hml, hown, hts⟩ (mtX2_isFitting l g σ μ o i hlt) (cwV 1 hts gX2_countFitting_X2_isFitting rfl rfl rfl (by decide +kernel) ⟨Nat.le_of_ble_eq_true rfl, Nat.le_of_ble_eq_true rfl⟩) ⟨PW.blind, rcB hC hW, fun U hU hW9 => ⟨rfl, PW.at hC hS hW U hU hW9⟩⟩ rfl rfl hl.1 rfl (lv_room (Nat.le_of_ble_eq_true rfl)) dX2_countFitting_36 ⟨Nat.zero_le _, Nat.zero_le _⟩)) (fun r_5 h_4 => ?_)
          obtain rfl : r_5 = bI (fit σ.1 (σ.2.1 i)) := h_4
          refine lv_if_eq (tgt := 45) hx hb dX2_countFitting_39 (by decide) (fun c_6 => ?_) (fun c_6 => ?_)
          · skip
            replace c_6 := bI_0.mp c_6
            refine lv_iinc (v := nI (i + 1)) (lv' := [(4, .int (nI (i + 1))), (5, .ref (gA g (13 + i))), (0, .ref (gA g 0)), (1, .int (nI (ct (pF σ) i))), (2, .ref (gA g 1)), (3, .int 16)]) hx hb dX2_countFitting_45 hl (k := 5) rfl (nI_1 _) (by decide) rfl (fun ls hl => ?_)
            refine lv_goto (tgt := 13) hx hb dX2_countFitting_48 (by decide) ?_
            have hct : ct (pF σ) (i + 1) = ct (pF σ) i := ct_f (by simp [pF, thr, bI, c_3, c_6])
            exact ih (i + 1) (by omega) (by omega) trivial ls (by rw [hct]; exact lv_sub hl [2, 3, 4, 5, 0] rfl)
          · skip
            replace c_6 := bI_n0.mp c_6
            refine lv_iinc (v := nI ((ct (pF σ) i) + 1)) (lv' := [(1, .int (nI ((ct (pF σ) i) + 1))), (5, .ref (gA g (13 + i))), (0, .ref (gA g 0)), (2, .ref (gA g 1)), (3, .int 16), (4, .int (nI i))]) hx hb dX2_countFitting_42 hl (k := 2) rfl (nI_1 _) (by decide) rfl (fun ls hl => ?_)
            refine lv_iinc (v := nI (i + 1)) (lv' := [(4, .int (nI (i + 1))), (1, .int (nI ((ct (pF σ) i) + 1))), (5, .ref (gA g (13 + i))), (0, .ref (gA g 0)), (2, .ref (gA g 1)), (3, .int 16)]) hx hb dX2_countFitting_45 hl (k := 5) rfl (nI_1 _) (by decide) rfl (fun ls hl => ?_)
            refine lv_goto (tgt := 13) hx hb dX2_countFitting_48 (by decide) ?_
            have hct : ct (pF σ) (i + 1) = ct (pF σ) i + 1 := ct_t (by simp [pF, thr, bI, c_3, c_6])
            exact ih (i + 1) (by omega) (by omega) trivial ls (by rw [hct]; exact lv_sub hl [3, 1, 4, 5, 0] rfl)
  exact loop_1 (16 + 1) 0 (Nat.zero_le _) (by omega) trivial ls (by exact lv_sub hl [4, 3, 2, 1, 0] rfl)
set_option maxHeartbeats 4000000 in
set_option maxRecDepth 100000 in
theorem mtX2_countAhead (l : Launch) (g : Ge) (σ : Sg) (μ : Mg) (o : Nat → Int64) (j : Nat) (hj : j < 16) : Met l yX2_countAhead wsX2_countAhead ({ frames := 3, cells := 0, slots := 0, locals := 64 } : Room) (va_Pc [.ref (gA g 0), .ref (gA g (13 + j))] (PW g σ μ o)) (vp_Si (fun r => r = nI (ct (pA σ.2.1 j) 16))) 0 0 (fun _ => False) := by
  refine Met.ofW (cc := cX2_countAhead) (maxL := 7) (ret := (some .int)) (by decide) rfl ?_
  intro p e s m args below meth c s₁ B hml hv
  obtain ⟨rfl, hC, hW⟩ := hv
  have hx := B.exec
  have hb := B.bytes
  have hr := B.returns
  have hts := atoms_spec (ws := wsX2_countAhead) B.pre
  have hown : s.vm.findClass RX2 = some m.cls := findClass_of_methodNamed B.named
  have hlocks := B.notSynchronized
  have hinX1 : ∀ w ∈ wsX10, w ∈ wsX2_countAhead := by decide +kernel
  have hinX2 : ∀ w ∈ wsX20, w ∈ wsX2_countAhead := by decide +kernel
  have hS : va_S (Az g) s.heap s.heap [] := va_S.rf
  have hl := lv_entry ([.ref (gA g 0), .ref (gA g (13 + j))]) (n := 7) (Nat.le_of_ble_eq_true rfl)
  rw [lg_entry_eq]
  generalize (lg_sl ([.ref (gA g 0), .ref (gA g (13 + j))]) ++ List.replicate (7 - (lg_sl ([.ref (gA g 0), .ref (gA g (13 + j))])).length) Slot.unset).toArray = ls at hl ⊢
  have hl : lv_has ls 7 [(0, .ref (gA g 0)), (1, .ref (gA g (13 + j)))] := hl
  refine lv_iconst (v := 0) hx hb dX2_countAhead_0 (by decide) ?_
  refine lv_istore_n (lv' := [(2, .int 0), (0, .ref (gA g 0)), (1, .ref (gA g (13 + j)))]) hx hb dX2_countAhead_1 rfl hl (by decide) rfl (fun ls hl => ?_)
  refine lv_aload_n hx hb dX2_countAhead_2 rfl (lv_at hl 1 rfl) ?_
  refine gB (v := .ref (gA g 1)) hx hb hts hinX2 hown hC hW 0 (by decide) (by decide +kernel) rfl rfl dX2_countAhead_3 ?_
  refine lv_astore_n (lv' := [(3, .ref (gA g 1)), (2, .int 0), (0, .ref (gA g 0)), (1, .ref (gA g (13 + j)))]) hx hb dX2_countAhead_6 rfl hl (by decide) rfl (fun ls hl => ?_)
  refine lv_aload_n hx hb dX2_countAhead_7 rfl (lv_at hl 0 rfl) ?_
  refine rLen hx hb hC hW dX2_countAhead_8 ?_
  refine lv_istore (lv' := [(4, .int 16), (3, .ref (gA g 1)), (2, .int 0), (0, .ref (gA g 0)), (1, .ref (gA g (13 + j)))]) hx hb dX2_countAhead_9 hl (by decide) rfl (fun ls hl => ?_)
  refine lv_iconst (v := 0) hx hb dX2_countAhead_11 (by decide) ?_
  refine lv_istore (lv' := [(5, .int 0), (4, .int 16), (3, .ref (gA g 1)), (2, .int 0), (0, .ref (gA g 0)), (1, .ref (gA g (13 + j)))]) hx hb dX2_countAhead_12 hl (by decide) rfl (fun ls hl => ?_)
  have loop_1 : ∀ (n9 i : Nat), i ≤ 16 → 16 < i + n9 → True → ∀ (ls : Array Slot), lv_has ls 7 [(0, .ref (gA g 0)), (1, .ref (gA g (13 + j))), (2, .int (nI (ct (pA σ.2.1 j) i))), (3, .ref (gA g 1)), (4, .int 16), (5, .int (nI i))] → W p l e (headSpec wsX2_countAhead ({ frames := 3, cells := 0, slots := 0, locals := 64 } : Room)).room s m ([.ref (gA g 0), .ref (gA g (13 + j))] : List Value).toArray below meth c s.heap [] 0 0 (MQ below (vp_Si (fun r => r = nI (ct (pA σ.2.1 j) 16))) ([.ref (gA g 0), .ref (gA g (13 + j))] : List Value).toArray s 0 0 (fun _ => False)) (F0 m 14 ls []) := by
    intro n9
    induction n9 with
    | zero =>
      intro i h1 h2
      exact absurd h2 (by omega)
    | succ n9 ih =>
      intro i hi hin hinv ls hl
      refine lv_iload hx hb dX2_countAhead_14 (lv_at hl 5 rfl) ?_
      refine lv_iload hx hb dX2_countAhead_16 (lv_at hl 4 rfl) ?_
      refine lv_icmp_ge (tgt := 53) hx hb dX2_countAhead_18 (by decide) (fun c_2 => ?_) (fun c_2 => ?_)
      · skip
        have hi16 : i = 16 := (nI16_le hi).mp c_2
        refine lv_iload_n hx hb dX2_countAhead_53 rfl (lv_at hl 2 rfl) ?_
        exact W.iret (v := nI (ct (pA σ.2.1 j) i)) hx hb hr (fun t ht hW9 => ⟨_, rfl, by rw [hi16], ht⟩) (fun q h => by cases h) dX2_countAhead_54
      · skip
        have hlt : i < 16 := (nI16_le_n hi).mp c_2
        refine lv_aload_n hx hb dX2_countAhead_21 rfl (lv_at hl 3 rfl) ?_
        refine lv_iload hx hb dX2_countAhead_22 (lv_at hl 5 rfl) ?_
        refine rLd hx hb hC hW hlt dX2_countAhead_24 ?_
        refine lv_astore (lv' := [(6, .ref (gA g (13 + i))), (0, .ref (gA g 0)), (1, .ref (gA g (13 + j))), (2, .int (nI (ct (pA σ.2.1 j) i))), (3, .ref (gA g 1)), (4, .int 16), (5, .int (nI i))]) hx hb dX2_countAhead_25 hl (by decide) rfl (fun ls hl => ?_)
        refine lv_aload hx hb dX2_countAhead_27 (lv_at hl 0 rfl) ?_
        refine gEn (v := .int (σ.2.1 i 0)) hx hb hts hinX1 hown hC hW hlt 0 (by decide) (by decide +kernel) rfl rfl dX2_countAhead_29 ?_
        refine lv_if_eq (tgt := 47) hx hb dX2_countAhead_32 (by decide) (fun c_3 => ?_) (fun c_3 => ?_)
        · skip
          refine lv_iinc (v := nI (i + 1)) (lv' := [(5, .int (nI (i + 1))), (6, .ref (gA g (13 + i))), (0, .ref (gA g 0)), (1, .ref (gA g (13 + j))), (2, .int (nI (ct (pA σ.2.1 j) i))), (3, .ref (gA g 1)), (4, .int 16)]) hx hb dX2_countAhead_47 hl (k := 6) rfl (nI_1 _) (by decide) rfl (fun ls hl => ?_)
          refine lv_goto (tgt := 14) hx hb dX2_countAhead_50 (by decide) ?_
          have hct : ct (pA σ.2.1 j) (i + 1) = ct (pA σ.2.1 j) i := ct_f (by simp [pA, thr, bI, c_3])
          exact ih (i + 1) (by omega) (by omega) trivial ls (by rw [hct]; exact lv_sub hl [2, 3, 4, 5, 6, 0] rfl)
        · skip
          refine lv_aload hx hb dX2_countAhead_35 (lv_at hl 0 rfl) ?_
          refine lv_aload_n hx hb dX2_countAhead_37 rfl (lv_at hl 2 rfl) ?_
          refine vp_callSi (va_Run.run (va_runVN (As := [.ref (gA g (13 + j))]) (rest := []) ⟨hx, hb, hml, hown, hts⟩ (mtX1_isAheadOf l g σ μ o i j hlt hj) ⟨(va_cnB (host := "BootChooser") 1 hts gX2_countAhead_X1_isAheadOf_n173 rfl rfl rfl (va_Nw.of (A := #[]) rfl (hC.2.1.nest (w := .methodLinkNest RX2 173 yX1_isAheadOf "BootChooser") (by decide +kernel) rfl)) (hts (.initialized RX1) (by decide +kernel)) (by decide +kernel) ⟨Nat.le_of_ble_eq_true rfl, Nat.le_of_ble_eq_true rfl⟩), (hts (.instanceMethod yX1_isAheadOf) (by decide +kernel)), (hts (.selects RX1 yX1_isAheadOf yX1_isAheadOf) (by decide +kernel))⟩ ⟨PW.blind, rcE hC hW hlt, fun U hU hW9 => ⟨rfl, PW.at hC hS hW U hU hW9⟩⟩ rfl rfl hl.1 rfl (lv_room (Nat.le_of_ble_eq_true rfl)) dX2_countAhead_38 ⟨Nat.zero_le _, Nat.zero_le _⟩)) (fun r_5 h_4 => ?_)
          obtain rfl : r_5 = bI (ah (σ.2.1 i) (σ.2.1 j)) := h_4
          refine lv_if_eq (tgt := 47) hx hb dX2_countAhead_41 (by decide) (fun c_6 => ?_) (fun c_6 => ?_)
          · skip
            replace c_6 := bI_0.mp c_6
            refine lv_iinc (v := nI (i + 1)) (lv' := [(5, .int (nI (i + 1))), (6, .ref (gA g (13 + i))), (0, .ref (gA g 0)), (1, .ref (gA g (13 + j))), (2, .int (nI (ct (pA σ.2.1 j) i))), (3, .ref (gA g 1)), (4, .int 16)]) hx hb dX2_countAhead_47 hl (k := 6) rfl (nI_1 _) (by decide) rfl (fun ls hl => ?_)
            refine lv_goto (tgt := 14) hx hb dX2_countAhead_50 (by decide) ?_
            have hct : ct (pA σ.2.1 j) (i + 1) = ct (pA σ.2.1 j) i := ct_f (by simp [pA, thr, bI, c_3, c_6])
            exact ih (i + 1) (by omega) (by omega) trivial ls (by rw [hct]; exact lv_sub hl [2, 3, 4, 5, 6, 0] rfl)
          · skip
            replace c_6 := bI_n0.mp c_6
            refine lv_iinc (v := nI ((ct (pA σ.2.1 j) i) + 1)) (lv' := [(2, .int (nI ((ct (pA σ.2.1 j) i) + 1))), (6, .ref (gA g (13 + i))), (0, .ref (gA g 0)), (1, .ref (gA g (13 + j))), (3, .ref (gA g 1)), (4, .int 16), (5, .int (nI i))]) hx hb dX2_countAhead_44 hl (k := 3) rfl (nI_1 _) (by decide) rfl (fun ls hl => ?_)
            refine lv_iinc (v := nI (i + 1)) (lv' := [(5, .int (nI (i + 1))), (2, .int (nI ((ct (pA σ.2.1 j) i) + 1))), (6, .ref (gA g (13 + i))), (0, .ref (gA g 0)), (1, .ref (gA g (13 + j))), (3, .ref (gA g 1)), (4, .int 16)]) hx hb dX2_countAhead_47 hl (k := 6) rfl (nI_1 _) (by decide) rfl (fun ls hl => ?_)
            refine lv_goto (tgt := 14) hx hb dX2_countAhead_50 (by decide) ?_
            have hct : ct (pA σ.2.1 j) (i + 1) = ct (pA σ.2.1 j) i + 1 := ct_t (by simp [pA, thr, bI, c_3, c_6])
            exact ih (i + 1) (by omega) (by omega) trivial ls (by rw [hct]; exact lv_sub hl [3, 4, 1, 5, 6, 0] rfl)
  exact loop_1 (16 + 1) 0 (Nat.zero_le _) (by omega) trivial ls (by exact lv_sub hl [4, 5, 3, 2, 1, 0] rfl)
set_option maxHeartbeats 4000000 in
set_option maxRecDepth 100000 in
theorem mtX2_entryWithPlace (l : Launch) (g : Ge) (σ : Sg) (μ : Mg) (o : Nat → Int64) (pl : Int32) : Met l yX2_entryWithPlace wsX2_entryWithPlace ({ frames := 4, cells := 0, slots := 0, locals := 90 } : Room) (va_Pc [.ref (gA g 0), .int pl] (PW g σ μ o)) (va_Sq (fun r => r = (fs (pP σ.2.1 pl) 16).map (fun j => gA g (13 + j)))) 0 0 (fun _ => False) := by
  refine Met.ofW (cc := cX2_entryWithPlace) (maxL := 6) (ret := (some (.object "BootChooser$Entry"))) (by decide) rfl ?_
  intro p e s m args below meth c s₁ B hml hv
  obtain ⟨rfl, hC, hW⟩ := hv
  have hx := B.exec
  have hb := B.bytes
  have hr := B.returns
  have hts := atoms_spec (ws := wsX2_entryWithPlace) B.pre
  have hown : s.vm.findClass RX2 = some m.cls := findClass_of_methodNamed B.named
  have hlocks := B.notSynchronized
  have hinX1 : ∀ w ∈ wsX10, w ∈ wsX2_entryWithPlace := by decide +kernel
  have hinX2 : ∀ w ∈ wsX20, w ∈ wsX2_entryWithPlace := by decide +kernel
  have hS : va_S (Az g) s.heap s.heap [] := va_S.rf
  have hl := lv_entry ([.ref (gA g 0), .int pl]) (n := 6) (Nat.le_of_ble_eq_true rfl)
  rw [lg_entry_eq]
  generalize (lg_sl ([.ref (gA g 0), .int pl]) ++ List.replicate (6 - (lg_sl ([.ref (gA g 0), .int pl])).length) Slot.unset).toArray = ls at hl ⊢
  have hl : lv_has ls 6 [(0, .ref (gA g 0)), (1, .int pl)] := hl
  refine lv_aload_n hx hb dX2_entryWithPlace_0 rfl (lv_at hl 0 rfl) ?_
  refine gB (v := .ref (gA g 1)) hx hb hts hinX2 hown hC hW 0 (by decide) (by decide +kernel) rfl rfl dX2_entryWithPlace_1 ?_
  refine lv_astore_n (lv' := [(2, .ref (gA g 1)), (0, .ref (gA g 0)), (1, .int pl)]) hx hb dX2_entryWithPlace_4 rfl hl (by decide) rfl (fun ls hl => ?_)
  refine lv_aload_n hx hb dX2_entryWithPlace_5 rfl (lv_at hl 0 rfl) ?_
  refine rLen hx hb hC hW dX2_entryWithPlace_6 ?_
  refine lv_istore_n (lv' := [(3, .int 16), (2, .ref (gA g 1)), (0, .ref (gA g 0)), (1, .int pl)]) hx hb dX2_entryWithPlace_7 rfl hl (by decide) rfl (fun ls hl => ?_)
  refine lv_iconst (v := 0) hx hb dX2_entryWithPlace_8 (by decide) ?_
  refine lv_istore (lv' := [(4, .int 0), (3, .int 16), (2, .ref (gA g 1)), (0, .ref (gA g 0)), (1, .int pl)]) hx hb dX2_entryWithPlace_9 hl (by decide) rfl (fun ls hl => ?_)
  have loop_1 : ∀ (n9 i : Nat), i ≤ 16 → 16 < i + n9 → fs (pP σ.2.1 pl) i = none → ∀ (ls : Array Slot), lv_has ls 6 [(0, .ref (gA g 0)), (1, .int pl), (2, .ref (gA g 1)), (3, .int 16), (4, .int (nI i))] → W p l e (headSpec wsX2_entryWithPlace ({ frames := 4, cells := 0, slots := 0, locals := 90 } : Room)).room s m ([.ref (gA g 0), .int pl] : List Value).toArray below meth c s.heap [] 0 0 (MQ below (va_Sq (fun r => r = (fs (pP σ.2.1 pl) 16).map (fun j => gA g (13 + j)))) ([.ref (gA g 0), .int pl] : List Value).toArray s 0 0 (fun _ => False)) (F0 m 11 ls []) := by
    intro n9
    induction n9 with
    | zero =>
      intro i h1 h2
      exact absurd h2 (by omega)
    | succ n9 ih =>
      intro i hi hin hinv ls hl
      refine lv_iload hx hb dX2_entryWithPlace_11 (lv_at hl 4 rfl) ?_
      refine lv_iload_n hx hb dX2_entryWithPlace_13 rfl (lv_at hl 3 rfl) ?_
      refine lv_icmp_ge (tgt := 50) hx hb dX2_entryWithPlace_14 (by decide) (fun c_2 => ?_) (fun c_2 => ?_)
      · skip
        have hi16 : i = 16 := (nI16_le hi).mp c_2
        refine lv_null hx hb dX2_entryWithPlace_50 ?_
        exact W.aret (v := va_rf none) hx hb hr (Or.inl ⟨_, rfl⟩) (va_rf_or _) (fun t ht hW9 => ⟨none, rfl, by rw [hi16] at hinv; rw [hinv]; rfl, ht⟩) (fun q h => by cases h) dX2_entryWithPlace_51
      · skip
        have hlt : i < 16 := (nI16_le_n hi).mp c_2
        refine lv_aload_n hx hb dX2_entryWithPlace_17 rfl (lv_at hl 2 rfl) ?_
        refine lv_iload hx hb dX2_entryWithPlace_18 (lv_at hl 4 rfl) ?_
        refine rLd hx hb hC hW hlt dX2_entryWithPlace_20 ?_
        refine lv_astore (lv' := [(5, .ref (gA g (13 + i))), (0, .ref (gA g 0)), (1, .int pl), (2, .ref (gA g 1)), (3, .int 16), (4, .int (nI i))]) hx hb dX2_entryWithPlace_21 hl (by decide) rfl (fun ls hl => ?_)
        refine lv_aload hx hb dX2_entryWithPlace_23 (lv_at hl 0 rfl) ?_
        refine gEn (v := .int (σ.2.1 i 0)) hx hb hts hinX1 hown hC hW hlt 0 (by decide) (by decide +kernel) rfl rfl dX2_entryWithPlace_25 ?_
        refine lv_if_eq (tgt := 44) hx hb dX2_entryWithPlace_28 (by decide) (fun c_3 => ?_) (fun c_3 => ?_)
        · skip
          refine lv_iinc (v := nI (i + 1)) (lv' := [(4, .int (nI (i + 1))), (5, .ref (gA g (13 + i))), (0, .ref (gA g 0)), (1, .int pl), (2, .ref (gA g 1)), (3, .int 16)]) hx hb dX2_entryWithPlace_44 hl (k := 5) rfl (nI_1 _) (by decide) rfl (fun ls hl => ?_)
          refine lv_goto (tgt := 11) hx hb dX2_entryWithPlace_47 (by decide) ?_
          exact ih (i + 1) (by omega) (by omega) (fs_step hinv (by simp [pP, thr, c_3])) ls (by exact lv_sub hl [2, 3, 4, 5, 0] rfl)
        · skip
          refine lv_aload_n hx hb dX2_entryWithPlace_31 rfl (lv_at hl 1 rfl) ?_
          refine lv_aload hx hb dX2_entryWithPlace_32 (lv_at hl 0 rfl) ?_
          refine vp_callSi (va_Run.run (va_runV (As := [.ref (gA g (13 + i))]) (rest := []) ⟨hx, hb, hml, hown, hts⟩ (mtX2_countAhead l g σ μ o i hlt) (cwV 1 hts gX2_entryWithPlace_X2_countAhead rfl rfl rfl (by decide +kernel) ⟨Nat.le_of_ble_eq_true rfl, Nat.le_of_ble_eq_true rfl⟩) ⟨PW.blind, rcB hC hW, fun U hU hW9 => ⟨rfl, PW.at hC hS hW U hU hW9⟩⟩ rfl rfl hl.1 rfl (lv_room (Nat.le_of_ble_eq_true rfl)) dX2_entryWithPlace_34 ⟨Nat.zero_le _, Nat.zero_le _⟩)) (fun r_5 h_4 => ?_)
          obtain rfl : r_5 = nI (ct (pA σ.2.1 i) 16) := h_4
          refine lv_iload_n hx hb dX2_entryWithPlace_37 rfl (lv_at hl 2 rfl) ?_
          refine lv_icmp_ne (tgt := 44) hx hb dX2_entryWithPlace_38 (by decide) (fun c_6 => ?_) (fun c_6 => ?_)
          · skip
            refine lv_iinc (v := nI (i + 1)) (lv' := [(4, .int (nI (i + 1))), (5, .ref (gA g (13 + i))), (0, .ref (gA g 0)), (1, .int pl), (2, .ref (gA g 1)), (3, .int 16)]) hx hb dX2_entryWithPlace_44 hl (k := 5) rfl (nI_1 _) (by decide) rfl (fun ls hl => ?_)
            refine lv_goto (tgt := 11) hx hb dX2_entryWithPlace_47 (by decide) ?_
            exact ih (i + 1) (by omega) (by omega) (fs_step hinv (by simp [pP, thr, c_3, c_6])) ls (by exact lv_sub hl [2, 3, 4, 5, 0] rfl)
          · skip
            refine lv_aload hx hb dX2_entryWithPlace_41 (lv_at hl 0 rfl) ?_
            exact W.aret (v := va_rf (some (gA g (13 + i)))) hx hb hr (Or.inl ⟨_, rfl⟩) (va_rf_or _) (fun t ht hW9 => ⟨(some (gA g (13 + i))), rfl, by rw [fs_hit hinv (by simp [pP, thr, c_3, c_6]) hlt]; rfl, ht⟩) (fun q h => by cases h) dX2_entryWithPlace_43
  exact loop_1 (16 + 1) 0 (Nat.zero_le _) (by omega) rfl ls (by exact lv_sub hl [3, 4, 2, 1, 0] rfl)
