set_option maxHeartbeats 4000000 in
set_option maxRecDepth 100000 in
theorem mtX1_useTry (l : Launch) (g : Ge) (σ : Sg) (μ : Mg) (o : Nat → Int64) (j : Nat) (hj : j < 16) : Met l yX1_useTry wsX1_useTry ({ frames := 0, cells := 0, slots := 0, locals := 0 } : Room) (va_Pc [.ref (gA g (13 + j))] (PW g σ μ o)) (va_Qv (S := Unit) (fun _ => True) (fun _ t => Wd g (σ.1, up2 σ.2.1 j (us1 (σ.2.1 j)), σ.2.2) μ o t.heap) (Az g)) 0 0 (Az g) := by
  refine Met.ofW (cc := cX1_useTry) (maxL := 1) (ret := none) (by decide) rfl ?_
  intro p e s m args below meth c s₁ B hml hv
  obtain ⟨rfl, hC, hW⟩ := hv
  have hx := B.exec
  have hb := B.bytes
  have hr := B.returns
  have hts := atoms_spec (ws := wsX1_useTry) B.pre
  have hown : s.vm.findClass RX1 = some m.cls := findClass_of_methodNamed B.named
  have hlocks := B.notSynchronized
  have hinX1 : ∀ w ∈ wsX10, w ∈ wsX1_useTry := by decide +kernel
  have hS : va_S (Az g) s.heap s.heap [] := va_S.rf
  have hl := lv_entry ([.ref (gA g (13 + j))]) (n := 1) (Nat.le_of_ble_eq_true rfl)
  rw [lg_entry_eq]
  generalize (lg_sl ([.ref (gA g (13 + j))]) ++ List.replicate (1 - (lg_sl ([.ref (gA g (13 + j))])).length) Slot.unset).toArray = ls at hl ⊢
  have hl : lv_has ls 1 [(0, .ref (gA g (13 + j)))] := hl
  refine lv_aload_n hx hb dX1_useTry_0 rfl (lv_at hl 0 rfl) ?_
  refine gE (v := .int (σ.2.1 j 7)) hx hb hts hinX1 hown hC hW hj 7 (by decide) (by decide +kernel) rfl rfl dX1_useTry_1 ?_
  refine lv_if_le (tgt := 17) hx hb dX1_useTry_4 (by decide) (fun c_1 => ?_) (fun c_1 => ?_)
  · skip
    exact W.vret hx hb hr (fun t ht hW9 => ⟨⟨(), rfl, trivial, by dsimp only; rw [ht, us1, if_pos c_1, up2_self]; exact hW⟩, hS.F ht⟩) hS.2.2 dX1_useTry_17
  · skip
    refine lv_aload_n hx hb dX1_useTry_7 rfl (lv_at hl 0 rfl) ?_
    refine lv_dup hx hb dX1_useTry_8 rfl ?_
    refine gE (v := .int (σ.2.1 j 7)) hx hb hts hinX1 hown hC hW hj 7 (by decide) (by decide +kernel) rfl rfl dX1_useTry_9 ?_
    refine lv_iconst (v := 1) hx hb dX1_useTry_12 (by decide) ?_
    refine lv_isub hx hb dX1_useTry_13 ?_
    refine pE (ty := .int) hx hb hts hinX1 hown hC hS hW hj 7 (by decide) (by decide +kernel) (by decide +kernel) ((σ.2.1 j 7 - 1)) rfl rfl dX1_useTry_14 (fun H locs hW hS => ?_)
    exact W.vret hx hb hr (fun t ht hW9 => ⟨⟨(), rfl, trivial, by dsimp only; rw [ht, us1, if_neg c_1]; exact hW⟩, hS.F ht⟩) hS.2.2 dX1_useTry_17
set_option maxHeartbeats 4000000 in
set_option maxRecDepth 100000 in
theorem mtX0_forgetDigits (l : Launch) (g : Ge) (σ : Sg) (μ : Mg) (o : Nat → Int64)  : Met l yX0_forgetDigits wsX0_forgetDigits ({ frames := 0, cells := 0, slots := 0, locals := 0 } : Room) (va_Pc [.ref (gA g 2)] (PW g σ μ o)) (va_Qv (S := Unit) (fun _ => True) (fun _ t => Wd g (σ.1, σ.2.1, upd σ.2.2.1 3 0, σ.2.2.2) μ o t.heap) (Az g)) 0 0 (Az g) := by
  refine Met.ofW (cc := cX0_forgetDigits) (maxL := 1) (ret := none) (by decide) rfl ?_
  intro p e s m args below meth c s₁ B hml hv
  obtain ⟨rfl, hC, hW⟩ := hv
  have hx := B.exec
  have hb := B.bytes
  have hr := B.returns
  have hts := atoms_spec (ws := wsX0_forgetDigits) B.pre
  have hown : s.vm.findClass RX0 = some m.cls := findClass_of_methodNamed B.named
  have hlocks := B.notSynchronized
  have hinX0 : ∀ w ∈ wsX00, w ∈ wsX0_forgetDigits := by decide +kernel
  have hS : va_S (Az g) s.heap s.heap [] := va_S.rf
  have hl := lv_entry ([.ref (gA g 2)]) (n := 1) (Nat.le_of_ble_eq_true rfl)
  rw [lg_entry_eq]
  generalize (lg_sl ([.ref (gA g 2)]) ++ List.replicate (1 - (lg_sl ([.ref (gA g 2)])).length) Slot.unset).toArray = ls at hl ⊢
  have hl : lv_has ls 1 [(0, .ref (gA g 2))] := hl
  refine lv_aload_n hx hb dX0_forgetDigits_0 rfl (lv_at hl 0 rfl) ?_
  refine lv_iconst (v := 0) hx hb dX0_forgetDigits_1 (by decide) ?_
  refine pL (ty := .int) hx hb hts hinX0 hown hC hS hW 3 (by decide) (by decide +kernel) (by decide +kernel) (0) rfl rfl dX0_forgetDigits_2 (fun H locs hW hS => ?_)
  exact W.vret hx hb hr (fun t ht hW9 => ⟨⟨(), rfl, trivial, by first | (rw [ht]; exact hW) | (dsimp only; rw [ht]; exact hW)⟩, hS.F ht⟩) hS.2.2 dX0_forgetDigits_5
set_option maxHeartbeats 4000000 in
set_option maxRecDepth 100000 in
theorem mtX0_close (l : Launch) (g : Ge) (σ : Sg) (μ : Mg) (o : Nat → Int64) (code many : Int32) : Met l yX0_close wsX0_close ({ frames := 1, cells := 0, slots := 0, locals := 20 } : Room) (va_Pc [.ref (gA g 2), .int code, .int many] (PW g σ μ o)) (va_Qv (S := Unit) (fun _ => True) (fun _ t => Wd g (σ.1, σ.2.1, upd (upd (upd (upd σ.2.2.1 0 1) 1 code) 2 many) 3 0, σ.2.2.2) μ o t.heap) (Az g)) 0 0 (Az g) := by
  refine Met.ofW (cc := cX0_close) (maxL := 3) (ret := none) (by decide) rfl ?_
  intro p e s m args below meth c s₁ B hml hv
  obtain ⟨rfl, hC, hW⟩ := hv
  have hx := B.exec
  have hb := B.bytes
  have hr := B.returns
  have hts := atoms_spec (ws := wsX0_close) B.pre
  have hown : s.vm.findClass RX0 = some m.cls := findClass_of_methodNamed B.named
  have hlocks := B.notSynchronized
  have hinX0 : ∀ w ∈ wsX00, w ∈ wsX0_close := by decide +kernel
  have hS : va_S (Az g) s.heap s.heap [] := va_S.rf
  have hl := lv_entry ([.ref (gA g 2), .int code, .int many]) (n := 3) (Nat.le_of_ble_eq_true rfl)
  rw [lg_entry_eq]
  generalize (lg_sl ([.ref (gA g 2), .int code, .int many]) ++ List.replicate (3 - (lg_sl ([.ref (gA g 2), .int code, .int many])).length) Slot.unset).toArray = ls at hl ⊢
  have hl : lv_has ls 3 [(0, .ref (gA g 2)), (1, .int code), (2, .int many)] := hl
  refine lv_aload_n hx hb dX0_close_0 rfl (lv_at hl 0 rfl) ?_
  refine lv_iconst (v := 1) hx hb dX0_close_1 (by decide) ?_
  refine pL (ty := .boolean) hx hb hts hinX0 hown hC hS hW 0 (by decide) (by decide +kernel) (by decide +kernel) (1) rfl rfl dX0_close_2 (fun H locs hW hS => ?_)
  refine lv_aload_n hx hb dX0_close_5 rfl (lv_at hl 0 rfl) ?_
  refine lv_iload_n hx hb dX0_close_6 rfl (lv_at hl 1 rfl) ?_
  refine pL (ty := .int) hx hb hts hinX0 hown hC hS hW 1 (by decide) (by decide +kernel) (by decide +kernel) (code) rfl rfl dX0_close_7 (fun H locs hW hS => ?_)
  refine lv_aload_n hx hb dX0_close_10 rfl (lv_at hl 0 rfl) ?_
  refine lv_iload_n hx hb dX0_close_11 rfl (lv_at hl 2 rfl) ?_
  refine pL (ty := .int) hx hb hts hinX0 hown hC hS hW 2 (by decide) (by decide +kernel) (by decide +kernel) (many) rfl rfl dX0_close_12 (fun H locs hW hS => ?_)
  refine lv_aload_n hx hb dX0_close_15 rfl (lv_at hl 0 rfl) ?_
  refine va_callv (va_runV (As := []) (rest := []) ⟨hx, hb, hml, hown, hts⟩ (mtX0_forgetDigits l g ((σ.1, σ.2.1, upd (upd (upd σ.2.2.1 0 1) 1 code) 2 many, σ.2.2.2)) μ o ) (cwV 0 hts gX0_close_X0_forgetDigits rfl rfl rfl (by decide +kernel) ⟨Nat.le_of_ble_eq_true rfl, Nat.le_of_ble_eq_true rfl⟩) ⟨PW.blind, rcL hC hW, fun U hU hW9 => ⟨rfl, PW.at hC hS hW U hU hW9⟩⟩ rfl rfl hl.1 rfl (lv_room (Nat.le_of_ble_eq_true rfl)) dX0_close_16 ⟨Nat.zero_le _, Nat.zero_le _⟩) hS (fun _ _ h => h) (fun _ h => h) (fun u_3 t H locs ht hvm h_1 hW hz9 hk9 hS => ?_)
  replace hW : Wd g ((σ.1, σ.2.1, upd (upd (upd (upd σ.2.2.1 0 1) 1 code) 2 many) 3 0, σ.2.2.2)) μ o H := by rw [← ht]; exact hW
  try dsimp only at h_1
  exact W.vret hx hb hr (fun t ht hW9 => ⟨⟨(), rfl, trivial, by first | (rw [ht]; exact hW) | (dsimp only; rw [ht]; exact hW)⟩, hS.F ht⟩) hS.2.2 dX0_close_19
set_option maxHeartbeats 4000000 in
set_option maxRecDepth 100000 in
theorem mtX1_fill (l : Launch) (g : Ge) (σ : Sg) (μ : Mg) (o : Nat → Int64) (j : Nat) (hj : j < 16) (nu kind name ver mark tr : Int32) : Met l yX1_fill wsX1_fill ({ frames := 0, cells := 0, slots := 0, locals := 0 } : Room) (va_Pc [.ref (gA g (13 + j)), .int nu, .int kind, .int name, .int ver, .int mark, .int tr] (PW g σ μ o)) (va_Qv (S := Unit) (fun _ => True) (fun _ t => Wd g (σ.1, up2 σ.2.1 j (flE (σ.2.1 j) nu kind name ver mark tr), σ.2.2) μ o t.heap) (Az g)) 0 0 (Az g) := by
  refine Met.ofW (cc := cX1_fill) (maxL := 7) (ret := none) (by decide) rfl ?_
  intro p e s m args below meth c s₁ B hml hv
  obtain ⟨rfl, hC, hW⟩ := hv
  have hx := B.exec
  have hb := B.bytes
  have hr := B.returns
  have hts := atoms_spec (ws := wsX1_fill) B.pre
  have hown : s.vm.findClass RX1 = some m.cls := findClass_of_methodNamed B.named
  have hlocks := B.notSynchronized
  have hinX1 : ∀ w ∈ wsX10, w ∈ wsX1_fill := by decide +kernel
  have hS : va_S (Az g) s.heap s.heap [] := va_S.rf
  have hl := lv_entry ([.ref (gA g (13 + j)), .int nu, .int kind, .int name, .int ver, .int mark, .int tr]) (n := 7) (Nat.le_of_ble_eq_true rfl)
  rw [lg_entry_eq]
  generalize (lg_sl ([.ref (gA g (13 + j)), .int nu, .int kind, .int name, .int ver, .int mark, .int tr]) ++ List.replicate (7 - (lg_sl ([.ref (gA g (13 + j)), .int nu, .int kind, .int name, .int ver, .int mark, .int tr])).length) Slot.unset).toArray = ls at hl ⊢
  have hl : lv_has ls 7 [(0, .ref (gA g (13 + j))), (1, .int nu), (2, .int kind), (3, .int name), (4, .int ver), (5, .int mark), (6, .int tr)] := hl
  refine lv_aload_n hx hb dX1_fill_0 rfl (lv_at hl 0 rfl) ?_
  refine lv_iconst (v := 1) hx hb dX1_fill_1 (by decide) ?_
  refine pE (ty := .boolean) hx hb hts hinX1 hown hC hS hW hj 0 (by decide) (by decide +kernel) (by decide +kernel) (1) rfl rfl dX1_fill_2 (fun H locs hW hS => ?_)
  refine lv_aload_n hx hb dX1_fill_5 rfl (lv_at hl 0 rfl) ?_
  refine lv_iload_n hx hb dX1_fill_6 rfl (lv_at hl 1 rfl) ?_
  refine pE (ty := .int) hx hb hts hinX1 hown hC hS hW hj 1 (by decide) (by decide +kernel) (by decide +kernel) (nu) rfl rfl dX1_fill_7 (fun H locs hW hS => ?_)
  refine lv_aload_n hx hb dX1_fill_10 rfl (lv_at hl 0 rfl) ?_
  refine lv_iload_n hx hb dX1_fill_11 rfl (lv_at hl 2 rfl) ?_
  refine pE (ty := .int) hx hb hts hinX1 hown hC hS hW hj 2 (by decide) (by decide +kernel) (by decide +kernel) (kind) rfl rfl dX1_fill_12 (fun H locs hW hS => ?_)
  refine lv_aload_n hx hb dX1_fill_15 rfl (lv_at hl 0 rfl) ?_
  refine lv_iload_n hx hb dX1_fill_16 rfl (lv_at hl 3 rfl) ?_
  refine pE (ty := .int) hx hb hts hinX1 hown hC hS hW hj 3 (by decide) (by decide +kernel) (by decide +kernel) (name) rfl rfl dX1_fill_17 (fun H locs hW hS => ?_)
  refine lv_aload_n hx hb dX1_fill_20 rfl (lv_at hl 0 rfl) ?_
  refine lv_iload hx hb dX1_fill_21 (lv_at hl 4 rfl) ?_
  refine pE (ty := .int) hx hb hts hinX1 hown hC hS hW hj 4 (by decide) (by decide +kernel) (by decide +kernel) (ver) rfl rfl dX1_fill_23 (fun H locs hW hS => ?_)
  refine lv_aload_n hx hb dX1_fill_26 rfl (lv_at hl 0 rfl) ?_
  refine lv_iload hx hb dX1_fill_27 (lv_at hl 5 rfl) ?_
  refine pE (ty := .int) hx hb hts hinX1 hown hC hS hW hj 5 (by decide) (by decide +kernel) (by decide +kernel) (mark) rfl rfl dX1_fill_29 (fun H locs hW hS => ?_)
  refine lv_aload_n hx hb dX1_fill_32 rfl (lv_at hl 0 rfl) ?_
  refine lv_iconst (v := 0) hx hb dX1_fill_33 (by decide) ?_
  refine pE (ty := .int) hx hb hts hinX1 hown hC hS hW hj 6 (by decide) (by decide +kernel) (by decide +kernel) (0) rfl rfl dX1_fill_34 (fun H locs hW hS => ?_)
  refine lv_aload_n hx hb dX1_fill_37 rfl (lv_at hl 0 rfl) ?_
  refine lv_iload hx hb dX1_fill_38 (lv_at hl 6 rfl) ?_
  refine pE (ty := .int) hx hb hts hinX1 hown hC hS hW hj 7 (by decide) (by decide +kernel) (by decide +kernel) (tr) rfl rfl dX1_fill_40 (fun H locs hW hS => ?_)
  exact W.vret hx hb hr (fun t ht hW9 => ⟨⟨(), rfl, trivial, by dsimp only; rw [ht]; simpa only [up2_s, up2_u, flE] using hW⟩, hS.F ht⟩) hS.2.2 dX1_fill_43
