set_option maxHeartbeats 4000000 in
set_option maxRecDepth 100000 in
theorem mtL_order (l : Launch) (g : Ge) (σ : Sg) (μ : Mg) (o : Nat → Int64) (hfl : l.stackTraces = false) (a b c9 d9 : Int32) (hck : ck_order σ a b c9 d9 = true) : Met l yL_order wsL_order ({ frames := 8, cells := 8, slots := 48, locals := 137 } : Room) (va_Pc [.ref (gA g 0), .int a, .int b, .int c9, .int d9] (PW g σ μ o)) (va_Qi (S := Unit) (fun r _ => r = 1) (fun _ t => Wd g σ μ o t.heap) (Az g)) 8 48 (Az g) := by
  refine Met.ofW (cc := cL_order) (maxL := 5) (ret := (some .boolean)) (by decide) rfl ?_
  intro p e s m args below meth c s₁ B hml hv
  obtain ⟨rfl, hC, hW⟩ := hv
  obtain ⟨q1, q2, q3, q4, q5, q6, q7, q8⟩ := ok_order hck
  have hx := B.exec
  have hb := B.bytes
  have hr := B.returns
  have hts := atoms_spec (ws := wsL_order) B.pre
  have hown : s.vm.findClass RL = some m.cls := findClass_of_methodNamed B.named
  have hlocks := B.notSynchronized
  have hS : va_S (Az g) s.heap s.heap [] := va_S.rf
  have hl := lv_entry ([.ref (gA g 0), .int a, .int b, .int c9, .int d9]) (n := 5) (Nat.le_of_ble_eq_true rfl)
  rw [lg_entry_eq]
  generalize (lg_sl ([.ref (gA g 0), .int a, .int b, .int c9, .int d9]) ++ List.replicate (5 - (lg_sl ([.ref (gA g 0), .int a, .int b, .int c9, .int d9])).length) Slot.unset).toArray = ls at hl ⊢
  have hl : lv_has ls 5 [(0, .ref (gA g 0)), (1, .int a), (2, .int b), (3, .int c9), (4, .int d9)] := hl
  refine lv_aload_n hx hb dL_order_0 rfl (lv_at hl 0 rfl) ?_
  refine lv_iconst (v := 0) hx hb dL_order_1 (by decide) ?_
  refine cOKi (v := a) (τ := σ) (vx_runV (As := [.int 0]) (rest := []) ⟨hx, hb, hml, hown, hts⟩ (mtX2_at l hfl g σ μ o 0) (cwV 1 hts gL_order_X2_at rfl rfl rfl (by decide +kernel) ⟨Nat.le_of_ble_eq_true rfl, Nat.le_of_ble_eq_true rfl⟩) ⟨PW.blind, rcB hC hW, fun U hU hW9 => ⟨rfl, PW.at hC hS hW U hU hW9⟩⟩ rfl rfl hl.1 rfl (lv_room (Nat.le_of_ble_eq_true rfl)) dL_order_2 ⟨Nat.le_of_ble_eq_true rfl, Nat.le_of_ble_eq_true rfl⟩) hS (fun _ _ _ q => no_1 (ok_at (g := g) (μ := μ) (o := o) q1).1 q) (ok_at q1).2 (fun H locs hW hS => ?_)
  refine lv_iload_n hx hb dL_order_5 rfl (lv_at hl 1 rfl) ?_
  refine lv_icmp_ne (tgt := 77) hx hb dL_order_6 (by decide) (fun c1 => absurd rfl c1) (fun _ => ?_)
  refine lv_aload_n hx hb dL_order_9 rfl (lv_at hl 0 rfl) ?_
  refine lv_iconst (v := 1) hx hb dL_order_10 (by decide) ?_
  refine cOKi (v := b) (τ := σ) (vx_runV (As := [.int 1]) (rest := []) ⟨hx, hb, hml, hown, hts⟩ (mtX2_at l hfl g σ μ o 1) (cwV 1 hts gL_order_X2_at rfl rfl rfl (by decide +kernel) ⟨Nat.le_of_ble_eq_true rfl, Nat.le_of_ble_eq_true rfl⟩) ⟨PW.blind, rcB hC hW, fun U hU hW9 => ⟨rfl, PW.at hC hS hW U hU hW9⟩⟩ rfl rfl hl.1 rfl (lv_room (Nat.le_of_ble_eq_true rfl)) dL_order_11 ⟨Nat.le_of_ble_eq_true rfl, Nat.le_of_ble_eq_true rfl⟩) hS (fun _ _ _ q => no_1 (ok_at (g := g) (μ := μ) (o := o) q2).1 q) (ok_at q2).2 (fun H locs hW hS => ?_)
  refine lv_iload_n hx hb dL_order_14 rfl (lv_at hl 2 rfl) ?_
  refine lv_icmp_ne (tgt := 77) hx hb dL_order_15 (by decide) (fun c2 => absurd rfl c2) (fun _ => ?_)
  refine lv_aload_n hx hb dL_order_18 rfl (lv_at hl 0 rfl) ?_
  refine lv_iconst (v := 2) hx hb dL_order_19 (by decide) ?_
  refine cOKi (v := c9) (τ := σ) (vx_runV (As := [.int 2]) (rest := []) ⟨hx, hb, hml, hown, hts⟩ (mtX2_at l hfl g σ μ o 2) (cwV 1 hts gL_order_X2_at rfl rfl rfl (by decide +kernel) ⟨Nat.le_of_ble_eq_true rfl, Nat.le_of_ble_eq_true rfl⟩) ⟨PW.blind, rcB hC hW, fun U hU hW9 => ⟨rfl, PW.at hC hS hW U hU hW9⟩⟩ rfl rfl hl.1 rfl (lv_room (Nat.le_of_ble_eq_true rfl)) dL_order_20 ⟨Nat.le_of_ble_eq_true rfl, Nat.le_of_ble_eq_true rfl⟩) hS (fun _ _ _ q => no_1 (ok_at (g := g) (μ := μ) (o := o) q3).1 q) (ok_at q3).2 (fun H locs hW hS => ?_)
  refine lv_iload_n hx hb dL_order_23 rfl (lv_at hl 3 rfl) ?_
  refine lv_icmp_ne (tgt := 77) hx hb dL_order_24 (by decide) (fun c3 => absurd rfl c3) (fun _ => ?_)
  refine lv_aload_n hx hb dL_order_27 rfl (lv_at hl 0 rfl) ?_
  refine lv_iconst (v := 3) hx hb dL_order_28 (by decide) ?_
  refine cOKi (v := d9) (τ := σ) (vx_runV (As := [.int 3]) (rest := []) ⟨hx, hb, hml, hown, hts⟩ (mtX2_at l hfl g σ μ o 3) (cwV 1 hts gL_order_X2_at rfl rfl rfl (by decide +kernel) ⟨Nat.le_of_ble_eq_true rfl, Nat.le_of_ble_eq_true rfl⟩) ⟨PW.blind, rcB hC hW, fun U hU hW9 => ⟨rfl, PW.at hC hS hW U hU hW9⟩⟩ rfl rfl hl.1 rfl (lv_room (Nat.le_of_ble_eq_true rfl)) dL_order_29 ⟨Nat.le_of_ble_eq_true rfl, Nat.le_of_ble_eq_true rfl⟩) hS (fun _ _ _ q => no_1 (ok_at (g := g) (μ := μ) (o := o) q4).1 q) (ok_at q4).2 (fun H locs hW hS => ?_)
  refine lv_iload hx hb dL_order_32 (lv_at hl 4 rfl) ?_
  refine lv_icmp_ne (tgt := 77) hx hb dL_order_34 (by decide) (fun c4 => absurd rfl c4) (fun _ => ?_)
  refine lv_aload_n hx hb dL_order_37 rfl (lv_at hl 0 rfl) ?_
  refine lv_iload_n hx hb dL_order_38 rfl (lv_at hl 1 rfl) ?_
  refine cOKi (v := 0) (τ := σ) (vx_runV (As := [.int a]) (rest := []) ⟨hx, hb, hml, hown, hts⟩ (mtX2_placeOf l hfl g σ μ o a) (cwV 1 hts gL_order_X2_placeOf rfl rfl rfl (by decide +kernel) ⟨Nat.le_of_ble_eq_true rfl, Nat.le_of_ble_eq_true rfl⟩) ⟨PW.blind, rcB hC hW, fun U hU hW9 => ⟨rfl, PW.at hC hS hW U hU hW9⟩⟩ rfl rfl hl.1 rfl (lv_room (Nat.le_of_ble_eq_true rfl)) dL_order_39 ⟨Nat.le_of_ble_eq_true rfl, Nat.le_of_ble_eq_true rfl⟩) hS (fun _ _ _ q => no_1 (ok_placeOf (g := g) (μ := μ) (o := o) q5).1 q) (ok_placeOf q5).2 (fun H locs hW hS => ?_)
  refine lv_if_ne (tgt := 77) hx hb dL_order_42 (by decide) (fun c5 => absurd c5 (by decide)) (fun _ => ?_)
  refine lv_aload_n hx hb dL_order_45 rfl (lv_at hl 0 rfl) ?_
  refine lv_iload_n hx hb dL_order_46 rfl (lv_at hl 2 rfl) ?_
  refine cOKi (v := 1) (τ := σ) (vx_runV (As := [.int b]) (rest := []) ⟨hx, hb, hml, hown, hts⟩ (mtX2_placeOf l hfl g σ μ o b) (cwV 1 hts gL_order_X2_placeOf rfl rfl rfl (by decide +kernel) ⟨Nat.le_of_ble_eq_true rfl, Nat.le_of_ble_eq_true rfl⟩) ⟨PW.blind, rcB hC hW, fun U hU hW9 => ⟨rfl, PW.at hC hS hW U hU hW9⟩⟩ rfl rfl hl.1 rfl (lv_room (Nat.le_of_ble_eq_true rfl)) dL_order_47 ⟨Nat.le_of_ble_eq_true rfl, Nat.le_of_ble_eq_true rfl⟩) hS (fun _ _ _ q => no_1 (ok_placeOf (g := g) (μ := μ) (o := o) q6).1 q) (ok_placeOf q6).2 (fun H locs hW hS => ?_)
  refine lv_iconst (v := 1) hx hb dL_order_50 (by decide) ?_
  refine lv_icmp_ne (tgt := 77) hx hb dL_order_51 (by decide) (fun c6 => absurd c6 (by decide)) (fun _ => ?_)
  refine lv_aload_n hx hb dL_order_54 rfl (lv_at hl 0 rfl) ?_
  refine lv_iload_n hx hb dL_order_55 rfl (lv_at hl 3 rfl) ?_
  refine cOKi (v := 2) (τ := σ) (vx_runV (As := [.int c9]) (rest := []) ⟨hx, hb, hml, hown, hts⟩ (mtX2_placeOf l hfl g σ μ o c9) (cwV 1 hts gL_order_X2_placeOf rfl rfl rfl (by decide +kernel) ⟨Nat.le_of_ble_eq_true rfl, Nat.le_of_ble_eq_true rfl⟩) ⟨PW.blind, rcB hC hW, fun U hU hW9 => ⟨rfl, PW.at hC hS hW U hU hW9⟩⟩ rfl rfl hl.1 rfl (lv_room (Nat.le_of_ble_eq_true rfl)) dL_order_56 ⟨Nat.le_of_ble_eq_true rfl, Nat.le_of_ble_eq_true rfl⟩) hS (fun _ _ _ q => no_1 (ok_placeOf (g := g) (μ := μ) (o := o) q7).1 q) (ok_placeOf q7).2 (fun H locs hW hS => ?_)
  refine lv_iconst (v := 2) hx hb dL_order_59 (by decide) ?_
  refine lv_icmp_ne (tgt := 77) hx hb dL_order_60 (by decide) (fun c7 => absurd c7 (by decide)) (fun _ => ?_)
  refine lv_aload_n hx hb dL_order_63 rfl (lv_at hl 0 rfl) ?_
  refine lv_iload hx hb dL_order_64 (lv_at hl 4 rfl) ?_
  refine cOKi (v := 3) (τ := σ) (vx_runV (As := [.int d9]) (rest := []) ⟨hx, hb, hml, hown, hts⟩ (mtX2_placeOf l hfl g σ μ o d9) (cwV 1 hts gL_order_X2_placeOf rfl rfl rfl (by decide +kernel) ⟨Nat.le_of_ble_eq_true rfl, Nat.le_of_ble_eq_true rfl⟩) ⟨PW.blind, rcB hC hW, fun U hU hW9 => ⟨rfl, PW.at hC hS hW U hU hW9⟩⟩ rfl rfl hl.1 rfl (lv_room (Nat.le_of_ble_eq_true rfl)) dL_order_66 ⟨Nat.le_of_ble_eq_true rfl, Nat.le_of_ble_eq_true rfl⟩) hS (fun _ _ _ q => no_1 (ok_placeOf (g := g) (μ := μ) (o := o) q8).1 q) (ok_placeOf q8).2 (fun H locs hW hS => ?_)
  refine lv_iconst (v := 3) hx hb dL_order_69 (by decide) ?_
  refine lv_icmp_ne (tgt := 77) hx hb dL_order_70 (by decide) (fun c8 => absurd c8 (by decide)) (fun _ => ?_)
  refine lv_iconst (v := 1) hx hb dL_order_73 (by decide) ?_
  refine lv_goto (tgt := 78) hx hb dL_order_74 (by decide) ?_
  refine W.widen (k := 8) (n := 48) (Nat.le_of_ble_eq_true rfl) (Nat.le_of_ble_eq_true rfl) ?_
  exact W.zret (v := 1) (ty := .boolean) hx hb hr rfl (fun t ht hW9 => ⟨⟨_, (), rfl, rfl, by first | (rw [ht]; exact hW) | (dsimp only; rw [ht]; exact hW)⟩, hS.F ht⟩) hS.2.2 dL_order_78
