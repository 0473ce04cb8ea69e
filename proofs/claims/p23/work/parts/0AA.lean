def zuC (p : Program) (l : Launch) (s : State) (m : MethodId) (meth : Method) (c : Code) (g : Ge) : Prop := lmC wsL_starts cL_starts (some .boolean) 1 p s m ([] : List Value).toArray meth c ∧ cx g s s.heap ∧ l.stackTraces = false
def zuG (p : Program) (l : Launch) (e : Env) (s : State) (m : MethodId) (below : List Frame) (meth : Method) (c : Code) (g : Ge) (σ : Sg) (pc : Nat) (lv : List (Nat × Value)) (cells slots : Nat) : Prop :=
  ∀ (H : Heap) (locs : List Loc) (ls : Array Slot), Wd g σ m00 O00 H → va_S (Az g) s.heap H locs → lv_has ls 1 lv →
    W p l e (headSpec wsL_starts ({ frames := 10, cells := 439, slots := 2684, locals := 195 } : Room)).room s m ([] : List Value).toArray below meth c H locs cells slots (MQ below (va_Qi (S := Unit) (fun r _ => r = 1) (fun _ _ => True) (Az g)) ([] : List Value).toArray s 439 2684 (Az g)) (F0 m pc ls [])
set_option maxHeartbeats 4000000 in
set_option maxRecDepth 100000 in
theorem zu_0 {p : Program} {l : Launch} {e : Env} {s : State} {m : MethodId} {below : List Frame} {meth : Method} {c : Code} {g : Ge} (C0 : zuC p l s m meth c g) (kk : zuG p l e s m below meth c g zu0 101 [(0, .ref (gA g 0))] 26 206) : zuG p l e s m below meth c g zu0 8 [(0, .ref (gA g 0))] 20 170 := by
  obtain ⟨⟨hx, hb, hr, hml, hts, hown, hlocks⟩, hC, hfl⟩ := C0
  intro H locs ls hW hS hl
  have hl : lv_has ls 1 [(0, .ref (gA g 0))] := hl
  refine lv_aload_n hx hb dL_starts_8 rfl (lv_at hl 0 rfl) ?_
  refine vp_callSi (va_Run.run (va_runV (As := []) (rest := []) ⟨hx, hb, hml, hown, hts⟩ (mtX2_entries l g zu0 m00 O00 ) (cwV 0 hts gL_starts_X2_entries rfl rfl rfl (by decide +kernel) ⟨Nat.le_of_ble_eq_true rfl, Nat.le_of_ble_eq_true rfl⟩) ⟨PW.blind, rcB hC hW, fun U hU hW9 => ⟨rfl, PW.at hC hS hW U hU hW9⟩⟩ rfl rfl hl.1 rfl (lv_room (Nat.le_of_ble_eq_true rfl)) dL_starts_9 ⟨Nat.le_of_ble_eq_true rfl, Nat.le_of_ble_eq_true rfl⟩)) (fun r1 h2 => ?_)
  obtain rfl : r1 = 0 := h2.trans zuq1
  refine lv_if_ne (tgt := 291) hx hb dL_starts_12 (by decide) (fun c3 => absurd c3 (by decide)) (fun _ => ?_)
  refine lv_aload_n hx hb dL_starts_15 rfl (lv_at hl 0 rfl) ?_
  refine vp_callSi (va_Run.run (va_runV (As := []) (rest := []) ⟨hx, hb, hml, hown, hts⟩ (mtX2_next l g zu0 m00 O00 ) (cwV 0 hts gL_starts_X2_next rfl rfl rfl (by decide +kernel) ⟨Nat.le_of_ble_eq_true rfl, Nat.le_of_ble_eq_true rfl⟩) ⟨PW.blind, rcB hC hW, fun U hU hW9 => ⟨rfl, PW.at hC hS hW U hU hW9⟩⟩ rfl rfl hl.1 rfl (lv_room (Nat.le_of_ble_eq_true rfl)) dL_starts_16 ⟨Nat.le_of_ble_eq_true rfl, Nat.le_of_ble_eq_true rfl⟩)) (fun r4 h5 => ?_)
  obtain rfl : r4 = (-1) := h5.trans zuq2
  refine lv_iconst (v := (-1)) hx hb dL_starts_19 (by decide) ?_
  refine lv_icmp_ne (tgt := 291) hx hb dL_starts_20 (by decide) (fun c6 => absurd c6 (by decide)) (fun _ => ?_)
  refine lv_aload_n hx hb dL_starts_23 rfl (lv_at hl 0 rfl) ?_
  refine vp_callSi (va_Run.run (va_runV (As := []) (rest := []) ⟨hx, hb, hml, hown, hts⟩ (mtX2_running l g zu0 m00 O00 ) (cwV 0 hts gL_starts_X2_running rfl rfl rfl (by decide +kernel) ⟨Nat.le_of_ble_eq_true rfl, Nat.le_of_ble_eq_true rfl⟩) ⟨PW.blind, rcB hC hW, fun U hU hW9 => ⟨rfl, PW.at hC hS hW U hU hW9⟩⟩ rfl rfl hl.1 rfl (lv_room (Nat.le_of_ble_eq_true rfl)) dL_starts_24 ⟨Nat.le_of_ble_eq_true rfl, Nat.le_of_ble_eq_true rfl⟩)) (fun r7 h8 => ?_)
  obtain rfl : r7 = (-1) := h8.trans zuq3
  refine lv_iconst (v := (-1)) hx hb dL_starts_27 (by decide) ?_
  refine lv_icmp_ne (tgt := 291) hx hb dL_starts_28 (by decide) (fun c9 => absurd c9 (by decide)) (fun _ => ?_)
  refine lv_aload_n hx hb dL_starts_31 rfl (lv_at hl 0 rfl) ?_
  refine vp_callSi (va_Run.run (va_runV (As := []) (rest := []) ⟨hx, hb, hml, hown, hts⟩ (mtX2_register l g zu0 m00 O00 ) (cwV 0 hts gL_starts_X2_register rfl rfl rfl (by decide +kernel) ⟨Nat.le_of_ble_eq_true rfl, Nat.le_of_ble_eq_true rfl⟩) ⟨PW.blind, rcB hC hW, fun U hU hW9 => ⟨rfl, PW.at hC hS hW U hU hW9⟩⟩ rfl rfl hl.1 rfl (lv_room (Nat.le_of_ble_eq_true rfl)) dL_starts_32 ⟨Nat.le_of_ble_eq_true rfl, Nat.le_of_ble_eq_true rfl⟩)) (fun r10 h11 => ?_)
  obtain rfl : r10 = 0 := h11.trans zuq4
  refine lv_if_ne (tgt := 291) hx hb dL_starts_35 (by decide) (fun c12 => absurd c12 (by decide)) (fun _ => ?_)
  refine lv_aload_n hx hb dL_starts_38 rfl (lv_at hl 0 rfl) ?_
  refine vp_callSi (va_Run.run (va_runV (As := []) (rest := []) ⟨hx, hb, hml, hown, hts⟩ (mtX2_isLocked l g zu0 m00 O00 (hk0_of (Or.inl zuq5))) (cwV 0 hts gL_starts_X2_isLocked rfl rfl rfl (by decide +kernel) ⟨Nat.le_of_ble_eq_true rfl, Nat.le_of_ble_eq_true rfl⟩) ⟨PW.blind, rcB hC hW, fun U hU hW9 => ⟨rfl, PW.at hC hS hW U hU hW9⟩⟩ rfl rfl hl.1 rfl (lv_room (Nat.le_of_ble_eq_true rfl)) dL_starts_39 ⟨Nat.le_of_ble_eq_true rfl, Nat.le_of_ble_eq_true rfl⟩)) (fun r13 h14 => ?_)
  obtain rfl : r13 = 0 := h14.trans zuq5
  refine lv_if_ne (tgt := 291) hx hb dL_starts_42 (by decide) (fun c15 => absurd c15 (by decide)) (fun _ => ?_)
  refine lv_aload_n hx hb dL_starts_45 rfl (lv_at hl 0 rfl) ?_
  refine lv_iconst (v := 5) hx hb dL_starts_46 (by decide) ?_
  refine lv_iconst (v := 0) hx hb dL_starts_47 (by decide) ?_
  refine lv_iconst (v := 0) hx hb dL_starts_48 (by decide) ?_
  refine va_calli (vx_runSW (As := [.ref (gA g 0), .int 5, .int 0, .int 0]) (rest := []) ⟨hx, hb, hml, hown, hts⟩ (mtL_act_5 l g zu0 m00 O00 hfl 0 0 1 (-73) zuq6 (by decide)) (vx_cwSW 4 hts gL_starts_L_act rfl rfl rfl (by decide +kernel) ⟨Nat.le_of_ble_eq_true rfl, Nat.le_of_ble_eq_true rfl⟩) ⟨PW.blind, fun U hU hW9 => ⟨rfl, PW.at hC hS hW U hU hW9⟩⟩ rfl rfl hl.1 rfl (lv_room (Nat.le_of_ble_eq_true rfl)) dL_starts_49 ⟨Nat.le_of_ble_eq_true rfl, Nat.le_of_ble_eq_true rfl⟩) hS (fun _ _ h => h) (fun _ h => h) (fun r u t H locs ht hvm hq hW hz9 hk9 hS => ?_)
  obtain rfl : r = (-73) := hq
  replace hW : Wd g zu0 m00 O00 H := by rw [← ht]; exact hW
  refine lv_bipush (v := (-73)) hx hb dL_starts_52 (by decide) ?_
  refine lv_icmp_ne (tgt := 291) hx hb dL_starts_54 (by decide) (fun c16 => absurd c16 (by decide)) (fun _ => ?_)
  refine lv_aload_n hx hb dL_starts_57 rfl (lv_at hl 0 rfl) ?_
  refine lv_bipush (v := 6) hx hb dL_starts_58 (by decide) ?_
  refine lv_iconst (v := 0) hx hb dL_starts_60 (by decide) ?_
  refine lv_iconst (v := 0) hx hb dL_starts_61 (by decide) ?_
  refine va_calli (vx_runSW (As := [.ref (gA g 0), .int 6, .int 0, .int 0]) (rest := []) ⟨hx, hb, hml, hown, hts⟩ (mtL_act_6 l g zu0 m00 O00 hfl 0 0 1 (-73) zuq7 (by decide)) (vx_cwSW 4 hts gL_starts_L_act rfl rfl rfl (by decide +kernel) ⟨Nat.le_of_ble_eq_true rfl, Nat.le_of_ble_eq_true rfl⟩) ⟨PW.blind, fun U hU hW9 => ⟨rfl, PW.at hC hS hW U hU hW9⟩⟩ rfl rfl hl.1 rfl (lv_room (Nat.le_of_ble_eq_true rfl)) dL_starts_62 ⟨Nat.le_of_ble_eq_true rfl, Nat.le_of_ble_eq_true rfl⟩) hS (fun _ _ h => h) (fun _ h => h) (fun r u t H locs ht hvm hq hW hz9 hk9 hS => ?_)
  obtain rfl : r = (-73) := hq
  replace hW : Wd g zu0 m00 O00 H := by rw [← ht]; exact hW
  refine lv_bipush (v := (-73)) hx hb dL_starts_65 (by decide) ?_
  refine lv_icmp_ne (tgt := 291) hx hb dL_starts_67 (by decide) (fun c17 => absurd c17 (by decide)) (fun _ => ?_)
  refine lv_aload_n hx hb dL_starts_70 rfl (lv_at hl 0 rfl) ?_
  refine lv_bipush (v := 8) hx hb dL_starts_71 (by decide) ?_
  refine lv_iconst (v := 0) hx hb dL_starts_73 (by decide) ?_
  refine lv_iconst (v := 0) hx hb dL_starts_74 (by decide) ?_
  refine va_calli (vx_runSW (As := [.ref (gA g 0), .int 8, .int 0, .int 0]) (rest := []) ⟨hx, hb, hml, hown, hts⟩ (mtL_act_8 l g zu0 m00 O00 hfl 0 0 1 (-71) zuq8 (by decide)) (vx_cwSW 4 hts gL_starts_L_act rfl rfl rfl (by decide +kernel) ⟨Nat.le_of_ble_eq_true rfl, Nat.le_of_ble_eq_true rfl⟩) ⟨PW.blind, fun U hU hW9 => ⟨rfl, PW.at hC hS hW U hU hW9⟩⟩ rfl rfl hl.1 rfl (lv_room (Nat.le_of_ble_eq_true rfl)) dL_starts_75 ⟨Nat.le_of_ble_eq_true rfl, Nat.le_of_ble_eq_true rfl⟩) hS (fun _ _ h => h) (fun _ h => h) (fun r u t H locs ht hvm hq hW hz9 hk9 hS => ?_)
  obtain rfl : r = (-71) := hq
  replace hW : Wd g zu0 m00 O00 H := by rw [← ht]; exact hW
  refine lv_bipush (v := (-71)) hx hb dL_starts_78 (by decide) ?_
  refine lv_icmp_ne (tgt := 291) hx hb dL_starts_80 (by decide) (fun c18 => absurd c18 (by decide)) (fun _ => ?_)
  refine lv_aload_n hx hb dL_starts_83 rfl (lv_at hl 0 rfl) ?_
  refine lv_iconst (v := (-1)) hx hb dL_starts_84 (by decide) ?_
  refine cOKi (v := (-1)) (τ := zu0) (vx_runV (As := [.int (-1)]) (rest := []) ⟨hx, hb, hml, hown, hts⟩ (mtX2_choose l hfl g zu0 m00 O00 (-1)) (cwV 1 hts gL_starts_X2_choose rfl rfl rfl (by decide +kernel) ⟨Nat.le_of_ble_eq_true rfl, Nat.le_of_ble_eq_true rfl⟩) ⟨PW.blind, rcB hC hW, fun U hU hW9 => ⟨rfl, PW.at hC hS hW U hU hW9⟩⟩ rfl rfl hl.1 rfl (lv_room (Nat.le_of_ble_eq_true rfl)) dL_starts_85 ⟨Nat.le_of_ble_eq_true rfl, Nat.le_of_ble_eq_true rfl⟩) hS (fun _ _ _ q => no_2 (ok_choose (g := g) (μ := m00) (o := O00) zuq9).1 q) (ok_choose zuq9).2 (fun H locs hW hS => ?_)
  refine lv_iconst (v := (-1)) hx hb dL_starts_88 (by decide) ?_
  refine lv_icmp_ne (tgt := 291) hx hb dL_starts_89 (by decide) (fun c19 => absurd c19 (by decide)) (fun _ => ?_)
  refine lv_aload_n hx hb dL_starts_92 rfl (lv_at hl 0 rfl) ?_
  refine lv_iconst (v := (-1)) hx hb dL_starts_93 (by decide) ?_
  refine cOKi (v := (-1)) (τ := zu0) (vx_runV (As := [.int (-1)]) (rest := []) ⟨hx, hb, hml, hown, hts⟩ (mtX2_chooseOnce l hfl g zu0 m00 O00 (-1)) (cwV 1 hts gL_starts_X2_chooseOnce rfl rfl rfl (by decide +kernel) ⟨Nat.le_of_ble_eq_true rfl, Nat.le_of_ble_eq_true rfl⟩) ⟨PW.blind, rcB hC hW, fun U hU hW9 => ⟨rfl, PW.at hC hS hW U hU hW9⟩⟩ rfl rfl hl.1 rfl (lv_room (Nat.le_of_ble_eq_true rfl)) dL_starts_94 ⟨Nat.le_of_ble_eq_true rfl, Nat.le_of_ble_eq_true rfl⟩) hS (fun _ _ _ q => no_1 (ok_chooseOnce (g := g) (μ := m00) (o := O00) zuq10).1 q) (ok_chooseOnce zuq10).2 (fun H locs hW hS => ?_)
  refine lv_iconst (v := (-1)) hx hb dL_starts_97 (by decide) ?_
  refine lv_icmp_ne (tgt := 291) hx hb dL_starts_98 (by decide) (fun c20 => absurd c20 (by decide)) (fun _ => ?_)
  refine W.widen (k := 26) (n := 206) (Nat.le_of_ble_eq_true rfl) (Nat.le_of_ble_eq_true rfl) ?_
  exact kk H locs ls hW hS (by exact lv_sub hl [0] rfl)
set_option maxHeartbeats 4000000 in
set_option maxRecDepth 100000 in
theorem zu_1 {p : Program} {l : Launch} {e : Env} {s : State} {m : MethodId} {below : List Frame} {meth : Method} {c : Code} {g : Ge} (C0 : zuC p l s m meth c g) (kk : zuG p l e s m below meth c g zu5 219 [(0, .ref (gA g 0))] 45 320) : zuG p l e s m below meth c g zu0 101 [(0, .ref (gA g 0))] 26 206 := by
  obtain ⟨⟨hx, hb, hr, hml, hts, hown, hlocks⟩, hC, hfl⟩ := C0
  intro H locs ls hW hS hl
  have hl : lv_has ls 1 [(0, .ref (gA g 0))] := hl
  refine lv_aload_n hx hb dL_starts_101 rfl (lv_at hl 0 rfl) ?_
  refine lv_iconst (v := 0) hx hb dL_starts_102 (by decide) ?_
  refine lv_bipush (v := 99) hx hb dL_starts_103 (by decide) ?_
  refine cOKi (v := 0) (τ := zu0) (vx_runV (As := [.int 0, .int 99]) (rest := []) ⟨hx, hb, hml, hown, hts⟩ (mtX2_setPattern l hfl g zu0 m00 O00 0 99) (cwV 2 hts gL_starts_X2_setPattern rfl rfl rfl (by decide +kernel) ⟨Nat.le_of_ble_eq_true rfl, Nat.le_of_ble_eq_true rfl⟩) ⟨PW.blind, rcB hC hW, fun U hU hW9 => ⟨rfl, PW.at hC hS hW U hU hW9⟩⟩ rfl rfl hl.1 rfl (lv_room (Nat.le_of_ble_eq_true rfl)) dL_starts_105 ⟨Nat.le_of_ble_eq_true rfl, Nat.le_of_ble_eq_true rfl⟩) hS (fun _ _ _ q => no_2 (ok_setPattern (g := g) (μ := m00) (o := O00) zuq11).1 q) (ok_setPattern zuq11).2 (fun H locs hW hS => ?_)
  refine lv_if_ne (tgt := 291) hx hb dL_starts_108 (by decide) (fun c21 => absurd c21 (by decide)) (fun _ => ?_)
  refine lv_aload_n hx hb dL_starts_111 rfl (lv_at hl 0 rfl) ?_
  refine lv_iconst (v := 0) hx hb dL_starts_112 (by decide) ?_
  refine lv_iconst (v := 5) hx hb dL_starts_113 (by decide) ?_
  refine lv_ldc (v := 1002003) hx hb hown (hts (.constant RL 97 (1002003)) (by decide +kernel)) dL_starts_114 ?_
  refine lv_iconst (v := 1) hx hb dL_starts_116 (by decide) ?_
  refine lv_iconst (v := (-1)) hx hb dL_starts_117 (by decide) ?_
  refine cOKi (v := 0) (τ := zu1) (vx_runV (As := [.int 0, .int 5, .int 1002003, .int 1, .int (-1)]) (rest := []) ⟨hx, hb, hml, hown, hts⟩ (mtX2_add l hfl g zu0 m00 O00 0 5 1002003 1 (-1)) (cwV 5 hts gL_starts_X2_add rfl rfl rfl (by decide +kernel) ⟨Nat.le_of_ble_eq_true rfl, Nat.le_of_ble_eq_true rfl⟩) ⟨PW.blind, rcB hC hW, fun U hU hW9 => ⟨rfl, PW.at hC hS hW U hU hW9⟩⟩ rfl rfl hl.1 rfl (lv_room (Nat.le_of_ble_eq_true rfl)) dL_starts_118 ⟨Nat.le_of_ble_eq_true rfl, Nat.le_of_ble_eq_true rfl⟩) hS (fun _ _ _ q => no_2 (ok_add (g := g) (μ := m00) (o := O00) zuq12).1 q) (ok_add zuq12).2 (fun H locs hW hS => ?_)
  refine lv_if_ne (tgt := 291) hx hb dL_starts_121 (by decide) (fun c22 => absurd c22 (by decide)) (fun _ => ?_)
  refine lv_aload_n hx hb dL_starts_124 rfl (lv_at hl 0 rfl) ?_
  refine lv_iconst (v := 0) hx hb dL_starts_125 (by decide) ?_
  refine lv_iconst (v := 5) hx hb dL_starts_126 (by decide) ?_
  refine lv_ldc (v := 1002003) hx hb hown (hts (.constant RL 97 (1002003)) (by decide +kernel)) dL_starts_127 ?_
  refine lv_iconst (v := 0) hx hb dL_starts_129 (by decide) ?_
  refine lv_iconst (v := 2) hx hb dL_starts_130 (by decide) ?_
  refine cOKi (v := 1) (τ := zu2) (vx_runV (As := [.int 0, .int 5, .int 1002003, .int 0, .int 2]) (rest := []) ⟨hx, hb, hml, hown, hts⟩ (mtX2_add l hfl g zu1 m00 O00 0 5 1002003 0 2) (cwV 5 hts gL_starts_X2_add rfl rfl rfl (by decide +kernel) ⟨Nat.le_of_ble_eq_true rfl, Nat.le_of_ble_eq_true rfl⟩) ⟨PW.blind, rcB hC hW, fun U hU hW9 => ⟨rfl, PW.at hC hS hW U hU hW9⟩⟩ rfl rfl hl.1 rfl (lv_room (Nat.le_of_ble_eq_true rfl)) dL_starts_131 ⟨Nat.le_of_ble_eq_true rfl, Nat.le_of_ble_eq_true rfl⟩) hS (fun _ _ _ q => no_2 (ok_add (g := g) (μ := m00) (o := O00) zuq13).1 q) (ok_add zuq13).2 (fun H locs hW hS => ?_)
  refine lv_iconst (v := 1) hx hb dL_starts_134 (by decide) ?_
  refine lv_icmp_ne (tgt := 291) hx hb dL_starts_135 (by decide) (fun c23 => absurd c23 (by decide)) (fun _ => ?_)
  refine lv_aload_n hx hb dL_starts_138 rfl (lv_at hl 0 rfl) ?_
  refine lv_iconst (v := 1) hx hb dL_starts_139 (by decide) ?_
  refine lv_iconst (v := 1) hx hb dL_starts_140 (by decide) ?_
  refine lv_ldc (v := 9000000) hx hb hown (hts (.constant RL 98 (9000000)) (by decide +kernel)) dL_starts_141 ?_
  refine lv_iconst (v := 2) hx hb dL_starts_143 (by decide) ?_
  refine lv_iconst (v := 0) hx hb dL_starts_144 (by decide) ?_
  refine cOKi (v := 2) (τ := zu3) (vx_runV (As := [.int 1, .int 1, .int 9000000, .int 2, .int 0]) (rest := []) ⟨hx, hb, hml, hown, hts⟩ (mtX2_add l hfl g zu2 m00 O00 1 1 9000000 2 0) (cwV 5 hts gL_starts_X2_add rfl rfl rfl (by decide +kernel) ⟨Nat.le_of_ble_eq_true rfl, Nat.le_of_ble_eq_true rfl⟩) ⟨PW.blind, rcB hC hW, fun U hU hW9 => ⟨rfl, PW.at hC hS hW U hU hW9⟩⟩ rfl rfl hl.1 rfl (lv_room (Nat.le_of_ble_eq_true rfl)) dL_starts_145 ⟨Nat.le_of_ble_eq_true rfl, Nat.le_of_ble_eq_true rfl⟩) hS (fun _ _ _ q => no_2 (ok_add (g := g) (μ := m00) (o := O00) zuq14).1 q) (ok_add zuq14).2 (fun H locs hW hS => ?_)
  refine lv_iconst (v := 2) hx hb dL_starts_148 (by decide) ?_
  refine lv_icmp_ne (tgt := 291) hx hb dL_starts_149 (by decide) (fun c24 => absurd c24 (by decide)) (fun _ => ?_)
  refine lv_aload_n hx hb dL_starts_152 rfl (lv_at hl 0 rfl) ?_
  refine lv_iconst (v := 0) hx hb dL_starts_153 (by decide) ?_
  refine lv_iconst (v := 3) hx hb dL_starts_154 (by decide) ?_
  refine lv_ldc (v := 1002003) hx hb hown (hts (.constant RL 97 (1002003)) (by decide +kernel)) dL_starts_155 ?_
  refine lv_iconst (v := 1) hx hb dL_starts_157 (by decide) ?_
  refine lv_iconst (v := (-1)) hx hb dL_starts_158 (by decide) ?_
  refine cOKi (v := 3) (τ := zu4) (vx_runV (As := [.int 0, .int 3, .int 1002003, .int 1, .int (-1)]) (rest := []) ⟨hx, hb, hml, hown, hts⟩ (mtX2_add l hfl g zu3 m00 O00 0 3 1002003 1 (-1)) (cwV 5 hts gL_starts_X2_add rfl rfl rfl (by decide +kernel) ⟨Nat.le_of_ble_eq_true rfl, Nat.le_of_ble_eq_true rfl⟩) ⟨PW.blind, rcB hC hW, fun U hU hW9 => ⟨rfl, PW.at hC hS hW U hU hW9⟩⟩ rfl rfl hl.1 rfl (lv_room (Nat.le_of_ble_eq_true rfl)) dL_starts_159 ⟨Nat.le_of_ble_eq_true rfl, Nat.le_of_ble_eq_true rfl⟩) hS (fun _ _ _ q => no_2 (ok_add (g := g) (μ := m00) (o := O00) zuq15).1 q) (ok_add zuq15).2 (fun H locs hW hS => ?_)
  refine lv_iconst (v := 3) hx hb dL_starts_162 (by decide) ?_
  refine lv_icmp_ne (tgt := 291) hx hb dL_starts_163 (by decide) (fun c25 => absurd c25 (by decide)) (fun _ => ?_)
  refine lv_aload_n hx hb dL_starts_166 rfl (lv_at hl 0 rfl) ?_
  refine lv_iconst (v := 0) hx hb dL_starts_167 (by decide) ?_
  refine lv_iconst (v := 3) hx hb dL_starts_168 (by decide) ?_
  refine lv_ldc (v := 1010000) hx hb hown (hts (.constant RL 99 (1010000)) (by decide +kernel)) dL_starts_169 ?_
  refine lv_iconst (v := 1) hx hb dL_starts_171 (by decide) ?_
  refine lv_iconst (v := 1) hx hb dL_starts_172 (by decide) ?_
  refine cOKi (v := 4) (τ := zu5) (vx_runV (As := [.int 0, .int 3, .int 1010000, .int 1, .int 1]) (rest := []) ⟨hx, hb, hml, hown, hts⟩ (mtX2_add l hfl g zu4 m00 O00 0 3 1010000 1 1) (cwV 5 hts gL_starts_X2_add rfl rfl rfl (by decide +kernel) ⟨Nat.le_of_ble_eq_true rfl, Nat.le_of_ble_eq_true rfl⟩) ⟨PW.blind, rcB hC hW, fun U hU hW9 => ⟨rfl, PW.at hC hS hW U hU hW9⟩⟩ rfl rfl hl.1 rfl (lv_room (Nat.le_of_ble_eq_true rfl)) dL_starts_173 ⟨Nat.le_of_ble_eq_true rfl, Nat.le_of_ble_eq_true rfl⟩) hS (fun _ _ _ q => no_2 (ok_add (g := g) (μ := m00) (o := O00) zuq16).1 q) (ok_add zuq16).2 (fun H locs hW hS => ?_)
  refine lv_iconst (v := 4) hx hb dL_starts_176 (by decide) ?_
  refine lv_icmp_ne (tgt := 291) hx hb dL_starts_177 (by decide) (fun c26 => absurd c26 (by decide)) (fun _ => ?_)
  refine lv_aload_n hx hb dL_starts_180 rfl (lv_at hl 0 rfl) ?_
  refine lv_iconst (v := 4) hx hb dL_starts_181 (by decide) ?_
  refine lv_iconst (v := 3) hx hb dL_starts_182 (by decide) ?_
  refine lv_iconst (v := 0) hx hb dL_starts_183 (by decide) ?_
  refine lv_iconst (v := 1) hx hb dL_starts_184 (by decide) ?_
  refine va_calli (va_runS (As := [.ref (gA g 0), .int 4, .int 3, .int 0, .int 1]) (rest := []) ⟨hx, hb, hml, hown, hts⟩ (mtL_order l g zu5 m00 O00 hfl 4 3 0 1 zuq17) (va_cwS 5 hts gL_starts_L_order rfl rfl rfl (by decide +kernel) ⟨Nat.le_of_ble_eq_true rfl, Nat.le_of_ble_eq_true rfl⟩) ⟨PW.blind, fun U hU hW9 => ⟨rfl, PW.at hC hS hW U hU hW9⟩⟩ rfl rfl hl.1 rfl (lv_room (Nat.le_of_ble_eq_true rfl)) dL_starts_185 ⟨Nat.le_of_ble_eq_true rfl, Nat.le_of_ble_eq_true rfl⟩) hS (fun _ _ h => h) (fun _ h => h) (fun r u t H locs ht hvm hq hW hz9 hk9 hS => ?_)
  obtain rfl : r = 1 := hq
  replace hW : Wd g zu5 m00 O00 H := by rw [← ht]; exact hW
  refine lv_if_eq (tgt := 291) hx hb dL_starts_188 (by decide) (fun c27 => absurd c27 (by decide)) (fun _ => ?_)
  refine lv_aload_n hx hb dL_starts_191 rfl (lv_at hl 0 rfl) ?_
  refine lv_iconst (v := 4) hx hb dL_starts_192 (by decide) ?_
  refine cOKi (v := 2) (τ := zu5) (vx_runV (As := [.int 4]) (rest := []) ⟨hx, hb, hml, hown, hts⟩ (mtX2_at l hfl g zu5 m00 O00 4) (cwV 1 hts gL_starts_X2_at rfl rfl rfl (by decide +kernel) ⟨Nat.le_of_ble_eq_true rfl, Nat.le_of_ble_eq_true rfl⟩) ⟨PW.blind, rcB hC hW, fun U hU hW9 => ⟨rfl, PW.at hC hS hW U hU hW9⟩⟩ rfl rfl hl.1 rfl (lv_room (Nat.le_of_ble_eq_true rfl)) dL_starts_193 ⟨Nat.le_of_ble_eq_true rfl, Nat.le_of_ble_eq_true rfl⟩) hS (fun _ _ _ q => no_1 (ok_at (g := g) (μ := m00) (o := O00) zuq18).1 q) (ok_at zuq18).2 (fun H locs hW hS => ?_)
  refine lv_iconst (v := 2) hx hb dL_starts_196 (by decide) ?_
  refine lv_icmp_ne (tgt := 291) hx hb dL_starts_197 (by decide) (fun c28 => absurd c28 (by decide)) (fun _ => ?_)
  refine lv_aload_n hx hb dL_starts_200 rfl (lv_at hl 0 rfl) ?_
  refine lv_iconst (v := 2) hx hb dL_starts_201 (by decide) ?_
  refine cOKi (v := 4) (τ := zu5) (vx_runV (As := [.int 2]) (rest := []) ⟨hx, hb, hml, hown, hts⟩ (mtX2_placeOf l hfl g zu5 m00 O00 2) (cwV 1 hts gL_starts_X2_placeOf rfl rfl rfl (by decide +kernel) ⟨Nat.le_of_ble_eq_true rfl, Nat.le_of_ble_eq_true rfl⟩) ⟨PW.blind, rcB hC hW, fun U hU hW9 => ⟨rfl, PW.at hC hS hW U hU hW9⟩⟩ rfl rfl hl.1 rfl (lv_room (Nat.le_of_ble_eq_true rfl)) dL_starts_202 ⟨Nat.le_of_ble_eq_true rfl, Nat.le_of_ble_eq_true rfl⟩) hS (fun _ _ _ q => no_1 (ok_placeOf (g := g) (μ := m00) (o := O00) zuq19).1 q) (ok_placeOf zuq19).2 (fun H locs hW hS => ?_)
  refine lv_iconst (v := 4) hx hb dL_starts_205 (by decide) ?_
  refine lv_icmp_ne (tgt := 291) hx hb dL_starts_206 (by decide) (fun c29 => absurd c29 (by decide)) (fun _ => ?_)
  refine lv_aload_n hx hb dL_starts_209 rfl (lv_at hl 0 rfl) ?_
  refine lv_iconst (v := 0) hx hb dL_starts_210 (by decide) ?_
  refine lv_iconst (v := 1) hx hb dL_starts_211 (by decide) ?_
  refine cOKi (v := 1) (τ := zu5) (vx_runV (As := [.int 0, .int 1]) (rest := []) ⟨hx, hb, hml, hown, hts⟩ (mtX2_compare l hfl g zu5 m00 O00 0 1) (cwV 2 hts gL_starts_X2_compare rfl rfl rfl (by decide +kernel) ⟨Nat.le_of_ble_eq_true rfl, Nat.le_of_ble_eq_true rfl⟩) ⟨PW.blind, rcB hC hW, fun U hU hW9 => ⟨rfl, PW.at hC hS hW U hU hW9⟩⟩ rfl rfl hl.1 rfl (lv_room (Nat.le_of_ble_eq_true rfl)) dL_starts_212 ⟨Nat.le_of_ble_eq_true rfl, Nat.le_of_ble_eq_true rfl⟩) hS (fun _ _ _ q => no_1 (ok_compare (g := g) (μ := m00) (o := O00) zuq20).1 q) (ok_compare zuq20).2 (fun H locs hW hS => ?_)
  refine lv_iconst (v := 1) hx hb dL_starts_215 (by decide) ?_
  refine lv_icmp_ne (tgt := 291) hx hb dL_starts_216 (by decide) (fun c30 => absurd c30 (by decide)) (fun _ => ?_)
  refine W.widen (k := 45) (n := 320) (Nat.le_of_ble_eq_true rfl) (Nat.le_of_ble_eq_true rfl) ?_
  exact kk H locs ls hW hS (by exact lv_sub hl [0] rfl)
set_option maxHeartbeats 4000000 in
set_option maxRecDepth 100000 in
theorem zu_2 {p : Program} {l : Launch} {e : Env} {s : State} {m : MethodId} {below : List Frame} {meth : Method} {c : Code} {g : Ge} (C0 : zuC p l s m meth c g) (kk : zuG p l e s m below meth c g zu6 311 [(0, .ref (gA g 0))] 220 1370) : zuG p l e s m below meth c g zu5 219 [(0, .ref (gA g 0))] 45 320 := by
  obtain ⟨⟨hx, hb, hr, hml, hts, hown, hlocks⟩, hC, hfl⟩ := C0
  intro H locs ls hW hS hl
  have hl : lv_has ls 1 [(0, .ref (gA g 0))] := hl
  refine lv_aload_n hx hb dL_starts_219 rfl (lv_at hl 0 rfl) ?_
  refine lv_iconst (v := 1) hx hb dL_starts_220 (by decide) ?_
  refine lv_iconst (v := 0) hx hb dL_starts_221 (by decide) ?_
  refine cOKi (v := (-1)) (τ := zu5) (vx_runV (As := [.int 1, .int 0]) (rest := []) ⟨hx, hb, hml, hown, hts⟩ (mtX2_compare l hfl g zu5 m00 O00 1 0) (cwV 2 hts gL_starts_X2_compare rfl rfl rfl (by decide +kernel) ⟨Nat.le_of_ble_eq_true rfl, Nat.le_of_ble_eq_true rfl⟩) ⟨PW.blind, rcB hC hW, fun U hU hW9 => ⟨rfl, PW.at hC hS hW U hU hW9⟩⟩ rfl rfl hl.1 rfl (lv_room (Nat.le_of_ble_eq_true rfl)) dL_starts_222 ⟨Nat.le_of_ble_eq_true rfl, Nat.le_of_ble_eq_true rfl⟩) hS (fun _ _ _ q => no_1 (ok_compare (g := g) (μ := m00) (o := O00) zuq21).1 q) (ok_compare zuq21).2 (fun H locs hW hS => ?_)
  refine lv_iconst (v := (-1)) hx hb dL_starts_225 (by decide) ?_
  refine lv_icmp_ne (tgt := 291) hx hb dL_starts_226 (by decide) (fun c31 => absurd c31 (by decide)) (fun _ => ?_)
  refine lv_aload_n hx hb dL_starts_229 rfl (lv_at hl 0 rfl) ?_
  refine lv_iconst (v := 0) hx hb dL_starts_230 (by decide) ?_
  refine lv_iconst (v := 3) hx hb dL_starts_231 (by decide) ?_
  refine cOKi (v := 0) (τ := zu5) (vx_runV (As := [.int 0, .int 3]) (rest := []) ⟨hx, hb, hml, hown, hts⟩ (mtX2_compare l hfl g zu5 m00 O00 0 3) (cwV 2 hts gL_starts_X2_compare rfl rfl rfl (by decide +kernel) ⟨Nat.le_of_ble_eq_true rfl, Nat.le_of_ble_eq_true rfl⟩) ⟨PW.blind, rcB hC hW, fun U hU hW9 => ⟨rfl, PW.at hC hS hW U hU hW9⟩⟩ rfl rfl hl.1 rfl (lv_room (Nat.le_of_ble_eq_true rfl)) dL_starts_232 ⟨Nat.le_of_ble_eq_true rfl, Nat.le_of_ble_eq_true rfl⟩) hS (fun _ _ _ q => no_1 (ok_compare (g := g) (μ := m00) (o := O00) zuq22).1 q) (ok_compare zuq22).2 (fun H locs hW hS => ?_)
  refine lv_if_ne (tgt := 291) hx hb dL_starts_235 (by decide) (fun c32 => absurd c32 (by decide)) (fun _ => ?_)
  refine lv_aload_n hx hb dL_starts_238 rfl (lv_at hl 0 rfl) ?_
  refine lv_iconst (v := 4) hx hb dL_starts_239 (by decide) ?_
  refine lv_iconst (v := 3) hx hb dL_starts_240 (by decide) ?_
  refine cOKi (v := 1) (τ := zu5) (vx_runV (As := [.int 4, .int 3]) (rest := []) ⟨hx, hb, hml, hown, hts⟩ (mtX2_compare l hfl g zu5 m00 O00 4 3) (cwV 2 hts gL_starts_X2_compare rfl rfl rfl (by decide +kernel) ⟨Nat.le_of_ble_eq_true rfl, Nat.le_of_ble_eq_true rfl⟩) ⟨PW.blind, rcB hC hW, fun U hU hW9 => ⟨rfl, PW.at hC hS hW U hU hW9⟩⟩ rfl rfl hl.1 rfl (lv_room (Nat.le_of_ble_eq_true rfl)) dL_starts_241 ⟨Nat.le_of_ble_eq_true rfl, Nat.le_of_ble_eq_true rfl⟩) hS (fun _ _ _ q => no_1 (ok_compare (g := g) (μ := m00) (o := O00) zuq23).1 q) (ok_compare zuq23).2 (fun H locs hW hS => ?_)
  refine lv_iconst (v := 1) hx hb dL_starts_244 (by decide) ?_
  refine lv_icmp_ne (tgt := 291) hx hb dL_starts_245 (by decide) (fun c33 => absurd c33 (by decide)) (fun _ => ?_)
  refine lv_aload_n hx hb dL_starts_248 rfl (lv_at hl 0 rfl) ?_
  refine lv_iconst (v := 2) hx hb dL_starts_249 (by decide) ?_
  refine lv_iconst (v := 2) hx hb dL_starts_250 (by decide) ?_
  refine cOKi (v := 0) (τ := zu5) (vx_runV (As := [.int 2, .int 2]) (rest := []) ⟨hx, hb, hml, hown, hts⟩ (mtX2_compare l hfl g zu5 m00 O00 2 2) (cwV 2 hts gL_starts_X2_compare rfl rfl rfl (by decide +kernel) ⟨Nat.le_of_ble_eq_true rfl, Nat.le_of_ble_eq_true rfl⟩) ⟨PW.blind, rcB hC hW, fun U hU hW9 => ⟨rfl, PW.at hC hS hW U hU hW9⟩⟩ rfl rfl hl.1 rfl (lv_room (Nat.le_of_ble_eq_true rfl)) dL_starts_251 ⟨Nat.le_of_ble_eq_true rfl, Nat.le_of_ble_eq_true rfl⟩) hS (fun _ _ _ q => no_1 (ok_compare (g := g) (μ := m00) (o := O00) zuq24).1 q) (ok_compare zuq24).2 (fun H locs hW hS => ?_)
  refine lv_if_ne (tgt := 291) hx hb dL_starts_254 (by decide) (fun c34 => absurd c34 (by decide)) (fun _ => ?_)
  refine lv_aload_n hx hb dL_starts_257 rfl (lv_at hl 0 rfl) ?_
  refine vp_callSi (va_Run.run (va_runV (As := []) (rest := []) ⟨hx, hb, hml, hown, hts⟩ (mtX2_next l g zu5 m00 O00 ) (cwV 0 hts gL_starts_X2_next rfl rfl rfl (by decide +kernel) ⟨Nat.le_of_ble_eq_true rfl, Nat.le_of_ble_eq_true rfl⟩) ⟨PW.blind, rcB hC hW, fun U hU hW9 => ⟨rfl, PW.at hC hS hW U hU hW9⟩⟩ rfl rfl hl.1 rfl (lv_room (Nat.le_of_ble_eq_true rfl)) dL_starts_258 ⟨Nat.le_of_ble_eq_true rfl, Nat.le_of_ble_eq_true rfl⟩)) (fun r35 h36 => ?_)
  obtain rfl : r35 = 4 := h36.trans zuq25
  refine lv_iconst (v := 4) hx hb dL_starts_261 (by decide) ?_
  refine lv_icmp_ne (tgt := 291) hx hb dL_starts_262 (by decide) (fun c37 => absurd c37 (by decide)) (fun _ => ?_)
  refine lv_aload_n hx hb dL_starts_265 rfl (lv_at hl 0 rfl) ?_
  refine lv_iconst (v := 0) hx hb dL_starts_266 (by decide) ?_
  refine cOKi (v := 878307) (τ := zu5) (vx_runV (As := [.int 0]) (rest := []) ⟨hx, hb, hml, hown, hts⟩ (mtX2_foretold l hfl g zu5 m00 O00 0) (cwV 1 hts gL_starts_X2_foretold rfl rfl rfl (by decide +kernel) ⟨Nat.le_of_ble_eq_true rfl, Nat.le_of_ble_eq_true rfl⟩) ⟨PW.blind, rcB hC hW, fun U hU hW9 => ⟨rfl, PW.at hC hS hW U hU hW9⟩⟩ rfl rfl hl.1 rfl (lv_room (Nat.le_of_ble_eq_true rfl)) dL_starts_267 ⟨Nat.le_of_ble_eq_true rfl, Nat.le_of_ble_eq_true rfl⟩) hS (fun _ _ _ q => no_1 (ok_foretold (g := g) (μ := m00) (o := O00) zuq26).1 q) (ok_foretold zuq26).2 (fun H locs hW hS => ?_)
  refine lv_ldc (v := 878307) hx hb hown (hts (.constant RL 104 (878307)) (by decide +kernel)) dL_starts_270 ?_
  refine lv_icmp_ne (tgt := 291) hx hb dL_starts_272 (by decide) (fun c38 => absurd c38 (by decide)) (fun _ => ?_)
  refine lv_aload_n hx hb dL_starts_275 rfl (lv_at hl 0 rfl) ?_
  refine vp_callSi (va_Run.run (va_runV (As := []) (rest := []) ⟨hx, hb, hml, hown, hts⟩ (mtX2_register l g zu5 m00 O00 ) (cwV 0 hts gL_starts_X2_register rfl rfl rfl (by decide +kernel) ⟨Nat.le_of_ble_eq_true rfl, Nat.le_of_ble_eq_true rfl⟩) ⟨PW.blind, rcB hC hW, fun U hU hW9 => ⟨rfl, PW.at hC hS hW U hU hW9⟩⟩ rfl rfl hl.1 rfl (lv_room (Nat.le_of_ble_eq_true rfl)) dL_starts_276 ⟨Nat.le_of_ble_eq_true rfl, Nat.le_of_ble_eq_true rfl⟩)) (fun r39 h40 => ?_)
  obtain rfl : r39 = 0 := h40.trans zuq27
  refine lv_if_ne (tgt := 291) hx hb dL_starts_279 (by decide) (fun c41 => absurd c41 (by decide)) (fun _ => ?_)
  refine lv_aload_n hx hb dL_starts_282 rfl (lv_at hl 0 rfl) ?_
  refine lv_iconst (v := 0) hx hb dL_starts_283 (by decide) ?_
  refine lv_iconst (v := 5) hx hb dL_starts_284 (by decide) ?_
  refine va_calli (va_runS (As := [.ref (gA g 0), .int 0, .int 5]) (rest := []) ⟨hx, hb, hml, hown, hts⟩ (mtL_refuses l g zu5 m00 O00 hfl 0 5 0 1 (ok_ref zuq28).1 (ok_ref zuq28).2.1 (ok_ref zuq28).2.2.1 (ok_ref zuq28).2.2.2.1 (ok_ref zuq28).2.2.2.2) (va_cwS 3 hts gL_starts_L_refuses rfl rfl rfl (by decide +kernel) ⟨Nat.le_of_ble_eq_true rfl, Nat.le_of_ble_eq_true rfl⟩) ⟨PW.blind, fun U hU hW9 => ⟨rfl, PW.at hC hS hW U hU hW9⟩⟩ rfl rfl hl.1 rfl (lv_room (Nat.le_of_ble_eq_true rfl)) dL_starts_285 ⟨Nat.le_of_ble_eq_true rfl, Nat.le_of_ble_eq_true rfl⟩) hS (fun _ _ h => h) (fun _ h => h) (fun r u t H locs ht hvm hq hW hz9 hk9 hS => ?_)
  obtain rfl : r = 1 := hq
  replace hW : Wd g zu5 m00 O00 H := by rw [← ht]; exact hW
  refine lv_if_ne (tgt := 293) hx hb dL_starts_288 (by decide) (fun _ => ?_) (fun c42 => absurd c42 (by decide))
  refine lv_aload_n hx hb dL_starts_293 rfl (lv_at hl 0 rfl) ?_
  refine lv_iconst (v := 4) hx hb dL_starts_294 (by decide) ?_
  refine lv_bipush (v := 9) hx hb dL_starts_295 (by decide) ?_
  refine cOKi (v := 2) (τ := zu6) (vx_runV (As := [.int 4, .int 9]) (rest := []) ⟨hx, hb, hml, hown, hts⟩ (mtX2_setPattern l hfl g zu5 m00 O00 4 9) (cwV 2 hts gL_starts_X2_setPattern rfl rfl rfl (by decide +kernel) ⟨Nat.le_of_ble_eq_true rfl, Nat.le_of_ble_eq_true rfl⟩) ⟨PW.blind, rcB hC hW, fun U hU hW9 => ⟨rfl, PW.at hC hS hW U hU hW9⟩⟩ rfl rfl hl.1 rfl (lv_room (Nat.le_of_ble_eq_true rfl)) dL_starts_297 ⟨Nat.le_of_ble_eq_true rfl, Nat.le_of_ble_eq_true rfl⟩) hS (fun _ _ _ q => no_2 (ok_setPattern (g := g) (μ := m00) (o := O00) zuq29).1 q) (ok_setPattern zuq29).2 (fun H locs hW hS => ?_)
  refine lv_iconst (v := 2) hx hb dL_starts_300 (by decide) ?_
  refine lv_icmp_ne (tgt := 569) hx hb dL_starts_301 (by decide) (fun c43 => absurd c43 (by decide)) (fun _ => ?_)
  refine lv_aload_n hx hb dL_starts_304 rfl (lv_at hl 0 rfl) ?_
  refine vp_callSi (va_Run.run (va_runV (As := []) (rest := []) ⟨hx, hb, hml, hown, hts⟩ (mtX2_next l g zu6 m00 O00 ) (cwV 0 hts gL_starts_X2_next rfl rfl rfl (by decide +kernel) ⟨Nat.le_of_ble_eq_true rfl, Nat.le_of_ble_eq_true rfl⟩) ⟨PW.blind, rcB hC hW, fun U hU hW9 => ⟨rfl, PW.at hC hS hW U hU hW9⟩⟩ rfl rfl hl.1 rfl (lv_room (Nat.le_of_ble_eq_true rfl)) dL_starts_305 ⟨Nat.le_of_ble_eq_true rfl, Nat.le_of_ble_eq_true rfl⟩)) (fun r44 h45 => ?_)
  obtain rfl : r44 = 0 := h45.trans zuq30
  refine lv_if_ne (tgt := 569) hx hb dL_starts_308 (by decide) (fun c46 => absurd c46 (by decide)) (fun _ => ?_)
  refine W.widen (k := 220) (n := 1370) (Nat.le_of_ble_eq_true rfl) (Nat.le_of_ble_eq_true rfl) ?_
  exact kk H locs ls hW hS (by exact lv_sub hl [0] rfl)
set_option maxHeartbeats 4000000 in
set_option maxRecDepth 100000 in
theorem zu_3 {p : Program} {l : Launch} {e : Env} {s : State} {m : MethodId} {below : List Frame} {meth : Method} {c : Code} {g : Ge} (C0 : zuC p l s m meth c g) (kk : zuG p l e s m below meth c g zu9 393 [(0, .ref (gA g 0))] 226 1406) : zuG p l e s m below meth c g zu6 311 [(0, .ref (gA g 0))] 220 1370 := by
  obtain ⟨⟨hx, hb, hr, hml, hts, hown, hlocks⟩, hC, hfl⟩ := C0
  intro H locs ls hW hS hl
  have hl : lv_has ls 1 [(0, .ref (gA g 0))] := hl
  refine lv_aload_n hx hb dL_starts_311 rfl (lv_at hl 0 rfl) ?_
  refine lv_iconst (v := 2) hx hb dL_starts_312 (by decide) ?_
  refine cOKi (v := (-1)) (τ := zu7) (vx_runV (As := [.int 2]) (rest := []) ⟨hx, hb, hml, hown, hts⟩ (mtX2_chooseOnce l hfl g zu6 m00 O00 2) (cwV 1 hts gL_starts_X2_chooseOnce rfl rfl rfl (by decide +kernel) ⟨Nat.le_of_ble_eq_true rfl, Nat.le_of_ble_eq_true rfl⟩) ⟨PW.blind, rcB hC hW, fun U hU hW9 => ⟨rfl, PW.at hC hS hW U hU hW9⟩⟩ rfl rfl hl.1 rfl (lv_room (Nat.le_of_ble_eq_true rfl)) dL_starts_313 ⟨Nat.le_of_ble_eq_true rfl, Nat.le_of_ble_eq_true rfl⟩) hS (fun _ _ _ q => no_1 (ok_chooseOnce (g := g) (μ := m00) (o := O00) zuq31).1 q) (ok_chooseOnce zuq31).2 (fun H locs hW hS => ?_)
  refine lv_iconst (v := (-1)) hx hb dL_starts_316 (by decide) ?_
  refine lv_icmp_ne (tgt := 569) hx hb dL_starts_317 (by decide) (fun c47 => absurd c47 (by decide)) (fun _ => ?_)
  refine lv_aload_n hx hb dL_starts_320 rfl (lv_at hl 0 rfl) ?_
  refine vp_callSi (va_Run.run (va_runV (As := []) (rest := []) ⟨hx, hb, hml, hown, hts⟩ (mtX2_next l g zu7 m00 O00 ) (cwV 0 hts gL_starts_X2_next rfl rfl rfl (by decide +kernel) ⟨Nat.le_of_ble_eq_true rfl, Nat.le_of_ble_eq_true rfl⟩) ⟨PW.blind, rcB hC hW, fun U hU hW9 => ⟨rfl, PW.at hC hS hW U hU hW9⟩⟩ rfl rfl hl.1 rfl (lv_room (Nat.le_of_ble_eq_true rfl)) dL_starts_321 ⟨Nat.le_of_ble_eq_true rfl, Nat.le_of_ble_eq_true rfl⟩)) (fun r48 h49 => ?_)
  obtain rfl : r48 = 2 := h49.trans zuq32
  refine lv_iconst (v := 2) hx hb dL_starts_324 (by decide) ?_
  refine lv_icmp_ne (tgt := 569) hx hb dL_starts_325 (by decide) (fun c50 => absurd c50 (by decide)) (fun _ => ?_)
  refine lv_aload_n hx hb dL_starts_328 rfl (lv_at hl 0 rfl) ?_
  refine cOKi (v := 2) (τ := zu8) (vx_runV (As := []) (rest := []) ⟨hx, hb, hml, hown, hts⟩ (mtX2_start l hfl g zu7 m00 O00) (cwV 0 hts gL_starts_X2_start rfl rfl rfl (by decide +kernel) ⟨Nat.le_of_ble_eq_true rfl, Nat.le_of_ble_eq_true rfl⟩) ⟨PW.blind, rcB hC hW, fun U hU hW9 => ⟨rfl, PW.at hC hS hW U hU hW9⟩⟩ rfl rfl hl.1 rfl (lv_room (Nat.le_of_ble_eq_true rfl)) dL_starts_329 ⟨Nat.le_of_ble_eq_true rfl, Nat.le_of_ble_eq_true rfl⟩) hS (fun _ _ _ q => no_1 (ok_start (g := g) (μ := m00) (o := O00) zuq33).1 q) (ok_start zuq33).2 (fun H locs hW hS => ?_)
  refine lv_iconst (v := 2) hx hb dL_starts_332 (by decide) ?_
  refine lv_icmp_ne (tgt := 569) hx hb dL_starts_333 (by decide) (fun c51 => absurd c51 (by decide)) (fun _ => ?_)
  refine lv_aload_n hx hb dL_starts_336 rfl (lv_at hl 0 rfl) ?_
  refine lv_iconst (v := 2) hx hb dL_starts_337 (by decide) ?_
  refine cOKi (v := 0) (τ := zu8) (vx_runV (As := [.int 2]) (rest := []) ⟨hx, hb, hml, hown, hts⟩ (mtX2_tries l hfl g zu8 m00 O00 2) (cwV 1 hts gL_starts_X2_tries rfl rfl rfl (by decide +kernel) ⟨Nat.le_of_ble_eq_true rfl, Nat.le_of_ble_eq_true rfl⟩) ⟨PW.blind, rcB hC hW, fun U hU hW9 => ⟨rfl, PW.at hC hS hW U hU hW9⟩⟩ rfl rfl hl.1 rfl (lv_room (Nat.le_of_ble_eq_true rfl)) dL_starts_338 ⟨Nat.le_of_ble_eq_true rfl, Nat.le_of_ble_eq_true rfl⟩) hS (fun _ _ _ q => no_1 (ok_tries (g := g) (μ := m00) (o := O00) zuq34).1 q) (ok_tries zuq34).2 (fun H locs hW hS => ?_)
  refine lv_if_ne (tgt := 569) hx hb dL_starts_341 (by decide) (fun c52 => absurd c52 (by decide)) (fun _ => ?_)
  refine lv_aload_n hx hb dL_starts_344 rfl (lv_at hl 0 rfl) ?_
  refine vp_callSi (va_Run.run (va_runV (As := []) (rest := []) ⟨hx, hb, hml, hown, hts⟩ (mtX2_running l g zu8 m00 O00 ) (cwV 0 hts gL_starts_X2_running rfl rfl rfl (by decide +kernel) ⟨Nat.le_of_ble_eq_true rfl, Nat.le_of_ble_eq_true rfl⟩) ⟨PW.blind, rcB hC hW, fun U hU hW9 => ⟨rfl, PW.at hC hS hW U hU hW9⟩⟩ rfl rfl hl.1 rfl (lv_room (Nat.le_of_ble_eq_true rfl)) dL_starts_345 ⟨Nat.le_of_ble_eq_true rfl, Nat.le_of_ble_eq_true rfl⟩)) (fun r53 h54 => ?_)
  obtain rfl : r53 = 2 := h54.trans zuq35
  refine lv_iconst (v := 2) hx hb dL_starts_348 (by decide) ?_
  refine lv_icmp_ne (tgt := 569) hx hb dL_starts_349 (by decide) (fun c55 => absurd c55 (by decide)) (fun _ => ?_)
  refine lv_aload_n hx hb dL_starts_352 rfl (lv_at hl 0 rfl) ?_
  refine vp_callSi (va_Run.run (va_runV (As := []) (rest := []) ⟨hx, hb, hml, hown, hts⟩ (mtX2_next l g zu8 m00 O00 ) (cwV 0 hts gL_starts_X2_next rfl rfl rfl (by decide +kernel) ⟨Nat.le_of_ble_eq_true rfl, Nat.le_of_ble_eq_true rfl⟩) ⟨PW.blind, rcB hC hW, fun U hU hW9 => ⟨rfl, PW.at hC hS hW U hU hW9⟩⟩ rfl rfl hl.1 rfl (lv_room (Nat.le_of_ble_eq_true rfl)) dL_starts_353 ⟨Nat.le_of_ble_eq_true rfl, Nat.le_of_ble_eq_true rfl⟩)) (fun r56 h57 => ?_)
  obtain rfl : r56 = 0 := h57.trans zuq36
  refine lv_if_ne (tgt := 569) hx hb dL_starts_356 (by decide) (fun c58 => absurd c58 (by decide)) (fun _ => ?_)
  refine lv_aload_n hx hb dL_starts_359 rfl (lv_at hl 0 rfl) ?_
  refine lv_iconst (v := (-1)) hx hb dL_starts_360 (by decide) ?_
  refine cOKi (v := (-1)) (τ := zu8) (vx_runV (As := [.int (-1)]) (rest := []) ⟨hx, hb, hml, hown, hts⟩ (mtX2_chooseOnce l hfl g zu8 m00 O00 (-1)) (cwV 1 hts gL_starts_X2_chooseOnce rfl rfl rfl (by decide +kernel) ⟨Nat.le_of_ble_eq_true rfl, Nat.le_of_ble_eq_true rfl⟩) ⟨PW.blind, rcB hC hW, fun U hU hW9 => ⟨rfl, PW.at hC hS hW U hU hW9⟩⟩ rfl rfl hl.1 rfl (lv_room (Nat.le_of_ble_eq_true rfl)) dL_starts_361 ⟨Nat.le_of_ble_eq_true rfl, Nat.le_of_ble_eq_true rfl⟩) hS (fun _ _ _ q => no_1 (ok_chooseOnce (g := g) (μ := m00) (o := O00) zuq37).1 q) (ok_chooseOnce zuq37).2 (fun H locs hW hS => ?_)
  refine lv_iconst (v := (-1)) hx hb dL_starts_364 (by decide) ?_
  refine lv_icmp_ne (tgt := 569) hx hb dL_starts_365 (by decide) (fun c59 => absurd c59 (by decide)) (fun _ => ?_)
  refine lv_aload_n hx hb dL_starts_368 rfl (lv_at hl 0 rfl) ?_
  refine cOKi (v := 0) (τ := zu9) (vx_runV (As := []) (rest := []) ⟨hx, hb, hml, hown, hts⟩ (mtX2_start l hfl g zu8 m00 O00) (cwV 0 hts gL_starts_X2_start rfl rfl rfl (by decide +kernel) ⟨Nat.le_of_ble_eq_true rfl, Nat.le_of_ble_eq_true rfl⟩) ⟨PW.blind, rcB hC hW, fun U hU hW9 => ⟨rfl, PW.at hC hS hW U hU hW9⟩⟩ rfl rfl hl.1 rfl (lv_room (Nat.le_of_ble_eq_true rfl)) dL_starts_369 ⟨Nat.le_of_ble_eq_true rfl, Nat.le_of_ble_eq_true rfl⟩) hS (fun _ _ _ q => no_1 (ok_start (g := g) (μ := m00) (o := O00) zuq38).1 q) (ok_start zuq38).2 (fun H locs hW hS => ?_)
  refine lv_if_ne (tgt := 569) hx hb dL_starts_372 (by decide) (fun c60 => absurd c60 (by decide)) (fun _ => ?_)
  refine lv_aload_n hx hb dL_starts_375 rfl (lv_at hl 0 rfl) ?_
  refine vp_callSi (va_Run.run (va_runV (As := []) (rest := []) ⟨hx, hb, hml, hown, hts⟩ (mtX2_register l g zu9 m00 O00 ) (cwV 0 hts gL_starts_X2_register rfl rfl rfl (by decide +kernel) ⟨Nat.le_of_ble_eq_true rfl, Nat.le_of_ble_eq_true rfl⟩) ⟨PW.blind, rcB hC hW, fun U hU hW9 => ⟨rfl, PW.at hC hS hW U hU hW9⟩⟩ rfl rfl hl.1 rfl (lv_room (Nat.le_of_ble_eq_true rfl)) dL_starts_376 ⟨Nat.le_of_ble_eq_true rfl, Nat.le_of_ble_eq_true rfl⟩)) (fun r61 h62 => ?_)
  obtain rfl : r61 = 878307 := h62.trans zuq39
  refine lv_ldc (v := 878307) hx hb hown (hts (.constant RL 104 (878307)) (by decide +kernel)) dL_starts_379 ?_
  refine lv_icmp_ne (tgt := 569) hx hb dL_starts_381 (by decide) (fun c63 => absurd c63 (by decide)) (fun _ => ?_)
  refine lv_aload_n hx hb dL_starts_384 rfl (lv_at hl 0 rfl) ?_
  refine lv_iconst (v := 0) hx hb dL_starts_385 (by decide) ?_
  refine cOKi (v := (-1)) (τ := zu9) (vx_runV (As := [.int 0]) (rest := []) ⟨hx, hb, hml, hown, hts⟩ (mtX2_tries l hfl g zu9 m00 O00 0) (cwV 1 hts gL_starts_X2_tries rfl rfl rfl (by decide +kernel) ⟨Nat.le_of_ble_eq_true rfl, Nat.le_of_ble_eq_true rfl⟩) ⟨PW.blind, rcB hC hW, fun U hU hW9 => ⟨rfl, PW.at hC hS hW U hU hW9⟩⟩ rfl rfl hl.1 rfl (lv_room (Nat.le_of_ble_eq_true rfl)) dL_starts_386 ⟨Nat.le_of_ble_eq_true rfl, Nat.le_of_ble_eq_true rfl⟩) hS (fun _ _ _ q => no_1 (ok_tries (g := g) (μ := m00) (o := O00) zuq40).1 q) (ok_tries zuq40).2 (fun H locs hW hS => ?_)
  refine lv_iconst (v := (-1)) hx hb dL_starts_389 (by decide) ?_
  refine lv_icmp_ne (tgt := 569) hx hb dL_starts_390 (by decide) (fun c64 => absurd c64 (by decide)) (fun _ => ?_)
  refine W.widen (k := 226) (n := 1406) (Nat.le_of_ble_eq_true rfl) (Nat.le_of_ble_eq_true rfl) ?_
  exact kk H locs ls hW hS (by exact lv_sub hl [0] rfl)
