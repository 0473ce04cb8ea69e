abbrev w4 (h0 q1 q2 q3 : Nat) (cA cD : ClassId) (f : Nat → Option Nat) (fs : List Value) : va_W := [(h0, .inr (2, fs)), (q1, .inl (cA, 16, .inr (.inr (.inr (.inr f))))), (q2, .inr (0, [.ref q3, .int 0, .int 0, .int 1, .int 0])), (q3, .inl (cD, 12, .inl (fun _ => 0)))]
def wE (ad : Nat → Nat) (i : Nat) : va_W := (List.range i).map (fun j => (ad j, .inr (1, fE e0)))
def adO (ad : Nat → Nat) (i : Nat) : Nat → Option Nat := fun j => if j < i then some (ad j) else none
def adS (ad : Nat → Nat) (i q : Nat) : Nat → Nat := fun j => if j = i then q else ad j
theorem wE_S {ad : Nat → Nat} {i q : Nat} : wE (adS ad i q) (i + 1) = wE ad i ++ [(q, .inr (1, fE e0))] := by
  unfold wE
  rw [List.range_succ, List.map_append]
  have h1 : (List.range i).map (fun j => ((adS ad i q j, .inr (1, fE e0)) : Nat × va_E)) = (List.range i).map (fun j => (ad j, .inr (1, fE e0))) := by
    apply List.map_congr_left
    intro j hj
    have hne : j ≠ i := by have := List.mem_range.mp hj; omega
    simp only [adS, hne, if_false]
  have h2 : [i].map (fun j => ((adS ad i q j, .inr (1, fE e0)) : Nat × va_E)) = [(q, .inr (1, fE e0))] := by simp only [List.map, adS, if_true]
  rw [h1, h2]
theorem adO_S {ad : Nat → Nat} {i q : Nat} : va_up (adO ad i) i (some q) = adO (adS ad i q) (i + 1) := by
  funext j
  unfold va_up adO adS
  by_cases h : j = i
  · subst h; rw [if_pos rfl, if_pos (by omega), if_pos rfl]
  · rw [if_neg h, if_neg h]
    by_cases h2 : j < i
    · rw [if_pos h2, if_pos (by omega)]
    · rw [if_neg h2, if_neg (by omega)]
theorem adO_0 {ad : Nat → Nat} : adO ad 0 = fun _ => none := by funext j; simp [adO]
theorem wE_len {ad : Nat → Nat} {i : Nat} : (wE ad i).length = i := by simp [wE]
theorem w4_at {h0 q1 q2 q3 : Nat} {cA cD : ClassId} {f : Nat → Option Nat} {fs : List Value} {ad : Nat → Nat} {i : Nat} {x : Nat × va_E} : ((w4 h0 q1 q2 q3 cA cD f fs ++ wE ad i) ++ x :: [])[4 + i]? = some x := by
  have h : (w4 h0 q1 q2 q3 cA cD f fs ++ wE ad i).length = 4 + i := by rw [List.length_append, wE_len]; rfl
  rw [← h]; exact cg
def fsB (q1 q2 : Nat) : List Value := [.ref q1, .ref q2, .int 0, .int (-1), .int (-1), .int 0, .int 99, .int (-1), .int 0]
theorem w4_S {h0 q1 q2 q3 : Nat} {cA cD : ClassId} {fs : List Value} {ad : Nat → Nat} {i q : Nat} : ((w4 h0 q1 q2 q3 cA cD (adO ad i) fs ++ wE ad i) ++ ((q, .inr (1, fE e0)) : Nat × va_E) :: []).set 1 (q1, .inl (cA, 16, .inr (.inr (.inr (.inr (va_up (adO ad i) i (some q))))))) = w4 h0 q1 q2 q3 cA cD (adO (adS ad i q) (i + 1)) fs ++ wE (adS ad i q) (i + 1) := by
  rw [adO_S, wE_S]
  simp [w4]
def bornB (D : va_G) (z h0 : Nat) (t : State) : Prop := ∃ (q1 q2 q3 : Nat) (ad : Nat → Nat) (cA cD : ClassId), va_K D vwCl [(cA, .object "BootChooser$Entry"), (cD, .int)] t ∧ va_P D vwCl (w4 h0 q1 q2 q3 cA cD (adO ad 16) (fsB q1 q2) ++ wE ad 16) t.heap ∧ va_D (Zf z) (w4 h0 q1 q2 q3 cA cD (adO ad 16) (fsB q1 q2) ++ wE ad 16)
set_option maxHeartbeats 400000 in
set_option maxRecDepth 100000 in
theorem mtX2_init (l : Launch) (D : va_G) (z h0 : Nat)  : Met l yX2_init wsX2_init ({ frames := 2, cells := 19, slots := 161, locals := 32 } : Room) (va_Pc [.ref h0] (fun U => va_K D vwCl [] U ∧ va_P D vwCl ([] ++ (h0, .inr (2, [.null, .null, .int 0, .int 0, .int 0, .int 0, .int 0, .int 0, .int 0])) :: []) U.heap ∧ va_D (Zf z) ([] ++ (h0, .inr (2, [.null, .null, .int 0, .int 0, .int 0, .int 0, .int 0, .int 0, .int 0])) :: []) ∧ z ≤ U.heap.size ∧ (va_AO "BootChooser$Entry" U ∧ va_Nw (.methodLinkNest RX2 17 yX0_init "BootChooser") U ∧ va_Nw (.methodLinkNest RX2 44 yX1_init "BootChooser") U))) (va_Qv (S := Unit) (fun _ => True) (fun _ t => bornB D z h0 t) (Zf z)) 19 161 (Zf z) := by
  refine Met.ofW (cc := cX2_init) (maxL := 2) (ret := none) (by decide) rfl ?_
  intro p e s m args below meth c s₁ B hml hv
  obtain ⟨rfl, hK, hP, hD, hz, hpre⟩ := hv
  have hx := B.exec
  have hb := B.bytes
  have hr := B.returns
  have hts := atoms_spec (ws := wsX2_init) B.pre
  have hown : s.vm.findClass RX2 = some m.cls := findClass_of_methodNamed B.named
  have hin : meth.name = "<init>" := (name_of_methodNamed B.named B.method).1
  have hA : ∀ q : Nat, s.heap.size ≤ q → Zf z q := fun q h => Nat.le_trans hz h
  have hS : va_S (Zf z) s.heap s.heap [] := va_S.rf
  have hinX2 : ∀ w ∈ wsX20, w ∈ wsX2_init := by decide +kernel
  have hl := lv_entry ([.ref h0]) (n := 2) (Nat.le_of_ble_eq_true rfl)
  rw [lg_entry_eq]
  generalize (lg_sl ([.ref h0]) ++ List.replicate (2 - (lg_sl ([.ref h0])).length) Slot.unset).toArray = ls at hl ⊢
  have hl : lv_has ls 2 [(0, .ref h0)] := hl
  obtain ⟨hAO, hN0, hN1⟩ := hpre
  have hinX0 : ∀ w ∈ wsX00, w ∈ wsX2_init := by decide +kernel
  have hinX1 : ∀ w ∈ wsX10, w ∈ wsX2_init := by decide +kernel
  refine lv_aload_n hx hb dX2_init_0 rfl (lv_at hl 0 rfl) ?_
  refine W.objInit hx hb hown (hts (.methodLink RX2 1 objectInit) (by decide +kernel)) (hts (.instanceMethod objectInit) (by decide +kernel)) (hts (.code objectInit ⟨#[0xb1]⟩ 1 none) (by decide +kernel)) rfl (by rw [hml]; exact hl.1) rfl dX2_init_1 (Nat.le_of_ble_eq_true rfl) (Nat.le_of_ble_eq_true rfl) ?_
  refine W.eq (g2 := F0 m 4 ls []) rfl ?_
  refine lv_aload_n hx hb dX2_init_4 rfl (lv_at hl 0 rfl) ?_
  refine lv_bipush (v := 16) hx hb dX2_init_5 (by decide) ?_
  refine va_newq (C := "BootChooser$Entry") (N' := 16) hx hb hown (hts (.classLink RX2 9 RX1) (by decide +kernel)) hAO hK hP hD hS hA (by decide) rfl (Nat.le_of_ble_eq_true rfl) (Nat.le_of_ble_eq_true rfl) (Nat.le_of_ble_eq_true rfl) dX2_init_7 (fun q1 cA H hK hP hD hS => ?_)
  have hP : va_P D vwCl (([] : va_W) ++ (h0, .inr (2, [.null, .null, .int 0, .int 0, .int 0, .int 0, .int 0, .int 0, .int 0])) :: [(q1, .inl (cA, 16, .inr (.inr (.inr (.inr (fun _ => none))))))]) H := hP
  have hD : va_D (Zf z) (([] : va_W) ++ (h0, .inr (2, [.null, .null, .int 0, .int 0, .int 0, .int 0, .int 0, .int 0, .int 0])) :: [(q1, .inl (cA, 16, .inr (.inr (.inr (.inr (fun _ => none))))))]) := hD
  refine va_putF (D := D) (ci := 2) (v := .ref q1) (ty := .array (.object "BootChooser$Entry")) (C := RX2) (T := TX2) (N := 9) hx hb hts hinX2 tyX2 tyX2_ok nmX2 hown hK hP hD hS (List.length ([] : va_W)) cg rfl 0 (by decide) (hts (.fieldLink RX2 11 "BootChooser" "rows" "[LBootChooser$Entry;") (by decide +kernel)) (fun _ h9 => h9) rfl hin rfl (by decide +kernel) rfl rfl (Nat.le_of_ble_eq_true rfl) dX2_init_10 (fun H locs hP hD hS => ?_)
  rw [cst] at hP hD
  have hP : va_P D vwCl (([] : va_W) ++ (h0, .inr (2, [.ref q1, .null, .int 0, .int 0, .int 0, .int 0, .int 0, .int 0, .int 0])) :: [(q1, .inl (cA, 16, .inr (.inr (.inr (.inr (fun _ => none))))))]) H := hP
  have hD : va_D (Zf z) (([] : va_W) ++ (h0, .inr (2, [.ref q1, .null, .int 0, .int 0, .int 0, .int 0, .int 0, .int 0, .int 0])) :: [(q1, .inl (cA, 16, .inr (.inr (.inr (.inr (fun _ => none))))))]) := hD
  refine lv_aload_n hx hb dX2_init_13 rfl (lv_at hl 0 rfl) ?_
  refine va_new (ci := 0) (fs := [.null, .int 0, .int 0, .int 0, .int 0]) (C := RX0) (T := TX0) (N := 5) hx hb hts hinX0 tyX0 tyX0_ok hown (hts (.classLink RX2 15 RX0) (by decide +kernel)) (hts (.instantiable RX0 5) (by decide +kernel)) (hts (.initialized RX0) (by decide +kernel)) hK hP hD hS hA rfl (fun j hj => by rcases (show j = 0 ∨ j = 1 ∨ j = 2 ∨ j = 3 ∨ j = 4 by omega) with rfl | rfl | rfl | rfl | rfl <;> rfl) (Nat.le_of_ble_eq_true rfl) (Nat.le_of_ble_eq_true rfl) dX2_init_14 (fun q2 H hP hD hS => ?_)
  refine lv_dup hx hb dX2_init_17 rfl ?_
  refine va_callv (va_runIN (As := []) (rest := [.ref q2, .ref h0]) ⟨hx, hb, hml, hown, hts⟩ (mtX0_init l D z q2 _ _) ⟨va_cnB (host := "BootChooser") 0 hts gX2_init_X0_init_n17 rfl rfl rfl hN0 (hts (.initialized RX0) (by decide +kernel)) (by decide +kernel) ⟨Nat.le_of_ble_eq_true rfl, Nat.le_of_ble_eq_true rfl⟩, rfl, hts (.instanceMethod yX0_init) (by decide +kernel)⟩ ⟨ctor_blind, fun U hU hW9 => ⟨rfl, va_K.moved hW9.alike hK, by rw [hU]; exact hP, hD, by rw [hU]; exact Nat.le_trans hz hS.1⟩⟩ rfl rfl hl.1 rfl (lv_room (Nat.le_of_ble_eq_true rfl)) dX2_init_18 ⟨Nat.le_of_ble_eq_true rfl, Nat.le_of_ble_eq_true rfl⟩) hS (fun _ _ h => h) (fun _ h => h) (fun u t H locs ht hvm _ hB hz1 hk1 hS => ?_)
  obtain ⟨q3, cD, hK1, hP, hD⟩ := hB
  rw [ht] at hP
  have hK := va_K.moved hvm.symm hK1
  have hP : va_P D vwCl (([] : va_W) ++ (h0, .inr (2, [.ref q1, .null, .int 0, .int 0, .int 0, .int 0, .int 0, .int 0, .int 0])) :: [(q1, .inl (cA, 16, .inr (.inr (.inr (.inr (fun _ => none)))))), (q2, .inr (0, [.ref q3, .int 0, .int 0, .int 1, .int 0])), (q3, .inl (cD, 12, .inl (fun _ => 0)))]) H := hP
  have hD : va_D (Zf z) (([] : va_W) ++ (h0, .inr (2, [.ref q1, .null, .int 0, .int 0, .int 0, .int 0, .int 0, .int 0, .int 0])) :: [(q1, .inl (cA, 16, .inr (.inr (.inr (.inr (fun _ => none)))))), (q2, .inr (0, [.ref q3, .int 0, .int 0, .int 1, .int 0])), (q3, .inl (cD, 12, .inl (fun _ => 0)))]) := hD
  refine va_putF (D := D) (ci := 2) (v := .ref q2) (ty := .object "BootChooser$CodeLock") (C := RX2) (T := TX2) (N := 9) hx hb hts hinX2 tyX2 tyX2_ok nmX2 hown hK hP hD hS (List.length ([] : va_W)) cg rfl 1 (by decide) (hts (.fieldLink RX2 18 "BootChooser" "codeLock" "LBootChooser$CodeLock;") (by decide +kernel)) (fun _ h9 => h9) rfl hin rfl (by decide +kernel) rfl rfl (Nat.le_of_ble_eq_true rfl) dX2_init_21 (fun H locs hP hD hS => ?_)
  rw [cst] at hP hD
  have hP : va_P D vwCl (([] : va_W) ++ (h0, .inr (2, [.ref q1, .ref q2, .int 0, .int 0, .int 0, .int 0, .int 0, .int 0, .int 0])) :: [(q1, .inl (cA, 16, .inr (.inr (.inr (.inr (fun _ => none)))))), (q2, .inr (0, [.ref q3, .int 0, .int 0, .int 1, .int 0])), (q3, .inl (cD, 12, .inl (fun _ => 0)))]) H := hP
  have hD : va_D (Zf z) (([] : va_W) ++ (h0, .inr (2, [.ref q1, .ref q2, .int 0, .int 0, .int 0, .int 0, .int 0, .int 0, .int 0])) :: [(q1, .inl (cA, 16, .inr (.inr (.inr (.inr (fun _ => none)))))), (q2, .inr (0, [.ref q3, .int 0, .int 0, .int 1, .int 0])), (q3, .inl (cD, 12, .inl (fun _ => 0)))]) := hD
  refine lv_aload_n hx hb dX2_init_24 rfl (lv_at hl 0 rfl) ?_
  refine lv_iconst (v := 0) hx hb dX2_init_25 (by decide) ?_
  refine va_put (D := D) (ci := 2) (v := .int 0) (ty := .int) (C := RX2) (T := TX2) (N := 9) hx hb hts hinX2 tyX2 tyX2_ok nmX2 hown hK hP hD hS (List.length ([] : va_W)) cg rfl 2 (by decide) (hts (.fieldLink RX2 22 "BootChooser" "entriesEver" "I") (by decide +kernel)) (fun _ h9 => h9) rfl (by decide +kernel) rfl rfl (Nat.le_of_ble_eq_true rfl) dX2_init_26 (fun H locs hP hD hS => ?_)
  rw [cst] at hP hD
  have hP : va_P D vwCl (([] : va_W) ++ (h0, .inr (2, [.ref q1, .ref q2, .int 0, .int 0, .int 0, .int 0, .int 0, .int 0, .int 0])) :: [(q1, .inl (cA, 16, .inr (.inr (.inr (.inr (fun _ => none)))))), (q2, .inr (0, [.ref q3, .int 0, .int 0, .int 1, .int 0])), (q3, .inl (cD, 12, .inl (fun _ => 0)))]) H := hP
  have hD : va_D (Zf z) (([] : va_W) ++ (h0, .inr (2, [.ref q1, .ref q2, .int 0, .int 0, .int 0, .int 0, .int 0, .int 0, .int 0])) :: [(q1, .inl (cA, 16, .inr (.inr (.inr (.inr (fun _ => none)))))), (q2, .inr (0, [.ref q3, .int 0, .int 0, .int 1, .int 0])), (q3, .inl (cD, 12, .inl (fun _ => 0)))]) := hD
  refine lv_aload_n hx hb dX2_init_29 rfl (lv_at hl 0 rfl) ?_
  refine lv_iconst (v := (-1)) hx hb dX2_init_30 (by decide) ?_
  refine va_put (D := D) (ci := 2) (v := .int (-1)) (ty := .int) (C := RX2) (T := TX2) (N := 9) hx hb hts hinX2 tyX2 tyX2_ok nmX2 hown hK hP hD hS (List.length ([] : va_W)) cg rfl 3 (by decide) (hts (.fieldLink RX2 26 "BootChooser" "stayingChoice" "I") (by decide +kernel)) (fun _ h9 => h9) rfl (by decide +kernel) rfl rfl (Nat.le_of_ble_eq_true rfl) dX2_init_31 (fun H locs hP hD hS => ?_)
  rw [cst] at hP hD
  have hP : va_P D vwCl (([] : va_W) ++ (h0, .inr (2, [.ref q1, .ref q2, .int 0, .int (-1), .int 0, .int 0, .int 0, .int 0, .int 0])) :: [(q1, .inl (cA, 16, .inr (.inr (.inr (.inr (fun _ => none)))))), (q2, .inr (0, [.ref q3, .int 0, .int 0, .int 1, .int 0])), (q3, .inl (cD, 12, .inl (fun _ => 0)))]) H := hP
  have hD : va_D (Zf z) (([] : va_W) ++ (h0, .inr (2, [.ref q1, .ref q2, .int 0, .int (-1), .int 0, .int 0, .int 0, .int 0, .int 0])) :: [(q1, .inl (cA, 16, .inr (.inr (.inr (.inr (fun _ => none)))))), (q2, .inr (0, [.ref q3, .int 0, .int 0, .int 1, .int 0])), (q3, .inl (cD, 12, .inl (fun _ => 0)))]) := hD
  refine lv_aload_n hx hb dX2_init_34 rfl (lv_at hl 0 rfl) ?_
  refine lv_iconst (v := (-1)) hx hb dX2_init_35 (by decide) ?_
  refine va_put (D := D) (ci := 2) (v := .int (-1)) (ty := .int) (C := RX2) (T := TX2) (N := 9) hx hb hts hinX2 tyX2 tyX2_ok nmX2 hown hK hP hD hS (List.length ([] : va_W)) cg rfl 4 (by decide) (hts (.fieldLink RX2 29 "BootChooser" "onceChoice" "I") (by decide +kernel)) (fun _ h9 => h9) rfl (by decide +kernel) rfl rfl (Nat.le_of_ble_eq_true rfl) dX2_init_36 (fun H locs hP hD hS => ?_)
  rw [cst] at hP hD
  have hP : va_P D vwCl (([] : va_W) ++ (h0, .inr (2, [.ref q1, .ref q2, .int 0, .int (-1), .int (-1), .int 0, .int 0, .int 0, .int 0])) :: [(q1, .inl (cA, 16, .inr (.inr (.inr (.inr (fun _ => none)))))), (q2, .inr (0, [.ref q3, .int 0, .int 0, .int 1, .int 0])), (q3, .inl (cD, 12, .inl (fun _ => 0)))]) H := hP
  have hD : va_D (Zf z) (([] : va_W) ++ (h0, .inr (2, [.ref q1, .ref q2, .int 0, .int (-1), .int (-1), .int 0, .int 0, .int 0, .int 0])) :: [(q1, .inl (cA, 16, .inr (.inr (.inr (.inr (fun _ => none)))))), (q2, .inr (0, [.ref q3, .int 0, .int 0, .int 1, .int 0])), (q3, .inl (cD, 12, .inl (fun _ => 0)))]) := hD
  refine lv_aload_n hx hb dX2_init_39 rfl (lv_at hl 0 rfl) ?_
  refine lv_iconst (v := 0) hx hb dX2_init_40 (by decide) ?_
  refine va_put (D := D) (ci := 2) (v := .int 0) (ty := .int) (C := RX2) (T := TX2) (N := 9) hx hb hts hinX2 tyX2 tyX2_ok nmX2 hown hK hP hD hS (List.length ([] : va_W)) cg rfl 5 (by decide) (hts (.fieldLink RX2 32 "BootChooser" "patternFrom" "I") (by decide +kernel)) (fun _ h9 => h9) rfl (by decide +kernel) rfl rfl (Nat.le_of_ble_eq_true rfl) dX2_init_41 (fun H locs hP hD hS => ?_)
  rw [cst] at hP hD
  have hP : va_P D vwCl (([] : va_W) ++ (h0, .inr (2, [.ref q1, .ref q2, .int 0, .int (-1), .int (-1), .int 0, .int 0, .int 0, .int 0])) :: [(q1, .inl (cA, 16, .inr (.inr (.inr (.inr (fun _ => none)))))), (q2, .inr (0, [.ref q3, .int 0, .int 0, .int 1, .int 0])), (q3, .inl (cD, 12, .inl (fun _ => 0)))]) H := hP
  have hD : va_D (Zf z) (([] : va_W) ++ (h0, .inr (2, [.ref q1, .ref q2, .int 0, .int (-1), .int (-1), .int 0, .int 0, .int 0, .int 0])) :: [(q1, .inl (cA, 16, .inr (.inr (.inr (.inr (fun _ => none)))))), (q2, .inr (0, [.ref q3, .int 0, .int 0, .int 1, .int 0])), (q3, .inl (cD, 12, .inl (fun _ => 0)))]) := hD
  refine lv_aload_n hx hb dX2_init_44 rfl (lv_at hl 0 rfl) ?_
  refine lv_bipush (v := 99) hx hb dX2_init_45 (by decide) ?_
  refine va_put (D := D) (ci := 2) (v := .int 99) (ty := .int) (C := RX2) (T := TX2) (N := 9) hx hb hts hinX2 tyX2 tyX2_ok nmX2 hown hK hP hD hS (List.length ([] : va_W)) cg rfl 6 (by decide) (hts (.fieldLink RX2 35 "BootChooser" "patternTo" "I") (by decide +kernel)) (fun _ h9 => h9) rfl (by decide +kernel) rfl rfl (Nat.le_of_ble_eq_true rfl) dX2_init_47 (fun H locs hP hD hS => ?_)
  rw [cst] at hP hD
  have hP : va_P D vwCl (([] : va_W) ++ (h0, .inr (2, [.ref q1, .ref q2, .int 0, .int (-1), .int (-1), .int 0, .int 99, .int 0, .int 0])) :: [(q1, .inl (cA, 16, .inr (.inr (.inr (.inr (fun _ => none)))))), (q2, .inr (0, [.ref q3, .int 0, .int 0, .int 1, .int 0])), (q3, .inl (cD, 12, .inl (fun _ => 0)))]) H := hP
  have hD : va_D (Zf z) (([] : va_W) ++ (h0, .inr (2, [.ref q1, .ref q2, .int 0, .int (-1), .int (-1), .int 0, .int 99, .int 0, .int 0])) :: [(q1, .inl (cA, 16, .inr (.inr (.inr (.inr (fun _ => none)))))), (q2, .inr (0, [.ref q3, .int 0, .int 0, .int 1, .int 0])), (q3, .inl (cD, 12, .inl (fun _ => 0)))]) := hD
  refine lv_aload_n hx hb dX2_init_50 rfl (lv_at hl 0 rfl) ?_
  refine lv_iconst (v := (-1)) hx hb dX2_init_51 (by decide) ?_
  refine va_put (D := D) (ci := 2) (v := .int (-1)) (ty := .int) (C := RX2) (T := TX2) (N := 9) hx hb hts hinX2 tyX2 tyX2_ok nmX2 hown hK hP hD hS (List.length ([] : va_W)) cg rfl 7 (by decide) (hts (.fieldLink RX2 38 "BootChooser" "runningEntry" "I") (by decide +kernel)) (fun _ h9 => h9) rfl (by decide +kernel) rfl rfl (Nat.le_of_ble_eq_true rfl) dX2_init_52 (fun H locs hP hD hS => ?_)
  rw [cst] at hP hD
  have hP : va_P D vwCl (([] : va_W) ++ (h0, .inr (2, [.ref q1, .ref q2, .int 0, .int (-1), .int (-1), .int 0, .int 99, .int (-1), .int 0])) :: [(q1, .inl (cA, 16, .inr (.inr (.inr (.inr (fun _ => none)))))), (q2, .inr (0, [.ref q3, .int 0, .int 0, .int 1, .int 0])), (q3, .inl (cD, 12, .inl (fun _ => 0)))]) H := hP
  have hD : va_D (Zf z) (([] : va_W) ++ (h0, .inr (2, [.ref q1, .ref q2, .int 0, .int (-1), .int (-1), .int 0, .int 99, .int (-1), .int 0])) :: [(q1, .inl (cA, 16, .inr (.inr (.inr (.inr (fun _ => none)))))), (q2, .inr (0, [.ref q3, .int 0, .int 0, .int 1, .int 0])), (q3, .inl (cD, 12, .inl (fun _ => 0)))]) := hD
  refine lv_aload_n hx hb dX2_init_55 rfl (lv_at hl 0 rfl) ?_
  refine lv_iconst (v := 0) hx hb dX2_init_56 (by decide) ?_
  refine va_put (D := D) (ci := 2) (v := .int 0) (ty := .int) (C := RX2) (T := TX2) (N := 9) hx hb hts hinX2 tyX2 tyX2_ok nmX2 hown hK hP hD hS (List.length ([] : va_W)) cg rfl 8 (by decide) (hts (.fieldLink RX2 41 "BootChooser" "measured" "I") (by decide +kernel)) (fun _ h9 => h9) rfl (by decide +kernel) rfl rfl (Nat.le_of_ble_eq_true rfl) dX2_init_57 (fun H locs hP hD hS => ?_)
  rw [cst] at hP hD
  have hP : va_P D vwCl (([] : va_W) ++ (h0, .inr (2, [.ref q1, .ref q2, .int 0, .int (-1), .int (-1), .int 0, .int 99, .int (-1), .int 0])) :: [(q1, .inl (cA, 16, .inr (.inr (.inr (.inr (fun _ => none)))))), (q2, .inr (0, [.ref q3, .int 0, .int 0, .int 1, .int 0])), (q3, .inl (cD, 12, .inl (fun _ => 0)))]) H := hP
  have hD : va_D (Zf z) (([] : va_W) ++ (h0, .inr (2, [.ref q1, .ref q2, .int 0, .int (-1), .int (-1), .int 0, .int 99, .int (-1), .int 0])) :: [(q1, .inl (cA, 16, .inr (.inr (.inr (.inr (fun _ => none)))))), (q2, .inr (0, [.ref q3, .int 0, .int 0, .int 1, .int 0])), (q3, .inl (cD, 12, .inl (fun _ => 0)))]) := hD
  refine lv_iconst (v := 0) hx hb dX2_init_60 (by decide) ?_
  refine lv_istore_n (lv' := [(1, .int 0), (0, .ref h0)]) hx hb dX2_init_61 rfl hl (by decide) rfl (fun ls hl => ?_)
  have hloop : ∀ (n9 i : Nat) (ad : Nat → Nat) (H : Heap) (locs : List Loc), i ≤ 16 → 16 < i + n9 → va_P D vwCl (w4 h0 q1 q2 q3 cA cD (adO ad i) (fsB q1 q2) ++ wE ad i) H → va_D (Zf z) (w4 h0 q1 q2 q3 cA cD (adO ad i) (fsB q1 q2) ++ wE ad i) → va_S (Zf z) s.heap H locs → ∀ ls : Array Slot, lv_has ls 2 [(1, .int (nI i)), (0, .ref h0)] → W p l e (headSpec wsX2_init ({ frames := 2, cells := 19, slots := 161, locals := 32 } : Room)).room s m ([.ref h0] : List Value).toArray below meth c H locs (3 + i) (33 + 8 * i) (MQ below (va_Qv (S := Unit) (fun _ => True) (fun _ t => bornB D z h0 t) (Zf z)) ([.ref h0] : List Value).toArray s 19 161 (Zf z)) (F0 m 62 ls []) := by
    intro n9
    induction n9 with
    | zero =>
      intro i ad H locs h1 h2
      exact absurd h2 (by omega)
    | succ n9 ih =>
      intro i ad H locs hi hlim hP hD hS ls hl
      refine lv_iload_n hx hb dX2_init_62 rfl (lv_at hl 0 rfl) ?_
      refine lv_aload_n hx hb dX2_init_63 rfl (lv_at hl 1 rfl) ?_
      refine va_get (D := D) (ci := 2) (v := .ref q1) (C := RX2) (T := TX2) (N := 9) hx hb hts hinX2 hown hK hP 0 rfl rfl 0 (by decide) (hts (.fieldLink RX2 11 "BootChooser" "rows" "[LBootChooser$Entry;") (by decide +kernel)) (fun _ h9 => h9) rfl dX2_init_64 ?_
      refine va_alen hx hb hK hP 1 0 rfl rfl (v := 16) rfl dX2_init_67 ?_
      refine lv_icmp_ge (tgt := 90) hx hb dX2_init_68 (by decide) (fun c1 => ?_) (fun c1 => ?_)
      · obtain rfl : i = 16 := (nI16_le hi).mp c1
        exact W.vret hx hb hr (fun t ht hW9 => ⟨⟨(), rfl, trivial, q1, q2, q3, ad, cA, cD, va_K.moved hW9.alike hK, by rw [ht]; exact hP, hD⟩, hS.F ht⟩) hS.2.2 dX2_init_90
      · have hlt : i < 16 := (nI16_le_n hi).mp c1
        refine lv_aload_n hx hb dX2_init_71 rfl (lv_at hl 1 rfl) ?_
        refine va_get (D := D) (ci := 2) (v := .ref q1) (C := RX2) (T := TX2) (N := 9) hx hb hts hinX2 hown hK hP 0 rfl rfl 0 (by decide) (hts (.fieldLink RX2 11 "BootChooser" "rows" "[LBootChooser$Entry;") (by decide +kernel)) (fun _ h9 => h9) rfl dX2_init_72 ?_
        refine lv_iload_n hx hb dX2_init_75 rfl (lv_at hl 0 rfl) ?_
        refine va_new (ci := 1) (fs := [.int 0, .int 0, .int 0, .int 0, .int 0, .int 0, .int 0, .int 0]) (C := RX1) (T := TX1) (N := 8) hx hb hts hinX1 tyX1 tyX1_ok hown (hts (.classLink RX2 9 RX1) (by decide +kernel)) (hts (.instantiable RX1 8) (by decide +kernel)) (hts (.initialized RX1) (by decide +kernel)) hK hP hD hS hA rfl (fun j hj => by rcases (show j = 0 ∨ j = 1 ∨ j = 2 ∨ j = 3 ∨ j = 4 ∨ j = 5 ∨ j = 6 ∨ j = 7 by omega) with rfl | rfl | rfl | rfl | rfl | rfl | rfl | rfl <;> rfl) (show 3 + i + 1 ≤ 19 by omega) (show 33 + 8 * i + 8 ≤ 161 by omega) dX2_init_76 (fun q H hP hD hS => ?_)
        refine lv_dup hx hb dX2_init_79 rfl ?_
        refine va_callv (va_runIN (As := []) (rest := [.ref q, .int (nI i), .ref q1]) ⟨hx, hb, hml, hown, hts⟩ (mtX1_init l D z q _ _) ⟨va_cnB (host := "BootChooser") 0 hts gX2_init_X1_init_n44 rfl rfl rfl hN1 (hts (.initialized RX1) (by decide +kernel)) (by decide +kernel) ⟨Nat.le_of_ble_eq_true rfl, Nat.le_of_ble_eq_true rfl⟩, rfl, hts (.instanceMethod yX1_init) (by decide +kernel)⟩ ⟨ctor_blind, fun U hU hW9 => ⟨rfl, va_K.moved hW9.alike hK, by rw [hU]; exact hP, hD, by rw [hU]; exact Nat.le_trans hz hS.1⟩⟩ rfl rfl hl.1 rfl (lv_room (Nat.le_of_ble_eq_true rfl)) dX2_init_80 ⟨show 3 + i + 1 + 0 ≤ 19 by omega, show 33 + 8 * i + 8 + 0 ≤ 161 by omega⟩) hS (fun _ _ h => h) (fun _ h => h) (fun u t H locs ht hvm _ hB hz1 hk1 hS => ?_)
        obtain ⟨hP, hD⟩ := hB
        rw [ht] at hP
        refine va_astq hx hb hK hP hD hS 1 0 (4 + i) 1 rfl rfl w4_at rfl (vp_in_nI hlt (by omega)) dX2_init_83 (fun H locs hP hD hS => ?_)
        rw [nI_clamp (by omega), w4_S] at hP hD
        refine lv_iinc (v := nI (i + 1)) (lv' := [(1, .int (nI (i + 1))), (0, .ref h0)]) hx hb dX2_init_84 hl (k := 0) rfl (nI_1 _) (by decide) rfl (fun ls hl => ?_)
        refine lv_goto (tgt := 62) hx hb dX2_init_87 (by decide) ?_
        refine W.widen (k := 3 + (i + 1)) (n := 33 + 8 * (i + 1)) (by omega) (by omega) ?_
        exact ih (i + 1) _ H locs (by omega) (by omega) hP hD hS ls hl
  refine W.widen (k := 3 + 0) (n := 33 + 8 * 0) (Nat.le_of_ble_eq_true rfl) (Nat.le_of_ble_eq_true rfl) ?_
  exact hloop 17 0 (fun _ => 0) H locs (Nat.zero_le _) (by omega) (by rw [adO_0]; exact hP) (by rw [adO_0]; exact hD) hS ls hl
