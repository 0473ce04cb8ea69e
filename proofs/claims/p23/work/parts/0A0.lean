/-! THE CONSTRUCTORS. A world that ends with the object that is made; z: where the law's own part of the heap begins -/
def Zf (z : Nat) : Nat → Prop := fun q => z ≤ q
section
variable {α : Type} {ws tl : List α} {x y : α}
theorem cg : (ws ++ x :: tl)[ws.length]? = some x := by simp
theorem cst : (ws ++ x :: tl).set ws.length y = ws ++ y :: tl := by simp
end
def e0 : Nat → Int32 := fun k => if k = 1 then -1 else if k = 5 then 1 else if k = 7 then -1 else 0
theorem ctor_blind {av : List Value} {D : va_G} {tys : List (ClassId × FieldType)} {w : va_W} {z : Nat} : FrameBlind (va_Pc av (fun U => va_K D vwCl tys U ∧ va_P D vwCl w U.heap ∧ va_D (Zf z) w ∧ z ≤ U.heap.size)) := fun a U g mk q => by obtain ⟨q0, qK, qP, qD, qz⟩ := q; exact ⟨q0, va_K.moved (u := U) (U := U.calling g mk a) (Vm.Alike.refl U.vm) qK, qP, qD, qz⟩
set_option maxHeartbeats 400000 in
set_option maxRecDepth 100000 in
theorem mtX1_init (l : Launch) (D : va_G) (z h0 : Nat) (ws : va_W) (tys : List (ClassId × FieldType)) : Met l yX1_init wsX1_init ({ frames := 1, cells := 0, slots := 0, locals := 12 } : Room) (va_Pc [.ref h0] (fun U => va_K D vwCl tys U ∧ va_P D vwCl (ws ++ (h0, .inr (1, [.int 0, .int 0, .int 0, .int 0, .int 0, .int 0, .int 0, .int 0])) :: []) U.heap ∧ va_D (Zf z) (ws ++ (h0, .inr (1, [.int 0, .int 0, .int 0, .int 0, .int 0, .int 0, .int 0, .int 0])) :: []) ∧ z ≤ U.heap.size)) (va_Qv (S := Unit) (fun _ => True) (fun _ t => va_P D vwCl (ws ++ (h0, .inr (1, fE e0)) :: []) t.heap ∧ va_D (Zf z) (ws ++ (h0, .inr (1, fE e0)) :: [])) (Zf z)) 0 0 (Zf z) := by
  refine Met.ofW (cc := cX1_init) (maxL := 1) (ret := none) (by decide) rfl ?_
  intro p e s m args below meth c s₁ B hml hv
  obtain ⟨rfl, hK, hP, hD, hz⟩ := hv
  have hx := B.exec
  have hb := B.bytes
  have hr := B.returns
  have hts := atoms_spec (ws := wsX1_init) B.pre
  have hown : s.vm.findClass RX1 = some m.cls := findClass_of_methodNamed B.named
  have hin : meth.name = "<init>" := (name_of_methodNamed B.named B.method).1
  have hA : ∀ q : Nat, s.heap.size ≤ q → Zf z q := fun q h => Nat.le_trans hz h
  have hS : va_S (Zf z) s.heap s.heap [] := va_S.rf
  have hinX1 : ∀ w ∈ wsX10, w ∈ wsX1_init := by decide +kernel
  have hl := lv_entry ([.ref h0]) (n := 1) (Nat.le_of_ble_eq_true rfl)
  rw [lg_entry_eq]
  generalize (lg_sl ([.ref h0]) ++ List.replicate (1 - (lg_sl ([.ref h0])).length) Slot.unset).toArray = ls at hl ⊢
  have hl : lv_has ls 1 [(0, .ref h0)] := hl
  refine lv_aload_n hx hb dX1_init_0 rfl (lv_at hl 0 rfl) ?_
  refine W.objInit hx hb hown (hts (.methodLink RX1 3 objectInit) (by decide +kernel)) (hts (.instanceMethod objectInit) (by decide +kernel)) (hts (.code objectInit ⟨#[0xb1]⟩ 1 none) (by decide +kernel)) rfl (by rw [hml]; exact hl.1) rfl dX1_init_1 (Nat.le_of_ble_eq_true rfl) (Nat.le_of_ble_eq_true rfl) ?_
  refine W.eq (g2 := F0 m 4 ls []) rfl ?_
  refine lv_aload_n hx hb dX1_init_4 rfl (lv_at hl 0 rfl) ?_
  refine lv_iconst (v := 0) hx hb dX1_init_5 (by decide) ?_
  refine va_put (D := D) (ci := 1) (v := .int 0) (ty := .boolean) (C := RX1) (T := TX1) (N := 8) hx hb hts hinX1 tyX1 tyX1_ok nmX1 hown hK hP hD hS (List.length ws) cg rfl 0 (by decide) (hts (.fieldLink RX1 9 "BootChooser$Entry" "isThere" "Z") (by decide +kernel)) (fun _ h9 => h9) rfl (by decide +kernel) rfl rfl (Nat.le_of_ble_eq_true rfl) dX1_init_6 (fun H locs hP hD hS => ?_)
  rw [cst] at hP hD
  have hP : va_P D vwCl (ws ++ (h0, .inr (1, [.int 0, .int 0, .int 0, .int 0, .int 0, .int 0, .int 0, .int 0])) :: []) H := hP
  have hD : va_D (Zf z) (ws ++ (h0, .inr (1, [.int 0, .int 0, .int 0, .int 0, .int 0, .int 0, .int 0, .int 0])) :: []) := hD
  refine lv_aload_n hx hb dX1_init_9 rfl (lv_at hl 0 rfl) ?_
  refine lv_iconst (v := (-1)) hx hb dX1_init_10 (by decide) ?_
  refine va_put (D := D) (ci := 1) (v := .int (-1)) (ty := .int) (C := RX1) (T := TX1) (N := 8) hx hb hts hinX1 tyX1 tyX1_ok nmX1 hown hK hP hD hS (List.length ws) cg rfl 1 (by decide) (hts (.fieldLink RX1 15 "BootChooser$Entry" "number" "I") (by decide +kernel)) (fun _ h9 => h9) rfl (by decide +kernel) rfl rfl (Nat.le_of_ble_eq_true rfl) dX1_init_11 (fun H locs hP hD hS => ?_)
  rw [cst] at hP hD
  have hP : va_P D vwCl (ws ++ (h0, .inr (1, [.int 0, .int (-1), .int 0, .int 0, .int 0, .int 0, .int 0, .int 0])) :: []) H := hP
  have hD : va_D (Zf z) (ws ++ (h0, .inr (1, [.int 0, .int (-1), .int 0, .int 0, .int 0, .int 0, .int 0, .int 0])) :: []) := hD
  refine lv_aload_n hx hb dX1_init_14 rfl (lv_at hl 0 rfl) ?_
  refine lv_iconst (v := 0) hx hb dX1_init_15 (by decide) ?_
  refine va_put (D := D) (ci := 1) (v := .int 0) (ty := .int) (C := RX1) (T := TX1) (N := 8) hx hb hts hinX1 tyX1 tyX1_ok nmX1 hown hK hP hD hS (List.length ws) cg rfl 2 (by decide) (hts (.fieldLink RX1 19 "BootChooser$Entry" "kind" "I") (by decide +kernel)) (fun _ h9 => h9) rfl (by decide +kernel) rfl rfl (Nat.le_of_ble_eq_true rfl) dX1_init_16 (fun H locs hP hD hS => ?_)
  rw [cst] at hP hD
  have hP : va_P D vwCl (ws ++ (h0, .inr (1, [.int 0, .int (-1), .int 0, .int 0, .int 0, .int 0, .int 0, .int 0])) :: []) H := hP
  have hD : va_D (Zf z) (ws ++ (h0, .inr (1, [.int 0, .int (-1), .int 0, .int 0, .int 0, .int 0, .int 0, .int 0])) :: []) := hD
  refine lv_aload_n hx hb dX1_init_19 rfl (lv_at hl 0 rfl) ?_
  refine lv_iconst (v := 0) hx hb dX1_init_20 (by decide) ?_
  refine va_put (D := D) (ci := 1) (v := .int 0) (ty := .int) (C := RX1) (T := TX1) (N := 8) hx hb hts hinX1 tyX1 tyX1_ok nmX1 hown hK hP hD hS (List.length ws) cg rfl 3 (by decide) (hts (.fieldLink RX1 22 "BootChooser$Entry" "name" "I") (by decide +kernel)) (fun _ h9 => h9) rfl (by decide +kernel) rfl rfl (Nat.le_of_ble_eq_true rfl) dX1_init_21 (fun H locs hP hD hS => ?_)
  rw [cst] at hP hD
  have hP : va_P D vwCl (ws ++ (h0, .inr (1, [.int 0, .int (-1), .int 0, .int 0, .int 0, .int 0, .int 0, .int 0])) :: []) H := hP
  have hD : va_D (Zf z) (ws ++ (h0, .inr (1, [.int 0, .int (-1), .int 0, .int 0, .int 0, .int 0, .int 0, .int 0])) :: []) := hD
  refine lv_aload_n hx hb dX1_init_24 rfl (lv_at hl 0 rfl) ?_
  refine lv_iconst (v := 0) hx hb dX1_init_25 (by decide) ?_
  refine va_put (D := D) (ci := 1) (v := .int 0) (ty := .int) (C := RX1) (T := TX1) (N := 8) hx hb hts hinX1 tyX1 tyX1_ok nmX1 hown hK hP hD hS (List.length ws) cg rfl 4 (by decide) (hts (.fieldLink RX1 25 "BootChooser$Entry" "version" "I") (by decide +kernel)) (fun _ h9 => h9) rfl (by decide +kernel) rfl rfl (Nat.le_of_ble_eq_true rfl) dX1_init_26 (fun H locs hP hD hS => ?_)
  rw [cst] at hP hD
  have hP : va_P D vwCl (ws ++ (h0, .inr (1, [.int 0, .int (-1), .int 0, .int 0, .int 0, .int 0, .int 0, .int 0])) :: []) H := hP
  have hD : va_D (Zf z) (ws ++ (h0, .inr (1, [.int 0, .int (-1), .int 0, .int 0, .int 0, .int 0, .int 0, .int 0])) :: []) := hD
  refine lv_aload_n hx hb dX1_init_29 rfl (lv_at hl 0 rfl) ?_
  refine lv_iconst (v := 1) hx hb dX1_init_30 (by decide) ?_
  refine va_put (D := D) (ci := 1) (v := .int 1) (ty := .int) (C := RX1) (T := TX1) (N := 8) hx hb hts hinX1 tyX1 tyX1_ok nmX1 hown hK hP hD hS (List.length ws) cg rfl 5 (by decide) (hts (.fieldLink RX1 28 "BootChooser$Entry" "mark" "I") (by decide +kernel)) (fun _ h9 => h9) rfl (by decide +kernel) rfl rfl (Nat.le_of_ble_eq_true rfl) dX1_init_31 (fun H locs hP hD hS => ?_)
  rw [cst] at hP hD
  have hP : va_P D vwCl (ws ++ (h0, .inr (1, [.int 0, .int (-1), .int 0, .int 0, .int 0, .int 1, .int 0, .int 0])) :: []) H := hP
  have hD : va_D (Zf z) (ws ++ (h0, .inr (1, [.int 0, .int (-1), .int 0, .int 0, .int 0, .int 1, .int 0, .int 0])) :: []) := hD
  refine lv_aload_n hx hb dX1_init_34 rfl (lv_at hl 0 rfl) ?_
  refine lv_iconst (v := 0) hx hb dX1_init_35 (by decide) ?_
  refine va_put (D := D) (ci := 1) (v := .int 0) (ty := .int) (C := RX1) (T := TX1) (N := 8) hx hb hts hinX1 tyX1 tyX1_ok nmX1 hown hK hP hD hS (List.length ws) cg rfl 6 (by decide) (hts (.fieldLink RX1 31 "BootChooser$Entry" "option" "I") (by decide +kernel)) (fun _ h9 => h9) rfl (by decide +kernel) rfl rfl (Nat.le_of_ble_eq_true rfl) dX1_init_36 (fun H locs hP hD hS => ?_)
  rw [cst] at hP hD
  have hP : va_P D vwCl (ws ++ (h0, .inr (1, [.int 0, .int (-1), .int 0, .int 0, .int 0, .int 1, .int 0, .int 0])) :: []) H := hP
  have hD : va_D (Zf z) (ws ++ (h0, .inr (1, [.int 0, .int (-1), .int 0, .int 0, .int 0, .int 1, .int 0, .int 0])) :: []) := hD
  refine lv_aload_n hx hb dX1_init_39 rfl (lv_at hl 0 rfl) ?_
  refine lv_iconst (v := (-1)) hx hb dX1_init_40 (by decide) ?_
  refine va_put (D := D) (ci := 1) (v := .int (-1)) (ty := .int) (C := RX1) (T := TX1) (N := 8) hx hb hts hinX1 tyX1 tyX1_ok nmX1 hown hK hP hD hS (List.length ws) cg rfl 7 (by decide) (hts (.fieldLink RX1 34 "BootChooser$Entry" "triesLeft" "I") (by decide +kernel)) (fun _ h9 => h9) rfl (by decide +kernel) rfl rfl (Nat.le_of_ble_eq_true rfl) dX1_init_41 (fun H locs hP hD hS => ?_)
  rw [cst] at hP hD
  have hP : va_P D vwCl (ws ++ (h0, .inr (1, [.int 0, .int (-1), .int 0, .int 0, .int 0, .int 1, .int 0, .int (-1)])) :: []) H := hP
  have hD : va_D (Zf z) (ws ++ (h0, .inr (1, [.int 0, .int (-1), .int 0, .int 0, .int 0, .int 1, .int 0, .int (-1)])) :: []) := hD
  exact W.vret hx hb hr (fun t ht hW9 => ⟨⟨(), rfl, trivial, by rw [ht]; exact hP, hD⟩, hS.F ht⟩) hS.2.2 dX1_init_44
set_option maxHeartbeats 400000 in
set_option maxRecDepth 100000 in
theorem mtX0_init (l : Launch) (D : va_G) (z h0 : Nat) (ws : va_W) (tys : List (ClassId × FieldType)) : Met l yX0_init wsX0_init ({ frames := 1, cells := 1, slots := 12, locals := 12 } : Room) (va_Pc [.ref h0] (fun U => va_K D vwCl tys U ∧ va_P D vwCl (ws ++ (h0, .inr (0, [.null, .int 0, .int 0, .int 0, .int 0])) :: []) U.heap ∧ va_D (Zf z) (ws ++ (h0, .inr (0, [.null, .int 0, .int 0, .int 0, .int 0])) :: []) ∧ z ≤ U.heap.size)) (va_Qv (S := Unit) (fun _ => True) (fun _ t => ∃ (q : Nat) (cA : ClassId), va_K D vwCl (tys ++ [(cA, .int)]) t ∧ va_P D vwCl (ws ++ (h0, .inr (0, [.ref q, .int 0, .int 0, .int 1, .int 0])) :: [(q, .inl (cA, 12, .inl (fun _ => 0)))]) t.heap ∧ va_D (Zf z) (ws ++ (h0, .inr (0, [.ref q, .int 0, .int 0, .int 1, .int 0])) :: [(q, .inl (cA, 12, .inl (fun _ => 0)))])) (Zf z)) 1 12 (Zf z) := by
  refine Met.ofW (cc := cX0_init) (maxL := 1) (ret := none) (by decide) rfl ?_
  intro p e s m args below meth c s₁ B hml hv
  obtain ⟨rfl, hK, hP, hD, hz⟩ := hv
  have hx := B.exec
  have hb := B.bytes
  have hr := B.returns
  have hts := atoms_spec (ws := wsX0_init) B.pre
  have hown : s.vm.findClass RX0 = some m.cls := findClass_of_methodNamed B.named
  have hin : meth.name = "<init>" := (name_of_methodNamed B.named B.method).1
  have hA : ∀ q : Nat, s.heap.size ≤ q → Zf z q := fun q h => Nat.le_trans hz h
  have hS : va_S (Zf z) s.heap s.heap [] := va_S.rf
  have hinX0 : ∀ w ∈ wsX00, w ∈ wsX0_init := by decide +kernel
  have hl := lv_entry ([.ref h0]) (n := 1) (Nat.le_of_ble_eq_true rfl)
  rw [lg_entry_eq]
  generalize (lg_sl ([.ref h0]) ++ List.replicate (1 - (lg_sl ([.ref h0])).length) Slot.unset).toArray = ls at hl ⊢
  have hl : lv_has ls 1 [(0, .ref h0)] := hl
  refine lv_aload_n hx hb dX0_init_0 rfl (lv_at hl 0 rfl) ?_
  refine W.objInit hx hb hown (hts (.methodLink RX0 3 objectInit) (by decide +kernel)) (hts (.instanceMethod objectInit) (by decide +kernel)) (hts (.code objectInit ⟨#[0xb1]⟩ 1 none) (by decide +kernel)) rfl (by rw [hml]; exact hl.1) rfl dX0_init_1 (Nat.le_of_ble_eq_true rfl) (Nat.le_of_ble_eq_true rfl) ?_
  refine W.eq (g2 := F0 m 4 ls []) rfl ?_
  refine lv_aload_n hx hb dX0_init_4 rfl (lv_at hl 0 rfl) ?_
  refine lv_bipush (v := 12) hx hb dX0_init_5 (by decide) ?_
  refine va_newa (atype := .int) (ty := .int) (N' := 12) (a0 := (12, .inl (fun _ => 0))) hx hb (hts (.arrayClass .int) (by decide +kernel)) rfl hK hP hD hS hA (fun _ => rfl) (by decide) rfl (Nat.le_of_ble_eq_true rfl) (Nat.le_of_ble_eq_true rfl) (Nat.le_of_ble_eq_true rfl) dX0_init_7 (fun q cA H hK hP hD hS => ?_)
  rw [List.append_assoc, List.cons_append, List.nil_append] at hP hD
  refine va_putF (D := D) (ci := 0) (v := .ref q) (ty := .array .int) (C := RX0) (T := TX0) (N := 5) hx hb hts hinX0 tyX0 tyX0_ok nmX0 hown hK hP hD hS (List.length ws) cg rfl 0 (by decide) (hts (.fieldLink RX0 9 "BootChooser$CodeLock" "digits" "[I") (by decide +kernel)) (fun _ h9 => h9) rfl hin rfl (by decide +kernel) rfl rfl (Nat.le_of_ble_eq_true rfl) dX0_init_9 (fun H locs hP hD hS => ?_)
  rw [cst] at hP hD
  have hP : va_P D vwCl (ws ++ (h0, .inr (0, [.ref q, .int 0, .int 0, .int 0, .int 0])) :: [(q, .inl (cA, 12, .inl (fun _ => 0)))]) H := hP
  have hD : va_D (Zf z) (ws ++ (h0, .inr (0, [.ref q, .int 0, .int 0, .int 0, .int 0])) :: [(q, .inl (cA, 12, .inl (fun _ => 0)))]) := hD
  refine lv_aload_n hx hb dX0_init_12 rfl (lv_at hl 0 rfl) ?_
  refine lv_iconst (v := 0) hx hb dX0_init_13 (by decide) ?_
  refine va_put (D := D) (ci := 0) (v := .int 0) (ty := .boolean) (C := RX0) (T := TX0) (N := 5) hx hb hts hinX0 tyX0 tyX0_ok nmX0 hown hK hP hD hS (List.length ws) cg rfl 1 (by decide) (hts (.fieldLink RX0 15 "BootChooser$CodeLock" "isClosed" "Z") (by decide +kernel)) (fun _ h9 => h9) rfl (by decide +kernel) rfl rfl (Nat.le_of_ble_eq_true rfl) dX0_init_14 (fun H locs hP hD hS => ?_)
  rw [cst] at hP hD
  have hP : va_P D vwCl (ws ++ (h0, .inr (0, [.ref q, .int 0, .int 0, .int 0, .int 0])) :: [(q, .inl (cA, 12, .inl (fun _ => 0)))]) H := hP
  have hD : va_D (Zf z) (ws ++ (h0, .inr (0, [.ref q, .int 0, .int 0, .int 0, .int 0])) :: [(q, .inl (cA, 12, .inl (fun _ => 0)))]) := hD
  refine lv_aload_n hx hb dX0_init_17 rfl (lv_at hl 0 rfl) ?_
  refine lv_iconst (v := 0) hx hb dX0_init_18 (by decide) ?_
  refine va_put (D := D) (ci := 0) (v := .int 0) (ty := .int) (C := RX0) (T := TX0) (N := 5) hx hb hts hinX0 tyX0 tyX0_ok nmX0 hown hK hP hD hS (List.length ws) cg rfl 2 (by decide) (hts (.fieldLink RX0 19 "BootChooser$CodeLock" "codeValue" "I") (by decide +kernel)) (fun _ h9 => h9) rfl (by decide +kernel) rfl rfl (Nat.le_of_ble_eq_true rfl) dX0_init_19 (fun H locs hP hD hS => ?_)
  rw [cst] at hP hD
  have hP : va_P D vwCl (ws ++ (h0, .inr (0, [.ref q, .int 0, .int 0, .int 0, .int 0])) :: [(q, .inl (cA, 12, .inl (fun _ => 0)))]) H := hP
  have hD : va_D (Zf z) (ws ++ (h0, .inr (0, [.ref q, .int 0, .int 0, .int 0, .int 0])) :: [(q, .inl (cA, 12, .inl (fun _ => 0)))]) := hD
  refine lv_aload_n hx hb dX0_init_22 rfl (lv_at hl 0 rfl) ?_
  refine lv_iconst (v := 1) hx hb dX0_init_23 (by decide) ?_
  refine va_put (D := D) (ci := 0) (v := .int 1) (ty := .int) (C := RX0) (T := TX0) (N := 5) hx hb hts hinX0 tyX0 tyX0_ok nmX0 hown hK hP hD hS (List.length ws) cg rfl 3 (by decide) (hts (.fieldLink RX0 23 "BootChooser$CodeLock" "codeLength" "I") (by decide +kernel)) (fun _ h9 => h9) rfl (by decide +kernel) rfl rfl (Nat.le_of_ble_eq_true rfl) dX0_init_24 (fun H locs hP hD hS => ?_)
  rw [cst] at hP hD
  have hP : va_P D vwCl (ws ++ (h0, .inr (0, [.ref q, .int 0, .int 0, .int 1, .int 0])) :: [(q, .inl (cA, 12, .inl (fun _ => 0)))]) H := hP
  have hD : va_D (Zf z) (ws ++ (h0, .inr (0, [.ref q, .int 0, .int 0, .int 1, .int 0])) :: [(q, .inl (cA, 12, .inl (fun _ => 0)))]) := hD
  refine lv_aload_n hx hb dX0_init_27 rfl (lv_at hl 0 rfl) ?_
  refine lv_iconst (v := 0) hx hb dX0_init_28 (by decide) ?_
  refine va_put (D := D) (ci := 0) (v := .int 0) (ty := .int) (C := RX0) (T := TX0) (N := 5) hx hb hts hinX0 tyX0 tyX0_ok nmX0 hown hK hP hD hS (List.length ws) cg rfl 4 (by decide) (hts (.fieldLink RX0 26 "BootChooser$CodeLock" "entered" "I") (by decide +kernel)) (fun _ h9 => h9) rfl (by decide +kernel) rfl rfl (Nat.le_of_ble_eq_true rfl) dX0_init_29 (fun H locs hP hD hS => ?_)
  rw [cst] at hP hD
  have hP : va_P D vwCl (ws ++ (h0, .inr (0, [.ref q, .int 0, .int 0, .int 1, .int 0])) :: [(q, .inl (cA, 12, .inl (fun _ => 0)))]) H := hP
  have hD : va_D (Zf z) (ws ++ (h0, .inr (0, [.ref q, .int 0, .int 0, .int 1, .int 0])) :: [(q, .inl (cA, 12, .inl (fun _ => 0)))]) := hD
  exact W.vret hx hb hr (fun t ht hW9 => ⟨⟨(), rfl, trivial, q, cA, va_K.moved hW9.alike hK, by rw [ht]; exact hP, hD⟩, hS.F ht⟩) hS.2.2 dX0_init_32
