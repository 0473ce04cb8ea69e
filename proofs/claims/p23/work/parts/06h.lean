set_option maxHeartbeats 4000000 in
set_option maxRecDepth 100000 in
theorem mtX0_endsInCode (l : Launch) (g : Ge) (σ : Sg) (μ : Mg) (o : Nat → Int64) (en cl : Nat) (h1 : σ.2.2.1 3 = nI en) (h2 : σ.2.2.1 2 = nI cl) (h3 : en ≤ 12) (h4 : cl ≤ 12) : Met l yX0_endsInCode wsX0_endsInCode ({ frames := 0, cells := 0, slots := 0, locals := 0 } : Room) (va_Pc [.ref (gA g 2)] (PW g σ μ o)) (vp_Si (fun r => r = bI (ec σ.2.2.2 en cl (σ.2.2.1 1)))) 0 0 (fun _ => False) := by
  refine Met.ofW (cc := cX0_endsInCode) (maxL := 3) (ret := (some .boolean)) (by decide) rfl ?_
  intro p e s m args below meth c s₁ B hml hv
  obtain ⟨rfl, hC, hW⟩ := hv
  have hx := B.exec
  have hb := B.bytes
  have hr := B.returns
  have hts := atoms_spec (ws := wsX0_endsInCode) B.pre
  have hown : s.vm.findClass RX0 = some m.cls := findClass_of_methodNamed B.named
  have hlocks := B.notSynchronized
  have hinX0 : ∀ w ∈ wsX00, w ∈ wsX0_endsInCode := by decide +kernel
  have hS : va_S (Az g) s.heap s.heap [] := va_S.rf
  have hl := lv_entry ([.ref (gA g 2)]) (n := 3) (Nat.le_of_ble_eq_true rfl)
  rw [lg_entry_eq]
  generalize (lg_sl ([.ref (gA g 2)]) ++ List.replicate (3 - (lg_sl ([.ref (gA g 2)])).length) Slot.unset).toArray = ls at hl ⊢
  have hl : lv_has ls 3 [(0, .ref (gA g 2))] := hl
  refine lv_aload_n hx hb dX0_endsInCode_0 rfl (lv_at hl 0 rfl) ?_
  refine gL (v := .int (σ.2.2.1 3)) hx hb hts hinX0 hown hC hW 4 (by decide) (by decide +kernel) rfl rfl dX0_endsInCode_1 ?_
  refine lv_aload_n hx hb dX0_endsInCode_4 rfl (lv_at hl 0 rfl) ?_
  refine gL (v := .int (σ.2.2.1 2)) hx hb hts hinX0 hown hC hW 3 (by decide) (by decide +kernel) rfl rfl dX0_endsInCode_5 ?_
  refine lv_icmp_ge (tgt := 13) hx hb dX0_endsInCode_8 (by decide) (fun c_1 => ?_) (fun c_1 => ?_)
  · skip
    have hle : cl ≤ en := by rw [h1, h2, nI_leI (by omega) (by omega)] at c_1; exact c_1
    refine lv_iconst (v := 0) hx hb dX0_endsInCode_13 (by decide) ?_
    refine lv_istore_n (lv' := [(1, .int 0), (0, .ref (gA g 2))]) hx hb dX0_endsInCode_14 rfl hl (by decide) rfl (fun ls hl => ?_)
    refine lv_aload_n hx hb dX0_endsInCode_15 rfl (lv_at hl 1 rfl) ?_
    refine gL (v := .int (σ.2.2.1 3)) hx hb hts hinX0 hown hC hW 4 (by decide) (by decide +kernel) rfl rfl dX0_endsInCode_16 ?_
    refine lv_aload_n hx hb dX0_endsInCode_19 rfl (lv_at hl 1 rfl) ?_
    refine gL (v := .int (σ.2.2.1 2)) hx hb hts hinX0 hown hC hW 3 (by decide) (by decide +kernel) rfl rfl dX0_endsInCode_20 ?_
    refine lv_isub hx hb dX0_endsInCode_23 ?_
    refine lv_istore_n (lv' := [(2, .int ((σ.2.2.1 3 - σ.2.2.1 2))), (1, .int 0), (0, .ref (gA g 2))]) hx hb dX0_endsInCode_24 rfl hl (by decide) rfl (fun ls hl => ?_)
    have loop_1 : ∀ (n9 i : Nat), i ≤ cl → cl < i + n9 → ∀ (ls : Array Slot), lv_has ls 3 [(0, .ref (gA g 2)), (1, .int (vl σ.2.2.2 (en - cl) i)), (2, .int (nI (en - cl + i)))] → W p l e (headSpec wsX0_endsInCode ({ frames := 0, cells := 0, slots := 0, locals := 0 } : Room)).room s m ([.ref (gA g 2)] : List Value).toArray below meth c s.heap [] 0 0 (MQ below (vp_Si (fun r => r = bI (ec σ.2.2.2 en cl (σ.2.2.1 1)))) ([.ref (gA g 2)] : List Value).toArray s 0 0 (fun _ => False)) (F0 m 25 ls []) := by
      intro n9
      induction n9 with
      | zero =>
        intro i hi1 hi2
        exact absurd hi2 (by omega)
      | succ n9 ih =>
        intro i hi hin ls hl
        refine lv_iload_n hx hb dX0_endsInCode_25 rfl (lv_at hl 2 rfl) ?_
        refine lv_aload_n hx hb dX0_endsInCode_26 rfl (lv_at hl 0 rfl) ?_
        refine gL (v := .int (σ.2.2.1 3)) hx hb hts hinX0 hown hC hW 4 (by decide) (by decide +kernel) rfl rfl dX0_endsInCode_27 ?_
        refine lv_icmp_ge (tgt := 51) hx hb dX0_endsInCode_30 (by decide) (fun c_2 => ?_) (fun c_2 => ?_)
        · skip
          have hi16 : i = cl := by rw [h1, nI_leI (by omega) (by omega)] at c_2; omega
          refine lv_iload_n hx hb dX0_endsInCode_51 rfl (lv_at hl 1 rfl) ?_
          refine lv_aload_n hx hb dX0_endsInCode_52 rfl (lv_at hl 0 rfl) ?_
          refine gL (v := .int (σ.2.2.1 1)) hx hb hts hinX0 hown hC hW 2 (by decide) (by decide +kernel) rfl rfl dX0_endsInCode_53 ?_
          refine lv_icmp_ne (tgt := 63) hx hb dX0_endsInCode_56 (by decide) (fun c_3 => ?_) (fun c_3 => ?_)
          · skip
            refine lv_iconst (v := 0) hx hb dX0_endsInCode_63 (by decide) ?_
            exact W.zret (v := 0) (ty := .boolean) hx hb hr rfl (fun t ht hW9 => ⟨_, rfl, by rw [hi16] at c_3; simp [ec, hle, bI, c_3], ht⟩) (fun q h => by cases h) dX0_endsInCode_64
          · skip
            refine lv_iconst (v := 1) hx hb dX0_endsInCode_59 (by decide) ?_
            refine lv_goto (tgt := 64) hx hb dX0_endsInCode_60 (by decide) ?_
            exact W.zret (v := 1) (ty := .boolean) hx hb hr rfl (fun t ht hW9 => ⟨_, rfl, by rw [hi16] at c_3; simp [ec, hle, bI, c_3], ht⟩) (fun q h => by cases h) dX0_endsInCode_64
        · skip
          have hlt : i < cl := by rw [h1, nI_leI (by omega) (by omega)] at c_2; omega
          refine lv_iload_n hx hb dX0_endsInCode_33 rfl (lv_at hl 1 rfl) ?_
          refine lv_bipush (v := 10) hx hb dX0_endsInCode_34 (by decide) ?_
          refine lv_imul hx hb dX0_endsInCode_36 ?_
          refine lv_aload_n hx hb dX0_endsInCode_37 rfl (lv_at hl 0 rfl) ?_
          refine gL (v := .ref (gA g 3)) hx hb hts hinX0 hown hC hW 0 (by decide) (by decide +kernel) rfl rfl dX0_endsInCode_38 ?_
          refine lv_iload_n hx hb dX0_endsInCode_41 rfl (lv_at hl 2 rfl) ?_
          refine dLd hx hb hC hW (by omega : en - cl + i < 12) dX0_endsInCode_42 ?_
          refine lv_iadd hx hb dX0_endsInCode_43 ?_
          refine lv_istore_n (lv' := [(1, .int (((vl σ.2.2.2 (en - cl) i * 10) + σ.2.2.2 ((en - cl + i))))), (0, .ref (gA g 2)), (2, .int (nI (en - cl + i)))]) hx hb dX0_endsInCode_44 rfl hl (by decide) rfl (fun ls hl => ?_)
          refine lv_iinc (v := nI ((en - cl + i) + 1)) (lv' := [(2, .int (nI ((en - cl + i) + 1))), (1, .int (((vl σ.2.2.2 (en - cl) i * 10) + σ.2.2.2 ((en - cl + i))))), (0, .ref (gA g 2))]) hx hb dX0_endsInCode_45 hl (k := 2) rfl (nI_1 _) (by decide) rfl (fun ls hl => ?_)
          refine lv_goto (tgt := 25) hx hb dX0_endsInCode_48 (by decide) ?_
          exact ih (i + 1) (by omega) (by omega) ls (by exact lv_sub hl [2, 1, 0] rfl)
    exact loop_1 (cl + 1) 0 (Nat.zero_le _) (by omega) ls (by rw [show nI (en - cl + 0) = σ.2.2.1 3 - σ.2.2.1 2 from by rw [h1, h2]; exact (pk_sub hle).symm]; exact lv_sub hl [2, 1, 0] rfl)
  · skip
    have hle : ¬ cl ≤ en := by rw [h1, h2, nI_leI (by omega) (by omega)] at c_1; exact c_1
    refine lv_iconst (v := 0) hx hb dX0_endsInCode_11 (by decide) ?_
    exact W.zret (v := 0) (ty := .boolean) hx hb hr rfl (fun t ht hW9 => ⟨_, rfl, by simp [ec, hle, bI], ht⟩) (fun q h => by cases h) dX0_endsInCode_12
set_option maxHeartbeats 4000000 in
set_option maxRecDepth 100000 in
theorem mtX0_takeDigit (l : Launch) (hfl : l.stackTraces = false) (g : Ge) (σ : Sg) (μ : Mg) (o : Nat → Int64) (d : Int32) (en cl : Nat) (h1 : σ.2.2.1 3 = nI en) (h2 : σ.2.2.1 2 = nI cl) (h3 : en ≤ 12) (h4 : cl ≤ 12) : vx_Met l yX0_takeDigit wsX0_takeDigit ({ frames := 6, cells := 1, slots := 6, locals := 90 } : Room) (va_Pc [.ref (gA g 2), .int d] (PW g σ μ o)) (va_Qi (S := Unit) (fun r _ => ¬ σ.2.2.1 0 = 0 ∧ σ.2.2.1 3 < 12 ∧ r = bI (ec (upd σ.2.2.2 en d) (en + 1) cl (σ.2.2.1 1))) (fun _ t => Wd g (σ.1, σ.2.1, upd (upd σ.2.2.1 3 (σ.2.2.1 3 + 1)) 0 (bI (!ec (upd σ.2.2.2 en d) (en + 1) cl (σ.2.2.1 1))), upd σ.2.2.2 en d) μ o t.heap) (Az g)) (vx_X (S := Unit) (fun _ => True) (fun E _ t => (E = xIS ∧ (σ.2.2.1 0 = 0 ∨ ¬ σ.2.2.1 3 < 12)) ∧ Wd g σ μ o t.heap) (Az g)) 1 6 (Az g) := by
  refine vx_ofW (cc := cX0_takeDigit) (maxL := 2) (ret := (some .boolean)) (by decide) rfl ?_
  intro p e s m args below meth c s₁ B hml hxt hv
  obtain ⟨rfl, hC, hW⟩ := hv
  have hx := B.exec
  have hb := B.bytes
  have hr := B.returns
  have hts := atoms_spec (ws := wsX0_takeDigit) B.pre
  have hown : s.vm.findClass RX0 = some m.cls := findClass_of_methodNamed B.named
  have hlocks := B.notSynchronized
  have hinX0 : ∀ w ∈ wsX00, w ∈ wsX0_takeDigit := by decide +kernel
  have hxw36 : ∀ w ∈ (vx_atS RX0 36 "java/lang/IllegalStateException" ["java/lang/RuntimeException", "java/lang/Exception"]).filter goodWord, w ∈ wsX0_takeDigit := by decide +kernel
  have hS : va_S (Az g) s.heap s.heap [] := va_S.rf
  have hl := lv_entry ([.ref (gA g 2), .int d]) (n := 2) (Nat.le_of_ble_eq_true rfl)
  rw [lg_entry_eq]
  generalize (lg_sl ([.ref (gA g 2), .int d]) ++ List.replicate (2 - (lg_sl ([.ref (gA g 2), .int d])).length) Slot.unset).toArray = ls at hl ⊢
  have hl : lv_has ls 2 [(0, .ref (gA g 2)), (1, .int d)] := hl
  refine lv_aload_n hx hb dX0_takeDigit_0 rfl (lv_at hl 0 rfl) ?_
  refine gL (v := .int (σ.2.2.1 0)) hx hb hts hinX0 hown hC hW 1 (by decide) (by decide +kernel) rfl rfl dX0_takeDigit_1 ?_
  refine lv_if_eq (tgt := 19) hx hb dX0_takeDigit_4 (by decide) (fun c_1 => ?_) (fun c_1 => ?_)
  · skip
    obtain ⟨sa_2, hsa_2⟩ := hC.2.1.2.1 (RX0, 34, "it is not locked, or too many digits were entered") (by decide +kernel)
    refine vx_throwS (own := RX0) (cls := xIS) (text := "it is not locked, or too many digits were entered") (names := ["java/lang/RuntimeException", "java/lang/Exception"]) (ik := 32) (is := 34) (ic := 36) (sa := sa_2) (A := Az g) hx hb hfl hown (by decide +kernel) (by decide +kernel) (hts (.classLink RX0 32 "java/lang/IllegalStateException") (by decide +kernel)) (hts (.initialized "java/lang/IllegalStateException") (by decide +kernel)) hsa_2 (vx_hat (B := xwB xIS) (fun w h => hts w (hxw36 w h)) (by decide +kernel) (cast_w hC.2.1 (by decide +kernel))) (by decide +kernel) hC.2.2.1.1 hC.2.2.1.2 hS (hl.1.trans hml.symm) dX0_takeDigit_19 dX0_takeDigit_22 dX0_takeDigit_23 dX0_takeDigit_25 dX0_takeDigit_28 (fun x h => (hxt x h).elim) (Nat.le_of_ble_eq_true rfl) (Nat.le_of_ble_eq_true rfl) (Nat.le_of_ble_eq_true rfl) (Nat.le_of_ble_eq_true rfl) hlocks (fun t9 hv9 hz9 hq9 => ⟨(), trivial, ⟨⟨rfl, Or.inl c_1⟩, Wd_up hW hz9 hq9⟩, va_F_up hS hz9 hq9⟩) hS.2.2 (Nat.le_of_ble_eq_true rfl) (Nat.le_of_ble_eq_true rfl)
  · skip
    refine lv_aload_n hx hb dX0_takeDigit_7 rfl (lv_at hl 0 rfl) ?_
    refine gL (v := .int (σ.2.2.1 3)) hx hb hts hinX0 hown hC hW 4 (by decide) (by decide +kernel) rfl rfl dX0_takeDigit_8 ?_
    refine lv_aload_n hx hb dX0_takeDigit_11 rfl (lv_at hl 0 rfl) ?_
    refine gL (v := .ref (gA g 3)) hx hb hts hinX0 hown hC hW 0 (by decide) (by decide +kernel) rfl rfl dX0_takeDigit_12 ?_
    refine dLen hx hb hC hW dX0_takeDigit_15 ?_
    refine lv_icmp_lt (tgt := 29) hx hb dX0_takeDigit_16 (by decide) (fun c_3 => ?_) (fun c_3 => ?_)
    · skip
      refine lv_aload_n hx hb dX0_takeDigit_29 rfl (lv_at hl 0 rfl) ?_
      refine gL (v := .ref (gA g 3)) hx hb hts hinX0 hown hC hW 0 (by decide) (by decide +kernel) rfl rfl dX0_takeDigit_30 ?_
      refine lv_aload_n hx hb dX0_takeDigit_33 rfl (lv_at hl 0 rfl) ?_
      refine gL (v := .int (σ.2.2.1 3)) hx hb hts hinX0 hown hC hW 4 (by decide) (by decide +kernel) rfl rfl dX0_takeDigit_34 ?_
      refine lv_iload_n hx hb dX0_takeDigit_37 rfl (lv_at hl 1 rfl) ?_
      have hlt : en < 12 := by rw [h1, show (12 : Int32) = nI 12 from rfl, nI_ltI (by omega) (by omega)] at c_3; exact c_3
      refine dStI (j := en) h1 hx hb hC hS hW hlt (d) dX0_takeDigit_38 (fun H locs hW hS => ?_)
      refine lv_aload_n hx hb dX0_takeDigit_39 rfl (lv_at hl 0 rfl) ?_
      refine lv_dup hx hb dX0_takeDigit_40 rfl ?_
      refine gL (v := .int (σ.2.2.1 3)) hx hb hts hinX0 hown hC hW 4 (by decide) (by decide +kernel) rfl rfl dX0_takeDigit_41 ?_
      refine lv_iconst (v := 1) hx hb dX0_takeDigit_44 (by decide) ?_
      refine lv_iadd hx hb dX0_takeDigit_45 ?_
      refine pL (ty := .int) hx hb hts hinX0 hown hC hS hW 3 (by decide) (by decide +kernel) (by decide +kernel) ((σ.2.2.1 3 + 1)) rfl rfl dX0_takeDigit_46 (fun H locs hW hS => ?_)
      refine lv_aload_n hx hb dX0_takeDigit_49 rfl (lv_at hl 0 rfl) ?_
      refine lv_aload_n hx hb dX0_takeDigit_50 rfl (lv_at hl 0 rfl) ?_
      refine vp_callSi (va_Run.run (va_runV (As := []) (rest := [.ref (gA g 2)]) ⟨hx, hb, hml, hown, hts⟩ (mtX0_endsInCode l g ((σ.1, σ.2.1, upd σ.2.2.1 3 ((σ.2.2.1 3 + 1)), upd σ.2.2.2 en d)) μ o (en + 1) cl (by simp [upd, h1, nI_1]) (by simp [upd, h2]) (by omega) h4) (cwV 0 hts gX0_takeDigit_X0_endsInCode rfl rfl rfl (by decide +kernel) ⟨Nat.le_of_ble_eq_true rfl, Nat.le_of_ble_eq_true rfl⟩) ⟨PW.blind, rcL hC hW, fun U hU hW9 => ⟨rfl, PW.at hC hS hW U hU hW9⟩⟩ rfl rfl hl.1 rfl (lv_room (Nat.le_of_ble_eq_true rfl)) dX0_takeDigit_51 ⟨Nat.le_of_ble_eq_true rfl, Nat.le_of_ble_eq_true rfl⟩)) (fun r_5 h_4 => ?_)
      obtain rfl : r_5 = bI (ec (upd σ.2.2.2 en d) (en + 1) cl (σ.2.2.1 1)) := h_4
      refine lv_if_ne (tgt := 61) hx hb dX0_takeDigit_54 (by decide) (fun c_6 => ?_) (fun c_6 => ?_)
      · skip
        replace c_6 := bI_n0.mp c_6
        refine lv_iconst (v := 0) hx hb dX0_takeDigit_61 (by decide) ?_
        refine pL (ty := .boolean) hx hb hts hinX0 hown hC hS hW 0 (by decide) (by decide +kernel) (by decide +kernel) (0) rfl rfl dX0_takeDigit_62 (fun H locs hW hS => ?_)
        refine lv_aload_n hx hb dX0_takeDigit_65 rfl (lv_at hl 0 rfl) ?_
        refine gL (v := .int ((upd (upd σ.2.2.1 3 ((σ.2.2.1 3 + 1))) 0 0) 0)) hx hb hts hinX0 hown hC hW 1 (by decide) (by decide +kernel) rfl rfl dX0_takeDigit_66 ?_
        refine lv_if_ne (tgt := 76) hx hb dX0_takeDigit_69 (by decide) (fun c_7 => ?_) (fun c_7 => ?_)
        · skip
          exact absurd (by simp [upd]) c_7
        · skip
          refine lv_iconst (v := 1) hx hb dX0_takeDigit_72 (by decide) ?_
          refine lv_goto (tgt := 77) hx hb dX0_takeDigit_73 (by decide) ?_
          refine vx_ret (W.widen (k := 1) (n := 6) (Nat.le_of_ble_eq_true rfl) (Nat.le_of_ble_eq_true rfl) ?_)
          exact W.zret (v := 1) (ty := .boolean) hx hb hr rfl (fun t ht hW9 => ⟨⟨_, (), rfl, ⟨c_1, c_3, by simp [bI, c_6]⟩, by dsimp only; rw [ht, c_6]; exact hW⟩, hS.F ht⟩) hS.2.2 dX0_takeDigit_77
      · skip
        replace c_6 := bI_0.mp c_6
        refine lv_iconst (v := 1) hx hb dX0_takeDigit_57 (by decide) ?_
        refine lv_goto (tgt := 62) hx hb dX0_takeDigit_58 (by decide) ?_
        refine pL (ty := .boolean) hx hb hts hinX0 hown hC hS hW 0 (by decide) (by decide +kernel) (by decide +kernel) (1) rfl rfl dX0_takeDigit_62 (fun H locs hW hS => ?_)
        refine lv_aload_n hx hb dX0_takeDigit_65 rfl (lv_at hl 0 rfl) ?_
        refine gL (v := .int ((upd (upd σ.2.2.1 3 ((σ.2.2.1 3 + 1))) 0 1) 0)) hx hb hts hinX0 hown hC hW 1 (by decide) (by decide +kernel) rfl rfl dX0_takeDigit_66 ?_
        refine lv_if_ne (tgt := 76) hx hb dX0_takeDigit_69 (by decide) (fun c_8 => ?_) (fun c_8 => ?_)
        · skip
          refine lv_iconst (v := 0) hx hb dX0_takeDigit_76 (by decide) ?_
          refine vx_ret (W.widen (k := 1) (n := 6) (Nat.le_of_ble_eq_true rfl) (Nat.le_of_ble_eq_true rfl) ?_)
          exact W.zret (v := 0) (ty := .boolean) hx hb hr rfl (fun t ht hW9 => ⟨⟨_, (), rfl, ⟨c_1, c_3, by simp [bI, c_6]⟩, by dsimp only; rw [ht, c_6]; exact hW⟩, hS.F ht⟩) hS.2.2 dX0_takeDigit_77
        · skip
          exact absurd c_8 (by simp [upd])
    · skip
      obtain ⟨sa_9, hsa_9⟩ := hC.2.1.2.1 (RX0, 34, "it is not locked, or too many digits were entered") (by decide +kernel)
      refine vx_throwS (own := RX0) (cls := xIS) (text := "it is not locked, or too many digits were entered") (names := ["java/lang/RuntimeException", "java/lang/Exception"]) (ik := 32) (is := 34) (ic := 36) (sa := sa_9) (A := Az g) hx hb hfl hown (by decide +kernel) (by decide +kernel) (hts (.classLink RX0 32 "java/lang/IllegalStateException") (by decide +kernel)) (hts (.initialized "java/lang/IllegalStateException") (by decide +kernel)) hsa_9 (vx_hat (B := xwB xIS) (fun w h => hts w (hxw36 w h)) (by decide +kernel) (cast_w hC.2.1 (by decide +kernel))) (by decide +kernel) hC.2.2.1.1 hC.2.2.1.2 hS (hl.1.trans hml.symm) dX0_takeDigit_19 dX0_takeDigit_22 dX0_takeDigit_23 dX0_takeDigit_25 dX0_takeDigit_28 (fun x h => (hxt x h).elim) (Nat.le_of_ble_eq_true rfl) (Nat.le_of_ble_eq_true rfl) (Nat.le_of_ble_eq_true rfl) (Nat.le_of_ble_eq_true rfl) hlocks (fun t9 hv9 hz9 hq9 => ⟨(), trivial, ⟨⟨rfl, Or.inr c_3⟩, Wd_up hW hz9 hq9⟩, va_F_up hS hz9 hq9⟩) hS.2.2 (Nat.le_of_ble_eq_true rfl) (Nat.le_of_ble_eq_true rfl)
set_option maxHeartbeats 4000000 in
set_option maxRecDepth 100000 in
theorem mtX2_enter (l : Launch) (hfl : l.stackTraces = false) (g : Ge) (σ : Sg) (μ : Mg) (o : Nat → Int64) (d : Int32) (en cl : Nat) (h1 : σ.2.2.1 3 = nI en) (h2 : σ.2.2.1 2 = nI cl) (h3 : en ≤ 12) (h4 : cl ≤ 12) : vx_Met l yX2_enter wsX2_enter ({ frames := 7, cells := 2, slots := 12, locals := 111 } : Room) (va_Pc [.ref (gA g 0), .int d] (PW g σ μ o)) (va_Qi (S := Unit) (fun r _ => kEn σ d = 0 ∧ r = bI (ec (upd σ.2.2.2 en d) (en + 1) cl (σ.2.2.1 1))) (fun _ t => Wd g (σ.1, σ.2.1, upd (upd σ.2.2.1 3 (σ.2.2.1 3 + 1)) 0 (bI (!ec (upd σ.2.2.2 en d) (en + 1) cl (σ.2.2.1 1))), upd σ.2.2.2 en d) μ o t.heap) (Az g)) (vx_X (S := Unit) (fun _ => True) (fun E _ t => ((E = xIA ∧ kEn σ d = 1) ∨ (E = xIS ∧ kEn σ d = 2)) ∧ Wd g σ μ o t.heap) (Az g)) 2 12 (Az g) := by
  refine vx_ofW (cc := cX2_enter) (maxL := 2) (ret := (some .boolean)) (by decide) rfl ?_
  intro p e s m args below meth c s₁ B hml hxt hv
  obtain ⟨rfl, hC, hW⟩ := hv
  have hx := B.exec
  have hb := B.bytes
  have hr := B.returns
  have hts := atoms_spec (ws := wsX2_enter) B.pre
  have hown : s.vm.findClass RX2 = some m.cls := findClass_of_methodNamed B.named
  have hlocks := B.notSynchronized
  have hinX2 : ∀ w ∈ wsX20, w ∈ wsX2_enter := by decide +kernel
  have hxw54 : ∀ w ∈ (vx_atS RX2 54 "java/lang/IllegalArgumentException" ["java/lang/RuntimeException", "java/lang/Exception"]).filter goodWord, w ∈ wsX2_enter := by decide +kernel
  have hS : va_S (Az g) s.heap s.heap [] := va_S.rf
  have hl := lv_entry ([.ref (gA g 0), .int d]) (n := 2) (Nat.le_of_ble_eq_true rfl)
  rw [lg_entry_eq]
  generalize (lg_sl ([.ref (gA g 0), .int d]) ++ List.replicate (2 - (lg_sl ([.ref (gA g 0), .int d])).length) Slot.unset).toArray = ls at hl ⊢
  have hl : lv_has ls 2 [(0, .ref (gA g 0)), (1, .int d)] := hl
  refine lv_iload_n hx hb dX2_enter_0 rfl (lv_at hl 1 rfl) ?_
  refine lv_iconst (v := 0) hx hb dX2_enter_1 (by decide) ?_
  refine lv_bipush (v := 9) hx hb dX2_enter_2 (by decide) ?_
  refine vp_callSi (va_Run.run (va_runS (As := [.int d, .int 0, .int 9]) (rest := []) ⟨hx, hb, hml, hown, hts⟩ (mtX2_isWithin l d 0 9) (va_cwS 3 hts gX2_enter_X2_isWithin rfl rfl rfl (by decide +kernel) ⟨Nat.le_of_ble_eq_true rfl, Nat.le_of_ble_eq_true rfl⟩) ⟨P0.blind, fun U hU hW9 => ⟨rfl, trivial⟩⟩ rfl rfl hl.1 rfl (lv_room (Nat.le_of_ble_eq_true rfl)) dX2_enter_4 ⟨Nat.le_of_ble_eq_true rfl, Nat.le_of_ble_eq_true rfl⟩)) (fun r_2 h_1 => ?_)
  obtain rfl : r_2 = bI (wi d 0 9) := h_1
  refine lv_if_ne (tgt := 20) hx hb dX2_enter_7 (by decide) (fun c_3 => ?_) (fun c_3 => ?_)
  · skip
    replace c_3 := bI_n0.mp c_3
    refine lv_aload_n hx hb dX2_enter_20 rfl (lv_at hl 0 rfl) ?_
    refine gB (v := .ref (gA g 2)) hx hb hts hinX2 hown hC hW 1 (by decide) (by decide +kernel) rfl rfl dX2_enter_21 ?_
    refine lv_iload_n hx hb dX2_enter_24 rfl (lv_at hl 1 rfl) ?_
    refine vx_calli (vx_runVN (As := [.int d]) (rest := []) ⟨hx, hb, hml, hown, hts⟩ (mtX0_takeDigit l hfl g σ μ o d en cl h1 h2 h3 h4) ⟨(va_cnB (host := "BootChooser") 1 hts gX2_enter_X0_takeDigit_n141 rfl rfl rfl (va_Nw.of (A := #[]) rfl (hC.2.1.nest (w := .methodLinkNest RX2 141 yX0_takeDigit "BootChooser") (by decide +kernel) rfl)) (hts (.initialized RX0) (by decide +kernel)) (by decide +kernel) ⟨Nat.le_of_ble_eq_true rfl, Nat.le_of_ble_eq_true rfl⟩), (hts (.instanceMethod yX0_takeDigit) (by decide +kernel)), (hts (.selects RX0 yX0_takeDigit yX0_takeDigit) (by decide +kernel))⟩ ⟨PW.blind, rcL hC hW, fun U hU hW9 => ⟨rfl, PW.at hC hS hW U hU hW9⟩⟩ rfl rfl hl.1 rfl (lv_room (Nat.le_of_ble_eq_true rfl)) dX2_enter_25 ⟨Nat.le_of_ble_eq_true rfl, Nat.le_of_ble_eq_true rfl⟩) hS (fun _ _ h => h) (fun _ h => h) (fun _ _ h => h) (fun E9 ce q9 u_6 t H locs ht hvm hpx hbx hz9 hk9 hS hce hcv hcl => ?_) (fun r_5 u_6 t H locs ht hvm h_4 hW hz9 hk9 hS => ?_)
    · skip
      obtain ⟨hbq, hbw⟩ := hbx
      try dsimp only at hbq
      replace hbw : Wd g σ μ o H := by rw [← ht]; exact hbw
      refine vx_out (fun x h => (hxt x h).elim) hlocks hce hcv hcl (fun t9 ht9 hv9 => ⟨(), trivial, ⟨Or.inr ⟨hbq.1, by have hq9 := hbq.2; rcases hq9 with hq9 | hq9 <;> simp [kEn, hq9, c_3]⟩, by first | (rw [ht9]; exact hbw) | (dsimp only; rw [ht9]; exact hbw)⟩, hS.F ht9⟩) hS.2.2 (Nat.le_of_ble_eq_true rfl) (Nat.le_of_ble_eq_true rfl)
    · skip
      replace hW : Wd g ((σ.1, σ.2.1, upd (upd σ.2.2.1 3 (σ.2.2.1 3 + 1)) 0 (bI (!ec (upd σ.2.2.2 en d) (en + 1) cl (σ.2.2.1 1))), upd σ.2.2.2 en d)) μ o H := by rw [← ht]; exact hW
      try dsimp only at h_4
      obtain ⟨p_8, p_9, rfl⟩ := h_4
      refine vx_ret (W.widen (k := 2) (n := 12) (Nat.le_of_ble_eq_true rfl) (Nat.le_of_ble_eq_true rfl) ?_)
      exact W.zret (v := (bI (ec (upd σ.2.2.2 en d) (en + 1) cl (σ.2.2.1 1)))) (ty := .boolean) hx hb hr (bI_nar _) (fun t ht hW9 => ⟨⟨_, (), rfl, ⟨by simp [kEn, c_3, p_8, p_9], rfl⟩, by first | (rw [ht]; exact hW) | (dsimp only; rw [ht]; exact hW)⟩, hS.F ht⟩) hS.2.2 dX2_enter_28
  · skip
    replace c_3 := bI_0.mp c_3
    obtain ⟨sa_10, hsa_10⟩ := hC.2.1.2.1 (RX2, 139, "digit is out of range") (by decide +kernel)
    refine vx_throwS (own := RX2) (cls := xIA) (text := "digit is out of range") (names := ["java/lang/RuntimeException", "java/lang/Exception"]) (ik := 50) (is := 139) (ic := 54) (sa := sa_10) (A := Az g) hx hb hfl hown (by decide +kernel) (by decide +kernel) (hts (.classLink RX2 50 "java/lang/IllegalArgumentException") (by decide +kernel)) (hts (.initialized "java/lang/IllegalArgumentException") (by decide +kernel)) hsa_10 (vx_hat (B := xwB xIA) (fun w h => hts w (hxw54 w h)) (by decide +kernel) (cast_w hC.2.1 (by decide +kernel))) (by decide +kernel) hC.2.2.1.1 hC.2.2.1.2 hS (hl.1.trans hml.symm) dX2_enter_10 dX2_enter_13 dX2_enter_14 dX2_enter_16 dX2_enter_19 (fun x h => (hxt x h).elim) (Nat.le_of_ble_eq_true rfl) (Nat.le_of_ble_eq_true rfl) (Nat.le_of_ble_eq_true rfl) (Nat.le_of_ble_eq_true rfl) hlocks (fun t9 hv9 hz9 hq9 => ⟨(), trivial, ⟨Or.inl ⟨rfl, by simp [kEn, c_3]⟩, Wd_up hW hz9 hq9⟩, va_F_up hS hz9 hq9⟩) hS.2.2 (Nat.le_of_ble_eq_true rfl) (Nat.le_of_ble_eq_true rfl)
