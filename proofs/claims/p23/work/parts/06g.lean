set_option maxHeartbeats 4000000 in
set_option maxRecDepth 100000 in
theorem mtX2_add (l : Launch) (hfl : l.stackTraces = false) (g : Ge) (σ : Sg) (μ : Mg) (o : Nat → Int64) (kind name ver mark tr : Int32) : vx_Met l yX2_add wsX2_add ({ frames := 6, cells := 1, slots := 6, locals := 90 } : Room) (va_Pc [.ref (gA g 0), .int kind, .int name, .int ver, .int mark, .int tr] (PW g σ μ o)) (va_Qi (S := Nat) (fun r u => kAdd σ kind name ver mark tr = 0 ∧ fs (frP σ.2.1) 16 = some u ∧ r = σ.1 0) (fun u t => Wd g (upd σ.1 0 (σ.1 0 + 1), up2 σ.2.1 u (flE (σ.2.1 u) (σ.1 0) kind name ver mark tr), σ.2.2) μ o t.heap) (Az g)) (vx_X (S := Unit) (fun _ => True) (fun E _ t => ((E = xIA ∧ kAdd σ kind name ver mark tr = 1) ∨ (E = xIS ∧ kAdd σ kind name ver mark tr = 2)) ∧ Wd g σ μ o t.heap) (Az g)) 1 6 (Az g) := by
  refine vx_ofW (cc := cX2_add) (maxL := 7) (ret := (some .int)) (by decide) rfl ?_
  intro p e s m args below meth c s₁ B hml hxt hv
  obtain ⟨rfl, hC, hW⟩ := hv
  have hx := B.exec
  have hb := B.bytes
  have hr := B.returns
  have hts := atoms_spec (ws := wsX2_add) B.pre
  have hown : s.vm.findClass RX2 = some m.cls := findClass_of_methodNamed B.named
  have hlocks := B.notSynchronized
  have hinX1 : ∀ w ∈ wsX10, w ∈ wsX2_add := by decide +kernel
  have hinX2 : ∀ w ∈ wsX20, w ∈ wsX2_add := by decide +kernel
  have hxw67 : ∀ w ∈ (vx_atS RX2 67 "java/lang/IllegalStateException" ["java/lang/RuntimeException", "java/lang/Exception"]).filter goodWord, w ∈ wsX2_add := by decide +kernel
  have hxw54 : ∀ w ∈ (vx_atS RX2 54 "java/lang/IllegalArgumentException" ["java/lang/RuntimeException", "java/lang/Exception"]).filter goodWord, w ∈ wsX2_add := by decide +kernel
  have hS : va_S (Az g) s.heap s.heap [] := va_S.rf
  have hl := lv_entry ([.ref (gA g 0), .int kind, .int name, .int ver, .int mark, .int tr]) (n := 7) (Nat.le_of_ble_eq_true rfl)
  rw [lg_entry_eq]
  generalize (lg_sl ([.ref (gA g 0), .int kind, .int name, .int ver, .int mark, .int tr]) ++ List.replicate (7 - (lg_sl ([.ref (gA g 0), .int kind, .int name, .int ver, .int mark, .int tr])).length) Slot.unset).toArray = ls at hl ⊢
  have hl : lv_has ls 7 [(0, .ref (gA g 0)), (1, .int kind), (2, .int name), (3, .int ver), (4, .int mark), (5, .int tr)] := hl
  refine lv_iload_n hx hb dX2_add_0 rfl (lv_at hl 1 rfl) ?_
  refine lv_iconst (v := 0) hx hb dX2_add_1 (by decide) ?_
  refine lv_iconst (v := 2) hx hb dX2_add_2 (by decide) ?_
  refine vp_callSi (va_Run.run (va_runS (As := [.int kind, .int 0, .int 2]) (rest := []) ⟨hx, hb, hml, hown, hts⟩ (mtX2_isWithin l kind 0 2) (va_cwS 3 hts gX2_add_X2_isWithin rfl rfl rfl (by decide +kernel) ⟨Nat.le_of_ble_eq_true rfl, Nat.le_of_ble_eq_true rfl⟩) ⟨P0.blind, fun U hU hW9 => ⟨rfl, trivial⟩⟩ rfl rfl hl.1 rfl (lv_room (Nat.le_of_ble_eq_true rfl)) dX2_add_3 ⟨Nat.le_of_ble_eq_true rfl, Nat.le_of_ble_eq_true rfl⟩)) (fun r_2 h_1 => ?_)
  obtain rfl : r_2 = bI (wi kind 0 2) := h_1
  refine lv_if_eq (tgt := 39) hx hb dX2_add_6 (by decide) (fun c_3 => ?_) (fun c_3 => ?_)
  · skip
    replace c_3 := bI_0.mp c_3
    obtain ⟨sa_4, hsa_4⟩ := hC.2.1.2.1 (RX2, 52, "kind, name, version or mark is out of range") (by decide +kernel)
    refine vx_throwS (own := RX2) (cls := xIA) (text := "kind, name, version or mark is out of range") (names := ["java/lang/RuntimeException", "java/lang/Exception"]) (ik := 50) (is := 52) (ic := 54) (sa := sa_4) (A := Az g) hx hb hfl hown (by decide +kernel) (by decide +kernel) (hts (.classLink RX2 50 "java/lang/IllegalArgumentException") (by decide +kernel)) (hts (.initialized "java/lang/IllegalArgumentException") (by decide +kernel)) hsa_4 (vx_hat (B := xwB xIA) (fun w h => hts w (hxw54 w h)) (by decide +kernel) (cast_w hC.2.1 (by decide +kernel))) (by decide +kernel) hC.2.2.1.1 hC.2.2.1.2 hS (hl.1.trans hml.symm) dX2_add_39 dX2_add_42 dX2_add_43 dX2_add_45 dX2_add_48 (fun x h => (hxt x h).elim) (Nat.le_of_ble_eq_true rfl) (Nat.le_of_ble_eq_true rfl) (Nat.le_of_ble_eq_true rfl) (Nat.le_of_ble_eq_true rfl) hlocks (fun t9 hv9 hz9 hq9 => ⟨(), trivial, ⟨Or.inl ⟨rfl, by simp [kAdd, okA, c_3]⟩, Wd_up hW hz9 hq9⟩, va_F_up hS hz9 hq9⟩) hS.2.2 (Nat.le_of_ble_eq_true rfl) (Nat.le_of_ble_eq_true rfl)
  · skip
    replace c_3 := bI_n0.mp c_3
    refine lv_iload_n hx hb dX2_add_9 rfl (lv_at hl 2 rfl) ?_
    refine lv_iconst (v := 0) hx hb dX2_add_10 (by decide) ?_
    refine lv_bipush (v := 99) hx hb dX2_add_11 (by decide) ?_
    refine vp_callSi (va_Run.run (va_runS (As := [.int name, .int 0, .int 99]) (rest := []) ⟨hx, hb, hml, hown, hts⟩ (mtX2_isWithin l name 0 99) (va_cwS 3 hts gX2_add_X2_isWithin rfl rfl rfl (by decide +kernel) ⟨Nat.le_of_ble_eq_true rfl, Nat.le_of_ble_eq_true rfl⟩) ⟨P0.blind, fun U hU hW9 => ⟨rfl, trivial⟩⟩ rfl rfl hl.1 rfl (lv_room (Nat.le_of_ble_eq_true rfl)) dX2_add_13 ⟨Nat.le_of_ble_eq_true rfl, Nat.le_of_ble_eq_true rfl⟩)) (fun r_6 h_5 => ?_)
    obtain rfl : r_6 = bI (wi name 0 99) := h_5
    refine lv_if_eq (tgt := 39) hx hb dX2_add_16 (by decide) (fun c_7 => ?_) (fun c_7 => ?_)
    · skip
      replace c_7 := bI_0.mp c_7
      obtain ⟨sa_8, hsa_8⟩ := hC.2.1.2.1 (RX2, 52, "kind, name, version or mark is out of range") (by decide +kernel)
      refine vx_throwS (own := RX2) (cls := xIA) (text := "kind, name, version or mark is out of range") (names := ["java/lang/RuntimeException", "java/lang/Exception"]) (ik := 50) (is := 52) (ic := 54) (sa := sa_8) (A := Az g) hx hb hfl hown (by decide +kernel) (by decide +kernel) (hts (.classLink RX2 50 "java/lang/IllegalArgumentException") (by decide +kernel)) (hts (.initialized "java/lang/IllegalArgumentException") (by decide +kernel)) hsa_8 (vx_hat (B := xwB xIA) (fun w h => hts w (hxw54 w h)) (by decide +kernel) (cast_w hC.2.1 (by decide +kernel))) (by decide +kernel) hC.2.2.1.1 hC.2.2.1.2 hS (hl.1.trans hml.symm) dX2_add_39 dX2_add_42 dX2_add_43 dX2_add_45 dX2_add_48 (fun x h => (hxt x h).elim) (Nat.le_of_ble_eq_true rfl) (Nat.le_of_ble_eq_true rfl) (Nat.le_of_ble_eq_true rfl) (Nat.le_of_ble_eq_true rfl) hlocks (fun t9 hv9 hz9 hq9 => ⟨(), trivial, ⟨Or.inl ⟨rfl, by simp [kAdd, okA, c_3, c_7]⟩, Wd_up hW hz9 hq9⟩, va_F_up hS hz9 hq9⟩) hS.2.2 (Nat.le_of_ble_eq_true rfl) (Nat.le_of_ble_eq_true rfl)
    · skip
      replace c_7 := bI_n0.mp c_7
      refine lv_iload_n hx hb dX2_add_19 rfl (lv_at hl 3 rfl) ?_
      refine lv_iconst (v := 0) hx hb dX2_add_20 (by decide) ?_
      refine lv_ldc (v := 999999999) hx hb hown (hts (.constant RX2 49 (999999999)) (by decide +kernel)) dX2_add_21 ?_
      refine vp_callSi (va_Run.run (va_runS (As := [.int ver, .int 0, .int 999999999]) (rest := []) ⟨hx, hb, hml, hown, hts⟩ (mtX2_isWithin l ver 0 999999999) (va_cwS 3 hts gX2_add_X2_isWithin rfl rfl rfl (by decide +kernel) ⟨Nat.le_of_ble_eq_true rfl, Nat.le_of_ble_eq_true rfl⟩) ⟨P0.blind, fun U hU hW9 => ⟨rfl, trivial⟩⟩ rfl rfl hl.1 rfl (lv_room (Nat.le_of_ble_eq_true rfl)) dX2_add_23 ⟨Nat.le_of_ble_eq_true rfl, Nat.le_of_ble_eq_true rfl⟩)) (fun r_10 h_9 => ?_)
      obtain rfl : r_10 = bI (wi ver 0 999999999) := h_9
      refine lv_if_eq (tgt := 39) hx hb dX2_add_26 (by decide) (fun c_11 => ?_) (fun c_11 => ?_)
      · skip
        replace c_11 := bI_0.mp c_11
        obtain ⟨sa_12, hsa_12⟩ := hC.2.1.2.1 (RX2, 52, "kind, name, version or mark is out of range") (by decide +kernel)
        refine vx_throwS (own := RX2) (cls := xIA) (text := "kind, name, version or mark is out of range") (names := ["java/lang/RuntimeException", "java/lang/Exception"]) (ik := 50) (is := 52) (ic := 54) (sa := sa_12) (A := Az g) hx hb hfl hown (by decide +kernel) (by decide +kernel) (hts (.classLink RX2 50 "java/lang/IllegalArgumentException") (by decide +kernel)) (hts (.initialized "java/lang/IllegalArgumentException") (by decide +kernel)) hsa_12 (vx_hat (B := xwB xIA) (fun w h => hts w (hxw54 w h)) (by decide +kernel) (cast_w hC.2.1 (by decide +kernel))) (by decide +kernel) hC.2.2.1.1 hC.2.2.1.2 hS (hl.1.trans hml.symm) dX2_add_39 dX2_add_42 dX2_add_43 dX2_add_45 dX2_add_48 (fun x h => (hxt x h).elim) (Nat.le_of_ble_eq_true rfl) (Nat.le_of_ble_eq_true rfl) (Nat.le_of_ble_eq_true rfl) (Nat.le_of_ble_eq_true rfl) hlocks (fun t9 hv9 hz9 hq9 => ⟨(), trivial, ⟨Or.inl ⟨rfl, by simp [kAdd, okA, c_3, c_7, c_11]⟩, Wd_up hW hz9 hq9⟩, va_F_up hS hz9 hq9⟩) hS.2.2 (Nat.le_of_ble_eq_true rfl) (Nat.le_of_ble_eq_true rfl)
      · skip
        replace c_11 := bI_n0.mp c_11
        refine lv_iload hx hb dX2_add_29 (lv_at hl 4 rfl) ?_
        refine lv_iconst (v := 0) hx hb dX2_add_31 (by decide) ?_
        refine lv_iconst (v := 2) hx hb dX2_add_32 (by decide) ?_
        refine vp_callSi (va_Run.run (va_runS (As := [.int mark, .int 0, .int 2]) (rest := []) ⟨hx, hb, hml, hown, hts⟩ (mtX2_isWithin l mark 0 2) (va_cwS 3 hts gX2_add_X2_isWithin rfl rfl rfl (by decide +kernel) ⟨Nat.le_of_ble_eq_true rfl, Nat.le_of_ble_eq_true rfl⟩) ⟨P0.blind, fun U hU hW9 => ⟨rfl, trivial⟩⟩ rfl rfl hl.1 rfl (lv_room (Nat.le_of_ble_eq_true rfl)) dX2_add_33 ⟨Nat.le_of_ble_eq_true rfl, Nat.le_of_ble_eq_true rfl⟩)) (fun r_14 h_13 => ?_)
        obtain rfl : r_14 = bI (wi mark 0 2) := h_13
        refine lv_if_ne (tgt := 49) hx hb dX2_add_36 (by decide) (fun c_15 => ?_) (fun c_15 => ?_)
        · skip
          replace c_15 := bI_n0.mp c_15
          refine lv_iload hx hb dX2_add_49 (lv_at hl 5 rfl) ?_
          refine lv_iconst (v := (-1)) hx hb dX2_add_51 (by decide) ?_
          refine lv_icmp_eq (tgt := 76) hx hb dX2_add_52 (by decide) (fun c_16 => ?_) (fun c_16 => ?_)
          · skip
            refine lv_aload_n hx hb dX2_add_76 rfl (lv_at hl 0 rfl) ?_
            refine va_csq (va_Run.run (va_runV (As := []) (rest := []) ⟨hx, hb, hml, hown, hts⟩ (mtX2_freeRow l g σ μ o ) (cwV 0 hts gX2_add_X2_freeRow rfl rfl rfl (by decide +kernel) ⟨Nat.le_of_ble_eq_true rfl, Nat.le_of_ble_eq_true rfl⟩) ⟨PW.blind, rcB hC hW, fun U hU hW9 => ⟨rfl, PW.at hC hS hW U hU hW9⟩⟩ rfl rfl hl.1 rfl (lv_room (Nat.le_of_ble_eq_true rfl)) dX2_add_77 ⟨Nat.le_of_ble_eq_true rfl, Nat.le_of_ble_eq_true rfl⟩)) (fun r_18 h_17 => ?_)
            replace h_17 : r_18 = (fs (frP σ.2.1) 16).map (fun j => gA g (13 + j)) := h_17
            rcases optc (fs (frP σ.2.1) 16) with f_19 | ⟨j_20, f_19⟩
            · skip
              obtain rfl : r_18 = none := by rw [h_17, f_19]; rfl
              refine lv_astoreN (lv' := [(6, .null), (0, .ref (gA g 0)), (1, .int kind), (2, .int name), (3, .int ver), (4, .int mark), (5, .int tr)]) hx hb dX2_add_80 hl (by decide) rfl (fun ls hl => ?_)
              refine lv_aloadN hx hb dX2_add_82 (lv_at hl 0 rfl) ?_
              refine lv_ifnullN (tgt := 96) hx hb dX2_add_84 (by decide) ?_
              obtain ⟨sa_21, hsa_21⟩ := hC.2.1.2.1 (RX2, 65, "there is no room for an entry") (by decide +kernel)
              refine vx_throwS (own := RX2) (cls := xIS) (text := "there is no room for an entry") (names := ["java/lang/RuntimeException", "java/lang/Exception"]) (ik := 63) (is := 65) (ic := 67) (sa := sa_21) (A := Az g) hx hb hfl hown (by decide +kernel) (by decide +kernel) (hts (.classLink RX2 63 "java/lang/IllegalStateException") (by decide +kernel)) (hts (.initialized "java/lang/IllegalStateException") (by decide +kernel)) hsa_21 (vx_hat (B := xwB xIS) (fun w h => hts w (hxw67 w h)) (by decide +kernel) (cast_w hC.2.1 (by decide +kernel))) (by decide +kernel) hC.2.2.1.1 hC.2.2.1.2 hS (hl.1.trans hml.symm) dX2_add_96 dX2_add_99 dX2_add_100 dX2_add_102 dX2_add_105 (fun x h => (hxt x h).elim) (Nat.le_of_ble_eq_true rfl) (Nat.le_of_ble_eq_true rfl) (Nat.le_of_ble_eq_true rfl) (Nat.le_of_ble_eq_true rfl) hlocks (fun t9 hv9 hz9 hq9 => ⟨(), trivial, ⟨Or.inr ⟨rfl, by simp [kAdd, okA, c_3, c_7, c_11, c_15, c_16, f_19]⟩, Wd_up hW hz9 hq9⟩, va_F_up hS hz9 hq9⟩) hS.2.2 (Nat.le_of_ble_eq_true rfl) (Nat.le_of_ble_eq_true rfl)
            · skip
              obtain rfl : r_18 = some (gA g (13 + j_20)) := by rw [h_17, f_19]; rfl
              have hj_20 : j_20 < 16 := fs_16 f_19
              refine lv_astore (lv' := [(6, .ref (gA g (13 + j_20))), (0, .ref (gA g 0)), (1, .int kind), (2, .int name), (3, .int ver), (4, .int mark), (5, .int tr)]) hx hb dX2_add_80 hl (by decide) rfl (fun ls hl => ?_)
              refine lv_aload hx hb dX2_add_82 (lv_at hl 0 rfl) ?_
              refine lv_ifnull hx hb dX2_add_84 ?_
              refine lv_aload_n hx hb dX2_add_87 rfl (lv_at hl 1 rfl) ?_
              refine gB (v := .int (σ.1 0)) hx hb hts hinX2 hown hC hW 2 (by decide) (by decide +kernel) rfl rfl dX2_add_88 ?_
              refine lv_bipush (v := 60) hx hb dX2_add_91 (by decide) ?_
              refine lv_icmp_lt (tgt := 106) hx hb dX2_add_93 (by decide) (fun c_22 => ?_) (fun c_22 => ?_)
              · skip
                refine lv_aload hx hb dX2_add_106 (lv_at hl 0 rfl) ?_
                refine lv_aload_n hx hb dX2_add_108 rfl (lv_at hl 1 rfl) ?_
                refine gB (v := .int (σ.1 0)) hx hb hts hinX2 hown hC hW 2 (by decide) (by decide +kernel) rfl rfl dX2_add_109 ?_
                refine lv_iload_n hx hb dX2_add_112 rfl (lv_at hl 2 rfl) ?_
                refine lv_iload_n hx hb dX2_add_113 rfl (lv_at hl 3 rfl) ?_
                refine lv_iload_n hx hb dX2_add_114 rfl (lv_at hl 4 rfl) ?_
                refine lv_iload hx hb dX2_add_115 (lv_at hl 5 rfl) ?_
                refine lv_iload hx hb dX2_add_117 (lv_at hl 6 rfl) ?_
                refine va_callv (va_runVN (As := [.int (σ.1 0), .int kind, .int name, .int ver, .int mark, .int tr]) (rest := []) ⟨hx, hb, hml, hown, hts⟩ (mtX1_fill l g σ μ o j_20 hj_20 (σ.1 0) kind name ver mark tr) ⟨(va_cnB (host := "BootChooser") 6 hts gX2_add_X1_fill_n68 rfl rfl rfl (va_Nw.of (A := #[]) rfl (hC.2.1.nest (w := .methodLinkNest RX2 68 yX1_fill "BootChooser") (by decide +kernel) rfl)) (hts (.initialized RX1) (by decide +kernel)) (by decide +kernel) ⟨Nat.le_of_ble_eq_true rfl, Nat.le_of_ble_eq_true rfl⟩), (hts (.instanceMethod yX1_fill) (by decide +kernel)), (hts (.selects RX1 yX1_fill yX1_fill) (by decide +kernel))⟩ ⟨PW.blind, rcE hC hW hj_20, fun U hU hW9 => ⟨rfl, PW.at hC hS hW U hU hW9⟩⟩ rfl rfl hl.1 rfl (lv_room (Nat.le_of_ble_eq_true rfl)) dX2_add_119 ⟨Nat.le_of_ble_eq_true rfl, Nat.le_of_ble_eq_true rfl⟩) hS (fun _ _ h => h) (fun _ h => h) (fun u_25 t H locs ht hvm h_23 hW hz9 hk9 hS => ?_)
                replace hW : Wd g ((σ.1, up2 σ.2.1 j_20 (flE (σ.2.1 j_20) (σ.1 0) kind name ver mark tr), σ.2.2.1, σ.2.2.2)) μ o H := by rw [← ht]; exact hW
                try dsimp only at h_23
                refine lv_aload_n hx hb dX2_add_122 rfl (lv_at hl 1 rfl) ?_
                refine lv_dup hx hb dX2_add_123 rfl ?_
                refine gB (v := .int (σ.1 0)) hx hb hts hinX2 hown hC hW 2 (by decide) (by decide +kernel) rfl rfl dX2_add_124 ?_
                refine lv_iconst (v := 1) hx hb dX2_add_127 (by decide) ?_
                refine lv_iadd hx hb dX2_add_128 ?_
                refine pB hx hb hts hinX2 hown hC hS hW 0 (by decide) (by decide +kernel) ((σ.1 0 + 1)) dX2_add_129 (fun H locs hW hS => ?_)
                refine lv_aload hx hb dX2_add_132 (lv_at hl 0 rfl) ?_
                refine gEn (v := .int ((up2 σ.2.1 j_20 (flE (σ.2.1 j_20) (σ.1 0) kind name ver mark tr)) j_20 1)) hx hb hts hinX1 hown hC hW hj_20 1 (by decide) (by decide +kernel) rfl rfl dX2_add_134 ?_
                refine vx_ret (W.widen (k := 1) (n := 6) (Nat.le_of_ble_eq_true rfl) (Nat.le_of_ble_eq_true rfl) ?_)
                exact W.iret (v := (up2 σ.2.1 j_20 (flE (σ.2.1 j_20) (σ.1 0) kind name ver mark tr)) j_20 1) hx hb hr (fun t ht hW9 => ⟨⟨_, j_20, rfl, ⟨by simp [kAdd, okA, c_3, c_7, c_11, c_15, c_16, f_19, c_22, h_23], f_19, by rw [up2_s]; simp [flE, upd]⟩, by first | (rw [ht]; exact hW) | (dsimp only; rw [ht]; exact hW)⟩, hS.F ht⟩) hS.2.2 dX2_add_137
              · skip
                obtain ⟨sa_27, hsa_27⟩ := hC.2.1.2.1 (RX2, 65, "there is no room for an entry") (by decide +kernel)
                refine vx_throwS (own := RX2) (cls := xIS) (text := "there is no room for an entry") (names := ["java/lang/RuntimeException", "java/lang/Exception"]) (ik := 63) (is := 65) (ic := 67) (sa := sa_27) (A := Az g) hx hb hfl hown (by decide +kernel) (by decide +kernel) (hts (.classLink RX2 63 "java/lang/IllegalStateException") (by decide +kernel)) (hts (.initialized "java/lang/IllegalStateException") (by decide +kernel)) hsa_27 (vx_hat (B := xwB xIS) (fun w h => hts w (hxw67 w h)) (by decide +kernel) (cast_w hC.2.1 (by decide +kernel))) (by decide +kernel) hC.2.2.1.1 hC.2.2.1.2 hS (hl.1.trans hml.symm) dX2_add_96 dX2_add_99 dX2_add_100 dX2_add_102 dX2_add_105 (fun x h => (hxt x h).elim) (Nat.le_of_ble_eq_true rfl) (Nat.le_of_ble_eq_true rfl) (Nat.le_of_ble_eq_true rfl) (Nat.le_of_ble_eq_true rfl) hlocks (fun t9 hv9 hz9 hq9 => ⟨(), trivial, ⟨Or.inr ⟨rfl, by simp [kAdd, okA, c_3, c_7, c_11, c_15, c_16, f_19, c_22]⟩, Wd_up hW hz9 hq9⟩, va_F_up hS hz9 hq9⟩) hS.2.2 (Nat.le_of_ble_eq_true rfl) (Nat.le_of_ble_eq_true rfl)
          · skip
            refine lv_iload hx hb dX2_add_55 (lv_at hl 5 rfl) ?_
            refine lv_iconst (v := 0) hx hb dX2_add_57 (by decide) ?_
            refine lv_bipush (v := 9) hx hb dX2_add_58 (by decide) ?_
            refine vp_callSi (va_Run.run (va_runS (As := [.int tr, .int 0, .int 9]) (rest := []) ⟨hx, hb, hml, hown, hts⟩ (mtX2_isWithin l tr 0 9) (va_cwS 3 hts gX2_add_X2_isWithin rfl rfl rfl (by decide +kernel) ⟨Nat.le_of_ble_eq_true rfl, Nat.le_of_ble_eq_true rfl⟩) ⟨P0.blind, fun U hU hW9 => ⟨rfl, trivial⟩⟩ rfl rfl hl.1 rfl (lv_room (Nat.le_of_ble_eq_true rfl)) dX2_add_60 ⟨Nat.le_of_ble_eq_true rfl, Nat.le_of_ble_eq_true rfl⟩)) (fun r_29 h_28 => ?_)
            obtain rfl : r_29 = bI (wi tr 0 9) := h_28
            refine lv_if_ne (tgt := 76) hx hb dX2_add_63 (by decide) (fun c_30 => ?_) (fun c_30 => ?_)
            · skip
              replace c_30 := bI_n0.mp c_30
              refine lv_aload_n hx hb dX2_add_76 rfl (lv_at hl 0 rfl) ?_
              refine va_csq (va_Run.run (va_runV (As := []) (rest := []) ⟨hx, hb, hml, hown, hts⟩ (mtX2_freeRow l g σ μ o ) (cwV 0 hts gX2_add_X2_freeRow rfl rfl rfl (by decide +kernel) ⟨Nat.le_of_ble_eq_true rfl, Nat.le_of_ble_eq_true rfl⟩) ⟨PW.blind, rcB hC hW, fun U hU hW9 => ⟨rfl, PW.at hC hS hW U hU hW9⟩⟩ rfl rfl hl.1 rfl (lv_room (Nat.le_of_ble_eq_true rfl)) dX2_add_77 ⟨Nat.le_of_ble_eq_true rfl, Nat.le_of_ble_eq_true rfl⟩)) (fun r_32 h_31 => ?_)
              replace h_31 : r_32 = (fs (frP σ.2.1) 16).map (fun j => gA g (13 + j)) := h_31
              rcases optc (fs (frP σ.2.1) 16) with f_33 | ⟨j_34, f_33⟩
              · skip
                obtain rfl : r_32 = none := by rw [h_31, f_33]; rfl
                refine lv_astoreN (lv' := [(6, .null), (0, .ref (gA g 0)), (1, .int kind), (2, .int name), (3, .int ver), (4, .int mark), (5, .int tr)]) hx hb dX2_add_80 hl (by decide) rfl (fun ls hl => ?_)
                refine lv_aloadN hx hb dX2_add_82 (lv_at hl 0 rfl) ?_
                refine lv_ifnullN (tgt := 96) hx hb dX2_add_84 (by decide) ?_
                obtain ⟨sa_35, hsa_35⟩ := hC.2.1.2.1 (RX2, 65, "there is no room for an entry") (by decide +kernel)
                refine vx_throwS (own := RX2) (cls := xIS) (text := "there is no room for an entry") (names := ["java/lang/RuntimeException", "java/lang/Exception"]) (ik := 63) (is := 65) (ic := 67) (sa := sa_35) (A := Az g) hx hb hfl hown (by decide +kernel) (by decide +kernel) (hts (.classLink RX2 63 "java/lang/IllegalStateException") (by decide +kernel)) (hts (.initialized "java/lang/IllegalStateException") (by decide +kernel)) hsa_35 (vx_hat (B := xwB xIS) (fun w h => hts w (hxw67 w h)) (by decide +kernel) (cast_w hC.2.1 (by decide +kernel))) (by decide +kernel) hC.2.2.1.1 hC.2.2.1.2 hS (hl.1.trans hml.symm) dX2_add_96 dX2_add_99 dX2_add_100 dX2_add_102 dX2_add_105 (fun x h => (hxt x h).elim) (Nat.le_of_ble_eq_true rfl) (Nat.le_of_ble_eq_true rfl) (Nat.le_of_ble_eq_true rfl) (Nat.le_of_ble_eq_true rfl) hlocks (fun t9 hv9 hz9 hq9 => ⟨(), trivial, ⟨Or.inr ⟨rfl, by simp [kAdd, okA, c_3, c_7, c_11, c_15, c_16, c_30, f_33]⟩, Wd_up hW hz9 hq9⟩, va_F_up hS hz9 hq9⟩) hS.2.2 (Nat.le_of_ble_eq_true rfl) (Nat.le_of_ble_eq_true rfl)
              · skip
                obtain rfl : r_32 = some (gA g (13 + j_34)) := by rw [h_31, f_33]; rfl
                have hj_34 : j_34 < 16 := fs_16 f_33
                refine lv_astore (lv' := [(6, .ref (gA g (13 + j_34))), (0, .ref (gA g 0)), (1, .int kind), (2, .int name), (3, .int ver), (4, .int mark), (5, .int tr)]) hx hb dX2_add_80 hl (by decide) rfl (fun ls hl => ?_)
                refine lv_aload hx hb dX2_add_82 (lv_at hl 0 rfl) ?_
                refine lv_ifnull hx hb dX2_add_84 ?_
                refine lv_aload_n hx hb dX2_add_87 rfl (lv_at hl 1 rfl) ?_
                refine gB (v := .int (σ.1 0)) hx hb hts hinX2 hown hC hW 2 (by decide) (by decide +kernel) rfl rfl dX2_add_88 ?_
                refine lv_bipush (v := 60) hx hb dX2_add_91 (by decide) ?_
                refine lv_icmp_lt (tgt := 106) hx hb dX2_add_93 (by decide) (fun c_36 => ?_) (fun c_36 => ?_)
                · skip
                  refine lv_aload hx hb dX2_add_106 (lv_at hl 0 rfl) ?_
                  refine lv_aload_n hx hb dX2_add_108 rfl (lv_at hl 1 rfl) ?_
                  refine gB (v := .int (σ.1 0)) hx hb hts hinX2 hown hC hW 2 (by decide) (by decide +kernel) rfl rfl dX2_add_109 ?_
                  refine lv_iload_n hx hb dX2_add_112 rfl (lv_at hl 2 rfl) ?_
                  refine lv_iload_n hx hb dX2_add_113 rfl (lv_at hl 3 rfl) ?_
                  refine lv_iload_n hx hb dX2_add_114 rfl (lv_at hl 4 rfl) ?_
                  refine lv_iload hx hb dX2_add_115 (lv_at hl 5 rfl) ?_
                  refine lv_iload hx hb dX2_add_117 (lv_at hl 6 rfl) ?_
                  refine va_callv (va_runVN (As := [.int (σ.1 0), .int kind, .int name, .int ver, .int mark, .int tr]) (rest := []) ⟨hx, hb, hml, hown, hts⟩ (mtX1_fill l g σ μ o j_34 hj_34 (σ.1 0) kind name ver mark tr) ⟨(va_cnB (host := "BootChooser") 6 hts gX2_add_X1_fill_n68 rfl rfl rfl (va_Nw.of (A := #[]) rfl (hC.2.1.nest (w := .methodLinkNest RX2 68 yX1_fill "BootChooser") (by decide +kernel) rfl)) (hts (.initialized RX1) (by decide +kernel)) (by decide +kernel) ⟨Nat.le_of_ble_eq_true rfl, Nat.le_of_ble_eq_true rfl⟩), (hts (.instanceMethod yX1_fill) (by decide +kernel)), (hts (.selects RX1 yX1_fill yX1_fill) (by decide +kernel))⟩ ⟨PW.blind, rcE hC hW hj_34, fun U hU hW9 => ⟨rfl, PW.at hC hS hW U hU hW9⟩⟩ rfl rfl hl.1 rfl (lv_room (Nat.le_of_ble_eq_true rfl)) dX2_add_119 ⟨Nat.le_of_ble_eq_true rfl, Nat.le_of_ble_eq_true rfl⟩) hS (fun _ _ h => h) (fun _ h => h) (fun u_39 t H locs ht hvm h_37 hW hz9 hk9 hS => ?_)
                  replace hW : Wd g ((σ.1, up2 σ.2.1 j_34 (flE (σ.2.1 j_34) (σ.1 0) kind name ver mark tr), σ.2.2.1, σ.2.2.2)) μ o H := by rw [← ht]; exact hW
                  try dsimp only at h_37
                  refine lv_aload_n hx hb dX2_add_122 rfl (lv_at hl 1 rfl) ?_
                  refine lv_dup hx hb dX2_add_123 rfl ?_
                  refine gB (v := .int (σ.1 0)) hx hb hts hinX2 hown hC hW 2 (by decide) (by decide +kernel) rfl rfl dX2_add_124 ?_
                  refine lv_iconst (v := 1) hx hb dX2_add_127 (by decide) ?_
                  refine lv_iadd hx hb dX2_add_128 ?_
                  refine pB hx hb hts hinX2 hown hC hS hW 0 (by decide) (by decide +kernel) ((σ.1 0 + 1)) dX2_add_129 (fun H locs hW hS => ?_)
                  refine lv_aload hx hb dX2_add_132 (lv_at hl 0 rfl) ?_
                  refine gEn (v := .int ((up2 σ.2.1 j_34 (flE (σ.2.1 j_34) (σ.1 0) kind name ver mark tr)) j_34 1)) hx hb hts hinX1 hown hC hW hj_34 1 (by decide) (by decide +kernel) rfl rfl dX2_add_134 ?_
                  refine vx_ret (W.widen (k := 1) (n := 6) (Nat.le_of_ble_eq_true rfl) (Nat.le_of_ble_eq_true rfl) ?_)
                  exact W.iret (v := (up2 σ.2.1 j_34 (flE (σ.2.1 j_34) (σ.1 0) kind name ver mark tr)) j_34 1) hx hb hr (fun t ht hW9 => ⟨⟨_, j_34, rfl, ⟨by simp [kAdd, okA, c_3, c_7, c_11, c_15, c_16, c_30, f_33, c_36, h_37], f_33, by rw [up2_s]; simp [flE, upd]⟩, by first | (rw [ht]; exact hW) | (dsimp only; rw [ht]; exact hW)⟩, hS.F ht⟩) hS.2.2 dX2_add_137
                · skip
                  obtain ⟨sa_41, hsa_41⟩ := hC.2.1.2.1 (RX2, 65, "there is no room for an entry") (by decide +kernel)
                  refine vx_throwS (own := RX2) (cls := xIS) (text := "there is no room for an entry") (names := ["java/lang/RuntimeException", "java/lang/Exception"]) (ik := 63) (is := 65) (ic := 67) (sa := sa_41) (A := Az g) hx hb hfl hown (by decide +kernel) (by decide +kernel) (hts (.classLink RX2 63 "java/lang/IllegalStateException") (by decide +kernel)) (hts (.initialized "java/lang/IllegalStateException") (by decide +kernel)) hsa_41 (vx_hat (B := xwB xIS) (fun w h => hts w (hxw67 w h)) (by decide +kernel) (cast_w hC.2.1 (by decide +kernel))) (by decide +kernel) hC.2.2.1.1 hC.2.2.1.2 hS (hl.1.trans hml.symm) dX2_add_96 dX2_add_99 dX2_add_100 dX2_add_102 dX2_add_105 (fun x h => (hxt x h).elim) (Nat.le_of_ble_eq_true rfl) (Nat.le_of_ble_eq_true rfl) (Nat.le_of_ble_eq_true rfl) (Nat.le_of_ble_eq_true rfl) hlocks (fun t9 hv9 hz9 hq9 => ⟨(), trivial, ⟨Or.inr ⟨rfl, by simp [kAdd, okA, c_3, c_7, c_11, c_15, c_16, c_30, f_33, c_36]⟩, Wd_up hW hz9 hq9⟩, va_F_up hS hz9 hq9⟩) hS.2.2 (Nat.le_of_ble_eq_true rfl) (Nat.le_of_ble_eq_true rfl)
            · skip
              replace c_30 := bI_0.mp c_30
              obtain ⟨sa_42, hsa_42⟩ := hC.2.1.2.1 (RX2, 57, "tries is out of range") (by decide +kernel)
              refine vx_throwS (own := RX2) (cls := xIA) (text := "tries is out of range") (names := ["java/lang/RuntimeException", "java/lang/Exception"]) (ik := 50) (is := 57) (ic := 54) (sa := sa_42) (A := Az g) hx hb hfl hown (by decide +kernel) (by decide +kernel) (hts (.classLink RX2 50 "java/lang/IllegalArgumentException") (by decide +kernel)) (hts (.initialized "java/lang/IllegalArgumentException") (by decide +kernel)) hsa_42 (vx_hat (B := xwB xIA) (fun w h => hts w (hxw54 w h)) (by decide +kernel) (cast_w hC.2.1 (by decide +kernel))) (by decide +kernel) hC.2.2.1.1 hC.2.2.1.2 hS (hl.1.trans hml.symm) dX2_add_66 dX2_add_69 dX2_add_70 dX2_add_72 dX2_add_75 (fun x h => (hxt x h).elim) (Nat.le_of_ble_eq_true rfl) (Nat.le_of_ble_eq_true rfl) (Nat.le_of_ble_eq_true rfl) (Nat.le_of_ble_eq_true rfl) hlocks (fun t9 hv9 hz9 hq9 => ⟨(), trivial, ⟨Or.inl ⟨rfl, by simp [kAdd, okA, c_3, c_7, c_11, c_15, c_16, c_30]⟩, Wd_up hW hz9 hq9⟩, va_F_up hS hz9 hq9⟩) hS.2.2 (Nat.le_of_ble_eq_true rfl) (Nat.le_of_ble_eq_true rfl)
        · skip
          replace c_15 := bI_0.mp c_15
          obtain ⟨sa_43, hsa_43⟩ := hC.2.1.2.1 (RX2, 52, "kind, name, version or mark is out of range") (by decide +kernel)
          refine vx_throwS (own := RX2) (cls := xIA) (text := "kind, name, version or mark is out of range") (names := ["java/lang/RuntimeException", "java/lang/Exception"]) (ik := 50) (is := 52) (ic := 54) (sa := sa_43) (A := Az g) hx hb hfl hown (by decide +kernel) (by decide +kernel) (hts (.classLink RX2 50 "java/lang/IllegalArgumentException") (by decide +kernel)) (hts (.initialized "java/lang/IllegalArgumentException") (by decide +kernel)) hsa_43 (vx_hat (B := xwB xIA) (fun w h => hts w (hxw54 w h)) (by decide +kernel) (cast_w hC.2.1 (by decide +kernel))) (by decide +kernel) hC.2.2.1.1 hC.2.2.1.2 hS (hl.1.trans hml.symm) dX2_add_39 dX2_add_42 dX2_add_43 dX2_add_45 dX2_add_48 (fun x h => (hxt x h).elim) (Nat.le_of_ble_eq_true rfl) (Nat.le_of_ble_eq_true rfl) (Nat.le_of_ble_eq_true rfl) (Nat.le_of_ble_eq_true rfl) hlocks (fun t9 hv9 hz9 hq9 => ⟨(), trivial, ⟨Or.inl ⟨rfl, by simp [kAdd, okA, c_3, c_7, c_11, c_15]⟩, Wd_up hW hz9 hq9⟩, va_F_up hS hz9 hq9⟩) hS.2.2 (Nat.le_of_ble_eq_true rfl) (Nat.le_of_ble_eq_true rfl)
