theorem ctor2_blind {av : List Value} {D : va_G} {tys : List (ClassId × FieldType)} {w : va_W} {z : Nat} : FrameBlind (va_Pc av (fun U => va_K D vwCl tys U ∧ va_P D vwCl w U.heap ∧ va_D (Zf z) w ∧ z ≤ U.heap.size ∧ (va_AO "BootChooser$Entry" U ∧ va_Nw (.methodLinkNest RX2 17 yX0_init "BootChooser") U ∧ va_Nw (.methodLinkNest RX2 44 yX1_init "BootChooser") U))) := fun a U g mk q => by
  obtain ⟨q0, qK, qP, qD, qz, qA, qN, qM⟩ := q
  exact ⟨q0, va_K.moved (u := U) (U := U.calling g mk a) (Vm.Alike.refl U.vm) qK, qP, qD, qz, va_AO.moved (u := U) (U := U.calling g mk a) (Vm.Alike.refl U.vm) qA, va_Nw.same rfl rfl qN, va_Nw.same rfl rfl qM⟩
set_option maxHeartbeats 4000000 in
set_option maxRecDepth 100000 in
theorem whole_start {p : Program} {e : Env} {s : State} {m : MethodId} {below : List Frame} {meth : Method} {c : Code} (l : Launch) (hflags : l.flags = flags0) {b L : Nat} {xs : Nat → Int32} (hL : L ≤ 3072) (C0 : lw_At p s m meth c b L xs) : W p l e room_1 s m #[Value.ref b] below meth c s.heap [] 0 0 (lw_Z below #[Value.ref b] s) (entryFrame m ([Value.ref b] : List Value).toArray 7) := by
  have C1 := C0
  obtain ⟨hx, hb, hr, hml, hown, hts, hX, hbl, hlocks, hgv⟩ := C0
  have hfl : l.stackTraces = false := by unfold Launch.stackTraces; rw [hflags]; decide +kernel
  have hown : s.vm.findClass RL = some m.cls := hown
  have hTB := TB_at hts hgv
  have hsf := flat_of_before _ hgv
  have htsW : ∀ w ∈ wsL_law, w.before #[Value.ref b] s = true := fun w h => hts w (wsL_law_in w h)
  obtain ⟨c0, i0, k0⟩ := u_known (n := 5) htsW inlX0 (hts _ (List.mem_append_right _ (List.mem_of_getElem? (l := tables_1) (i := 23) (by decide +kernel))))
  obtain ⟨c1, i1, k1⟩ := u_known (n := 8) htsW inlX1 (hts _ (List.mem_append_right _ (List.mem_of_getElem? (l := tables_1) (i := 46) (by decide +kernel))))
  obtain ⟨c2, i2, k2⟩ := u_known (n := 9) htsW inlX2 (hts _ (List.mem_append_right _ (List.mem_of_getElem? (l := tables_1) (i := 13) (by decide +kernel))))
  obtain ⟨c3, i3, k3⟩ := u_known (n := 20) htsW inlX3 (hts _ (List.mem_append_right _ (List.mem_of_getElem? (l := tables_1) (i := 460) (by decide +kernel))))
  obtain ⟨D, hKD⟩ : ∃ D : va_G, va_K D vwCl [] s := by
    refine ⟨(fun k => match k with | 0 => c0 | 1 => c1 | 2 => c2 | _ => c3, fun k => match k with | 0 => i0 | 1 => i1 | 2 => i2 | _ => i3), fun ci q hq => ?_, fun k q hq => by cases hq⟩
    rcases ci with _ | _ | _ | _ | ci
    · cases hq; exact k0
    · cases hq; exact k1
    · cases hq; exact k2
    · cases hq; exact k3
    · cases hq
  have hK := hKD
  have hA : ∀ q : Nat, s.heap.size ≤ q → Zf s.heap.size q := fun q h => h
  have hS : va_S (Zf s.heap.size) s.heap s.heap [] := va_S.rf
  have hP : va_P D vwCl [] s.heap := fun k q hq => by cases hq
  have hD : va_D (Zf s.heap.size) [] := ⟨fun i j p q hp => (by cases hp), fun k q hq => (by cases hq)⟩
  have hAO : va_AO "BootChooser$Entry" s := va_AO.of (hts _ (List.mem_append_right _ (List.mem_of_getElem? (l := tables_1) (i := 21) (by decide +kernel))))
  have hN0 : va_Nw (.methodLinkNest RX2 17 yX0_init "BootChooser") s := va_Nw.of rfl (hts _ (List.mem_append_right _ (List.mem_of_getElem? (l := tables_1) (i := 24) (by decide +kernel))))
  have hN1 : va_Nw (.methodLinkNest RX2 44 yX1_init "BootChooser") s := va_Nw.of rfl (hts _ (List.mem_append_right _ (List.mem_of_getElem? (l := tables_1) (i := 47) (by decide +kernel))))
  have hl := lv_entry ([.ref b]) (n := 7) (Nat.le_of_ble_eq_true rfl)
  rw [lg_entry_eq]
  generalize (lg_sl ([.ref b]) ++ List.replicate (7 - (lg_sl ([.ref b])).length) Slot.unset).toArray = ls at hl ⊢
  have hl : lv_has ls 7 [(0, .ref b)] := hl
  refine va_new (ci := 2) (fs := [.null, .null, .int 0, .int 0, .int 0, .int 0, .int 0, .int 0, .int 0]) (C := RX2) (T := TX2) (N := 9) hx hb htsW inlX2 tyX2 tyX2_ok hown (hts _ (List.mem_append_right _ (List.mem_of_getElem? (l := tables_1) (i := 12) (by decide +kernel)))) (hts _ (List.mem_append_right _ (List.mem_of_getElem? (l := tables_1) (i := 13) (by decide +kernel)))) (hts _ (List.mem_append_right _ (List.mem_of_getElem? (l := tables_1) (i := 1) (by decide +kernel)))) hK hP hD hS hA rfl (fun j hj => by rcases (show j = 0 ∨ j = 1 ∨ j = 2 ∨ j = 3 ∨ j = 4 ∨ j = 5 ∨ j = 6 ∨ j = 7 ∨ j = 8 by omega) with rfl | rfl | rfl | rfl | rfl | rfl | rfl | rfl | rfl <;> rfl) (Nat.le_of_ble_eq_true rfl) (Nat.le_of_ble_eq_true rfl) dL_law_0 (fun q0 H hP hD hS => ?_)
  refine lv_dup hx hb dL_law_3 rfl ?_
  refine va_callv (va_runI (As := []) (rest := [.ref q0]) ⟨hx, hb, hml, hown, htsW⟩ (mtX2_init l D s.heap.size q0) (cwI 0 htsW gL_law_X2_init rfl rfl rfl (hts _ (List.mem_append_right _ (List.mem_of_getElem? (l := tables_1) (i := 1) (by decide +kernel)))) (hts _ (List.mem_append_right _ (List.mem_of_getElem? (l := tables_1) (i := 14) (by decide +kernel)))) (hts _ (List.mem_append_right _ (List.mem_of_getElem? (l := tables_1) (i := 15) (by decide +kernel)))) rfl (by decide +kernel) ⟨Nat.le_of_ble_eq_true rfl, Nat.le_of_ble_eq_true rfl⟩) ⟨ctor2_blind, fun U hU hW9 => ⟨rfl, va_K.moved hW9.alike hK, by rw [hU]; exact hP, hD, by rw [hU]; exact hS.1, va_AO.moved hW9.alike hAO, va_Nw.warmM hW9 hN0, va_Nw.warmM hW9 hN1⟩⟩ rfl rfl hl.1 rfl (lv_room (Nat.le_of_ble_eq_true rfl)) dL_law_4 ⟨Nat.le_of_ble_eq_true rfl, Nat.le_of_ble_eq_true rfl⟩) hS (fun _ _ h => h) (fun _ h => h) (fun u t H locs ht hvm _ hB hz1 hk1 hS => ?_)
  obtain ⟨q1, q2, q3, ad, cA, cD, hK1, hP, hD⟩ := hB
  rw [ht] at hP
  have hK := va_K.moved hvm.symm hK1
  refine lv_astore_n (lv' := [(1, .ref q0), (0, .ref b)]) hx hb dL_law_7 rfl hl (by decide) rfl (fun ls hl => ?_)
  refine va_new (ci := 3) (fs := [.int 0, .null, .null, .null, .null, .null, .null, .null, .int 0, .int 0, .int 0, .int 0, .int 0, .int 0, .int 0, .int 0, .int 0, .int 0, .int 0, .int 0]) (C := RX3) (T := TX3) (N := 20) hx hb htsW inlX3 tyX3 tyX3_ok hown (hts _ (List.mem_append_right _ (List.mem_of_getElem? (l := tables_1) (i := 459) (by decide +kernel)))) (hts _ (List.mem_append_right _ (List.mem_of_getElem? (l := tables_1) (i := 460) (by decide +kernel)))) (hts _ (List.mem_append_right _ (List.mem_of_getElem? (l := tables_1) (i := 4) (by decide +kernel)))) hK hP hD hS hA rfl (fun j hj => by rcases (show j = 0 ∨ j = 1 ∨ j = 2 ∨ j = 3 ∨ j = 4 ∨ j = 5 ∨ j = 6 ∨ j = 7 ∨ j = 8 ∨ j = 9 ∨ j = 10 ∨ j = 11 ∨ j = 12 ∨ j = 13 ∨ j = 14 ∨ j = 15 ∨ j = 16 ∨ j = 17 ∨ j = 18 ∨ j = 19 by omega) with rfl | rfl | rfl | rfl | rfl | rfl | rfl | rfl | rfl | rfl | rfl | rfl | rfl | rfl | rfl | rfl | rfl | rfl | rfl | rfl <;> rfl) (Nat.le_of_ble_eq_true rfl) (Nat.le_of_ble_eq_true rfl) dL_law_8 (fun qm H hP hD hS => ?_)
  refine lv_dup hx hb dL_law_11 rfl ?_
  refine va_callv (va_runI (As := []) (rest := [.ref qm]) ⟨hx, hb, hml, hown, htsW⟩ (mtX3_init l D s.heap.size qm _ _) (cwI 0 htsW gL_law_X3_init rfl rfl rfl (hts _ (List.mem_append_right _ (List.mem_of_getElem? (l := tables_1) (i := 4) (by decide +kernel)))) (hts _ (List.mem_append_right _ (List.mem_of_getElem? (l := tables_1) (i := 461) (by decide +kernel)))) (hts _ (List.mem_append_right _ (List.mem_of_getElem? (l := tables_1) (i := 462) (by decide +kernel)))) rfl (by decide +kernel) ⟨Nat.le_of_ble_eq_true rfl, Nat.le_of_ble_eq_true rfl⟩) ⟨ctor_blind, fun U hU hW9 => ⟨rfl, va_K.moved hW9.alike hK, by rw [hU]; exact hP, hD, by rw [hU]; exact hS.1⟩⟩ rfl rfl hl.1 rfl (lv_room (Nat.le_of_ble_eq_true rfl)) dL_law_12 ⟨Nat.le_of_ble_eq_true rfl, Nat.le_of_ble_eq_true rfl⟩) hS (fun _ _ h => h) (fun _ h => h) (fun u t H locs ht hvm _ hB hz1 hk1 hS => ?_)
  obtain ⟨p0, p1, p2, p3, p4, p5, p6, cZ, d1, d2, d3, d4, d5, d6, hK1, hP, hD⟩ := hB
  rw [ht] at hP
  have hK := va_K.moved hvm.symm hK1
  have e0 : s.vm.findClass ("[" ++ FieldType.int.toString) = some cD := (hK.2 1 _ rfl).2
  have ed : ∀ (k : Nat) (d : ClassId), ([(cA, FieldType.object "BootChooser$Entry"), (cD, .int)] ++ [(cZ, .boolean), (d1, .int), (d2, .int), (d3, .int), (d4, .int), (d5, .int), (d6, .int)])[k]? = some (d, .int) → d = cD := fun k d hk => by
    have e1 : s.vm.findClass ("[" ++ FieldType.int.toString) = some d := (hK.2 k _ hk).2
    exact Option.some.inj (e1.symm.trans e0)
  obtain rfl := (ed 3 d1 rfl).symm
  obtain rfl := (ed 4 d2 rfl).symm
  obtain rfl := (ed 5 d3 rfl).symm
  obtain rfl := (ed 6 d4 rfl).symm
  obtain rfl := (ed 7 d5 rfl).symm
  obtain rfl := (ed 8 d6 rfl).symm
  refine lv_astore_n (lv' := [(2, .ref qm), (1, .ref q0), (0, .ref b)]) hx hb dL_law_15 rfl hl (by decide) rfl (fun ls hl => ?_)
  refine lv_iconst (v := 1) hx hb dL_law_16 (by decide) ?_
  refine va_newa (atype := .long) (ty := .long) (N' := 1) (a0 := (1, .inr (.inl (fun _ => 0)))) hx hb (hts _ (List.mem_append_right _ (List.mem_of_getElem? (l := tables_1) (i := 665) (by decide +kernel)))) rfl hK hP hD hS hA (fun _ => rfl) (by decide) rfl (Nat.le_of_ble_eq_true rfl) (Nat.le_of_ble_eq_true rfl) (Nat.le_of_ble_eq_true rfl) dL_law_17 (fun qo cL H hK hP hD hS => ?_)
  refine lv_astore_n (lv' := [(3, .ref qo), (2, .ref qm), (1, .ref q0), (0, .ref b)]) hx hb dL_law_19 rfl hl (by decide) rfl (fun ls hl => ?_)
  refine lv_iconst (v := 0) hx hb dL_law_20 (by decide) ?_
  refine lv_istore (lv' := [(4, .int 0), (3, .ref qo), (2, .ref qm), (1, .ref q0), (0, .ref b)]) hx hb dL_law_21 hl (by decide) rfl (fun ls hl => ?_)
  have hW := w29_Wd hP hD
  have hz9 : gA (g00 D s.heap.size q0 q1 q2 q3 qm p0 p1 p2 p3 p4 p5 p6 qo ad cD cZ cA cL) 40 = s.heap.size := rfl
  have hKg : va_K (gD (g00 D s.heap.size q0 q1 q2 q3 qm p0 p1 p2 p3 p4 p5 p6 qo ad cD cZ cA cL)) vwCl (tyW (g00 D s.heap.size q0 q1 q2 q3 qm p0 p1 p2 p3 p4 p5 p6 qo ad cD cZ cA cL)) s := hK.sub [1, 2, 0, 9] rfl
  have hlg : lv_has ls 7 (lwL b (g00 D s.heap.size q0 q1 q2 q3 qm p0 p1 p2 p3 p4 p5 p6 qo ad cD cZ cA cL) 0) := by exact lv_sub hl [0, 4, 3, 2, 1] rfl
  have hSg : va_S (Az (g00 D s.heap.size q0 q1 q2 q3 qm p0 p1 p2 p3 p4 p5 p6 qo ad cD cZ cA cL)) s.heap H locs := hS
  generalize g00 D s.heap.size q0 q1 q2 q3 qm p0 p1 p2 p3 p4 p5 p6 qo ad cD cZ cA cL = g at hW hz9 hKg hlg hSg
  have hAz : ∀ a : Nat, a < s.heap.size → ¬ Az g a := fun a h q => by unfold Az at q; rw [hz9] at q; omega
  have hC : cx g s s.heap := ⟨hKg, hTB, ⟨vx_Zqof (hts _ (List.mem_append_right _ (List.mem_of_getElem? (l := tables_1) (i := 216) (by decide +kernel)))) (hts _ (List.mem_append_right _ (List.mem_of_getElem? (l := tables_1) (i := 5) (by decide +kernel)))) (hsf (.isRef (.static Bundle.tN "UNASSIGNED_STACK" Bundle.steD)) (by decide +kernel)) hAz, vx_Zqof (hts _ (List.mem_append_right _ (List.mem_of_getElem? (l := tables_1) (i := 218) (by decide +kernel)))) (hts _ (List.mem_append_right _ (List.mem_of_getElem? (l := tables_1) (i := 5) (by decide +kernel)))) (hsf (.isRef (.static Bundle.tN "SUPPRESSED_SENTINEL" Bundle.listD)) (by decide +kernel)) hAz⟩, by rw [hz9]; exact Nat.le_refl _⟩
  refine W.widen (k := CC 0) (n := SS 0) (Nat.le_of_ble_eq_true rfl) (Nat.le_of_ble_eq_true rfl) ?_
  exact law_loop ⟨C1, hC, hz9, hfl, hL⟩ 512 0 (by omega) (by omega) 0 _ _ _ H locs ls Rl_0 hW hSg hlg
