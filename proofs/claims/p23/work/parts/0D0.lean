set_option maxHeartbeats 4000000 in
set_option maxRecDepth 100000 in
theorem whole_start {p : Program} {e : Env} {s : State} {m : MethodId} {below : List Frame} {meth : Method} {c : Code} (l : Launch) (hflags : l.flags = flags0) {b L : Nat} {xs : Nat → Int32} (hL : L ≤ 260) (C0 : lw_At p s m meth c b L xs) : W p l e room_1 s m #[Value.ref b] below meth c s.heap [] 0 0 (lw_Z below #[Value.ref b] s) (entryFrame m ([Value.ref b] : List Value).toArray 4) := by
  have C1 := C0
  obtain ⟨hx, hb, hr, hml, hown, hts, hX, hbl, hlocks, hgv⟩ := C0
  have hfl : l.stackTraces = false := by unfold Launch.stackTraces; rw [hflags]; decide +kernel
  have hown : s.vm.findClass RL = some m.cls := hown
  have hTB := TB_at hts hgv
  have hsf := flat_of_before _ hgv
  have htsW : ∀ w ∈ wsL_law, w.before #[Value.ref b] s = true := fun w h => hts w (wsL_law_in w h)
  obtain ⟨c0, i0, k0⟩ := u_known (n := 5) htsW inlX0 (hts _ (List.mem_append_right _ (List.mem_of_getElem? (l := tables_1) (i := 22) (by decide +kernel))))
  obtain ⟨c1, i1, k1⟩ := u_known (n := 8) htsW inlX1 (hts _ (List.mem_append_right _ (List.mem_of_getElem? (l := tables_1) (i := 45) (by decide +kernel))))
  obtain ⟨c2, i2, k2⟩ := u_known (n := 9) htsW inlX2 (hts _ (List.mem_append_right _ (List.mem_of_getElem? (l := tables_1) (i := 12) (by decide +kernel))))
  obtain ⟨D, hKD⟩ : ∃ D : va_G, va_K D vwCl [] s := by
    refine ⟨(fun k => match k with | 0 => c0 | 1 => c1 | _ => c2, fun k => match k with | 0 => i0 | 1 => i1 | _ => i2), fun ci q hq => ?_, fun k q hq => by cases hq⟩
    rcases ci with _ | _ | _ | ci
    · cases hq; exact k0
    · cases hq; exact k1
    · cases hq; exact k2
    · cases hq
  have hAz : ∀ a : Nat, a < s.heap.size → ¬ Zf s.heap.size a := fun a h q => by unfold Zf at q; omega
  have hPS : PS s.heap.size D s := ⟨hKD, hTB, ⟨vx_Zqof (hts _ (List.mem_append_right _ (List.mem_of_getElem? (l := tables_1) (i := 146) (by decide +kernel)))) (hts _ (List.mem_append_right _ (List.mem_of_getElem? (l := tables_1) (i := 5) (by decide +kernel)))) (hsf (.isRef (.static Bundle.tN "UNASSIGNED_STACK" Bundle.steD)) (by decide +kernel)) hAz, vx_Zqof (hts _ (List.mem_append_right _ (List.mem_of_getElem? (l := tables_1) (i := 148) (by decide +kernel)))) (hts _ (List.mem_append_right _ (List.mem_of_getElem? (l := tables_1) (i := 5) (by decide +kernel)))) (hsf (.isRef (.static Bundle.tN "SUPPRESSED_SENTINEL" Bundle.listD)) (by decide +kernel)) hAz⟩, Nat.le_refl _, va_AO.of (hts _ (List.mem_append_right _ (List.mem_of_getElem? (l := tables_1) (i := 20) (by decide +kernel))))⟩
  have hS : va_S (Zf s.heap.size) s.heap s.heap [] := va_S.rf
  have hl := lv_entry ([.ref b]) (n := 4) (Nat.le_of_ble_eq_true rfl)
  rw [lg_entry_eq]
  generalize (lg_sl ([.ref b]) ++ List.replicate (4 - (lg_sl ([.ref b])).length) Slot.unset).toArray = ls at hl ⊢
  have hl : lv_has ls 4 [(0, .ref b)] := hl
  refine va_calli (va_runS (As := []) (rest := []) ⟨hx, hb, hml, hown, htsW⟩ (mtL_starts l D s.heap.size hfl) (va_cwS 0 htsW gL_law_L_starts rfl rfl rfl (by decide +kernel) ⟨Nat.le_of_ble_eq_true rfl, Nat.le_of_ble_eq_true rfl⟩) ⟨PS.blind, fun U hU hW9 => ⟨rfl, hPS.at hS U hU hW9⟩⟩ rfl rfl hl.1 rfl (lv_room (Nat.le_of_ble_eq_true rfl)) dL_law_0 ⟨Nat.le_of_ble_eq_true rfl, Nat.le_of_ble_eq_true rfl⟩) hS (fun _ _ h => h) (fun _ h => h) (fun r u t H locs ht hvm hq _ hz9 hk9 hS => ?_)
  obtain rfl : r = 1 := hq
  refine lv_if_eq (tgt := 12) hx hb dL_law_3 (by decide) (fun c => absurd c (by decide)) (fun _ => ?_)
  refine va_calli (va_runS (As := []) (rest := []) ⟨hx, hb, hml, hown, htsW⟩ (mtL_locks l D s.heap.size hfl) (va_cwS 0 htsW gL_law_L_locks rfl rfl rfl (by decide +kernel) ⟨Nat.le_of_ble_eq_true rfl, Nat.le_of_ble_eq_true rfl⟩) ⟨PS.blind, fun U hU hW9 => ⟨rfl, hPS.at hS U hU hW9⟩⟩ rfl rfl hl.1 rfl (lv_room (Nat.le_of_ble_eq_true rfl)) dL_law_6 ⟨Nat.le_of_ble_eq_true rfl, Nat.le_of_ble_eq_true rfl⟩) hS (fun _ _ h => h) (fun _ h => h) (fun r u t H locs ht hvm hq _ hz9 hk9 hS => ?_)
  obtain rfl : r = 1 := hq
  refine lv_if_ne (tgt := 14) hx hb dL_law_9 (by decide) (fun _ => ?_) (fun c => absurd c (by decide))
  have hAO := hPS.2.2.2.2
  have hN0 : va_Nw (.methodLinkNest RX2 17 yX0_init "BootChooser") s := hPS.2.1.1 _ (by decide +kernel)
  have hN1 : va_Nw (.methodLinkNest RX2 44 yX1_init "BootChooser") s := hPS.2.1.1 _ (by decide +kernel)
  have hK := hPS.1
  have hA : ∀ q : Nat, s.heap.size ≤ q → Zf s.heap.size q := fun q h => Nat.le_trans hPS.2.2.2.1 h
  have hP : va_P D vwCl [] H := fun k q hq => by cases hq
  have hD : va_D (Zf s.heap.size) [] := ⟨fun i j p q hp => (by cases hp), fun k q hq => (by cases hq)⟩
  refine va_new (ci := 2) (fs := [.null, .null, .int 0, .int 0, .int 0, .int 0, .int 0, .int 0, .int 0]) (C := RX2) (T := TX2) (N := 9) hx hb htsW inlX2 tyX2 tyX2_ok hown (htsW (.classLink RL 8 RX2) (by decide +kernel)) (htsW (.instantiable RX2 9) (by decide +kernel)) (htsW (.initialized RX2) (by decide +kernel)) hK hP hD hS hA rfl (fun j hj => by rcases (show j = 0 ∨ j = 1 ∨ j = 2 ∨ j = 3 ∨ j = 4 ∨ j = 5 ∨ j = 6 ∨ j = 7 ∨ j = 8 by omega) with rfl | rfl | rfl | rfl | rfl | rfl | rfl | rfl | rfl <;> rfl) (Nat.le_of_ble_eq_true rfl) (Nat.le_of_ble_eq_true rfl) dL_law_14 (fun q0 H hP hD hS => ?_)
  refine lv_dup hx hb dL_law_17 rfl ?_
  refine va_callv (va_runI (As := []) (rest := [.ref q0]) ⟨hx, hb, hml, hown, htsW⟩ (mtX2_init l D s.heap.size q0) (cwI 0 htsW gL_law_X2_init rfl rfl rfl (htsW (.initialized RX2) (by decide +kernel)) (htsW (.methodLink RL 93 yX2_init) (by decide +kernel)) (htsW (.instanceMethod yX2_init) (by decide +kernel)) rfl (by decide +kernel) ⟨(Nat.le_of_ble_eq_true rfl), (Nat.le_of_ble_eq_true rfl)⟩) ⟨ctor2_blind, fun U hU hW9 => ⟨rfl, va_K.moved hW9.alike hK, by rw [hU]; exact hP, hD, by rw [hU]; exact Nat.le_trans hPS.2.2.2.1 hS.1, va_AO.moved hW9.alike hAO, va_Nw.warmM hW9 hN0, va_Nw.warmM hW9 hN1⟩⟩ rfl rfl hl.1 rfl (lv_room (Nat.le_of_ble_eq_true rfl)) dL_law_18 ⟨(Nat.le_of_ble_eq_true rfl), (Nat.le_of_ble_eq_true rfl)⟩) hS (fun _ _ h => h) (fun _ h => h) (fun u t H locs ht hvm _ hB hz1 hk1 hS => ?_)
  obtain ⟨g, h40, hg0, hW, hC⟩ := born_g hB hvm hPS
  rw [ht] at hW
  subst hg0
  rw [Az_Zf h40] at hS
  refine lv_astore_n (lv' := [(1, .ref (gA g 0)), (0, .ref b)]) hx hb dL_law_21 rfl hl (by decide) rfl (fun ls hl => ?_)
  refine lv_iconst (v := nI 0) hx hb dL_law_22 (by decide) ?_
  refine lv_istore_n (lv' := [(2, .int (nI 0)), (1, .ref (gA g 0)), (0, .ref b)]) hx hb dL_law_23 rfl hl (by decide) rfl (fun ls hl => ?_)
  refine W.widen (k := 931 + 167 * 0) (n := 5736 + 1002 * 0) (Nat.le_of_ble_eq_true rfl) (Nat.le_of_ble_eq_true rfl) ?_
  have CC : lwC l p s m meth c b L xs g := ⟨C1, hC, h40, hfl, hL⟩
  exact l1_loop CC (fun τ hτ => l_mid CC hτ (l2_loop CC (fun τ hτ => l_end CC hτ) 44 16 (by omega) (by omega) τ (I2_16 hτ))) 16 0 (by omega) s00 I1_0 H locs ls hW hS (by exact lv_sub hl [0, 2, 1] rfl)
