theorem gt_L {t L : Nat} (ht : t ≤ 512) (hL : L ≤ 3072) : (nI L - 6 < nI (6 * t)) ↔ L < 6 * t + 6 := by
  have h := pk_sub_toInt (a := L) (b := 6) (by omega) (by omega)
  rw [show (6 : Int32) = nI 6 from rfl, ltI, h, nI_toInt (by omega)]
  omega
set_option maxHeartbeats 1000000 in
set_option maxRecDepth 100000 in
theorem law_step {p : Program} {l : Launch} {e : Env} {s : State} {m : MethodId} {below : List Frame} {meth : Method} {c : Code} {b L : Nat} {xs : Nat → Int32} {g : Ge} (C0 : lwC l p s m meth c b L xs g) {t : Nat} (htb : t ≤ 512) (hn : 6 * t + 6 ≤ L → lwG p l e s m below meth c b g (t + 1) 23) : lwG p l e s m below meth c b g t 23 := by
  have C1 := C0
  obtain ⟨⟨hx, hb, hr, hml, hown, hts, hX, hbl, hlocks, hgv⟩, hC, hz, hfl, hL⟩ := C0
  intro a σ μ o H locs ls hR hW hS hl
  have hbA : ¬ Az g b := fun h => by unfold Az at h; rw [hz] at h; exact absurd hbl (by omega)
  have hl0 := hl
  have hl : lv_has ls 7 [(4, .int (nI (6 * t))), (0, .ref b), (1, .ref (gA g 0)), (2, .ref (gA g 4)), (3, .ref (gA g 12))] := hl
  refine lv_iload hx hb dL_law_23 (lv_at hl 0 rfl) ?_
  refine lv_aload_n hx hb dL_law_25 rfl (lv_at hl 1 rfl) ?_
  refine va_slen hx hb hX hbl hbA hS dL_law_26 ?_
  refine lv_bipush (v := 6) hx hb dL_law_27 (by decide) ?_
  refine lv_isub hx hb dL_law_29 ?_
  refine lv_icmp_gt (tgt := 1106) hx hb dL_law_30 (by decide) (fun c1 => ?_) (fun c1 => ?_)
  · refine lv_iconst (v := 1) hx hb dL_law_1106 (by decide) ?_
    refine va_forget (fun q hq => by have := hS.2.2 q hq; unfold Az at this; rw [hz] at this; exact this) ?_
    refine W.widen (k := 638081) (n := 7181861) (by unfold CC; omega) (by unfold SS; omega) ?_
    exact lw_ret hx hb hr hlocks dL_law_1107
  · have ht : 6 * t + 6 ≤ L := Nat.not_lt.mp (fun q => c1 ((gt_L htb hL).mpr q))
    have hn := hn ht
    refine lv_aload_n hx hb dL_law_33 rfl (lv_at hl 1 rfl) ?_
    refine lv_iload hx hb dL_law_34 (lv_at hl 0 rfl) ?_
    refine va_sld hx hb hX hbl hbA hS (s_in0 ht hL) dL_law_36 ?_
    refine lv_bipush (v := 31) hx hb dL_law_37 (by decide) ?_
    refine lv_iand hx hb dL_law_39 ?_
    obtain ⟨j, hj, ej⟩ := pk_andE (xs (nI (6 * t)).toNatClampNeg) (m := 31) 5 (by decide)
    rw [ej]
    by_cases h20 : j < 20
    · have hc : j = 0 ∨ j = 1 ∨ j = 2 ∨ j = 3 ∨ j = 4 ∨ j = 5 ∨ j = 6 ∨ j = 7 ∨ j = 8 ∨ j = 9 ∨ j = 10 ∨ j = 11 ∨ j = 12 ∨ j = 13 ∨ j = 14 ∨ j = 15 ∨ j = 16 ∨ j = 17 ∨ j = 18 ∨ j = 19 := by omega
      rcases hc with rfl | rfl | rfl | rfl | rfl | rfl | rfl | rfl | rfl | rfl | rfl | rfl | rfl | rfl | rfl | rfl | rfl | rfl | rfl | rfl
      · exact lv_tableIn (off := 96) (tgt := 136) hx hb dL_law_40 (by decide) (by decide) rfl (by decide) (law_add C1 ht hn a σ μ o H locs ls hR hW hS hl0)
      · exact lv_tableIn (off := 200) (tgt := 240) hx hb dL_law_40 (by decide) (by decide) rfl (by decide) (law_remove C1 ht hn a σ μ o H locs ls hR hW hS hl0)
      · exact lv_tableIn (off := 256) (tgt := 296) hx hb dL_law_40 (by decide) (by decide) rfl (by decide) (law_edit C1 ht hn a σ μ o H locs ls hR hW hS hl0)
      · exact lv_tableIn (off := 324) (tgt := 364) hx hb dL_law_40 (by decide) (by decide) rfl (by decide) (law_choose C1 ht hn a σ μ o H locs ls hR hW hS hl0)
      · exact lv_tableIn (off := 380) (tgt := 420) hx hb dL_law_40 (by decide) (by decide) rfl (by decide) (law_chooseOnce C1 ht hn a σ μ o H locs ls hR hW hS hl0)
      · exact lv_tableIn (off := 436) (tgt := 476) hx hb dL_law_40 (by decide) (by decide) rfl (by decide) (law_setPattern C1 ht hn a σ μ o H locs ls hR hW hS hl0)
      · exact lv_tableIn (off := 504) (tgt := 544) hx hb dL_law_40 (by decide) (by decide) rfl (by decide) (law_start C1 ht hn a σ μ o H locs ls hR hW hS hl0)
      · exact lv_tableIn (off := 548) (tgt := 588) hx hb dL_law_40 (by decide) (by decide) rfl (by decide) (law_good C1 ht hn a σ μ o H locs ls hR hW hS hl0)
      · exact lv_tableIn (off := 592) (tgt := 632) hx hb dL_law_40 (by decide) (by decide) rfl (by decide) (law_running C1 ht hn a σ μ o H locs ls hR hW hS hl0)
      · exact lv_tableIn (off := 605) (tgt := 645) hx hb dL_law_40 (by decide) (by decide) rfl (by decide) (law_next C1 ht hn a σ μ o H locs ls hR hW hS hl0)
      · exact lv_tableIn (off := 618) (tgt := 658) hx hb dL_law_40 (by decide) (by decide) rfl (by decide) (law_lock C1 ht hn a σ μ o H locs ls hR hW hS hl0)
      · exact lv_tableIn (off := 666) (tgt := 706) hx hb dL_law_40 (by decide) (by decide) rfl (by decide) (law_enter C1 ht hn a σ μ o H locs ls hR hW hS hl0)
      · exact lv_tableIn (off := 729) (tgt := 769) hx hb dL_law_40 (by decide) (by decide) rfl (by decide) (law_isLocked C1 ht hn a σ μ o H locs ls hR hW hS hl0)
      · exact lv_tableIn (off := 742) (tgt := 782) hx hb dL_law_40 (by decide) (by decide) rfl (by decide) (law_entries C1 ht hn a σ μ o H locs ls hR hW hS hl0)
      · exact lv_tableIn (off := 755) (tgt := 795) hx hb dL_law_40 (by decide) (by decide) rfl (by decide) (law_at C1 ht hn a σ μ o H locs ls hR hW hS hl0)
      · exact lv_tableIn (off := 811) (tgt := 851) hx hb dL_law_40 (by decide) (by decide) rfl (by decide) (law_placeOf C1 ht hn a σ μ o H locs ls hR hW hS hl0)
      · exact lv_tableIn (off := 867) (tgt := 907) hx hb dL_law_40 (by decide) (by decide) rfl (by decide) (law_tries C1 ht hn a σ μ o H locs ls hR hW hS hl0)
      · exact lv_tableIn (off := 923) (tgt := 963) hx hb dL_law_40 (by decide) (by decide) rfl (by decide) (law_compare C1 ht hn a σ μ o H locs ls hR hW hS hl0)
      · exact lv_tableIn (off := 991) (tgt := 1031) hx hb dL_law_40 (by decide) (by decide) rfl (by decide) (law_foretold C1 ht hn a σ μ o H locs ls hR hW hS hl0)
      · exact lv_tableIn (off := 1047) (tgt := 1087) hx hb dL_law_40 (by decide) (by decide) rfl (by decide) (law_register C1 ht hn a σ μ o H locs ls hR hW hS hl0)
    · refine lv_tableOut (tgt := 1100) hx hb dL_law_40 (Or.inr (by rw [nI_toInt (by omega)]; omega)) (by decide) ?_
      refine lv_iinc (v := nI (6 * (t + 1))) (lv' := [(4, .int (nI (6 * (t + 1)))), (0, .ref b), (1, .ref (gA g 0)), (2, .ref (gA g 4)), (3, .ref (gA g 12))]) hx hb dL_law_1100 hl (k := 0) rfl (s_nx t) (by decide) rfl (fun ls hl => ?_)
      refine lv_goto (tgt := 23) hx hb dL_law_1103 (by decide) ?_
      refine W.widen (k := CC (t + 1)) (n := SS (t + 1)) (by unfold CC; omega) (by unfold SS; omega) ?_
      exact hn a σ μ o H locs ls hR hW hS hl
theorem law_loop {p : Program} {l : Launch} {e : Env} {s : State} {m : MethodId} {below : List Frame} {meth : Method} {c : Code} {b L : Nat} {xs : Nat → Int32} {g : Ge} (C0 : lwC l p s m meth c b L xs g) : ∀ (n t : Nat), t ≤ 512 → L ≤ 6 * t + 6 * n + 5 → lwG p l e s m below meth c b g t 23 := by
  have hL := C0.2.2.2.2
  intro n
  induction n with
  | zero => intro t ht h; exact law_step C0 ht (fun q => by omega)
  | succ n ih => intro t ht h; exact law_step C0 ht (fun q => ih (t + 1) (by omega) (by omega))
