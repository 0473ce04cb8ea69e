/-! a new chooser's world -/
def B00 : Nat → Int32 := fun k => match k with | 1 => -1 | 2 => -1 | 4 => 99 | 5 => -1 | _ => 0
def K00 : Nat → Int32 := fun k => match k with | 2 => 1 | _ => 0
def G00 : Nat → Int32 := fun _ => 0
def E00 : Nat → Nat → Int32 := fun _ => e0
def s00 : Sg := (B00, E00, K00, G00)
def m00 : Mg := (fun _ => 0, fun _ _ => 0)
def O00 : Nat → Int64 := fun _ => 0
def g00 (D : va_G) (z q0 q1 q2 q3 : Nat) (ad : Nat → Nat) (cD cA : ClassId) : Ge := (D.1, D.2, fun k => match k with | 0 => cD | _ => cA, fun k => match k with | 0 => q0 | 1 => q1 | 2 => q2 | 3 => q3 | 13 => ad 0 | 14 => ad 1 | 15 => ad 2 | 16 => ad 3 | 17 => ad 4 | 18 => ad 5 | 19 => ad 6 | 20 => ad 7 | 21 => ad 8 | 22 => ad 9 | 23 => ad 10 | 24 => ad 11 | 25 => ad 12 | 26 => ad 13 | 27 => ad 14 | 28 => ad 15 | _ => z)
set_option maxHeartbeats 2000000 in
set_option maxRecDepth 100000 in
theorem w20_Wd {D : va_G} {z q0 q1 q2 q3 : Nat} {ad : Nat → Nat} {cD cA : ClassId} {H : Heap} (hP : va_P D vwCl (w4 q0 q1 q2 q3 cA cD (adO ad 16) (fsB q1 q2) ++ wE ad 16) H) (hD : va_D (Zf z) (w4 q0 q1 q2 q3 cA cD (adO ad 16) (fsB q1 q2) ++ wE ad 16)) : Wd (g00 D z q0 q1 q2 q3 ad cD cA) s00 m00 O00 H := by
  generalize hg : g00 D z q0 q1 q2 q3 ad cD cA = g
  have hgf : ∀ j, j < 16 → gA g (13 + j) = ad j := by
    subst hg
    intro j hj
    rcases (show j = 0 ∨ j = 1 ∨ j = 2 ∨ j = 3 ∨ j = 4 ∨ j = 5 ∨ j = 6 ∨ j = 7 ∨ j = 8 ∨ j = 9 ∨ j = 10 ∨ j = 11 ∨ j = 12 ∨ j = 13 ∨ j = 14 ∨ j = 15 by omega) with rfl | rfl | rfl | rfl | rfl | rfl | rfl | rfl | rfl | rfl | rfl | rfl | rfl | rfl | rfl | rfl <;> rfl
  have h1 : H[q1]? = some (arrV cA 16 (fun j => va_rf (adO ad 16 j))) := hP 1 (q1, .inl (cA, 16, .inr (.inr (.inr (.inr (adO ad 16)))))) rfl
  have h2 : H[q1]? = some (arrV cA 16 (fun j => va_rf (some (gA g (13 + j))))) := by
    rw [h1, arrV_ext (f' := fun j => va_rf (some (gA g (13 + j)))) (fun j hj => ?_)]
    show va_rf (adO ad 16 j) = va_rf (some (gA g (13 + j)))
    rw [hgf j hj, adO, if_pos hj]
  have hP1 := hP.set (p := 1) (e := .inl (cA, 16, .inr (.inr (.inr (.inr (fun j => some (gA g (13 + j)))))))) hD rfl h2 (fun _ _ => rfl)
  have hD1 := hD.set (p := 1) (e := .inl (cA, 16, .inr (.inr (.inr (.inr (fun j => some (gA g (13 + j)))))))) rfl
  have he : (w4 q0 q1 q2 q3 cA cD (adO ad 16) (fsB q1 q2) ++ wE ad 16).set 1 (q1, .inl (cA, 16, .inr (.inr (.inr (.inr (fun j => some (gA g (13 + j)))))))) = wWd g s00 m00 O00 := by
    subst hg; rfl
  rw [he] at hP1 hD1
  refine ⟨?_, ?_⟩
  · subst hg; exact hP1
  · subst hg; exact hD1
/-- what the law's big methods need at their start -/
def PS (z : Nat) (D : va_G) (U : State) : Prop := va_K D vwCl [] U ∧ TB U ∧ (vx_Zq Bundle.tN "UNASSIGNED_STACK" Bundle.steD (Zf z) U U.heap ∧ vx_Zq Bundle.tN "SUPPRESSED_SENTINEL" Bundle.listD (Zf z) U U.heap) ∧ z ≤ U.heap.size ∧ va_AO "BootChooser$Entry" U
theorem PS.blind {av : List Value} {z : Nat} {D : va_G} : FrameBlind (va_Pc av (PS z D)) := fun a U g mk q => by
  obtain ⟨q0, qK, qT, qZ, qz, qA⟩ := q
  exact ⟨q0, va_K.moved (u := U) (U := U.calling g mk a) (Vm.Alike.refl U.vm) qK, TB.same (s := U) (U := U.calling g mk a) rfl qT, ⟨qZ.1.moved (Vm.Alike.refl U.vm), qZ.2.moved (Vm.Alike.refl U.vm)⟩, qz, va_AO.moved (u := U) (U := U.calling g mk a) (Vm.Alike.refl U.vm) qA⟩
theorem PS.at {z : Nat} {D : va_G} {s : State} {H : Heap} {locs : List Loc} (h : PS z D s) (hS : va_S (Zf z) s.heap H locs) (U : State) (hU : U.heap = H) (hw : s.WarmedH U.vm) : PS z D U := by
  obtain ⟨qK, qT, qZ, qz, qA⟩ := h
  refine ⟨va_K.moved hw.alike qK, qT.warm hw, ⟨?_, ?_⟩, ?_, va_AO.moved hw.alike qA⟩
  · rw [hU]; exact (qZ.1.kept hS.2.1).moved hw.alike
  · rw [hU]; exact (qZ.2.kept hS.2.1).moved hw.alike
  · rw [hU]; exact Nat.le_trans qz hS.1
theorem Az_Zf {g : Ge} {z : Nat} (h : gA g 40 = z) : Zf z = Az g := by funext q; unfold Zf Az; rw [h]
theorem born_g {D : va_G} {z h0 : Nat} {t s : State} (hB : bornB D z h0 t) (hvm : s.vm.Alike t.vm) (hS : PS z D s) : ∃ g : Ge, gA g 40 = z ∧ gA g 0 = h0 ∧ Wd g s00 m00 O00 t.heap ∧ cx g s s.heap := by
  obtain ⟨q1, q2, q3, ad, cA, cD, hK1, hP, hD⟩ := hB
  obtain ⟨qK, qT, qZ, qz, qA⟩ := hS
  have hK := va_K.moved hvm.symm hK1
  have hW := w20_Wd hP hD
  have hz9 : gA (g00 D z h0 q1 q2 q3 ad cD cA) 40 = z := rfl
  have h09 : gA (g00 D z h0 q1 q2 q3 ad cD cA) 0 = h0 := rfl
  have hKg : va_K (gD (g00 D z h0 q1 q2 q3 ad cD cA)) vwCl (tyW (g00 D z h0 q1 q2 q3 ad cD cA)) s := hK.sub [1, 0] rfl
  generalize g00 D z h0 q1 q2 q3 ad cD cA = g at hW hz9 h09 hKg
  rw [Az_Zf hz9] at qZ
  exact ⟨g, hz9, h09, hW, hKg, qT, qZ, by rw [hz9]; exact qz⟩
theorem ctor2_blind {av : List Value} {D : va_G} {tys : List (ClassId × FieldType)} {w : va_W} {z : Nat} : FrameBlind (va_Pc av (fun U => va_K D vwCl tys U ∧ va_P D vwCl w U.heap ∧ va_D (Zf z) w ∧ z ≤ U.heap.size ∧ (va_AO "BootChooser$Entry" U ∧ va_Nw (.methodLinkNest RX2 17 yX0_init "BootChooser") U ∧ va_Nw (.methodLinkNest RX2 44 yX1_init "BootChooser") U))) := fun a U g mk q => by
  obtain ⟨q0, qK, qP, qD, qz, qA, qN, qM⟩ := q
  exact ⟨q0, va_K.moved (u := U) (U := U.calling g mk a) (Vm.Alike.refl U.vm) qK, qP, qD, qz, va_AO.moved (u := U) (U := U.calling g mk a) (Vm.Alike.refl U.vm) qA, va_Nw.same rfl rfl qN, va_Nw.same rfl rfl qM⟩
