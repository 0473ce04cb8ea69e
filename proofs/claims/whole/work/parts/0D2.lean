theorem arrV_ext {cA : ClassId} {n : Nat} {f f' : Nat → Value} (h : ∀ j, j < n → f j = f' j) : arrV cA n f = arrV cA n f' := by
  unfold arrV
  congr 1
  first
    | (apply Array.ext
       · simp
       · intro i h1 h2
         simp at h1 h2 ⊢
         exact h i (by omega))
    | (congr 1
       apply List.map_congr_left
       intro j hj
       exact h j (List.mem_range.mp hj))
def B00 : Nat → Int32 := fun k => match k with | 1 => -1 | 2 => -1 | 4 => 99 | 5 => -1 | _ => 0
def K00 : Nat → Int32 := fun k => match k with | 2 => 1 | _ => 0
def G00 : Nat → Int32 := fun _ => 0
def E00 : Nat → Nat → Int32 := fun _ => e0
def F00 : Nat → Nat → Int32 := fun _ _ => 0
def O00 : Nat → Int64 := fun _ => 0
def g00 (D : va_G) (z q0 q1 q2 q3 qm p0 p1 p2 p3 p4 p5 p6 qo : Nat) (ad : Nat → Nat) (cD cZ cA cL : ClassId) : Ge := (D.1, D.2, fun k => match k with | 0 => cD | 1 => cZ | 2 => cA | _ => cL, fun k => match k with | 0 => q0 | 1 => q1 | 2 => q2 | 3 => q3 | 4 => qm | 5 => p0 | 6 => p1 | 7 => p2 | 8 => p3 | 9 => p4 | 10 => p5 | 11 => p6 | 12 => qo | 13 => ad 0 | 14 => ad 1 | 15 => ad 2 | 16 => ad 3 | 17 => ad 4 | 18 => ad 5 | 19 => ad 6 | 20 => ad 7 | 21 => ad 8 | 22 => ad 9 | 23 => ad 10 | 24 => ad 11 | 25 => ad 12 | 26 => ad 13 | 27 => ad 14 | 28 => ad 15 | _ => z)
theorem Rl_0 : Rl 0 (B00, E00, K00, G00) (B00, F00) := by
  refine ⟨⟨by omega, fun k hk h0 => absurd rfl h0, fun j hj => by omega, fun k k' hk hk' h0 => absurd rfl h0, fun k j hk hj => by omega, fun j hj => by omega, fun j hj => rfl⟩, ⟨nI_0.symm, nI_0.symm⟩, ⟨rfl, rfl, rfl, rfl, rfl, rfl⟩, ⟨rfl, Or.inl rfl, 1, 0, ⟨by omega, by omega, by omega⟩, rfl, fun q => absurd rfl q, nI_0.symm, nI_0.symm, fun i hi => by omega, nI_0.symm⟩, Or.inl rfl⟩
def w29 (q0 q1 q2 q3 qm p0 p1 p2 p3 p4 p5 p6 qo : Nat) (ad : Nat → Nat) (cD cZ cA cL : ClassId) (f : Nat → Option Nat) : va_W := ((w4 q0 q1 q2 q3 cA cD f (fsB q1 q2) ++ wE ad 16) ++ (qm, .inr (3, [.int 0, .ref p0, .ref p1, .ref p2, .ref p3, .ref p4, .ref p5, .ref p6, .int (-1), .int (-1), .int 0, .int 99, .int (-1), .int 0, .int 0, .int 0, .int 0, .int 0, .int 0, .int 0])) :: [(p0, .inl (cZ, 60, .inl (fun _ => 0))), (p1, .inl (cD, 60, .inl (fun _ => 0))), (p2, .inl (cD, 60, .inl (fun _ => 0))), (p3, .inl (cD, 60, .inl (fun _ => 0))), (p4, .inl (cD, 60, .inl (fun _ => 0))), (p5, .inl (cD, 60, .inl (fun _ => 0))), (p6, .inl (cD, 60, .inl (fun _ => 0)))]) ++ [(qo, .inl (cL, 1, .inr (.inl (fun _ => 0))))]
set_option maxHeartbeats 2000000 in
set_option maxRecDepth 100000 in
theorem w29_Wd {D : va_G} {z q0 q1 q2 q3 qm p0 p1 p2 p3 p4 p5 p6 qo : Nat} {ad : Nat → Nat} {cD cZ cA cL : ClassId} {H : Heap} (hP : va_P D vwCl (w29 q0 q1 q2 q3 qm p0 p1 p2 p3 p4 p5 p6 qo ad cD cZ cA cL (adO ad 16)) H) (hD : va_D (Zf z) (w29 q0 q1 q2 q3 qm p0 p1 p2 p3 p4 p5 p6 qo ad cD cZ cA cL (adO ad 16))) : Wd (g00 D z q0 q1 q2 q3 qm p0 p1 p2 p3 p4 p5 p6 qo ad cD cZ cA cL) (B00, E00, K00, G00) (B00, F00) O00 H := by
  generalize hg : g00 D z q0 q1 q2 q3 qm p0 p1 p2 p3 p4 p5 p6 qo ad cD cZ cA cL = g
  have hgf : ∀ j, j < 16 → gA g (13 + j) = ad j := by
    subst hg
    intro j hj
    rcases (show j = 0 ∨ j = 1 ∨ j = 2 ∨ j = 3 ∨ j = 4 ∨ j = 5 ∨ j = 6 ∨ j = 7 ∨ j = 8 ∨ j = 9 ∨ j = 10 ∨ j = 11 ∨ j = 12 ∨ j = 13 ∨ j = 14 ∨ j = 15 by omega) with rfl | rfl | rfl | rfl | rfl | rfl | rfl | rfl | rfl | rfl | rfl | rfl | rfl | rfl | rfl | rfl <;> rfl
  have h1 : H[q1]? = some (arrV cA 16 (fun j => va_rf (adO ad 16 j))) := hP 1 (q1, .inl (cA, 16, .inr (.inr (.inr (.inr (adO ad 16)))))) rfl
  have h2 : H[q1]? = some (arrV cA 16 (fun j => va_rf (some (gA g (13 + j))))) := by
    rw [h1, arrV_ext (f' := fun j => va_rf (some (gA g (13 + j)))) (fun j hj => ?_)]
    show va_rf (adO ad 16 j) = va_rf (some (gA g (13 + j)))
    rw [hgf j hj, adO, if_pos hj]
  have hP1 := hP.set (p := 1) (e := .inl (cA, 16, .inr (.inr (.inr (.inr (fun j => some (gA g (13 + j)))))))) hD rfl h2 (fun _ _ => rfl)
  have hD1 := hD.set (p := 1) (e := .inl (cA, 16, .inr (.inr (.inr (.inr (fun j => some (gA g (13 + j)))))))) rfl
  have hs : ([0, 1, 2, 3, 20, 21, 22, 23, 24, 25, 26, 27, 28, 4, 5, 6, 7, 8, 9, 10, 11, 12, 13, 14, 15, 16, 17, 18, 19] : List Nat).map (fun i => ((w29 q0 q1 q2 q3 qm p0 p1 p2 p3 p4 p5 p6 qo ad cD cZ cA cL (adO ad 16)).set 1 (q1, .inl (cA, 16, .inr (.inr (.inr (.inr (fun j => some (gA g (13 + j)))))))))[i]?) = (wWd g (B00, E00, K00, G00) (B00, F00) O00).map some := by
    subst hg; rfl
  have hf : ([0, 1, 2, 3, 20, 21, 22, 23, 24, 25, 26, 27, 28, 4, 5, 6, 7, 8, 9, 10, 11, 12, 13, 14, 15, 16, 17, 18, 19] : List Nat).filterMap (fun i => ((w29 q0 q1 q2 q3 qm p0 p1 p2 p3 p4 p5 p6 qo ad cD cZ cA cL (adO ad 16)).set 1 (q1, .inl (cA, 16, .inr (.inr (.inr (.inr (fun j => some (gA g (13 + j)))))))))[i]?) = wWd g (B00, E00, K00, G00) (B00, F00) O00 := by
    subst hg; rfl
  refine ⟨?_, ?_⟩
  · have := hP1.sub [0, 1, 2, 3, 20, 21, 22, 23, 24, 25, 26, 27, 28, 4, 5, 6, 7, 8, 9, 10, 11, 12, 13, 14, 15, 16, 17, 18, 19] hf
    subst hg; exact this
  · have := hD1.sub [0, 1, 2, 3, 20, 21, 22, 23, 24, 25, 26, 27, 28, 4, 5, 6, 7, 8, 9, 10, 11, 12, 13, 14, 15, 16, 17, 18, 19] (by decide) hs
    subst hg; exact this
