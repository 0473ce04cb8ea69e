/-! PURE: what the calls do to the relation -/
theorem up2_k {E : Nat → Nat → Int32} {u k : Nat} {e' : Nat → Int32} {i : Nat} (h : e' i = E u i) : up2 E u e' k i = E k i := by
  by_cases q : k = u
  · subst q; rw [up2_s]; exact h
  · rw [up2_n q]
theorem RR.up {a : Nat} {E F : Nat → Nat → Int32} (h : RR a E F) {u j : Nat} (hu : Mk a E u j) {e' : Nat → Int32} {F' : Nat → Nat → Int32} (h0 : e' 0 = E u 0) (h1 : e' 1 = E u 1) (hF : ∀ k i, i ≠ j → F' k i = F k i) (hF0 : F' 0 j = F 0 j)
    (hm : e' 2 = F' 1 j ∧ e' 3 = F' 2 j ∧ e' 4 = F' 3 j ∧ e' 5 = F' 4 j ∧ e' 6 = F' 6 j ∧ e' 7 = F' 5 j) (hr : rg F' j) : RR a (up2 E u e') F' := by
  have z0 : ∀ k, up2 E u e' k 0 = E k 0 := fun k => up2_k h0
  have z1 : ∀ k, up2 E u e' k 1 = E k 1 := fun k => up2_k h1
  have zF : ∀ i, F' 0 i = F 0 i := fun i => by
    by_cases q : i = j
    · rw [q]; exact hF0
    · exact hF 0 i q
  have hMk : ∀ k i, Mk a (up2 E u e') k i → Mk a E k i := fun k i hk => ⟨hk.1, hk.2.1, by rw [← z0]; exact hk.2.2.1, by rw [← z1]; exact hk.2.2.2⟩
  refine ⟨h.ha, fun k hk hk0 => ?_, fun i hi hi0 => ?_, fun k k' hk hk' q0 q1 e => ?_, fun k i hk hi q0 q1 => ?_, fun i hi hi0 => ?_, fun i hi => ?_⟩
  · obtain ⟨i, b1, b2, b3⟩ := h.r1 k hk (by rw [← z0]; exact hk0)
    exact ⟨i, b1, (z1 k).trans b2, by rw [zF]; exact b3⟩
  · obtain ⟨k, b1, b2, b3⟩ := h.r2 i hi (by rw [← zF]; exact hi0)
    exact ⟨k, b1, by rw [z0]; exact b2, (z1 k).trans b3⟩
  · exact h.r3 k k' hk hk' (by rw [← z0]; exact q0) (by rw [← z0]; exact q1) (by rw [← z1 k, ← z1 k']; exact e)
  · have hk2 := hMk k i ⟨hk, hi, q0, q1⟩
    by_cases q : k = u
    · subst q
      have : i = j := Mk.fn h hk2 hu
      subst this
      rw [up2_s]; exact hm
    · have hne : i ≠ j := fun w => by subst w; exact q (Mk.inj h hk2 hu)
      rw [up2_n q, hF 1 i hne, hF 2 i hne, hF 3 i hne, hF 4 i hne, hF 6 i hne, hF 5 i hne]
      exact h.r4 k i hk hi hk2.2.2.1 hk2.2.2.2
  · by_cases q : i = j
    · rw [q]; exact hr
    · have := h.r5 i hi (by rw [← zF]; exact hi0)
      unfold rg at this ⊢
      rw [hF 1 i q, hF 2 i q, hF 3 i q, hF 4 i q, hF 6 i q]; exact this
  · have hja := hu.2.1
    rw [hF 6 i (by omega)]; exact h.r6 i hi
theorem RR.rem {a : Nat} {E F : Nat → Nat → Int32} (h : RR a E F) {u j : Nat} (hu : Mk a E u j) : RR a (up2 E u (upd (E u) 0 0)) (reF F j) := by
  have hEu : ∀ k, k ≠ u → up2 E u (upd (E u) 0 0) k = E k := fun k q => up2_n q
  have hE0 : up2 E u (upd (E u) 0 0) u 0 = 0 := by rw [up2_s]; simp [upd]
  have hF : ∀ k i, ¬ (k = 0 ∧ i = j) → reF F j k i = F k i := fun k i q => by
    unfold reF
    by_cases k0 : k = 0
    · subst k0
      rw [up2_s]
      have : i ≠ j := fun w => q ⟨rfl, w⟩
      simp [upd, this]
    · rw [up2_n k0]
  have hF0 : reF F j 0 j = 0 := by unfold reF; rw [up2_s]; simp [upd]
  have nu : ∀ k, ¬ up2 E u (upd (E u) 0 0) k 0 = 0 → k ≠ u := fun k q w => by rw [w] at q; exact q hE0
  have nj : ∀ i, ¬ reF F j 0 i = 0 → i ≠ j := fun i q w => by rw [w] at q; exact q hF0
  refine ⟨h.ha, fun k hk hk0 => ?_, fun i hi hi0 => ?_, fun k k' hk hk' q0 q1 e => ?_, fun k i hk hi q0 q1 => ?_, fun i hi hi0 => ?_, fun i hi => ?_⟩
  · have q := nu k hk0
    rw [hEu k q] at hk0 ⊢
    obtain ⟨i, b1, b2, b3⟩ := h.r1 k hk hk0
    have : i ≠ j := fun w => by subst w; exact q (Mk.inj h ⟨hk, b1, hk0, b2⟩ hu)
    exact ⟨i, b1, b2, by rw [hF 0 i (fun w => this w.2)]; exact b3⟩
  · have q := nj i hi0
    rw [hF 0 i (fun w => q w.2)] at hi0
    obtain ⟨k, b1, b2, b3⟩ := h.r2 i hi hi0
    have : k ≠ u := fun w => by subst w; exact q (Mk.fn h ⟨b1, hi, b2, b3⟩ hu)
    exact ⟨k, b1, by rw [hEu k this]; exact b2, by rw [hEu k this]; exact b3⟩
  · have w0 := nu k q0; have w1 := nu k' q1
    rw [hEu k w0] at q0 e; rw [hEu k' w1] at q1 e
    exact h.r3 k k' hk hk' q0 q1 e
  · have w0 := nu k q0
    rw [hEu k w0] at q0 q1 ⊢
    rw [hF 1 i (by omega), hF 2 i (by omega), hF 3 i (by omega), hF 4 i (by omega), hF 6 i (by omega), hF 5 i (by omega)]
    exact h.r4 k i hk hi q0 q1
  · have q := nj i hi0
    rw [hF 0 i (fun w => q w.2)] at hi0
    have := h.r5 i hi hi0
    unfold rg at this ⊢
    rw [hF 1 i (by omega), hF 2 i (by omega), hF 3 i (by omega), hF 4 i (by omega), hF 6 i (by omega)]; exact this
  · rw [hF 6 i (by omega)]; exact h.r6 i hi
theorem adF_at (F : Nat → Nat → Int32) (n : Nat) (kind name ver mark tr : Int32) : adF F n kind name ver mark tr 0 n = 1 ∧ adF F n kind name ver mark tr 1 n = kind ∧ adF F n kind name ver mark tr 2 n = name ∧ adF F n kind name ver mark tr 3 n = ver ∧ adF F n kind name ver mark tr 4 n = mark ∧ adF F n kind name ver mark tr 5 n = tr ∧ adF F n kind name ver mark tr 6 n = F 6 n := by
  unfold adF
  simp [up2, upd]
theorem adF_ne (F : Nat → Nat → Int32) {n i k : Nat} (kind name ver mark tr : Int32) (h : i ≠ n) : adF F n kind name ver mark tr k i = F k i := by
  unfold adF up2 upd
  by_cases k5 : k = 5
  · subst k5; simp [h]
  by_cases k4 : k = 4
  · subst k4; simp [h]
  by_cases k3 : k = 3
  · subst k3; simp [h]
  by_cases k2 : k = 2
  · subst k2; simp [h]
  by_cases k1 : k = 1
  · subst k1; simp [h]
  by_cases k0 : k = 0
  · subst k0; simp [h]
  simp [k0, k1, k2, k3, k4, k5]
theorem flE_at (e : Nat → Int32) (nu kind name ver mark tr : Int32) : flE e nu kind name ver mark tr 0 = 1 ∧ flE e nu kind name ver mark tr 1 = nu ∧ flE e nu kind name ver mark tr 2 = kind ∧ flE e nu kind name ver mark tr 3 = name ∧ flE e nu kind name ver mark tr 4 = ver ∧ flE e nu kind name ver mark tr 5 = mark ∧ flE e nu kind name ver mark tr 6 = 0 ∧ flE e nu kind name ver mark tr 7 = tr := by
  unfold flE
  simp [upd]
theorem RR.add {a : Nat} {E F : Nat → Nat → Int32} (h : RR a E F) {u : Nat} (hu : u < 16) (hu0 : E u 0 = 0) (ha : a < 60) {kind name ver mark tr : Int32} (hok : okM kind name ver mark tr = true) :
    RR (a + 1) (up2 E u (flE (E u) (nI a) kind name ver mark tr)) (adF F a kind name ver mark tr) := by
  obtain ⟨g0, g1, g2, g3, g4, g5, g6, g7⟩ := flE_at (E u) (nI a) kind name ver mark tr
  obtain ⟨f0, f1, f2, f3, f4, f5, f6⟩ := adF_at F a kind name ver mark tr
  rw [h.r6 a (Nat.le_refl a)] at f6
  have hEu : ∀ k, k ≠ u → up2 E u (flE (E u) (nI a) kind name ver mark tr) k = E k := fun k q => up2_n q
  have hEe : up2 E u (flE (E u) (nI a) kind name ver mark tr) u = flE (E u) (nI a) kind name ver mark tr := up2_s
  have hF : ∀ k i, i ≠ a → adF F a kind name ver mark tr k i = F k i := fun k i q => adF_ne F kind name ver mark tr q
  generalize hG : up2 E u (flE (E u) (nI a) kind name ver mark tr) = E' at hEu hEe ⊢
  generalize hGF : adF F a kind name ver mark tr = F' at f0 f1 f2 f3 f4 f5 f6 hF ⊢
  generalize hGe : flE (E u) (nI a) kind name ver mark tr = e' at g0 g1 g2 g3 g4 g5 g6 g7 hEe
  have nold : ∀ k, k < 16 → k ≠ u → ¬ E' k 0 = 0 → ∃ j, j < a ∧ E' k 1 = nI j ∧ ¬ F 0 j = 0 := fun k hk q q0 => by
    rw [hEu k q] at q0 ⊢
    exact h.r1 k hk q0
  have nA : ∀ k, k < 16 → ¬ E' k 0 = 0 → E' k 1 = nI a → k = u := fun k hk q0 q1 => by
    by_cases q : k = u
    · exact q
    · obtain ⟨j, b1, b2, _⟩ := nold k hk q q0
      have := (nI_eq (by omega) (by omega)).mp (q1.symm.trans b2)
      omega
  refine ⟨by omega, fun k hk hk0 => ?_, fun i hi hi0 => ?_, fun k k' hk hk' q0 q1 e => ?_, fun k i hk hi q0 q1 => ?_, fun i hi hi0 => ?_, fun i hi => ?_⟩
  · by_cases q : k = u
    · subst q
      exact ⟨a, by omega, by rw [hEe]; exact g1, by rw [f0]; decide⟩
    · obtain ⟨j, b1, b2, b3⟩ := nold k hk q hk0
      exact ⟨j, by omega, b2, by rw [hF 0 j (by omega)]; exact b3⟩
  · by_cases q : i = a
    · subst q
      exact ⟨u, hu, by rw [hEe, g0]; decide, by rw [hEe]; exact g1⟩
    · rw [hF 0 i q] at hi0
      obtain ⟨k, b1, b2, b3⟩ := h.r2 i (by omega) hi0
      have hk : k ≠ u := fun w => by subst w; exact b2 hu0
      exact ⟨k, b1, by rw [hEu k hk]; exact b2, by rw [hEu k hk]; exact b3⟩
  · by_cases q : k = u
    · subst q
      rw [hEe, g1] at e
      exact (nA k' hk' q1 e.symm).symm
    · by_cases q' : k' = u
      · subst q'
        rw [hEe, g1] at e
        exact nA k hk q0 e
      · rw [hEu k q] at q0 e; rw [hEu k' q'] at q1 e
        exact h.r3 k k' hk hk' q0 q1 e
  · by_cases q : k = u
    · subst q
      rw [hEe, g1] at q1
      have : a = i := (nI_eq (by omega) (by omega)).mp q1
      subst this
      rw [hEe]
      exact ⟨g2.trans f1.symm, g3.trans f2.symm, g4.trans f3.symm, g5.trans f4.symm, g6.trans f6.symm, g7.trans f5.symm⟩
    · obtain ⟨j, b1, b2, b3⟩ := nold k hk q q0
      have : i = j := (nI_eq (by omega) (by omega)).mp (q1.symm.trans b2)
      subst this
      rw [hEu k q] at q0 q1 ⊢
      rw [hF 1 i (by omega), hF 2 i (by omega), hF 3 i (by omega), hF 4 i (by omega), hF 6 i (by omega), hF 5 i (by omega)]
      exact h.r4 k i hk b1 q0 q1
  · by_cases q : i = a
    · subst q
      unfold okM at hok
      simp only [Bool.and_eq_true] at hok
      obtain ⟨k1, k2, k3, k4, k5⟩ := hok
      obtain ⟨n1, l1, e1⟩ := wi_N (n := 2) rfl k1
      obtain ⟨n2, l2, e2⟩ := wi_N (n := 99) rfl k2
      obtain ⟨n3, l3, e3⟩ := wi_N (n := 999999999) rfl k3
      obtain ⟨n4, l4, e4⟩ := wi_N (n := 2) rfl k4
      exact ⟨n1, n2, n3, n4, 0, ⟨l1, l2, l3, l4, by omega⟩, f1.trans e1, f2.trans e2, f3.trans e3, f4.trans e4, f6⟩
    · rw [hF 0 i q] at hi0
      have := h.r5 i (by omega) hi0
      unfold rg at this ⊢
      rw [hF 1 i q, hF 2 i q, hF 3 i q, hF 4 i q, hF 6 i q]; exact this
  · rw [hF 6 i (by omega)]; exact h.r6 i (by omega)
