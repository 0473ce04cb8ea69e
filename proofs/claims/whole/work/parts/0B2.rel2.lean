/-! PURE: both sides find the same entries -/
theorem lf_some {P : Nat → Bool} {j : Nat} : ∀ {n : Nat}, lf P n = some j → P j = true := by
  intro n
  induction n with
  | zero => intro h; simp [lf] at h
  | succ n ih =>
    intro h
    simp only [lf] at h
    by_cases hp : P n = true
    · rw [if_pos hp] at h; cases h; exact hp
    · rw [if_neg hp] at h; exact ih h
theorem lf_none {P : Nat → Bool} : ∀ {n : Nat}, lf P n = none → ∀ i, i < n → P i = false := by
  intro n
  induction n with
  | zero => intro _ i hi; omega
  | succ n ih =>
    intro h i hi
    simp only [lf] at h
    by_cases hp : P n = true
    · rw [if_pos hp] at h; cases h
    · rw [if_neg hp] at h
      rcases Nat.lt_or_ge i n with q | q
      · exact ih h i q
      · have : i = n := by omega
        rw [this]; simpa using hp
section RL2
variable {a : Nat} {σ : Sg} {μ : Mg}
theorem mt_Mj (hM : μ.1 0 = nI a) (ha : a ≤ 60) {j : Nat} (hj : j < a) (h0 : ¬ μ.2 0 j = 0) : mt μ (nI j) = true := by
  unfold mt wi
  have e1 : nI a - 1 = nI (a - 1) := pk_sub (show 1 ≤ a by omega)
  rw [hM, e1, nI_clamp (by omega)]
  have h1 : ¬ nI j < 0 := nI_pos (by omega)
  have h2 : ¬ nI (a - 1) < nI j := fun q => by have := (nI_ltI (by omega) (by omega)).mp q; omega
  simp [h1, h2, h0]
theorem mt_j (hM : μ.1 0 = nI a) (ha : a ≤ 60) {e : Int32} (h : mt μ e = true) : ∃ j, j < a ∧ e = nI j ∧ ¬ μ.2 0 j = 0 := by
  obtain ⟨j, hj, rfl⟩ := wi_in hM ha (mt_wi h)
  refine ⟨j, hj, rfl, ?_⟩
  unfold mt at h
  rw [nI_clamp (by omega)] at h
  simp only [Bool.and_eq_true, Bool.not_eq_true', decide_eq_false_iff_not] at h
  exact h.2
theorem pN_s (h : RR a σ.2.1 μ.2) {e : Int32} {u : Nat} (hu : fs (pN σ.2.1 e) 16 = some u) : ∃ j, Mk a σ.2.1 u j ∧ e = nI j := by
  obtain ⟨h1, h2, -⟩ := fs_lt hu
  simp only [pN, Bool.and_eq_true, decide_eq_true_eq] at h2
  obtain ⟨j, hj⟩ := Mk.ofK h h1 (thr_n.mp h2.1)
  exact ⟨j, hj, h2.2.symm.trans hj.2.2.2⟩
theorem Mk.mt (h : RR a σ.2.1 μ.2) (hM : μ.1 0 = nI a) {u j : Nat} (hu : Mk a σ.2.1 u j) : mt μ (nI j) = true := mt_Mj hM h.ha hu.2.1 (Mk.there h hu)
theorem mt_u (h : RR a σ.2.1 μ.2) (hM : μ.1 0 = nI a) {e : Int32} (hm : mt μ e = true) : ∃ u j, fs (pN σ.2.1 e) 16 = some u ∧ Mk a σ.2.1 u j ∧ e = nI j := by
  obtain ⟨j, hj, rfl, h0⟩ := mt_j hM h.ha hm
  obtain ⟨k, hk⟩ := Mk.ofJ h hj h0
  obtain ⟨u, hu⟩ := fs_ex (P := pN σ.2.1 (nI j)) (n := 16) hk.1 (by simp only [pN, Bool.and_eq_true, decide_eq_true_eq]; exact ⟨thr_n.mpr hk.2.2.1, hk.2.2.2⟩)
  obtain ⟨j', hj', e⟩ := pN_s h hu
  have ha := h.ha
  have : j = j' := (nI_eq (by omega) (by have := hj'.2.1; omega)).mp e
  subst this
  exact ⟨u, j, hu, hj', rfl⟩
theorem mt_no (h : RR a σ.2.1 μ.2) (hM : μ.1 0 = nI a) {e : Int32} (hm : mt μ e = false) : fs (pN σ.2.1 e) 16 = none := by
  rcases optc (fs (pN σ.2.1 e) 16) with q | ⟨u, q⟩
  · exact q
  · obtain ⟨j, hj, rfl⟩ := pN_s h q
    rw [Mk.mt h hM hj] at hm; cases hm
theorem no_mt (h : RR a σ.2.1 μ.2) (hM : μ.1 0 = nI a) (e : Int32) : no1 σ e = !mt μ e := by
  unfold no1
  cases hm : mt μ e with
  | true => obtain ⟨u, j, hu, -⟩ := mt_u h hM hm; rw [hu]; rfl
  | false => rw [mt_no h hM hm]; rfl
theorem cnt_thr (h : RR a σ.2.1 μ.2) : ct (thr σ.2.1) 16 = ct (thM μ) a :=
  ct_eq h (fun _ _ hp => thr_n.mp hp) (fun _ _ hp => thM_n.mp hp) (fun k j hk => by rw [thr_n.mpr hk.2.2.1, thM_n.mpr (Mk.there h hk)])
theorem fit_M (h : RR a σ.2.1 μ.2) (h3 : σ.1 3 = μ.1 3) (h4 : σ.1 4 = μ.1 4) {k j : Nat} (hk : Mk a σ.2.1 k j) : fit σ.1 (σ.2.1 k) = fitM μ (nI j) := by
  have ha := h.ha
  have hj := hk.2.1
  unfold fit fitM
  rw [nI_clamp (show j < 2 ^ 31 by omega), h3, h4, (h.r4 k j hk.1 hj hk.2.2.1 hk.2.2.2).2.1]
theorem cnt_fit (h : RR a σ.2.1 μ.2) (h3 : σ.1 3 = μ.1 3) (h4 : σ.1 4 = μ.1 4) : ct (pF σ) 16 = ct (fiP μ) a :=
  ct_eq h (fun _ _ hp => by simp only [pF, Bool.and_eq_true] at hp; exact thr_n.mp hp.1) (fun _ _ hp => by simp only [fiP, Bool.and_eq_true] at hp; exact thM_n.mp hp.1)
    (fun k j hk => by rw [pF, fiP, thr_n.mpr hk.2.2.1, thM_n.mpr (Mk.there h hk), fit_M h h3 h4 hk])
theorem pA_pl (h : RR a σ.2.1 μ.2) {u j k i : Nat} (hu : Mk a σ.2.1 u j) (hk : Mk a σ.2.1 k i) : pA σ.2.1 u k = plP μ (nI j) i := by
  have ha := h.ha
  have hj := hu.2.1; have hi := hk.2.1
  rw [pA, plP, thr_n.mpr hk.2.2.1, thM_n.mpr (Mk.there h hk), ah_ahM h hk hu, Bool.true_and, Bool.true_and]
  by_cases q : i = j
  · subst q
    rw [ahM_key (by omega) (by omega) (Mk.rg h hk) (Mk.rg h hu)]
    simp
  · have : ¬ nI i = nI j := fun e => q ((nI_eq (by omega) (by omega)).mp e)
    simp [this]
theorem plc (h : RR a σ.2.1 μ.2) {u j : Nat} (hu : Mk a σ.2.1 u j) : ct (pA σ.2.1 u) 16 = ct (plP μ (nI j)) a :=
  ct_eq h (fun _ _ hp => by simp only [pA, Bool.and_eq_true] at hp; exact thr_n.mp hp.1) (fun _ _ hp => by simp only [plP, Bool.and_eq_true] at hp; exact thM_n.mp hp.1)
    (fun k i hk => pA_pl h hu hk)
theorem plP_key (h : RR a σ.2.1 μ.2) {i j : Nat} (hi : i < a) (hj : j < a) (h0 : ¬ μ.2 0 j = 0) : plP μ (nI j) i = (thM μ i && decide (ky μ.2 i < ky μ.2 j)) := by
  have ha := h.ha
  rw [plP]
  cases hq : thM μ i with
  | false => rfl
  | true =>
    have h1 := thM_n.mp hq
    rw [ahM_key (by omega) (by omega) (h.r5 i hi h1) (h.r5 j hj h0), Bool.true_and, Bool.true_and]
    by_cases q : i = j
    · subst q; simp
    · have : ¬ nI i = nI j := fun e => q ((nI_eq (by omega) (by omega)).mp e)
      simp [this]
theorem plc_lt (h : RR a σ.2.1 μ.2) {i j : Nat} (hi : i < a) (hj : j < a) (h0 : ¬ μ.2 0 i = 0) (h1 : ¬ μ.2 0 j = 0) (hlt : ky μ.2 i < ky μ.2 j) : ct (plP μ (nI i)) a < ct (plP μ (nI j)) a := by
  refine ct_lt (x := i) (fun k hk hp => ?_) hi ?_ ?_
  · rw [plP_key h hk hi h0, Bool.and_eq_true, decide_eq_true_eq] at hp
    rw [plP_key h hk hj h1, Bool.and_eq_true, decide_eq_true_eq]
    exact ⟨hp.1, by omega⟩
  · rw [plP_key h hi hj h1, Bool.and_eq_true, decide_eq_true_eq]
    exact ⟨thM_n.mpr h0, hlt⟩
  · rw [plP_key h hi hi h0]; simp
theorem plc_inj (h : RR a σ.2.1 μ.2) {i j : Nat} (hi : i < a) (hj : j < a) (h0 : ¬ μ.2 0 i = 0) (h1 : ¬ μ.2 0 j = 0) (e : ct (plP μ (nI i)) a = ct (plP μ (nI j)) a) : i = j := by
  have ha := h.ha
  refine ky_inj (by omega) (by omega) (h.r5 i hi h0) (h.r5 j hj h1) ?_
  rcases Int.lt_trichotomy (ky μ.2 i) (ky μ.2 j) with q | q | q
  · have := plc_lt h hi hj h0 h1 q; omega
  · exact q
  · have := plc_lt h hj hi h1 h0 q; omega
theorem pP_at (h : RR a σ.2.1 μ.2) {pl : Int32} {u j : Nat} (hu : Mk a σ.2.1 u j) : pP σ.2.1 pl u = atP μ a pl j := by
  rw [pP, atP, thr_n.mpr hu.2.2.1, thM_n.mpr (Mk.there h hu), plc h hu]
theorem at_s (h : RR a σ.2.1 μ.2) {pl : Int32} {u : Nat} (hu : fs (pP σ.2.1 pl) 16 = some u) : ∃ j, Mk a σ.2.1 u j ∧ lf (atP μ a pl) a = some j := by
  have ha := h.ha
  obtain ⟨h1, h2, -⟩ := fs_lt hu
  have h3 := h2
  simp only [pP, Bool.and_eq_true] at h3
  obtain ⟨j, hj⟩ := Mk.ofK h h1 (thr_n.mp h3.1)
  have hja := hj.2.1
  rw [pP_at h hj] at h2
  refine ⟨j, hj, ?_⟩
  rcases optc (lf (atP μ a pl) a) with q | ⟨b, q⟩
  · have := lf_none q j hj.2.1; rw [h2] at this; cases this
  · have hb := lf_some q
    have hba := lf_lt q
    simp only [atP, Bool.and_eq_true, decide_eq_true_eq] at hb h2
    have l1 := ct_le (plP μ (nI b)) a
    have l2 := ct_le (plP μ (nI j)) a
    have e := (nI_eq (by omega) (by omega)).mp (hb.2.trans h2.2.symm)
    rw [q, plc_inj h hba hj.2.1 (thM_n.mp hb.1) (thM_n.mp h2.1) e]
theorem at_n (h : RR a σ.2.1 μ.2) {pl : Int32} (hu : fs (pP σ.2.1 pl) 16 = none) : lf (atP μ a pl) a = none := by
  rcases optc (lf (atP μ a pl) a) with q | ⟨b, q⟩
  · exact q
  · have hb := lf_some q
    have hb2 := hb
    simp only [atP, Bool.and_eq_true] at hb2
    obtain ⟨k, hk⟩ := Mk.ofJ h (lf_lt q) (thM_n.mp hb2.1)
    have := fs_no hu k hk.1
    rw [pP_at h hk, hb] at this; cases this
/-! the choice -/
theorem ah_row (h : RR a σ.2.1 μ.2) {x y : Nat} (hx : x < 16) (hy : y < 16) (h1 : ¬ σ.2.1 x 0 = 0) (h2 : ¬ σ.2.1 y 0 = 0) : ah (σ.2.1 x) (σ.2.1 y) = decide (ky μ.2 (σ.2.1 x 1).toNatClampNeg < ky μ.2 (σ.2.1 y 1).toNatClampNeg) := by
  have ha := h.ha
  obtain ⟨i, hi⟩ := Mk.ofK h hx h1
  obtain ⟨j, hj⟩ := Mk.ofK h hy h2
  have hia := hi.2.1; have hja := hj.2.1
  rw [ah_key h hi hj, hi.2.2.2, hj.2.2.2, nI_clamp (by omega), nI_clamp (by omega)]
theorem aM_key (h : RR a σ.2.1 μ.2) {i j : Nat} (hi : i < a) (hj : j < a) (h0 : ¬ μ.2 0 i = 0) (h1 : ¬ μ.2 0 j = 0) : aM μ.2 i j = decide (ky μ.2 i < ky μ.2 j) := by
  have ha := h.ha
  exact ahM_key (by omega) (by omega) (h.r5 i hi h0) (h.r5 j hj h1)
theorem can_thM {b : Bool} {j : Nat} (hc : canM μ b j = true) : ¬ μ.2 0 j = 0 := by
  simp only [canM, Bool.and_eq_true] at hc; exact thM_n.mp hc.1
theorem fst_s (h : RR a σ.2.1 μ.2) {b : Bool} {i : Nat} (hf : fstM μ b a = some i) : i < a ∧ canM μ b i = true ∧ ∀ j, j < a → canM μ b j = true → ky μ.2 i ≤ ky μ.2 j :=
  (mf_min (A := aM μ.2) (C := canM μ b) (κ := ky μ.2) (n := a) (fun _ _ hx hy h1 h2 => aM_key h hx hy (can_thM h1) (can_thM h2))).1 i hf
theorem fst_n (h : RR a σ.2.1 μ.2) {b : Bool} (hf : fstM μ b a = none) : ∀ j, j < a → canM μ b j = false :=
  (mf_min (A := aM μ.2) (C := canM μ b) (κ := ky μ.2) (n := a) (fun _ _ hx hy h1 h2 => aM_key h hx hy (can_thM h1) (can_thM h2))).2 hf
theorem pC_can (h : RR a σ.2.1 μ.2) (h3 : σ.1 3 = μ.1 3) (h4 : σ.1 4 = μ.1 4) {k j : Nat} (hk : Mk a σ.2.1 k j) : pC σ k = canM μ false j := by
  rw [pC, canM, thr_n.mpr hk.2.2.1, thM_n.mpr (Mk.there h hk), fit_M h h3 h4 hk, bad, (h.r4 k j hk.1 hk.2.1 hk.2.2.1 hk.2.2.2).2.2.2.2.2, Bool.false_or]
theorem pC_thr {k : Nat} (hc : pC σ k = true) : ¬ σ.2.1 k 0 = 0 := by
  simp only [pC, Bool.and_eq_true] at hc; exact thr_n.mp hc.1
def nz (μ : Mg) (a : Nat) : Int32 := if 0 ≤ oI (fstM μ false a) then oI (fstM μ false a) else oI (fstM μ true a)
theorem can_true (h : RR a σ.2.1 μ.2) {k j : Nat} (hk : Mk a σ.2.1 k j) : canM μ true j = true := by
  rw [canM, thM_n.mpr (Mk.there h hk)]; rfl
theorem nx2_nz (h : RR a σ.2.1 μ.2) (h3 : σ.1 3 = μ.1 3) (h4 : σ.1 4 = μ.1 4) : (∀ u, nx2 σ = some u → ∃ j, Mk a σ.2.1 u j ∧ nz μ a = nI j) ∧ (nx2 σ = none → nz μ a = -1) := by
  have ha := h.ha
  have hmin := mf_min (A := fun x y => ah (σ.2.1 x) (σ.2.1 y)) (C := pC σ) (κ := fun x => ky μ.2 (σ.2.1 x 1).toNatClampNeg) (n := 16) (fun x y hx hy h1 h2 => ah_row h hx hy (pC_thr h1) (pC_thr h2))
  rw [← ff_mf] at hmin
  unfold nx2 nz
  rcases optc (ff σ.2.1 (pC σ) 16) with hf | ⟨u0, hf⟩
  · have hnone : fstM μ false a = none := by
      rcases optc (fstM μ false a) with q | ⟨b, q⟩
      · exact q
      · obtain ⟨b1, b2, b3⟩ := fst_s h q
        obtain ⟨k, hk⟩ := Mk.ofJ h b1 (can_thM b2)
        have := hmin.2 hf k hk.1
        rw [pC_can h h3 h4 hk, b2] at this; cases this
    rw [hf, oel_n, hnone, oI_n, if_neg (by decide)]
    refine ⟨fun u hu => ?_, fun hu => ?_⟩
    · obtain ⟨h1, h2, -⟩ := fs_lt hu
      simp only [pP, Bool.and_eq_true, decide_eq_true_eq] at h2
      obtain ⟨j, hj⟩ := Mk.ofK h h1 (thr_n.mp h2.1)
      have hc0 : ct (pA σ.2.1 u) 16 = 0 := by
        have l := ct_le (pA σ.2.1 u) 16
        exact (nI_eq (b := 0) (by omega) (by omega)).mp (h2.2.trans nI_0.symm)
      have hz := ct_zero hc0
      refine ⟨j, hj, ?_⟩
      rcases optc (fstM μ true a) with q | ⟨b, q⟩
      · have := fst_n h q j hj.2.1; rw [can_true h hj] at this; cases this
      · obtain ⟨b1, b2, b3⟩ := fst_s h q
        obtain ⟨k, hk⟩ := Mk.ofJ h b1 (can_thM b2)
        have l1 := b3 j hj.2.1 (can_true h hj)
        have l2 := hz k hk.1
        rw [pA, thr_n.mpr hk.2.2.1, ah_key h hk hj, Bool.true_and, decide_eq_false_iff_not] at l2
        have hja := hj.2.1
        have : b = j := ky_inj (by omega) (by omega) (Mk.rg h hk) (Mk.rg h hj) (by omega)
        rw [q, oI_s, this]
    · have : fstM μ true a = none := by
        rcases optc (fstM μ true a) with q | ⟨b, q⟩
        · exact q
        · obtain ⟨b1, b2, b3⟩ := fst_s h q
          obtain ⟨k, hk⟩ := Mk.ofJ h b1 (can_thM b2)
          have hn := fs_no hu k hk.1
          have hc0 : ct (pA σ.2.1 k) 16 = 0 := by
            apply ct_none
            intro i hi
            rw [pA]
            cases ht : thr σ.2.1 i with
            | false => rfl
            | true =>
              obtain ⟨x, hx⟩ := Mk.ofK h hi (thr_n.mp ht)
              have := b3 x hx.2.1 (can_true h hx)
              rw [ah_key h hx hk, Bool.true_and, decide_eq_false_iff_not]; omega
          rw [pP, thr_n.mpr hk.2.2.1, hc0] at hn
          simp [nI_0] at hn
      rw [this, oI_n]
  · rw [hf, oel_s]
    obtain ⟨u1, u2, u3⟩ := hmin.1 u0 hf
    obtain ⟨j, hj⟩ := Mk.ofK h u1 (pC_thr u2)
    have hja := hj.2.1
    rw [pC_can h h3 h4 hj] at u2
    rcases optc (fstM μ false a) with q | ⟨b, q⟩
    · have := fst_n h q j hj.2.1; rw [u2] at this; cases this
    · obtain ⟨b1, b2, b3⟩ := fst_s h q
      obtain ⟨k, hk⟩ := Mk.ofJ h b1 (can_thM b2)
      have l1 := b3 j hj.2.1 u2
      have l2 := u3 k hk.1 (by rw [pC_can h h3 h4 hk]; exact b2)
      try dsimp only at l2
      rw [hj.2.2.2, hk.2.2.2, nI_clamp (show j < 2 ^ 31 by omega), nI_clamp (show b < 2 ^ 31 by omega)] at l2
      have : b = j := ky_inj (by omega) (by omega) (Mk.rg h hk) (Mk.rg h hj) (by omega)
      subst this
      rw [q, oI_s, if_pos (nI_pos' (by omega))]
      exact ⟨fun u hu => by cases hu; exact ⟨b, hj, rfl⟩, fun hu => by cases hu⟩
theorem nx_ch (h : RR a σ.2.1 μ.2) (hM : μ.1 0 = nI a) (h1 : σ.1 1 = μ.1 1) (h2 : σ.1 2 = μ.1 2) (h3 : σ.1 3 = μ.1 3) (h4 : σ.1 4 = μ.1 4) : (∀ u, nx σ = some u → ∃ j, Mk a σ.2.1 u j ∧ chM μ a = nI j) ∧ (nx σ = none → chM μ a = -1) := by
  have ha := h.ha
  have hz := nx2_nz h h3 h4
  have e : chM μ a = if mt μ (μ.1 2) = true then μ.1 2 else if mt μ (μ.1 1) = true then (if μ.2 5 (μ.1 1).toNatClampNeg = 0 then nz μ a else μ.1 1) else nz μ a := rfl
  rw [e]
  unfold nx
  rw [h1, h2]
  cases hm2 : mt μ (μ.1 2) with
  | true =>
    obtain ⟨u, j, hu, hj, ej⟩ := mt_u h hM hm2
    rw [hu, oel_s, if_pos rfl]
    exact ⟨fun u' q => by cases q; exact ⟨j, hj, ej⟩, fun q => by cases q⟩
  | false =>
    rw [mt_no h hM hm2, oel_n, if_neg (by decide)]
    cases hm1 : mt μ (μ.1 1) with
    | true =>
      obtain ⟨u, j, hu, hj, ej⟩ := mt_u h hM hm1
      have hja := hj.2.1
      rw [hu, oel_s, if_pos rfl, ej, nI_clamp (show j < 2 ^ 31 by omega), bad, (h.r4 u j hj.1 hj.2.1 hj.2.2.1 hj.2.2.2).2.2.2.2.2]
      by_cases q5 : μ.2 5 j = 0
      · rw [if_pos q5, if_pos (by simp [q5])]; exact hz
      · rw [if_neg q5, if_neg (by simp [q5])]
        exact ⟨fun u' q => by cases q; exact ⟨j, hj, rfl⟩, fun q => by cases q⟩
    | false =>
      rw [mt_no h hM hm1, oel_n, if_neg (by decide)]
      exact hz
end RL2
