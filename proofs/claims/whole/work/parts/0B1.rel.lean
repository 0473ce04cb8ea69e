/-! THE RELATION of the chooser's rows (E) and the model's numbers (F); a: how many entries there ever were -/
def rg (F : Nat → Nat → Int32) (j : Nat) : Prop := ∃ f1 f2 f3 f4 f6 : Nat, (f1 ≤ 2 ∧ f2 ≤ 99 ∧ f3 ≤ 999999999 ∧ f4 ≤ 2 ∧ f6 ≤ 99) ∧ F 1 j = nI f1 ∧ F 2 j = nI f2 ∧ F 3 j = nI f3 ∧ F 4 j = nI f4 ∧ F 6 j = nI f6
def RR (a : Nat) (E F : Nat → Nat → Int32) : Prop :=
  (a ≤ 60) ∧
  (∀ k, k < 16 → ¬ E k 0 = 0 → ∃ j, j < a ∧ E k 1 = nI j ∧ ¬ F 0 j = 0) ∧
  (∀ j, j < a → ¬ F 0 j = 0 → ∃ k, k < 16 ∧ ¬ E k 0 = 0 ∧ E k 1 = nI j) ∧
  (∀ k k', k < 16 → k' < 16 → ¬ E k 0 = 0 → ¬ E k' 0 = 0 → E k 1 = E k' 1 → k = k') ∧
  (∀ k j, k < 16 → j < a → ¬ E k 0 = 0 → E k 1 = nI j → E k 2 = F 1 j ∧ E k 3 = F 2 j ∧ E k 4 = F 3 j ∧ E k 5 = F 4 j ∧ E k 6 = F 6 j ∧ E k 7 = F 5 j) ∧
  (∀ j, j < a → ¬ F 0 j = 0 → rg F j) ∧
  (∀ j, a ≤ j → F 6 j = 0)
theorem RR.ha {a : Nat} {E F : Nat → Nat → Int32} (h : RR a E F) : a ≤ 60 := h.1
theorem RR.r1 {a : Nat} {E F : Nat → Nat → Int32} (h : RR a E F) : ∀ k, k < 16 → ¬ E k 0 = 0 → ∃ j, j < a ∧ E k 1 = nI j ∧ ¬ F 0 j = 0 := h.2.1
theorem RR.r2 {a : Nat} {E F : Nat → Nat → Int32} (h : RR a E F) : ∀ j, j < a → ¬ F 0 j = 0 → ∃ k, k < 16 ∧ ¬ E k 0 = 0 ∧ E k 1 = nI j := h.2.2.1
theorem RR.r3 {a : Nat} {E F : Nat → Nat → Int32} (h : RR a E F) : ∀ k k', k < 16 → k' < 16 → ¬ E k 0 = 0 → ¬ E k' 0 = 0 → E k 1 = E k' 1 → k = k' := h.2.2.2.1
theorem RR.r4 {a : Nat} {E F : Nat → Nat → Int32} (h : RR a E F) : ∀ k j, k < 16 → j < a → ¬ E k 0 = 0 → E k 1 = nI j → E k 2 = F 1 j ∧ E k 3 = F 2 j ∧ E k 4 = F 3 j ∧ E k 5 = F 4 j ∧ E k 6 = F 6 j ∧ E k 7 = F 5 j := h.2.2.2.2.1
theorem RR.r5 {a : Nat} {E F : Nat → Nat → Int32} (h : RR a E F) : ∀ j, j < a → ¬ F 0 j = 0 → rg F j := h.2.2.2.2.2.1
theorem RR.r6 {a : Nat} {E F : Nat → Nat → Int32} (h : RR a E F) : ∀ j, a ≤ j → F 6 j = 0 := h.2.2.2.2.2.2
def Mk (a : Nat) (E : Nat → Nat → Int32) (k j : Nat) : Prop := k < 16 ∧ j < a ∧ ¬ E k 0 = 0 ∧ E k 1 = nI j
section RL
variable {a : Nat} {E F : Nat → Nat → Int32}
theorem Mk.fn (h : RR a E F) {k j j' : Nat} (h1 : Mk a E k j) (h2 : Mk a E k j') : j = j' := by
  have := h.ha
  have e := h1.2.2.2.symm.trans h2.2.2.2
  have h1j := h1.2.1; have h2j := h2.2.1
  exact (nI_eq (by omega) (by omega)).mp e
theorem Mk.inj (h : RR a E F) {k k' j : Nat} (h1 : Mk a E k j) (h2 : Mk a E k' j) : k = k' := h.r3 k k' h1.1 h2.1 h1.2.2.1 h2.2.2.1 (h1.2.2.2.trans h2.2.2.2.symm)
theorem Mk.there (h : RR a E F) {k j : Nat} (h1 : Mk a E k j) : ¬ F 0 j = 0 := by
  obtain ⟨j', hj', e, h0⟩ := h.r1 k h1.1 h1.2.2.1
  have : j = j' := Mk.fn h h1 ⟨h1.1, hj', h1.2.2.1, e⟩
  rw [this]; exact h0
theorem Mk.ofK (h : RR a E F) {k : Nat} (hk : k < 16) (h0 : ¬ E k 0 = 0) : ∃ j, Mk a E k j := by
  obtain ⟨j, hj, e, _⟩ := h.r1 k hk h0
  exact ⟨j, hk, hj, h0, e⟩
theorem Mk.ofJ (h : RR a E F) {j : Nat} (hj : j < a) (h0 : ¬ F 0 j = 0) : ∃ k, Mk a E k j := by
  obtain ⟨k, hk, h1, e⟩ := h.r2 j hj h0
  exact ⟨k, hk, hj, h1, e⟩
theorem thr_n {k : Nat} : thr E k = true ↔ ¬ E k 0 = 0 := by simp [thr]
theorem thM_n {μ : Mg} {j : Nat} : thM μ j = true ↔ ¬ μ.2 0 j = 0 := by simp [thM]
theorem ct_eq (h : RR a E F) {P R : Nat → Bool} (hP : ∀ k, k < 16 → P k = true → ¬ E k 0 = 0) (hR : ∀ j, j < a → R j = true → ¬ F 0 j = 0) (hPR : ∀ k j, Mk a E k j → P k = R j) : ct P 16 = ct R a := by
  apply Nat.le_antisymm
  · refine ct_inj (Mt := Mk a E) (fun k hk hp => ?_) (fun k k' j _ _ h1 h2 => Mk.inj h h1 h2)
    obtain ⟨j, hj⟩ := Mk.ofK h hk (hP k hk hp)
    exact ⟨j, hj.2.1, by rw [← hPR k j hj]; exact hp, hj⟩
  · refine ct_inj (Mt := fun j k => Mk a E k j) (fun j hj hp => ?_) (fun j j' k _ _ h1 h2 => Mk.fn h h1 h2)
    obtain ⟨k, hk⟩ := Mk.ofJ h hj (hR j hj hp)
    exact ⟨k, hk.1, by rw [hPR k j hk]; exact hp, hk⟩
/-- the order as a number: the least is ahead -/
def ky (F : Nat → Nat → Int32) (j : Nat) : Int := (((((if F 5 j = 0 then 1 else 0) * 3 + (F 1 j).toInt) * 1000000000 + (999999999 - (F 3 j).toInt)) * 3 + (2 - (F 4 j).toInt)) * 100 + (F 2 j).toInt) * 60 + j
theorem core_key {b1 b2 : Prop} [Decidable b1] [Decidable b2] {f1 f2 f3 f4 g1 g2 g3 g4 i j : Nat} (hf : f1 ≤ 2 ∧ f2 ≤ 99 ∧ f3 ≤ 999999999 ∧ f4 ≤ 2) (hg : g1 ≤ 2 ∧ g2 ≤ 99 ∧ g3 ≤ 999999999 ∧ g4 ≤ 2) (hi : i < 60) (hj : j < 60) :
    (if (b1 ↔ b2) then (if f1 = g1 then (if (if f3 = g3 then sgN f4 g4 else sgN f3 g3) = 0 then (if f2 = g2 then decide (i < j) else decide (f2 < g2)) else !decide ((if f3 = g3 then sgN f4 g4 else sgN f3 g3) ≤ 0)) else decide (f1 < g1)) else !decide b1)
    = decide (((((((if b1 then 1 else 0) * 3 + (f1 : Int)) * 1000000000 + (999999999 - (f3 : Int))) * 3 + (2 - (f4 : Int))) * 100 + (f2 : Int)) * 60 + i : Int) < (((((if b2 then 1 else 0) * 3 + (g1 : Int)) * 1000000000 + (999999999 - (g3 : Int))) * 3 + (2 - (g4 : Int))) * 100 + (g2 : Int)) * 60 + j) := by
  obtain ⟨a1, a2, a3, a4⟩ := hf
  obtain ⟨c1, c2, c3, c4⟩ := hg
  by_cases hb : (b1 ↔ b2)
  · rw [if_pos hb]
    have hbe : (if b1 then (1 : Int) else 0) = (if b2 then 1 else 0) := by by_cases q : b1 <;> simp [q, hb.mp, ← hb]
    rw [hbe]
    generalize (if b2 then (1 : Int) else 0) = B
    by_cases h1 : f1 = g1
    · rw [if_pos h1]
      subst h1
      by_cases h3 : f3 = g3
      · subst h3
        rw [if_pos rfl]
        by_cases h4 : f4 = g4
        · subst h4
          rw [if_pos (sgN_0.mpr rfl)]
          by_cases h2 : f2 = g2
          · subst h2; rw [if_pos rfl, decide_eq_decide]; omega
          · rw [if_neg h2, decide_eq_decide]; omega
        · rw [if_neg (fun q => h4 (sgN_0.mp q)), ← decide_not, decide_eq_decide, sgN_le]; omega
      · rw [if_neg h3, if_neg (fun q => h3 (sgN_0.mp q)), ← decide_not, decide_eq_decide, sgN_le]; omega
    · rw [if_neg h1, decide_eq_decide]; omega
  · rw [if_neg hb, ← decide_not, decide_eq_decide]
    by_cases q : b1
    · have q2 : ¬ b2 := fun q2 => hb ⟨fun _ => q2, fun _ => q⟩
      rw [if_pos q, if_neg q2]
      exact ⟨fun h => absurd q h, fun h => by omega⟩
    · have q2 : b2 := Classical.byContradiction fun q2 => hb ⟨fun h => absurd h q, fun h => absurd h q2⟩
      rw [if_neg q, if_pos q2]
      exact ⟨fun _ => by omega, fun _ => q⟩
theorem cm_N {F : Nat → Nat → Int32} {i j f3 f4 g3 g4 : Nat} (hi : i < 60) (hj : j < 60) (hf : f3 ≤ 999999999 ∧ f4 ≤ 2) (hg : g3 ≤ 999999999 ∧ g4 ≤ 2) (e1 : F 3 i = nI f3) (e2 : F 4 i = nI f4) (e3 : F 3 j = nI g3) (e4 : F 4 j = nI g4) : cmM F (nI i) (nI j) = if f3 = g3 then sgN f4 g4 else sgN f3 g3 := by
  unfold cmM
  rw [nI_clamp (show i < 2 ^ 31 by omega), nI_clamp (show j < 2 ^ 31 by omega), e1, e2, e3, e4]
  by_cases h : f3 = g3
  · rw [if_pos h, if_pos ((sub_0 (by omega) (by omega)).mpr h), sg_N (by omega) (by omega)]
  · rw [if_neg h, if_neg (fun q => h ((sub_0 (by omega) (by omega)).mp q)), sg_N (by omega) (by omega)]
theorem cv_N {x y : Nat → Int32} {f3 f4 g3 g4 : Nat} (hf : f3 ≤ 999999999 ∧ f4 ≤ 2) (hg : g3 ≤ 999999999 ∧ g4 ≤ 2) (e1 : x 4 = nI f3) (e2 : x 5 = nI f4) (e3 : y 4 = nI g3) (e4 : y 5 = nI g4) : cv x y = if f3 = g3 then sgN f4 g4 else sgN f3 g3 := by
  unfold cv
  rw [e1, e2, e3, e4]
  by_cases h : f3 = g3
  · rw [if_pos h, if_pos (by rw [h]), icp_N (by omega) (by omega)]
  · rw [if_neg h, if_neg (fun q => h ((nI_eq (by omega) (by omega)).mp q))]
    unfold sgN
    by_cases h2 : f3 < g3
    · rw [if_pos h2, if_pos ((nI_leI (by omega) (by omega)).mpr (by omega))]
    · rw [if_neg h2, if_neg h, if_neg (fun q => by have := (nI_leI (by omega) (by omega)).mp q; omega)]
theorem ahM_key {F : Nat → Nat → Int32} {i j : Nat} (hi : i < 60) (hj : j < 60) (h1 : rg F i) (h2 : rg F j) : ahM F (nI i) (nI j) = decide (ky F i < ky F j) := by
  obtain ⟨f1, f2, f3, f4, f6, ⟨a1, a2, a3, a4, -⟩, e1, e2, e3, e4, -⟩ := h1
  obtain ⟨g1, g2, g3, g4, g6, ⟨c1, c2, c3, c4, -⟩, d1, d2, d3, d4, -⟩ := h2
  have key := core_key (b1 := F 5 i = 0) (b2 := F 5 j = 0) (i := i) (j := j) ⟨a1, a2, a3, a4⟩ ⟨c1, c2, c3, c4⟩ hi hj
  have hc := cm_N (F := F) hi hj ⟨a3, a4⟩ ⟨c3, c4⟩ e3 e4 d3 d4
  unfold ahM ky
  rw [hc, nI_clamp (show i < 2 ^ 31 by omega), nI_clamp (show j < 2 ^ 31 by omega), e1, e2, e3, e4, d1, d2, d3, d4]
  rw [nI_toInt (by omega), nI_toInt (by omega), nI_toInt (by omega), nI_toInt (by omega), nI_toInt (by omega), nI_toInt (by omega), nI_toInt (by omega), nI_toInt (by omega)]
  rw [← key]
  have q1 : (nI f1 = nI g1) ↔ f1 = g1 := nI_eq (by omega) (by omega)
  have q2 : (nI f2 = nI g2) ↔ f2 = g2 := nI_eq (by omega) (by omega)
  have q3 : (nI g1 ≤ nI f1) ↔ g1 ≤ f1 := nI_leI (by omega) (by omega)
  have q4 : (nI g2 ≤ nI f2) ↔ g2 ≤ f2 := nI_leI (by omega) (by omega)
  have q5 : (nI j ≤ nI i) ↔ j ≤ i := nI_leI (by omega) (by omega)
  simp only [q1, q2, q3, q4, q5, ← decide_not, Nat.not_le]
theorem Mk.rg (h : RR a E F) {k j : Nat} (h1 : Mk a E k j) : rg F j := h.r5 j h1.2.1 (Mk.there h h1)
theorem ah_ahM (h : RR a E F) {k k' j j' : Nat} (h1 : Mk a E k j) (h2 : Mk a E k' j') : ah (E k) (E k') = ahM F (nI j) (nI j') := by
  have ha := h.ha
  have hj := h1.2.1; have hj' := h2.2.1
  obtain ⟨f1, f2, f3, f4, f6, ⟨a1, a2, a3, a4, -⟩, e1, e2, e3, e4, -⟩ := Mk.rg h h1
  obtain ⟨g1, g2, g3, g4, g6, ⟨c1, c2, c3, c4, -⟩, d1, d2, d3, d4, -⟩ := Mk.rg h h2
  obtain ⟨x2, x3, x4, x5, x6, x7⟩ := h.r4 k j h1.1 hj h1.2.2.1 h1.2.2.2
  obtain ⟨y2, y3, y4, y5, y6, y7⟩ := h.r4 k' j' h2.1 hj' h2.2.2.1 h2.2.2.2
  have hc := cm_N (F := F) (i := j) (j := j') (by omega) (by omega) ⟨a3, a4⟩ ⟨c3, c4⟩ e3 e4 d3 d4
  have hv := cv_N (x := E k) (y := E k') ⟨a3, a4⟩ ⟨c3, c4⟩ (x4.trans e3) (x5.trans e4) (y4.trans d3) (y5.trans d4)
  unfold ah ahM bad
  rw [hc, hv, nI_clamp (show j < 2 ^ 31 by omega), nI_clamp (show j' < 2 ^ 31 by omega), x2, x3, x7, y2, y3, y7, h1.2.2.2, h2.2.2.2]
  by_cases q1 : F 5 j = 0
  · by_cases q2 : F 5 j' = 0
    · simp [q1, q2, bI]
    · simp [q1, q2, bI]
  · by_cases q2 : F 5 j' = 0
    · simp [q1, q2, bI]
    · simp [q1, q2, bI]
theorem ah_key (h : RR a E F) {k k' j j' : Nat} (h1 : Mk a E k j) (h2 : Mk a E k' j') : ah (E k) (E k') = decide (ky F j < ky F j') := by
  have ha := h.ha
  have hj := h1.2.1; have hj' := h2.2.1
  rw [ah_ahM h h1 h2, ahM_key (by omega) (by omega) (Mk.rg h h1) (Mk.rg h h2)]
theorem ky_inj {F : Nat → Nat → Int32} {i j : Nat} (hi : i < 60) (hj : j < 60) (h1 : rg F i) (h2 : rg F j) (h : ky F i = ky F j) : i = j := by
  obtain ⟨f1, f2, f3, f4, f6, ⟨a1, a2, a3, a4, -⟩, e1, e2, e3, e4, -⟩ := h1
  obtain ⟨g1, g2, g3, g4, g6, ⟨c1, c2, c3, c4, -⟩, d1, d2, d3, d4, -⟩ := h2
  unfold ky at h
  generalize (if F 5 i = 0 then (1 : Int) else 0) = B at h
  generalize (if F 5 j = 0 then (1 : Int) else 0) = C at h
  omega
end RL
