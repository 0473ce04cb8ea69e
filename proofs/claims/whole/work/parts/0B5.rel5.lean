/-! THE RELATION of the chooser's value and the model's -/
def LK (K G M : Nat → Int32) : Prop := K 0 = M 7 ∧ (M 7 = 0 ∨ M 7 = 1) ∧ ∃ cl en : Nat, (1 ≤ cl ∧ cl ≤ 6 ∧ en ≤ 12) ∧ K 2 = nI cl ∧ (¬ M 7 = 0 → M 9 = nI cl ∧ K 1 = M 8) ∧ K 3 = nI en ∧ M 10 = nI en ∧ dg G en ∧ M 11 = nI (tv G en)
def Rl (a : Nat) (σ : Sg) (μ : Mg) : Prop := RR a σ.2.1 μ.2 ∧ (σ.1 0 = nI a ∧ μ.1 0 = nI a) ∧ (σ.1 1 = μ.1 1 ∧ σ.1 2 = μ.1 2 ∧ σ.1 3 = μ.1 3 ∧ σ.1 4 = μ.1 4 ∧ σ.1 5 = μ.1 5 ∧ σ.1 6 = μ.1 6) ∧ LK σ.2.2.1 σ.2.2.2 μ.1 ∧ (μ.1 5 = -1 ∨ ∃ j, j < a ∧ μ.1 5 = nI j)
section RL5
variable {a : Nat} {σ : Sg} {μ : Mg}
theorem Rl.thr (h : Rl a σ μ) (k : Int32) : Rl a σ (thr12 μ k) := h
theorem Rl.M (h : Rl a σ μ) : μ.1 0 = nI a := h.2.1.2
theorem Rl.ha (h : Rl a σ μ) : a ≤ 60 := h.1.ha
theorem Rl.K0 (h : Rl a σ μ) : σ.2.2.1 0 = μ.1 7 := h.2.2.2.1.1
/-- what an operation owes -/
def opF (kk kM : Int32) (a : Nat) (σ : Sg) (μ2 : Mg) {U : Type} (P : Int32 → U → Prop) (S : Int32 → U → Sg) (r' : Int32) : Prop :=
  kk = kM ∧ μ2.1 12 = kM ∧ (¬ kM = 0 → Rl a σ μ2) ∧ (kM = 0 → ∀ r u, P r u → r = r' ∧ ∃ a', Rl a' (S r u) μ2)
theorem op_remove (h : Rl a σ μ) (e : Int32) : opF (kRem σ e) (kMR μ e) a σ (reM μ e) (fun r u => kRem σ e = 0 ∧ fs (pN σ.2.1 e) 16 = some u ∧ r = nI (ct (thr (up2 σ.2.1 u (upd (σ.2.1 u) 0 0))) 16)) (fun _ u => (σ.1, up2 σ.2.1 u (upd (σ.2.1 u) 0 0), σ.2.2)) (reR μ a e) := by
  refine ⟨?_, ?_, fun hk => ?_, fun hk r u hP => ?_⟩
  · unfold kRem kMR; rw [no_mt h.1 h.M]; cases mt μ e <;> rfl
  · unfold reM
    by_cases q : kMR μ e = 0
    · rw [if_pos q, q]; rfl
    · rw [if_neg q]; rfl
  · rw [reM, if_neg hk]; exact h.thr _
  · obtain ⟨-, hu, rfl⟩ := hP
    obtain ⟨j, hj, rfl⟩ := pN_s h.1 hu
    have ha := h.ha
    have hja := hj.2.1
    have hR := h.1.rem hj
    rw [reM, reR, if_pos hk, if_pos hk, nI_clamp (by omega)]
    have h2 : Rl a (σ.1, up2 σ.2.1 u (upd (σ.2.1 u) 0 0), σ.2.2) (upd μ.1 12 0, reF μ.2 j) := ⟨hR, h.2⟩
    exact ⟨by rw [cnt_thr h2.1], a, h2⟩
theorem op_edit (h : Rl a σ μ) (e opt : Int32) : opF (kEd σ e opt) (kME μ e opt) a σ (edM μ e opt) (fun r u => kEd σ e opt = 0 ∧ fs (pN σ.2.1 e) 16 = some u ∧ r = σ.2.1 u 6) (fun _ u => (σ.1, up2 σ.2.1 u (upd (σ.2.1 u) 6 opt), σ.2.2)) (edR μ e opt) := by
  refine ⟨?_, ?_, fun hk => ?_, fun hk r u hP => ?_⟩
  · unfold kEd kME; rw [no_mt h.1 h.M, h.K0]; cases mt μ e <;> rfl
  · unfold edM
    by_cases q : kME μ e opt = 0
    · rw [if_pos q, q]; rfl
    · rw [if_neg q]; rfl
  · rw [edM, if_neg hk]; exact h.thr _
  · obtain ⟨-, hu, rfl⟩ := hP
    obtain ⟨j, hj, rfl⟩ := pN_s h.1 hu
    have ha := h.ha
    have hja := hj.2.1
    have hw : wi opt 0 99 = true := by
      cases q : wi opt 0 99 with
      | true => rfl
      | false =>
        unfold kME at hk
        rw [q] at hk
        cases q2 : mt μ (nI j) with
        | true => rw [q2] at hk; simp at hk
        | false => rw [q2] at hk; simp at hk
    obtain ⟨f, lf, ef⟩ := wi_N (n := 99) rfl hw
    obtain ⟨x2, x3, x4, x5, x6, x7⟩ := h.1.r4 u j hj.1 hj.2.1 hj.2.2.1 hj.2.2.2
    rw [edM, edR, if_pos hk, if_pos hk, nI_clamp (by omega)]
    refine ⟨x6, a, ?_, h.2⟩
    refine h.1.up hj rfl rfl (fun k i q => ?_) rfl ⟨x2, x3, x4, x5, ?_, x7⟩ ?_
    · show edF μ.2 j opt k i = μ.2 k i
      unfold edF
      by_cases k6 : k = 6
      · subst k6; rw [up2_s]; simp [upd, q]
      · rw [up2_n k6]
    · show upd (σ.2.1 u) 6 opt 6 = edF μ.2 j opt 6 j
      unfold edF; rw [up2_s]; simp [upd]
    · obtain ⟨f1, f2, f3, f4, f6, ⟨a1, a2, a3, a4, a6⟩, e1, e2, e3, e4, e6⟩ := Mk.rg h.1 hj
      refine ⟨f1, f2, f3, f4, f, ⟨a1, a2, a3, a4, lf⟩, e1, e2, e3, e4, ?_⟩
      show edF μ.2 j opt 6 j = _
      unfold edF; rw [up2_s]; simp [upd, ef]
theorem okC_M (h : Rl a σ μ) (e : Int32) : okC σ e = okMC μ e := by unfold okC okMC; rw [no_mt h.1 h.M, Bool.not_not]
theorem op_choose (h : Rl a σ μ) (e : Int32) : opF (U := Unit) (kCh σ e) (kMC μ e) a σ (csM μ e) (fun r _ => kCh σ e = 0 ∧ r = σ.1 1) (fun _ _ => (upd σ.1 1 e, σ.2)) (csR μ e) := by
  refine ⟨?_, ?_, fun hk => ?_, fun hk r u hP => ?_⟩
  · unfold kCh kMC; rw [okC_M h, h.K0]
  · unfold csM
    by_cases q : kMC μ e = 0
    · rw [if_pos q, q]; rfl
    · rw [if_neg q]; rfl
  · rw [csM, if_neg hk]; exact h.thr _
  · obtain ⟨-, rfl⟩ := hP
    rw [csM, csR, if_pos hk, if_pos hk]
    obtain ⟨c1, c2, c3, c4, c5, c6⟩ := h.2.2.1
    exact ⟨c1, a, h.1, h.2.1, ⟨rfl, c2, c3, c4, c5, c6⟩, h.2.2.2⟩
theorem op_chooseOnce (h : Rl a σ μ) (e : Int32) : opF (U := Unit) (kCo σ e) (kMO μ e) a σ (coM μ e) (fun r _ => kCo σ e = 0 ∧ r = σ.1 2) (fun _ _ => (upd σ.1 2 e, σ.2)) (coR μ e) := by
  refine ⟨?_, ?_, fun hk => ?_, fun hk r u hP => ?_⟩
  · unfold kCo kMO; rw [okC_M h]
  · unfold coM
    by_cases q : kMO μ e = 0
    · rw [if_pos q, q]; rfl
    · rw [if_neg q]; rfl
  · rw [coM, if_neg hk]; exact h.thr _
  · obtain ⟨-, rfl⟩ := hP
    rw [coM, coR, if_pos hk, if_pos hk]
    obtain ⟨c1, c2, c3, c4, c5, c6⟩ := h.2.2.1
    exact ⟨c2, a, h.1, h.2.1, ⟨c1, rfl, c3, c4, c5, c6⟩, h.2.2.2⟩
theorem op_setPattern (h : Rl a σ μ) (x y : Int32) : opF (U := Unit) (kPa σ x y) (kMP μ x y) a σ (paM μ x y) (fun r _ => kPa σ x y = 0 ∧ r = nI (ct (pF (upd (upd σ.1 3 x) 4 y, σ.2)) 16)) (fun _ _ => (upd (upd σ.1 3 x) 4 y, σ.2)) (paR μ a x y) := by
  refine ⟨?_, ?_, fun hk => ?_, fun hk r u hP => ?_⟩
  · unfold kPa kMP; rw [h.K0]
  · unfold paM
    by_cases q : kMP μ x y = 0
    · rw [if_pos q, q]; rfl
    · rw [if_neg q]; rfl
  · rw [paM, if_neg hk]; exact h.thr _
  · obtain ⟨-, rfl⟩ := hP
    rw [paM, paR, if_pos hk, if_pos hk]
    obtain ⟨c1, c2, c3, c4, c5, c6⟩ := h.2.2.1
    have h2 : Rl a (upd (upd σ.1 3 x) 4 y, σ.2) (paP μ x y) := ⟨h.1, h.2.1, ⟨c1, c2, rfl, rfl, c5, c6⟩, h.2.2.2⟩
    exact ⟨by rw [cnt_fit h2.1 h2.2.2.1.2.2.1 h2.2.2.1.2.2.2.1], a, h2⟩
theorem fr_none (h : RR a σ.2.1 μ.2) : (fs (frP σ.2.1) 16).isNone = true ↔ nI (ct (thM μ) a) = 16 := by
  have ha := h.ha
  have hl := ct_le (thM μ) a
  rw [show (16 : Int32) = nI 16 from rfl, nI_eq (by omega) (by omega), ← cnt_thr h, ct_all]
  rcases optc (fs (frP σ.2.1) 16) with q | ⟨u, q⟩
  · rw [q]
    refine ⟨fun _ i hi => ?_, fun _ => rfl⟩
    have := fs_no q i hi
    simp only [frP, decide_eq_false_iff_not] at this
    exact thr_n.mpr this
  · rw [q]
    refine ⟨fun w => (by cases w), fun w => ?_⟩
    obtain ⟨h1, h2, -⟩ := fs_lt q
    have := thr_n.mp (w u h1)
    simp only [frP, decide_eq_true_eq] at h2
    exact absurd h2 this
theorem op_add (h : Rl a σ μ) (kind name ver mark tr : Int32) : opF (kAdd σ kind name ver mark tr) (kMA μ a kind name ver mark tr) a σ (adM μ a kind name ver mark tr) (fun r u => kAdd σ kind name ver mark tr = 0 ∧ fs (frP σ.2.1) 16 = some u ∧ r = σ.1 0) (fun _ u => (upd σ.1 0 (σ.1 0 + 1), up2 σ.2.1 u (flE (σ.2.1 u) (σ.1 0) kind name ver mark tr), σ.2.2)) (adR μ a kind name ver mark tr) := by
  have ha := h.ha
  have e60 : (σ.1 0 < 60) ↔ ¬ (μ.1 0 = 60) := by
    rw [h.2.1.1, h.M, show (60 : Int32) = nI 60 from rfl, nI_ltI (by omega) (by omega), nI_eq (by omega) (by omega)]; omega
  refine ⟨?_, ?_, fun hk => ?_, fun hk r u hP => ?_⟩
  · unfold kAdd kMA
    rw [okA_M]
    cases okM kind name ver mark tr with
    | false => rfl
    | true =>
      rw [if_pos rfl, if_pos rfl]
      by_cases q : (fs (frP σ.2.1) 16).isNone = true
      · rw [if_pos q, if_pos ((fr_none h.1).mp q)]
      · rw [if_neg q, if_neg (fun w => q ((fr_none h.1).mpr w))]
        by_cases q2 : μ.1 0 = 60
        · rw [if_pos q2, if_neg (fun w => e60.mp w q2)]
        · rw [if_neg q2, if_pos (e60.mpr q2)]
  · unfold adM
    by_cases q : kMA μ a kind name ver mark tr = 0
    · rw [if_pos q, q]; rfl
    · rw [if_neg q]; rfl
  · rw [adM, if_neg hk]; exact h.thr _
  · obtain ⟨-, hu, rfl⟩ := hP
    obtain ⟨u1, u2, -⟩ := fs_lt hu
    simp only [frP, decide_eq_true_eq] at u2
    have hok : okM kind name ver mark tr = true ∧ ¬ μ.1 0 = 60 := by
      unfold kMA at hk
      cases q : okM kind name ver mark tr with
      | false => rw [q] at hk; simp at hk
      | true =>
        refine ⟨rfl, fun w => ?_⟩
        rw [q, if_pos rfl, if_pos w] at hk
        by_cases q3 : nI (ct (thM μ) a) = 16
        · rw [if_pos q3] at hk; exact absurd hk (by decide)
        · rw [if_neg q3] at hk; exact absurd hk (by decide)
    have ha2 : a < 60 := by
      have := hok.2
      rw [h.M, show (60 : Int32) = nI 60 from rfl, nI_eq (by omega) (by omega)] at this
      omega
    have hR := h.1.add u1 u2 ha2 hok.1
    rw [adM, adR, if_pos hk, if_pos hk, h.M, h.2.1.1, nI_clamp (by omega), nI_1, nI_pred]
    refine ⟨rfl, a + 1, hR, ⟨rfl, rfl⟩, h.2.2.1, h.2.2.2.1, ?_⟩
    rcases h.2.2.2.2 with q | ⟨j, hj, q⟩
    · exact Or.inl q
    · exact Or.inr ⟨j, by omega, q⟩
end RL5
