/-! what is refused, as the methods' codes say it -/
theorem kEd_1 {σ : Sg} {n opt : Int32} (h : no1 σ n = true) : kEd σ n opt = 1 := by simp [kEd, h]
theorem kEd_2 {σ : Sg} {n opt : Int32} (h : no1 σ n = false) (hw : wi opt 0 99 = false) : kEd σ n opt = 2 := by simp [kEd, h, hw]
theorem kEd_3 {σ : Sg} {n opt : Int32} (h : no1 σ n = false) (hw : wi opt 0 99 = true) (hl : ¬ σ.2.2.1 0 = 0) : kEd σ n opt = 3 := by simp [kEd, h, hw, hl]
theorem kAdd_1 {σ : Sg} {a b c d e : Int32} (h : okA a b c d e = false) : kAdd σ a b c d e = 1 := by simp [kAdd, h]
theorem kRem_1 {σ : Sg} {n : Int32} (h : no1 σ n = true) : kRem σ n = 1 := by simp [kRem, h]
theorem kPa_1 {σ : Sg} {a b : Int32} (h : (wi a 0 99 && wi b a 99) = false) : kPa σ a b = 1 := by
  unfold kPa
  cases h1 : wi a 0 99 with
  | false => simp
  | true => rw [h1, Bool.true_and] at h; simp [h]
theorem kPa_2 {σ : Sg} {a b : Int32} (h1 : wi a 0 99 = true) (h2 : wi b a 99 = true) (hl : ¬ σ.2.2.1 0 = 0) : kPa σ a b = 2 := by simp [kPa, h1, h2, hl]
theorem kEn_1 {σ : Sg} {d : Int32} (h : wi d 0 9 = false) : kEn σ d = 1 := by simp [kEn, h]
theorem kEn_2 {σ : Sg} {d : Int32} (h : wi d 0 9 = true) (hl : σ.2.2.1 0 = 0) : kEn σ d = 2 := by simp [kEn, h, hl]
theorem kCm_a {σ : Sg} {a b : Int32} (h : no1 σ a = true) : kCm σ a b = 1 := by simp [kCm, h]
theorem kCm_b {σ : Sg} {a b : Int32} (h : no1 σ b = true) : kCm σ a b = 1 := by unfold kCm; rw [h]; split <;> rfl
theorem kLo_1 {σ : Sg} {a b : Int32} (h : (wi b 1 6 && wi a 0 (hc b)) = false) : kLo σ a b = 1 := by
  unfold kLo
  cases h1 : wi b 1 6 with
  | false => simp
  | true => rw [h1, Bool.true_and] at h; simp [h]
theorem kLo_2 {σ : Sg} {a b : Int32} (h1 : wi b 1 6 = true) (h2 : wi a 0 (hc b) = true) (hl : ¬ σ.2.2.1 0 = 0) : kLo σ a b = 2 := by simp [kLo, h1, h2, hl]
theorem okC_f {σ : Sg} {n : Int32} (h : no1 σ n = true) (h1 : ¬ n = -1) : okC σ n = false := by simp [okC, h, h1]
theorem okC_t {σ : Sg} {n : Int32} (h : no1 σ n = false) : okC σ n = true := by simp [okC, h]
theorem okC_m {σ : Sg} : okC σ (-1) = true := by simp [okC]
theorem kCh_1 {σ : Sg} {n : Int32} (h : okC σ n = false) : kCh σ n = 1 := by simp [kCh, h]
theorem kCh_2 {σ : Sg} {n : Int32} (h : okC σ n = true) (hl : ¬ σ.2.2.1 0 = 0) : kCh σ n = 2 := by simp [kCh, h, hl]
theorem kCo_1 {σ : Sg} {n : Int32} (h : okC σ n = false) : kCo σ n = 1 := by simp [kCo, h]
theorem ah_irr (a : Nat → Int32) : ah a a = false := by simp [ah, cv, icp]
theorem ct_lt {P R : Nat → Bool} {j : Nat} (hR : R j = true) (hP : P j = false) : ∀ {n : Nat}, (∀ i, i < n → P i = true → R i = true) → j < n → ct P n < ct R n
  | 0, _, h => absurd h (by omega)
  | n + 1, hi, hj => by
    have hle : ct P n ≤ ct R n := by
      clear hj
      have hi2 : ∀ i, i < n → P i = true → R i = true := fun i h => hi i (by omega)
      clear hi
      induction n with
      | zero => exact Nat.le_refl _
      | succ n ih =>
        have h1 := ih (fun i h => hi2 i (by omega))
        simp only [ct]
        cases hp : P n with
        | false => simp; omega
        | true => rw [hi2 n (by omega) hp]; omega
    by_cases e : j = n
    · subst e
      simp only [ct, hR, hP]
      simp
      omega
    · have h1 := ct_lt hR hP (n := n) (fun i h => hi i (by omega)) (by omega)
      simp only [ct]
      cases hp : P n with
      | false => simp; omega
      | true => rw [hi n (by omega) hp]; omega
theorem rank_lt {E : Nat → Nat → Int32} {j : Nat} (hj : j < 16) (h : thr E j = true) : ct (pA E j) 16 < ct (thr E) 16 := by
  refine ct_lt (j := j) h ?_ (fun i _ hi => ?_) hj
  · simp [pA, ah_irr]
  · simp [pA] at hi; exact hi.1
theorem kAt_1 {σ : Sg} {pl : Int32} (h : ∀ j, j < 16 → thr σ.2.1 j = true → ¬ nI (ct (pA σ.2.1 j) 16) = pl) : kAt σ pl = 1 := by
  unfold kAt
  rcases optc (fs (pP σ.2.1 pl) 16) with hf | ⟨j, hf⟩
  · rw [hf]; rfl
  · have h1 := fs_lt hf
    have h2 : pP σ.2.1 pl j = true := h1.2.1
    simp only [pP, Bool.and_eq_true, decide_eq_true_eq] at h2
    exact absurd h2.2 (h j h1.1 h2.1)
theorem nI16_toInt {n : Nat} (h : n ≤ 16) : (nI n).toInt = n := nI_toInt (by omega)
theorem kAt_out {σ : Sg} {pl : Int32} (h : pl.toInt < 0 ∨ 16 < pl.toInt) : kAt σ pl = 1 := by
  refine kAt_1 (fun j hj ht e => ?_)
  have h1 := ct_le (pA σ.2.1 j) 16
  have h2 := nI16_toInt h1
  rw [e] at h2
  omega
theorem kAt_ent {σ : Sg} : kAt σ (nI (ct (thr σ.2.1) 16)) = 1 := by
  refine kAt_1 (fun j hj ht e => ?_)
  have h1 := rank_lt hj ht
  have h2 := ct_le (thr σ.2.1) 16
  have h3 := nI16_toInt (n := ct (pA σ.2.1 j) 16) (by omega)
  have h4 := nI16_toInt h2
  rw [e] at h3
  omega
/-- what stands where every refusal is right: here is there, gone and the four others are not -/
def RFb (σ : Sg) (here gone : Int32) : Bool := no1 σ (-2) && no1 σ (-1) && no1 σ 2147483647 && no1 σ (-2147483648) && no1 σ gone && !no1 σ here && !decide (gone = -1) && (decide (σ.2.2.1 0 = 0) || decide (σ.2.2.1 0 = 1))
theorem RFb_spec {σ : Sg} {here gone : Int32} (h : RFb σ here gone = true) : no1 σ (-2) = true ∧ no1 σ (-1) = true ∧ no1 σ 2147483647 = true ∧ no1 σ (-2147483648) = true ∧ no1 σ gone = true ∧ no1 σ here = false ∧ ¬ gone = -1 ∧ (σ.2.2.1 0 = 0 ∨ σ.2.2.1 0 = 1) := by
  simp only [RFb, Bool.and_eq_true, Bool.not_eq_true', decide_eq_false_iff_not, Bool.or_eq_true, decide_eq_true_eq] at h
  obtain ⟨⟨⟨⟨⟨⟨⟨a1, a2⟩, a3⟩, a4⟩, a5⟩, a6⟩, a7⟩, a8⟩ := h
  exact ⟨a1, a2, a3, a4, a5, a6, a7, a8⟩
