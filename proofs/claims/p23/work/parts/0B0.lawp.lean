/-! the law's own chooser: what stands in it -/
theorem fs_first {P : Nat → Bool} {k : Nat} (h0 : ∀ j, j < k → P j = false) (hk : P k = true) (h16 : k < 16) : fs P 16 = some k := by
  rcases optc (fs P 16) with h | ⟨j, h⟩
  · exact absurd (fs_no h k h16) (by rw [hk]; decide)
  · have q := fs_lt h
    rcases Nat.lt_trichotomy j k with c | c | c
    · exact absurd q.2.1 (by rw [h0 j c]; decide)
    · rw [h, c]
    · exact absurd (q.2.2 k c) (by rw [hk]; decide)
theorem fs_none {P : Nat → Bool} (h : ∀ j, j < 16 → P j = false) : fs P 16 = none := by
  rcases optc (fs P 16) with h1 | ⟨j, h1⟩
  · exact h1
  · have q := fs_lt h1
    exact absurd q.2.1 (by rw [h j q.1]; decide)
def VE (e : Nat → Int32) (n : Nat) : Prop := e 0 = 1 ∧ e 1 = nI n ∧ wi (e 2) 0 2 = true ∧ wi (e 3) 0 99 = true ∧ wi (e 4) 0 999999999 = true ∧ wi (e 5) 0 2 = true
theorem wi_toInt {a lo hi : Int32} (h : wi a lo hi = true) : lo.toInt ≤ a.toInt ∧ a.toInt ≤ hi.toInt := by
  simp only [wi, Bool.and_eq_true, Bool.not_eq_true', decide_eq_false_iff_not, Int32.lt_iff_toInt_lt] at h
  omega
def ky (e : Nat → Int32) : Int := ((((((bI (bad e)).toInt * 3 + (e 2).toInt) * 1000000000 + (999999999 - (e 4).toInt)) * 3 + (2 - (e 5).toInt)) * 100 + (e 3).toInt) * 64 + (e 1).toInt)
theorem cv_0 {a b : Nat → Int32} : cv a b = 0 ↔ ((a 4).toInt = (b 4).toInt ∧ (a 5).toInt = (b 5).toInt) := by
  have e4 : (a 4 = b 4) ↔ (a 4).toInt = (b 4).toInt := Int32.toInt_inj.symm
  have e5 : (a 5 = b 5) ↔ (a 5).toInt = (b 5).toInt := Int32.toInt_inj.symm
  have l5 : (b 5 ≤ a 5) ↔ (b 5).toInt ≤ (a 5).toInt := Int32.le_iff_toInt_le
  unfold cv icp
  by_cases h4 : a 4 = b 4
  · rw [if_pos h4]
    by_cases h5 : b 5 ≤ a 5
    · rw [if_pos h5]
      by_cases h6 : a 5 = b 5
      · rw [if_pos h6]; exact ⟨fun _ => ⟨e4.mp h4, e5.mp h6⟩, fun _ => rfl⟩
      · rw [if_neg h6]; exact ⟨fun q => absurd q (by decide), fun q => absurd (e5.mpr q.2) h6⟩
    · rw [if_neg h5]; exact ⟨fun q => absurd q (by decide), fun q => absurd (l5.mpr (by omega)) h5⟩
  · rw [if_neg h4]
    by_cases h5 : a 4 ≤ b 4
    · rw [if_pos h5]; exact ⟨fun q => absurd q (by decide), fun q => absurd (e4.mpr q.1) h4⟩
    · rw [if_neg h5]; exact ⟨fun q => absurd q (by decide), fun q => absurd (e4.mpr q.1) h4⟩
theorem cv_le {a b : Nat → Int32} : cv a b ≤ 0 ↔ ¬ ((b 4).toInt < (a 4).toInt ∨ ((a 4).toInt = (b 4).toInt ∧ (b 5).toInt < (a 5).toInt)) := by
  have e4 : (a 4 = b 4) ↔ (a 4).toInt = (b 4).toInt := Int32.toInt_inj.symm
  have l4 : (a 4 ≤ b 4) ↔ (a 4).toInt ≤ (b 4).toInt := Int32.le_iff_toInt_le
  have e5 : (a 5 = b 5) ↔ (a 5).toInt = (b 5).toInt := Int32.toInt_inj.symm
  have l5 : (b 5 ≤ a 5) ↔ (b 5).toInt ≤ (a 5).toInt := Int32.le_iff_toInt_le
  unfold cv icp
  by_cases h4 : a 4 = b 4
  · rw [if_pos h4]
    have h4' := e4.mp h4
    by_cases h5 : b 5 ≤ a 5
    · rw [if_pos h5]
      have h5' := l5.mp h5
      by_cases h6 : a 5 = b 5
      · rw [if_pos h6]
        have h6' := e5.mp h6
        exact ⟨fun _ => by omega, fun _ => by decide⟩
      · rw [if_neg h6]
        have h6' : ¬ (a 5).toInt = (b 5).toInt := fun q => h6 (e5.mpr q)
        exact ⟨fun q => absurd q (by decide), fun q => absurd (Or.inr ⟨h4', by omega⟩) q⟩
    · rw [if_neg h5]
      have h5' : ¬ (b 5).toInt ≤ (a 5).toInt := fun q => h5 (l5.mpr q)
      exact ⟨fun _ => by omega, fun _ => by decide⟩
  · rw [if_neg h4]
    have h4' : ¬ (a 4).toInt = (b 4).toInt := fun q => h4 (e4.mpr q)
    by_cases h5 : a 4 ≤ b 4
    · rw [if_pos h5]
      have h5' := l4.mp h5
      exact ⟨fun _ => by omega, fun _ => by decide⟩
    · rw [if_neg h5]
      have h5' : ¬ (a 4).toInt ≤ (b 4).toInt := fun q => h5 (l4.mpr q)
      exact ⟨fun q => absurd q (by decide), fun q => absurd (Or.inl (by omega)) q⟩
theorem bI_toInt (x : Bool) : (bI x).toInt = 0 ∧ x = false ∨ (bI x).toInt = 1 ∧ x = true := by cases x <;> simp [bI]
theorem ah_ky {a b : Nat → Int32} {n m : Nat} (ha : VE a n) (hb : VE b m) (hn : n < 64) (hm : m < 64) : ah a b = true ↔ ky a < ky b := by
  obtain ⟨-, a1, a2, a3, a4, a5⟩ := ha
  obtain ⟨-, b1, b2, b3, b4, b5⟩ := hb
  have a2 := wi_toInt a2
  have a3 := wi_toInt a3
  have a4 := wi_toInt a4
  have a5 := wi_toInt a5
  have b2 := wi_toInt b2
  have b3 := wi_toInt b3
  have b4 := wi_toInt b4
  have b5 := wi_toInt b5
  rw [show (0 : Int32).toInt = 0 from rfl] at a2 a3 a4 a5 b2 b3 b4 b5
  rw [show (2 : Int32).toInt = 2 from rfl] at a2 a5 b2 b5
  rw [show (99 : Int32).toInt = 99 from rfl] at a3 b3
  rw [show (999999999 : Int32).toInt = 999999999 from by decide] at a4 b4
  have a1 : (a 1).toInt = n := by rw [a1]; exact nI_toInt (by omega)
  have b1 : (b 1).toInt = m := by rw [b1]; exact nI_toInt (by omega)
  have c0 := cv_0 (a := a) (b := b)
  have c1 := cv_le (a := a) (b := b)
  have e2 : (a 2 = b 2) ↔ (a 2).toInt = (b 2).toInt := Int32.toInt_inj.symm
  have l2 : (b 2 ≤ a 2) ↔ (b 2).toInt ≤ (a 2).toInt := Int32.le_iff_toInt_le
  have e3 : (a 3 = b 3) ↔ (a 3).toInt = (b 3).toInt := Int32.toInt_inj.symm
  have l3 : (b 3 ≤ a 3) ↔ (b 3).toInt ≤ (a 3).toInt := Int32.le_iff_toInt_le
  have l1 : (b 1 ≤ a 1) ↔ (b 1).toInt ≤ (a 1).toInt := Int32.le_iff_toInt_le
  have qa := bI_toInt (bad a)
  have qb := bI_toInt (bad b)
  unfold ah ky
  generalize (bI (bad a)).toInt = xa at qa ⊢
  generalize (bI (bad b)).toInt = xb at qb ⊢
  by_cases h0 : bI (bad a) = bI (bad b)
  · rw [if_pos h0]
    have h0 := bI_inj.mp h0
    have hx : xa = xb := by
      rcases qa with ⟨p, q⟩ | ⟨p, q⟩ <;> rcases qb with ⟨r, t⟩ | ⟨r, t⟩
      · omega
      · rw [q, t] at h0; cases h0
      · rw [q, t] at h0; cases h0
      · omega
    subst hx
    clear qa qb h0
    by_cases h2 : a 2 = b 2
    · rw [if_pos h2]
      have h2 := e2.mp h2
      by_cases h4 : cv a b = 0
      · rw [if_pos h4]
        have h4 := c0.mp h4
        by_cases h3 : a 3 = b 3
        · rw [if_pos h3]
          have h3 := e3.mp h3
          simp only [Bool.not_eq_true', decide_eq_false_iff_not, l1]
          omega
        · rw [if_neg h3]
          have h3 : ¬ (a 3).toInt = (b 3).toInt := fun q => h3 (e3.mpr q)
          simp only [Bool.not_eq_true', decide_eq_false_iff_not, l3]
          omega
      · rw [if_neg h4]
        have h4 : ¬ ((a 4).toInt = (b 4).toInt ∧ (a 5).toInt = (b 5).toInt) := fun q => h4 (c0.mpr q)
        simp only [Bool.not_eq_true', decide_eq_false_iff_not, c1, Classical.not_not]
        omega
    · rw [if_neg h2]
      have h2 : ¬ (a 2).toInt = (b 2).toInt := fun q => h2 (e2.mpr q)
      simp only [Bool.not_eq_true', decide_eq_false_iff_not, l2]
      omega
  · rw [if_neg h0]
    rcases qa with ⟨p, q⟩ | ⟨p, q⟩ <;> rcases qb with ⟨r, t⟩ | ⟨r, t⟩
    · rw [q, t] at h0; exact absurd rfl h0
    · rw [t]; exact ⟨fun _ => by omega, fun _ => rfl⟩
    · rw [t]; exact ⟨fun z => absurd z (by decide), fun z => by omega⟩
    · rw [q, t] at h0; exact absurd rfl h0
theorem exmin {P : Nat → Bool} {f : Nat → Int} : ∀ n, (∃ i, i < n ∧ P i = true) → ∃ j, j < n ∧ P j = true ∧ ∀ i, i < n → P i = true → f j ≤ f i
  | 0, h => by obtain ⟨i, hi, -⟩ := h; omega
  | n + 1, h => by
    by_cases h1 : ∃ i, i < n ∧ P i = true
    · obtain ⟨j, hj, hp, hm⟩ := exmin (f := f) n h1
      by_cases hn : P n = true ∧ f n < f j
      · refine ⟨n, by omega, hn.1, fun i hi hpi => ?_⟩
        by_cases e : i = n
        · subst e; omega
        · have := hm i (by omega) hpi
          omega
      · refine ⟨j, by omega, hp, fun i hi hpi => ?_⟩
        by_cases e : i = n
        · subst e
          have : ¬ f i < f j := fun q => hn ⟨hpi, q⟩
          omega
        · exact hm i (by omega) hpi
    · obtain ⟨i, hi, hp⟩ := h
      have e : i = n := by
        rcases Nat.lt_or_ge i n with q | q
        · exact absurd ⟨i, q, hp⟩ h1
        · omega
      subst e
      refine ⟨i, by omega, hp, fun k hk hpk => ?_⟩
      by_cases e : k = i
      · subst e; omega
      · exact absurd ⟨k, by omega, hpk⟩ h1
theorem exmax {P : Nat → Bool} {f : Nat → Int} (n : Nat) (h : ∃ i, i < n ∧ P i = true) : ∃ j, j < n ∧ P j = true ∧ ∀ i, i < n → P i = true → f i ≤ f j := by
  obtain ⟨j, h1, h2, h3⟩ := exmin (f := fun i => - f i) n h
  exact ⟨j, h1, h2, fun i hi hp => by have := h3 i hi hp; omega⟩
theorem ct_0 {P : Nat → Bool} : ∀ {n : Nat}, (∀ i, i < n → P i = false) → ct P n = 0
  | 0, _ => rfl
  | n + 1, h => by rw [ct_f (h n (by omega))]; exact ct_0 (fun i hi => h i (by omega))
theorem ct_but {P R : Nat → Bool} {j : Nat} (hj : P j = true) (hR : ∀ i, R i = (P i && !decide (i = j))) : ∀ {n : Nat}, ct R n + (if j < n then 1 else 0) = ct P n
  | 0 => by simp [ct]
  | n + 1 => by
    have ih := ct_but hj hR (n := n)
    show ct R n + (if R n = true then 1 else 0) + (if j < n + 1 then 1 else 0) = ct P n + (if P n = true then 1 else 0)
    rw [hR n]
    by_cases e : n = j
    · have hp : P n = true := by rw [e]; exact hj
      rw [if_neg (show ¬ j < n by omega)] at ih
      rw [if_pos (show j < n + 1 by omega), hp, show (true && !decide (n = j)) = false by simp [e], if_pos rfl, if_neg (by decide)]
      omega
    · have e2 : (P n && !decide (n = j)) = P n := by simp [e]
      rw [e2]
      by_cases q : j < n
      · rw [if_pos q] at ih
        rw [if_pos (show j < n + 1 by omega)]
        omega
      · rw [if_neg q] at ih
        rw [if_neg (show ¬ j < n + 1 by omega)]
        omega
/-- the chooser's lock is as it was made -/
def KF (σ : Sg) : Prop := σ.2.2.1 0 = 0 ∧ σ.2.2.1 3 = nI 0 ∧ σ.2.2.1 2 = nI 1
/-- which number stands in which row -/
def GI (ν : Nat → Option Nat) (σ : Sg) : Prop := KF σ ∧ (∀ j, j < 16 → ν j = none → σ.2.1 j 0 = 0) ∧ (∀ j n, j < 16 → ν j = some n → VE (σ.2.1 j) n ∧ n < 64) ∧ (∀ i j n, i < 16 → j < 16 → ν i = some n → ν j = some n → i = j)
theorem GI.cong {ν ν' : Nat → Option Nat} {σ : Sg} (h : GI ν σ) (e : ∀ j, j < 16 → ν' j = ν j) : GI ν' σ := by
  obtain ⟨h1, h2, h3, h4⟩ := h
  refine ⟨h1, fun j hj q => h2 j hj (by rw [← e j hj]; exact q), fun j n hj q => h3 j n hj (by rw [← e j hj]; exact q), fun i j n hi hj q r => h4 i j n hi hj (by rw [← e i hi]; exact q) (by rw [← e j hj]; exact r)⟩
theorem GI.tr {ν : Nat → Option Nat} {σ : Sg} (h : GI ν σ) {j : Nat} (hj : j < 16) : thr σ.2.1 j = (ν j).isSome := by
  rcases optc (ν j) with q | ⟨n, q⟩
  · rw [q]; simp [thr, h.2.1 j hj q]
  · rw [q]; simp [thr, (h.2.2.1 j n hj q).1.1]
theorem GI.nN {ν : Nat → Option Nat} {σ : Sg} (h : GI ν σ) {j n : Nat} (hj : j < 16) (hq : ν j = some n) (v : Int32) : pN σ.2.1 v j = decide (nI n = v) := by
  have e := h.tr hj
  rw [hq] at e
  unfold pN
  rw [e, (h.2.2.1 j n hj hq).1.2.1]
  simp
theorem GI.n0 {ν : Nat → Option Nat} {σ : Sg} (h : GI ν σ) {j : Nat} (hj : j < 16) (hq : ν j = none) (v : Int32) : pN σ.2.1 v j = false := by
  have e := h.tr hj
  rw [hq] at e
  unfold pN
  rw [e]
  simp
theorem GI.find {ν : Nat → Option Nat} {σ : Sg} (h : GI ν σ) {j n : Nat} (hj : j < 16) (hq : ν j = some n) : fs (pN σ.2.1 (nI n)) 16 = some j := by
  have hn := (h.2.2.1 j n hj hq).2
  refine fs_first (fun i hi => ?_) (by rw [h.nN hj hq]; simp) hj
  rcases optc (ν i) with q | ⟨k, q⟩
  · exact h.n0 (by omega) q _
  · rw [h.nN (by omega) q]
    have hk := (h.2.2.1 i k (by omega) q).2
    simp only [decide_eq_false_iff_not]
    intro e
    have e2 := (nI_eq (by omega) (by omega)).mp e
    subst e2
    have := h.2.2.2 i j k (by omega) hj q hq
    omega
theorem GI.no {ν : Nat → Option Nat} {σ : Sg} (h : GI ν σ) {v : Int32} (hv : ∀ j n, j < 16 → ν j = some n → ¬ nI n = v) : no1 σ v = true := by
  unfold no1
  rw [fs_none (fun j hj => ?_)]
  · rfl
  · rcases optc (ν j) with q | ⟨k, q⟩
    · exact h.n0 hj q _
    · rw [h.nN hj q]; simpa using hv j k hj q
theorem GI.yes {ν : Nat → Option Nat} {σ : Sg} (h : GI ν σ) {j n : Nat} (hj : j < 16) (hq : ν j = some n) : no1 σ (nI n) = false := by
  unfold no1; rw [h.find hj hq]; rfl
theorem nI_ne {n : Nat} {v : Int32} (hn : n < 64) (h : v.toInt < 0 ∨ 64 ≤ v.toInt) : ¬ nI n = v := by
  intro e
  have := nI_toInt (n := n) (by omega)
  rw [e] at this
  omega
theorem GI.rf {ν : Nat → Option Nat} {σ : Sg} (h : GI ν σ) {j n m : Nat} (hj : j < 16) (hq : ν j = some n) (hm : m < 100) (hg : ∀ i, i < 16 → ¬ ν i = some m) : RFb σ (nI n) (nI m) = true := by
  have far : ∀ v : Int32, (v.toInt < 0 ∨ 64 ≤ v.toInt) → no1 σ v = true := fun v hv => h.no (fun i k hi q => nI_ne (h.2.2.1 i k hi q).2 hv)
  have hgone : no1 σ (nI m) = true := h.no (fun i k hi q e => hg i hi (by rw [q]; exact congrArg some ((nI_eq (by have := (h.2.2.1 i k hi q).2; omega) (by omega)).mp e)))
  unfold RFb
  rw [far (-2) (by decide), far (-1) (by decide), far 2147483647 (by decide), far (-2147483648) (by decide), hgone, h.yes hj hq, h.1.1]
  have h1 : ¬ nI m = -1 := by
    intro e
    have := nI_toInt (n := m) (by omega)
    rw [e] at this
    have h9 : (-1 : Int32).toInt = -1 := by decide
    omega
  simp [h1]
/-- the entry that is ahead of all, and the one that is behind all -/
theorem GI.aA {ν : Nat → Option Nat} {σ : Sg} (h : GI ν σ) {i j n m : Nat} (hi : i < 16) (hj : j < 16) (hn : ν i = some n) (hm : ν j = some m) : pA σ.2.1 j i = decide (ky (σ.2.1 i) < ky (σ.2.1 j)) := by
  unfold pA
  rw [h.tr hi, hn]
  have a := h.2.2.1 i n hi hn
  have b := h.2.2.1 j m hj hm
  have e := ah_ky a.1 b.1 a.2 b.2
  by_cases q : ky (σ.2.1 i) < ky (σ.2.1 j)
  · simp [q, e.mpr q]
  · have : ah (σ.2.1 i) (σ.2.1 j) = false := by
      cases hh : ah (σ.2.1 i) (σ.2.1 j) with
      | false => rfl
      | true => exact absurd (e.mp hh) q
    simp [q, this]
theorem GI.a0 {ν : Nat → Option Nat} {σ : Sg} (h : GI ν σ) {i j : Nat} (hi : i < 16) (hn : ν i = none) : pA σ.2.1 j i = false := by
  unfold pA
  rw [h.tr hi, hn]
  rfl
theorem ky_inj {a b : Nat → Int32} {n m : Nat} (ha : VE a n) (hb : VE b m) (hn : n < 64) (hm : m < 64) (h : ky a = ky b) : n = m := by
  have a1 : (a 1).toInt = n := by rw [ha.2.1]; exact nI_toInt (by omega)
  have b1 : (b 1).toInt = m := by rw [hb.2.1]; exact nI_toInt (by omega)
  unfold ky at h
  omega
theorem GI.sm {ν : Nat → Option Nat} {σ : Sg} (h : GI ν σ) {j : Nat} (hj : j < 16) (ht : thr σ.2.1 j = true) : ∃ n, ν j = some n := by
  rw [h.tr hj] at ht
  exact Option.isSome_iff_exists.mp ht
theorem GI.first {ν : Nat → Option Nat} {σ : Sg} (h : GI ν σ) (hs : ∃ i, i < 16 ∧ thr σ.2.1 i = true) : ∃ j, j < 16 ∧ pP σ.2.1 0 j = true := by
  obtain ⟨j, hj, ht, hm⟩ := exmin (P := thr σ.2.1) (f := fun i => ky (σ.2.1 i)) 16 hs
  obtain ⟨n, hn⟩ := h.sm hj ht
  refine ⟨j, hj, ?_⟩
  have : ct (pA σ.2.1 j) 16 = 0 := by
    refine ct_0 (fun i hi => ?_)
    rcases optc (ν i) with q | ⟨k, q⟩
    · exact h.a0 hi q
    · rw [h.aA hi hj q hn]
      have := hm i hi (by rw [h.tr hi, q]; rfl)
      simp only [decide_eq_false_iff_not]
      omega
  unfold pP
  rw [ht, this]
  decide
theorem GI.last {ν : Nat → Option Nat} {σ : Sg} (h : GI ν σ) {c : Nat} (hc : ct (thr σ.2.1) 16 = c + 1) (hs : ∃ i, i < 16 ∧ thr σ.2.1 i = true) : ∃ j, j < 16 ∧ pP σ.2.1 (nI c) j = true := by
  obtain ⟨j, hj, ht, hm⟩ := exmax (P := thr σ.2.1) (f := fun i => ky (σ.2.1 i)) 16 hs
  obtain ⟨n, hn⟩ := h.sm hj ht
  refine ⟨j, hj, ?_⟩
  have e : ct (pA σ.2.1 j) 16 = ct (fun i => thr σ.2.1 i && !decide (i = j)) 16 := by
    refine ct_cong (fun i hi => ?_)
    rcases optc (ν i) with q | ⟨k, q⟩
    · rw [h.a0 hi q, h.tr hi, q]; rfl
    · rw [h.aA hi hj q hn, h.tr hi, q]
      have := hm i hi (by rw [h.tr hi, q]; rfl)
      by_cases e : i = j
      · subst e; simp
      · have hne : ¬ ky (σ.2.1 i) = ky (σ.2.1 j) := fun z => by
          have a := h.2.2.1 i k hi q
          have b := h.2.2.1 j n hj hn
          have e9 := ky_inj a.1 b.1 a.2 b.2 z
          subst e9
          exact e (h.2.2.2 i j k hi hj q hn)
        have : ky (σ.2.1 i) < ky (σ.2.1 j) := by omega
        simp [this, e]
  have e2 := ct_but (P := thr σ.2.1) (R := fun i => thr σ.2.1 i && !decide (i = j)) (j := j) ht (fun _ => rfl) (n := 16)
  rw [if_pos hj, ← e, hc] at e2
  unfold pP
  rw [ht, show ct (pA σ.2.1 j) 16 = c by omega]
  simp
theorem GI.at {ν : Nat → Option Nat} {σ : Sg} (h : GI ν σ) {pl : Int32} (hs : ∃ j, j < 16 ∧ pP σ.2.1 pl j = true) : ∃ u n, u < 16 ∧ ν u = some n ∧ fs (pP σ.2.1 pl) 16 = some u ∧ kAt σ pl = 0 ∧ nI (ct (pA σ.2.1 u) 16) = pl ∧ σ.2.1 u 1 = nI n := by
  obtain ⟨j, hj, hp⟩ := hs
  rcases optc (fs (pP σ.2.1 pl) 16) with q | ⟨u, q⟩
  · exact absurd hp (by rw [fs_no q j hj]; decide)
  · have h1 := fs_lt q
    have h2 := h1.2.1
    simp only [pP, Bool.and_eq_true, decide_eq_true_eq] at h2
    obtain ⟨n, hn⟩ := h.sm h1.1 h2.1
    exact ⟨u, n, h1.1, hn, q, by unfold kAt; rw [q]; rfl, h2.2, (h.2.2.1 u n h1.1 hn).1.2.1⟩
