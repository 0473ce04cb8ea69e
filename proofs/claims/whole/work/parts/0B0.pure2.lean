/-! PURE: counts, least elements, the order of entries as a number -/
theorem ct_rm {R : Nat → Bool} {j0 : Nat} : ∀ {m : Nat}, j0 < m → R j0 = true → ct R m = ct (fun j => R j && !decide (j = j0)) m + 1 := by
  intro m
  induction m with
  | zero => intro h; omega
  | succ m ih =>
    intro h hR
    by_cases hm : j0 = m
    · subst hm
      rw [ct_t hR, ct_f (by simp)]
      congr 1
      apply ct_cong
      intro i hi
      have : ¬ i = j0 := by omega
      simp [this]
    · have ih := ih (by omega) hR
      have h2 : ¬ m = j0 := fun q => hm q.symm
      cases hR2 : R m with
      | true => rw [ct_t hR2, ct_t (by simp [hR2, h2]), ih]
      | false => rw [ct_f hR2, ct_f (by simp [hR2]), ih]
theorem ct_inj {P : Nat → Bool} {Mt : Nat → Nat → Prop} : ∀ {n m : Nat} {R : Nat → Bool}, (∀ k, k < n → P k = true → ∃ j, j < m ∧ R j = true ∧ Mt k j) → (∀ k k' j, k < n → k' < n → Mt k j → Mt k' j → k = k') → ct P n ≤ ct R m := by
  intro n
  induction n with
  | zero => intro m R _ _; simp [ct]
  | succ n ih =>
    intro m R h hi
    cases hP : P n with
    | false => rw [ct_f hP]; exact ih (fun k hk hp => h k (by omega) hp) (fun k k' j h1 h2 => hi k k' j (by omega) (by omega))
    | true =>
      obtain ⟨j0, hj0, hR0, hM0⟩ := h n (by omega) hP
      rw [ct_t hP, ct_rm hj0 hR0]
      have := ih (m := m) (R := fun j => R j && !decide (j = j0)) (fun k hk hp => by
        obtain ⟨j, hj, hR, hM⟩ := h k (by omega) hp
        refine ⟨j, hj, ?_, hM⟩
        have : ¬ j = j0 := by
          intro q
          subst q
          have := hi k n j (by omega) (by omega) hM hM0
          omega
        simp [hR, this]) (fun k k' j h1 h2 => hi k k' j (by omega) (by omega))
      omega
theorem ct_lt {P R : Nat → Bool} {n x : Nat} (h : ∀ i, i < n → P i = true → R i = true) (hx : x < n) (h1 : R x = true) (h2 : P x = false) : ct P n < ct R n := by
  rw [ct_rm hx h1]
  have := ct_inj (P := P) (Mt := fun a b => a = b) (n := n) (m := n) (R := fun j => R j && !decide (j = x)) (fun k hk hp => ⟨k, hk, by
    have : ¬ k = x := by intro q; subst q; rw [h2] at hp; cases hp
    simp [h k hk hp, this], rfl⟩) (fun k k' j _ _ q q' => q.trans q'.symm)
  omega
theorem ct_zero {P : Nat → Bool} {n : Nat} (h : ct P n = 0) : ∀ i, i < n → P i = false := by
  intro i hi
  cases hp : P i with
  | false => rfl
  | true => rw [ct_rm hi hp] at h; omega
theorem ct_none {P : Nat → Bool} : ∀ {n : Nat}, (∀ i, i < n → P i = false) → ct P n = 0
  | 0, _ => rfl
  | n + 1, h => by rw [ct_f (h n (by omega)), ct_none (fun i hi => h i (by omega))]
theorem ct_all {P : Nat → Bool} : ∀ {n : Nat}, ct P n = n ↔ ∀ i, i < n → P i = true
  | 0 => by simp [ct]
  | n + 1 => by
    have ih := ct_all (P := P) (n := n)
    have hl := ct_le P n
    constructor
    · intro h i hi
      cases hp : P n with
      | false => rw [ct_f hp] at h; omega
      | true =>
        rw [ct_t hp] at h
        rcases Nat.lt_or_ge i n with q | q
        · exact ih.mp (by omega) i q
        · have : i = n := by omega
          rw [this]; exact hp
    · intro h
      rw [ct_t (h n (by omega)), ih.mpr (fun i hi => h i (by omega))]
theorem fs_ex {P : Nat → Bool} {n : Nat} {i : Nat} (hi : i < n) (hp : P i = true) : ∃ j, fs P n = some j := by
  rcases optc (fs P n) with h | h
  · have := fs_no h i hi; rw [hp] at this; cases this
  · exact h
theorem mf_min {A : Nat → Nat → Bool} {C : Nat → Bool} {κ : Nat → Int} : ∀ {n : Nat}, (∀ x y, x < n → y < n → C x = true → C y = true → A x y = decide (κ x < κ y)) →
    (∀ b, mf A C n = some b → b < n ∧ C b = true ∧ ∀ i, i < n → C i = true → κ b ≤ κ i) ∧ (mf A C n = none → ∀ i, i < n → C i = false) := by
  intro n
  induction n with
  | zero => intro _; exact ⟨fun b h => by simp [mf] at h, fun _ i hi => by omega⟩
  | succ n ih =>
    intro hA
    have ih := ih (fun x y hx hy => hA x y (by omega) (by omega))
    cases hC : C n with
    | false =>
      have e : mf A C (n + 1) = mf A C n := mf_f (by rw [hC]; rfl)
      refine ⟨fun b h => ?_, fun h i hi => ?_⟩
      · rw [e] at h
        obtain ⟨h1, h2, h3⟩ := ih.1 b h
        refine ⟨by omega, h2, fun i hi hc => ?_⟩
        rcases Nat.lt_or_ge i n with q | q
        · exact h3 i q hc
        · have : i = n := by omega
          rw [this, hC] at hc; cases hc
      · rw [e] at h
        rcases Nat.lt_or_ge i n with q | q
        · exact ih.2 h i q
        · have : i = n := by omega
          rw [this]; exact hC
    | true =>
      rcases optc (mf A C n) with h0 | ⟨b0, h0⟩
      · have e : mf A C (n + 1) = some n := mf_t (by rw [hC, h0]; rfl)
        refine ⟨fun b h => ?_, fun h => by rw [e] at h; cases h⟩
        rw [e] at h
        cases h
        refine ⟨by omega, hC, fun i hi hc => ?_⟩
        rcases Nat.lt_or_ge i n with q | q
        · have := ih.2 h0 i q; rw [hc] at this; cases this
        · have : i = n := by omega
          rw [this]; exact Int.le_refl _
      · obtain ⟨h1, h2, h3⟩ := ih.1 b0 h0
        have hAn := hA n b0 (by omega) (by omega) hC h2
        by_cases hlt : κ n < κ b0
        · have e : mf A C (n + 1) = some n := mf_t (by rw [hC, h0]; show (true && A n b0) = true; rw [hAn]; simp [hlt])
          refine ⟨fun b h => ?_, fun h => by rw [e] at h; cases h⟩
          rw [e] at h
          cases h
          refine ⟨by omega, hC, fun i hi hc => ?_⟩
          rcases Nat.lt_or_ge i n with q | q
          · have := h3 i q hc; omega
          · have : i = n := by omega
            rw [this]; exact Int.le_refl _
        · have e : mf A C (n + 1) = mf A C n := mf_f (by rw [hC, h0]; show (true && A n b0) = false; rw [hAn]; simp; omega)
          refine ⟨fun b h => ?_, fun h => by rw [e, h0] at h; cases h⟩
          rw [e, h0] at h
          cases h
          refine ⟨by omega, h2, fun i hi hc => ?_⟩
          rcases Nat.lt_or_ge i n with q | q
          · exact h3 i q hc
          · have : i = n := by omega
            rw [this]; omega
theorem ff_mf {E : Nat → Nat → Int32} {C : Nat → Bool} : ∀ {n : Nat}, ff E C n = mf (fun x y => ah (E x) (E y)) C n
  | 0 => rfl
  | n + 1 => by
    have ih := ff_mf (E := E) (C := C) (n := n)
    have hb : fb E n (mf (fun x y => ah (E x) (E y)) C n) = mfb (fun x y => ah (E x) (E y)) n (mf (fun x y => ah (E x) (E y)) C n) := by
      rcases optc (mf (fun x y => ah (E x) (E y)) C n) with h | ⟨b, h⟩ <;> rw [h] <;> rfl
    simp only [ff, mf]
    rw [ih, hb]
/-! numbers -/
theorem leI (a b : Int32) : a ≤ b ↔ a.toInt ≤ b.toInt := Int32.le_iff_toInt_le
theorem ltI (a b : Int32) : a < b ↔ a.toInt < b.toInt := Int32.lt_iff_toInt_lt
def sgN (x y : Nat) : Int32 := if x < y then -1 else if x = y then 0 else 1
theorem icp_N {x y : Nat} (hx : x < 2 ^ 30) (hy : y < 2 ^ 30) : icp (nI x) (nI y) = sgN x y := by
  unfold icp sgN
  by_cases h : x < y
  · rw [if_pos h, if_neg (by rw [nI_leI (by omega) (by omega)]; omega)]
  · rw [if_neg h, if_pos (by rw [nI_leI (by omega) (by omega)]; omega)]
    by_cases h2 : x = y
    · rw [if_pos h2, if_pos (by rw [h2])]
    · rw [if_neg h2, if_neg (by rw [nI_eq (by omega) (by omega)]; exact h2)]
theorem sg_N {x y : Nat} (hx : x < 2 ^ 30) (hy : y < 2 ^ 30) : sgI (nI x - nI y) = sgN x y := by
  have h := pk_sub_toInt hx hy
  have e0 : (0 : Int32).toInt = 0 := rfl
  have l1 : nI x - nI y ≤ 0 ↔ x ≤ y := by rw [leI, h, e0]; omega
  have l2 : 0 ≤ nI x - nI y ↔ y ≤ x := by rw [leI, h, e0]; omega
  unfold sgI sgN
  by_cases h1 : x < y
  · rw [if_pos h1, if_pos (l1.mpr (by omega)), if_neg (fun q => by have := l2.mp q; omega)]
  · rw [if_neg h1]
    by_cases h2 : x = y
    · rw [if_pos h2, if_pos (l1.mpr (by omega)), if_pos (l2.mpr (by omega))]
    · rw [if_neg h2, if_neg (fun q => by have := l1.mp q; omega)]
theorem sub_0 {x y : Nat} (hx : x < 2 ^ 30) (hy : y < 2 ^ 30) : nI x - nI y = 0 ↔ x = y := by
  have h := pk_sub_toInt hx hy
  rw [← Int32.toInt_inj, h]
  show (x : Int) - y = 0 ↔ x = y
  omega
theorem sgN_0 {x y : Nat} : sgN x y = 0 ↔ x = y := by
  unfold sgN
  by_cases h1 : x < y
  · rw [if_pos h1]; exact ⟨fun h => absurd h (by decide), fun h => by omega⟩
  · rw [if_neg h1]
    by_cases h2 : x = y
    · rw [if_pos h2]; exact ⟨fun _ => h2, fun _ => rfl⟩
    · rw [if_neg h2]; exact ⟨fun h => absurd h (by decide), fun h => absurd h h2⟩
theorem sgN_le {x y : Nat} : sgN x y ≤ 0 ↔ x ≤ y := by
  unfold sgN
  by_cases h1 : x < y
  · rw [if_pos h1]; exact ⟨fun _ => by omega, fun _ => by decide⟩
  · rw [if_neg h1]
    by_cases h2 : x = y
    · rw [if_pos h2]; exact ⟨fun _ => by omega, fun _ => by decide⟩
    · rw [if_neg h2]; exact ⟨fun h => absurd h (by decide), fun h => by omega⟩
