/-! what the law's two loops keep -/
def adS1 (σ : Sg) (u : Nat) (a1 a2 a3 a4 a5 : Int32) : Sg := (upd σ.1 0 (σ.1 0 + 1), up2 σ.2.1 u (flE (σ.2.1 u) (σ.1 0) a1 a2 a3 a4 a5), σ.2.2)
def reS (σ : Sg) (u : Nat) : Sg := (σ.1, up2 σ.2.1 u (upd (σ.2.1 u) 0 0), σ.2.2)
theorem okA_spec {a1 a2 a3 a4 a5 : Int32} (h : okA a1 a2 a3 a4 a5 = true) : wi a1 0 2 = true ∧ wi a2 0 99 = true ∧ wi a3 0 999999999 = true ∧ wi a4 0 2 = true := by
  simp only [okA, Bool.and_eq_true] at h
  exact ⟨h.1, h.2.1, h.2.2.1, h.2.2.2.1⟩
theorem GI.add {ν : Nat → Option Nat} {σ : Sg} (h : GI ν σ) {u n : Nat} {a1 a2 a3 a4 a5 : Int32} (hn : n < 64) (hf : ∀ j, j < 16 → ¬ ν j = some n) (e : σ.1 0 = nI n) (hok : okA a1 a2 a3 a4 a5 = true) : GI (fun j => if j = u then some n else ν j) (adS1 σ u a1 a2 a3 a4 a5) := by
  obtain ⟨o1, o2, o3, o4⟩ := okA_spec hok
  refine ⟨h.1, fun j hj q => ?_, fun j m hj q => ?_, fun i j m hi hj q r => ?_⟩
  · dsimp only at q
    by_cases c : j = u
    · rw [if_pos c] at q; cases q
    · rw [if_neg c] at q
      show up2 σ.2.1 u _ j 0 = 0
      rw [up2_n c]
      exact h.2.1 j hj q
  · dsimp only at q
    by_cases c : j = u
    · rw [if_pos c] at q
      cases q
      subst c
      refine ⟨?_, hn⟩
      show VE (up2 σ.2.1 j _ j) n
      rw [up2_s]
      refine ⟨by simp [flE, upd], by simp [flE, upd, e], by simpa [flE, upd] using o1, by simpa [flE, upd] using o2, by simpa [flE, upd] using o3, by simpa [flE, upd] using o4⟩
    · rw [if_neg c] at q
      show VE (up2 σ.2.1 u _ j) m ∧ m < 64
      rw [up2_n c]
      exact h.2.2.1 j m hj q
  · dsimp only at q r
    by_cases c : i = u
    · rw [if_pos c] at q
      cases q
      by_cases d : j = u
      · omega
      · rw [if_neg d] at r
        exact absurd r (hf j hj)
    · rw [if_neg c] at q
      by_cases d : j = u
      · rw [if_pos d] at r
        cases r
        exact absurd q (hf i hi)
      · rw [if_neg d] at r
        exact h.2.2.2 i j m hi hj q r
theorem GI.rem {ν : Nat → Option Nat} {σ : Sg} (h : GI ν σ) {u : Nat} : GI (fun j => if j = u then none else ν j) (reS σ u) := by
  refine ⟨h.1, fun j hj q => ?_, fun j m hj q => ?_, fun i j m hi hj q r => ?_⟩
  · dsimp only at q
    show up2 σ.2.1 u _ j 0 = 0
    by_cases c : j = u
    · subst c; rw [up2_s]; simp [upd]
    · rw [if_neg c] at q
      rw [up2_n c]
      exact h.2.1 j hj q
  · dsimp only at q
    by_cases c : j = u
    · rw [if_pos c] at q; cases q
    · rw [if_neg c] at q
      show VE (up2 σ.2.1 u _ j) m ∧ m < 64
      rw [up2_n c]
      exact h.2.2.1 j m hj q
  · dsimp only at q r
    by_cases c : i = u
    · rw [if_pos c] at q; cases q
    · rw [if_neg c] at q
      by_cases d : j = u
      · rw [if_pos d] at r; cases r
      · rw [if_neg d] at r
        exact h.2.2.2 i j m hi hj q r
theorem GI.fr {ν : Nat → Option Nat} {σ : Sg} (h : GI ν σ) {j : Nat} (hj : j < 16) : frP σ.2.1 j = (ν j).isNone := by
  rcases optc (ν j) with q | ⟨n, q⟩
  · rw [q]; simp [frP, h.2.1 j hj q]
  · rw [q]; simp [frP, (h.2.2.1 j n hj q).1.1]
theorem kAdd_0 {σ : Sg} {a1 a2 a3 a4 a5 : Int32} {u n : Nat} (hok : okA a1 a2 a3 a4 a5 = true) (hf : fs (frP σ.2.1) 16 = some u) (e : σ.1 0 = nI n) (hn : n < 60) : kAdd σ a1 a2 a3 a4 a5 = 0 := by
  have h1 : σ.1 0 < 60 := by rw [e, show (60 : Int32) = nI 60 from rfl]; exact (nI_ltI (by omega) (by omega)).mpr hn
  simp [kAdd, hok, hf, h1]
theorem kAdd_2 {σ : Sg} {a1 a2 a3 a4 a5 : Int32} {n : Nat} (hok : okA a1 a2 a3 a4 a5 = true) (h : fs (frP σ.2.1) 16 = none ∨ (σ.1 0 = nI n ∧ 60 ≤ n ∧ n < 64)) : kAdd σ a1 a2 a3 a4 a5 = 2 := by
  rcases h with h | ⟨h, h1, h2⟩
  · simp [kAdd, hok, h]
  · have h3 : ¬ σ.1 0 < 60 := by rw [h, show (60 : Int32) = nI 60 from rfl]; exact fun q => absurd ((nI_ltI (by omega) (by omega)).mp q) (by omega)
    unfold kAdd
    rw [if_pos hok, if_neg h3]
    split <;> rfl
theorem kRem_0 {σ : Sg} {v : Int32} {u : Nat} (h : fs (pN σ.2.1 v) 16 = some u) : kRem σ v = 0 := by simp [kRem, no1, h]
theorem ct_dec : ∀ k, k ≤ 16 → ct (fun j => decide (j < k)) 16 = k := by decide +kernel
theorem ct_one : ∀ u, u < 16 → ct (fun j => !decide (j = u)) 16 = 15 := by decide +kernel
def nu1 (k j : Nat) : Option Nat := if j < k then some j else none
def I1 (k : Nat) (σ : Sg) : Prop := GI (nu1 k) σ ∧ σ.1 0 = nI k
theorem I1_0 : I1 0 s00 := by
  refine ⟨⟨⟨by decide +kernel, by decide +kernel, by decide +kernel⟩, fun j hj _ => ?_, fun j n hj q => ?_, fun i j n hi hj q => ?_⟩, by decide +kernel⟩
  · show e0 0 = 0
    decide +kernel
  · simp [nu1] at q
  · simp [nu1] at q
theorem I1.fr {k : Nat} {σ : Sg} (h : I1 k σ) (hk : k < 16) : fs (frP σ.2.1) 16 = some k := by
  refine fs_first (fun j hj => ?_) ?_ hk
  · rw [h.1.fr (by omega), nu1, if_pos hj]; rfl
  · rw [h.1.fr hk, nu1, if_neg (by omega)]; rfl
theorem I1.st {k : Nat} {σ : Sg} (h : I1 k σ) (hk : k < 16) {a1 a2 a3 a4 a5 : Int32} (hok : okA a1 a2 a3 a4 a5 = true) : I1 (k + 1) (adS1 σ k a1 a2 a3 a4 a5) := by
  refine ⟨(h.1.add (u := k) (n := k) (by omega) (fun j hj q => ?_) h.2 hok).cong (fun j hj => ?_), ?_⟩
  · unfold nu1 at q
    by_cases c : j < k
    · rw [if_pos c] at q; cases q; omega
    · rw [if_neg c] at q; cases q
  · unfold nu1
    by_cases c : j = k
    · subst c; rw [if_pos (by omega), if_pos rfl]
    · rw [if_neg c]
      by_cases d : j < k
      · rw [if_pos d, if_pos (by omega)]
      · rw [if_neg d, if_neg (by omega)]
  · show upd σ.1 0 (σ.1 0 + 1) 0 = nI (k + 1)
    rw [pk_us, h.2, nI_1]
theorem I1.pl {k : Nat} {σ : Sg} (h : I1 (k + 1) σ) (hk : k < 16) : ∃ u n, u < 16 ∧ fs (pP σ.2.1 (nI k)) 16 = some u ∧ kAt σ (nI k) = 0 ∧ σ.2.1 u 1 = nI n ∧ kRem σ (nI n) = 0 ∧ fs (pN σ.2.1 (nI n)) 16 = some u ∧ nI (ct (pA σ.2.1 u) 16) = nI k := by
  have hc : ct (thr σ.2.1) 16 = k + 1 := by
    rw [ct_cong (R := fun j => decide (j < k + 1)) (fun j hj => ?_)]
    · exact ct_dec (k + 1) (by omega)
    · rw [h.1.tr hj, nu1]
      by_cases c : j < k + 1
      · rw [if_pos c]; simp [c]
      · rw [if_neg c]; simp [c]
  have hs : ∃ i, i < 16 ∧ thr σ.2.1 i = true := ⟨0, by omega, by rw [h.1.tr (by omega), nu1, if_pos (by omega)]; rfl⟩
  obtain ⟨u, n, hu, hn, h1, h2, h3, h4⟩ := h.1.at (h.1.last hc hs)
  have h5 := h.1.find hu hn
  exact ⟨u, n, hu, h1, h2, h4, kRem_0 h5, h5, h3⟩
theorem I1.rf {k : Nat} {σ : Sg} (h : I1 (k + 1) σ) (hk : k < 16) : RFb σ 0 (nI (k + 1)) = true := by
  have := h.1.rf (j := 0) (n := 0) (m := k + 1) (by omega) (by rw [nu1, if_pos (by omega)]) (by omega) (fun i hi q => by
    unfold nu1 at q
    by_cases c : i < k + 1
    · rw [if_pos c] at q; cases q; omega
    · rw [if_neg c] at q; cases q)
  rwa [nI_0] at this
theorem I1.full {σ : Sg} (h : I1 16 σ) : kAdd σ 0 0 0 0 0 = 2 :=
  kAdd_2 (n := 0) (by decide) (Or.inl (fs_none (fun j hj => by rw [h.1.fr hj, nu1, if_pos hj]; rfl)))
def nu (k j : Nat) : Nat := (k - 1) - ((k - 1 - j) % 16)
def I2 (k : Nat) (σ : Sg) : Prop := GI (fun j => some (nu k j)) σ ∧ σ.1 0 = nI k ∧ ∀ j, j < 16 → 16 ≤ nu k j → σ.2.1 j 7 = 9
theorem I2_16 {σ : Sg} (h : I1 16 σ) : I2 16 σ := by
  have e : ∀ j, j < 16 → nu 16 j = j := fun j hj => by unfold nu; omega
  refine ⟨h.1.cong (fun j hj => by rw [e j hj, nu1, if_pos hj]), h.2, fun j hj q => ?_⟩
  rw [e j hj] at q
  omega
theorem nu_u {k : Nat} (h : 16 ≤ k) : nu k (k % 16) = k - 16 := by unfold nu; omega
theorem nu_in {k j : Nat} (h : 16 ≤ k) (hj : j < 16) : k - 16 ≤ nu k j ∧ nu k j < k := by unfold nu; omega
theorem nu_s {k j : Nat} (h : 16 ≤ k) (hj : j < 16) (c : ¬ j = k % 16) : nu (k + 1) j = nu k j := by unfold nu; omega
theorem nu_k {k : Nat} (h : 16 ≤ k) : nu (k + 1) (k % 16) = k := by unfold nu; omega
theorem I2.find {k : Nat} {σ : Sg} (h : I2 k σ) (hk : 16 ≤ k) : fs (pN σ.2.1 (nI (k - 16))) 16 = some (k % 16) := h.1.find (j := k % 16) (by omega) (by rw [nu_u hk])
theorem I2.cnt {k : Nat} {σ : Sg} (h : I2 k σ) : nI (ct (thr (up2 σ.2.1 (k % 16) (upd (σ.2.1 (k % 16)) 0 0))) 16) = 15 := by
  have g := h.1.rem (u := k % 16)
  have e : ct (thr (up2 σ.2.1 (k % 16) (upd (σ.2.1 (k % 16)) 0 0))) 16 = 15 := by
    rw [ct_cong (R := fun j => !decide (j = k % 16)) (fun j hj => ?_)]
    · exact ct_one _ (by omega)
    · have := g.tr hj
      refine Eq.trans this ?_
      by_cases c : j = k % 16
      · rw [if_pos c]; simp [c]
      · rw [if_neg c]; simp [c]
  rw [e]
  decide
theorem I2.fr {k : Nat} {σ : Sg} (h : I2 k σ) : fs (frP (reS σ (k % 16)).2.1) 16 = some (k % 16) := by
  have g := h.1.rem (u := k % 16)
  refine fs_first (fun j hj => ?_) ?_ (by omega)
  · rw [g.fr (by omega), if_neg (by omega)]; rfl
  · rw [g.fr (by omega), if_pos rfl]; rfl
theorem I2.st {k : Nat} {σ : Sg} (h : I2 k σ) (hk : 16 ≤ k) (h60 : k < 60) : I2 (k + 1) (adS1 (reS σ (k % 16)) (k % 16) 2 99 999999999 2 9) := by
  have g := h.1.rem (u := k % 16)
  refine ⟨(g.add (u := k % 16) (n := k) (by omega) (fun j hj q => ?_) h.2.1 (by decide)).cong (fun j hj => ?_), ?_, fun j hj q => ?_⟩
  · by_cases c : j = k % 16
    · rw [if_pos c] at q; cases q
    · rw [if_neg c] at q
      have := nu_in hk hj
      have e := Option.some.inj q
      omega
  · show some (nu (k + 1) j) = _
    by_cases c : j = k % 16
    · rw [if_pos c, c, nu_k hk]
    · rw [if_neg c, if_neg c, nu_s hk hj c]
  · show upd σ.1 0 (σ.1 0 + 1) 0 = nI (k + 1)
    rw [pk_us, h.2.1, nI_1]
  · show up2 (up2 σ.2.1 (k % 16) _) (k % 16) (flE _ _ 2 99 999999999 2 9) j 7 = 9
    by_cases c : j = k % 16
    · rw [c, up2_s]; simp [flE, upd]
    · rw [up2_n c, up2_n c]
      exact h.2.2 j hj (by rw [← nu_s hk hj c]; exact q)
def I3 (σ : Sg) : Prop := GI (fun j => if j = 12 then none else some (nu 60 j)) σ ∧ ∀ j, j < 16 → ¬ j = 12 → σ.2.1 j 7 = 9
theorem I3_of {σ : Sg} (h : I2 60 σ) : I3 (reS σ (60 % 16)) := by
  refine ⟨h.1.rem (u := 12), fun j hj c => ?_⟩
  show up2 σ.2.1 12 _ j 7 = 9
  rw [up2_n c]
  exact h.2.2 j hj (by have := nu_in (k := 60) (j := j) (by omega) hj; omega)
theorem I3.cnt {σ : Sg} (h : I3 σ) : nI (ct (thr σ.2.1) 16) = 15 := by
  have e : ct (thr σ.2.1) 16 = 15 := by
    rw [ct_cong (R := fun j => !decide (j = 12)) (fun j hj => ?_)]
    · exact ct_one _ (by omega)
    · rw [h.1.tr hj]
      by_cases c : j = 12
      · rw [if_pos c]; simp [c]
      · rw [if_neg c]; simp [c]
  rw [e]
  decide
theorem I3.f59 {σ : Sg} (h : I3 σ) : fs (pN σ.2.1 59) 16 = some 11 ∧ σ.2.1 11 7 = 9 :=
  ⟨h.1.find (j := 11) (n := 59) (by omega) (by decide +kernel), h.2 11 (by omega) (by omega)⟩
theorem I3.at0 {σ : Sg} (h : I3 σ) : ∃ u n, fs (pP σ.2.1 0) 16 = some u ∧ kAt σ 0 = 0 ∧ σ.2.1 u 1 = nI n ∧ 45 ≤ n ∧ n < 64 := by
  obtain ⟨u, n, hu, hn, h1, h2, h3, h4⟩ := h.1.at (h.1.first ⟨0, by omega, by rw [h.1.tr (by omega), if_neg (by omega)]; rfl⟩)
  refine ⟨u, n, h1, h2, h4, ?_, (h.1.2.2.1 u n hu hn).2⟩
  by_cases c : u = 12
  · rw [if_pos c] at hn; cases hn
  · rw [if_neg c] at hn
    have e := Option.some.inj hn
    unfold nu at e
    omega
theorem I3.rf1 {σ : Sg} (h : I3 σ) : RFb σ 59 60 = true := h.1.rf (j := 11) (n := 59) (m := 60) (by omega) (by decide +kernel) (by omega) (fun i hi q => by
  by_cases c : i = 12
  · rw [if_pos c] at q; cases q
  · rw [if_neg c] at q
    have e := Option.some.inj q
    unfold nu at e
    omega)
theorem I3.rf2 {σ : Sg} (h : I3 σ) : RFb σ 45 44 = true := h.1.rf (j := 13) (n := 45) (m := 44) (by omega) (by decide +kernel) (by omega) (fun i hi q => by
  by_cases c : i = 12
  · rw [if_pos c] at q; cases q
  · rw [if_neg c] at q
    have e := Option.some.inj q
    unfold nu at e
    omega)
/-- the script's numbers -/
theorem sh7 (x : Int32) : ∃ n : Nat, n < 2 ^ 25 ∧ (x.toUInt32 >>> (Int32.toUInt32 7 &&& Int32.toUInt32 31)).toInt32 = nI n := by
  have h := pk_ushr x 7 7 (by decide)
  have hx : x.toBitVec.toNat < 2 ^ 32 := x.toBitVec.isLt
  have hn : x.toBitVec.toNat / 2 ^ 7 < 2 ^ 25 := by omega
  refine ⟨x.toBitVec.toNat / 2 ^ 7, hn, ?_⟩
  apply Int32.toBitVec_inj.mp
  apply BitVec.eq_of_toNat_eq
  rw [h, pk_tn (by omega)]
theorem okx {n : Nat} (h : n < 2 ^ 25) : okA (nI n - nI n / 3 * 3) (nI n - nI n / 100 * 100) (nI n - nI n / 1000000 * 1000000) (nI n / 3 - nI n / 3 / 3 * 3) (nI n - nI n / 11 * 11 - 1) = true := by
  have r : ∀ d, 0 < d → d < 2 ^ 31 → nI n - nI n / nI d * nI d = nI (n % d) := fun d h0 h1 => pk_rem (by omega) h0 h1
  have e1 : nI n - nI n / 3 * 3 = nI (n % 3) := r 3 (by omega) (by omega)
  have e2 : nI n - nI n / 100 * 100 = nI (n % 100) := r 100 (by omega) (by omega)
  have e3 : nI n - nI n / 1000000 * 1000000 = nI (n % 1000000) := r 1000000 (by omega) (by omega)
  have e4 : nI n / 3 = nI (n / 3) := pk_div (a := n) (d := 3) (by omega) (by omega) (by omega)
  have e5 : nI (n / 3) - nI (n / 3) / 3 * 3 = nI (n / 3 % 3) := pk_rem (a := n / 3) (d := 3) (by omega) (by omega) (by omega)
  have e6 : nI n - nI n / 11 * 11 = nI (n % 11) := r 11 (by omega) (by omega)
  rw [e1, e2, e3, e4, e5, e6]
  have w : ∀ (a b : Nat), a ≤ b → b < 2 ^ 31 → wi (nI a) 0 (nI b) = true := fun a b h1 h2 => by
    have q1 : ¬ nI a < 0 := nI_pos (by omega)
    have q2 : ¬ nI b < nI a := nI_nlt h1 h2
    simp [wi, q1, q2]
  have w1 : wi (nI (n % 3)) 0 2 = true := w _ 2 (by omega) (by omega)
  have w2 : wi (nI (n % 100)) 0 99 = true := w _ 99 (by omega) (by omega)
  have w3 : wi (nI (n % 1000000)) 0 999999999 = true := w _ 999999999 (by omega) (by omega)
  have w4 : wi (nI (n / 3 % 3)) 0 2 = true := w _ 2 (by omega) (by omega)
  have w5 : (decide (nI (n % 11) - 1 = -1) || wi (nI (n % 11) - 1) 0 9) = true := by
    rcases Nat.eq_zero_or_pos (n % 11) with q | q
    · rw [q]; decide
    · obtain ⟨t, ht⟩ : ∃ t, n % 11 = t + 1 := ⟨n % 11 - 1, by omega⟩
      rw [ht, nI_pred, show wi (nI t) 0 9 = true from w t 9 (by omega) (by omega), Bool.or_true]
  simp only [okA, w1, w2, w3, w4, w5, Bool.and_self]
