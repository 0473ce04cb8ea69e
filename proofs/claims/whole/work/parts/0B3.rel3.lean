/-! PURE: the ranges, the measure, the lock's digits -/
theorem wi_N {x M : Int32} {n : Nat} (hM : M.toInt = n) (h : wi x 0 M = true) : ∃ f : Nat, f ≤ n ∧ x = nI f := by
  simp only [wi, Bool.and_eq_true, Bool.not_eq_true', decide_eq_false_iff_not] at h
  refine nI_of2 hM h.1 ?_
  rw [leI]; have := h.2; rw [ltI] at this; omega
theorem ok_tr (t : Int32) : (decide (t = -1) || wi t 0 9) = wi t (-1) 9 := by
  have e9 : (9 : Int32).toInt = 9 := rfl
  have e0 : (0 : Int32).toInt = 0 := rfl
  have em : (-1 : Int32).toInt = -1 := rfl
  rw [Bool.eq_iff_iff]
  simp only [wi, Bool.or_eq_true, Bool.and_eq_true, Bool.not_eq_true', decide_eq_false_iff_not, decide_eq_true_eq, ltI, ← Int32.toInt_inj, e9, e0, em]
  omega
theorem okA_M (kind name ver mark tr : Int32) : okA kind name ver mark tr = okM kind name ver mark tr := by
  unfold okA okM; rw [ok_tr]
theorem sp_N {x y : Nat} (hx : x < 1000003) (hy : y < 1000003) : sp (nI x) (nI y) = nI ((x * 31 + y + 7) % 1000003) := by
  unfold sp
  rw [show (31 : Int32) = nI 31 from rfl, show (7 : Int32) = nI 7 from rfl, show (1000003 : Int32) = nI 1000003 from rfl, pk_mul, nI_add, nI_add, pk_rem (by omega) (by omega) (by omega)]
theorem tk_N {x y : Nat} (hx : x < 1000003) (hy : y < 1000003) : tk (nI x) (nI y) = nI ((x * 31 + y + 7) % 1000003) := by
  unfold tk
  rw [nI_l (by omega), nI_l (by omega)]
  have e1 : lN x * 31 + lN y + 7 = lN (x * 31 + y + 7) := by
    rw [show (31 : Int64) = lN 31 from rfl, show (7 : Int64) = lN 7 from rfl]
    show Int64.ofNat x * Int64.ofNat 31 + Int64.ofNat y + Int64.ofNat 7 = Int64.ofNat (x * 31 + y + 7)
    rw [Int64.ofNat_add, Int64.ofNat_add, Int64.ofNat_mul]
  rw [e1, show (1000003 : Int64) = lN 1000003 from rfl, pk_lRem (by omega) (by omega) (by omega)]
  have hm : (x * 31 + y + 7) % 1000003 < 1000003 := Nat.mod_lt _ (by omega)
  generalize (x * 31 + y + 7) % 1000003 = z at hm ⊢
  rw [← nI_l (show z < 2 ^ 31 by omega)]
  exact Int32.toInt32_toInt64 (nI z)
theorem st_N {x y : Nat} (hx : x < 1000003) (hy : y < 1000003) : sp (nI x) (nI y) = tk (nI x) (nI y) ∧ ∃ w, w < 1000003 ∧ tk (nI x) (nI y) = nI w :=
  ⟨(sp_N hx hy).trans (tk_N hx hy).symm, _, Nat.mod_lt _ (by omega), tk_N hx hy⟩
theorem mz_M {a : Nat} {σ : Sg} {μ : Mg} (h : RR a σ.2.1 μ.2) (hK : σ.2.2.1 0 = μ.1 7) {u j : Nat} (hu : Mk a σ.2.1 u j) : mz (σ.2.2.1 0) (σ.2.1 u) = mzM μ (nI j) := by
  have ha := h.ha
  have hj := hu.2.1
  obtain ⟨f1, f2, f3, f4, f6, ⟨a1, a2, a3, a4, a6⟩, e1, e2, e3, e4, e6⟩ := Mk.rg h hu
  obtain ⟨x2, x3, x4, x5, x6, x7⟩ := h.r4 u j hu.1 hj hu.2.2.1 hu.2.2.2
  unfold mz mzM rm
  rw [nI_clamp (show j < 2 ^ 31 by omega), hK, x2, x3, x4, x5, x6, e1, e2, e3, e4, e6]
  rw [show (1000000 : Int32) = nI 1000000 from rfl, show (1000 : Int32) = nI 1000 from rfl]
  rw [pk_div (show f3 < 2 ^ 31 by omega) (show 0 < 1000000 by omega) (by omega), pk_rem (show f3 < 2 ^ 31 by omega) (show 0 < 1000 by omega) (by omega)]
  rw [pk_div (show f3 < 2 ^ 31 by omega) (show 0 < 1000 by omega) (by omega)]
  rw [pk_rem (show f3 / 1000 < 2 ^ 31 by omega) (show 0 < 1000 by omega) (by omega)]
  have hb : ∃ b : Nat, b < 1000003 ∧ (if μ.1 7 = 0 then (0 : Int32) else 1) = nI b := by
    by_cases q : μ.1 7 = 0
    · exact ⟨0, by omega, by rw [if_pos q, nI_0]⟩
    · exact ⟨1, by omega, by rw [if_neg q]; rfl⟩
  obtain ⟨b, hb1, hb2⟩ := hb
  rw [hb2, show (0 : Int32) = nI 0 from rfl]
  obtain ⟨q1, w1, l1, v1⟩ := st_N (x := 0) (y := b) (by omega) hb1
  rw [q1, v1]
  obtain ⟨q1, w2, l2, v1⟩ := st_N (x := w1) (y := f1) l1 (by omega)
  rw [q1, v1]
  obtain ⟨q1, w3, l3, v1⟩ := st_N (x := w2) (y := f3 / 1000000) l2 (by omega)
  rw [q1, v1]
  obtain ⟨q1, w4, l4, v1⟩ := st_N (x := w3) (y := f3 / 1000 % 1000) l3 (by omega)
  rw [q1, v1]
  obtain ⟨q1, w5, l5, v1⟩ := st_N (x := w4) (y := f3 % 1000) l4 (by omega)
  rw [q1, v1]
  obtain ⟨q1, w6, l6, v1⟩ := st_N (x := w5) (y := f4) l5 (by omega)
  rw [q1, v1]
  obtain ⟨q1, w7, l7, v1⟩ := st_N (x := w6) (y := f2) l6 (by omega)
  rw [q1, v1]
  exact (st_N (x := w7) (y := f6) l7 (by omega)).1
/-! digits -/
def dv (G : Nat → Int32) (i : Nat) : Nat := (G i).toNatClampNeg
def tv (G : Nat → Int32) : Nat → Nat
  | 0 => 0
  | n + 1 => (10 * tv G n + dv G n) % 1000000
def vn (G : Nat → Int32) (s : Nat) : Nat → Nat
  | 0 => 0
  | n + 1 => vn G s n * 10 + dv G (s + n)
def dg (G : Nat → Int32) (en : Nat) : Prop := ∀ i, i < en → ∃ d, d ≤ 9 ∧ G i = nI d
theorem tv_lt (G : Nat → Int32) : ∀ n, tv G n < 1000000
  | 0 => by show 0 < 1000000; omega
  | n + 1 => Nat.mod_lt _ (by omega)
theorem tv_cong {G G' : Nat → Int32} : ∀ {n : Nat}, (∀ i, i < n → G i = G' i) → tv G n = tv G' n
  | 0, _ => rfl
  | n + 1, h => by simp only [tv, dv]; rw [tv_cong (fun i hi => h i (by omega)), h n (by omega)]
theorem dg_dv {G : Nat → Int32} {en i : Nat} (h : dg G en) (hi : i < en) : dv G i ≤ 9 ∧ G i = nI (dv G i) := by
  obtain ⟨d, hd, e⟩ := h i hi
  unfold dv
  rw [e, nI_clamp (by omega)]
  exact ⟨hd, rfl⟩
theorem vl_N {G : Nat → Int32} {en : Nat} (h : dg G en) {s : Nat} : ∀ {n : Nat}, s + n ≤ en → n ≤ 6 → vn G s n < 10 ^ n ∧ vl G s n = nI (vn G s n) := by
  intro n
  induction n with
  | zero => intro _ _; exact ⟨by simp [vn], rfl⟩
  | succ n ih =>
    intro h1 h2
    obtain ⟨l, e⟩ := ih (by omega) (by omega)
    obtain ⟨d1, d2⟩ := dg_dv h (i := s + n) (by omega)
    simp only [vn, vl]
    rw [e, d2, show (10 : Int32) = nI 10 from rfl, pk_mul, nI_add, Nat.pow_succ]
    exact ⟨by omega, rfl⟩
theorem vn_tv {G : Nat → Int32} {en : Nat} (h : dg G en) : ∀ (c n : Nat), c ≤ 6 → c ≤ n → n ≤ en → vn G (n - c) c = tv G n % 10 ^ c := by
  intro c
  induction c with
  | zero => intro n _ _ _; simp [vn, Nat.mod_one]
  | succ c ih =>
    intro n h1 h2 h3
    obtain ⟨m, rfl⟩ : ∃ m, n = m + 1 := ⟨n - 1, by omega⟩
    have hi := ih m (by omega) (by omega) (by omega)
    have hd := (dg_dv h (i := m) (by omega)).1
    simp only [vn, tv]
    rw [show m + 1 - (c + 1) = m - c by omega, hi, show m - c + c = m by omega]
    have hc : c = 0 ∨ c = 1 ∨ c = 2 ∨ c = 3 ∨ c = 4 ∨ c = 5 := by omega
    rcases hc with rfl | rfl | rfl | rfl | rfl | rfl <;> simp only [Nat.reduceAdd, Nat.reducePow] <;> omega
theorem ten_le {c : Nat} (h : c ≤ 6) : 1 ≤ 10 ^ c ∧ 10 ^ c ≤ 1000000 := by
  have hc : c = 0 ∨ c = 1 ∨ c = 2 ∨ c = 3 ∨ c = 4 ∨ c = 5 ∨ c = 6 := by omega
  rcases hc with rfl | rfl | rfl | rfl | rfl | rfl | rfl <;> decide
theorem tn_N {c : Nat} (h : c ≤ 6) : tn (nI c) = nI (10 ^ c) := by unfold tn; rw [nI_clamp (by omega)]
theorem kLo_M {σ : Sg} {μ : Mg} (hK : σ.2.2.1 0 = μ.1 7) (code many : Int32) : kLo σ code many = kML μ code many := by
  unfold kLo kML
  rw [hK]
  cases hw : wi many 1 6 with
  | false => rfl
  | true =>
    rw [if_pos rfl, if_pos rfl]
    obtain ⟨k, h1, h6, rfl⟩ := wi_n hw
    obtain ⟨t1, t2⟩ := ten_le h6
    have e1 : hc (nI k) = nI (10 ^ k - 1) := by
      unfold hc
      rw [nI_clamp (by omega), show (1 : Int32) = nI 1 from rfl, pk_sub t1]
    rw [tn_N h6, e1]
    by_cases h0 : code < 0
    · rw [if_pos h0, if_neg (by unfold wi; simp [h0])]
    · rw [if_neg h0]
      have hq : (code < nI (10 ^ k)) ↔ wi code 0 (nI (10 ^ k - 1)) = true := by
        obtain ⟨c, hc, rfl⟩ := nI_of h0
        unfold wi
        rw [nI_ltI hc (by omega)]
        simp only [h0, decide_false, Bool.not_false, Bool.true_and, Bool.not_eq_true', decide_eq_false_iff_not]
        rw [nI_ltI (by omega) hc]
        omega
      by_cases q : code < nI (10 ^ k)
      · rw [if_pos q, if_pos (hq.mp q)]
      · rw [if_neg q, if_neg (fun w => q (hq.mpr w))]
