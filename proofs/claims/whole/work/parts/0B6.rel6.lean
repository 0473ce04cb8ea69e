section RL6
variable {a : Nat} {σ : Sg} {μ : Mg}
theorem us1_o {e : Nat → Int32} {i : Nat} (h : i ≠ 7) : us1 e i = e i := by
  unfold us1
  by_cases q : e 7 ≤ 0
  · rw [if_pos q]
  · rw [if_neg q]; simp [upd, h]
theorem stF_o {F : Nat → Nat → Int32} {n k i : Nat} (h : ¬ (k = 5 ∧ i = n)) : stF F n k i = F k i := by
  unfold stF
  by_cases q : k = 5
  · subst q
    have : i ≠ n := fun w => h ⟨rfl, w⟩
    rw [up2_s]; simp [upd, this]
  · rw [up2_n q]
theorem nx_s (h : Rl a σ μ) : (∀ u, nx σ = some u → ∃ j, Mk a σ.2.1 u j ∧ chM μ a = nI j) ∧ (nx σ = none → chM μ a = -1) := by
  obtain ⟨c1, c2, c3, c4, c5, c6⟩ := h.2.2.1
  exact nx_ch h.1 h.M c1 c2 c3 c4
theorem op_start (h : Rl a σ μ) : opF (kSt σ) (kMS μ a) a σ (stM μ a) (fun r u => kSt σ = 0 ∧ nx σ = some u ∧ r = σ.2.1 u 1) (fun _ u => (upd (upd (upd σ.1 6 (mz (σ.2.2.1 0) (σ.2.1 u))) 2 (-1)) 5 (σ.2.1 u 1), up2 σ.2.1 u (us1 (σ.2.1 u)), upd σ.2.2.1 3 0, σ.2.2.2)) (stR μ a) := by
  have ha := h.ha
  obtain ⟨n1, n2⟩ := nx_s h
  refine ⟨?_, ?_, fun hk => ?_, fun hk r u hP => ?_⟩
  · unfold kSt kMS
    rcases optc (nx σ) with q | ⟨u, q⟩
    · rw [q, n2 q]; rfl
    · obtain ⟨j, hj, e⟩ := n1 u q
      have hja := hj.2.1
      rw [q, e, if_pos (nI_pos' (by omega))]; rfl
  · unfold stM
    by_cases q : kMS μ a = 0
    · rw [if_pos q, q]; rfl
    · rw [if_neg q]; rfl
  · rw [stM, if_neg hk]; exact h.thr _
  · obtain ⟨-, hu, rfl⟩ := hP
    obtain ⟨j, hj, e⟩ := n1 u hu
    have hja := hj.2.1
    obtain ⟨x2, x3, x4, x5, x6, x7⟩ := h.1.r4 u j hj.1 hj.2.1 hj.2.2.1 hj.2.2.2
    obtain ⟨c1, c2, c3, c4, c5, c6⟩ := h.2.2.1
    obtain ⟨k0, k01, cl, en, ⟨l1, l2, l3⟩, k2, k3, k4, k5, k6, k7⟩ := h.2.2.2.1
    rw [stM, stR, if_pos hk, if_pos hk, e]
    have hmz := mz_M h.1 k0 hj
    unfold stP
    generalize mzM μ (nI j) = z2 at hmz ⊢
    have b0 := h.2.1.1; have b1 := h.M
    refine ⟨hj.2.2.2, a, ?_, ⟨by simp only [upd]; simpa using b0, by simp only [upd]; simpa using b1⟩, ⟨by simp only [upd]; simpa using c1, by simp [upd], by simp only [upd]; simpa using c3, by simp only [upd]; simpa using c4, by simp only [upd]; simpa using hj.2.2.2, by simp only [upd]; simpa using hmz⟩, ⟨by simp only [upd]; simpa using k0, by simp only [upd]; simpa using k01, cl, 0, ⟨l1, l2, by omega⟩, by simp only [upd]; simpa using k2, by simp only [upd]; simpa using k3, by simp only [upd]; rw [nI_0]; rfl, by simp only [upd]; rw [nI_0]; rfl, fun i hi => by omega, by simp only [upd, tv]; rw [nI_0]; rfl⟩, Or.inr ⟨j, hja, by simp [upd]⟩⟩
    show RR a (up2 σ.2.1 u (us1 (σ.2.1 u))) (stF μ.2 (nI j).toNatClampNeg)
    rw [nI_clamp (by omega)]
    refine h.1.up hj (us1_o (by decide)) us1_1 (fun k i q => stF_o (fun w => q w.2)) (stF_o (by omega)) ⟨?_, ?_, ?_, ?_, ?_, ?_⟩ ?_
    · rw [us1_o (by decide), stF_o (by omega)]; exact x2
    · rw [us1_o (by decide), stF_o (by omega)]; exact x3
    · rw [us1_o (by decide), stF_o (by omega)]; exact x4
    · rw [us1_o (by decide), stF_o (by omega)]; exact x5
    · rw [us1_o (by decide), stF_o (by omega)]; exact x6
    · unfold us1 stF
      rw [x7, up2_s]
      by_cases q : μ.2 5 j ≤ 0
      · rw [if_pos q, if_pos q, x7]; simp [upd]
      · rw [if_neg q, if_neg q]; simp [upd]
    · have := Mk.rg h.1 hj
      unfold rg at this ⊢
      rw [stF_o (by omega), stF_o (by omega), stF_o (by omega), stF_o (by omega), stF_o (by omega)]; exact this
theorem op_good (h : Rl a σ μ) : opF (U := Unit) (kGo σ) (kMG μ) a σ (goM μ) (fun r _ => kGo σ = 0 ∧ r = goR σ) (fun _ _ => (σ.1, goE σ, σ.2.2)) (goMR μ) := by
  have ha := h.ha
  obtain ⟨c1, c2, c3, c4, c5, c6⟩ := h.2.2.1
  refine ⟨?_, ?_, fun hk => ?_, fun hk r u hP => ?_⟩
  · unfold kGo kMG
    rw [c5]
    rcases h.2.2.2.2 with q | ⟨j, hj, q⟩
    · rw [q]; rfl
    · have hne : ¬ nI j = -1 := fun w => by
        have := nI_pos' (show j < 2 ^ 31 by omega)
        rw [w] at this
        exact absurd this (by decide)
      rw [q, if_neg hne, if_pos (nI_pos' (by omega))]
  · unfold goM
    by_cases q : kMG μ = 0
    · rw [if_pos q, q]; rfl
    · rw [if_neg q]; rfl
  · rw [goM, if_neg hk]; exact h.thr _
  · obtain ⟨-, rfl⟩ := hP
    rcases h.2.2.2.2 with q | ⟨j, hj, q⟩
    · unfold kMG at hk
      rw [q] at hk
      exact absurd hk (by decide)
    · rw [goM, goMR, if_pos hk, if_pos hk]
      unfold goR goE goF
      rw [c5, q, nI_clamp (show j < 2 ^ 31 by omega)]
      by_cases q0 : μ.2 0 j = 0
      · have hm : mt μ (nI j) = false := by
          cases w : mt μ (nI j) with
          | false => rfl
          | true =>
            obtain ⟨i, hi, e, h0⟩ := mt_j h.M ha w
            have : j = i := (nI_eq (by omega) (by omega)).mp e
            subst this
            exact absurd q0 h0
        rw [mt_no h.1 h.M hm, oel_n, if_pos q0, if_pos q0]
        exact ⟨rfl, a, h⟩
      · obtain ⟨u, i, hu, hi, e⟩ := mt_u h.1 h.M (mt_Mj h.M ha hj q0)
        have : j = i := (nI_eq (by omega) (by have := hi.2.1; omega)).mp e
        subst this
        obtain ⟨x2, x3, x4, x5, x6, x7⟩ := h.1.r4 u j hi.1 hi.2.1 hi.2.2.1 hi.2.2.2
        rw [hu, oel_s, if_neg q0, if_neg q0]
        refine ⟨x7, a, ?_, h.2⟩
        refine h.1.up hi rfl rfl (fun k i q => ?_) rfl ⟨x2, x3, x4, x5, x6, ?_⟩ (Mk.rg h.1 hi)
        · show up2 μ.2 5 (upd (μ.2 5) j (-1)) k i = μ.2 k i
          by_cases k5 : k = 5
          · subst k5; rw [up2_s]; simp [upd, q]
          · rw [up2_n k5]
        · show upd (σ.2.1 u) 7 (-1) 7 = up2 μ.2 5 (upd (μ.2 5) j (-1)) 5 j
          rw [up2_s]; simp [upd]
theorem op_lock (h : Rl a σ μ) (code many : Int32) : kLo σ code many = kML μ code many ∧ (loM μ code many).1 12 = kML μ code many ∧ (¬ kML μ code many = 0 → Rl a σ (loM μ code many)) ∧
    (kML μ code many = 0 → Rl a (σ.1, σ.2.1, upd (upd (upd (upd σ.2.2.1 0 1) 1 code) 2 many) 3 0, σ.2.2.2) (loM μ code many)) := by
  obtain ⟨k0, k01, cl, en, ⟨l1, l2, l3⟩, k2, k3, k4, k5, k6, k7⟩ := h.2.2.2.1
  refine ⟨kLo_M k0 code many, ?_, fun hk => ?_, fun hk => ?_⟩
  · unfold loM
    by_cases q : kML μ code many = 0
    · rw [if_pos q, q]; rfl
    · rw [if_neg q]; rfl
  · rw [loM, if_neg hk]; exact h.thr _
  · rw [loM, if_pos hk]
    have hw : wi many 1 6 = true := by
      cases q : wi many 1 6 with
      | true => rfl
      | false => unfold kML at hk; rw [q] at hk; simp at hk
    obtain ⟨k, h1, h6, e⟩ := wi_n hw
    exact ⟨h.1, h.2.1, h.2.2.1, ⟨rfl, Or.inr rfl, k, 0, ⟨h1, h6, by omega⟩, e, fun _ => ⟨e, rfl⟩, rfl, rfl, fun i hi => by omega, rfl⟩, h.2.2.2.2⟩
theorem ec_en {G M : Nat → Int32} {K1 d : Int32} {F : Nat → Nat → Int32} {cl en : Nat} (hcl : 1 ≤ cl ∧ cl ≤ 6) (hen : en ≤ 12) (e9 : M 9 = nI cl) (e1 : K1 = M 8) (e10 : M 10 = nI en) (hdg : dg G en) (e11 : M 11 = nI (tv G en)) (hd : wi d 0 9 = true) :
    dg (upd G en d) (en + 1) ∧ tl1 (M, F) d = nI (tv (upd G en d) (en + 1)) ∧ ec (upd G en d) (en + 1) cl K1 = enB (M, F) d := by
  obtain ⟨f, lf, ef⟩ := wi_N (n := 9) rfl hd
  have hG : ∀ i, i < en → upd G en d i = G i := fun i hi => by
    have : i ≠ en := by omega
    simp [upd, this]
  have hGe : upd G en d en = d := by simp [upd]
  have hdg2 : dg (upd G en d) (en + 1) := fun i hi => by
    by_cases q : i = en
    · subst q; rw [hGe]; exact ⟨f, lf, ef⟩
    · rw [hG i (by omega)]; exact hdg i (by omega)
  have hdv : dv (upd G en d) en = f := by unfold dv; rw [hGe, ef, nI_clamp (by omega)]
  have htv : tv (upd G en d) (en + 1) = (10 * tv G en + f) % 1000000 := by
    show (10 * tv (upd G en d) en + dv (upd G en d) en) % 1000000 = _
    rw [hdv, tv_cong hG]
  have hl := tv_lt G en
  have htl : tl1 (M, F) d = nI (tv (upd G en d) (en + 1)) := by
    unfold tl1 rm
    show (10 * M 11 + d) - (10 * M 11 + d) / 1000000 * 1000000 = _
    rw [e11, ef, show (10 : Int32) = nI 10 from rfl, show (1000000 : Int32) = nI 1000000 from rfl, pk_mul, nI_add, pk_rem (by omega) (by omega) (by omega), ← ef, htv]
  refine ⟨hdg2, htl, ?_⟩
  unfold ec enB
  rw [htl]
  show _ = if M 10 + 1 < M 9 then false else decide (rm (nI (tv (upd G en d) (en + 1))) (tn (M 9)) = M 8)
  rw [e10, e9, nI_1, e1]
  obtain ⟨t1, t2⟩ := ten_le hcl.2
  by_cases q : en + 1 < cl
  · rw [if_pos ((nI_ltI (by omega) (by omega)).mpr q)]
    have : ¬ cl ≤ en + 1 := by omega
    simp [this]
  · rw [if_neg (fun w => q ((nI_ltI (by omega) (by omega)).mp w))]
    have hc : cl ≤ en + 1 := by omega
    have hl2 := tv_lt (upd G en d) (en + 1)
    rw [(vl_N hdg2 (s := en + 1 - cl) (n := cl) (by omega) hcl.2).2, vn_tv hdg2 cl (en + 1) hcl.2 hc (Nat.le_refl _), tn_N hcl.2]
    unfold rm
    rw [pk_rem (by omega) (by omega) (by omega)]
    simp [hc]
theorem op_enter (h : Rl a σ μ) (d : Int32) {cl en : Nat} (hcl : 1 ≤ cl ∧ cl ≤ 6) (hen : en ≤ 12) (k2 : σ.2.2.1 2 = nI cl) (k3 : ¬ μ.1 7 = 0 → μ.1 9 = nI cl ∧ σ.2.2.1 1 = μ.1 8) (k4 : σ.2.2.1 3 = nI en) (k5 : μ.1 10 = nI en) (k6 : dg σ.2.2.2 en) (k7 : μ.1 11 = nI (tv σ.2.2.2 en)) :
    opF (U := Unit) (kEn σ d) (kMN μ d) a σ (enM μ d) (fun r _ => kEn σ d = 0 ∧ r = bI (ec (upd σ.2.2.2 en d) (en + 1) cl (σ.2.2.1 1))) (fun _ _ => (σ.1, σ.2.1, upd (upd σ.2.2.1 3 (σ.2.2.1 3 + 1)) 0 (bI (!ec (upd σ.2.2.2 en d) (en + 1) cl (σ.2.2.1 1))), upd σ.2.2.2 en d)) (enR μ d) := by
  have hlt : (σ.2.2.1 3 < 12) ↔ ¬ (μ.1 10 = 12) := by
    rw [k4, k5, show (12 : Int32) = nI 12 from rfl, nI_ltI (by omega) (by omega), nI_eq (by omega) (by omega)]; omega
  refine ⟨?_, ?_, fun hk => ?_, fun hk r u hP => ?_⟩
  · unfold kEn kMN
    rw [h.K0]
    cases wi d 0 9 with
    | false => rfl
    | true =>
      rw [if_pos rfl, if_pos rfl]
      by_cases q : μ.1 7 = 0
      · rw [if_pos q, if_pos q]
      · rw [if_neg q, if_neg q]
        by_cases q2 : μ.1 10 = 12
        · rw [if_pos q2, if_neg (fun w => hlt.mp w q2)]
        · rw [if_neg q2, if_pos (hlt.mpr q2)]
  · unfold enM
    by_cases q : kMN μ d = 0
    · rw [if_pos q, q]; rfl
    · rw [if_neg q]; rfl
  · rw [enM, if_neg hk]; exact h.thr _
  · obtain ⟨-, rfl⟩ := hP
    have hw : wi d 0 9 = true ∧ ¬ μ.1 7 = 0 ∧ ¬ μ.1 10 = 12 := by
      unfold kMN at hk
      cases q : wi d 0 9 with
      | false => rw [q] at hk; simp at hk
      | true =>
        rw [q, if_pos rfl] at hk
        by_cases q2 : μ.1 7 = 0
        · rw [if_pos q2] at hk; exact absurd hk (by decide)
        · rw [if_neg q2] at hk
          by_cases q3 : μ.1 10 = 12
          · rw [if_pos q3] at hk; exact absurd hk (by decide)
          · exact ⟨rfl, q2, q3⟩
    obtain ⟨e9, e8⟩ := k3 hw.2.1
    obtain ⟨d1, d2, d3⟩ := ec_en (F := μ.2) hcl hen e9 e8 k5 k6 k7 hw.1
    have hen2 : en < 12 := by
      have := hw.2.2
      rw [k5, show (12 : Int32) = nI 12 from rfl, nI_eq (by omega) (by omega)] at this
      omega
    rw [enM, enR, if_pos hk, if_pos hk, d3]
    refine ⟨rfl, a, h.1, h.2.1, h.2.2.1, ⟨rfl, ?_, cl, en + 1, ⟨hcl.1, hcl.2, by omega⟩, k2, fun _ => ⟨e9, e8⟩, ?_, ?_, d1, d2⟩, h.2.2.2.2⟩
    · show bI (!enB μ d) = 0 ∨ bI (!enB μ d) = 1
      cases enB μ d
      · exact Or.inr rfl
      · exact Or.inl rfl
    · show σ.2.2.1 3 + 1 = nI (en + 1)
      rw [k4, nI_1]
    · show μ.1 10 + 1 = nI (en + 1)
      rw [k5, nI_1]
theorem op_at (h : Rl a σ μ) (pl : Int32) : opF (kAt σ pl) (kMT μ a pl) a σ (thr12 μ (kMT μ a pl)) (fun r u => kAt σ pl = 0 ∧ fs (pP σ.2.1 pl) 16 = some u ∧ r = σ.2.1 u 1) (fun _ _ => σ) (atR μ a pl) := by
  have ha := h.ha
  refine ⟨?_, rfl, fun hk => h.thr _, fun hk r u hP => ?_⟩
  · unfold kAt kMT
    rcases optc (fs (pP σ.2.1 pl) 16) with q | ⟨u, q⟩
    · rw [q, at_n h.1 q]; rfl
    · obtain ⟨j, hj, e⟩ := at_s h.1 q
      have hja := hj.2.1
      rw [q, e, oI_s, if_pos (nI_pos' (by omega))]; rfl
  · obtain ⟨-, hu, rfl⟩ := hP
    obtain ⟨j, hj, e⟩ := at_s h.1 hu
    rw [atR, if_pos hk, e, oI_s]
    exact ⟨hj.2.2.2, a, h.thr _⟩
theorem kRem_M (h : Rl a σ μ) (e : Int32) : kRem σ e = kMR μ e := by unfold kRem kMR; rw [no_mt h.1 h.M]; cases mt μ e <;> rfl
theorem op_placeOf (h : Rl a σ μ) (e : Int32) : opF (kRem σ e) (kMR μ e) a σ (thr12 μ (kMR μ e)) (fun r u => kRem σ e = 0 ∧ fs (pN σ.2.1 e) 16 = some u ∧ r = nI (ct (pA σ.2.1 u) 16)) (fun _ _ => σ) (poR μ a e) := by
  refine ⟨kRem_M h e, rfl, fun hk => h.thr _, fun hk r u hP => ?_⟩
  obtain ⟨-, hu, rfl⟩ := hP
  obtain ⟨j, hj, rfl⟩ := pN_s h.1 hu
  rw [poR, if_pos hk, plc h.1 hj]
  exact ⟨rfl, a, h.thr _⟩
theorem op_tries (h : Rl a σ μ) (e : Int32) : opF (kRem σ e) (kMR μ e) a σ (thr12 μ (kMR μ e)) (fun r u => kRem σ e = 0 ∧ fs (pN σ.2.1 e) 16 = some u ∧ r = σ.2.1 u 7) (fun _ _ => σ) (trR μ e) := by
  have ha := h.ha
  refine ⟨kRem_M h e, rfl, fun hk => h.thr _, fun hk r u hP => ?_⟩
  obtain ⟨-, hu, rfl⟩ := hP
  obtain ⟨j, hj, rfl⟩ := pN_s h.1 hu
  have hja := hj.2.1
  rw [trR, if_pos hk, nI_clamp (by omega), (h.1.r4 u j hj.1 hj.2.1 hj.2.2.1 hj.2.2.2).2.2.2.2.2]
  exact ⟨rfl, a, h.thr _⟩
theorem op_foretold (h : Rl a σ μ) (e : Int32) : opF (kRem σ e) (kMR μ e) a σ (thr12 μ (kMR μ e)) (fun r u => kRem σ e = 0 ∧ fs (pN σ.2.1 e) 16 = some u ∧ r = mz (σ.2.2.1 0) (σ.2.1 u)) (fun _ _ => σ) (foR μ e) := by
  refine ⟨kRem_M h e, rfl, fun hk => h.thr _, fun hk r u hP => ?_⟩
  obtain ⟨-, hu, rfl⟩ := hP
  obtain ⟨j, hj, rfl⟩ := pN_s h.1 hu
  rw [foR, if_pos hk, mz_M h.1 h.K0 hj]
  exact ⟨rfl, a, h.thr _⟩
theorem op_compare (h : Rl a σ μ) (x y : Int32) : opF (U := Nat × Nat) (kCm σ x y) (kMX μ x y) a σ (thr12 μ (kMX μ x y)) (fun r u => kCm σ x y = 0 ∧ fs (pN σ.2.1 x) 16 = some u.1 ∧ fs (pN σ.2.1 y) 16 = some u.2 ∧ r = cv (σ.2.1 u.1) (σ.2.1 u.2)) (fun _ _ => σ) (cmR μ x y) := by
  have ha := h.ha
  refine ⟨?_, rfl, fun hk => h.thr _, fun hk r u hP => ?_⟩
  · unfold kCm kMX; rw [no_mt h.1 h.M, no_mt h.1 h.M]; cases mt μ x <;> cases mt μ y <;> rfl
  · obtain ⟨-, hu, hv, rfl⟩ := hP
    obtain ⟨i, hi, rfl⟩ := pN_s h.1 hu
    obtain ⟨j, hj, rfl⟩ := pN_s h.1 hv
    have hia := hi.2.1; have hja := hj.2.1
    obtain ⟨f1, f2, f3, f4, f6, ⟨a1, a2, a3, a4, -⟩, e1, e2, e3, e4, -⟩ := Mk.rg h.1 hi
    obtain ⟨g1, g2, g3, g4, g6, ⟨c1, c2, c3, c4, -⟩, d1, d2, d3, d4, -⟩ := Mk.rg h.1 hj
    obtain ⟨x2, x3, x4, x5, x6, x7⟩ := h.1.r4 u.1 i hi.1 hi.2.1 hi.2.2.1 hi.2.2.2
    obtain ⟨y2, y3, y4, y5, y6, y7⟩ := h.1.r4 u.2 j hj.1 hj.2.1 hj.2.2.1 hj.2.2.2
    rw [cmR, if_pos hk, cm_N (by omega) (by omega) ⟨a3, a4⟩ ⟨c3, c4⟩ e3 e4 d3 d4, cv_N ⟨a3, a4⟩ ⟨c3, c4⟩ (x4.trans e3) (x5.trans e4) (y4.trans d3) (y5.trans d4)]
    exact ⟨rfl, a, h.thr _⟩
theorem next_M (h : Rl a σ μ) : nxR σ = chM μ a := by
  obtain ⟨n1, n2⟩ := nx_s h
  unfold nxR
  rcases optc (nx σ) with q | ⟨u, q⟩
  · rw [q, n2 q]; rfl
  · obtain ⟨j, hj, e⟩ := n1 u q
    rw [q, e, oel_s]; exact hj.2.2.2
end RL6
