set_option maxHeartbeats 4000000 in
set_option maxRecDepth 100000 in
theorem l_mid {p : Program} {l : Launch} {e : Env} {s : State} {m : MethodId} {below : List Frame} {meth : Method} {c : Code} {b L : Nat} {xs : Nat → Int32} {g : Ge} (C0 : lwC l p s m meth c b L xs g) {σ : Sg} (hI : I1 16 σ) (kk : lgG p l e s m below meth c b g σ 139 (lv3 b g (nI 16)) (3572 + 2 * 16) (21582 + 12 * 16)) : lgG p l e s m below meth c b g σ 24 (lv3 b g (nI 16)) (931 + 167 * 16) (5736 + 1002 * 16) := by
  obtain ⟨⟨hx, hb, hr, hml, hown, hts, hX, hbl, hlocks, hgv⟩, hC, hz, hfl, hL⟩ := C0
  intro H locs ls hW hS hl
  have hown : s.vm.findClass RL = some m.cls := hown
  have htsW : ∀ w ∈ wsL_law, w.before #[Value.ref b] s = true := fun w h => hts w (wsL_law_in w h)
  have hbA : ¬ Az g b := fun h => by unfold Az at h; rw [hz] at h; exact absurd hbl (by omega)
  have hl : lv_has ls 4 [(2, .int (nI 16)), (0, .ref b), (1, .ref (gA g 0))] := hl
  refine lv_iload_n hx hb dL_law_24 rfl (lv_at hl 0 rfl) ?_
  refine lv_bipush (v := 16) hx hb dL_law_25 (by decide) ?_
  refine lv_icmp_ge (tgt := 120) hx hb dL_law_27 (by decide) (fun _ => ?_) (fun c => absurd (by decide) c)
  refine lv_aload_n hx hb dL_law_120 rfl (lv_at hl 2 rfl) ?_
  refine lv_iconst (v := 0) hx hb dL_law_121 (by decide) ?_
  refine lv_iconst (v := 0) hx hb dL_law_122 (by decide) ?_
  refine lv_iconst (v := 0) hx hb dL_law_123 (by decide) ?_
  refine lv_iconst (v := 0) hx hb dL_law_124 (by decide) ?_
  refine lv_iconst (v := 0) hx hb dL_law_125 (by decide) ?_
  refine va_calli (vx_runSW (As := [.ref (gA g 0), .int 0, .int 0, .int 0, .int 0, .int 0]) (rest := []) ⟨hx, hb, hml, hown, htsW⟩ (mtL_addR l g σ m00 O00 hfl 0 0 0 0 0 2 (-73) hI.full (by decide)) (vx_cwSW 6 htsW gL_law_L_add rfl rfl rfl (by decide +kernel) ⟨Nat.le_of_ble_eq_true rfl, Nat.le_of_ble_eq_true rfl⟩) ⟨PW.blind, fun U hU hW9 => ⟨rfl, PW.at hC hS hW U hU hW9⟩⟩ rfl rfl hl.1 rfl (lv_room (Nat.le_of_ble_eq_true rfl)) dL_law_126 ⟨show 931 + 167 * 16 + 1 ≤ 670752 by omega, show 5736 + 1002 * 16 + 6 ≤ 7089442 by omega⟩) hS (fun _ _ h => h) (fun _ h => h) (fun r u t H locs ht hvm hq hW hz9 hk9 hS => ?_)
  obtain rfl : r = (-73) := hq
  replace hW : Wd g σ m00 O00 H := by rw [← ht]; exact hW
  refine lv_bipush (v := (-73)) hx hb dL_law_129 (by decide) ?_
  refine lv_icmp_eq (tgt := 136) hx hb dL_law_131 (by decide) (fun _ => ?_) (fun c => absurd rfl c)
  refine lv_bipush (v := nI 16) hx hb dL_law_136 (by decide) ?_
  refine lv_istore_n (lv' := [(2, .int (nI 16)), (0, .ref b), (1, .ref (gA g 0))]) hx hb dL_law_138 rfl hl (by decide) rfl (fun ls hl => ?_)
  refine W.widen (k := 3572 + 2 * 16) (n := 21582 + 12 * 16) (by omega) (by omega) ?_
  exact kk H locs ls hW hS hl
set_option maxHeartbeats 4000000 in
set_option maxRecDepth 100000 in
theorem l2_step {p : Program} {l : Launch} {e : Env} {s : State} {m : MethodId} {below : List Frame} {meth : Method} {c : Code} {b L : Nat} {xs : Nat → Int32} {g : Ge} (C0 : lwC l p s m meth c b L xs g) {k : Nat} (hk : 16 ≤ k) (hk6 : k ≤ 60) {σ : Sg} (hI : I2 k σ) (k1 : k < 60 → ∀ τ : Sg, I2 (k + 1) τ → lgG p l e s m below meth c b g τ 139 (lv3 b g (nI (k + 1))) (3572 + 2 * (k + 1)) (21582 + 12 * (k + 1))) (k2 : ∀ τ : Sg, I3 τ → lgG p l e s m below meth c b g τ 139 (lv3 b g (nI 61)) 3694 22314) : lgG p l e s m below meth c b g σ 139 (lv3 b g (nI k)) (3572 + 2 * k) (21582 + 12 * k) := by
  obtain ⟨⟨hx, hb, hr, hml, hown, hts, hX, hbl, hlocks, hgv⟩, hC, hz, hfl, hL⟩ := C0
  intro H locs ls hW hS hl
  have hown : s.vm.findClass RL = some m.cls := hown
  have htsW : ∀ w ∈ wsL_law, w.before #[Value.ref b] s = true := fun w h => hts w (wsL_law_in w h)
  have hbA : ¬ Az g b := fun h => by unfold Az at h; rw [hz] at h; exact absurd hbl (by omega)
  have hl : lv_has ls 4 [(2, .int (nI k)), (0, .ref b), (1, .ref (gA g 0))] := hl
  refine lv_iload_n hx hb dL_law_139 rfl (lv_at hl 0 rfl) ?_
  refine lv_bipush (v := 61) hx hb dL_law_140 (by decide) ?_
  refine lv_icmp_ge (tgt := 193) hx hb dL_law_142 (by decide) (fun c1 => absurd ((nI_leI (a := 61) (b := k) (by omega) (by omega)).mp c1) (by omega)) (fun _ => ?_)
  refine lv_aload_n hx hb dL_law_145 rfl (lv_at hl 2 rfl) ?_
  refine lv_iload_n hx hb dL_law_146 rfl (lv_at hl 0 rfl) ?_
  refine lv_bipush (v := 16) hx hb dL_law_147 (by decide) ?_
  refine lv_isub hx hb dL_law_149 ?_
  rw [show nI k - 16 = nI (k - 16) from pk_sub (a := k) (b := 16) (by omega)]
  refine cOKi (v := 15) (τ := reS σ (k % 16)) (vx_runV (As := [.int (nI (k - 16))]) (rest := []) ⟨hx, hb, hml, hown, htsW⟩ (mtX2_remove l hfl g σ m00 O00 (nI (k - 16))) (cwV 1 htsW gL_law_X2_remove rfl rfl rfl (by decide +kernel) ⟨Nat.le_of_ble_eq_true rfl, Nat.le_of_ble_eq_true rfl⟩) ⟨PW.blind, rcB hC hW, fun U hU hW9 => ⟨rfl, PW.at hC hS hW U hU hW9⟩⟩ rfl rfl hl.1 rfl (lv_room (Nat.le_of_ble_eq_true rfl)) dL_law_150 ⟨show 3572 + 2 * k + 1 ≤ 670752 by omega, show 21582 + 12 * k + 6 ≤ 7089442 by omega⟩) hS (fun _ _ _ q => no_1 (kRem_0 (hI.find hk)) q) (fun r u t hq hW => ⟨by have e : u = k % 16 := Option.some.inj (hq.2.1.symm.trans (hI.find hk)); rw [hq.2.2, e]; exact hI.cnt, by have e : u = k % 16 := Option.some.inj (hq.2.1.symm.trans (hI.find hk)); rw [← e]; exact hW⟩) (fun H locs hW hS => ?_)
  refine lv_bipush (v := 15) hx hb dL_law_153 (by decide) ?_
  refine lv_icmp_ne (tgt := 185) hx hb dL_law_155 (by decide) (fun c => absurd rfl c) (fun _ => ?_)
  refine lv_aload_n hx hb dL_law_158 rfl (lv_at hl 2 rfl) ?_
  refine lv_iconst (v := 2) hx hb dL_law_159 (by decide) ?_
  refine lv_bipush (v := 99) hx hb dL_law_160 (by decide) ?_
  refine lv_ldc (v := 999999999) hx hb hown (htsW (.constant RL 119 (999999999)) (by decide +kernel)) dL_law_162 ?_
  refine lv_iconst (v := 2) hx hb dL_law_164 (by decide) ?_
  refine lv_bipush (v := 9) hx hb dL_law_165 (by decide) ?_
  by_cases h60 : k < 60
  · refine va_calli (vx_runSW (As := [.ref (gA g 0), .int 2, .int 99, .int 999999999, .int 2, .int 9]) (rest := []) ⟨hx, hb, hml, hown, htsW⟩ (mtL_addS l g (reS σ (k % 16)) m00 O00 hfl 2 99 999999999 2 9 (kAdd_0 (by decide) hI.fr hI.2.1 h60) (k % 16) hI.fr) (vx_cwSW 6 htsW gL_law_L_add rfl rfl rfl (by decide +kernel) ⟨Nat.le_of_ble_eq_true rfl, Nat.le_of_ble_eq_true rfl⟩) ⟨PW.blind, fun U hU hW9 => ⟨rfl, PW.at hC hS hW U hU hW9⟩⟩ rfl rfl hl.1 rfl (lv_room (Nat.le_of_ble_eq_true rfl)) dL_law_167 ⟨show 3572 + 2 * k + 1 + 1 ≤ 670752 by omega, show 21582 + 12 * k + 6 + 6 ≤ 7089442 by omega⟩) hS (fun _ _ h => h) (fun _ h => h) (fun r u t H locs ht hvm hq hW hz9 hk9 hS => ?_)
    obtain rfl : r = nI k := hq.trans hI.2.1
    replace hW : Wd g (adS1 (reS σ (k % 16)) (k % 16) 2 99 999999999 2 9) m00 O00 H := by rw [← ht]; exact hW
    refine lv_iload_n hx hb dL_law_170 rfl (lv_at hl 0 rfl) ?_
    refine lv_bipush (v := 60) hx hb dL_law_171 (by decide) ?_
    refine lv_icmp_ge (tgt := 180) hx hb dL_law_173 (by decide) (fun c1 => absurd ((nI_leI (a := 60) (b := k) (by omega) (by omega)).mp c1) (by omega)) (fun _ => ?_)
    refine lv_iload_n hx hb dL_law_176 rfl (lv_at hl 0 rfl) ?_
    refine lv_goto (tgt := 182) hx hb dL_law_177 (by decide) ?_
    refine lv_icmp_eq (tgt := 187) hx hb dL_law_182 (by decide) (fun _ => ?_) (fun c => absurd rfl c)
    refine lv_iinc (v := nI (k + 1)) (lv' := [(2, .int (nI (k + 1))), (0, .ref b), (1, .ref (gA g 0))]) hx hb dL_law_187 hl (k := 0) rfl (nI_1 _) (by decide) rfl (fun ls hl => ?_)
    refine lv_goto (tgt := 139) hx hb dL_law_190 (by decide) ?_
    refine W.widen (k := 3572 + 2 * (k + 1)) (n := 21582 + 12 * (k + 1)) (by omega) (by omega) ?_
    exact k1 h60 _ (hI.st hk h60) H locs ls hW hS hl
  · obtain rfl : k = 60 := by omega
    refine va_calli (vx_runSW (As := [.ref (gA g 0), .int 2, .int 99, .int 999999999, .int 2, .int 9]) (rest := []) ⟨hx, hb, hml, hown, htsW⟩ (mtL_addR l g (reS σ (60 % 16)) m00 O00 hfl 2 99 999999999 2 9 2 (-73) (kAdd_2 (n := 60) (by decide) (Or.inr ⟨hI.2.1, by omega, by omega⟩)) (by decide)) (vx_cwSW 6 htsW gL_law_L_add rfl rfl rfl (by decide +kernel) ⟨Nat.le_of_ble_eq_true rfl, Nat.le_of_ble_eq_true rfl⟩) ⟨PW.blind, fun U hU hW9 => ⟨rfl, PW.at hC hS hW U hU hW9⟩⟩ rfl rfl hl.1 rfl (lv_room (Nat.le_of_ble_eq_true rfl)) dL_law_167 ⟨show 3572 + 2 * 60 + 1 + 1 ≤ 670752 by omega, show 21582 + 12 * 60 + 6 + 6 ≤ 7089442 by omega⟩) hS (fun _ _ h => h) (fun _ h => h) (fun r u t H locs ht hvm hq hW hz9 hk9 hS => ?_)
    obtain rfl : r = (-73) := hq
    replace hW : Wd g (reS σ (60 % 16)) m00 O00 H := by rw [← ht]; exact hW
    refine lv_iload_n hx hb dL_law_170 rfl (lv_at hl 0 rfl) ?_
    refine lv_bipush (v := 60) hx hb dL_law_171 (by decide) ?_
    refine lv_icmp_ge (tgt := 180) hx hb dL_law_173 (by decide) (fun _ => ?_) (fun c => absurd (by decide) c)
    refine lv_bipush (v := (-73)) hx hb dL_law_180 (by decide) ?_
    refine lv_icmp_eq (tgt := 187) hx hb dL_law_182 (by decide) (fun _ => ?_) (fun c => absurd rfl c)
    refine lv_iinc (v := nI 61) (lv' := [(2, .int (nI 61)), (0, .ref b), (1, .ref (gA g 0))]) hx hb dL_law_187 hl (k := 0) rfl (nI_1 60) (by decide) rfl (fun ls hl => ?_)
    refine lv_goto (tgt := 139) hx hb dL_law_190 (by decide) ?_
    refine W.widen (k := 3694) (n := 22314) (by omega) (by omega) ?_
    exact k2 _ (I3_of hI) H locs ls hW hS hl
theorem l2_loop {p : Program} {l : Launch} {e : Env} {s : State} {m : MethodId} {below : List Frame} {meth : Method} {c : Code} {b L : Nat} {xs : Nat → Int32} {g : Ge} (C0 : lwC l p s m meth c b L xs g) (k2 : ∀ τ : Sg, I3 τ → lgG p l e s m below meth c b g τ 139 (lv3 b g (nI 61)) 3694 22314) : ∀ (n k : Nat), k + n = 60 → 16 ≤ k → ∀ σ : Sg, I2 k σ → lgG p l e s m below meth c b g σ 139 (lv3 b g (nI k)) (3572 + 2 * k) (21582 + 12 * k) := by
  intro n
  induction n with
  | zero => intro k h hk σ hI; exact l2_step C0 hk (by omega) hI (fun q => absurd q (by omega)) k2
  | succ n ih => intro k h hk σ hI; exact l2_step C0 hk (by omega) hI (fun _ τ hτ => ih (k + 1) (by omega) (by omega) τ hτ) k2
set_option maxHeartbeats 4000000 in
set_option maxRecDepth 100000 in
theorem l_end {p : Program} {l : Launch} {e : Env} {s : State} {m : MethodId} {below : List Frame} {meth : Method} {c : Code} {b L : Nat} {xs : Nat → Int32} {g : Ge} (C0 : lwC l p s m meth c b L xs g) {σ : Sg} (hI : I3 σ) : lgG p l e s m below meth c b g σ 139 (lv3 b g (nI 61)) 3694 22314 := by
  obtain ⟨⟨hx, hb, hr, hml, hown, hts, hX, hbl, hlocks, hgv⟩, hC, hz, hfl, hL⟩ := C0
  intro H locs ls hW hS hl
  have hown : s.vm.findClass RL = some m.cls := hown
  have htsW : ∀ w ∈ wsL_law, w.before #[Value.ref b] s = true := fun w h => hts w (wsL_law_in w h)
  have hbA : ¬ Az g b := fun h => by unfold Az at h; rw [hz] at h; exact absurd hbl (by omega)
  have hl : lv_has ls 4 [(2, .int (nI 61)), (0, .ref b), (1, .ref (gA g 0))] := hl
  refine lv_iload_n hx hb dL_law_139 rfl (lv_at hl 0 rfl) ?_
  refine lv_bipush (v := 61) hx hb dL_law_140 (by decide) ?_
  refine lv_icmp_ge (tgt := 193) hx hb dL_law_142 (by decide) (fun _ => ?_) (fun c => absurd (by decide) c)
  refine lv_aload_n hx hb dL_law_193 rfl (lv_at hl 2 rfl) ?_
  refine vp_callSi (va_Run.run (va_runV (As := []) (rest := []) ⟨hx, hb, hml, hown, htsW⟩ (mtX2_entries l g σ m00 O00) (cwV 0 htsW gL_law_X2_entries rfl rfl rfl (by decide +kernel) ⟨Nat.le_of_ble_eq_true rfl, Nat.le_of_ble_eq_true rfl⟩) ⟨PW.blind, rcB hC hW, fun U hU hW9 => ⟨rfl, PW.at hC hS hW U hU hW9⟩⟩ rfl rfl hl.1 rfl (lv_room (Nat.le_of_ble_eq_true rfl)) dL_law_194 ⟨Nat.le_of_ble_eq_true rfl, Nat.le_of_ble_eq_true rfl⟩)) (fun r1 h1 => ?_)
  obtain rfl : r1 = 15 := h1.trans hI.cnt
  refine lv_bipush (v := 15) hx hb dL_law_197 (by decide) ?_
  refine lv_icmp_ne (tgt := 249) hx hb dL_law_199 (by decide) (fun c => absurd rfl c) (fun _ => ?_)
  refine lv_aload_n hx hb dL_law_202 rfl (lv_at hl 2 rfl) ?_
  refine lv_bipush (v := 59) hx hb dL_law_203 (by decide) ?_
  refine cOKi (v := 9) (τ := σ) (vx_runV (As := [.int 59]) (rest := []) ⟨hx, hb, hml, hown, htsW⟩ (mtX2_tries l hfl g σ m00 O00 59) (cwV 1 htsW gL_law_X2_tries rfl rfl rfl (by decide +kernel) ⟨Nat.le_of_ble_eq_true rfl, Nat.le_of_ble_eq_true rfl⟩) ⟨PW.blind, rcB hC hW, fun U hU hW9 => ⟨rfl, PW.at hC hS hW U hU hW9⟩⟩ rfl rfl hl.1 rfl (lv_room (Nat.le_of_ble_eq_true rfl)) dL_law_205 ⟨show 3694 + 1 ≤ 670752 by omega, show 22314 + 6 ≤ 7089442 by omega⟩) hS (fun _ _ _ q => no_1 (kRem_0 hI.f59.1) q) (fun r u t hq hW => ⟨by have e : u = 11 := Option.some.inj (hq.2.1.symm.trans hI.f59.1); rw [hq.2.2, e]; exact hI.f59.2, hW⟩) (fun H locs hW hS => ?_)
  refine lv_bipush (v := 9) hx hb dL_law_208 (by decide) ?_
  refine lv_icmp_ne (tgt := 249) hx hb dL_law_210 (by decide) (fun c => absurd rfl c) (fun _ => ?_)
  refine lv_aload_n hx hb dL_law_213 rfl (lv_at hl 2 rfl) ?_
  refine lv_iconst (v := 0) hx hb dL_law_214 (by decide) ?_
  obtain ⟨u0, n0, p1, p2, p3, p4, p5⟩ := hI.at0
  refine cOKi (v := nI n0) (τ := σ) (vx_runV (As := [.int 0]) (rest := []) ⟨hx, hb, hml, hown, htsW⟩ (mtX2_at l hfl g σ m00 O00 0) (cwV 1 htsW gL_law_X2_at rfl rfl rfl (by decide +kernel) ⟨Nat.le_of_ble_eq_true rfl, Nat.le_of_ble_eq_true rfl⟩) ⟨PW.blind, rcB hC hW, fun U hU hW9 => ⟨rfl, PW.at hC hS hW U hU hW9⟩⟩ rfl rfl hl.1 rfl (lv_room (Nat.le_of_ble_eq_true rfl)) dL_law_215 ⟨show 3694 + 1 + 1 ≤ 670752 by omega, show 22314 + 6 + 6 ≤ 7089442 by omega⟩) hS (fun _ _ _ q => no_1 p2 q) (fun r u t hq hW => ⟨by have e : u = u0 := Option.some.inj (hq.2.1.symm.trans p1); rw [hq.2.2, e]; exact p3, hW⟩) (fun H locs hW hS => ?_)
  refine lv_bipush (v := 45) hx hb dL_law_218 (by decide) ?_
  refine lv_icmp_lt (tgt := 249) hx hb dL_law_220 (by decide) (fun c => absurd ((nI_ltI (a := n0) (b := 45) (by omega) (by omega)).mp c) (by omega)) (fun _ => ?_)
  refine lv_aload_n hx hb dL_law_223 rfl (lv_at hl 2 rfl) ?_
  refine lv_bipush (v := 59) hx hb dL_law_224 (by decide) ?_
  refine lv_bipush (v := 60) hx hb dL_law_226 (by decide) ?_
  refine va_calli (va_runS (As := [.ref (gA g 0), .int 59, .int 60]) (rest := []) ⟨hx, hb, hml, hown, htsW⟩ (mtL_refuses l g σ m00 O00 hfl 59 60 0 1 hI.1.1.2.1 hI.1.1.2.2 (by omega) (by omega) hI.rf1) (va_cwS 3 htsW gL_law_L_refuses rfl rfl rfl (by decide +kernel) ⟨Nat.le_of_ble_eq_true rfl, Nat.le_of_ble_eq_true rfl⟩) ⟨PW.blind, fun U hU hW9 => ⟨rfl, PW.at hC hS hW U hU hW9⟩⟩ rfl rfl hl.1 rfl (lv_room (Nat.le_of_ble_eq_true rfl)) dL_law_228 ⟨show 3694 + 1 + 1 + 164 ≤ 670752 by omega, show 22314 + 6 + 6 + 984 ≤ 7089442 by omega⟩) hS (fun _ _ h => h) (fun _ h => h) (fun r u t H locs ht hvm hq hW hz9 hk9 hS => ?_)
  obtain rfl : r = 1 := hq
  replace hW : Wd g σ m00 O00 H := by rw [← ht]; exact hW
  refine lv_if_eq (tgt := 249) hx hb dL_law_231 (by decide) (fun c => absurd c (by decide)) (fun _ => ?_)
  refine lv_aload_n hx hb dL_law_234 rfl (lv_at hl 2 rfl) ?_
  refine lv_bipush (v := 45) hx hb dL_law_235 (by decide) ?_
  refine lv_bipush (v := 44) hx hb dL_law_237 (by decide) ?_
  refine va_calli (va_runS (As := [.ref (gA g 0), .int 45, .int 44]) (rest := []) ⟨hx, hb, hml, hown, htsW⟩ (mtL_refuses l g σ m00 O00 hfl 45 44 0 1 hI.1.1.2.1 hI.1.1.2.2 (by omega) (by omega) hI.rf2) (va_cwS 3 htsW gL_law_L_refuses rfl rfl rfl (by decide +kernel) ⟨Nat.le_of_ble_eq_true rfl, Nat.le_of_ble_eq_true rfl⟩) ⟨PW.blind, fun U hU hW9 => ⟨rfl, PW.at hC hS hW U hU hW9⟩⟩ rfl rfl hl.1 rfl (lv_room (Nat.le_of_ble_eq_true rfl)) dL_law_239 ⟨show 3694 + 1 + 1 + 164 + 164 ≤ 670752 by omega, show 22314 + 6 + 6 + 984 + 984 ≤ 7089442 by omega⟩) hS (fun _ _ h => h) (fun _ h => h) (fun r u t H locs ht hvm hq hW hz9 hk9 hS => ?_)
  obtain rfl : r = 1 := hq
  refine lv_if_eq (tgt := 249) hx hb dL_law_242 (by decide) (fun c => absurd c (by decide)) (fun _ => ?_)
  refine lv_iconst (v := 1) hx hb dL_law_245 (by decide) ?_
  refine lv_goto (tgt := 250) hx hb dL_law_246 (by decide) ?_
  refine va_forget (fun q hq => by have := hS.2.2 q hq; unfold Az at this; rw [hz] at this; exact this) ?_
  refine W.widen (k := 670752) (n := 7089442) (by omega) (by omega) ?_
  exact lw_ret hx hb hr hlocks dL_law_250
