/-- the law's surroundings, once its own chooser is made -/
def lwC (l : Launch) (p : Program) (s : State) (m : MethodId) (meth : Method) (c : Code) (b L : Nat) (xs : Nat → Int32) (g : Ge) : Prop :=
  lw_At p s m meth c b L xs ∧ cx g s s.heap ∧ gA g 40 = s.heap.size ∧ l.stackTraces = false ∧ L ≤ 260
def lgG (p : Program) (l : Launch) (e : Env) (s : State) (m : MethodId) (below : List Frame) (meth : Method) (c : Code) (b : Nat) (g : Ge) (σ : Sg) (pc : Nat) (lv : List (Nat × Value)) (cells slots : Nat) : Prop :=
  ∀ (H : Heap) (locs : List Loc) (ls : Array Slot), Wd g σ m00 O00 H → va_S (Az g) s.heap H locs → lv_has ls 4 lv →
    W p l e room_1 s m #[Value.ref b] below meth c H locs cells slots (lw_Z below #[Value.ref b] s) (F0 m pc ls [])
abbrev lv3 (b : Nat) (g : Ge) (x : Int32) : List (Nat × Value) := [(2, .int x), (0, .ref b), (1, .ref (gA g 0))]
set_option maxHeartbeats 4000000 in
set_option maxRecDepth 100000 in
theorem l1_step {p : Program} {l : Launch} {e : Env} {s : State} {m : MethodId} {below : List Frame} {meth : Method} {c : Code} {b L : Nat} {xs : Nat → Int32} {g : Ge} (C0 : lwC l p s m meth c b L xs g) {k : Nat} (hk : k < 16) {σ : Sg} (hI : I1 k σ) (kk : ∀ τ : Sg, I1 (k + 1) τ → lgG p l e s m below meth c b g τ 24 (lv3 b g (nI (k + 1))) (931 + 167 * (k + 1)) (5736 + 1002 * (k + 1))) : lgG p l e s m below meth c b g σ 24 (lv3 b g (nI k)) (931 + 167 * k) (5736 + 1002 * k) := by
  obtain ⟨⟨hx, hb, hr, hml, hown, hts, hX, hbl, hlocks, hgv⟩, hC, hz, hfl, hL⟩ := C0
  intro H locs ls hW hS hl
  have hown : s.vm.findClass RL = some m.cls := hown
  have htsW : ∀ w ∈ wsL_law, w.before #[Value.ref b] s = true := fun w h => hts w (wsL_law_in w h)
  have hbA : ¬ Az g b := fun h => by unfold Az at h; rw [hz] at h; exact absurd hbl (by omega)
  have hl : lv_has ls 4 [(2, .int (nI k)), (0, .ref b), (1, .ref (gA g 0))] := hl
  refine lv_iload_n hx hb dL_law_24 rfl (lv_at hl 0 rfl) ?_
  refine lv_bipush (v := 16) hx hb dL_law_25 (by decide) ?_
  refine lv_icmp_ge (tgt := 120) hx hb dL_law_27 (by decide) (fun c1 => absurd c1 ((nI16_le_n (by omega)).mpr hk)) (fun _ => ?_)
  have body : ∀ (n : Nat), n < 2 ^ 25 → W p l e room_1 s m #[Value.ref b] below meth c H locs (931 + 167 * k) (5736 + 1002 * k) (lw_Z below #[Value.ref b] s) (F0 m 51 ls [.int (nI n)]) := by
    intro n hn
    refine lv_istore_n (lv' := [(3, .int (nI n)), (2, .int (nI k)), (0, .ref b), (1, .ref (gA g 0))]) hx hb dL_law_51 rfl hl (by decide) rfl (fun ls hl => ?_)
    refine lv_aload_n hx hb dL_law_52 rfl (lv_at hl 3 rfl) ?_
    refine lv_iload_n hx hb dL_law_53 rfl (lv_at hl 0 rfl) ?_
    refine lv_iconst (v := 3) hx hb dL_law_54 (by decide) ?_
    refine lv_irem hx hb dL_law_55 (by decide) ?_
    refine lv_topi (fun a1 h1 => ?_)
    refine lv_iload_n hx hb dL_law_56 rfl (lv_at hl 0 rfl) ?_
    refine lv_bipush (v := 100) hx hb dL_law_57 (by decide) ?_
    refine lv_irem hx hb dL_law_59 (by decide) ?_
    refine lv_topi (fun a2 h2 => ?_)
    refine lv_iload_n hx hb dL_law_60 rfl (lv_at hl 0 rfl) ?_
    refine lv_ldc (v := 1000000) hx hb hown (htsW (.constant RL 118 (1000000)) (by decide +kernel)) dL_law_61 ?_
    refine lv_irem hx hb dL_law_63 (by decide) ?_
    refine lv_topi (fun a3 h3 => ?_)
    refine lv_iload_n hx hb dL_law_64 rfl (lv_at hl 0 rfl) ?_
    refine lv_iconst (v := 3) hx hb dL_law_65 (by decide) ?_
    refine lv_idiv hx hb dL_law_66 (by decide) ?_
    refine lv_iconst (v := 3) hx hb dL_law_67 (by decide) ?_
    refine lv_irem hx hb dL_law_68 (by decide) ?_
    refine lv_topi (fun a4 h4 => ?_)
    refine lv_iload_n hx hb dL_law_69 rfl (lv_at hl 0 rfl) ?_
    refine lv_bipush (v := 11) hx hb dL_law_70 (by decide) ?_
    refine lv_irem hx hb dL_law_72 (by decide) ?_
    refine lv_iconst (v := 1) hx hb dL_law_73 (by decide) ?_
    refine lv_isub hx hb dL_law_74 ?_
    refine lv_topi (fun a5 h5 => ?_)
    have hok : okA a1 a2 a3 a4 a5 = true := by rw [h1, h2, h3, h4, h5]; exact okx hn
    clear h1 h2 h3 h4 h5
    refine cOKi (v := nI k) (τ := adS1 σ k a1 a2 a3 a4 a5) (vx_runV (As := [.int a1, .int a2, .int a3, .int a4, .int a5]) (rest := []) ⟨hx, hb, hml, hown, htsW⟩ (mtX2_add l hfl g σ m00 O00 a1 a2 a3 a4 a5) (cwV 5 htsW gL_law_X2_add rfl rfl rfl (by decide +kernel) ⟨Nat.le_of_ble_eq_true rfl, Nat.le_of_ble_eq_true rfl⟩) ⟨PW.blind, rcB hC hW, fun U hU hW9 => ⟨rfl, PW.at hC hS hW U hU hW9⟩⟩ rfl rfl hl.1 rfl (lv_room (Nat.le_of_ble_eq_true rfl)) dL_law_75 ⟨show 931 + 167 * k + 1 ≤ 670752 by omega, show 5736 + 1002 * k + 6 ≤ 7089442 by omega⟩) hS (fun _ _ _ q => no_2 (kAdd_0 hok (hI.fr hk) hI.2 (by omega)) q) (fun r u t hq hW => ⟨hq.2.2.trans hI.2, by have e : u = k := Option.some.inj (hq.2.1.symm.trans (hI.fr hk)); rw [← e]; exact hW⟩) (fun H locs hW hS => ?_)
    have hI1 := hI.st hk hok
    generalize adS1 σ k a1 a2 a3 a4 a5 = τ at hW hI1
    obtain ⟨u0, n0, hu0, p1, p2, p3, p4, p5, p6⟩ := hI1.pl hk
    refine lv_iload_n hx hb dL_law_78 rfl (lv_at hl 1 rfl) ?_
    refine lv_icmp_ne (tgt := 112) hx hb dL_law_79 (by decide) (fun c => absurd rfl c) (fun _ => ?_)
    refine lv_aload_n hx hb dL_law_82 rfl (lv_at hl 3 rfl) ?_
    refine lv_aload_n hx hb dL_law_83 rfl (lv_at hl 3 rfl) ?_
    refine lv_iload_n hx hb dL_law_84 rfl (lv_at hl 1 rfl) ?_
    refine cOKi (v := nI n0) (τ := τ) (vx_runV (As := [.int (nI k)]) (rest := [.ref (gA g 0)]) ⟨hx, hb, hml, hown, htsW⟩ (mtX2_at l hfl g τ m00 O00 (nI k)) (cwV 1 htsW gL_law_X2_at rfl rfl rfl (by decide +kernel) ⟨Nat.le_of_ble_eq_true rfl, Nat.le_of_ble_eq_true rfl⟩) ⟨PW.blind, rcB hC hW, fun U hU hW9 => ⟨rfl, PW.at hC hS hW U hU hW9⟩⟩ rfl rfl hl.1 rfl (lv_room (Nat.le_of_ble_eq_true rfl)) dL_law_85 ⟨show 931 + 167 * k + 1 + 1 ≤ 670752 by omega, show 5736 + 1002 * k + 6 + 6 ≤ 7089442 by omega⟩) hS (fun _ _ _ q => no_1 p2 q) (fun r u t hq hW => ⟨by have e : u = u0 := Option.some.inj (hq.2.1.symm.trans p1); rw [hq.2.2, e]; exact p3, hW⟩) (fun H locs hW hS => ?_)
    refine cOKi (v := nI k) (τ := τ) (vx_runV (As := [.int (nI n0)]) (rest := []) ⟨hx, hb, hml, hown, htsW⟩ (mtX2_placeOf l hfl g τ m00 O00 (nI n0)) (cwV 1 htsW gL_law_X2_placeOf rfl rfl rfl (by decide +kernel) ⟨Nat.le_of_ble_eq_true rfl, Nat.le_of_ble_eq_true rfl⟩) ⟨PW.blind, rcB hC hW, fun U hU hW9 => ⟨rfl, PW.at hC hS hW U hU hW9⟩⟩ rfl rfl hl.1 rfl (lv_room (Nat.le_of_ble_eq_true rfl)) dL_law_88 ⟨show 931 + 167 * k + 1 + 1 + 1 ≤ 670752 by omega, show 5736 + 1002 * k + 6 + 6 + 6 ≤ 7089442 by omega⟩) hS (fun _ _ _ q => no_1 p4 q) (fun r u t hq hW => ⟨by have e : u = u0 := Option.some.inj (hq.2.1.symm.trans p5); rw [hq.2.2, e]; exact p6, hW⟩) (fun H locs hW hS => ?_)
    refine lv_iload_n hx hb dL_law_91 rfl (lv_at hl 1 rfl) ?_
    refine lv_icmp_ne (tgt := 112) hx hb dL_law_92 (by decide) (fun c => absurd rfl c) (fun _ => ?_)
    have tail : ∀ (H : Heap) (locs : List Loc), Wd g τ m00 O00 H → va_S (Az g) s.heap H locs → W p l e room_1 s m #[Value.ref b] below meth c H locs (931 + 167 * (k + 1)) (5736 + 1002 * (k + 1)) (lw_Z below #[Value.ref b] s) (F0 m 114 ls []) := by
      intro H locs hW hS
      refine lv_iinc (v := nI (k + 1)) (lv' := [(2, .int (nI (k + 1))), (3, .int (nI n)), (0, .ref b), (1, .ref (gA g 0))]) hx hb dL_law_114 hl (k := 1) rfl (nI_1 _) (by decide) rfl (fun ls hl => ?_)
      refine lv_goto (tgt := 24) hx hb dL_law_117 (by decide) ?_
      exact kk τ hI1 H locs ls hW hS (by exact lv_sub hl [0, 2, 3] rfl)
    refine lv_iload_n hx hb dL_law_95 rfl (lv_at hl 1 rfl) ?_
    refine lv_iconst (v := 5) hx hb dL_law_96 (by decide) ?_
    refine lv_irem hx hb dL_law_97 (by decide) ?_
    refine lv_if_ne (tgt := 114) hx hb dL_law_98 (by decide) (fun _ => ?_) (fun _ => ?_)
    · refine W.widen (k := 931 + 167 * (k + 1)) (n := 5736 + 1002 * (k + 1)) (by omega) (by omega) ?_
      exact tail H locs hW hS
    · refine lv_aload_n hx hb dL_law_101 rfl (lv_at hl 3 rfl) ?_
      refine lv_iconst (v := 0) hx hb dL_law_102 (by decide) ?_
      refine lv_iload_n hx hb dL_law_103 rfl (lv_at hl 1 rfl) ?_
      refine lv_iconst (v := 1) hx hb dL_law_104 (by decide) ?_
      refine lv_iadd hx hb dL_law_105 ?_
      rw [nI_1]
      refine va_calli (va_runS (As := [.ref (gA g 0), .int 0, .int (nI (k + 1))]) (rest := []) ⟨hx, hb, hml, hown, htsW⟩ (mtL_refuses l g τ m00 O00 hfl 0 (nI (k + 1)) 0 1 hI1.1.1.2.1 hI1.1.1.2.2 (by omega) (by omega) (hI1.rf hk)) (va_cwS 3 htsW gL_law_L_refuses rfl rfl rfl (by decide +kernel) ⟨Nat.le_of_ble_eq_true rfl, Nat.le_of_ble_eq_true rfl⟩) ⟨PW.blind, fun U hU hW9 => ⟨rfl, PW.at hC hS hW U hU hW9⟩⟩ rfl rfl hl.1 rfl (lv_room (Nat.le_of_ble_eq_true rfl)) dL_law_106 ⟨show 931 + 167 * k + 1 + 1 + 1 + 164 ≤ 670752 by omega, show 5736 + 1002 * k + 6 + 6 + 6 + 984 ≤ 7089442 by omega⟩) hS (fun _ _ h => h) (fun _ h => h) (fun r u t H locs ht hvm hq hW hz9 hk9 hS => ?_)
      obtain rfl : r = 1 := hq
      replace hW : Wd g τ m00 O00 H := by rw [← ht]; exact hW
      refine lv_if_ne (tgt := 114) hx hb dL_law_109 (by decide) (fun _ => ?_) (fun c => absurd c (by decide))
      refine W.widen (k := 931 + 167 * (k + 1)) (n := 5736 + 1002 * (k + 1)) (by omega) (by omega) ?_
      exact tail H locs hW hS
  refine lv_aload_n hx hb dL_law_30 rfl (lv_at hl 1 rfl) ?_
  refine va_slen hx hb hX hbl hbA hS dL_law_31 ?_
  refine lv_if_ne (tgt := 42) hx hb dL_law_32 (by decide) (fun c2 => ?_) (fun c2 => ?_)
  · refine lv_aload_n hx hb dL_law_42 rfl (lv_at hl 1 rfl) ?_
    refine lv_iload_n hx hb dL_law_43 rfl (lv_at hl 0 rfl) ?_
    refine lv_aload_n hx hb dL_law_44 rfl (lv_at hl 1 rfl) ?_
    refine va_slen hx hb hX hbl hbA hS dL_law_45 ?_
    refine lv_irem hx hb dL_law_46 c2 ?_
    have hL0 : 0 < L := by
      rcases Nat.eq_zero_or_pos L with q | q
      · subst q; exact absurd (by decide) c2
      · exact q
    have er : nI k - nI k / Int32.ofNat L * Int32.ofNat L = nI (k % L) := pk_rem (a := k) (d := L) (by omega) hL0 (by omega)
    rw [er]
    refine va_sld hx hb hX hbl hbA hS (vp_in_nI (Nat.mod_lt _ hL0) (by omega)) dL_law_47 ?_
    refine lv_bipush (v := 7) hx hb dL_law_48 (by decide) ?_
    obtain ⟨n, hn, en⟩ := sh7 (xs (nI (k % L)).toNatClampNeg)
    refine lv_iushr (v := nI n) hx hb dL_law_50 en ?_
    exact body n hn
  · refine lv_bipush (v := 43) hx hb dL_law_35 (by decide) ?_
    refine lv_iload_n hx hb dL_law_37 rfl (lv_at hl 0 rfl) ?_
    refine lv_imul hx hb dL_law_38 ?_
    refine lv_goto (tgt := 51) hx hb dL_law_39 (by decide) ?_
    rw [show (43 : Int32) * nI k = nI (43 * k) from pk_mul 43 k]
    exact body (43 * k) (by omega)
theorem l1_loop {p : Program} {l : Launch} {e : Env} {s : State} {m : MethodId} {below : List Frame} {meth : Method} {c : Code} {b L : Nat} {xs : Nat → Int32} {g : Ge} (C0 : lwC l p s m meth c b L xs g) (kk : ∀ τ : Sg, I1 16 τ → lgG p l e s m below meth c b g τ 24 (lv3 b g (nI 16)) (931 + 167 * 16) (5736 + 1002 * 16)) : ∀ (n k : Nat), k + n = 16 → ∀ σ : Sg, I1 k σ → lgG p l e s m below meth c b g σ 24 (lv3 b g (nI k)) (931 + 167 * k) (5736 + 1002 * k) := by
  intro n
  induction n with
  | zero => intro k h σ hI; obtain rfl : k = 16 := by omega
            exact kk σ hI
  | succ n ih => intro k h σ hI; exact l1_step C0 (by omega) hI (fun τ hτ => ih (k + 1) (by omega) τ hτ)
