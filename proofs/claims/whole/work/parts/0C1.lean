def CC (t : Nat) : Nat := 29 + 4 * t
def SS (t : Nat) : Nat := 611 + 24 * t
/-- the law's surroundings -/
def lwC (l : Launch) (p : Program) (s : State) (m : MethodId) (meth : Method) (c : Code) (b L : Nat) (xs : Nat → Int32) (g : Ge) : Prop :=
  lw_At p s m meth c b L xs ∧ cx g s s.heap ∧ gA g 40 = s.heap.size ∧ l.stackTraces = false ∧ L ≤ 3072
def lwL (b : Nat) (g : Ge) (t : Nat) : List (Nat × Value) := [(4, .int (nI (6 * t))), (0, .ref b), (1, .ref (gA g 0)), (2, .ref (gA g 4)), (3, .ref (gA g 12))]
/-- from pc on, with the relation -/
def lwG (p : Program) (l : Launch) (e : Env) (s : State) (m : MethodId) (below : List Frame) (meth : Method) (c : Code) (b : Nat) (g : Ge) (t pc : Nat) : Prop :=
  ∀ (a : Nat) (σ : Sg) (μ : Mg) (o : Nat → Int64) (H : Heap) (locs : List Loc) (ls : Array Slot), Rl a σ μ → Wd g σ μ o H → va_S (Az g) s.heap H locs → lv_has ls 7 (lwL b g t) →
    W p l e room_1 s m #[Value.ref b] below meth c H locs (CC t) (SS t) (lw_Z below #[Value.ref b] s) (F0 m pc ls [])
theorem s_in {t L k : Nat} (h : 6 * t + 6 ≤ L) (hL : L ≤ 3072) (hk : k < 6) : vp_in (nI (6 * t) + nI k) L := by rw [nI_add]; exact vp_in_nI (by omega) (by omega)
theorem s_in0 {t L : Nat} (h : 6 * t + 6 ≤ L) (hL : L ≤ 3072) : vp_in (nI (6 * t)) L := vp_in_nI (by omega) (by omega)
theorem cmp_eq (x : Int64) : lg_cmp x x = 0 := by unfold lg_cmp; simp
/-- behind a helper's call -/
theorem opx {U : Type} {kk kM k r' : Int32} {a : Nat} {σ : Sg} {μ μ2 : Mg} {P : Int32 → U → Prop} {S : Int32 → U → Sg} {w : Int32 → Int64} {g : Ge} {o : Nat → Int64} {x : Option (Int32 × U)} {t : State} (hF : opF kk kM a σ μ2 P S r') (hP : ∀ r u, P r u → kk = 0) (hq : xQ kk P k x) (hB : xB (fun t => Wd g σ μ o t.heap) (fun r u t => Wd g (S r u) μ (vp_updL o 0 (w r)) t.heap) x t) :
    ∃ (σ1 : Sg) (o1 : Nat → Int64) (a1 : Nat), k = kM ∧ Wd g σ1 μ o1 t.heap ∧ Rl a1 σ1 μ2 ∧ (k = 0 → o1 0 = w r') := by
  obtain ⟨h1, h2, h3, h4⟩ := hF
  rcases x with _ | ⟨r, u⟩
  · replace hq : ¬ k = 0 ∧ kk = k := hq
    replace hB : Wd g σ μ o t.heap := hB
    have e : k = kM := hq.2.symm.trans h1
    exact ⟨σ, o, a, e, hB, h3 (fun q => hq.1 (e.trans q)), fun q => absurd q hq.1⟩
  · replace hq : k = 0 ∧ P r u := hq
    replace hB : Wd g (S r u) μ (vp_updL o 0 (w r)) t.heap := hB
    have e : kM = 0 := h1.symm.trans (hP r u hq.2)
    obtain ⟨e2, a1, hR⟩ := h4 e r u hq.2
    exact ⟨S r u, _, a1, hq.1.trans e.symm, hB, hR, fun _ => by rw [← e2]; exact pk_uLs⟩
theorem hrunL {a : Nat} {σ : Sg} {μ : Mg} (h : Rl a σ μ) : 0 ≤ μ.1 5 → vp_in (μ.1 5) 60 := by
  have ha := h.ha
  intro q
  rcases h.2.2.2.2 with w | ⟨j, hj, w⟩
  · rw [w] at q; exact absurd q (by decide)
  · rw [w]; exact vp_in_nI (by omega) (by omega)
theorem s_nx (t : Nat) : nI (6 * t) + 6 = nI (6 * (t + 1)) := nI_add (6 * t) 6
theorem opL {kk kM k : Int32} {a : Nat} {σ σ2 : Sg} {μ μ2 : Mg} {g : Ge} {o : Nat → Int64} {x : Option (Int32 × Unit)} {t : State} (hF : kk = kM ∧ μ2.1 12 = kM ∧ (¬ kM = 0 → Rl a σ μ2) ∧ (kM = 0 → Rl a σ2 μ2)) (hq : xQ kk (fun (_ : Int32) (_ : Unit) => kk = 0) k x) (hB : xB (fun t => Wd g σ μ o t.heap) (fun (_ : Int32) (_ : Unit) t => Wd g σ2 μ o t.heap) x t) :
    ∃ σ1 : Sg, k = kM ∧ Wd g σ1 μ o t.heap ∧ Rl a σ1 μ2 := by
  obtain ⟨h1, h2, h3, h4⟩ := hF
  rcases x with _ | ⟨r, u⟩
  · replace hq : ¬ k = 0 ∧ kk = k := hq
    replace hB : Wd g σ μ o t.heap := hB
    have e : k = kM := hq.2.symm.trans h1
    exact ⟨σ, e, hB, h3 (fun q => hq.1 (e.trans q))⟩
  · replace hq : k = 0 ∧ kk = 0 := hq
    replace hB : Wd g σ2 μ o t.heap := hB
    have e : kM = 0 := h1.symm.trans hq.2
    exact ⟨σ2, hq.1.trans e.symm, hB, h4 e⟩
