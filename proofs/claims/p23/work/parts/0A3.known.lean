/-! known states, and a call at one -/
def lk (l : List Int32) : Nat → Int32 := fun k => l.getD k 0
def cS (b : List Int32) (e : List (List Int32)) (k d : List Int32) : Sg := (lk b, fun j => lk (e.getD j []), lk k, lk d)
def sEq (σ τ : Sg) : Bool := (List.range 7).all (fun k => decide (σ.1 k = τ.1 k)) && ((List.range 16).all (fun j => (List.range 8).all (fun k => decide (σ.2.1 j k = τ.2.1 j k))) && ((List.range 4).all (fun k => decide (σ.2.2.1 k = τ.2.2.1 k)) && (List.range 12).all (fun k => decide (σ.2.2.2 k = τ.2.2.2 k))))
theorem rall {n : Nat} {P : Nat → Bool} (h : (List.range n).all P = true) : ∀ k, k < n → P k = true := fun k hk => List.all_eq_true.mp h k (List.mem_range.mpr hk)
theorem arrV_ext {cA : ClassId} {n : Nat} {f f' : Nat → Value} (h : ∀ j, j < n → f j = f' j) : arrV cA n f = arrV cA n f' := by
  unfold arrV
  congr 1
  first
    | (apply Array.ext
       · simp
       · intro i h1 h2
         simp at h1 h2 ⊢
         exact h i (by omega))
    | (congr 1
       apply List.map_congr_left
       intro j hj
       exact h j (List.mem_range.mp hj))
theorem Wd_eq {g : Ge} {σ τ : Sg} {μ : Mg} {o : Nat → Int64} {H : Heap} (h : sEq σ τ = true) (hW : Wd g σ μ o H) : Wd g τ μ o H := by
  simp only [sEq, Bool.and_eq_true] at h
  obtain ⟨hB, hE, hK, hD⟩ := h
  have hB := rall hB
  have hE := rall hE
  have hK := rall hK
  have hD := rall hD
  simp only [decide_eq_true_eq] at hB hK hD
  have hE2 : ∀ j, j < 16 → ∀ k, k < 8 → σ.2.1 j k = τ.2.1 j k := fun j hj k hk => by simpa using rall (hE j hj) k hk
  have h1 : H[gA g 3]? = some (arrV (gC g 0) 12 (fun j => .int (σ.2.2.2 j))) := hW.1 3 (gA g 3, .inl (gC g 0, 12, .inl σ.2.2.2)) rfl
  have h2 : H[gA g 3]? = some (arrV (gC g 0) 12 (fun j => .int (τ.2.2.2 j))) := by rw [h1, arrV_ext (f' := fun j => .int (τ.2.2.2 j)) (fun j hj => by rw [hD j hj])]
  have hP1 := hW.1.set (p := 3) (e := .inl (gC g 0, 12, .inl τ.2.2.2)) hW.2 rfl h2 (fun _ _ => rfl)
  have hD1 := hW.2.set (p := 3) (e := .inl (gC g 0, 12, .inl τ.2.2.2)) rfl
  have eB : fB g σ.1 = fB g τ.1 := by simp only [fB]; rw [hB 0 (by omega), hB 1 (by omega), hB 2 (by omega), hB 3 (by omega), hB 4 (by omega), hB 5 (by omega), hB 6 (by omega)]
  have eK : fK g σ.2.2.1 = fK g τ.2.2.1 := by simp only [fK]; rw [hK 0 (by omega), hK 1 (by omega), hK 2 (by omega), hK 3 (by omega)]
  have eE : wEnt g σ.2.1 = wEnt g τ.2.1 := by
    apply List.map_congr_left
    intro j hj
    have q := hE2 j (List.mem_range.mp hj)
    simp only [fE]
    rw [q 0 (by omega), q 1 (by omega), q 2 (by omega), q 3 (by omega), q 4 (by omega), q 5 (by omega), q 6 (by omega), q 7 (by omega)]
  have e : (wWd g σ μ o).set 3 (gA g 3, .inl (gC g 0, 12, .inl τ.2.2.2)) = wWd g τ μ o := by
    unfold wWd wFix
    rw [eB, eK, eE]
    rfl
  rw [e] at hP1 hD1
  exact ⟨hP1, hD1⟩
theorem sEq_r (σ : Sg) : sEq σ σ = true := by simp [sEq]
theorem no_1 {k : Int32} {E a : String} {X : Prop} (h : k = 0) (q : (E = a ∧ k = 1) ∧ X) : False := absurd (h.symm.trans q.1.2) (by decide)
theorem no_2 {k : Int32} {E a b : String} {X : Prop} (h : k = 0) (q : ((E = a ∧ k = 1) ∨ (E = b ∧ k = 2)) ∧ X) : False := q.1.elim (fun q => absurd (h.symm.trans q.2) (by decide)) (fun q => absurd (h.symm.trans q.2) (by decide))
theorem no_3 {k : Int32} {E a b d : String} {X : Prop} (h : k = 0) (q : ((E = a ∧ k = 1) ∨ (E = b ∧ k = 2) ∨ (E = d ∧ k = 3)) ∧ X) : False := q.1.elim (fun q => absurd (h.symm.trans q.2) (by decide)) (fun q => q.elim (fun q => absurd (h.symm.trans q.2) (by decide)) (fun q => absurd (h.symm.trans q.2) (by decide)))
theorem hk0_of {σ : Sg} (h : σ.2.2.1 0 = 0 ∨ σ.2.2.1 0 = 1) : narrow .boolean (.int (σ.2.2.1 0)) = .int (σ.2.2.1 0) := by rcases h with q | q <;> rw [q] <;> rfl
section
variable {p : Program} {l : Launch} {e : Env} {R : Room} {s : State} {m : MethodId} {args : Array Value} {below : List Frame} {meth : Method} {c : Code} {H : Heap} {locs : List Loc} {cells slots : Nat} {Q : State → Prop}
variable {mc ms : Nat} {a : Array Value} {pc : Nat} {ls : Array Slot} {st0 rest : List Value}
/-- a call that may throw, where it doesn't, and its answer and what it leaves are known -/
theorem cOKi {S SX : Type} {post : Int32 → S → Prop} {px : SX → Prop} {B : S → State → Prop} {BX : String → SX → State → Prop} {g : Ge} {v : Int32} {τ : Sg} {μ : Mg} {o : Nat → Int64} (hr : vx_Run p l e R s m args below meth c H locs cells slots mc ms (F0 m pc ls st0) rest (va_Qi post B (Az g) a) (vx_X px BX (Az g)) (Az g)) (hS : va_S (Az g) s.heap H locs)
    (hno : ∀ (E : String) (u : SX) (t : State), BX E u t → False) (hok : ∀ (r : Int32) (u : S) (t : State), post r u → B u t → r = v ∧ Wd g τ μ o t.heap)
    (kk : ∀ (H1 : Heap) (locs1 : List Loc), Wd g τ μ o H1 → va_S (Az g) s.heap H1 locs1 → W p l e R s m args below meth c H1 locs1 (cells + mc) (slots + ms) Q (F0 m (pc + 3) ls (.int v :: rest))) : W p l e R s m args below meth c H locs cells slots Q (F0 m pc ls st0) :=
  vx_calli hr hS (fun _ _ h => h) (fun _ h => h) (fun _ _ h => h) (fun E9 ce q9 u t H1 locs1 ht hvm hpx hbx hz hk hS1 hce hcv hcl => (hno _ _ _ hbx).elim)
    (fun r u t H1 locs1 ht hvm hq hB hz hk hS1 => by
      obtain ⟨rfl, hW⟩ := hok r u t hq hB
      exact kk H1 locs1 (by rw [← ht]; exact hW) hS1)
end
def ck_choose (σ : Sg) (n : Int32) (v : Int32) (τ : Sg) : Bool := decide (kCh σ n = 0) && (decide (σ.1 1 = v) && sEq (upd σ.1 1 n, σ.2) τ)
theorem ok_choose {g : Ge} {σ τ : Sg} {μ : Mg} {o : Nat → Int64} {n : Int32} {v : Int32} (h : ck_choose σ n v τ = true) : kCh σ n = 0 ∧ ∀ (r : Int32) (u : Unit) (t : State), (kCh σ n = 0 ∧ r = σ.1 1) → Wd g (upd σ.1 1 n, σ.2) μ o t.heap → r = v ∧ Wd g τ μ o t.heap := by
  simp only [ck_choose, Bool.and_eq_true, decide_eq_true_eq] at h
  obtain ⟨h0, h1, h2⟩ := h
  exact ⟨h0, fun r u t hq hW => ⟨hq.2.trans h1, Wd_eq h2 hW⟩⟩
def ck_chooseOnce (σ : Sg) (n : Int32) (v : Int32) (τ : Sg) : Bool := decide (kCo σ n = 0) && (decide (σ.1 2 = v) && sEq (upd σ.1 2 n, σ.2) τ)
theorem ok_chooseOnce {g : Ge} {σ τ : Sg} {μ : Mg} {o : Nat → Int64} {n : Int32} {v : Int32} (h : ck_chooseOnce σ n v τ = true) : kCo σ n = 0 ∧ ∀ (r : Int32) (u : Unit) (t : State), (kCo σ n = 0 ∧ r = σ.1 2) → Wd g (upd σ.1 2 n, σ.2) μ o t.heap → r = v ∧ Wd g τ μ o t.heap := by
  simp only [ck_chooseOnce, Bool.and_eq_true, decide_eq_true_eq] at h
  obtain ⟨h0, h1, h2⟩ := h
  exact ⟨h0, fun r u t hq hW => ⟨hq.2.trans h1, Wd_eq h2 hW⟩⟩
def ck_setPattern (σ : Sg) (a b : Int32) (v : Int32) (τ : Sg) : Bool := decide (kPa σ a b = 0) && (decide (nI (ct (pF (upd (upd σ.1 3 a) 4 b, σ.2)) 16) = v) && sEq (upd (upd σ.1 3 a) 4 b, σ.2) τ)
theorem ok_setPattern {g : Ge} {σ τ : Sg} {μ : Mg} {o : Nat → Int64} {a b : Int32} {v : Int32} (h : ck_setPattern σ a b v τ = true) : kPa σ a b = 0 ∧ ∀ (r : Int32) (u : Unit) (t : State), (kPa σ a b = 0 ∧ r = nI (ct (pF (upd (upd σ.1 3 a) 4 b, σ.2)) 16)) → Wd g (upd (upd σ.1 3 a) 4 b, σ.2) μ o t.heap → r = v ∧ Wd g τ μ o t.heap := by
  simp only [ck_setPattern, Bool.and_eq_true, decide_eq_true_eq] at h
  obtain ⟨h0, h1, h2⟩ := h
  exact ⟨h0, fun r u t hq hW => ⟨hq.2.trans h1, Wd_eq h2 hW⟩⟩
def ck_add (σ : Sg) (kind name ver mark tr : Int32) (v : Int32) (τ : Sg) : Bool := decide (kAdd σ kind name ver mark tr = 0) && oel (fs (frP σ.2.1) 16) (fun u => decide (σ.1 0 = v) && sEq (upd σ.1 0 (σ.1 0 + 1), up2 σ.2.1 u (flE (σ.2.1 u) (σ.1 0) kind name ver mark tr), σ.2.2) τ) false
theorem ok_add {g : Ge} {σ τ : Sg} {μ : Mg} {o : Nat → Int64} {kind name ver mark tr : Int32} {v : Int32} (h : ck_add σ kind name ver mark tr v τ = true) : kAdd σ kind name ver mark tr = 0 ∧ ∀ (r : Int32) (u : Nat) (t : State), (kAdd σ kind name ver mark tr = 0 ∧ fs (frP σ.2.1) 16 = some u ∧ r = σ.1 0) → Wd g (upd σ.1 0 (σ.1 0 + 1), up2 σ.2.1 u (flE (σ.2.1 u) (σ.1 0) kind name ver mark tr), σ.2.2) μ o t.heap → r = v ∧ Wd g τ μ o t.heap := by
  simp only [ck_add, Bool.and_eq_true, decide_eq_true_eq] at h
  obtain ⟨h0, h1⟩ := h
  refine ⟨h0, fun r u t hq hW => ?_⟩
  obtain ⟨-, q1, q2⟩ := hq
  rw [q1, oel_s] at h1
  rw [Bool.and_eq_true] at h1
  exact ⟨q2.trans (of_decide_eq_true h1.1), Wd_eq h1.2 hW⟩
def ck_at (σ : Sg) (pl : Int32) (v : Int32) : Bool := decide (kAt σ pl = 0) && oel (fs (pP σ.2.1 pl) 16) (fun u => decide (σ.2.1 u 1 = v)) false
theorem ok_at {g : Ge} {σ : Sg} {μ : Mg} {o : Nat → Int64} {pl : Int32} {v : Int32} (h : ck_at σ pl v = true) : kAt σ pl = 0 ∧ ∀ (r : Int32) (u : Nat) (t : State), (kAt σ pl = 0 ∧ fs (pP σ.2.1 pl) 16 = some u ∧ r = σ.2.1 u 1) → Wd g σ μ o t.heap → r = v ∧ Wd g σ μ o t.heap := by
  simp only [ck_at, Bool.and_eq_true, decide_eq_true_eq] at h
  obtain ⟨h0, h1⟩ := h
  refine ⟨h0, fun r u t hq hW => ?_⟩
  obtain ⟨-, q1, q2⟩ := hq
  rw [q1, oel_s] at h1
  exact ⟨q2.trans (of_decide_eq_true h1), hW⟩
def ck_placeOf (σ : Sg) (n : Int32) (v : Int32) : Bool := decide (kRem σ n = 0) && oel (fs (pN σ.2.1 n) 16) (fun u => decide (nI (ct (pA σ.2.1 u) 16) = v)) false
theorem ok_placeOf {g : Ge} {σ : Sg} {μ : Mg} {o : Nat → Int64} {n : Int32} {v : Int32} (h : ck_placeOf σ n v = true) : kRem σ n = 0 ∧ ∀ (r : Int32) (u : Nat) (t : State), (kRem σ n = 0 ∧ fs (pN σ.2.1 n) 16 = some u ∧ r = nI (ct (pA σ.2.1 u) 16)) → Wd g σ μ o t.heap → r = v ∧ Wd g σ μ o t.heap := by
  simp only [ck_placeOf, Bool.and_eq_true, decide_eq_true_eq] at h
  obtain ⟨h0, h1⟩ := h
  refine ⟨h0, fun r u t hq hW => ?_⟩
  obtain ⟨-, q1, q2⟩ := hq
  rw [q1, oel_s] at h1
  exact ⟨q2.trans (of_decide_eq_true h1), hW⟩
def ck_compare (σ : Sg) (a b : Int32) (v : Int32) : Bool := decide (kCm σ a b = 0) && oel (fs (pN σ.2.1 a) 16) (fun x => oel (fs (pN σ.2.1 b) 16) (fun y => decide (cv (σ.2.1 x) (σ.2.1 y) = v)) false) false
theorem ok_compare {g : Ge} {σ : Sg} {μ : Mg} {o : Nat → Int64} {a b : Int32} {v : Int32} (h : ck_compare σ a b v = true) : kCm σ a b = 0 ∧ ∀ (r : Int32) (u : Nat × Nat) (t : State), (kCm σ a b = 0 ∧ fs (pN σ.2.1 a) 16 = some u.1 ∧ fs (pN σ.2.1 b) 16 = some u.2 ∧ r = cv (σ.2.1 u.1) (σ.2.1 u.2)) → Wd g σ μ o t.heap → r = v ∧ Wd g σ μ o t.heap := by
  simp only [ck_compare, Bool.and_eq_true, decide_eq_true_eq] at h
  obtain ⟨h0, h1⟩ := h
  refine ⟨h0, fun r u t hq hW => ⟨?_, hW⟩⟩
  obtain ⟨-, q1, q2, q3⟩ := hq
  rw [q1, oel_s, q2, oel_s] at h1
  exact q3.trans (of_decide_eq_true h1)
def ck_tries (σ : Sg) (n : Int32) (v : Int32) : Bool := decide (kRem σ n = 0) && oel (fs (pN σ.2.1 n) 16) (fun u => decide (σ.2.1 u 7 = v)) false
theorem ok_tries {g : Ge} {σ : Sg} {μ : Mg} {o : Nat → Int64} {n : Int32} {v : Int32} (h : ck_tries σ n v = true) : kRem σ n = 0 ∧ ∀ (r : Int32) (u : Nat) (t : State), (kRem σ n = 0 ∧ fs (pN σ.2.1 n) 16 = some u ∧ r = σ.2.1 u 7) → Wd g σ μ o t.heap → r = v ∧ Wd g σ μ o t.heap := by
  simp only [ck_tries, Bool.and_eq_true, decide_eq_true_eq] at h
  obtain ⟨h0, h1⟩ := h
  refine ⟨h0, fun r u t hq hW => ?_⟩
  obtain ⟨-, q1, q2⟩ := hq
  rw [q1, oel_s] at h1
  exact ⟨q2.trans (of_decide_eq_true h1), hW⟩
def ck_foretold (σ : Sg) (n : Int32) (v : Int32) : Bool := decide (kRem σ n = 0) && oel (fs (pN σ.2.1 n) 16) (fun u => decide (mz (σ.2.2.1 0) (σ.2.1 u) = v)) false
theorem ok_foretold {g : Ge} {σ : Sg} {μ : Mg} {o : Nat → Int64} {n : Int32} {v : Int32} (h : ck_foretold σ n v = true) : kRem σ n = 0 ∧ ∀ (r : Int32) (u : Nat) (t : State), (kRem σ n = 0 ∧ fs (pN σ.2.1 n) 16 = some u ∧ r = mz (σ.2.2.1 0) (σ.2.1 u)) → Wd g σ μ o t.heap → r = v ∧ Wd g σ μ o t.heap := by
  simp only [ck_foretold, Bool.and_eq_true, decide_eq_true_eq] at h
  obtain ⟨h0, h1⟩ := h
  refine ⟨h0, fun r u t hq hW => ?_⟩
  obtain ⟨-, q1, q2⟩ := hq
  rw [q1, oel_s] at h1
  exact ⟨q2.trans (of_decide_eq_true h1), hW⟩
def ck_start (σ : Sg) (v : Int32) (τ : Sg) : Bool := decide (kSt σ = 0) && oel (nx σ) (fun u => decide (σ.2.1 u 1 = v) && sEq (upd (upd (upd σ.1 6 (mz (σ.2.2.1 0) (σ.2.1 u))) 2 (-1)) 5 (σ.2.1 u 1), up2 σ.2.1 u (us1 (σ.2.1 u)), upd σ.2.2.1 3 0, σ.2.2.2) τ) false
theorem ok_start {g : Ge} {σ τ : Sg} {μ : Mg} {o : Nat → Int64} {v : Int32} (h : ck_start σ v τ = true) : kSt σ = 0 ∧ ∀ (r : Int32) (u : Nat) (t : State), (kSt σ = 0 ∧ nx σ = some u ∧ r = σ.2.1 u 1) → Wd g (upd (upd (upd σ.1 6 (mz (σ.2.2.1 0) (σ.2.1 u))) 2 (-1)) 5 (σ.2.1 u 1), up2 σ.2.1 u (us1 (σ.2.1 u)), upd σ.2.2.1 3 0, σ.2.2.2) μ o t.heap → r = v ∧ Wd g τ μ o t.heap := by
  simp only [ck_start, Bool.and_eq_true, decide_eq_true_eq] at h
  obtain ⟨h0, h1⟩ := h
  refine ⟨h0, fun r u t hq hW => ?_⟩
  obtain ⟨-, q1, q2⟩ := hq
  rw [q1, oel_s] at h1
  rw [Bool.and_eq_true] at h1
  exact ⟨q2.trans (of_decide_eq_true h1.1), Wd_eq h1.2 hW⟩
def ck_good (σ : Sg) (v : Int32) (τ : Sg) : Bool := decide (kGo σ = 0) && (decide (goR σ = v) && sEq (σ.1, goE σ, σ.2.2) τ)
theorem ok_good {g : Ge} {σ τ : Sg} {μ : Mg} {o : Nat → Int64} {v : Int32} (h : ck_good σ v τ = true) : kGo σ = 0 ∧ ∀ (r : Int32) (u : Unit) (t : State), (kGo σ = 0 ∧ r = goR σ) → Wd g (σ.1, goE σ, σ.2.2) μ o t.heap → r = v ∧ Wd g τ μ o t.heap := by
  simp only [ck_good, Bool.and_eq_true, decide_eq_true_eq] at h
  obtain ⟨h0, h1, h2⟩ := h
  exact ⟨h0, fun r u t hq hW => ⟨hq.2.trans h1, Wd_eq h2 hW⟩⟩
def ck_remove (σ : Sg) (n : Int32) (v : Int32) (τ : Sg) : Bool := decide (kRem σ n = 0) && oel (fs (pN σ.2.1 n) 16) (fun u => decide (nI (ct (thr (up2 σ.2.1 u (upd (σ.2.1 u) 0 0))) 16) = v) && sEq (σ.1, up2 σ.2.1 u (upd (σ.2.1 u) 0 0), σ.2.2) τ) false
theorem ok_remove {g : Ge} {σ τ : Sg} {μ : Mg} {o : Nat → Int64} {n : Int32} {v : Int32} (h : ck_remove σ n v τ = true) : kRem σ n = 0 ∧ ∀ (r : Int32) (u : Nat) (t : State), (kRem σ n = 0 ∧ fs (pN σ.2.1 n) 16 = some u ∧ r = nI (ct (thr (up2 σ.2.1 u (upd (σ.2.1 u) 0 0))) 16)) → Wd g (σ.1, up2 σ.2.1 u (upd (σ.2.1 u) 0 0), σ.2.2) μ o t.heap → r = v ∧ Wd g τ μ o t.heap := by
  simp only [ck_remove, Bool.and_eq_true, decide_eq_true_eq] at h
  obtain ⟨h0, h1⟩ := h
  refine ⟨h0, fun r u t hq hW => ?_⟩
  obtain ⟨-, q1, q2⟩ := hq
  rw [q1, oel_s] at h1
  rw [Bool.and_eq_true] at h1
  exact ⟨q2.trans (of_decide_eq_true h1.1), Wd_eq h1.2 hW⟩
def ck_edit (σ : Sg) (n opt : Int32) (v : Int32) (τ : Sg) : Bool := decide (kEd σ n opt = 0) && oel (fs (pN σ.2.1 n) 16) (fun u => decide (σ.2.1 u 6 = v) && sEq (σ.1, up2 σ.2.1 u (upd (σ.2.1 u) 6 opt), σ.2.2) τ) false
theorem ok_edit {g : Ge} {σ τ : Sg} {μ : Mg} {o : Nat → Int64} {n opt : Int32} {v : Int32} (h : ck_edit σ n opt v τ = true) : kEd σ n opt = 0 ∧ ∀ (r : Int32) (u : Nat) (t : State), (kEd σ n opt = 0 ∧ fs (pN σ.2.1 n) 16 = some u ∧ r = σ.2.1 u 6) → Wd g (σ.1, up2 σ.2.1 u (upd (σ.2.1 u) 6 opt), σ.2.2) μ o t.heap → r = v ∧ Wd g τ μ o t.heap := by
  simp only [ck_edit, Bool.and_eq_true, decide_eq_true_eq] at h
  obtain ⟨h0, h1⟩ := h
  refine ⟨h0, fun r u t hq hW => ?_⟩
  obtain ⟨-, q1, q2⟩ := hq
  rw [q1, oel_s] at h1
  rw [Bool.and_eq_true] at h1
  exact ⟨q2.trans (of_decide_eq_true h1.1), Wd_eq h1.2 hW⟩
def ck_enter (σ : Sg) (d : Int32) (en cl : Nat) (v : Int32) (τ : Sg) : Bool := decide (σ.2.2.1 3 = nI en) && (decide (σ.2.2.1 2 = nI cl) && (decide (en ≤ 12) && (decide (cl ≤ 12) && (decide (kEn σ d = 0) && (decide (bI (ec (upd σ.2.2.2 en d) (en + 1) cl (σ.2.2.1 1)) = v) && sEq (σ.1, σ.2.1, upd (upd σ.2.2.1 3 (σ.2.2.1 3 + 1)) 0 (bI (!ec (upd σ.2.2.2 en d) (en + 1) cl (σ.2.2.1 1))), upd σ.2.2.2 en d) τ)))))
theorem ok_enter {g : Ge} {σ τ : Sg} {μ : Mg} {o : Nat → Int64} {d : Int32} {en cl : Nat} {v : Int32} (h : ck_enter σ d en cl v τ = true) : (σ.2.2.1 3 = nI en ∧ σ.2.2.1 2 = nI cl ∧ en ≤ 12 ∧ cl ≤ 12) ∧ kEn σ d = 0 ∧ ∀ (r : Int32) (u : Unit) (t : State), (kEn σ d = 0 ∧ r = bI (ec (upd σ.2.2.2 en d) (en + 1) cl (σ.2.2.1 1))) → Wd g (σ.1, σ.2.1, upd (upd σ.2.2.1 3 (σ.2.2.1 3 + 1)) 0 (bI (!ec (upd σ.2.2.2 en d) (en + 1) cl (σ.2.2.1 1))), upd σ.2.2.2 en d) μ o t.heap → r = v ∧ Wd g τ μ o t.heap := by
  simp only [ck_enter, Bool.and_eq_true, decide_eq_true_eq] at h
  obtain ⟨e1, e2, e3, e4, h0, h1, h2⟩ := h
  exact ⟨⟨e1, e2, e3, e4⟩, h0, fun r u t hq hW => ⟨hq.2.trans h1, Wd_eq h2 hW⟩⟩
def ck_lockS (σ : Sg) (code many : Int32) (τ : Sg) : Bool := decide (kLo σ code many = 0) && sEq (σ.1, σ.2.1, upd (upd (upd (upd σ.2.2.1 0 1) 1 code) 2 many) 3 0, σ.2.2.2) τ
/-- where refuses holds: with the lock's numbers -/
def ck_ref (σ : Sg) (here gone : Int32) (en cl : Nat) : Bool := decide (σ.2.2.1 3 = nI en) && (decide (σ.2.2.1 2 = nI cl) && (decide (en ≤ 12) && (decide (cl ≤ 12) && RFb σ here gone)))
theorem ok_ref {σ : Sg} {here gone : Int32} {en cl : Nat} (h : ck_ref σ here gone en cl = true) : σ.2.2.1 3 = nI en ∧ σ.2.2.1 2 = nI cl ∧ en ≤ 12 ∧ cl ≤ 12 ∧ RFb σ here gone = true := by
  simp only [ck_ref, Bool.and_eq_true, decide_eq_true_eq] at h
  obtain ⟨e1, e2, e3, e4, h0⟩ := h
  exact ⟨e1, e2, e3, e4, h0⟩
/-- order's eight answers -/
def ck_order (σ : Sg) (a b c d : Int32) : Bool := ck_at σ 0 a && (ck_at σ 1 b && (ck_at σ 2 c && (ck_at σ 3 d && (ck_placeOf σ a 0 && (ck_placeOf σ b 1 && (ck_placeOf σ c 2 && ck_placeOf σ d 3))))))
theorem ok_order {σ : Sg} {a b c d : Int32} (h : ck_order σ a b c d = true) : ck_at σ 0 a = true ∧ ck_at σ 1 b = true ∧ ck_at σ 2 c = true ∧ ck_at σ 3 d = true ∧ ck_placeOf σ a 0 = true ∧ ck_placeOf σ b 1 = true ∧ ck_placeOf σ c 2 = true ∧ ck_placeOf σ d 3 = true := by
  simp only [ck_order, Bool.and_eq_true] at h
  obtain ⟨a1, a2, a3, a4, a5, a6, a7, a8⟩ := h
  exact ⟨a1, a2, a3, a4, a5, a6, a7, a8⟩
