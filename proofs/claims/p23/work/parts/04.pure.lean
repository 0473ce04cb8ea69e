/-! what the chooser's methods compute, as functions of its value -/
theorem bI_nar (b : Bool) : narrow .boolean (.int (bI b)) = .int (bI b) := by cases b <;> rfl
theorem bI_fit (b : Bool) : fits .boolean (.int (bI b)) = true := by cases b <;> rfl
theorem bI_inj {a b : Bool} : bI a = bI b ↔ a = b := by cases a <;> cases b <;> simp [bI]
theorem bI_n0 {b : Bool} : ¬ bI b = 0 ↔ b = true := by cases b <;> simp [bI]
def wi (a lo hi : Int32) : Bool := !decide (a < lo) && !decide (hi < a)
def icp (x y : Int32) : Int32 := if y ≤ x then (if x = y then 0 else 1) else -1
def fs (P : Nat → Bool) : Nat → Option Nat
  | 0 => none
  | n + 1 => match fs P n with
    | some j => some j
    | none => if P n then some n else none
theorem fs_lt {P : Nat → Bool} {j : Nat} : ∀ {n : Nat}, fs P n = some j → j < n ∧ P j = true ∧ ∀ i, i < j → P i = false := by
  intro n
  induction n with
  | zero => intro h; simp [fs] at h
  | succ n ih =>
    intro h
    have key : fs P n = none → ∀ i, i < n → P i = false := by
      clear h ih
      induction n with
      | zero => intro _ i hi; omega
      | succ n ih =>
        intro h i hi
        simp only [fs] at h
        cases hq : fs P n with
        | some k => simp [hq] at h
        | none =>
          rw [hq] at h
          by_cases hp : P n = true
          · simp [hp] at h
          · rcases Nat.lt_or_ge i n with q | q
            · exact ih hq i q
            · have : i = n := by omega
              subst this
              simpa using hp
    simp only [fs] at h
    cases hq : fs P n with
    | some k =>
      rw [hq] at h
      have := ih (hq.trans h)
      exact ⟨by omega, this.2⟩
    | none =>
      rw [hq] at h
      by_cases hp : P n = true
      · simp [hp] at h
        subst h
        exact ⟨by omega, hp, key hq⟩
      · simp [hp] at h
theorem fs_no {P : Nat → Bool} : ∀ {n : Nat}, fs P n = none → ∀ i, i < n → P i = false := by
  intro n
  induction n with
  | zero => intro _ i hi; omega
  | succ n ih =>
    intro h i hi
    simp only [fs] at h
    cases hq : fs P n with
    | some k => simp [hq] at h
    | none =>
      rw [hq] at h
      by_cases hp : P n = true
      · simp [hp] at h
      · rcases Nat.lt_or_ge i n with q | q
        · exact ih hq i q
        · have : i = n := by omega
          subst this
          simpa using hp
theorem fs_16 {P : Nat → Bool} {j : Nat} (h : fs P 16 = some j) : j < 16 := (fs_lt h).1
theorem fs_keep {P : Nat → Bool} {j n : Nat} (h : fs P n = some j) : ∀ k, fs P (n + k) = some j := by
  intro k
  induction k with
  | zero => exact h
  | succ k ih => show fs P ((n + k) + 1) = _; simp [fs, ih]
theorem fs_step {P : Nat → Bool} {i : Nat} (h : fs P i = none) (hp : P i = false) : fs P (i + 1) = none := by simp [fs, h, hp]
theorem fs_hit {P : Nat → Bool} {i n : Nat} (h : fs P i = none) (hp : P i = true) (hi : i < n) : fs P n = some i := by
  have h1 : fs P (i + 1) = some i := by simp [fs, h, hp]
  have := fs_keep h1 (n - (i + 1))
  rwa [show i + 1 + (n - (i + 1)) = n by omega] at this
def ct (P : Nat → Bool) : Nat → Nat
  | 0 => 0
  | n + 1 => ct P n + (if P n then 1 else 0)
theorem ct_t {P : Nat → Bool} {n : Nat} (h : P n = true) : ct P (n + 1) = ct P n + 1 := by simp [ct, h]
theorem ct_f {P : Nat → Bool} {n : Nat} (h : P n = false) : ct P (n + 1) = ct P n := by simp [ct, h]
theorem ct_le (P : Nat → Bool) : ∀ n, ct P n ≤ n
  | 0 => Nat.le_refl 0
  | n + 1 => by have := ct_le P n; simp only [ct]; split <;> omega
theorem ct_cong {P R : Nat → Bool} : ∀ {n : Nat}, (∀ i, i < n → P i = R i) → ct P n = ct R n
  | 0, _ => rfl
  | n + 1, h => by simp only [ct]; rw [ct_cong (fun i hi => h i (by omega)), h n (by omega)]
/-- a row is in use -/
def thr (E : Nat → Nat → Int32) (j : Nat) : Bool := !decide (E j 0 = 0)
def frP (E : Nat → Nat → Int32) (j : Nat) : Bool := decide (E j 0 = 0)
def pN (E : Nat → Nat → Int32) (n : Int32) (j : Nat) : Bool := thr E j && decide (E j 1 = n)
def bad (e : Nat → Int32) : Bool := decide (e 7 = 0)
def cv (a b : Nat → Int32) : Int32 := if a 4 = b 4 then icp (a 5) (b 5) else if a 4 ≤ b 4 then -1 else 1
def ah (a b : Nat → Int32) : Bool :=
  if bI (bad a) = bI (bad b) then
    if a 2 = b 2 then
      if cv a b = 0 then
        if a 3 = b 3 then !decide (b 1 ≤ a 1) else !decide (b 3 ≤ a 3)
      else !decide (cv a b ≤ 0)
    else !decide (b 2 ≤ a 2)
  else bad b
def fit (B : Nat → Int32) (e : Nat → Int32) : Bool := wi (e 3) (B 3) (B 4)
def pF (σ : Sg) (j : Nat) : Bool := thr σ.2.1 j && fit σ.1 (σ.2.1 j)
def pA (E : Nat → Nat → Int32) (j i : Nat) : Bool := thr E i && ah (E i) (E j)
def pP (E : Nat → Nat → Int32) (pl : Int32) (j : Nat) : Bool := thr E j && decide (nI (ct (pA E j) 16) = pl)
def pC (σ : Sg) (j : Nat) : Bool := thr σ.2.1 j && (fit σ.1 (σ.2.1 j) && !bad (σ.2.1 j))
def fb (E : Nat → Nat → Int32) (n : Nat) : Option Nat → Bool
  | none => true
  | some b => ah (E n) (E b)
def ff (E : Nat → Nat → Int32) (C : Nat → Bool) : Nat → Option Nat
  | 0 => none
  | n + 1 => if (C n && fb E n (ff E C n)) = true then some n else ff E C n
theorem ff_t {E : Nat → Nat → Int32} {C : Nat → Bool} {n : Nat} (h : (C n && fb E n (ff E C n)) = true) : ff E C (n + 1) = some n := by simp only [ff]; rw [if_pos h]
theorem ff_f {E : Nat → Nat → Int32} {C : Nat → Bool} {n : Nat} (h : (C n && fb E n (ff E C n)) = false) : ff E C (n + 1) = ff E C n := by simp only [ff]; rw [if_neg (by rw [h]; decide)]
theorem ff_lt {E : Nat → Nat → Int32} {C : Nat → Bool} {j : Nat} : ∀ {n : Nat}, ff E C n = some j → j < n := by
  intro n
  induction n with
  | zero => intro h; simp [ff] at h
  | succ n ih =>
    intro h
    cases hb : (C n && fb E n (ff E C n)) with
    | true => rw [ff_t hb] at h; cases h; omega
    | false => rw [ff_f hb] at h; have := ih h; omega
theorem ff_16 {E : Nat → Nat → Int32} {C : Nat → Bool} {j : Nat} (h : ff E C 16 = some j) : j < 16 := ff_lt h
def oel {β : Type} (o : Option Nat) (f : Nat → β) (d : β) : β := match o with
  | some j => f j
  | none => d
theorem oel_s {β : Type} {j : Nat} {f : Nat → β} {d : β} : oel (some j) f d = f j := rfl
theorem oel_n {β : Type} {f : Nat → β} {d : β} : oel none f d = d := rfl
def nx2 (σ : Sg) : Option Nat := oel (ff σ.2.1 (pC σ) 16) some (fs (pP σ.2.1 0) 16)
def nx (σ : Sg) : Option Nat := oel (fs (pN σ.2.1 (σ.1 2)) 16) some (oel (fs (pN σ.2.1 (σ.1 1)) 16) (fun j => if bad (σ.2.1 j) = true then nx2 σ else some j) (nx2 σ))
theorem nx2_16 {σ : Sg} {j : Nat} (h : nx2 σ = some j) : j < 16 := by
  rw [nx2] at h
  cases hk : ff σ.2.1 (pC σ) 16 with
  | some k => rw [hk, oel_s] at h; cases h; exact ff_16 hk
  | none => rw [hk, oel_n] at h; exact fs_16 h
theorem nx_16 {σ : Sg} {j : Nat} (h : nx σ = some j) : j < 16 := by
  rw [nx] at h
  cases hk : fs (pN σ.2.1 (σ.1 2)) 16 with
  | some k => rw [hk, oel_s] at h; cases h; exact fs_16 hk
  | none =>
    rw [hk, oel_n] at h
    cases hk2 : fs (pN σ.2.1 (σ.1 1)) 16 with
    | none => rw [hk2, oel_n] at h; exact nx2_16 h
    | some k =>
      rw [hk2, oel_s] at h
      by_cases hb : bad (σ.2.1 k) = true
      · rw [if_pos hb] at h; exact nx2_16 h
      · rw [if_neg hb] at h; cases h; exact fs_16 hk2
def sp (v n : Int32) : Int32 := v * 31 + n + 7 - (v * 31 + n + 7) / 1000003 * 1000003
def rm (x y : Int32) : Int32 := x - x / y * y
def mz (k : Int32) (e : Nat → Int32) : Int32 := sp (sp (sp (sp (sp (sp (sp (sp 0 (if k = 0 then 0 else 1)) (e 2)) (e 4 / 1000000)) (rm (e 4 / 1000) 1000)) (rm (e 4) 1000)) (e 5)) (e 3)) (e 6)
/-- the value of n digits from place a on -/
def vl (G : Nat → Int32) (a : Nat) : Nat → Int32
  | 0 => 0
  | n + 1 => vl G a n * 10 + G (a + n)
def ec (G : Nat → Int32) (en cl : Nat) (code : Int32) : Bool := decide (cl ≤ en) && decide (vl G (en - cl) cl = code)
theorem Wd_up {g : Ge} {σ : Sg} {μ : Mg} {o : Nat → Int64} {H : Heap} {t : State} (hW : Wd g σ μ o H) (hz : H.size ≤ t.heap.size) (hq : ∀ q : Nat, q < H.size → t.heap[q]? = H[q]?) : Wd g σ μ o t.heap := ⟨hW.1.kept (fun k q hk => hq q.1 ((hW.1 k q hk).lt)), hW.2⟩
theorem va_F_up {A : Nat → Prop} {s t : State} {H : Heap} {locs : List Loc} (hS : va_S A s.heap H locs) (hz : H.size ≤ t.heap.size) (hq : ∀ q : Nat, q < H.size → t.heap[q]? = H[q]?) : va_F A s t := ⟨Nat.le_trans hS.1 hz, fun q h1 h2 => (hq q (Nat.lt_of_lt_of_le h1 hS.1)).trans (hS.2.1 q h1 h2)⟩
theorem nI16_le {i : Nat} (h : i ≤ 16) : ((16 : Int32) ≤ nI i) ↔ i = 16 := by
  rw [show (16 : Int32) = nI 16 from rfl, nI_leI (by omega) (by omega)]; omega
theorem nI16_le_n {i : Nat} (h : i ≤ 16) : ¬ ((16 : Int32) ≤ nI i) ↔ i < 16 := by
  rw [nI16_le h]; omega
