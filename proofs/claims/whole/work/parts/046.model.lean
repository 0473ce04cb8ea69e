/-! what the model's methods compute; a: how many entries it has ever had (μ.1 0 = nI a) -/
def thM (μ : Mg) (k : Nat) : Bool := !decide (μ.2 0 k = 0)
def mt (μ : Mg) (e : Int32) : Bool := wi e 0 (μ.1 0 - 1) && !decide (μ.2 0 e.toNatClampNeg = 0)
theorem wi_in {x : Int32} {a : Nat} {M : Int32} (hM : M = nI a) (ha : a ≤ 60) (h : wi x 0 (M - 1) = true) : ∃ n : Nat, n < a ∧ x = nI n := by
  simp only [wi, Bool.and_eq_true, Bool.not_eq_true', decide_eq_false_iff_not] at h
  obtain ⟨h1, h2⟩ := h
  subst hM
  obtain ⟨n, hn, rfl⟩ := nI_of h1
  refine ⟨n, ?_, rfl⟩
  rcases Nat.eq_zero_or_pos a with h0 | h0
  · subst h0
    exact absurd (by
      rw [Int32.lt_iff_toInt_lt, nI_toInt hn]
      have : (nI 0 - 1).toInt = -1 := by decide
      rw [this]; omega) h2
  · have e : nI a - 1 = nI (a - 1) := pk_sub h0
    rw [e, nI_ltI (by omega) hn] at h2
    omega
theorem in60 {x : Int32} {a : Nat} {M : Int32} (hM : M = nI a) (ha : a ≤ 60) (h : wi x 0 (M - 1) = true) : vp_in x 60 := by
  obtain ⟨n, hn, rfl⟩ := wi_in hM ha h
  exact vp_in_nI (by omega) (by omega)
theorem mt_wi {μ : Mg} {e : Int32} (h : mt μ e = true) : wi e 0 (μ.1 0 - 1) = true := by
  simp only [mt, Bool.and_eq_true] at h; exact h.1
theorem mt_in {μ : Mg} {a : Nat} {e : Int32} (hM : μ.1 0 = nI a) (ha : a ≤ 60) (h : mt μ e = true) : vp_in e 60 := in60 hM ha (mt_wi h)
def fitM (μ : Mg) (x : Int32) : Bool := wi (μ.2 2 x.toNatClampNeg) (μ.1 3) (μ.1 4)
def sgI (v : Int32) : Int32 := if v ≤ 0 then (if 0 ≤ v then 0 else -1) else 1
def cmM (F : Nat → Nat → Int32) (x y : Int32) : Int32 := sgI (if F 3 x.toNatClampNeg - F 3 y.toNatClampNeg = 0 then F 4 x.toNatClampNeg - F 4 y.toNatClampNeg else F 3 x.toNatClampNeg - F 3 y.toNatClampNeg)
def ahM (F : Nat → Nat → Int32) (x y : Int32) : Bool :=
  if (F 5 x.toNatClampNeg = 0 ↔ F 5 y.toNatClampNeg = 0) then
    if F 1 x.toNatClampNeg = F 1 y.toNatClampNeg then
      if cmM F x y = 0 then
        if F 2 x.toNatClampNeg = F 2 y.toNatClampNeg then !decide (y ≤ x) else !decide (F 2 y.toNatClampNeg ≤ F 2 x.toNatClampNeg)
      else !decide (cmM F x y ≤ 0)
    else !decide (F 1 y.toNatClampNeg ≤ F 1 x.toNatClampNeg)
  else !decide (F 5 x.toNatClampNeg = 0)
def plP (μ : Mg) (e : Int32) (k : Nat) : Bool := thM μ k && (!decide (nI k = e) && ahM μ.2 (nI k) e)
def canM (μ : Mg) (b : Bool) (k : Nat) : Bool := thM μ k && (b || (fitM μ (nI k) && !decide (μ.2 5 k = 0)))
def mfb (A : Nat → Nat → Bool) (n : Nat) : Option Nat → Bool
  | none => true
  | some b => A n b
def mf (A : Nat → Nat → Bool) (C : Nat → Bool) : Nat → Option Nat
  | 0 => none
  | n + 1 => if (C n && mfb A n (mf A C n)) = true then some n else mf A C n
theorem mf_t {A : Nat → Nat → Bool} {C : Nat → Bool} {n : Nat} (h : (C n && mfb A n (mf A C n)) = true) : mf A C (n + 1) = some n := by simp only [mf]; rw [if_pos h]
theorem mf_f {A : Nat → Nat → Bool} {C : Nat → Bool} {n : Nat} (h : (C n && mfb A n (mf A C n)) = false) : mf A C (n + 1) = mf A C n := by simp only [mf]; rw [if_neg (by rw [h]; decide)]
theorem mf_lt {A : Nat → Nat → Bool} {C : Nat → Bool} {j : Nat} : ∀ {n : Nat}, mf A C n = some j → j < n := by
  intro n
  induction n with
  | zero => intro h; simp [mf] at h
  | succ n ih =>
    intro h
    cases hb : (C n && mfb A n (mf A C n)) with
    | true => rw [mf_t hb] at h; cases h; omega
    | false => rw [mf_f hb] at h; have := ih h; omega
def oI (r : Option Nat) : Int32 := oel r nI (-1)
theorem oI_n : oI none = -1 := rfl
theorem oI_s {b : Nat} : oI (some b) = nI b := rfl
def aM (F : Nat → Nat → Int32) (n b : Nat) : Bool := ahM F (nI n) (nI b)
def fstM (μ : Mg) (b : Bool) (a : Nat) : Option Nat := mf (aM μ.2) (canM μ b) a
def chM (μ : Mg) (a : Nat) : Int32 := if mt μ (μ.1 2) = true then μ.1 2 else if mt μ (μ.1 1) = true then (if μ.2 5 (μ.1 1).toNatClampNeg = 0 then (if 0 ≤ oI (fstM μ false a) then oI (fstM μ false a) else oI (fstM μ true a)) else μ.1 1) else (if 0 ≤ oI (fstM μ false a) then oI (fstM μ false a) else oI (fstM μ true a))
def tk (x y : Int32) : Int32 := ((x.toInt64 * 31 + y.toInt64 + 7 - (x.toInt64 * 31 + y.toInt64 + 7) / 1000003 * 1000003 : Int64)).toInt32
def mzM (μ : Mg) (x : Int32) : Int32 := tk (tk (tk (tk (tk (tk (tk (tk 0 (if μ.1 7 = 0 then 0 else 1)) (μ.2 1 x.toNatClampNeg)) (μ.2 3 x.toNatClampNeg / 1000000)) (rm (μ.2 3 x.toNatClampNeg / 1000) 1000)) (rm (μ.2 3 x.toNatClampNeg) 1000)) (μ.2 4 x.toNatClampNeg)) (μ.2 2 x.toNatClampNeg)) (μ.2 6 x.toNatClampNeg)
def okM (kind name ver mark tr : Int32) : Bool := wi kind 0 2 && (wi name 0 99 && (wi ver 0 999999999 && (wi mark 0 2 && wi tr (-1) 9)))
def kMA (μ : Mg) (a : Nat) (kind name ver mark tr : Int32) : Int32 := if okM kind name ver mark tr = true then (if nI (ct (thM μ) a) = 16 then 2 else if μ.1 0 = 60 then 2 else 0) else 1
def adF (F : Nat → Nat → Int32) (n : Nat) (kind name ver mark tr : Int32) : Nat → Nat → Int32 := up2 (up2 (up2 (up2 (up2 (up2 F 0 (upd (F 0) n 1)) 1 (upd (F 1) n kind)) 2 (upd (F 2) n name)) 3 (upd (F 3) n ver)) 4 (upd (F 4) n mark)) 5 (upd (F 5) n tr)
/-- set 'thrown' -/
def thr12 (μ : Mg) (k : Int32) : Mg := (upd μ.1 12 k, μ.2)
def adM (μ : Mg) (a : Nat) (kind name ver mark tr : Int32) : Mg := if kMA μ a kind name ver mark tr = 0 then (upd (upd μ.1 12 0) 0 (μ.1 0 + 1), adF μ.2 (μ.1 0).toNatClampNeg kind name ver mark tr) else thr12 μ (kMA μ a kind name ver mark tr)
def adR (μ : Mg) (a : Nat) (kind name ver mark tr : Int32) : Int32 := if kMA μ a kind name ver mark tr = 0 then μ.1 0 + 1 - 1 else 0
def kMR (μ : Mg) (e : Int32) : Int32 := if mt μ e = true then 0 else 1
def reF (F : Nat → Nat → Int32) (n : Nat) : Nat → Nat → Int32 := up2 F 0 (upd (F 0) n 0)
def reM (μ : Mg) (e : Int32) : Mg := if kMR μ e = 0 then (upd μ.1 12 0, reF μ.2 e.toNatClampNeg) else thr12 μ (kMR μ e)
def reR (μ : Mg) (a : Nat) (e : Int32) : Int32 := if kMR μ e = 0 then nI (ct (thM (upd μ.1 12 0, reF μ.2 e.toNatClampNeg)) a) else 0
def kME (μ : Mg) (e opt : Int32) : Int32 := if mt μ e = true then (if wi opt 0 99 = true then (if μ.1 7 = 0 then 0 else 3) else 2) else 1
def edF (F : Nat → Nat → Int32) (n : Nat) (opt : Int32) : Nat → Nat → Int32 := up2 F 6 (upd (F 6) n opt)
def edM (μ : Mg) (e opt : Int32) : Mg := if kME μ e opt = 0 then (upd μ.1 12 0, edF μ.2 e.toNatClampNeg opt) else thr12 μ (kME μ e opt)
def edR (μ : Mg) (e opt : Int32) : Int32 := if kME μ e opt = 0 then μ.2 6 e.toNatClampNeg else 0
def okMC (μ : Mg) (e : Int32) : Bool := decide (e = -1) || mt μ e
def kMC (μ : Mg) (e : Int32) : Int32 := if okMC μ e = true then (if μ.1 7 = 0 then 0 else 2) else 1
def csM (μ : Mg) (e : Int32) : Mg := if kMC μ e = 0 then (upd (upd μ.1 12 0) 1 e, μ.2) else thr12 μ (kMC μ e)
def csR (μ : Mg) (e : Int32) : Int32 := if kMC μ e = 0 then μ.1 1 else 0
def kMO (μ : Mg) (e : Int32) : Int32 := if okMC μ e = true then 0 else 1
def coM (μ : Mg) (e : Int32) : Mg := if kMO μ e = 0 then (upd (upd μ.1 12 0) 2 e, μ.2) else thr12 μ (kMO μ e)
def coR (μ : Mg) (e : Int32) : Int32 := if kMO μ e = 0 then μ.1 2 else 0
def kMP (μ : Mg) (x y : Int32) : Int32 := if wi x 0 99 = true then (if wi y x 99 = true then (if μ.1 7 = 0 then 0 else 2) else 1) else 1
def paP (μ : Mg) (x y : Int32) : Mg := (upd (upd (upd μ.1 12 0) 3 x) 4 y, μ.2)
def fiP (μ : Mg) (k : Nat) : Bool := thM μ k && fitM μ (nI k)
def paM (μ : Mg) (x y : Int32) : Mg := if kMP μ x y = 0 then paP μ x y else thr12 μ (kMP μ x y)
def paR (μ : Mg) (a : Nat) (x y : Int32) : Int32 := if kMP μ x y = 0 then nI (ct (fiP (paP μ x y)) a) else 0
def kMS (μ : Mg) (a : Nat) : Int32 := if 0 ≤ chM μ a then 0 else 1
def stF (F : Nat → Nat → Int32) (n : Nat) : Nat → Nat → Int32 := up2 F 5 (upd (F 5) n (F 5 n - (if F 5 n ≤ 0 then 0 else 1)))
def stP (μ : Mg) (c : Int32) : Mg := (upd (upd (upd (upd (upd (upd μ.1 12 0) 6 (mzM μ c)) 2 (-1)) 5 c) 10 0) 11 0, stF μ.2 c.toNatClampNeg)
def stM (μ : Mg) (a : Nat) : Mg := if kMS μ a = 0 then stP μ (chM μ a) else thr12 μ (kMS μ a)
def stR (μ : Mg) (a : Nat) : Int32 := if kMS μ a = 0 then chM μ a else 0
def kMG (μ : Mg) : Int32 := if 0 ≤ μ.1 5 then 0 else 1
def goF (μ : Mg) : Nat → Nat → Int32 := if μ.2 0 (μ.1 5).toNatClampNeg = 0 then μ.2 else up2 μ.2 5 (upd (μ.2 5) (μ.1 5).toNatClampNeg (-1))
def goM (μ : Mg) : Mg := if kMG μ = 0 then (upd μ.1 12 0, goF μ) else thr12 μ (kMG μ)
def goMR (μ : Mg) : Int32 := if kMG μ = 0 then (if μ.2 0 (μ.1 5).toNatClampNeg = 0 then -1 else μ.2 5 (μ.1 5).toNatClampNeg) else 0
def tn (m : Int32) : Int32 := nI (10 ^ m.toNatClampNeg)
def kML (μ : Mg) (code many : Int32) : Int32 := if wi many 1 6 = true then (if code < 0 then 1 else if code < tn many then (if μ.1 7 = 0 then 0 else 2) else 1) else 1
def loP (μ : Mg) (code many : Int32) : Mg := (upd (upd (upd (upd (upd (upd μ.1 12 0) 8 code) 9 many) 7 1) 10 0) 11 0, μ.2)
def loM (μ : Mg) (code many : Int32) : Mg := if kML μ code many = 0 then loP μ code many else thr12 μ (kML μ code many)
def kMN (μ : Mg) (d : Int32) : Int32 := if wi d 0 9 = true then (if μ.1 7 = 0 then 2 else if μ.1 10 = 12 then 2 else 0) else 1
def tl1 (μ : Mg) (d : Int32) : Int32 := rm (10 * μ.1 11 + d) 1000000
def enB (μ : Mg) (d : Int32) : Bool := if μ.1 10 + 1 < μ.1 9 then false else decide (rm (tl1 μ d) (tn (μ.1 9)) = μ.1 8)
def enP (μ : Mg) (d : Int32) : Mg := (upd (upd (upd (upd μ.1 12 0) 10 (μ.1 10 + 1)) 11 (tl1 μ d)) 7 (bI (!enB μ d)), μ.2)
def enM (μ : Mg) (d : Int32) : Mg := if kMN μ d = 0 then enP μ d else thr12 μ (kMN μ d)
def enR (μ : Mg) (d : Int32) : Int32 := if kMN μ d = 0 then bI (enB μ d) else 0
def lf (P : Nat → Bool) : Nat → Option Nat
  | 0 => none
  | n + 1 => if P n = true then some n else lf P n
def atP (μ : Mg) (a : Nat) (pl : Int32) (k : Nat) : Bool := thM μ k && decide (nI (ct (plP μ (nI k)) a) = pl)
def kMT (μ : Mg) (a : Nat) (pl : Int32) : Int32 := if 0 ≤ oI (lf (atP μ a pl) a) then 0 else 1
def atR (μ : Mg) (a : Nat) (pl : Int32) : Int32 := if kMT μ a pl = 0 then oI (lf (atP μ a pl) a) else 0
def poR (μ : Mg) (a : Nat) (e : Int32) : Int32 := if kMR μ e = 0 then nI (ct (plP μ e) a) else 0
def trR (μ : Mg) (e : Int32) : Int32 := if kMR μ e = 0 then μ.2 5 e.toNatClampNeg else 0
def foR (μ : Mg) (e : Int32) : Int32 := if kMR μ e = 0 then mzM μ e else 0
def kMX (μ : Mg) (x y : Int32) : Int32 := if mt μ x = true then (if mt μ y = true then 0 else 1) else 1
def cmR (μ : Mg) (x y : Int32) : Int32 := if kMX μ x y = 0 then cmM μ.2 x y else 0
theorem oI_in {r : Option Nat} {a : Nat} (ha : a ≤ 60) (h : ∀ j, r = some j → j < a) (h0 : 0 ≤ oI r) : vp_in (oI r) 60 := by
  cases r with
  | none => exact absurd h0 (by decide)
  | some j => exact vp_in_nI (by have := h j rfl; omega) (by omega)
theorem ch_in {μ : Mg} {a : Nat} (hM : μ.1 0 = nI a) (ha : a ≤ 60) (h : 0 ≤ chM μ a) : vp_in (chM μ a) 60 := by
  have key : ∀ b, 0 ≤ oI (fstM μ b a) → vp_in (oI (fstM μ b a)) 60 := fun b h => oI_in ha (fun j hj => mf_lt hj) h
  unfold chM at h ⊢
  by_cases h1 : mt μ (μ.1 2) = true
  · rw [if_pos h1]; exact mt_in hM ha h1
  · rw [if_neg h1] at h ⊢
    by_cases h2 : mt μ (μ.1 1) = true
    · rw [if_pos h2] at h ⊢
      by_cases h3 : μ.2 5 (μ.1 1).toNatClampNeg = 0
      · rw [if_pos h3] at h ⊢
        by_cases h4 : 0 ≤ oI (fstM μ false a)
        · rw [if_pos h4]; exact key _ h4
        · rw [if_neg h4] at h ⊢; exact key _ h
      · rw [if_neg h3]; exact mt_in hM ha h2
    · rw [if_neg h2] at h ⊢
      by_cases h4 : 0 ≤ oI (fstM μ false a)
      · rw [if_pos h4]; exact key _ h4
      · rw [if_neg h4] at h ⊢; exact key _ h
theorem lf_lt {P : Nat → Bool} {j : Nat} : ∀ {n : Nat}, lf P n = some j → j < n := by
  intro n
  induction n with
  | zero => intro h; simp [lf] at h
  | succ n ih =>
    intro h
    simp only [lf] at h
    by_cases hp : P n = true
    · rw [if_pos hp] at h; cases h; omega
    · rw [if_neg hp] at h; have := ih h; omega
theorem tn_ne {m : Int32} (h : ∃ k : Nat, 1 ≤ k ∧ k ≤ 6 ∧ m = nI k) : ¬ tn m = 0 := by
  obtain ⟨k, h1, h6, rfl⟩ := h
  unfold tn
  rw [nI_clamp (by omega)]
  have hk : k = 1 ∨ k = 2 ∨ k = 3 ∨ k = 4 ∨ k = 5 ∨ k = 6 := by omega
  rcases hk with rfl | rfl | rfl | rfl | rfl | rfl <;> decide
