/-! what a call answers when it throws: 1, 2, 3 by the order of the law's catches; 0 when it returns -/
def no1 (σ : Sg) (n : Int32) : Bool := (fs (pN σ.2.1 n) 16).isNone
def okC (σ : Sg) (n : Int32) : Bool := decide (n = -1) || !no1 σ n
def okA (kind name ver mark tries : Int32) : Bool := wi kind 0 2 && (wi name 0 99 && (wi ver 0 999999999 && (wi mark 0 2 && (decide (tries = -1) || wi tries 0 9))))
def kAdd (σ : Sg) (kind name ver mark tries : Int32) : Int32 := if okA kind name ver mark tries = true then (if (fs (frP σ.2.1) 16).isNone = true then 2 else if σ.1 0 < 60 then 0 else 2) else 1
def kRem (σ : Sg) (n : Int32) : Int32 := if no1 σ n = true then 1 else 0
def kEd (σ : Sg) (n opt : Int32) : Int32 := if no1 σ n = true then 1 else if wi opt 0 99 = true then (if σ.2.2.1 0 = 0 then 0 else 3) else 2
def kCh (σ : Sg) (n : Int32) : Int32 := if okC σ n = true then (if σ.2.2.1 0 = 0 then 0 else 2) else 1
def kCo (σ : Sg) (n : Int32) : Int32 := if okC σ n = true then 0 else 1
def kPa (σ : Sg) (a b : Int32) : Int32 := if wi a 0 99 = true then (if wi b a 99 = true then (if σ.2.2.1 0 = 0 then 0 else 2) else 1) else 1
def kSt (σ : Sg) : Int32 := if (nx σ).isNone = true then 1 else 0
def kGo (σ : Sg) : Int32 := if σ.1 5 = -1 then 1 else 0
def hc (m : Int32) : Int32 := nI (10 ^ m.toNatClampNeg) - 1
def kLo (σ : Sg) (code many : Int32) : Int32 := if wi many 1 6 = true then (if wi code 0 (hc many) = true then (if σ.2.2.1 0 = 0 then 0 else 2) else 1) else 1
def kEn (σ : Sg) (d : Int32) : Int32 := if wi d 0 9 = true then (if σ.2.2.1 0 = 0 then 2 else if σ.2.2.1 3 < 12 then 0 else 2) else 1
def kAt (σ : Sg) (pl : Int32) : Int32 := if (fs (pP σ.2.1 pl) 16).isNone = true then 1 else 0
def kCm (σ : Sg) (a b : Int32) : Int32 := if no1 σ a = true then 1 else if no1 σ b = true then 1 else 0
/-- the entry that add writes, and the one that a start leaves -/
def flE (e : Nat → Int32) (nu kind name ver mark tr : Int32) : Nat → Int32 := upd (upd (upd (upd (upd (upd (upd (upd e 0 1) 1 nu) 2 kind) 3 name) 4 ver) 5 mark) 6 0) 7 tr
def us1 (e : Nat → Int32) : Nat → Int32 := if e 7 ≤ 0 then e else upd e 7 (e 7 - 1)
theorem wi_n {m : Int32} (h : wi m 1 6 = true) : ∃ k : Nat, 1 ≤ k ∧ k ≤ 6 ∧ m = nI k := by
  simp only [wi, Bool.and_eq_true, Bool.not_eq_true', decide_eq_false_iff_not] at h
  obtain ⟨h1, h2⟩ := h
  rw [Int32.lt_iff_toInt_lt] at h1 h2
  have e1 : (1 : Int32).toInt = 1 := rfl
  have e6 : (6 : Int32).toInt = 6 := rfl
  rw [e1] at h1
  rw [e6] at h2
  refine ⟨m.toInt.toNat, by omega, by omega, ?_⟩
  apply Int32.toInt_inj.mp
  rw [nI_toInt (by omega)]
  omega
theorem up2_u {f : Nat → Nat → Int32} {j : Nat} {x y : Nat → Int32} : up2 (up2 f j x) j y = up2 f j y := by
  funext i
  by_cases h : i = j
  · simp [up2, h]
  · simp [up2, h]
theorem up2_self {f : Nat → Nat → Int32} {j : Nat} : up2 f j (f j) = f := by
  funext i
  by_cases h : i = j
  · simp [up2, h]
  · simp [up2, h]
theorem us1_1 {e : Nat → Int32} : us1 e 1 = e 1 := by
  unfold us1
  split
  · rfl
  · simp [upd]
def goR (σ : Sg) : Int32 := oel (fs (pN σ.2.1 (σ.1 5)) 16) (fun j => σ.2.1 j 7) (-1)
def goE (σ : Sg) : Nat → Nat → Int32 := oel (fs (pN σ.2.1 (σ.1 5)) 16) (fun j => up2 σ.2.1 j (upd (σ.2.1 j) 7 (-1))) σ.2.1
def nxR (σ : Sg) : Int32 := oel (nx σ) (fun j => σ.2.1 j 1) (-1)
