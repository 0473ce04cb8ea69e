/-! what the law's helpers answer: none: the call threw, k its code; some (r, u): it returned r -/
def xQ {U : Type} (kk : Int32) (P : Int32 → U → Prop) (k : Int32) (x : Option (Int32 × U)) : Prop := match x with
  | none => ¬ k = 0 ∧ kk = k
  | some y => k = 0 ∧ P y.1 y.2
def xB {U : Type} (w : State → Prop) (W : Int32 → U → State → Prop) (x : Option (Int32 × U)) (t : State) : Prop := match x with
  | none => w t
  | some y => W y.1 y.2 t
theorem xQ_n {U : Type} {kk k : Int32} {P : Int32 → U → Prop} (h : ¬ k = 0) (hk : kk = k) : xQ kk P k none := ⟨h, hk⟩
theorem xQ_s {U : Type} {kk k : Int32} {P : Int32 → U → Prop} {r : Int32} {u : U} (h : k = 0) (hk : P r u) : xQ kk P k (some (r, u)) := ⟨h, hk⟩
def bJ (r : Int32) : Int64 := if r = 0 then 0 else 1
