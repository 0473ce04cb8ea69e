/-! THE STATE. Geometry g: (class ids, slots), class ids of arrays (0 int, 2 Entry), addresses: 0 the chooser, 1 its rows, 2 its lock, 3 the lock's digits, 13 + j the entries; 40 the heap's size at the law's start. The chooser's value: (its numbers, the entries' fields, the lock's numbers, the digits). Mg and the long row are left from the claim over the reference: nothing is said of them here. -/
abbrev Ge : Type := (Nat → ClassId) × (Nat → Nat → Nat) × (Nat → ClassId) × (Nat → Nat)
abbrev gD (g : Ge) : va_G := (g.1, g.2.1)
abbrev gC (g : Ge) (k : Nat) : ClassId := g.2.2.1 k
abbrev gA (g : Ge) (k : Nat) : Nat := g.2.2.2 k
abbrev Sg : Type := (Nat → Int32) × (Nat → Nat → Int32) × (Nat → Int32) × (Nat → Int32)
abbrev Mg : Type := (Nat → Int32) × (Nat → Nat → Int32)
abbrev tyW (g : Ge) : List (ClassId × FieldType) := [(gC g 0, .int), (gC g 2, .object "BootChooser$Entry")]
abbrev fB (g : Ge) (B : Nat → Int32) : List Value := [.ref (gA g 1), .ref (gA g 2), .int (B 0), .int (B 1), .int (B 2), .int (B 3), .int (B 4), .int (B 5), .int (B 6)]
abbrev fE (E : Nat → Int32) : List Value := [.int (E 0), .int (E 1), .int (E 2), .int (E 3), .int (E 4), .int (E 5), .int (E 6), .int (E 7)]
abbrev fK (g : Ge) (K : Nat → Int32) : List Value := [.ref (gA g 3), .int (K 0), .int (K 1), .int (K 2), .int (K 3)]
abbrev wFix (g : Ge) (σ : Sg) (_ : Mg) (_ : Nat → Int64) : va_W :=
  [(gA g 0, .inr (2, fB g σ.1)), (gA g 1, .inl (gC g 2, 16, .inr (.inr (.inr (.inr (fun j => some (gA g (13 + j)))))))), (gA g 2, .inr (0, fK g σ.2.2.1)), (gA g 3, .inl (gC g 0, 12, .inl σ.2.2.2))]
abbrev wEnt (g : Ge) (E : Nat → Nat → Int32) : va_W := (List.range 16).map (fun j => (gA g (13 + j), .inr (1, fE (E j))))
def wWd (g : Ge) (σ : Sg) (μ : Mg) (o : Nat → Int64) : va_W := wFix g σ μ o ++ wEnt g σ.2.1
def Az (g : Ge) : Nat → Prop := fun q => gA g 40 ≤ q
def Wd (g : Ge) (σ : Sg) (μ : Mg) (o : Nat → Int64) (H : Heap) : Prop := va_P (gD g) vwCl (wWd g σ μ o) H ∧ va_D (Az g) (wWd g σ μ o)
def up2 (f : Nat → Nat → Int32) (j : Nat) (x : Nat → Int32) : Nat → Nat → Int32 := fun i => if i = j then x else f i
theorem up2_s {f : Nat → Nat → Int32} {j : Nat} {x : Nat → Int32} : up2 f j x j = x := by simp [up2]
theorem up2_n {f : Nat → Nat → Int32} {j i : Nat} {x : Nat → Int32} (h : i ≠ j) : up2 f j x i = f i := by simp [up2, h]
theorem wWd_ent (g : Ge) (σ : Sg) (μ : Mg) (o : Nat → Int64) {j : Nat} (hj : j < 16) : (wWd g σ μ o)[4 + j]? = some (gA g (13 + j), .inr (1, fE (σ.2.1 j))) := by
  unfold wWd
  rw [List.getElem?_append_right (by show 4 ≤ 4 + j; omega)]
  show (wEnt g σ.2.1)[4 + j - 4]? = _
  rw [Nat.add_sub_cancel_left, List.getElem?_map, List.getElem?_range hj]
  rfl
theorem wWd_setE (g : Ge) (σ : Sg) (μ : Mg) (o : Nat → Int64) {j : Nat} (hj : j < 16) (e : Nat → Int32) : (wWd g σ μ o).set (4 + j) (gA g (13 + j), .inr (1, fE e)) = wWd g (σ.1, up2 σ.2.1 j e, σ.2.2) μ o := by
  apply List.ext_getElem?
  intro i
  by_cases h : i < 4
  · rw [List.getElem?_set_ne (by omega)]
    unfold wWd
    rw [List.getElem?_append_left (by exact h), List.getElem?_append_left (by exact h)]
  · obtain ⟨n, rfl⟩ : ∃ n, i = 4 + n := ⟨i - 4, by omega⟩
    by_cases hn : n = j
    · subst hn
      rw [List.getElem?_set_self (List.getElem?_eq_some_iff.mp (wWd_ent g σ μ o hj)).1, wWd_ent _ _ _ _ hj]
      show _ = some (gA g (13 + n), (Sum.inr (1, fE (up2 σ.2.1 n e n)) : va_E))
      rw [up2_s]
    · rw [List.getElem?_set_ne (by omega)]
      by_cases h16 : n < 16
      · rw [wWd_ent _ _ _ _ h16, wWd_ent _ _ _ _ h16]
        show _ = some (gA g (13 + n), (Sum.inr (1, fE (up2 σ.2.1 j e n)) : va_E))
        rw [up2_n hn]
      · rw [List.getElem?_eq_none (by simp [wWd]; omega), List.getElem?_eq_none (by simp [wWd]; omega)]
/-! ===== what the tables say beside the methods' own words: nest mates, strings, casts ===== -/
def isNest (w : Cond) : Bool := match w with
  | .fieldLinkNest _ _ _ _ _ _ => true
  | .methodLinkNest _ _ _ _ => true
  | _ => false
def tbL : List Cond := [.fieldLinkNest RX2 145 "BootChooser$CodeLock" "isClosed" "Z" "BootChooser", .fieldLinkNest RX2 79 "BootChooser$Entry" "isThere" "Z" "BootChooser", .fieldLinkNest RX2 72 "BootChooser$Entry" "number" "I" "BootChooser", .fieldLinkNest RX2 187 "BootChooser$Entry" "kind" "I" "BootChooser", .fieldLinkNest RX2 170 "BootChooser$Entry" "name" "I" "BootChooser", .fieldLinkNest RX2 190 "BootChooser$Entry" "version" "I" "BootChooser", .fieldLinkNest RX2 194 "BootChooser$Entry" "mark" "I" "BootChooser", .fieldLinkNest RX2 92 "BootChooser$Entry" "option" "I" "BootChooser", .fieldLinkNest RX2 124 "BootChooser$Entry" "triesLeft" "I" "BootChooser",
  .methodLinkNest RX2 17 yX0_init "BootChooser", .methodLinkNest RX2 44 yX1_init "BootChooser", .methodLinkNest RX2 176 yX1_isBad "BootChooser", .methodLinkNest RX2 173 yX1_isAheadOf "BootChooser", .methodLinkNest RX2 68 yX1_fill "BootChooser", .methodLinkNest RX2 113 yX1_useTry "BootChooser", .methodLinkNest RX2 116 yX0_forgetDigits "BootChooser", .methodLinkNest RX2 135 yX0_close "BootChooser", .methodLinkNest RX2 141 yX0_takeDigit "BootChooser", .methodLinkNest RX2 159 yX1_compareVersion "BootChooser"]
def sbL : List (String × Nat × String) := [(RX2, 52, "kind, name, version or mark is out of range"), (RX2, 57, "tries is out of range"), (RX2, 65, "there is no room for an entry"), (RX2, 162, "there is no such entry"), (RX2, 87, "option is out of range"), (RX2, 164, "the chooser is locked"), (RX2, 99, "from or to is out of range"), (RX2, 107, "there are no entries"), (RX2, 119, "nothing runs"), (RX2, 127, "many is out of range"), (RX2, 133, "code is below 0 or has more digits"), (RX2, 139, "digit is out of range"), (RX0, 34, "it is not locked, or too many digits were entered"), (RX2, 153, "there are not so many entries")]
abbrev xIA : String := "java/lang/IllegalArgumentException"
abbrev xIS : String := "java/lang/IllegalStateException"
abbrev xIO : String := "java/lang/IndexOutOfBoundsException"
def exL : List String := [xIA, xIS, xIO]
/-- the words of a throw that no method's own list carries -/
def xwB (E : String) : List Cond := [.castable E E, .declares (Bundle.initS "java/lang/RuntimeException"), .declares (Bundle.initS "java/lang/Exception"), .declares (Bundle.initS Bundle.tN)]
def xwL : List Cond := xwB xIA ++ xwB xIS ++ xwB xIO
def isXw (w : Cond) : Bool := match w with
  | .castable _ _ => true
  | .declares _ => true
  | _ => false
def ncL : List (String × String) := [(xIS, xIA), (xIO, xIA), (xIA, xIS), (xIO, xIS), (xIA, xIO), (xIS, xIO)]
def TB (U : State) : Prop := (∀ w ∈ tbL, va_Nw w U) ∧ (∀ q ∈ sbL, ∃ sa : Nat, vk_R q.1 q.2.1 q.2.2 sa U) ∧ (∀ w ∈ xwL, va_Nw w U) ∧ ∀ q ∈ ncL, va_Nc q.1 q.2 U
theorem nest_warm {w : Cond} (h : isNest w = true) {s U : State} (hW : s.WarmedH U.vm) (hZ : va_Nw w s) : va_Nw w U := by
  cases w <;> first | exact va_Nw.warmF hW hZ | exact va_Nw.warmM hW hZ | (simp [isNest] at h)
theorem xw_warm {w : Cond} (h : isXw w = true) {s U : State} (hvm : s.vm.Alike U.vm) (hZ : va_Nw w s) : va_Nw w U := by
  cases w <;> first
    | exact va_tabs rfl (rfl : (s.setVm U.vm).vm = U.vm) (by rw [Cond.castable_setVm (args := #[]) hvm]; exact hZ)
    | exact va_tabs rfl (rfl : (s.setVm U.vm).vm = U.vm) (by rw [Cond.declares_setVm (args := #[]) hvm]; exact hZ)
    | (simp [isXw] at h)
theorem TB.warm {s U : State} (hW : s.WarmedH U.vm) (h : TB s) : TB U := by
  obtain ⟨h1, h2, h3, h4⟩ := h
  refine ⟨fun w hw => nest_warm (List.all_eq_true.mp (show tbL.all isNest = true by decide +kernel) w hw) hW (h1 w hw), fun q hq => ?_, fun w hw => xw_warm (List.all_eq_true.mp (show xwL.all isXw = true by decide +kernel) w hw) hW.alike (h3 w hw), fun q hq => (h4 q hq).moved hW.alike⟩
  obtain ⟨sa, h⟩ := h2 q hq
  exact ⟨sa, vk_R.warm hW h⟩
theorem TB.same {s U : State} (hvm : U.vm = s.vm) (h : TB s) : TB U := by
  obtain ⟨h1, h2, h3, h4⟩ := h
  have ha : s.vm.Alike U.vm := by rw [hvm]; exact Vm.Alike.refl _
  refine ⟨fun w hw => ?_, fun q hq => ?_, fun w hw => xw_warm (List.all_eq_true.mp (show xwL.all isXw = true by decide +kernel) w hw) ha (h3 w hw), fun q hq => (h4 q hq).moved ha⟩
  · have hn := List.all_eq_true.mp (show tbL.all isNest = true by decide +kernel) w hw
    have h0 := h1 w hw
    cases w <;> first | exact va_Nw.same rfl hvm.symm h0 | (simp [isNest] at hn)
  · obtain ⟨sa, h⟩ := h2 q hq
    exact ⟨sa, vk_R.same hvm h⟩
theorem TB.nest {w : Cond} {U : State} {args : Array Value} (h : TB U) (hw : w ∈ tbL) (ho : w.onTables = true) : w.before args U = true := va_Nw.use ho (h.1 w hw)
/-- the surroundings: the classes, the tables, the two statics that a throw reads -/
def cx (g : Ge) (U : State) (H : Heap) : Prop := va_K (gD g) vwCl (tyW g) U ∧ TB U ∧ (vx_Zq Bundle.tN "UNASSIGNED_STACK" Bundle.steD (Az g) U H ∧ vx_Zq Bundle.tN "SUPPRESSED_SENTINEL" Bundle.listD (Az g) U H) ∧ gA g 40 ≤ H.size
theorem cx.at {g : Ge} {s : State} {H0 H : Heap} {locs : List Loc} (h : cx g s H0) (hS : va_S (Az g) H0 H locs) : cx g s H :=
  ⟨h.1, h.2.1, ⟨h.2.2.1.1.kept hS.2.1, h.2.2.1.2.kept hS.2.1⟩, Nat.le_trans h.2.2.2 hS.1⟩
theorem cx.warm {g : Ge} {s U : State} {H : Heap} (hW : s.WarmedH U.vm) (h : cx g s H) : cx g U H :=
  ⟨va_K.moved hW.alike h.1, h.2.1.warm hW, ⟨h.2.2.1.1.moved hW.alike, h.2.2.1.2.moved hW.alike⟩, h.2.2.2⟩
theorem cx.same {g : Ge} {s U : State} {H : Heap} (hvm : U.vm = s.vm) (h : cx g s H) : cx g U H := by
  have ha : s.vm.Alike U.vm := by rw [hvm]; exact Vm.Alike.refl _
  exact ⟨va_K.moved ha h.1, h.2.1.same hvm, ⟨h.2.2.1.1.moved ha, h.2.2.1.2.moved ha⟩, h.2.2.2⟩
/-- a method's start -/
def PW (g : Ge) (σ : Sg) (μ : Mg) (o : Nat → Int64) (U : State) : Prop := cx g U U.heap ∧ Wd g σ μ o U.heap
theorem PW.at {g : Ge} {σ : Sg} {μ : Mg} {o : Nat → Int64} {s : State} {H : Heap} {locs : List Loc} (hC : cx g s s.heap) (hS : va_S (Az g) s.heap H locs) (hW : Wd g σ μ o H) (U : State) (hU : U.heap = H) (hw : s.WarmedH U.vm) : PW g σ μ o U := by
  refine ⟨?_, ?_⟩
  · rw [hU]; exact (hC.at hS).warm hw
  · rw [hU]; exact hW
theorem PW.blind {av : List Value} {g : Ge} {σ : Sg} {μ : Mg} {o : Nat → Int64} : FrameBlind (va_Pc av (PW g σ μ o)) := fun a U gg mk q => ⟨q.1, ⟨cx.same (s := U) (H := U.heap) rfl q.2.1, q.2.2⟩⟩
/-- a method that needs nothing of the heap -/
def P0 (_ : State) : Prop := True
theorem P0.blind {av : List Value} : FrameBlind (va_Pc av P0) := fun _ _ _ _ q => ⟨q.1, trivial⟩
theorem Az_up {g : Ge} {s : State} {H : Heap} (h : cx g s H) : ∀ q, H.size ≤ q → Az g q := fun q hq => Nat.le_trans h.2.2.2 hq
theorem cast_w {U : State} (h : TB U) {E : String} (hE : ∀ w ∈ xwB E, w ∈ xwL) {args : Array Value} : ∀ w ∈ xwB E, w.before args U = true := by
  intro w hw
  refine va_Nw.use ?_ (h.2.2.1 w (hE w hw))
  have := List.all_eq_true.mp (show (xwL.all fun w => w.onTables) = true by decide +kernel) w (hE w hw)
  exact this
theorem optc (r : Option Nat) : r = none ∨ ∃ j, r = some j := by
  cases r with
  | none => exact Or.inl rfl
  | some j => exact Or.inr ⟨j, rfl⟩
/-- booleans -/
def bI (b : Bool) : Int32 := if b then 1 else 0
theorem bI_t : bI true = 1 := rfl
theorem bI_f : bI false = 0 := rfl
theorem bI_0 {b : Bool} : bI b = 0 ↔ b = false := by cases b <;> simp [bI]
