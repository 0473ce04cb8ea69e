section RW3
variable {p : Program} {l : Launch} {e : Env} {R : Room} {s : State} {m : MethodId} {args : Array Value} {below : List Frame} {meth : Method} {c : Code} {H : Heap} {locs : List Loc} {cells slots : Nat} {Q : State → Prop}
variable {cc : ByteArray} {pc : Nat} {ls : Array Slot} {rest : List Value} {g : Ge} {σ : Sg} {μ : Mg} {o : Nat → Int64} {Ts : List Cond} {index : Nat} {v : Value} {H0 : Heap}
/-! reads: a field of the chooser by itself, of an entry by itself and by the chooser, of the lock by itself and by the chooser, of the model by itself -/
theorem gB (hx : p.tables.exec = Jvm.exec) (hb : c.code = cc) (hts : ∀ w ∈ Ts, w.before args s = true) (hin : ∀ w ∈ wsX20, w ∈ Ts) (hown : s.vm.findClass RX2 = some m.cls) (hC : cx g s H0) (hW : Wd g σ μ o H) (k : Nat) (hk : k < 9) (hl : (Cond.fieldLink RX2 index "BootChooser" (TX2 k).2.1 (TX2 k).2.2.1) ∈ Ts) (h0 : (TX2 k).1 = "BootChooser") (hv : (fB g σ.1)[k]? = some v) (d : decode cc pc = .ok (.getfield index, 3))
    (kk : W p l e R s m args below meth c H locs cells slots Q (F0 m (pc + 3) ls (v :: rest))) : W p l e R s m args below meth c H locs cells slots Q (F0 m pc ls (.ref (gA g 0) :: rest)) :=
  va_get (D := gD g) (ci := 2) (v := v) (C := RX2) (T := TX2) (N := 9) hx hb hts hin hown hC.1 hW.1 0 rfl rfl k hk (hts _ hl) (fun _ h9 => by rw [h0] at h9; exact h9) hv d kk
theorem gE (hx : p.tables.exec = Jvm.exec) (hb : c.code = cc) (hts : ∀ w ∈ Ts, w.before args s = true) (hin : ∀ w ∈ wsX10, w ∈ Ts) (hown : s.vm.findClass RX1 = some m.cls) (hC : cx g s H0) (hW : Wd g σ μ o H) {j : Nat} (hj : j < 16) (k : Nat) (hk : k < 8) (hl : (Cond.fieldLink RX1 index "BootChooser$Entry" (TX1 k).2.1 (TX1 k).2.2.1) ∈ Ts) (h0 : (TX1 k).1 = "BootChooser$Entry") (hv : (fE (σ.2.1 j))[k]? = some v) (d : decode cc pc = .ok (.getfield index, 3))
    (kk : W p l e R s m args below meth c H locs cells slots Q (F0 m (pc + 3) ls (v :: rest))) : W p l e R s m args below meth c H locs cells slots Q (F0 m pc ls (.ref (gA g (13 + j)) :: rest)) :=
  va_get (D := gD g) (ci := 1) (v := v) (C := RX1) (T := TX1) (N := 8) hx hb hts hin hown hC.1 hW.1 (4 + j) (wWd_ent g σ μ o hj) rfl k hk (hts _ hl) (fun _ h9 => by rw [h0] at h9; exact h9) hv d kk
theorem gEn (hx : p.tables.exec = Jvm.exec) (hb : c.code = cc) (hts : ∀ w ∈ Ts, w.before args s = true) (hin : ∀ w ∈ wsX10, w ∈ Ts) (hown : s.vm.findClass RX2 = some m.cls) (hC : cx g s H0) (hW : Wd g σ μ o H) {j : Nat} (hj : j < 16) (k : Nat) (hk : k < 8) (hl : (Cond.fieldLinkNest RX2 index "BootChooser$Entry" (TX1 k).2.1 (TX1 k).2.2.1 "BootChooser") ∈ tbL) (h0 : (TX1 k).1 = "BootChooser$Entry") (hv : (fE (σ.2.1 j))[k]? = some v) (d : decode cc pc = .ok (.getfield index, 3))
    (kk : W p l e R s m args below meth c H locs cells slots Q (F0 m (pc + 3) ls (v :: rest))) : W p l e R s m args below meth c H locs cells slots Q (F0 m pc ls (.ref (gA g (13 + j)) :: rest)) :=
  va_getN (D := gD g) (ci := 1) (v := v) (C := RX1) (T := TX1) (N := 8) hx hb hts hin hown hC.1 hW.1 (4 + j) (wWd_ent g σ μ o hj) rfl k hk (hC.2.1.nest hl rfl) (fun _ h9 => by rw [h0] at h9; exact h9) hv d kk
theorem gL (hx : p.tables.exec = Jvm.exec) (hb : c.code = cc) (hts : ∀ w ∈ Ts, w.before args s = true) (hin : ∀ w ∈ wsX00, w ∈ Ts) (hown : s.vm.findClass RX0 = some m.cls) (hC : cx g s H0) (hW : Wd g σ μ o H) (k : Nat) (hk : k < 5) (hl : (Cond.fieldLink RX0 index "BootChooser$CodeLock" (TX0 k).2.1 (TX0 k).2.2.1) ∈ Ts) (h0 : (TX0 k).1 = "BootChooser$CodeLock") (hv : (fK g σ.2.2.1)[k]? = some v) (d : decode cc pc = .ok (.getfield index, 3))
    (kk : W p l e R s m args below meth c H locs cells slots Q (F0 m (pc + 3) ls (v :: rest))) : W p l e R s m args below meth c H locs cells slots Q (F0 m pc ls (.ref (gA g 2) :: rest)) :=
  va_get (D := gD g) (ci := 0) (v := v) (C := RX0) (T := TX0) (N := 5) hx hb hts hin hown hC.1 hW.1 2 rfl rfl k hk (hts _ hl) (fun _ h9 => by rw [h0] at h9; exact h9) hv d kk
theorem gLn (hx : p.tables.exec = Jvm.exec) (hb : c.code = cc) (hts : ∀ w ∈ Ts, w.before args s = true) (hin : ∀ w ∈ wsX00, w ∈ Ts) (hown : s.vm.findClass RX2 = some m.cls) (hC : cx g s H0) (hW : Wd g σ μ o H) (k : Nat) (hk : k < 5) (hl : (Cond.fieldLinkNest RX2 index "BootChooser$CodeLock" (TX0 k).2.1 (TX0 k).2.2.1 "BootChooser") ∈ tbL) (h0 : (TX0 k).1 = "BootChooser$CodeLock") (hv : (fK g σ.2.2.1)[k]? = some v) (d : decode cc pc = .ok (.getfield index, 3))
    (kk : W p l e R s m args below meth c H locs cells slots Q (F0 m (pc + 3) ls (v :: rest))) : W p l e R s m args below meth c H locs cells slots Q (F0 m pc ls (.ref (gA g 2) :: rest)) :=
  va_getN (D := gD g) (ci := 0) (v := v) (C := RX0) (T := TX0) (N := 5) hx hb hts hin hown hC.1 hW.1 2 rfl rfl k hk (hC.2.1.nest hl rfl) (fun _ h9 => by rw [h0] at h9; exact h9) hv d kk
/-! arrays -/
theorem rLen (hx : p.tables.exec = Jvm.exec) (hb : c.code = cc) (hC : cx g s H0) (hW : Wd g σ μ o H) (d : decode cc pc = .ok (.arraylength, 1))
    (kk : W p l e R s m args below meth c H locs cells slots Q (F0 m (pc + 1) ls (.int 16 :: rest))) : W p l e R s m args below meth c H locs cells slots Q (F0 m pc ls (.ref (gA g 1) :: rest)) :=
  va_alen hx hb hC.1 hW.1 1 1 rfl rfl (v := 16) rfl d kk
theorem rLd (hx : p.tables.exec = Jvm.exec) (hb : c.code = cc) (hC : cx g s H0) (hW : Wd g σ μ o H) {j : Nat} (hj : j < 16) (d : decode cc pc = .ok (.aaload, 1))
    (kk : W p l e R s m args below meth c H locs cells slots Q (F0 m (pc + 1) ls (.ref (gA g (13 + j)) :: rest))) : W p l e R s m args below meth c H locs cells slots Q (F0 m pc ls (.int (nI j) :: .ref (gA g 1) :: rest)) := by
  refine va_aldq hx hb hC.1 hW.1 1 1 rfl rfl (vp_in_nI hj (by omega)) d ?_
  rw [nI_clamp (by omega)]
  exact kk
theorem dLen (hx : p.tables.exec = Jvm.exec) (hb : c.code = cc) (hC : cx g s H0) (hW : Wd g σ μ o H) (d : decode cc pc = .ok (.arraylength, 1))
    (kk : W p l e R s m args below meth c H locs cells slots Q (F0 m (pc + 1) ls (.int 12 :: rest))) : W p l e R s m args below meth c H locs cells slots Q (F0 m pc ls (.ref (gA g 3) :: rest)) :=
  va_alen hx hb hC.1 hW.1 3 0 rfl rfl (v := 12) rfl d kk
theorem dLd (hx : p.tables.exec = Jvm.exec) (hb : c.code = cc) (hC : cx g s H0) (hW : Wd g σ μ o H) {j : Nat} (hj : j < 12) (d : decode cc pc = .ok (.iaload, 1))
    (kk : W p l e R s m args below meth c H locs cells slots Q (F0 m (pc + 1) ls (.int (σ.2.2.2 j) :: rest))) : W p l e R s m args below meth c H locs cells slots Q (F0 m pc ls (.int (nI j) :: .ref (gA g 3) :: rest)) := by
  refine va_iald hx hb hC.1 hW.1 3 0 rfl rfl (vp_in_nI hj (by omega)) d ?_
  rw [nI_clamp (by omega)]
  exact kk
theorem dStI {i : Int32} {j : Nat} (hi : i = nI j) (hx : p.tables.exec = Jvm.exec) (hb : c.code = cc) (hC : cx g s s.heap) (hS : va_S (Az g) s.heap H locs) (hW : Wd g σ μ o H) (hj : j < 12) (x : Int32) (d : decode cc pc = .ok (.iastore, 1))
    (kk : ∀ (H1 : Heap) (locs1 : List Loc), Wd g (σ.1, σ.2.1, σ.2.2.1, upd σ.2.2.2 j x) μ o H1 → va_S (Az g) s.heap H1 locs1 → W p l e R s m args below meth c H1 locs1 cells slots Q (F0 m (pc + 1) ls rest)) : W p l e R s m args below meth c H locs cells slots Q (F0 m pc ls (.int x :: .int i :: .ref (gA g 3) :: rest)) := by
  subst hi
  refine va_iast hx hb hC.1 hW.1 hW.2 hS 3 0 rfl rfl (vp_in_nI hj (by omega)) d (fun H1 locs1 hP hD hS => kk H1 locs1 ?_ hS)
  rw [nI_clamp (by omega)] at hP hD
  exact ⟨hP, hD⟩
/-! the model's arrays at any index that lies within -/
/-! writes -/
theorem Wd.of {g : Ge} {σ' : Sg} {μ' : Mg} {o' : Nat → Int64} {ws : va_W} {H1 : Heap} (e1 : ws = wWd g σ' μ' o') (hP : va_P (gD g) vwCl ws H1) (hD : va_D (Az g) ws) : Wd g σ' μ' o' H1 := by subst e1; exact ⟨hP, hD⟩
theorem pB (hx : p.tables.exec = Jvm.exec) (hb : c.code = cc) (hts : ∀ w ∈ Ts, w.before args s = true) (hin : ∀ w ∈ wsX20, w ∈ Ts) (hown : s.vm.findClass RX2 = some m.cls) (hC : cx g s s.heap) (hS : va_S (Az g) s.heap H locs) (hW : Wd g σ μ o H) (k : Nat) (hk : k < 7) (hl : (Cond.fieldLink RX2 index "BootChooser" (TX2 (k + 2)).2.1 (TX2 (k + 2)).2.2.1) ∈ Ts) (x : Int32) (d : decode cc pc = .ok (.putfield index, 3))
    (kk : ∀ (H1 : Heap) (locs1 : List Loc), Wd g (upd σ.1 k x, σ.2) μ o H1 → va_S (Az g) s.heap H1 locs1 → W p l e R s m args below meth c H1 locs1 cells slots Q (F0 m (pc + 3) ls rest)) : W p l e R s m args below meth c H locs cells slots Q (F0 m pc ls (.int x :: .ref (gA g 0) :: rest)) := by
  have h0 : (TX2 (k + 2)).1 = "BootChooser" ∧ (TX2 (k + 2)).2.2.2 = false ∧ parseFieldDescriptor (TX2 (k + 2)).2.2.1 = some .int := by
    match k, hk with
    | 0, _ => decide +kernel
    | 1, _ => decide +kernel
    | 2, _ => decide +kernel
    | 3, _ => decide +kernel
    | 4, _ => decide +kernel
    | 5, _ => decide +kernel
    | 6, _ => decide +kernel
  refine va_put (D := gD g) (ci := 2) (v := .int x) (ty := .int) (C := RX2) (T := TX2) (N := 9) hx hb hts hin tyX2 tyX2_ok nmX2 hown hC.1 hW.1 hW.2 hS 0 rfl rfl (k + 2) (by omega) (hts _ hl) (fun _ h9 => by rw [h0.1] at h9; exact h9) h0.2.1 h0.2.2 rfl rfl (by show k + 2 < 9; omega) d (fun H1 locs1 hP hD hS => kk H1 locs1 (Wd.of ?_ hP hD) hS)
  match k, hk with
  | 0, _ => rfl
  | 1, _ => rfl
  | 2, _ => rfl
  | 3, _ => rfl
  | 4, _ => rfl
  | 5, _ => rfl
  | 6, _ => rfl
theorem fE_set (E : Nat → Int32) (k : Nat) (hk : k < 8) (x : Int32) : (fE E).set k (.int x) = fE (upd E k x) := by
  match k, hk with
  | 0, _ => rfl
  | 1, _ => rfl
  | 2, _ => rfl
  | 3, _ => rfl
  | 4, _ => rfl
  | 5, _ => rfl
  | 6, _ => rfl
  | 7, _ => rfl
theorem pE {ty : FieldType} (hx : p.tables.exec = Jvm.exec) (hb : c.code = cc) (hts : ∀ w ∈ Ts, w.before args s = true) (hin : ∀ w ∈ wsX10, w ∈ Ts) (hown : s.vm.findClass RX1 = some m.cls) (hC : cx g s s.heap) (hS : va_S (Az g) s.heap H locs) (hW : Wd g σ μ o H) {j : Nat} (hj : j < 16) (k : Nat) (hk : k < 8) (hl : (Cond.fieldLink RX1 index "BootChooser$Entry" (TX1 k).2.1 (TX1 k).2.2.1) ∈ Ts) (h0 : (TX1 k).1 = "BootChooser$Entry" ∧ (TX1 k).2.2.2 = false ∧ parseFieldDescriptor (TX1 k).2.2.1 = some ty) (x : Int32) (hn : narrow ty (.int x) = .int x) (hfit : fits ty (.int x) = true) (d : decode cc pc = .ok (.putfield index, 3))
    (kk : ∀ (H1 : Heap) (locs1 : List Loc), Wd g (σ.1, up2 σ.2.1 j (upd (σ.2.1 j) k x), σ.2.2) μ o H1 → va_S (Az g) s.heap H1 locs1 → W p l e R s m args below meth c H1 locs1 cells slots Q (F0 m (pc + 3) ls rest)) : W p l e R s m args below meth c H locs cells slots Q (F0 m pc ls (.int x :: .ref (gA g (13 + j)) :: rest)) :=
  va_put (D := gD g) (ci := 1) (v := .int x) (ty := ty) (C := RX1) (T := TX1) (N := 8) hx hb hts hin tyX1 tyX1_ok nmX1 hown hC.1 hW.1 hW.2 hS (4 + j) (wWd_ent g σ μ o hj) rfl k hk (hts _ hl) (fun _ h9 => by rw [h0.1] at h9; exact h9) h0.2.1 h0.2.2 hn hfit hk d (fun H1 locs1 hP hD hS => kk H1 locs1 (Wd.of (by rw [fE_set _ _ hk]; exact wWd_setE g σ μ o hj _) hP hD) hS)
theorem pEn {ty : FieldType} (hx : p.tables.exec = Jvm.exec) (hb : c.code = cc) (hts : ∀ w ∈ Ts, w.before args s = true) (hin : ∀ w ∈ wsX10, w ∈ Ts) (hown : s.vm.findClass RX2 = some m.cls) (hC : cx g s s.heap) (hS : va_S (Az g) s.heap H locs) (hW : Wd g σ μ o H) {j : Nat} (hj : j < 16) (k : Nat) (hk : k < 8) (hl : (Cond.fieldLinkNest RX2 index "BootChooser$Entry" (TX1 k).2.1 (TX1 k).2.2.1 "BootChooser") ∈ tbL) (h0 : (TX1 k).1 = "BootChooser$Entry" ∧ (TX1 k).2.2.2 = false ∧ parseFieldDescriptor (TX1 k).2.2.1 = some ty) (x : Int32) (hn : narrow ty (.int x) = .int x) (hfit : fits ty (.int x) = true) (d : decode cc pc = .ok (.putfield index, 3))
    (kk : ∀ (H1 : Heap) (locs1 : List Loc), Wd g (σ.1, up2 σ.2.1 j (upd (σ.2.1 j) k x), σ.2.2) μ o H1 → va_S (Az g) s.heap H1 locs1 → W p l e R s m args below meth c H1 locs1 cells slots Q (F0 m (pc + 3) ls rest)) : W p l e R s m args below meth c H locs cells slots Q (F0 m pc ls (.int x :: .ref (gA g (13 + j)) :: rest)) :=
  va_putN (D := gD g) (ci := 1) (v := .int x) (ty := ty) (C := RX1) (T := TX1) (N := 8) hx hb hts hin tyX1 tyX1_ok nmX1 hown hC.1 hW.1 hW.2 hS (4 + j) (wWd_ent g σ μ o hj) rfl k hk (hC.2.1.nest hl rfl) (fun _ h9 => by rw [h0.1] at h9; exact h9) h0.2.1 h0.2.2 hn hfit hk d (fun H1 locs1 hP hD hS => kk H1 locs1 (Wd.of (by rw [fE_set _ _ hk]; exact wWd_setE g σ μ o hj _) hP hD) hS)
theorem pL {ty : FieldType} (hx : p.tables.exec = Jvm.exec) (hb : c.code = cc) (hts : ∀ w ∈ Ts, w.before args s = true) (hin : ∀ w ∈ wsX00, w ∈ Ts) (hown : s.vm.findClass RX0 = some m.cls) (hC : cx g s s.heap) (hS : va_S (Az g) s.heap H locs) (hW : Wd g σ μ o H) (k : Nat) (hk : k < 4) (hl : (Cond.fieldLink RX0 index "BootChooser$CodeLock" (TX0 (k + 1)).2.1 (TX0 (k + 1)).2.2.1) ∈ Ts) (h0 : (TX0 (k + 1)).1 = "BootChooser$CodeLock" ∧ (TX0 (k + 1)).2.2.2 = false ∧ parseFieldDescriptor (TX0 (k + 1)).2.2.1 = some ty) (x : Int32) (hn : narrow ty (.int x) = .int x) (hfit : fits ty (.int x) = true) (d : decode cc pc = .ok (.putfield index, 3))
    (kk : ∀ (H1 : Heap) (locs1 : List Loc), Wd g (σ.1, σ.2.1, upd σ.2.2.1 k x, σ.2.2.2) μ o H1 → va_S (Az g) s.heap H1 locs1 → W p l e R s m args below meth c H1 locs1 cells slots Q (F0 m (pc + 3) ls rest)) : W p l e R s m args below meth c H locs cells slots Q (F0 m pc ls (.int x :: .ref (gA g 2) :: rest)) := by
  refine va_put (D := gD g) (ci := 0) (v := .int x) (ty := ty) (C := RX0) (T := TX0) (N := 5) hx hb hts hin tyX0 tyX0_ok nmX0 hown hC.1 hW.1 hW.2 hS 2 rfl rfl (k + 1) (by omega) (hts _ hl) (fun _ h9 => by rw [h0.1] at h9; exact h9) h0.2.1 h0.2.2 hn hfit (by show k + 1 < 5; omega) d (fun H1 locs1 hP hD hS => kk H1 locs1 (Wd.of ?_ hP hD) hS)
  match k, hk with
  | 0, _ => rfl
  | 1, _ => rfl
  | 2, _ => rfl
  | 3, _ => rfl
theorem dSt (hx : p.tables.exec = Jvm.exec) (hb : c.code = cc) (hC : cx g s s.heap) (hS : va_S (Az g) s.heap H locs) (hW : Wd g σ μ o H) {j : Nat} (hj : j < 12) (x : Int32) (d : decode cc pc = .ok (.iastore, 1))
    (kk : ∀ (H1 : Heap) (locs1 : List Loc), Wd g (σ.1, σ.2.1, σ.2.2.1, upd σ.2.2.2 j x) μ o H1 → va_S (Az g) s.heap H1 locs1 → W p l e R s m args below meth c H1 locs1 cells slots Q (F0 m (pc + 1) ls rest)) : W p l e R s m args below meth c H locs cells slots Q (F0 m pc ls (.int x :: .int (nI j) :: .ref (gA g 3) :: rest)) := by
  refine va_iast hx hb hC.1 hW.1 hW.2 hS 3 0 rfl rfl (vp_in_nI hj (by omega)) d (fun H1 locs1 hP hD hS => kk H1 locs1 ?_ hS)
  rw [nI_clamp (by omega)] at hP hD
  exact Wd.of rfl hP hD
/-! receivers -/
theorem rcB (hC : cx g s H0) (hW : Wd g σ μ o H) : ∃ cell : Cell, H[gA g 0]? = some cell ∧ cell.vm.isStatics = false ∧ s.vm.findClass RX2 = some cell.cls := va_recv hC.1 hW.1 (ci := 2) (q0 := 0) rfl rfl
theorem rcE (hC : cx g s H0) (hW : Wd g σ μ o H) {j : Nat} (hj : j < 16) : ∃ cell : Cell, H[gA g (13 + j)]? = some cell ∧ cell.vm.isStatics = false ∧ s.vm.findClass RX1 = some cell.cls := va_recv hC.1 hW.1 (ci := 1) (q0 := 4 + j) rfl (wWd_ent g σ μ o hj)
theorem rcL (hC : cx g s H0) (hW : Wd g σ μ o H) : ∃ cell : Cell, H[gA g 2]? = some cell ∧ cell.vm.isStatics = false ∧ s.vm.findClass RX0 = some cell.cls := va_recv hC.1 hW.1 (ci := 0) (q0 := 2) rfl rfl
end RW3
