section
-- ===== PART A: goes FIRST, ahead of the names: the tables' words, and 'selects' of the private methods out of them =====
/-- a private method of a class that the tables say can be made, by its rows of tables_1 -/
def lw_okq (q : MethodName × Nat) : Prop := (q.1.cls ≠ "java/lang/invoke/MethodHandle" ∧ q.1.cls ≠ "java/lang/invoke/VarHandle") ∧ Cond.instantiable q.1.cls q.2 ∈ tables_1 ∧ Cond.privateMethod q.1 ∈ tables_1 ∧ Cond.instanceMethod q.1 ∈ tables_1
theorem lw_p0 : lw_okq (⟨"java/lang/Throwable", "fillInStackTrace", "(I)Ljava/lang/Throwable;"⟩, 6) := ⟨⟨by decide +kernel, by decide +kernel⟩, List.mem_of_getElem? (i := 158) (by decide +kernel), List.mem_of_getElem? (i := 156) (by decide +kernel), List.mem_of_getElem? (i := 157) (by decide +kernel)⟩
theorem lw_p1 : lw_okq (⟨"BootChooser", "freeRow", "()LBootChooser$Entry;"⟩, 9) := ⟨⟨by decide +kernel, by decide +kernel⟩, List.mem_of_getElem? (i := 12) (by decide +kernel), List.mem_of_getElem? (i := 189) (by decide +kernel), List.mem_of_getElem? (i := 190) (by decide +kernel)⟩
theorem lw_p2 : lw_okq (⟨"BootChooser$Entry", "fill", "(IIIIII)V"⟩, 8) := ⟨⟨by decide +kernel, by decide +kernel⟩, List.mem_of_getElem? (i := 45) (by decide +kernel), List.mem_of_getElem? (i := 209) (by decide +kernel), List.mem_of_getElem? (i := 210) (by decide +kernel)⟩
theorem lw_p3 : lw_okq (⟨"BootChooser", "presentEntry", "(I)LBootChooser$Entry;"⟩, 9) := ⟨⟨by decide +kernel, by decide +kernel⟩, List.mem_of_getElem? (i := 12) (by decide +kernel), List.mem_of_getElem? (i := 217) (by decide +kernel), List.mem_of_getElem? (i := 218) (by decide +kernel)⟩
theorem lw_p4 : lw_okq (⟨"BootChooser", "findEntry", "(I)LBootChooser$Entry;"⟩, 9) := ⟨⟨by decide +kernel, by decide +kernel⟩, List.mem_of_getElem? (i := 12) (by decide +kernel), List.mem_of_getElem? (i := 221) (by decide +kernel), List.mem_of_getElem? (i := 222) (by decide +kernel)⟩
theorem lw_p5 : lw_okq (⟨"BootChooser", "countEntries", "()I"⟩, 9) := ⟨⟨by decide +kernel, by decide +kernel⟩, List.mem_of_getElem? (i := 12) (by decide +kernel), List.mem_of_getElem? (i := 241) (by decide +kernel), List.mem_of_getElem? (i := 242) (by decide +kernel)⟩
theorem lw_p6 : lw_okq (⟨"BootChooser", "entryWithPlace", "(I)LBootChooser$Entry;"⟩, 9) := ⟨⟨by decide +kernel, by decide +kernel⟩, List.mem_of_getElem? (i := 12) (by decide +kernel), List.mem_of_getElem? (i := 253) (by decide +kernel), List.mem_of_getElem? (i := 254) (by decide +kernel)⟩
theorem lw_p7 : lw_okq (⟨"BootChooser", "countAhead", "(LBootChooser$Entry;)I"⟩, 9) := ⟨⟨by decide +kernel, by decide +kernel⟩, List.mem_of_getElem? (i := 12) (by decide +kernel), List.mem_of_getElem? (i := 257) (by decide +kernel), List.mem_of_getElem? (i := 258) (by decide +kernel)⟩
theorem lw_p8 : lw_okq (⟨"BootChooser$Entry", "isAheadOf", "(LBootChooser$Entry;)Z"⟩, 8) := ⟨⟨by decide +kernel, by decide +kernel⟩, List.mem_of_getElem? (i := 45) (by decide +kernel), List.mem_of_getElem? (i := 261) (by decide +kernel), List.mem_of_getElem? (i := 262) (by decide +kernel)⟩
theorem lw_p9 : lw_okq (⟨"BootChooser$Entry", "isBad", "()Z"⟩, 8) := ⟨⟨by decide +kernel, by decide +kernel⟩, List.mem_of_getElem? (i := 45) (by decide +kernel), List.mem_of_getElem? (i := 265) (by decide +kernel), List.mem_of_getElem? (i := 266) (by decide +kernel)⟩
theorem lw_p10 : lw_okq (⟨"BootChooser$Entry", "compareVersion", "(LBootChooser$Entry;)I"⟩, 8) := ⟨⟨by decide +kernel, by decide +kernel⟩, List.mem_of_getElem? (i := 45) (by decide +kernel), List.mem_of_getElem? (i := 269) (by decide +kernel), List.mem_of_getElem? (i := 270) (by decide +kernel)⟩
theorem lw_p11 : lw_okq (⟨"BootChooser", "nextEntry", "()LBootChooser$Entry;"⟩, 9) := ⟨⟨by decide +kernel, by decide +kernel⟩, List.mem_of_getElem? (i := 12) (by decide +kernel), List.mem_of_getElem? (i := 297) (by decide +kernel), List.mem_of_getElem? (i := 298) (by decide +kernel)⟩
theorem lw_p12 : lw_okq (⟨"BootChooser", "firstFittingNotBad", "()LBootChooser$Entry;"⟩, 9) := ⟨⟨by decide +kernel, by decide +kernel⟩, List.mem_of_getElem? (i := 12) (by decide +kernel), List.mem_of_getElem? (i := 302) (by decide +kernel), List.mem_of_getElem? (i := 303) (by decide +kernel)⟩
theorem lw_p13 : lw_okq (⟨"BootChooser", "isFitting", "(LBootChooser$Entry;)Z"⟩, 9) := ⟨⟨by decide +kernel, by decide +kernel⟩, List.mem_of_getElem? (i := 12) (by decide +kernel), List.mem_of_getElem? (i := 306) (by decide +kernel), List.mem_of_getElem? (i := 307) (by decide +kernel)⟩
theorem lw_p14 : lw_okq (⟨"BootChooser", "refuseIfLocked", "()V"⟩, 9) := ⟨⟨by decide +kernel, by decide +kernel⟩, List.mem_of_getElem? (i := 12) (by decide +kernel), List.mem_of_getElem? (i := 329) (by decide +kernel), List.mem_of_getElem? (i := 330) (by decide +kernel)⟩
theorem lw_p15 : lw_okq (⟨"BootChooser", "refuseAsChoice", "(I)V"⟩, 9) := ⟨⟨by decide +kernel, by decide +kernel⟩, List.mem_of_getElem? (i := 12) (by decide +kernel), List.mem_of_getElem? (i := 338) (by decide +kernel), List.mem_of_getElem? (i := 339) (by decide +kernel)⟩
def lw_privs_1 : List (MethodName × Nat) := [(⟨"java/lang/Throwable", "fillInStackTrace", "(I)Ljava/lang/Throwable;"⟩, 6), (⟨"BootChooser", "freeRow", "()LBootChooser$Entry;"⟩, 9), (⟨"BootChooser$Entry", "fill", "(IIIIII)V"⟩, 8), (⟨"BootChooser", "presentEntry", "(I)LBootChooser$Entry;"⟩, 9), (⟨"BootChooser", "findEntry", "(I)LBootChooser$Entry;"⟩, 9), (⟨"BootChooser", "countEntries", "()I"⟩, 9), (⟨"BootChooser", "entryWithPlace", "(I)LBootChooser$Entry;"⟩, 9), (⟨"BootChooser", "countAhead", "(LBootChooser$Entry;)I"⟩, 9), (⟨"BootChooser$Entry", "isAheadOf", "(LBootChooser$Entry;)Z"⟩, 8), (⟨"BootChooser$Entry", "isBad", "()Z"⟩, 8), (⟨"BootChooser$Entry", "compareVersion", "(LBootChooser$Entry;)I"⟩, 8), (⟨"BootChooser", "nextEntry", "()LBootChooser$Entry;"⟩, 9), (⟨"BootChooser", "firstFittingNotBad", "()LBootChooser$Entry;"⟩, 9), (⟨"BootChooser", "isFitting", "(LBootChooser$Entry;)Z"⟩, 9), (⟨"BootChooser", "refuseIfLocked", "()V"⟩, 9), (⟨"BootChooser", "refuseAsChoice", "(I)V"⟩, 9)]
theorem lw_r1 : ∀ q ∈ lw_privs_1, lw_okq q := List.forall_mem_cons.mpr ⟨lw_p0, List.forall_mem_cons.mpr ⟨lw_p1, List.forall_mem_cons.mpr ⟨lw_p2, List.forall_mem_cons.mpr ⟨lw_p3, List.forall_mem_cons.mpr ⟨lw_p4, List.forall_mem_cons.mpr ⟨lw_p5, List.forall_mem_cons.mpr ⟨lw_p6, List.forall_mem_cons.mpr ⟨lw_p7, List.forall_mem_cons.mpr ⟨lw_p8, List.forall_mem_cons.mpr ⟨lw_p9, List.forall_mem_cons.mpr ⟨lw_p10, List.forall_mem_cons.mpr ⟨lw_p11, List.forall_mem_cons.mpr ⟨lw_p12, List.forall_mem_cons.mpr ⟨lw_p13, List.forall_mem_cons.mpr ⟨lw_p14, List.forall_mem_cons.mpr ⟨lw_p15, fun _ h => absurd h List.not_mem_nil⟩⟩⟩⟩⟩⟩⟩⟩⟩⟩⟩⟩⟩⟩⟩⟩
theorem lw_p16 : lw_okq (⟨"BootChooser", "countFitting", "()I"⟩, 9) := ⟨⟨by decide +kernel, by decide +kernel⟩, List.mem_of_getElem? (i := 12) (by decide +kernel), List.mem_of_getElem? (i := 351) (by decide +kernel), List.mem_of_getElem? (i := 352) (by decide +kernel)⟩
theorem lw_p17 : lw_okq (⟨"BootChooser", "measure", "(LBootChooser$Entry;)I"⟩, 9) := ⟨⟨by decide +kernel, by decide +kernel⟩, List.mem_of_getElem? (i := 12) (by decide +kernel), List.mem_of_getElem? (i := 360) (by decide +kernel), List.mem_of_getElem? (i := 361) (by decide +kernel)⟩
theorem lw_p18 : lw_okq (⟨"BootChooser$Entry", "useTry", "()V"⟩, 8) := ⟨⟨by decide +kernel, by decide +kernel⟩, List.mem_of_getElem? (i := 45) (by decide +kernel), List.mem_of_getElem? (i := 369) (by decide +kernel), List.mem_of_getElem? (i := 370) (by decide +kernel)⟩
theorem lw_p19 : lw_okq (⟨"BootChooser$CodeLock", "forgetDigits", "()V"⟩, 5) := ⟨⟨by decide +kernel, by decide +kernel⟩, List.mem_of_getElem? (i := 22) (by decide +kernel), List.mem_of_getElem? (i := 373) (by decide +kernel), List.mem_of_getElem? (i := 374) (by decide +kernel)⟩
theorem lw_p20 : lw_okq (⟨"BootChooser$CodeLock", "takeDigit", "(I)Z"⟩, 5) := ⟨⟨by decide +kernel, by decide +kernel⟩, List.mem_of_getElem? (i := 22) (by decide +kernel), List.mem_of_getElem? (i := 387) (by decide +kernel), List.mem_of_getElem? (i := 388) (by decide +kernel)⟩
theorem lw_p21 : lw_okq (⟨"BootChooser$CodeLock", "endsInCode", "()Z"⟩, 5) := ⟨⟨by decide +kernel, by decide +kernel⟩, List.mem_of_getElem? (i := 22) (by decide +kernel), List.mem_of_getElem? (i := 394) (by decide +kernel), List.mem_of_getElem? (i := 395) (by decide +kernel)⟩
theorem lw_p22 : lw_okq (⟨"BootChooser$CodeLock", "close", "(II)V"⟩, 5) := ⟨⟨by decide +kernel, by decide +kernel⟩, List.mem_of_getElem? (i := 22) (by decide +kernel), List.mem_of_getElem? (i := 419) (by decide +kernel), List.mem_of_getElem? (i := 420) (by decide +kernel)⟩
def lw_privs_2 : List (MethodName × Nat) := [(⟨"BootChooser", "countFitting", "()I"⟩, 9), (⟨"BootChooser", "measure", "(LBootChooser$Entry;)I"⟩, 9), (⟨"BootChooser$Entry", "useTry", "()V"⟩, 8), (⟨"BootChooser$CodeLock", "forgetDigits", "()V"⟩, 5), (⟨"BootChooser$CodeLock", "takeDigit", "(I)Z"⟩, 5), (⟨"BootChooser$CodeLock", "endsInCode", "()Z"⟩, 5), (⟨"BootChooser$CodeLock", "close", "(II)V"⟩, 5)]
theorem lw_r2 : ∀ q ∈ lw_privs_2, lw_okq q := List.forall_mem_cons.mpr ⟨lw_p16, List.forall_mem_cons.mpr ⟨lw_p17, List.forall_mem_cons.mpr ⟨lw_p18, List.forall_mem_cons.mpr ⟨lw_p19, List.forall_mem_cons.mpr ⟨lw_p20, List.forall_mem_cons.mpr ⟨lw_p21, List.forall_mem_cons.mpr ⟨lw_p22, fun _ h => absurd h List.not_mem_nil⟩⟩⟩⟩⟩⟩⟩
def lw_privs : List (MethodName × Nat) := lw_privs_1 ++ (lw_privs_2)
def lw_tbl : List Cond := k2_sels lw_privs ++ tables_1
theorem lw_privs_ok : ∀ q ∈ lw_privs, lw_okq q := by
  show ∀ q ∈ lw_privs_1 ++ (lw_privs_2), lw_okq q
  exact List.forall_mem_append.mpr ⟨lw_r1, lw_r2⟩
-- ===== end of PART A; then your names; then what follows =====
end
section
/-! ===== BEGIN words of one list among another's, by their places ===== -/
theorem goodIn_r {big : List Cond} (ws : List Cond) (ps : List Nat) (hp : ws = ps.filterMap (fun i => big[i]?)) (h : ws.all goodWord = true) : GoodIn big ws := by
  intro w hw
  have h1 := List.all_eq_true.mp h w hw
  rw [hp] at hw
  obtain ⟨i, -, hi⟩ := List.mem_filterMap.mp hw
  have hm : w ∈ big := by first | exact List.mem_of_getElem? hi | exact List.getElem?_mem hi
  exact ⟨hm, good_of_word h1⟩
theorem goodIn_app {big a b : List Cond} (ha : GoodIn big a) (hb : GoodIn big b) : GoodIn big (a ++ b) := fun w h => (List.mem_append.mp h).elim (ha w) (hb w)
theorem goodIn_ca {big a b : List Cond} {c : Cond} (ha : GoodIn big (c :: a)) (hb : GoodIn big b) : GoodIn big (c :: (a ++ b)) := fun w h => (List.mem_cons.mp h).elim (fun e => ha w (List.mem_cons.mpr (Or.inl e))) (fun h => (List.mem_append.mp h).elim (fun h => ha w (List.mem_cons.mpr (Or.inr h))) (hb w))
theorem goodIn_sub {big ws : List Cond} (hm : ∀ w ∈ ws, w ∈ big) (h : ws.all goodWord = true) : GoodIn big ws := fun w hw => ⟨hm w hw, good_of_word (List.all_eq_true.mp h w hw)⟩
/-! ===== END ===== -/

/-! ===== BEGIN exceptions that leave a method, and their catching by the caller (launches without stack traces) ===== -/
section VXA
/-! The laws vx_back, vx_callV, vx_callS, vx_callSW, vx_throw0, vx_throwS follow proofs of the library, with one case more: JvmDerived/Free/Laws.lean (Back.of_free), Shelf42/LK1.lean (callV, callS), Shelf/KitTraced.lean (throwNew0V, throwNewS). -/
/-- where a method has thrown q: the class by its name, the cell, what was written, the world -/
def vx_T (XC : String → State → State → Prop) (st : State) (q : Addr) (t : State) (mc ms : Nat) (free : Addr → Prop) : Prop :=
  ∃ (E : String) (ce : Cell) (L : List Loc), XC E st t ∧ t.heap[q]? = some ce ∧ ce.vm = .none ∧ st.vm.findClass E = some ce.cls ∧ st.WarmedH t.vm ∧ st.sameButNew ({ t with vm := st.vm } : State) L mc ms ∧ ∀ z ∈ L, free z.base
def vx_Q (Qc : Array Value → State → Outcome → State → Prop) (XC : String → State → State → Prop) (mc ms : Nat) (free : Addr → Prop) : Array Value → State → Outcome → State → Prop := fun a st o t =>
  (Qc a st o t ∧ ∃ L, FrameEnd st o t L mc ms ∧ ∀ q ∈ L, free q.base) ∨ ∃ q, o = .threw q ∧ vx_T XC st q t mc ms free
/-- a callee that returns or throws -/
def vx_Met (l : Launch) (y : MethodName) (ws : List Cond) (rm : Room) (Pc : Array Value → State → Prop) (Qc : Array Value → State → Outcome → State → Prop) (XC : String → State → State → Prop) (mc ms : Nat) (free : Addr → Prop) : Prop :=
  MetFree l y (headSpec ws rm) Pc (fun _ _ _ _ _ => True) (vx_Q Qc XC mc ms free)
def vx_Post (XC : String → State → State → Prop) (mc ms : Nat) (free : Addr → Prop) : Pt → Array Value → Addr → Pt → Prop := fun A a q B =>
  ∃ (g : JFrame) (mk : MethodId) (t : State) (L : List Loc) (E : String) (ce : Cell), B.U.heap = t.heap ∧ B.U.vm = t.vm ∧ XC E (A.U.calling g mk a) t ∧ t.heap[q]? = some ce ∧ ce.vm = .none ∧ A.U.vm.findClass E = some ce.cls ∧ B.locs = A.locs ++ L ∧ (∀ z ∈ L, free z.base) ∧ B.cells = A.cells + mc ∧ B.slots = A.slots + ms
def vx_Back (l : Launch) (R : Room) (p : Program) (e : Env) (below : List Frame) (s : State) (sargs : Array Value) (y : MethodName) (len W9 : Nat)
    (Pre : Pt → Array Value → Prop) (Post : Pt → Array Value → Option Value → Pt → Prop) (PostX : Pt → Array Value → Addr → Pt → Prop) : Prop :=
  ∀ (m : MethodId) (meth : Method) (c : Code) (A : Pt) (g : JFrame) (ig : Instr) (mk : MethodId) (a : Array Value),
    Stand p l e R s m sargs below meth c A.U A.locs A.cells A.slots → g.method = m → g.locals.size = c.maxLocals → decode c.code g.pc = .ok (ig, len) →
    2 * g.monitorRoom + (g.stack.map fun v => v.category).sum ≤ W9 → A.U.methodNamed? y = some mk → Pre A a →
    (∃ (v : Option Value) (B : Pt), Stand p l e R s m sargs below meth c B.U B.locs B.cells B.slots ∧ Post A a v B ∧
      Steps p.tables e below (doInvoke e (A.U.setTop g) [] mk a).1 (B.U.setTop { g with pc := g.pc + len, stack := v.toList ++ g.stack })) ∨
    (∃ (q : Addr) (B : Pt), Stand p l e R s m sargs below meth c B.U B.locs B.cells B.slots ∧ PostX A a q B ∧
      Steps p.tables e below (doInvoke e (A.U.setTop g) [] mk a).1 ((B.U.setTop g).pushFrame (.throwing q)))
section Payer
variable {l : Launch} {R : Room} {p : Program} {e : Env} {below : List Frame} {s : State} {sargs : Array Value} {y : MethodName} {len W9 : Nat}
theorem vx_back {ws : List Cond} {rm : Room} {Pc : Array Value → State → Prop} {Qc : Array Value → State → Outcome → State → Prop} {XC : String → State → State → Prop} {mc ms : Nat} {free : Addr → Prop} {bytes : ByteArray} {maxL : Nat} {ret : Option FieldType}
    (hM : vx_Met l y ws rm Pc Qc XC mc ms free) (hblind : FrameBlind Pc) (hrc : rm.cells = mc) (hrs : rm.slots = ms)
    (hframes : rm.frames + 1 ≤ R.frames) (hlocals : W9 + (maxL + 11) + rm.locals ≤ R.locals)
    (hws : ∀ w ∈ ws, ∀ a' U, s.WarmedH U.vm → w.before a' U = true) (hcode : Cond.code y bytes maxL ret ∈ ws) (hinit : ∀ a' U, s.WarmedH U.vm → (Cond.initialized y.cls).before a' U = true) :
    vx_Back l R p e below s sargs y len W9 (PreOf R mc ms Pc) (PostOf Qc mc ms free) (vx_Post XC mc ms free) := by
  intro m meth c A g ig mk a X hg hsize hdg hW hn hp
  have h1 : (headSpec ws rm).pre.before a A.U = true := atoms_intro fun w hw => hws w hw _ _ X.warmed
  have h2 : (Cond.code y bytes maxL ret).before a A.U = true := hws _ hcode _ _ X.warmed
  have h3 : (Cond.initialized y.cls).before a A.U = true := hinit _ _ X.warmed
  have h4 : A.cells + (headSpec ws rm).room.cells ≤ R.cells := by rw [show (headSpec ws rm).room.cells = mc from hrc]; exact hp.1
  have h5 : A.slots + (headSpec ws rm).room.slots ≤ R.slots := by rw [show (headSpec ws rm).room.slots = ms from hrs]; exact hp.2.1
  have hPc : Pc a (A.U.calling g mk a) := hblind _ _ _ _ hp.2.2
  obtain ⟨U, Ls, c0, s0⟩ := A
  dsimp only [Pt.U, Pt.locs, Pt.cells, Pt.slots] at h1 h2 h3 h4 h5 X hn hPc ⊢
  obtain ⟨methY, cY, hmY, hcY, -, hlY, -, -, -, -⟩ := Cond.code_spec hn h2
  obtain ⟨kY, hkY, -⟩ := className_of_methodNamed hn
  have hinitY : kY.init = .initialized := Cond.initialized_spec (findClass_of_methodNamed hn) hkY h3
  have h : At U g.method c below := by rw [hg]; exact X.here
  have hlocals9 : W9 + (maxL + 11) + (headSpec ws rm).room.locals ≤ R.locals := hlocals
  have happ : (headSpec ws rm).appliesLoose y e.platform (U.calling g mk a) = true :=
    Spec.appliesLoose_calling (g := g) h hdg hn hkY hinitY
      (X.room_calling (g := g) (R' := (headSpec ws rm).room) hsize hmY hcY hframes (by rw [hlY]; omega) h4 h5) h1
  obtain ⟨mid, hmid⟩ := h.above
  have hfr : (U.setTop g).frames = (.java g :: mid) ++ below := by rw [State.frames_setTop' g h.top, hmid]; rfl
  obtain ⟨o, s₂, hsteps, -, hend, hq⟩ := Steps.callFree hM p X.admits X.cas X.clock (acts := []) hfr happ hPc trivial
  have hq' : vx_Q Qc XC mc ms free a (U.calling g mk a) o s₂ := hq
  rw [State.frames_setTop' g h.top] at hend
  obtain ⟨g₀, hg0⟩ := Option.isSome_iff_exists.mp h.top
  obtain ⟨r, hr⟩ := State.topJava?_eq_some.mp hg0
  have hr' : (({ U with heap := s₂.heap, slotsUsed := s₂.slotsUsed } : State).setVm s₂.vm).frames = .java g₀ :: r := hr
  rcases hq' with ⟨hqc, L, hfe, hL⟩ | ⟨q, rfl, E, ce, L, hx, hce, hcv, hcl, hW₂, hsm, hL⟩
  · obtain ⟨⟨v, rfl⟩, hW₂, e2, q2, q3, q4, q5, q6⟩ := id hfe
    have e3 : s₂ = ({ (U.calling g mk a).setFrames s₂.frames with heap := s₂.heap, slotsUsed := s₂.slotsUsed } : State).setVm s₂.vm := by
      have : s₂ = ({ s₂ with vm := (U.calling g mk a).vm } : State).setVm s₂.vm := rfl
      rw [e2] at this
      exact this
    obtain ⟨c₂, i₂, len₂, hc₂, hd₂, hf₂⟩ := hend
    have hW' : U.WarmedH s₂.vm := hW₂
    have hcc : c₂ = c := by
      have h1 : s₂.code? g.method = U.code? g.method := by
        rw [State.code?_eq, State.code?_eq, hW'.alike.method?]
      exact Option.some.inj (hc₂.symm.trans (h1.trans h.code))
    subst hcc
    have hlen : len₂ = len := by rw [hdg] at hd₂; cases hd₂; rfl
    subst hlen
    have hs₂ : s₂ = (({ U with heap := s₂.heap, slotsUsed := s₂.slotsUsed } : State).setVm s₂.vm).setTop { g with pc := g.pc + len₂, stack := v.toList ++ g.stack } := by
      refine e3.trans ?_
      rw [hf₂, State.calling_eq h.top, State.setFrames_setFrames, State.setTop_of_frames _ hr', hr]
      rfl
    have hsame : U.sameButNew ({ U with heap := s₂.heap, slotsUsed := s₂.slotsUsed } : State) L mc ms := by
      refine ⟨?_, q2, q3, q4, q5, q6⟩
      obtain ⟨t, ht, -⟩ := State.frames_cons hr
      show ({ U with heap := s₂.heap, slotsUsed := s₂.slotsUsed } : State) = { U.setFrames U.frames with heap := s₂.heap, slotsUsed := s₂.slotsUsed }
      rw [State.setFrames_self ht]
    subst hg
    refine Or.inl ⟨v, ⟨(({ U with heap := s₂.heap, slotsUsed := s₂.slotsUsed } : State).setVm s₂.vm), Ls ++ L, c0 + mc, s0 + ms⟩,
      ⟨X.admits, X.cas, X.clock, X.frames, X.room, X.hears, X.method, X.code, (X.here.setHeapUsed s₂.heap s₂.slotsUsed).setVm hW'.alike, X.tail, State.WarmedH.trans X.warmed hW', X.limits, X.bytes, X.same.trans (hsame.setVm s.vm)⟩,
      ⟨g, mk, s₂, L, rfl, rfl, hqc, rfl, hL, rfl, rfl⟩, ?_⟩
    show Steps p.tables e below _ ((({ U with heap := s₂.heap, slotsUsed := s₂.slotsUsed } : State).setVm s₂.vm).setTop { g with pc := g.pc + len₂, stack := v.toList ++ g.stack })
    rw [← hs₂]
    exact hsteps
  · obtain ⟨e2, q2, q3, q4, q5, q6⟩ := id hsm
    have e3 : s₂ = ({ (U.calling g mk a).setFrames s₂.frames with heap := s₂.heap, slotsUsed := s₂.slotsUsed } : State).setVm s₂.vm := by
      have : s₂ = ({ s₂ with vm := (U.calling g mk a).vm } : State).setVm s₂.vm := rfl
      rw [e2] at this
      exact this
    have hf₂ : s₂.frames = .throwing q :: .java g :: U.frames.tail := hend
    have hW' : U.WarmedH s₂.vm := hW₂
    have hs₂ : s₂ = ((({ U with heap := s₂.heap, slotsUsed := s₂.slotsUsed } : State).setVm s₂.vm).setTop g).pushFrame (.throwing q) := by
      refine e3.trans ?_
      rw [hf₂, State.calling_eq h.top, State.setFrames_setFrames, State.pushFrame, State.frames_setTop _ hr', State.setTop_of_frames _ hr', State.setFrames_setFrames, hr]
      rfl
    have hsame : U.sameButNew ({ U with heap := s₂.heap, slotsUsed := s₂.slotsUsed } : State) L mc ms := by
      refine ⟨?_, q2, q3, q4, q5, q6⟩
      obtain ⟨t, ht, -⟩ := State.frames_cons hr
      show ({ U with heap := s₂.heap, slotsUsed := s₂.slotsUsed } : State) = { U.setFrames U.frames with heap := s₂.heap, slotsUsed := s₂.slotsUsed }
      rw [State.setFrames_self ht]
    subst hg
    refine Or.inr ⟨q, ⟨(({ U with heap := s₂.heap, slotsUsed := s₂.slotsUsed } : State).setVm s₂.vm), Ls ++ L, c0 + mc, s0 + ms⟩,
      ⟨X.admits, X.cas, X.clock, X.frames, X.room, X.hears, X.method, X.code, (X.here.setHeapUsed s₂.heap s₂.slotsUsed).setVm hW'.alike, X.tail, State.WarmedH.trans X.warmed hW', X.limits, X.bytes, X.same.trans (hsame.setVm s.vm)⟩,
      ⟨g, mk, s₂, L, E, ce, rfl, rfl, hx, hce, hcv, hcl, rfl, hL, rfl, rfl⟩, ?_⟩
    show Steps p.tables e below _ (((({ U with heap := s₂.heap, slotsUsed := s₂.slotsUsed } : State).setVm s₂.vm).setTop g).pushFrame (.throwing q))
    rw [← hs₂]
    exact hsteps
end Payer
section Calls
variable {p : Program} {l : Launch} {e : Env} {R : Room} {s : State} {m : MethodId} {args : Array Value} {below : List Frame} {meth : Method} {c : Code} {T : State} {locs : List Loc} {cells slots : Nat}
theorem vx_callV (X : Stand p l e R s m args below meth c T locs cells slots) (hexec : p.tables.exec = Jvm.exec) {own C : String} {index : Nat} {y : MethodName} {bytes : ByteArray} {maxL : Nat} {ret : Option FieldType}
    (hown : s.vm.findClass own = some m.cls) (hlink : (Cond.methodLink own index y).before args s = true) (hinst : (Cond.instanceMethod y).before args s = true) (hsel : (Cond.selects C y y).before args s = true)
    (hcode : (Cond.code y bytes maxL ret).before args s = true) (hy : y.cls ≠ "java/lang/invoke/MethodHandle" ∧ y.cls ≠ "java/lang/invoke/VarHandle")
    {W9 : Nat} {Pre : Pt → Array Value → Prop} {Post : Pt → Array Value → Option Value → Pt → Prop} {PostX : Pt → Array Value → Addr → Pt → Prop} (hK : vx_Back l R p e below s args y 3 W9 Pre Post PostX)
    {b : Addr} {cellB : Cell} (hcell : T.heap[b]? = some cellB) (hobj : cellB.vm.isStatics = false) (hcls : s.vm.findClass C = some cellB.cls)
    {g : JFrame} (hg : g.method = m) (hsize : g.locals.size = c.maxLocals) {argsL rest : List Value} (hlen : ∀ sig, parseMethodDescriptor y.desc = some sig → argsL.length = sig.parameters.length)
    (hstack : g.stack = argsL.reverse ++ .ref b :: rest) (hW : 2 * g.monitorRoom + (rest.map fun v => v.category).sum ≤ W9) (hdg : decode c.code g.pc = .ok (.invokevirtual index, 3))
    (hpre : ∀ vm₁, s.WarmedH vm₁ → Pre ⟨T.setVm vm₁, locs, cells, slots⟩ (Value.ref b :: argsL).toArray) :
    (∃ (v : Option Value) (vm₁ : Vm) (B : Pt), s.WarmedH vm₁ ∧ Stand p l e R s m args below meth c B.U B.locs B.cells B.slots ∧ Post ⟨T.setVm vm₁, locs, cells, slots⟩ (Value.ref b :: argsL).toArray v B ∧
      ∀ target, Steps p.tables e below (B.U.setTop { g with pc := g.pc + 3, stack := v.toList ++ rest }) target → Steps p.tables e below (T.setTop g) target) ∨
    (∃ (q : Addr) (vm₁ : Vm) (B : Pt), s.WarmedH vm₁ ∧ Stand p l e R s m args below meth c B.U B.locs B.cells B.slots ∧ PostX ⟨T.setVm vm₁, locs, cells, slots⟩ (Value.ref b :: argsL).toArray q B ∧
      Steps p.tables e below (T.setTop g) ((B.U.setTop { g with stack := rest }).pushFrame (.throwing q))) := by
  obtain ⟨mk, methM, hnamed, hmethM, hstM, habM⟩ := Cond.instanceMethod_spec hinst
  obtain ⟨methM', cM, hmethM', -, -, -, -, -, -, hsigM⟩ := Cond.code_spec hnamed hcode
  cases hmethM.symm.trans hmethM'
  obtain ⟨c2, r2, m2, q1, q2, q3, q4, kP, hkP, hkPi⟩ := Cond.selects_spec hsel
  cases hcls.symm.trans q1
  cases (State.methodFound?_of_named hnamed hy).symm.trans q2
  cases hnamed.symm.trans q3
  have hselP : selectMethod e.platform s.vm cellB.cls mk = .method mk := by rw [Launch.admits_selectMethod X.admits]; exact q4
  obtain ⟨vm₁, X₁, hstep₁⟩ := X.invokevirtual hexec hown hlink hnamed hmethM hstM hkP hkPi hy (a := b) (cell := cellB) hcell
    (fun z h => by rw [h] at hobj; cases hobj) hselP hmethM habM hkP hkPi (g := g) hg (argsL := argsL) (rest := rest) (hlen _ hsigM) hstack hdg
  rcases hK m meth c ⟨T.setVm vm₁, locs, cells, slots⟩ { g with stack := rest } (.invokevirtual index) mk (Value.ref b :: argsL).toArray X₁ hg hsize hdg hW (X₁.named hnamed) (hpre vm₁ X₁.warmed) with ⟨v, B, X', hpost, hsteps⟩ | ⟨q, B, X', hpost, hsteps⟩
  · exact Or.inl ⟨v, vm₁, B, X₁.warmed, X', hpost, fun target h => hstep₁ _ fun acts => by rw [doInvoke_state]; exact hsteps.trans h⟩
  · exact Or.inr ⟨q, vm₁, B, X₁.warmed, X', hpost, hstep₁ _ fun acts => by rw [doInvoke_state]; exact hsteps⟩
theorem vx_callS (X : Stand p l e R s m args below meth c T locs cells slots) (hexec : p.tables.exec = Jvm.exec) {own : String} {index : Nat} {y : MethodName} {bytes : ByteArray} {maxL : Nat} {ret : Option FieldType}
    (hown : s.vm.findClass own = some m.cls) (hlink : (Cond.methodLink own index y).before args s = true) (hstat : (Cond.static y).before args s = true) (hinit : (Cond.initialized y.cls).before args s = true)
    (hcode : (Cond.code y bytes maxL ret).before args s = true) (hy : y.cls ≠ "java/lang/invoke/MethodHandle" ∧ y.cls ≠ "java/lang/invoke/VarHandle")
    {W9 : Nat} {Pre : Pt → Array Value → Prop} {Post : Pt → Array Value → Option Value → Pt → Prop} {PostX : Pt → Array Value → Addr → Pt → Prop} (hK : vx_Back l R p e below s args y 3 W9 Pre Post PostX)
    {g : JFrame} (hg : g.method = m) (hsize : g.locals.size = c.maxLocals) {argsL rest : List Value} (hlen : ∀ sig, parseMethodDescriptor y.desc = some sig → argsL.length = sig.parameters.length)
    (hstack : g.stack = argsL.reverse ++ rest) (hW : 2 * g.monitorRoom + (rest.map fun v => v.category).sum ≤ W9) (hdg : decode c.code g.pc = .ok (.invokestatic index, 3))
    (hpre : ∀ vm₁, s.WarmedH vm₁ → Pre ⟨T.setVm vm₁, locs, cells, slots⟩ argsL.toArray) :
    (∃ (v : Option Value) (vm₁ : Vm) (B : Pt), s.WarmedH vm₁ ∧ Stand p l e R s m args below meth c B.U B.locs B.cells B.slots ∧ Post ⟨T.setVm vm₁, locs, cells, slots⟩ argsL.toArray v B ∧
      ∀ target, Steps p.tables e below (B.U.setTop { g with pc := g.pc + 3, stack := v.toList ++ rest }) target → Steps p.tables e below (T.setTop g) target) ∨
    (∃ (q : Addr) (vm₁ : Vm) (B : Pt), s.WarmedH vm₁ ∧ Stand p l e R s m args below meth c B.U B.locs B.cells B.slots ∧ PostX ⟨T.setVm vm₁, locs, cells, slots⟩ argsL.toArray q B ∧
      Steps p.tables e below (T.setTop g) ((B.U.setTop { g with stack := rest }).pushFrame (.throwing q))) := by
  obtain ⟨mk, hnamed⟩ := Cond.code_named hcode
  obtain ⟨methM, cM, hmethM, -, -, -, -, -, -, hsigM⟩ := Cond.code_spec hnamed hcode
  have hstatic : methM.isStatic = true := Cond.static_spec hnamed hmethM hstat
  obtain ⟨kP, hkP, -⟩ := className_of_methodNamed hnamed
  have hinitP : kP.init = .initialized := Cond.initialized_spec (findClass_of_methodNamed hnamed) hkP hinit
  obtain ⟨vm₁, X₁, hstep₁⟩ := X.invokestatic hexec hown hlink hnamed hmethM hstatic hkP hinitP hy (g := g) hg (argsL := argsL) (rest := rest) (hlen _ hsigM) hstack hdg
  rcases hK m meth c ⟨T.setVm vm₁, locs, cells, slots⟩ { g with stack := rest } (.invokestatic index) mk argsL.toArray X₁ hg hsize hdg hW (X₁.named hnamed) (hpre vm₁ X₁.warmed) with ⟨v, B, X', hpost, hsteps⟩ | ⟨q, B, X', hpost, hsteps⟩
  · exact Or.inl ⟨v, vm₁, B, X₁.warmed, X', hpost, fun target h => hstep₁ _ fun acts => by rw [doInvoke_state]; exact hsteps.trans h⟩
  · exact Or.inr ⟨q, vm₁, B, X₁.warmed, X', hpost, hstep₁ _ fun acts => by rw [doInvoke_state]; exact hsteps⟩
end Calls
theorem vx_cls {s : State} {T : State} {vm₁ : Vm} {E : String} {k : ClassId} (hW : s.WarmedH vm₁) (h : (T.setVm vm₁).vm.findClass E = some k) : s.vm.findClass E = some k := by
  have h1 : vm₁.findClass E = some k := h
  rw [hW.alike.findClass] at h1
  exact h1
/-- the method's frame g, with q thrown over it -/
def vx_W (p : Program) (l : Launch) (e : Env) (R : Room) (s : State) (m : MethodId) (args : Array Value) (below : List Frame) (meth : Method) (c : Code) (H : Heap) (locs : List Loc) (cells slots : Nat) (Q : State → Prop) (g : JFrame) (q : Addr) : Prop :=
  ∀ T : State, T.heap = H → Stand p l e R s m args below meth c T locs cells slots → ∃ t, Steps p.tables e below ((T.setTop g).pushFrame (.throwing q)) t ∧ Q t
def vx_Run (p : Program) (l : Launch) (e : Env) (R : Room) (s : State) (m : MethodId) (args : Array Value) (below : List Frame) (meth : Method) (c : Code) (H : Heap) (locs : List Loc) (cells slots mc ms : Nat) (g : JFrame) (rest : List Value) (Qa : State → Outcome → State → Prop) (XC : String → State → State → Prop) (free : Addr → Prop) : Prop :=
  ∀ T : State, T.heap = H → Stand p l e R s m args below meth c T locs cells slots →
    (∃ (v : Option Value) (st₀ t T' : State) (L : List Loc), st₀.heap = H ∧ Stand p l e R s m args below meth c T' (locs ++ L) (cells + mc) (slots + ms) ∧ (∀ q ∈ L, free q.base) ∧ T'.heap = t.heap ∧ T'.vm = t.vm ∧ Qa st₀ (.returned v) t ∧
      Goes p e below T g T' { g with pc := g.pc + 3, stack := v.toList ++ rest }) ∨
    (∃ (q : Addr) (st₀ t T' : State) (L : List Loc) (E : String) (ce : Cell), st₀.heap = H ∧ Stand p l e R s m args below meth c T' (locs ++ L) (cells + mc) (slots + ms) ∧ (∀ z ∈ L, free z.base) ∧ T'.heap = t.heap ∧ T'.vm = t.vm ∧ XC E st₀ t ∧ t.heap[q]? = some ce ∧ ce.vm = .none ∧ s.vm.findClass E = some ce.cls ∧
      Steps p.tables e below (T.setTop g) ((T'.setTop { g with stack := rest }).pushFrame (.throwing q)))
def vx_X {S : Type} (px : S → Prop) (B : String → S → State → Prop) (A : Nat → Prop) : String → State → State → Prop := fun E st t => ∃ u : S, px u ∧ B E u t ∧ va_F A st t
section Runs
variable {p : Program} {l : Launch} {e : Env} {R : Room} {s : State} {m : MethodId} {args : Array Value} {below : List Frame} {meth : Method} {c : Code} {H : Heap} {locs : List Loc} {cells slots : Nat}
variable {y : MethodName} {bytes cc : ByteArray} {maxL nL mc ms n index : Nat} {ret : Option FieldType} {ws : List Cond} {rm : Room} {Pc : Array Value → State → Prop} {Qc : Array Value → State → Outcome → State → Prop} {XC : String → State → State → Prop} {free : Addr → Prop} {Ts : List Cond} {own C : String} {b : Addr} {As rest : List Value} {g : JFrame}
theorem vx_callBack (cb : CallB R s args own index y bytes maxL ret ws rm mc ms n) (hM : vx_Met l y ws rm Pc Qc XC mc ms free) (hbl : FrameBlind Pc) : vx_Back l R p e below s args y 3 8 (PreOf R mc ms Pc) (PostOf Qc mc ms free) (vx_Post XC mc ms free) := by
  obtain ⟨hrc, hrs, hfr, hlo, hws, hcw, -, hini, -⟩ := cb
  exact vx_back (bytes := bytes) (maxL := maxL) (ret := ret) hM hbl hrc hrs hfr hlo hws hcw (fun a' U hW => word_at hW (Or.inl (by first | rfl | simp [Cond.onTables, Cond.keeps, Cond.steady])) hini)
theorem vx_runV (S : CallFix p m c cc nL s args Ts own) (hM : vx_Met l y ws rm Pc Qc XC mc ms free) (cw : CallW R s args own C index y bytes maxL ret ws rm mc ms n) (hp : PreV s H C b Pc As)
    (hg : g.method = m) (hn : As.length = n) (hsize : g.locals.size = nL) (hstack : g.stack = As.reverse ++ .ref b :: rest) (hW : 2 * g.monitorRoom + (rest.map fun v => v.category).sum ≤ 8) (hdg : decode cc g.pc = .ok (.invokevirtual index, 3)) (hf : cells + mc ≤ R.cells ∧ slots + ms ≤ R.slots) :
    vx_Run p l e R s m args below meth c H locs cells slots mc ms g rest (Qc (Value.ref b :: As).toArray) XC free := by
  have hK : vx_Back l R p e below s args y 3 8 (PreOf R mc ms Pc) (PostOf Qc mc ms free) (vx_Post XC mc ms free) := vx_callBack cw.1 hM hp.1
  obtain ⟨⟨-, -, -, -, -, -, hcode, -, hy, hlen, hl⟩, hin, hse⟩ := cw
  obtain ⟨hx, hb, hml, ho, -⟩ := S
  obtain ⟨-, ⟨cellB, hcB, hoB, hclB⟩, hPc⟩ := hp
  intro T hT X
  rcases vx_callV X hx (C := C) (bytes := bytes) (maxL := maxL) (ret := ret) ho hl hin hse hcode hy hK (by rw [hT]; exact hcB) hoB hclB hg (hsize.trans hml.symm) (argsL := As) (rest := rest) (fun sig h => hn.trans (hlen sig h)) hstack hW (by rw [hb]; exact hdg)
    (fun vm₁ hW₁ => ⟨hf.1, hf.2, hPc (T.setVm vm₁) hT hW₁⟩) with ⟨v, vm₁, ⟨U', l2, c2, s2⟩, hW₁, X', ⟨g', mk, t, L, e1, e2, hq, h1, hL, h2, h3⟩, st⟩ | ⟨q, vm₁, ⟨U', l2, c2, s2⟩, hW₁, X', ⟨g', mk, t, L, E, ce, e1, e2, hq, hce, hcv, hcl, h1, hL, h2, h3⟩, st⟩
  · dsimp only [Pt.U, Pt.locs, Pt.cells, Pt.slots] at X' e1 e2 h1 h2 h3 st
    subst h1; subst h2; subst h3
    exact Or.inl ⟨v, (T.setVm vm₁).calling g' mk (Value.ref b :: As).toArray, t, U', L, hT, X', hL, e1, e2, hq, st⟩
  · dsimp only [Pt.U, Pt.locs, Pt.cells, Pt.slots] at X' e1 e2 h1 h2 h3 st hcl
    subst h1; subst h2; subst h3
    exact Or.inr ⟨q, (T.setVm vm₁).calling g' mk (Value.ref b :: As).toArray, t, U', L, E, ce, hT, X', hL, e1, e2, hq, hce, hcv, vx_cls hW₁ hcl, st⟩
theorem vx_runS (S : CallFix p m c cc nL s args Ts own) (hM : vx_Met l y ws rm Pc Qc XC mc ms free) (cw : CallB R s args own index y bytes maxL ret ws rm mc ms n ∧ (Cond.static y).before args s = true) (hp : PreS s H Pc As)
    (hg : g.method = m) (hn : As.length = n) (hsize : g.locals.size = nL) (hstack : g.stack = As.reverse ++ rest) (hW : 2 * g.monitorRoom + (rest.map fun v => v.category).sum ≤ 8) (hdg : decode cc g.pc = .ok (.invokestatic index, 3)) (hf : cells + mc ≤ R.cells ∧ slots + ms ≤ R.slots) :
    vx_Run p l e R s m args below meth c H locs cells slots mc ms g rest (Qc As.toArray) XC free := by
  have hK : vx_Back l R p e below s args y 3 8 (PreOf R mc ms Pc) (PostOf Qc mc ms free) (vx_Post XC mc ms free) := vx_callBack cw.1 hM hp.1
  obtain ⟨⟨-, -, -, -, -, -, hcode, hini, hy, hlen, hl⟩, hstt⟩ := cw
  obtain ⟨hx, hb, hml, ho, -⟩ := S
  intro T hT X
  rcases vx_callS X hx (bytes := bytes) (maxL := maxL) (ret := ret) ho hl hstt hini hcode hy hK hg (hsize.trans hml.symm) (argsL := As) (rest := rest) (fun sig h => hn.trans (hlen sig h)) hstack hW (by rw [hb]; exact hdg)
    (fun vm₁ hW₁ => ⟨hf.1, hf.2, hp.2 (T.setVm vm₁) hT hW₁⟩) with ⟨v, vm₁, ⟨U', l2, c2, s2⟩, hW₁, X', ⟨g', mk, t, L, e1, e2, hq, h1, hL, h2, h3⟩, st⟩ | ⟨q, vm₁, ⟨U', l2, c2, s2⟩, hW₁, X', ⟨g', mk, t, L, E, ce, e1, e2, hq, hce, hcv, hcl, h1, hL, h2, h3⟩, st⟩
  · dsimp only [Pt.U, Pt.locs, Pt.cells, Pt.slots] at X' e1 e2 h1 h2 h3 st
    subst h1; subst h2; subst h3
    exact Or.inl ⟨v, (T.setVm vm₁).calling g' mk As.toArray, t, U', L, hT, X', hL, e1, e2, hq, st⟩
  · dsimp only [Pt.U, Pt.locs, Pt.cells, Pt.slots] at X' e1 e2 h1 h2 h3 st hcl
    subst h1; subst h2; subst h3
    exact Or.inr ⟨q, (T.setVm vm₁).calling g' mk As.toArray, t, U', L, E, ce, hT, X', hL, e1, e2, hq, hce, hcv, vx_cls hW₁ hcl, st⟩
end Runs
section Rows
variable {p : Program} {l : Launch} {e : Env} {R : Room} {s : State} {m : MethodId} {args : Array Value} {below : List Frame} {meth : Method} {c : Code} {H : Heap} {locs : List Loc} {cells slots : Nat} {Q : State → Prop}
variable {mc ms : Nat} {free : Addr → Prop} {A0 A1 : Nat → Prop} {H0 : Heap} {a : Array Value} {pc : Nat} {ls : Array Slot} {st0 rest : List Value}
theorem vx_keep {st₀ t T' : State} {L : List Loc} (h0 : st₀.heap = H) (e1 : T'.heap = t.heap) (hS : va_S A0 H0 H locs) (hA : ∀ q, q < H.size → A1 q → A0 q) (hf : ∀ q, free q → A0 q) (hL : ∀ q ∈ L, free q.base) (hF : va_F A1 st₀ t) :
    H.size ≤ T'.heap.size ∧ (∀ q : Nat, q < H.size → ¬ A1 q → T'.heap[q]? = H[q]?) ∧ va_S A0 H0 T'.heap (locs ++ L) := by
  obtain ⟨hz, hk⟩ := hF
  rw [h0] at hz hk
  exact ⟨by rw [e1]; exact hz, fun q h1 h2 => by rw [e1]; exact hk q h1 h2,
    ⟨Nat.le_trans hS.1 (by rw [e1]; exact hz), fun q h1 h2 => by rw [e1, hk q (Nat.lt_of_lt_of_le h1 hS.1) (fun z => h2 (hA q (Nat.lt_of_lt_of_le h1 hS.1) z))]; exact hS.2.1 q h1 h2, fun q hq => by
      rcases List.mem_append.mp hq with h | h
      · exact hS.2.2 q h
      · exact hf _ (hL q h)⟩⟩
theorem vx_calli {S SX : Type} {post : Int32 → S → Prop} {px : SX → Prop} {B : S → State → Prop} {BX : String → SX → State → Prop} {AX : Nat → Prop} (hr : vx_Run p l e R s m args below meth c H locs cells slots mc ms (F0 m pc ls st0) rest (va_Qi post B A1 a) (vx_X px BX AX) free) (hS : va_S A0 H0 H locs) (hA : ∀ q, q < H.size → A1 q → A0 q) (hf : ∀ q, free q → A0 q) (hAX : ∀ q, q < H.size → AX q → A0 q)
    (kx : ∀ (E : String) (ce : Cell) (q9 : Addr) (u : SX) (t : State) (H1 : Heap) (locs1 : List Loc), t.heap = H1 → s.vm.Alike t.vm → px u → BX E u t → H.size ≤ H1.size → (∀ q : Nat, q < H.size → ¬ AX q → H1[q]? = H[q]?) → va_S A0 H0 H1 locs1 → H1[q9]? = some ce → ce.vm = .none → s.vm.findClass E = some ce.cls → vx_W p l e R s m args below meth c H1 locs1 (cells + mc) (slots + ms) Q (F0 m pc ls rest) q9)
    (kk : ∀ (r : Int32) (u : S) (t : State) (H1 : Heap) (locs1 : List Loc), t.heap = H1 → s.vm.Alike t.vm → post r u → B u t → H.size ≤ H1.size → (∀ q : Nat, q < H.size → ¬ A1 q → H1[q]? = H[q]?) → va_S A0 H0 H1 locs1 → W p l e R s m args below meth c H1 locs1 (cells + mc) (slots + ms) Q (F0 m (pc + 3) ls (.int r :: rest))) : W p l e R s m args below meth c H locs cells slots Q (F0 m pc ls st0) := by
  intro T hT X
  rcases hr T hT X with ⟨v, st₀, t, T', L, h0, X', hL, e1, e2, ⟨⟨r, u, hv, hp, hb⟩, hF⟩, st⟩ | ⟨q, st₀, t, T', L, E, ce, h0, X', hL, e1, e2, ⟨u, hp, hb, hF⟩, hce, hcv, hcl, st⟩
  · cases hv
    obtain ⟨k1, k2, k3⟩ := vx_keep h0 e1 hS hA hf hL hF
    obtain ⟨t2, a1, b1⟩ := kk r u t T'.heap (locs ++ L) e1.symm (by rw [← e2]; exact X'.warmed.alike) hp hb k1 k2 k3 T' rfl X'
    exact ⟨t2, st t2 a1, b1⟩
  · obtain ⟨k1, k2, k3⟩ := vx_keep h0 e1 hS hAX hf hL hF
    obtain ⟨t2, a1, b1⟩ := kx E ce q u t T'.heap (locs ++ L) e1.symm (by rw [← e2]; exact X'.warmed.alike) hp hb k1 k2 k3 (by rw [e1]; exact hce) hcv hcl T' rfl X'
    exact ⟨t2, st.trans a1, b1⟩
theorem vx_calll {S SX : Type} {post : Int64 → S → Prop} {px : SX → Prop} {B : S → State → Prop} {BX : String → SX → State → Prop} {AX : Nat → Prop} (hr : vx_Run p l e R s m args below meth c H locs cells slots mc ms (F0 m pc ls st0) rest (va_Ql post B A1 a) (vx_X px BX AX) free) (hS : va_S A0 H0 H locs) (hA : ∀ q, q < H.size → A1 q → A0 q) (hf : ∀ q, free q → A0 q) (hAX : ∀ q, q < H.size → AX q → A0 q)
    (kx : ∀ (E : String) (ce : Cell) (q9 : Addr) (u : SX) (t : State) (H1 : Heap) (locs1 : List Loc), t.heap = H1 → s.vm.Alike t.vm → px u → BX E u t → H.size ≤ H1.size → (∀ q : Nat, q < H.size → ¬ AX q → H1[q]? = H[q]?) → va_S A0 H0 H1 locs1 → H1[q9]? = some ce → ce.vm = .none → s.vm.findClass E = some ce.cls → vx_W p l e R s m args below meth c H1 locs1 (cells + mc) (slots + ms) Q (F0 m pc ls rest) q9)
    (kk : ∀ (r : Int64) (u : S) (t : State) (H1 : Heap) (locs1 : List Loc), t.heap = H1 → s.vm.Alike t.vm → post r u → B u t → H.size ≤ H1.size → (∀ q : Nat, q < H.size → ¬ A1 q → H1[q]? = H[q]?) → va_S A0 H0 H1 locs1 → W p l e R s m args below meth c H1 locs1 (cells + mc) (slots + ms) Q (F0 m (pc + 3) ls (.long r :: rest))) : W p l e R s m args below meth c H locs cells slots Q (F0 m pc ls st0) := by
  intro T hT X
  rcases hr T hT X with ⟨v, st₀, t, T', L, h0, X', hL, e1, e2, ⟨⟨r, u, hv, hp, hb⟩, hF⟩, st⟩ | ⟨q, st₀, t, T', L, E, ce, h0, X', hL, e1, e2, ⟨u, hp, hb, hF⟩, hce, hcv, hcl, st⟩
  · cases hv
    obtain ⟨k1, k2, k3⟩ := vx_keep h0 e1 hS hA hf hL hF
    obtain ⟨t2, a1, b1⟩ := kk r u t T'.heap (locs ++ L) e1.symm (by rw [← e2]; exact X'.warmed.alike) hp hb k1 k2 k3 T' rfl X'
    exact ⟨t2, st t2 a1, b1⟩
  · obtain ⟨k1, k2, k3⟩ := vx_keep h0 e1 hS hAX hf hL hF
    obtain ⟨t2, a1, b1⟩ := kx E ce q u t T'.heap (locs ++ L) e1.symm (by rw [← e2]; exact X'.warmed.alike) hp hb k1 k2 k3 (by rw [e1]; exact hce) hcv hcl T' rfl X'
    exact ⟨t2, st.trans a1, b1⟩
theorem vx_callf {S SX : Type} {post : UInt32 → S → Prop} {px : SX → Prop} {B : S → State → Prop} {BX : String → SX → State → Prop} {AX : Nat → Prop} (hr : vx_Run p l e R s m args below meth c H locs cells slots mc ms (F0 m pc ls st0) rest (va_Qf post B A1 a) (vx_X px BX AX) free) (hS : va_S A0 H0 H locs) (hA : ∀ q, q < H.size → A1 q → A0 q) (hf : ∀ q, free q → A0 q) (hAX : ∀ q, q < H.size → AX q → A0 q)
    (kx : ∀ (E : String) (ce : Cell) (q9 : Addr) (u : SX) (t : State) (H1 : Heap) (locs1 : List Loc), t.heap = H1 → s.vm.Alike t.vm → px u → BX E u t → H.size ≤ H1.size → (∀ q : Nat, q < H.size → ¬ AX q → H1[q]? = H[q]?) → va_S A0 H0 H1 locs1 → H1[q9]? = some ce → ce.vm = .none → s.vm.findClass E = some ce.cls → vx_W p l e R s m args below meth c H1 locs1 (cells + mc) (slots + ms) Q (F0 m pc ls rest) q9)
    (kk : ∀ (r : UInt32) (u : S) (t : State) (H1 : Heap) (locs1 : List Loc), t.heap = H1 → s.vm.Alike t.vm → post r u → B u t → H.size ≤ H1.size → (∀ q : Nat, q < H.size → ¬ A1 q → H1[q]? = H[q]?) → va_S A0 H0 H1 locs1 → W p l e R s m args below meth c H1 locs1 (cells + mc) (slots + ms) Q (F0 m (pc + 3) ls (.float r :: rest))) : W p l e R s m args below meth c H locs cells slots Q (F0 m pc ls st0) := by
  intro T hT X
  rcases hr T hT X with ⟨v, st₀, t, T', L, h0, X', hL, e1, e2, ⟨⟨r, u, hv, hp, hb⟩, hF⟩, st⟩ | ⟨q, st₀, t, T', L, E, ce, h0, X', hL, e1, e2, ⟨u, hp, hb, hF⟩, hce, hcv, hcl, st⟩
  · cases hv
    obtain ⟨k1, k2, k3⟩ := vx_keep h0 e1 hS hA hf hL hF
    obtain ⟨t2, a1, b1⟩ := kk r u t T'.heap (locs ++ L) e1.symm (by rw [← e2]; exact X'.warmed.alike) hp hb k1 k2 k3 T' rfl X'
    exact ⟨t2, st t2 a1, b1⟩
  · obtain ⟨k1, k2, k3⟩ := vx_keep h0 e1 hS hAX hf hL hF
    obtain ⟨t2, a1, b1⟩ := kx E ce q u t T'.heap (locs ++ L) e1.symm (by rw [← e2]; exact X'.warmed.alike) hp hb k1 k2 k3 (by rw [e1]; exact hce) hcv hcl T' rfl X'
    exact ⟨t2, st.trans a1, b1⟩
theorem vx_calld {S SX : Type} {post : UInt64 → S → Prop} {px : SX → Prop} {B : S → State → Prop} {BX : String → SX → State → Prop} {AX : Nat → Prop} (hr : vx_Run p l e R s m args below meth c H locs cells slots mc ms (F0 m pc ls st0) rest (va_Qd post B A1 a) (vx_X px BX AX) free) (hS : va_S A0 H0 H locs) (hA : ∀ q, q < H.size → A1 q → A0 q) (hf : ∀ q, free q → A0 q) (hAX : ∀ q, q < H.size → AX q → A0 q)
    (kx : ∀ (E : String) (ce : Cell) (q9 : Addr) (u : SX) (t : State) (H1 : Heap) (locs1 : List Loc), t.heap = H1 → s.vm.Alike t.vm → px u → BX E u t → H.size ≤ H1.size → (∀ q : Nat, q < H.size → ¬ AX q → H1[q]? = H[q]?) → va_S A0 H0 H1 locs1 → H1[q9]? = some ce → ce.vm = .none → s.vm.findClass E = some ce.cls → vx_W p l e R s m args below meth c H1 locs1 (cells + mc) (slots + ms) Q (F0 m pc ls rest) q9)
    (kk : ∀ (r : UInt64) (u : S) (t : State) (H1 : Heap) (locs1 : List Loc), t.heap = H1 → s.vm.Alike t.vm → post r u → B u t → H.size ≤ H1.size → (∀ q : Nat, q < H.size → ¬ A1 q → H1[q]? = H[q]?) → va_S A0 H0 H1 locs1 → W p l e R s m args below meth c H1 locs1 (cells + mc) (slots + ms) Q (F0 m (pc + 3) ls (.double r :: rest))) : W p l e R s m args below meth c H locs cells slots Q (F0 m pc ls st0) := by
  intro T hT X
  rcases hr T hT X with ⟨v, st₀, t, T', L, h0, X', hL, e1, e2, ⟨⟨r, u, hv, hp, hb⟩, hF⟩, st⟩ | ⟨q, st₀, t, T', L, E, ce, h0, X', hL, e1, e2, ⟨u, hp, hb, hF⟩, hce, hcv, hcl, st⟩
  · cases hv
    obtain ⟨k1, k2, k3⟩ := vx_keep h0 e1 hS hA hf hL hF
    obtain ⟨t2, a1, b1⟩ := kk r u t T'.heap (locs ++ L) e1.symm (by rw [← e2]; exact X'.warmed.alike) hp hb k1 k2 k3 T' rfl X'
    exact ⟨t2, st t2 a1, b1⟩
  · obtain ⟨k1, k2, k3⟩ := vx_keep h0 e1 hS hAX hf hL hF
    obtain ⟨t2, a1, b1⟩ := kx E ce q u t T'.heap (locs ++ L) e1.symm (by rw [← e2]; exact X'.warmed.alike) hp hb k1 k2 k3 (by rw [e1]; exact hce) hcv hcl T' rfl X'
    exact ⟨t2, st.trans a1, b1⟩
theorem vx_callv {S SX : Type} {post : S → Prop} {px : SX → Prop} {B : S → State → Prop} {BX : String → SX → State → Prop} {AX : Nat → Prop} (hr : vx_Run p l e R s m args below meth c H locs cells slots mc ms (F0 m pc ls st0) rest (va_Qv post B A1 a) (vx_X px BX AX) free) (hS : va_S A0 H0 H locs) (hA : ∀ q, q < H.size → A1 q → A0 q) (hf : ∀ q, free q → A0 q) (hAX : ∀ q, q < H.size → AX q → A0 q)
    (kx : ∀ (E : String) (ce : Cell) (q9 : Addr) (u : SX) (t : State) (H1 : Heap) (locs1 : List Loc), t.heap = H1 → s.vm.Alike t.vm → px u → BX E u t → H.size ≤ H1.size → (∀ q : Nat, q < H.size → ¬ AX q → H1[q]? = H[q]?) → va_S A0 H0 H1 locs1 → H1[q9]? = some ce → ce.vm = .none → s.vm.findClass E = some ce.cls → vx_W p l e R s m args below meth c H1 locs1 (cells + mc) (slots + ms) Q (F0 m pc ls rest) q9)
    (kk : ∀ (u : S) (t : State) (H1 : Heap) (locs1 : List Loc), t.heap = H1 → s.vm.Alike t.vm → post u → B u t → H.size ≤ H1.size → (∀ q : Nat, q < H.size → ¬ A1 q → H1[q]? = H[q]?) → va_S A0 H0 H1 locs1 → W p l e R s m args below meth c H1 locs1 (cells + mc) (slots + ms) Q (F0 m (pc + 3) ls (rest))) : W p l e R s m args below meth c H locs cells slots Q (F0 m pc ls st0) := by
  intro T hT X
  rcases hr T hT X with ⟨v, st₀, t, T', L, h0, X', hL, e1, e2, ⟨⟨u, hv, hp, hb⟩, hF⟩, st⟩ | ⟨q, st₀, t, T', L, E, ce, h0, X', hL, e1, e2, ⟨u, hp, hb, hF⟩, hce, hcv, hcl, st⟩
  · cases hv
    obtain ⟨k1, k2, k3⟩ := vx_keep h0 e1 hS hA hf hL hF
    obtain ⟨t2, a1, b1⟩ := kk u t T'.heap (locs ++ L) e1.symm (by rw [← e2]; exact X'.warmed.alike) hp hb k1 k2 k3 T' rfl X'
    exact ⟨t2, st t2 a1, b1⟩
  · obtain ⟨k1, k2, k3⟩ := vx_keep h0 e1 hS hAX hf hL hF
    obtain ⟨t2, a1, b1⟩ := kx E ce q u t T'.heap (locs ++ L) e1.symm (by rw [← e2]; exact X'.warmed.alike) hp hb k1 k2 k3 (by rw [e1]; exact hce) hcv hcl T' rfl X'
    exact ⟨t2, st.trans a1, b1⟩
/-- caught by the row x of this method's table; the rows ahead don't take it -/
theorem vx_catch {own name : String} {E : String} {ce : Cell} {q : Addr} (hown : s.vm.findClass own = some m.cls) (pre : List ExceptionTableEntry) (x : ExceptionTableEntry) (suf : List ExceptionTableEntry) (hsplit : c.exceptionTable.toList = pre ++ x :: suf)
    (hpass : ∀ z ∈ pre, covers z pc = false ∨ (z.catchType ≠ 0 ∧ ∃ nm : String, (Cond.classLink own z.catchType nm).before args s = true ∧ va_Nc E nm s)) (hx : covers x pc = true) (h0 : x.catchType ≠ 0)
    (hlink : (Cond.classLink own x.catchType name).before args s = true) (hcast : (Cond.castable E name).before args s = true) (hcell : H[q]? = some ce) (hv : ce.vm = .none) (hcl : s.vm.findClass E = some ce.cls)
    (kk : W p l e R s m args below meth c H locs cells slots Q (F0 m x.handlerPc ls [.ref q])) : vx_W p l e R s m args below meth c H locs cells slots Q (F0 m pc ls rest) q := by
  intro T hT X
  have hpl : e.platform.magicAccessors = ({} : Platform).magicAccessors := by rw [X.admits.platform]
  obtain ⟨c3, c4, hc3, hc4, hasg⟩ := Cond.castable_spec hcast
  cases Option.some.inj (hc3.symm.trans hcl)
  obtain ⟨c5, hc5, hcl5⟩ := Cond.classLink_spec hown hlink e.platform hpl
  cases Option.some.inj (hc4.symm.trans hc5)
  obtain ⟨vm', X', st⟩ := X.thenCaughtThrough q (g := F0 m pc ls rest) rfl (Steps.refl _) (by rw [hT]; exact hcell) (by rw [hv]; rfl) (by obtain ⟨k9, h9, -⟩ := Vm.findClass_spec hcl; exact ⟨k9, h9⟩) pre x suf hsplit
    (fun z hz => by
      rcases hpass z hz with h | ⟨hz0, nm, hl1, hn1⟩
      · exact Or.inl h
      · obtain ⟨c6, hc6, hcl6⟩ := Cond.classLink_spec hown hl1 e.platform hpl
        obtain ⟨a8, b8, h1, h2, h3⟩ := hn1
        cases Option.some.inj (h1.symm.trans hcl)
        cases Option.some.inj (h2.symm.trans hc6)
        exact Or.inr ⟨hz0, _, hcl6, h3⟩) hx (Or.inr ⟨h0, c4, hcl5, hasg⟩)
  obtain ⟨t, a1, b1⟩ := kk (T.setVm vm') hT X'
  exact ⟨t, st.trans a1, b1⟩
end Rows
section Ends
variable {p : Program} {l : Launch} {e : Env} {R : Room} {s : State} {m : MethodId} {args : Array Value} {below : List Frame} {meth : Method} {c : Code} {H : Heap} {locs : List Loc} {cells slots : Nat} {Q : State → Prop}
variable {mc ms : Nat} {free : Addr → Prop} {A0 A1 : Nat → Prop} {H0 : Heap} {a : Array Value} {ls : Array Slot} {st0 rest : List Value}
variable {Qc : Array Value → State → Outcome → State → Prop} {XC : String → State → State → Prop}
/-- what a body that may throw owes at its end -/
def vx_MQ (below : List Frame) (Qc : Array Value → State → Outcome → State → Prop) (XC : String → State → State → Prop) (a : Array Value) (s : State) (mc ms : Nat) (free : Addr → Prop) : State → Prop := fun t =>
  ∃ o, t.status = .running ∧ Ended t below o ∧ vx_Q Qc XC mc ms free a s o t
theorem vx_ret {g : JFrame} {mc ms : Nat} (k : W p l e R s m args below meth c H locs cells slots (MQ below Qc args s mc ms free) g) : W p l e R s m args below meth c H locs cells slots (vx_MQ below Qc XC args s mc ms free) g := by
  intro T hT X
  obtain ⟨t, a1, o, b1, b2, b3, b4⟩ := k T hT X
  exact ⟨t, a1, o, b1, b2, Or.inl ⟨b3, b4⟩⟩
/-- not caught here: it goes on to the caller -/
theorem vx_widen {g : JFrame} {q : Addr} {k n : Nat} (h1 : cells ≤ k) (h2 : slots ≤ n) (kk : vx_W p l e R s m args below meth c H locs k n Q g q) : vx_W p l e R s m args below meth c H locs cells slots Q g q := fun T hT X => kk T hT (stand_widen X h1 h2)
theorem vx_out {pc : Nat} {E : String} {ce : Cell} {q : Addr} {mc ms : Nat} (hout : ∀ x ∈ c.exceptionTable.toList, covers x pc = false) (hlocks : meth.locks = false) (hcell : H[q]? = some ce) (hv : ce.vm = .none) (hcl : s.vm.findClass E = some ce.cls)
    (hx : ∀ t : State, t.heap = H → s.vm.Alike t.vm → XC E s t) (hf : ∀ z ∈ locs, free z.base) (hc : cells ≤ mc) (hs : slots ≤ ms) :
    vx_W p l e R s m args below meth c H locs cells slots (vx_MQ below Qc XC args s mc ms free) (F0 m pc ls rest) q := by
  intro T hT X
  obtain ⟨st1, hrun, hend, hW, hsm⟩ := X.leaveThrown q (g := F0 m pc ls rest) rfl rfl rfl hout hlocks
  have hcell9 : (T.setFrames (.throwing q :: below)).heap[q]? = some ce := by
    show T.heap[q]? = some ce
    rw [hT]; exact hcell
  exact ⟨_, st1, .threw q, hrun, hend, Or.inr ⟨q, rfl, E, ce, locs, hx _ hT hW.alike, hcell9, hv, hcl, hW, hsm.mono hc hs, hf⟩⟩
theorem vx_frame {U : State} {k n : Nat} (h : s.sameButNew ({ U with vm := s.vm } : State) locs k n) : s.heap.size ≤ U.heap.size ∧ ∀ q : Nat, q < s.heap.size → (∀ z ∈ locs, z.base ≠ q) → U.heap[q]? = s.heap[q]? := by
  obtain ⟨-, h2, -, -, -, h6⟩ := h
  refine ⟨h2, fun q hq hz => ?_⟩
  obtain ⟨c9, e1, e2, e3, e4⟩ := h6 q _ (Array.getElem?_eq_getElem hq)
  have hs : c9.slots = (s.heap[q]).slots := Array.ext_getElem? fun i => e4 i fun hm => hz _ hm rfl
  have h9 : c9 = s.heap[q] := by
    rw [hs] at e2
    exact e2
  have e5 : U.heap[q]? = some c9 := e1
  rw [e5, h9, Array.getElem?_eq_getElem hq]
/-- the words of a throw but the four that speak of the heap -/
def vx_no (w : Cond) : Bool := decide (w ≠ .isRef (.static Bundle.tN "UNASSIGNED_STACK" Bundle.steD)) && decide (w ≠ .isRef (.static Bundle.tN "SUPPRESSED_SENTINEL" Bundle.listD)) && decide (w ≠ .laysStatic Bundle.tN "UNASSIGNED_STACK" Bundle.steD) && decide (w ≠ .laysStatic Bundle.tN "SUPPRESSED_SENTINEL" Bundle.listD)
def vx_at0 (own : String) (ic : Nat) (X : String) (names : List String) : List Cond := (Bundle.ownAtoms0 own ic X names).filter vx_no
def vx_atS (own : String) (ic : Nat) (X : String) (names : List String) : List Cond := (Bundle.ownAtoms own ic X names).filter vx_no
/-- a word that the tables alone decide, or a good one -/
def vx_ot (w : Cond) : Bool := w.onTables || goodWord w
theorem vx_ot_at {args a' : Array Value} {s U : State} {w : Cond} (hW : s.WarmedH U.vm) (hvm : s.vm = U.vm) (hg : vx_ot w = true) (h : w.before args s = true) : w.before a' U = true := by
  simp only [vx_ot, Bool.or_eq_true] at hg
  rcases hg with hg | hg
  · exact va_tabs hg hvm h
  · exact word_at hW (good_of_word hg) h
/-- a list's words: the good ones out of the method's own list, the others by premises of their own -/
theorem vx_hat {args : Array Value} {s : State} {L B : List Cond} (h1 : ∀ w ∈ L.filter goodWord, w.before args s = true) (h2 : ∀ w ∈ L.filter (fun w => !goodWord w), w ∈ B) (h3 : ∀ w ∈ B, w.before args s = true) : ∀ w ∈ L, w.before args s = true := by
  intro w hw
  by_cases g : goodWord w = true
  · exact h1 w (List.mem_filter.mpr ⟨hw, g⟩)
  · refine h3 w (h2 w (List.mem_filter.mpr ⟨hw, ?_⟩))
    show (!goodWord w) = true
    cases hgw : goodWord w
    · rfl
    · exact absurd hgw g
theorem vx_c {args : Array Value} {s : State} {w : Cond} {B : List Cond} (h : w.before args s = true) (t : ∀ w ∈ B, w.before args s = true) : ∀ w' ∈ w :: B, w'.before args s = true := fun w' h' => (List.mem_cons.mp h').elim (fun e => by rw [e]; exact h) (t w')
theorem vx_n {args : Array Value} {s : State} : ∀ w ∈ ([] : List Cond), w.before args s = true := fun _ h => nomatch h
theorem vx_own {args : Array Value} {s : State} {L : List Cond} (h1 : ∀ w ∈ L.filter vx_no, w.before args s = true)
    (hU : (Cond.isRef (.static Bundle.tN "UNASSIGNED_STACK" Bundle.steD)).before args s = true) (hN : (Cond.isRef (.static Bundle.tN "SUPPRESSED_SENTINEL" Bundle.listD)).before args s = true)
    (lU : (Cond.laysStatic Bundle.tN "UNASSIGNED_STACK" Bundle.steD).before args s = true) (lN : (Cond.laysStatic Bundle.tN "SUPPRESSED_SENTINEL" Bundle.listD).before args s = true) : ∀ w ∈ L, w.before args s = true := by
  intro w hw
  by_cases e1 : w = .isRef (.static Bundle.tN "UNASSIGNED_STACK" Bundle.steD)
  · rw [e1]; exact hU
  · by_cases e2 : w = .isRef (.static Bundle.tN "SUPPRESSED_SENTINEL" Bundle.listD)
    · rw [e2]; exact hN
    · by_cases e3 : w = .laysStatic Bundle.tN "UNASSIGNED_STACK" Bundle.steD
      · rw [e3]; exact lU
      · by_cases e4 : w = .laysStatic Bundle.tN "SUPPRESSED_SENTINEL" Bundle.listD
        · rw [e4]; exact lN
        · exact h1 w (List.mem_filter.mpr ⟨hw, by unfold vx_no; rw [decide_eq_true e1, decide_eq_true e2, decide_eq_true e3, decide_eq_true e4]; rfl⟩)
/-- where a static field lies, its class's statics cell in H -/
def vx_L (C n d : String) (A : Nat → Prop) (U : State) (H : Heap) : Prop := ∃ (c : ClassId) (k : Class) (i : Nat) (f : Field) (a : Nat) (cell : Cell), U.vm.findClass C = some c ∧ U.fieldFound? C n d = some (c, k, i, f) ∧ f.isStatic = true ∧ k.statics = some a ∧ H[a]? = some cell ∧ cell.vm.isStatics = true ∧ cell.cls = c ∧ f.slot < cell.slots.size ∧ k.staticTypes[f.slot]? = some f.type ∧ ¬ A a
theorem vx_L.moved {C n d : String} {A : Nat → Prop} {u U : State} {H : Heap} (hvm : u.vm.Alike U.vm) (h : vx_L C n d A u H) : vx_L C n d A U H := by
  obtain ⟨c, k, i, f, a, cell, h1, h2, h3, h4, h5, h6, h7, h8, h9, h10⟩ := h
  obtain ⟨k', hi', he⟩ := State.fieldFound?_setVm hvm h2
  exact ⟨c, k', i, f, a, cell, by rw [hvm.findClass]; exact h1, hi', h3, by rw [he]; exact h4, h5, h6, h7, h8, by rw [he]; exact h9, h10⟩
theorem vx_L.kept {C n d : String} {A : Nat → Prop} {U : State} {H H1 : Heap} (h : vx_L C n d A U H) (hq : ∀ a : Nat, a < H.size → ¬ A a → H1[a]? = H[a]?) : vx_L C n d A U H1 := by
  obtain ⟨c, k, i, f, a, cell, h1, h2, h3, h4, h5, h6, h7, h8, h9, h10⟩ := h
  exact ⟨c, k, i, f, a, cell, h1, h2, h3, h4, by rw [hq a (Array.getElem?_eq_some_iff.mp h5).1 h10]; exact h5, h6, h7, h8, h9, h10⟩
theorem vx_L.narrow {C n d : String} {A B : Nat → Prop} {U : State} {H : Heap} (h : vx_L C n d A U H) (hAB : ∀ q, B q → A q) : vx_L C n d B U H := by
  obtain ⟨c, k, i, f, a, cell, h1, h2, h3, h4, h5, h6, h7, h8, h9, h10⟩ := h
  exact ⟨c, k, i, f, a, cell, h1, h2, h3, h4, h5, h6, h7, h8, h9, fun z => h10 (hAB _ z)⟩
theorem vx_L.word {C n d : String} {A : Nat → Prop} {s : State} {args : Array Value} (h : vx_L C n d A s s.heap) : (Cond.laysStatic C n d).before args s = true := by
  obtain ⟨c, k, i, f, a, cell, h1, h2, h3, h4, h5, h6, h7, h8, h9, -⟩ := h
  show (Cond.laysStatic C n d).holds args s none s [] = true
  exact Cond.laysStatic_of h1 h2 h3 h4 h5 h6 h7 h8 h9
/-- .. and what it holds: null or some reference -/
def vx_Zq (C n d : String) (A : Nat → Prop) (U : State) (H : Heap) : Prop := va_Zq C n d A U H ∧ vx_L C n d A U H
theorem vx_Zq.moved {C n d : String} {A : Nat → Prop} {u U : State} {H : Heap} (hvm : u.vm.Alike U.vm) (h : vx_Zq C n d A u H) : vx_Zq C n d A U H := ⟨va_Zq.moved hvm h.1, vx_L.moved hvm h.2⟩
theorem vx_Zq.kept {C n d : String} {A : Nat → Prop} {U : State} {H H1 : Heap} (h : vx_Zq C n d A U H) (hq : ∀ a : Nat, a < H.size → ¬ A a → H1[a]? = H[a]?) : vx_Zq C n d A U H1 := ⟨va_Zq.kept h.1 hq, vx_L.kept h.2 hq⟩
theorem vx_Zq.narrow {C n d : String} {A B : Nat → Prop} {U : State} {H : Heap} (h : vx_Zq C n d A U H) (hAB : ∀ q, B q → A q) : vx_Zq C n d B U H := ⟨va_Zq.narrow h.1 hAB, vx_L.narrow h.2 hAB⟩
theorem vx_Zqof {args : Array Value} {s : State} {C n d : String} {A : Nat → Prop} (hl : (Cond.laysStatic C n d).before args s = true) (hini : (Cond.initialized C).before args s = true) (h : (Cond.isRef (.static C n d)).before args s = true) (hA : ∀ a : Nat, a < s.heap.size → ¬ A a) : vx_Zq C n d A s s.heap := by
  refine ⟨va_Zqof hl hini h hA, ?_⟩
  obtain ⟨c, k, i, f, a, cell, h1, h2, h3, h4, h5, h6, h7, h8, h9⟩ := Cond.laysStatic_spec hl
  exact ⟨c, k, i, f, a, cell, h1, h2, h3, h4, h5, h6, h7, h8, h9, hA a (Array.getElem?_eq_some_iff.mp h5).1⟩
theorem vx_isRef {C n d : String} {v : Value} {A : Nat → Prop} {s : State} {args : Array Value} (h : va_Z C n d v A s s.heap) (hv : v.isRef = true) : (Cond.isRef (.static C n d)).before args s = true := by
  obtain ⟨cf, kf, fi, f, a, cell, h1, h2, h3, h4, h5, h6, h7, -⟩ := h
  have he : (Term.static C n d).eval args s none [] s = some v := by
    simp [Term.eval, State.fieldNamed?, h1, h2, h4, h5, h6, h7]
  simp only [Cond.before, Cond.holds, Cond.value, he]
  cases v <;> simp_all [Value.isRef]
theorem vx_isRefq {C n d : String} {A : Nat → Prop} {s : State} {args : Array Value} (h : va_Zq C n d A s s.heap) : (Cond.isRef (.static C n d)).before args s = true := by
  rcases h with h | ⟨t, h⟩
  · exact vx_isRef h rfl
  · exact vx_isRef h rfl
/-- the same frame, seen from here: as if the method were called anew in this heap -/
theorem vx_rebase {T : State} (X : Stand p l e R s m args below meth c T locs cells slots) {R' : Room} (hf : R'.frames ≤ R.frames) (hl : R'.locals ≤ R.locals) (hc : cells + R'.cells ≤ R.cells) (hs : slots + R'.slots ≤ R.slots) :
    Stand p l e R' ((T.setVm s.vm).setFrames (.invoking m args :: below)) m args below meth c T [] 0 0 := by
  have htop : (T.setVm s.vm).topJava?.isSome := X.here.top
  have hF : ((T.setVm s.vm).setFrames (.invoking m args :: below)).frames = .invoking m args :: below := State.frames_setFrames _ (State.cur_lt_of_top htop)
  obtain ⟨g₀, hg0⟩ := Option.isSome_iff_exists.mp htop
  obtain ⟨r, hr⟩ := State.topJava?_eq_some.mp hg0
  have hl9 : e.platform.stackLimits (T.setVm s.vm).me = e.platform.stackLimits s.me := X.limits
  have hb9 : (T.setVm s.vm).me.stackBytes = s.me.stackBytes := X.bytes
  refine ⟨X.admits, X.cas, X.clock, hF, ?_, X.hears, X.method, X.code, X.here, X.tail, X.warmed, ?_, ?_, ?_⟩
  · have h := X.room
    have hU : ((T.setVm s.vm).setFrames (.invoking m args :: below)).localsInUse = s.localsInUse := by
      rw [State.localsInUse_invoking hF (meth := meth) (c := c) X.method X.code, State.localsInUse_invoking X.frames X.method X.code]
    simp only [State.hasRoom, Bool.and_eq_true, decide_eq_true_eq] at h ⊢
    obtain ⟨⟨⟨⟨h1, h2, h3, h4, h5, h6⟩, h7⟩, h8⟩, h9⟩ := h
    rw [X.frames, List.length_cons] at h2 h3
    have q1 := X.heapSize
    have q2 := X.used
    simp only [hF, hU, List.length_cons, State.stackLimits_setFrames, State.stackBytes_setFrames, hl9, hb9]
    refine ⟨⟨⟨⟨by omega, by omega, by omega, by omega, by omega, h6⟩, ?_⟩, ?_⟩, X.book⟩
    · show T.heap.size + R'.cells ≤ e.platform.maxCells
      omega
    · show T.slotsUsed + R'.slots ≤ e.platform.maxSlots
      omega
  · rw [State.stackLimits_setFrames]; rfl
  · rw [State.stackBytes_setFrames]; rfl
  · refine ⟨?_, Nat.le_refl _, Nat.le_refl _, ?_, ?_, fun a c9 h9 => ⟨c9, h9, rfl, rfl, fun _ _ => rfl⟩⟩
    · obtain ⟨t, ht, -⟩ := State.frames_cons hr
      show T.setVm s.vm = { ((T.setVm s.vm).setFrames (.invoking m args :: below)).setFrames (T.setVm s.vm).frames with heap := T.heap, slotsUsed := T.slotsUsed }
      rw [State.setFrames_setFrames, State.setFrames_self ht]
      rfl
    · show T.slotsUsed = T.slotsUsed + ((T.heap.toList.drop T.heap.size).map (·.slots.size)).sum
      rw [List.drop_eq_nil_of_le (Nat.le_of_eq Array.length_toList)]
      rfl
    · show ((T.heap.toList.drop T.heap.size).map (·.slots.size)).sum ≤ 0
      rw [List.drop_eq_nil_of_le (Nat.le_of_eq Array.length_toList)]
      exact Nat.le_refl _
/-- 'throw new E()': new; dup; invokespecial; athrow -/
theorem vx_throw0 {cc : ByteArray} {pc : Nat} (hexec : p.tables.exec = Jvm.exec) (hb : c.code = cc) (hl : l.stackTraces = false) {own cls : String} {names : List String} {ik ic mc ms : Nat} {A : Nat → Prop}
    (hown : s.vm.findClass own = some m.cls) (hcls : Bundle.fit cls = true) (hnames : ∀ n ∈ names, Bundle.fit n = true)
    (hk : (Cond.classLink own ik cls).before args s = true) (hini : (Cond.initialized cls).before args s = true) (hat : ∀ w ∈ vx_at0 own ic cls names, w.before args s = true)
    (hgood : ∀ w ∈ Cond.classLink own ik cls :: Cond.initialized cls :: vx_at0 own ic cls names, vx_ot w = true)
    (hU : vx_Zq Bundle.tN "UNASSIGNED_STACK" Bundle.steD A s s.heap) (hN : vx_Zq Bundle.tN "SUPPRESSED_SENTINEL" Bundle.listD A s s.heap) (hS : va_S A s.heap H locs) (hsize : ls.size = c.maxLocals)
    (d0 : decode cc pc = .ok (.new ik, 3)) (d3 : decode cc (pc + 3) = .ok (.dup, 1)) (d4 : decode cc (pc + 4) = .ok (.invokespecial ic, 3)) (d7 : decode cc (pc + 7) = .ok (.athrow, 1))
    (hout : ∀ x ∈ c.exceptionTable.toList, covers x (pc + 7) = false)
    (hRframes : names.length + 3 < R.frames) (hRlocals : (rest.map fun v => v.category).sum + (13 * (names.length + 1) + 42) ≤ R.locals) (hRcells : cells + 1 ≤ R.cells) (hRslots : slots + 6 ≤ R.slots) (hlocks : meth.locks = false)
    (hx : ∀ t : State, s.vm.Alike t.vm → H.size ≤ t.heap.size → (∀ q : Nat, q < H.size → t.heap[q]? = H[q]?) → XC cls s t)
    (hf : ∀ z ∈ locs, free z.base) (hc : cells + 1 ≤ mc) (hs : slots + 6 ≤ ms) :
    W p l e R s m args below meth c H locs cells slots (vx_MQ below Qc XC args s mc ms free) (F0 m pc ls rest) := by
  intro T hT X
  have htr : e.platform.stackTraces = false := (show e.platform.stackTraces = l.stackTraces by rw [X.admits.platform]).trans hl
  have Y := vx_rebase X (R' := { frames := R.frames, locals := R.locals, cells := 1, slots := 6 }) (Nat.le_refl _) (Nat.le_refl _) hRcells hRslots
  obtain ⟨s', hA⟩ : ∃ z, z = (T.setVm s.vm).setFrames (.invoking m args :: below) := ⟨_, rfl⟩
  rw [← hA] at Y
  have hvm : s'.vm = s.vm := by rw [hA]; rfl
  have hhp : s'.heap = H := by rw [hA]; exact hT
  have hW0 : s.WarmedH s'.vm := by rw [hvm]; exact State.WarmedH.refl s
  have hat' : ∀ w ∈ vx_at0 own ic cls names, w.before args s' = true := fun w hw => vx_ot_at hW0 hvm.symm (hgood w (List.mem_cons_of_mem _ (List.mem_cons_of_mem _ hw))) (hat w hw)
  have hk' : (Cond.classLink own ik cls).before args s' = true := vx_ot_at hW0 hvm.symm (hgood _ List.mem_cons_self) hk
  have hini' : (Cond.initialized cls).before args s' = true := vx_ot_at hW0 hvm.symm (hgood _ (List.mem_cons_of_mem _ List.mem_cons_self)) hini
  have hU' : vx_Zq Bundle.tN "UNASSIGNED_STACK" Bundle.steD A s' s'.heap := by rw [hhp]; exact vx_Zq.moved hW0.alike (hU.kept hS.2.1)
  have hN' : vx_Zq Bundle.tN "SUPPRESSED_SENTINEL" Bundle.listD A s' s'.heap := by rw [hhp]; exact vx_Zq.moved hW0.alike (hN.kept hS.2.1)
  have h : ∀ w ∈ Bundle.ownAtoms0 own ic cls names, w.before args s' = true := vx_own hat' (vx_isRefq hU'.1) (vx_isRefq hN'.1) hU'.2.word hN'.2.word
  have hown' : s'.vm.findClass own = some m.cls := by rw [hvm]; exact hown
  have hins : (Cond.instantiable cls 6).before args s' = true := h _ (by simp [Bundle.ownAtoms0])
  obtain ⟨vm₁, cX, kX, hfX, hkX, -, -, X₁, st1⟩ := Y.newCold hexec (own := own) (C := cls) (index := ik) (n := 6) hown' hk' hins hini'
    (g := F0 m pc ls rest) rfl (by rw [hb]; exact d0) (Nat.le_refl _) (Nat.le_refl _)
  generalize hT1 : (T.setVm vm₁).pushCell { cls := cX, slots := kX.instanceTypes.map defaultValue, vm := .none } = T1 at X₁ st1
  have hcat : (Value.ref T.heap.size).category = 1 := rfl
  have hcellA : T1.heap[T.heap.size]? = some (freshCell cX kX) := by rw [← hT1]; exact State.heap_pushCell_size _ _
  have d3' : decode c.code (pc + 3) = .ok (.dup, 1) := by rw [hb]; exact d3
  obtain ⟨U, hsteps, hrun, hend, hW, hsame, ce, hce, hO⟩ := X₁.ctorThrow0 hexec htr (own := own) (cls := cls) (names := names) (ic := ic) hown' hcls hnames h (fun x hx => nomatch hx) hfX hkX hcellA (by rw [hhp, hT]; exact Nat.le_refl _)
    (g := { method := m, pc := pc + 4, locals := ls, stack := .ref T.heap.size :: .ref T.heap.size :: rest, locked := none }) rfl hsize rfl rfl (rest := rest) rfl
    (by rw [hb]; exact d4) (by rw [hb]; exact d7) hout hRframes (by simp only [List.map_cons, List.sum_cons, hcat]; omega) hlocks
  obtain ⟨f1, f2⟩ := vx_frame hsame
  rw [hhp] at f1 f2
  have hWs : s.WarmedH U.vm := State.WarmedH.trans hW0 hW
  have hcl : s.vm.findClass cls = some ce.cls := by
    have h9 := hO.cls
    rw [hvm] at h9
    exact h9
  have hall : s.sameButNew ({ U with vm := s.vm } : State) locs mc ms := by
    subst hA
    obtain ⟨e1, e2⟩ := hsame
    rw [State.setFrames_setFrames] at e1
    have h2 : (T.setVm s.vm).sameButNew ({ U with vm := s.vm } : State) [] (0 + 1) (0 + 6) := ⟨e1, e2⟩
    have h3 := X.same.trans h2
    rw [List.append_nil] at h3
    exact h3.mono hc hs
  refine ⟨U, ?_, .threw T.heap.size, hrun, hend, Or.inr ⟨T.heap.size, rfl, cls, ce, locs, hx U hWs.alike f1 (fun q hq => f2 q hq (fun z hz => nomatch hz)), hce, hO.vm, hcl, hWs, hall, hf⟩⟩
  refine st1 _ ?_
  show Steps p.tables e below (T1.setTop { method := m, pc := pc + 3, locals := ls, stack := .ref T.heap.size :: rest, locked := none }) _
  jvm_step X₁.here [X₁.here.top, hexec, d3', Value.category]
  exact hsteps
/-- 'throw new E("text")': new; dup; ldc; invokespecial; athrow -/
theorem vx_throwS {cc : ByteArray} {pc : Nat} (hexec : p.tables.exec = Jvm.exec) (hb : c.code = cc) (hl : l.stackTraces = false) {own cls text : String} {names : List String} {ik is ic mc ms sa : Nat} {A : Nat → Prop}
    (hown : s.vm.findClass own = some m.cls) (hcls : Bundle.fit cls = true) (hnames : ∀ n ∈ names, Bundle.fit n = true)
    (hk : (Cond.classLink own ik cls).before args s = true) (hini : (Cond.initialized cls).before args s = true) (hstr : vk_R own is text sa s) (hat : ∀ w ∈ vx_atS own ic cls names, w.before args s = true)
    (hgood : ∀ w ∈ Cond.classLink own ik cls :: Cond.initialized cls :: vx_atS own ic cls names, vx_ot w = true)
    (hU : vx_Zq Bundle.tN "UNASSIGNED_STACK" Bundle.steD A s s.heap) (hN : vx_Zq Bundle.tN "SUPPRESSED_SENTINEL" Bundle.listD A s s.heap) (hS : va_S A s.heap H locs) (hsize : ls.size = c.maxLocals)
    (d0 : decode cc pc = .ok (.new ik, 3)) (d3 : decode cc (pc + 3) = .ok (.dup, 1)) (d4 : decode cc (pc + 4) = .ok (.ldc is, 2)) (d6 : decode cc (pc + 6) = .ok (.invokespecial ic, 3)) (d9 : decode cc (pc + 9) = .ok (.athrow, 1))
    (hout : ∀ x ∈ c.exceptionTable.toList, covers x (pc + 9) = false)
    (hRframes : names.length + 3 < R.frames) (hRlocals : (rest.map fun v => v.category).sum + (13 * (names.length + 1) + 43) ≤ R.locals) (hRcells : cells + 1 ≤ R.cells) (hRslots : slots + 6 ≤ R.slots) (hlocks : meth.locks = false)
    (hx : ∀ t : State, s.vm.Alike t.vm → H.size ≤ t.heap.size → (∀ q : Nat, q < H.size → t.heap[q]? = H[q]?) → XC cls s t)
    (hf : ∀ z ∈ locs, free z.base) (hc : cells + 1 ≤ mc) (hs : slots + 6 ≤ ms) :
    W p l e R s m args below meth c H locs cells slots (vx_MQ below Qc XC args s mc ms free) (F0 m pc ls rest) := by
  intro T hT X
  have htr : e.platform.stackTraces = false := (show e.platform.stackTraces = l.stackTraces by rw [X.admits.platform]).trans hl
  have Y := vx_rebase X (R' := { frames := R.frames, locals := R.locals, cells := 1, slots := 6 }) (Nat.le_refl _) (Nat.le_refl _) hRcells hRslots
  obtain ⟨s', hA⟩ : ∃ z, z = (T.setVm s.vm).setFrames (.invoking m args :: below) := ⟨_, rfl⟩
  rw [← hA] at Y
  have hvm : s'.vm = s.vm := by rw [hA]; rfl
  have hhp : s'.heap = H := by rw [hA]; exact hT
  have hW0 : s.WarmedH s'.vm := by rw [hvm]; exact State.WarmedH.refl s
  have hat' : ∀ w ∈ vx_atS own ic cls names, w.before args s' = true := fun w hw => vx_ot_at hW0 hvm.symm (hgood w (List.mem_cons_of_mem _ (List.mem_cons_of_mem _ hw))) (hat w hw)
  have hk' : (Cond.classLink own ik cls).before args s' = true := vx_ot_at hW0 hvm.symm (hgood _ List.mem_cons_self) hk
  have hini' : (Cond.initialized cls).before args s' = true := vx_ot_at hW0 hvm.symm (hgood _ (List.mem_cons_of_mem _ List.mem_cons_self)) hini
  have hU' : vx_Zq Bundle.tN "UNASSIGNED_STACK" Bundle.steD A s' s'.heap := by rw [hhp]; exact vx_Zq.moved hW0.alike (hU.kept hS.2.1)
  have hN' : vx_Zq Bundle.tN "SUPPRESSED_SENTINEL" Bundle.listD A s' s'.heap := by rw [hhp]; exact vx_Zq.moved hW0.alike (hN.kept hS.2.1)
  have h : ∀ w ∈ Bundle.ownAtoms own ic cls names, w.before args s' = true := vx_own hat' (vx_isRefq hU'.1) (vx_isRefq hN'.1) hU'.2.word hN'.2.word
  have hown' : s'.vm.findClass own = some m.cls := by rw [hvm]; exact hown
  have hins : (Cond.instantiable cls 6).before args s' = true := h _ (by simp [Bundle.ownAtoms])
  obtain ⟨vm₁, cX, kX, hfX, hkX, -, -, X₁, st1⟩ := Y.newCold hexec (own := own) (C := cls) (index := ik) (n := 6) hown' hk' hins hini'
    (g := F0 m pc ls rest) rfl (by rw [hb]; exact d0) (Nat.le_refl _) (Nat.le_refl _)
  generalize hT1 : (T.setVm vm₁).pushCell { cls := cX, slots := kX.instanceTypes.map defaultValue, vm := .none } = T1 at X₁ st1
  have hcat : (Value.ref T.heap.size).category = 1 := rfl
  have hcellA : T1.heap[T.heap.size]? = some (freshCell cX kX) := by rw [← hT1]; exact State.heap_pushCell_size _ _
  have d3' : decode c.code (pc + 3) = .ok (.dup, 1) := by rw [hb]; exact d3
  have d4' : decode c.code (pc + 4) = .ok (.ldc is, 2) := by rw [hb]; exact d4
  have hstr' : vk_R own is text sa s' := vk_R.warm hW0 hstr
  obtain ⟨U, hsteps, hrun, hend, hW, hsame, ce, hce, hO⟩ := X₁.ctorThrowS hexec htr (own := own) (cls := cls) (names := names) (ic := ic) hown' hcls hnames h (fun x hx => nomatch hx) hfX hkX hcellA (by rw [hhp, hT]; exact Nat.le_refl _) (msg := .ref sa) rfl
    (g := { method := m, pc := pc + 6, locals := ls, stack := .ref sa :: .ref T.heap.size :: .ref T.heap.size :: rest, locked := none }) rfl hsize rfl rfl (rest := rest) rfl
    (by rw [hb]; exact d6) (by rw [hb]; exact d9) hout hRframes (by simp only [List.map_cons, List.sum_cons, hcat]; omega) hlocks
  obtain ⟨f1, f2⟩ := vx_frame hsame
  rw [hhp] at f1 f2
  have hWs : s.WarmedH U.vm := State.WarmedH.trans hW0 hW
  have hcl : s.vm.findClass cls = some ce.cls := by
    have h9 := hO.cls
    rw [hvm] at h9
    exact h9
  have hall : s.sameButNew ({ U with vm := s.vm } : State) locs mc ms := by
    subst hA
    obtain ⟨e1, e2⟩ := hsame
    rw [State.setFrames_setFrames] at e1
    have h2 : (T.setVm s.vm).sameButNew ({ U with vm := s.vm } : State) [] (0 + 1) (0 + 6) := ⟨e1, e2⟩
    have h3 := X.same.trans h2
    rw [List.append_nil] at h3
    exact h3.mono hc hs
  refine ⟨U, ?_, .threw T.heap.size, hrun, hend, Or.inr ⟨T.heap.size, rfl, cls, ce, locs, hx U hWs.alike f1 (fun q hq => f2 q hq (fun z hz => nomatch hz)), hce, hO.vm, hcl, hWs, hall, hf⟩⟩
  refine st1 _ ?_
  show Steps p.tables e below (T1.setTop { method := m, pc := pc + 3, locals := ls, stack := .ref T.heap.size :: rest, locked := none }) _
  jvm_step X₁.here [X₁.here.top, hexec, d3', Value.category]
  exact X₁.ldcString hexec (own := own) (text := text) (index := is) (a := sa) hown' hstr'.1 hstr'.2
    (g := { method := m, pc := pc + 4, locals := ls, stack := .ref T.heap.size :: .ref T.heap.size :: rest, locked := none }) rfl d4' _ hsteps
/-- 'throw new E("text")', the text by a wide index -/
theorem vx_throwSW {cc : ByteArray} {pc : Nat} (hexec : p.tables.exec = Jvm.exec) (hb : c.code = cc) (hl : l.stackTraces = false) {own cls text : String} {names : List String} {ik is ic mc ms sa : Nat} {A : Nat → Prop}
    (hown : s.vm.findClass own = some m.cls) (hcls : Bundle.fit cls = true) (hnames : ∀ n ∈ names, Bundle.fit n = true)
    (hk : (Cond.classLink own ik cls).before args s = true) (hini : (Cond.initialized cls).before args s = true) (hstr : vk_R own is text sa s) (hat : ∀ w ∈ vx_atS own ic cls names, w.before args s = true)
    (hgood : ∀ w ∈ Cond.classLink own ik cls :: Cond.initialized cls :: vx_atS own ic cls names, vx_ot w = true)
    (hU : vx_Zq Bundle.tN "UNASSIGNED_STACK" Bundle.steD A s s.heap) (hN : vx_Zq Bundle.tN "SUPPRESSED_SENTINEL" Bundle.listD A s s.heap) (hS : va_S A s.heap H locs) (hsize : ls.size = c.maxLocals)
    (d0 : decode cc pc = .ok (.new ik, 3)) (d3 : decode cc (pc + 3) = .ok (.dup, 1)) (d4 : decode cc (pc + 4) = .ok (.ldc_w is, 3)) (d7 : decode cc (pc + 7) = .ok (.invokespecial ic, 3)) (d10 : decode cc (pc + 10) = .ok (.athrow, 1))
    (hout : ∀ x ∈ c.exceptionTable.toList, covers x (pc + 10) = false)
    (hRframes : names.length + 3 < R.frames) (hRlocals : (rest.map fun v => v.category).sum + (13 * (names.length + 1) + 43) ≤ R.locals) (hRcells : cells + 1 ≤ R.cells) (hRslots : slots + 6 ≤ R.slots) (hlocks : meth.locks = false)
    (hx : ∀ t : State, s.vm.Alike t.vm → H.size ≤ t.heap.size → (∀ q : Nat, q < H.size → t.heap[q]? = H[q]?) → XC cls s t)
    (hf : ∀ z ∈ locs, free z.base) (hc : cells + 1 ≤ mc) (hs : slots + 6 ≤ ms) :
    W p l e R s m args below meth c H locs cells slots (vx_MQ below Qc XC args s mc ms free) (F0 m pc ls rest) := by
  intro T hT X
  have htr : e.platform.stackTraces = false := (show e.platform.stackTraces = l.stackTraces by rw [X.admits.platform]).trans hl
  have Y := vx_rebase X (R' := { frames := R.frames, locals := R.locals, cells := 1, slots := 6 }) (Nat.le_refl _) (Nat.le_refl _) hRcells hRslots
  obtain ⟨s', hA⟩ : ∃ z, z = (T.setVm s.vm).setFrames (.invoking m args :: below) := ⟨_, rfl⟩
  rw [← hA] at Y
  have hvm : s'.vm = s.vm := by rw [hA]; rfl
  have hhp : s'.heap = H := by rw [hA]; exact hT
  have hW0 : s.WarmedH s'.vm := by rw [hvm]; exact State.WarmedH.refl s
  have hat' : ∀ w ∈ vx_atS own ic cls names, w.before args s' = true := fun w hw => vx_ot_at hW0 hvm.symm (hgood w (List.mem_cons_of_mem _ (List.mem_cons_of_mem _ hw))) (hat w hw)
  have hk' : (Cond.classLink own ik cls).before args s' = true := vx_ot_at hW0 hvm.symm (hgood _ List.mem_cons_self) hk
  have hini' : (Cond.initialized cls).before args s' = true := vx_ot_at hW0 hvm.symm (hgood _ (List.mem_cons_of_mem _ List.mem_cons_self)) hini
  have hU' : vx_Zq Bundle.tN "UNASSIGNED_STACK" Bundle.steD A s' s'.heap := by rw [hhp]; exact vx_Zq.moved hW0.alike (hU.kept hS.2.1)
  have hN' : vx_Zq Bundle.tN "SUPPRESSED_SENTINEL" Bundle.listD A s' s'.heap := by rw [hhp]; exact vx_Zq.moved hW0.alike (hN.kept hS.2.1)
  have h : ∀ w ∈ Bundle.ownAtoms own ic cls names, w.before args s' = true := vx_own hat' (vx_isRefq hU'.1) (vx_isRefq hN'.1) hU'.2.word hN'.2.word
  have hown' : s'.vm.findClass own = some m.cls := by rw [hvm]; exact hown
  have hins : (Cond.instantiable cls 6).before args s' = true := h _ (by simp [Bundle.ownAtoms])
  obtain ⟨vm₁, cX, kX, hfX, hkX, -, -, X₁, st1⟩ := Y.newCold hexec (own := own) (C := cls) (index := ik) (n := 6) hown' hk' hins hini'
    (g := F0 m pc ls rest) rfl (by rw [hb]; exact d0) (Nat.le_refl _) (Nat.le_refl _)
  generalize hT1 : (T.setVm vm₁).pushCell { cls := cX, slots := kX.instanceTypes.map defaultValue, vm := .none } = T1 at X₁ st1
  have hcat : (Value.ref T.heap.size).category = 1 := rfl
  have hcellA : T1.heap[T.heap.size]? = some (freshCell cX kX) := by rw [← hT1]; exact State.heap_pushCell_size _ _
  have d3' : decode c.code (pc + 3) = .ok (.dup, 1) := by rw [hb]; exact d3
  have d4' : decode c.code (pc + 4) = .ok (.ldc_w is, 3) := by rw [hb]; exact d4
  have hstr' : vk_R own is text sa s' := vk_R.warm hW0 hstr
  obtain ⟨U, hsteps, hrun, hend, hW, hsame, ce, hce, hO⟩ := X₁.ctorThrowS hexec htr (own := own) (cls := cls) (names := names) (ic := ic) hown' hcls hnames h (fun x hx => nomatch hx) hfX hkX hcellA (by rw [hhp, hT]; exact Nat.le_refl _) (msg := .ref sa) rfl
    (g := { method := m, pc := pc + 7, locals := ls, stack := .ref sa :: .ref T.heap.size :: .ref T.heap.size :: rest, locked := none }) rfl hsize rfl rfl (rest := rest) rfl
    (by rw [hb]; exact d7) (by rw [hb]; exact d10) hout hRframes (by simp only [List.map_cons, List.sum_cons, hcat]; omega) hlocks
  obtain ⟨f1, f2⟩ := vx_frame hsame
  rw [hhp] at f1 f2
  have hWs : s.WarmedH U.vm := State.WarmedH.trans hW0 hW
  have hcl : s.vm.findClass cls = some ce.cls := by
    have h9 := hO.cls
    rw [hvm] at h9
    exact h9
  have hall : s.sameButNew ({ U with vm := s.vm } : State) locs mc ms := by
    subst hA
    obtain ⟨e1, e2⟩ := hsame
    rw [State.setFrames_setFrames] at e1
    have h2 : (T.setVm s.vm).sameButNew ({ U with vm := s.vm } : State) [] (0 + 1) (0 + 6) := ⟨e1, e2⟩
    have h3 := X.same.trans h2
    rw [List.append_nil] at h3
    exact h3.mono hc hs
  refine ⟨U, ?_, .threw T.heap.size, hrun, hend, Or.inr ⟨T.heap.size, rfl, cls, ce, locs, hx U hWs.alike f1 (fun q hq => f2 q hq (fun z hz => nomatch hz)), hce, hO.vm, hcl, hWs, hall, hf⟩⟩
  refine st1 _ ?_
  show Steps p.tables e below (T1.setTop { method := m, pc := pc + 3, locals := ls, stack := .ref T.heap.size :: rest, locked := none }) _
  jvm_step X₁.here [X₁.here.top, hexec, d3', Value.category]
  exact X₁.ldcStringW hexec (own := own) (text := text) (index := is) (a := sa) hown' hstr'.1 hstr'.2
    (g := { method := m, pc := pc + 4, locals := ls, stack := .ref T.heap.size :: .ref T.heap.size :: rest, locked := none }) rfl d4' _ hsteps
end Ends
section Bodies
variable {l : Launch}
theorem vx_ofW {y : MethodName} {ws ws' : List Cond} {rm : Room} {Pc : Array Value → State → Prop} {Qc : Array Value → State → Outcome → State → Prop} {XC : String → State → State → Prop} {mc ms : Nat} {free : Addr → Prop} {cc : ByteArray} {maxL : Nat} {ret : Option FieldType}
    (hy : plainName y.cls = true) (hw : ws = Cond.code y cc maxL ret :: ws')
    (body : ∀ p e s m args below meth c s₁, BodyLoose p l y (headSpec ws rm) cc maxL ret e s m args below meth c s₁ → c.maxLocals = maxL → (∀ x ∈ c.exceptionTable.toList, False) → Pc args s →
      W p l e (headSpec ws rm).room s m args below meth c s.heap [] 0 0 (vx_MQ below Qc XC args s mc ms free) (entryFrame m args maxL)) : vx_Met l y ws rm Pc Qc XC mc ms free := by
  refine MetFree.of_bodyS (code := cc) (maxLocals := maxL) (ret := ret) hy ?_ ?_
  · intro args s m h hn
    obtain ⟨meth, c, h1, h2, h3, h4, h5, h6, -, -⟩ := Cond.code_spec hn (atoms_spec (ws := ws) h _ (by rw [hw]; exact List.mem_cons_self))
    exact ⟨meth, c, h1, h2, h3, h4, h5, h6⟩
  · intro p e s m args below meth c s₁ B hml hP _
    have hh0 : s₁.heap = s.heap := by rw [B.state]; rfl
    have ht : ∀ x ∈ c.exceptionTable.toList, False := by
      obtain ⟨meth9, c9, h1, h2, -, -, -, -, h7, -⟩ := Cond.code_spec B.named (atoms_spec (ws := ws) B.pre _ (by rw [hw]; exact List.mem_cons_self))
      cases Option.some.inj (h1.symm.trans B.method)
      cases Option.some.inj (h2.symm.trans (Stand.of_body B).code)
      intro x hx
      rw [Array.isEmpty_iff.mp h7] at hx
      cases hx
    obtain ⟨t, a1, o, b1, b2, b3⟩ := body p e s m args below meth c s₁ B hml ht hP s₁ hh0 (Stand.of_body B)
    exact ⟨t, o, a1, b1, b2, b3⟩
/-- the table of a body with handlers -/
theorem vx_table {p : Program} {x y : MethodName} {S : Spec} {cc bytes : ByteArray} {maxL maxL' : Nat} {ret ret' : Option FieldType} {e : Env} {s s₁ : State} {m : MethodId} {args : Array Value} {below : List Frame} {meth : Method} {c : Code} {hh : List (Nat × Nat × Nat × Nat)}
    (B : BodyLoose p l y S cc maxL ret e s m args below meth c s₁) (h : (Cond.codeWith y bytes maxL' ret' hh).before args s = true) : c.exceptionTable.toList = tableOf hh := by
  obtain ⟨m9, meth9, c9, hn9, h1, h2, -, -, h6, -⟩ := Cond.codeWith_spec h
  cases Option.some.inj (hn9.symm.trans B.named)
  cases Option.some.inj (h1.symm.trans B.method)
  cases Option.some.inj (h2.symm.trans (Stand.of_body B).code)
  rw [← h6, table_eq]
end Bodies
end VXA
/-! ===== END ===== -/
/-! ===== BEGIN a static call of a method with an exception table ===== -/
section VXS
variable {p : Program} {l : Launch} {e : Env} {R : Room} {s : State} {m : MethodId} {args : Array Value} {below : List Frame} {meth : Method} {c : Code} {T : State} {H : Heap} {locs : List Loc} {cells slots : Nat}
abbrev vx_CSW (R : Room) (s : State) (args : Array Value) (own : String) (index : Nat) (y : MethodName) (bytes : ByteArray) (maxL : Nat) (ret : Option FieldType) (hh : List (Nat × Nat × Nat × Nat)) (ws : List Cond) (rm : Room) (mc ms n : Nat) : Prop :=
  (rm.cells = mc ∧ rm.slots = ms ∧ rm.frames + 1 ≤ R.frames ∧ 8 + (maxL + 11) + rm.locals ≤ R.locals ∧ (∀ w ∈ ws, ∀ (a' : Array Value) (U : State), s.WarmedH U.vm → w.before a' U = true) ∧ Cond.codeWith y bytes maxL ret hh ∈ ws) ∧
  (Cond.codeWith y bytes maxL ret hh).before args s = true ∧ (Cond.initialized y.cls).before args s = true ∧ (y.cls ≠ "java/lang/invoke/MethodHandle" ∧ y.cls ≠ "java/lang/invoke/VarHandle") ∧
  (∀ sig, parseMethodDescriptor y.desc = some sig → n = sig.parameters.length) ∧ (Cond.methodLink own index y).before args s = true ∧ (Cond.static y).before args s = true
theorem vx_cwSW {own : String} {index maxL mc ms : Nat} {y : MethodName} {bytes : ByteArray} {ret : Option FieldType} {hh : List (Nat × Nat × Nat × Nat)} {Ts ws ws' : List Cond} {rm : Room} (n : Nat) (ht : ∀ w ∈ Ts, w.before args s = true) (hT : GoodIn Ts (va_wsS own index y ws)) (hw : ws = Cond.codeWith y bytes maxL ret hh :: ws') (hrc : rm.cells = mc) (hrs : rm.slots = ms)
    (hd : y.cls ≠ "java/lang/invoke/MethodHandle" ∧ y.cls ≠ "java/lang/invoke/VarHandle" ∧ (parseMethodDescriptor y.desc).map (fun d => d.parameters.length) = some n) (hR : rm.frames + 1 ≤ R.frames ∧ 8 + (maxL + 11) + rm.locals ≤ R.locals) :
    vx_CSW R s args own index y bytes maxL ret hh ws rm mc ms n := by
  have ok : ∀ w ∈ va_wsS own index y ws, w.before args s = true := fun w h => ht w (hT w h).1
  have hG : GoodIn Ts ws := fun w h => hT w (by unfold va_wsS; exact List.mem_append_right _ h)
  have hc : Cond.codeWith y bytes maxL ret hh ∈ ws := by rw [hw]; exact List.mem_cons_self
  refine ⟨⟨hrc, hrs, hR.1, hR.2, pay_in ht hG, hc⟩, ht _ (hG _ hc).1, ok _ (by simp [va_wsS]), ⟨hd.1, hd.2.1⟩, fun sig h => ?_, ok _ (by simp [va_wsS]), ok _ (by simp [va_wsS])⟩
  have h2 := hd.2.2
  rw [h] at h2
  exact (Option.some.inj h2).symm
theorem vx_callSW (X : Stand p l e R s m args below meth c T locs cells slots) (hexec : p.tables.exec = Jvm.exec) {own : String} {index : Nat} {y : MethodName} {bytes : ByteArray} {maxL : Nat} {ret : Option FieldType} {hh : List (Nat × Nat × Nat × Nat)}
    (hown : s.vm.findClass own = some m.cls) (hlink : (Cond.methodLink own index y).before args s = true) (hstat : (Cond.static y).before args s = true) (hinit : (Cond.initialized y.cls).before args s = true)
    (hcode : (Cond.codeWith y bytes maxL ret hh).before args s = true) (hy : y.cls ≠ "java/lang/invoke/MethodHandle" ∧ y.cls ≠ "java/lang/invoke/VarHandle")
    {W9 : Nat} {Pre : Pt → Array Value → Prop} {Post : Pt → Array Value → Option Value → Pt → Prop} (hK : Back l R p e below s args y 3 W9 Pre Post)
    {g : JFrame} (hg : g.method = m) (hsize : g.locals.size = c.maxLocals) {argsL rest : List Value} (hlen : ∀ sig, parseMethodDescriptor y.desc = some sig → argsL.length = sig.parameters.length)
    (hstack : g.stack = argsL.reverse ++ rest) (hW : 2 * g.monitorRoom + (rest.map fun v => v.category).sum ≤ W9) (hdg : decode c.code g.pc = .ok (.invokestatic index, 3))
    (hpre : ∀ vm₁, s.WarmedH vm₁ → Pre ⟨T.setVm vm₁, locs, cells, slots⟩ argsL.toArray) :
    ∃ (v : Option Value) (vm₁ : Vm) (B : Pt), s.WarmedH vm₁ ∧ Stand p l e R s m args below meth c B.U B.locs B.cells B.slots ∧ Post ⟨T.setVm vm₁, locs, cells, slots⟩ argsL.toArray v B ∧
      ∀ target, Steps p.tables e below (B.U.setTop { g with pc := g.pc + 3, stack := v.toList ++ rest }) target → Steps p.tables e below (T.setTop g) target := by
  obtain ⟨mk, methM, cM, hnamed, hmethM, -, -, -, -, -, -, hsigM⟩ := Cond.codeWith_spec hcode
  have hstatic : methM.isStatic = true := Cond.static_spec hnamed hmethM hstat
  obtain ⟨kP, hkP, -⟩ := className_of_methodNamed hnamed
  have hinitP : kP.init = .initialized := Cond.initialized_spec (findClass_of_methodNamed hnamed) hkP hinit
  obtain ⟨vm₁, X₁, hstep₁⟩ := X.invokestatic hexec hown hlink hnamed hmethM hstatic hkP hinitP hy (g := g) hg (argsL := argsL) (rest := rest) (hlen _ hsigM) hstack hdg
  obtain ⟨v, B, X', hpost, hsteps⟩ := hK m meth c ⟨T.setVm vm₁, locs, cells, slots⟩ { g with stack := rest } (.invokestatic index) mk argsL.toArray X₁ hg hsize hdg hW (X₁.named hnamed) (hpre vm₁ X₁.warmed)
  exact ⟨v, vm₁, B, X₁.warmed, X', hpost, fun target h => hstep₁ _ fun acts => by rw [doInvoke_state]; exact hsteps.trans h⟩
theorem vx_runSW {y : MethodName} {bytes cc : ByteArray} {maxL nL mc ms n index : Nat} {ret : Option FieldType} {hh : List (Nat × Nat × Nat × Nat)} {ws : List Cond} {rm : Room} {Pc : Array Value → State → Prop} {Qc : Array Value → State → Outcome → State → Prop} {free : Addr → Prop} {Ts : List Cond} {own : String} {As rest : List Value} {g : JFrame}
    (S : CallFix p m c cc nL s args Ts own) (hM : Met l y ws rm Pc Qc mc ms free) (cw : vx_CSW R s args own index y bytes maxL ret hh ws rm mc ms n) (hp : PreS s H Pc As)
    (hg : g.method = m) (hn : As.length = n) (hsize : g.locals.size = nL) (hstack : g.stack = As.reverse ++ rest) (hW : 2 * g.monitorRoom + (rest.map fun v => v.category).sum ≤ 8) (hdg : decode cc g.pc = .ok (.invokestatic index, 3)) (hf : cells + mc ≤ R.cells ∧ slots + ms ≤ R.slots) :
    va_Run p l e R s m args below meth c H locs cells slots mc ms g rest (Qc As.toArray) (free) := by
  obtain ⟨⟨hrc, hrs, hfr, hlo, hws, hcw⟩, hcode, hini, hy, hlen, hl, hstt⟩ := cw
  have hK : Back l R p e below s args y 3 8 (PreOf R mc ms Pc) (PostOf Qc mc ms free) := va_backW (hh := hh) (bytes := bytes) (maxL := maxL) (ret := ret) hM hp.1 hrc hrs hfr hlo hws hcw (fun a' U hW => word_at hW (Or.inl (by first | rfl | simp [Cond.onTables, Cond.keeps, Cond.steady])) hini)
  obtain ⟨hx, hb, hml, ho, -⟩ := S
  intro T hT X
  obtain ⟨v, vm₁, ⟨U', l2, c2, s2⟩, hW₁, X', ⟨g', mk, t, L, e1, e2, hq, h1, hL, h2, h3⟩, st⟩ := vx_callSW X hx (hh := hh) (bytes := bytes) (maxL := maxL) (ret := ret) ho hl hstt hini hcode hy hK hg (hsize.trans hml.symm) (argsL := As) (rest := rest) (fun sig h => hn.trans (hlen sig h)) hstack hW (by rw [hb]; exact hdg)
    (fun vm₁ hW₁ => ⟨hf.1, hf.2, hp.2 (T.setVm vm₁) hT hW₁⟩)
  dsimp only [Pt.U, Pt.locs, Pt.cells, Pt.slots] at X' e1 e2 h1 h2 h3 st
  subst h1; subst h2; subst h3
  exact ⟨v, (T.setVm vm₁).calling g' mk As.toArray, t, U', L, hT, X', hL, e1, e2, hq, st⟩
/-- not caught here, past rows that name other classes: it goes on to the caller -/
theorem vx_outP {p : Program} {l : Launch} {e : Env} {R : Room} {s : State} {m : MethodId} {args : Array Value} {below : List Frame} {meth : Method} {c : Code} {H : Heap} {locs : List Loc} {cells slots : Nat} {free : Addr → Prop} {ls : Array Slot} {rest : List Value} {Qc : Array Value → State → Outcome → State → Prop} {XC : String → State → State → Prop}
    {pc : Nat} {own E : String} {ce : Cell} {q : Addr} {mc ms : Nat} (hown : s.vm.findClass own = some m.cls) (hlocks : meth.locks = false)
    (hpass : ∀ z ∈ c.exceptionTable.toList, covers z pc = false ∨ (z.catchType ≠ 0 ∧ ∃ nm : String, (Cond.classLink own z.catchType nm).before args s = true ∧ va_Nc E nm s)) (hcell : H[q]? = some ce) (hv : ce.vm = .none) (hcl : s.vm.findClass E = some ce.cls)
    (hx : ∀ t : State, t.heap = H → s.vm.Alike t.vm → XC E s t) (hf : ∀ z ∈ locs, free z.base) (hc : cells ≤ mc) (hs : slots ≤ ms) :
    vx_W p l e R s m args below meth c H locs cells slots (vx_MQ below Qc XC args s mc ms free) (F0 m pc ls rest) q := by
  intro T hT X
  have hpl : e.platform.magicAccessors = ({} : Platform).magicAccessors := by rw [X.admits.platform]
  obtain ⟨vm', hW', X', st⟩ := X.outThrough hlocks q (g := F0 m pc ls rest) rfl rfl rfl (cell := ce) (by rw [hT]; exact hcell) (by rw [hv]; rfl)
    (by obtain ⟨k9, h9, -⟩ := Vm.findClass_spec hcl; exact ⟨k9, h9⟩) (fun z hz => by
      rcases hpass z hz with h | ⟨hz0, nm, hl1, hn1⟩
      · exact Or.inl h
      · obtain ⟨c6, hc6, hcl6⟩ := Cond.classLink_spec hown hl1 e.platform hpl
        obtain ⟨a8, b8, h1, h2, h3⟩ := hn1
        cases Option.some.inj (h1.symm.trans hcl)
        cases Option.some.inj (h2.symm.trans hc6)
        exact Or.inr ⟨hz0, _, hcl6, h3⟩)
  obtain ⟨g₀, hfr⟩ := X'.frames_eq
  have hcell9 : ((T.setVm vm').setFrames (.throwing q :: below)).heap[q]? = some ce := by
    show T.heap[q]? = some ce
    rw [hT]; exact hcell
  have hend : Ended ((T.setVm vm').setFrames (.throwing q :: below)) below (.threw q) := State.frames_setFrames _ (State.cur_lt_of_frames hfr)
  refine ⟨(T.setVm vm').setFrames (.throwing q :: below), ?_, .threw q, X'.here.running, hend, Or.inr ⟨q, rfl, E, ce, locs, hx _ hT (X'.ends _).1.alike, hcell9, hv, hcl, (X'.ends _).1, (X'.ends _).2.mono hc hs, hf⟩⟩
  rw [X.pushThrowing_eq]
  exact st
/-- a thing of a world lies in the heap -/
theorem vx_lt {D : va_G} {cl : List vw_C} {ws : va_W} {H1 : Heap} (h : va_P D cl ws H1) {k : Nat} {q : Nat × va_E} (hk : ws[k]? = some q) : q.1 < H1.size := (h k q hk).lt
end VXS
/-! ===== END ===== -/
/-! ===== BEGIN methods with a table of their own: called by a name, returning or throwing ===== -/
section VXH
/-! vx_backW, vx_callVX, vx_callSX, vx_callVW, vx_runVW, vx_runVX, vx_runSX, vx_ofWH follow the same proofs as their sisters above (Free/Laws.lean, Shelf42/LK1.lean); vx_outP calls Shelf42/NT130.lean (outThrough). -/
section
variable {l : Launch} {R : Room} {p : Program} {e : Env} {below : List Frame} {s : State} {sargs : Array Value} {y : MethodName} {len W9 : Nat}
theorem vx_backW {ws : List Cond} {rm : Room} {Pc : Array Value → State → Prop} {Qc : Array Value → State → Outcome → State → Prop} {XC : String → State → State → Prop} {mc ms : Nat} {free : Addr → Prop} {bytes : ByteArray} {maxL : Nat} {ret : Option FieldType} {hh : List (Nat × Nat × Nat × Nat)}
    (hM : vx_Met l y ws rm Pc Qc XC mc ms free) (hblind : FrameBlind Pc) (hrc : rm.cells = mc) (hrs : rm.slots = ms)
    (hframes : rm.frames + 1 ≤ R.frames) (hlocals : W9 + (maxL + 11) + rm.locals ≤ R.locals)
    (hws : ∀ w ∈ ws, ∀ a' U, s.WarmedH U.vm → w.before a' U = true) (hcode : Cond.codeWith y bytes maxL ret hh ∈ ws) (hinit : ∀ a' U, s.WarmedH U.vm → (Cond.initialized y.cls).before a' U = true) :
    vx_Back l R p e below s sargs y len W9 (PreOf R mc ms Pc) (PostOf Qc mc ms free) (vx_Post XC mc ms free) := by
  intro m meth c A g ig mk a X hg hsize hdg hW hn hp
  have h1 : (headSpec ws rm).pre.before a A.U = true := atoms_intro fun w hw => hws w hw _ _ X.warmed
  have h2 : (Cond.codeWith y bytes maxL ret hh).before a A.U = true := hws _ hcode _ _ X.warmed
  have h3 : (Cond.initialized y.cls).before a A.U = true := hinit _ _ X.warmed
  have h4 : A.cells + (headSpec ws rm).room.cells ≤ R.cells := by rw [show (headSpec ws rm).room.cells = mc from hrc]; exact hp.1
  have h5 : A.slots + (headSpec ws rm).room.slots ≤ R.slots := by rw [show (headSpec ws rm).room.slots = ms from hrs]; exact hp.2.1
  have hPc : Pc a (A.U.calling g mk a) := hblind _ _ _ _ hp.2.2
  obtain ⟨U, Ls, c0, s0⟩ := A
  dsimp only [Pt.U, Pt.locs, Pt.cells, Pt.slots] at h1 h2 h3 h4 h5 X hn hPc ⊢
  obtain ⟨m9, methY, cY, hn9, hmY, hcY, -, hlY, -⟩ := Cond.codeWith_spec h2
  cases Option.some.inj (hn9.symm.trans hn)
  obtain ⟨kY, hkY, -⟩ := className_of_methodNamed hn
  have hinitY : kY.init = .initialized := Cond.initialized_spec (findClass_of_methodNamed hn) hkY h3
  have h : At U g.method c below := by rw [hg]; exact X.here
  have hlocals9 : W9 + (maxL + 11) + (headSpec ws rm).room.locals ≤ R.locals := hlocals
  have happ : (headSpec ws rm).appliesLoose y e.platform (U.calling g mk a) = true :=
    Spec.appliesLoose_calling (g := g) h hdg hn hkY hinitY
      (X.room_calling (g := g) (R' := (headSpec ws rm).room) hsize hmY hcY hframes (by rw [hlY]; omega) h4 h5) h1
  obtain ⟨mid, hmid⟩ := h.above
  have hfr : (U.setTop g).frames = (.java g :: mid) ++ below := by rw [State.frames_setTop' g h.top, hmid]; rfl
  obtain ⟨o, s₂, hsteps, -, hend, hq⟩ := Steps.callFree hM p X.admits X.cas X.clock (acts := []) hfr happ hPc trivial
  have hq' : vx_Q Qc XC mc ms free a (U.calling g mk a) o s₂ := hq
  rw [State.frames_setTop' g h.top] at hend
  obtain ⟨g₀, hg0⟩ := Option.isSome_iff_exists.mp h.top
  obtain ⟨r, hr⟩ := State.topJava?_eq_some.mp hg0
  have hr' : (({ U with heap := s₂.heap, slotsUsed := s₂.slotsUsed } : State).setVm s₂.vm).frames = .java g₀ :: r := hr
  rcases hq' with ⟨hqc, L, hfe, hL⟩ | ⟨q, rfl, E, ce, L, hx, hce, hcv, hcl, hW₂, hsm, hL⟩
  · obtain ⟨⟨v, rfl⟩, hW₂, e2, q2, q3, q4, q5, q6⟩ := id hfe
    have e3 : s₂ = ({ (U.calling g mk a).setFrames s₂.frames with heap := s₂.heap, slotsUsed := s₂.slotsUsed } : State).setVm s₂.vm := by
      have : s₂ = ({ s₂ with vm := (U.calling g mk a).vm } : State).setVm s₂.vm := rfl
      rw [e2] at this
      exact this
    obtain ⟨c₂, i₂, len₂, hc₂, hd₂, hf₂⟩ := hend
    have hW' : U.WarmedH s₂.vm := hW₂
    have hcc : c₂ = c := by
      have h1 : s₂.code? g.method = U.code? g.method := by
        rw [State.code?_eq, State.code?_eq, hW'.alike.method?]
      exact Option.some.inj (hc₂.symm.trans (h1.trans h.code))
    subst hcc
    have hlen : len₂ = len := by rw [hdg] at hd₂; cases hd₂; rfl
    subst hlen
    have hs₂ : s₂ = (({ U with heap := s₂.heap, slotsUsed := s₂.slotsUsed } : State).setVm s₂.vm).setTop { g with pc := g.pc + len₂, stack := v.toList ++ g.stack } := by
      refine e3.trans ?_
      rw [hf₂, State.calling_eq h.top, State.setFrames_setFrames, State.setTop_of_frames _ hr', hr]
      rfl
    have hsame : U.sameButNew ({ U with heap := s₂.heap, slotsUsed := s₂.slotsUsed } : State) L mc ms := by
      refine ⟨?_, q2, q3, q4, q5, q6⟩
      obtain ⟨t, ht, -⟩ := State.frames_cons hr
      show ({ U with heap := s₂.heap, slotsUsed := s₂.slotsUsed } : State) = { U.setFrames U.frames with heap := s₂.heap, slotsUsed := s₂.slotsUsed }
      rw [State.setFrames_self ht]
    subst hg
    refine Or.inl ⟨v, ⟨(({ U with heap := s₂.heap, slotsUsed := s₂.slotsUsed } : State).setVm s₂.vm), Ls ++ L, c0 + mc, s0 + ms⟩,
      ⟨X.admits, X.cas, X.clock, X.frames, X.room, X.hears, X.method, X.code, (X.here.setHeapUsed s₂.heap s₂.slotsUsed).setVm hW'.alike, X.tail, State.WarmedH.trans X.warmed hW', X.limits, X.bytes, X.same.trans (hsame.setVm s.vm)⟩,
      ⟨g, mk, s₂, L, rfl, rfl, hqc, rfl, hL, rfl, rfl⟩, ?_⟩
    show Steps p.tables e below _ ((({ U with heap := s₂.heap, slotsUsed := s₂.slotsUsed } : State).setVm s₂.vm).setTop { g with pc := g.pc + len₂, stack := v.toList ++ g.stack })
    rw [← hs₂]
    exact hsteps
  · obtain ⟨e2, q2, q3, q4, q5, q6⟩ := id hsm
    have e3 : s₂ = ({ (U.calling g mk a).setFrames s₂.frames with heap := s₂.heap, slotsUsed := s₂.slotsUsed } : State).setVm s₂.vm := by
      have : s₂ = ({ s₂ with vm := (U.calling g mk a).vm } : State).setVm s₂.vm := rfl
      rw [e2] at this
      exact this
    have hf₂ : s₂.frames = .throwing q :: .java g :: U.frames.tail := hend
    have hW' : U.WarmedH s₂.vm := hW₂
    have hs₂ : s₂ = ((({ U with heap := s₂.heap, slotsUsed := s₂.slotsUsed } : State).setVm s₂.vm).setTop g).pushFrame (.throwing q) := by
      refine e3.trans ?_
      rw [hf₂, State.calling_eq h.top, State.setFrames_setFrames, State.pushFrame, State.frames_setTop _ hr', State.setTop_of_frames _ hr', State.setFrames_setFrames, hr]
      rfl
    have hsame : U.sameButNew ({ U with heap := s₂.heap, slotsUsed := s₂.slotsUsed } : State) L mc ms := by
      refine ⟨?_, q2, q3, q4, q5, q6⟩
      obtain ⟨t, ht, -⟩ := State.frames_cons hr
      show ({ U with heap := s₂.heap, slotsUsed := s₂.slotsUsed } : State) = { U.setFrames U.frames with heap := s₂.heap, slotsUsed := s₂.slotsUsed }
      rw [State.setFrames_self ht]
    subst hg
    refine Or.inr ⟨q, ⟨(({ U with heap := s₂.heap, slotsUsed := s₂.slotsUsed } : State).setVm s₂.vm), Ls ++ L, c0 + mc, s0 + ms⟩,
      ⟨X.admits, X.cas, X.clock, X.frames, X.room, X.hears, X.method, X.code, (X.here.setHeapUsed s₂.heap s₂.slotsUsed).setVm hW'.alike, X.tail, State.WarmedH.trans X.warmed hW', X.limits, X.bytes, X.same.trans (hsame.setVm s.vm)⟩,
      ⟨g, mk, s₂, L, E, ce, rfl, rfl, hx, hce, hcv, hcl, rfl, hL, rfl, rfl⟩, ?_⟩
    show Steps p.tables e below _ (((({ U with heap := s₂.heap, slotsUsed := s₂.slotsUsed } : State).setVm s₂.vm).setTop g).pushFrame (.throwing q))
    rw [← hs₂]
    exact hsteps
end
variable {p : Program} {l : Launch} {e : Env} {R : Room} {s : State} {m : MethodId} {args : Array Value} {below : List Frame} {meth : Method} {c : Code} {T : State} {H : Heap} {locs : List Loc} {cells slots : Nat}
theorem vx_callVX (X : Stand p l e R s m args below meth c T locs cells slots) (hexec : p.tables.exec = Jvm.exec) {own C : String} {index : Nat} {y : MethodName} {bytes : ByteArray} {maxL : Nat} {ret : Option FieldType} {hh : List (Nat × Nat × Nat × Nat)}
    (hown : s.vm.findClass own = some m.cls) (hlink : (Cond.methodLink own index y).before args s = true) (hinst : (Cond.instanceMethod y).before args s = true) (hsel : (Cond.selects C y y).before args s = true)
    (hcode : (Cond.codeWith y bytes maxL ret hh).before args s = true) (hy : y.cls ≠ "java/lang/invoke/MethodHandle" ∧ y.cls ≠ "java/lang/invoke/VarHandle")
    {W9 : Nat} {Pre : Pt → Array Value → Prop} {Post : Pt → Array Value → Option Value → Pt → Prop} {PostX : Pt → Array Value → Addr → Pt → Prop} (hK : vx_Back l R p e below s args y 3 W9 Pre Post PostX)
    {b : Addr} {cellB : Cell} (hcell : T.heap[b]? = some cellB) (hobj : cellB.vm.isStatics = false) (hcls : s.vm.findClass C = some cellB.cls)
    {g : JFrame} (hg : g.method = m) (hsize : g.locals.size = c.maxLocals) {argsL rest : List Value} (hlen : ∀ sig, parseMethodDescriptor y.desc = some sig → argsL.length = sig.parameters.length)
    (hstack : g.stack = argsL.reverse ++ .ref b :: rest) (hW : 2 * g.monitorRoom + (rest.map fun v => v.category).sum ≤ W9) (hdg : decode c.code g.pc = .ok (.invokevirtual index, 3))
    (hpre : ∀ vm₁, s.WarmedH vm₁ → Pre ⟨T.setVm vm₁, locs, cells, slots⟩ (Value.ref b :: argsL).toArray) :
    (∃ (v : Option Value) (vm₁ : Vm) (B : Pt), s.WarmedH vm₁ ∧ Stand p l e R s m args below meth c B.U B.locs B.cells B.slots ∧ Post ⟨T.setVm vm₁, locs, cells, slots⟩ (Value.ref b :: argsL).toArray v B ∧
      ∀ target, Steps p.tables e below (B.U.setTop { g with pc := g.pc + 3, stack := v.toList ++ rest }) target → Steps p.tables e below (T.setTop g) target) ∨
    (∃ (q : Addr) (vm₁ : Vm) (B : Pt), s.WarmedH vm₁ ∧ Stand p l e R s m args below meth c B.U B.locs B.cells B.slots ∧ PostX ⟨T.setVm vm₁, locs, cells, slots⟩ (Value.ref b :: argsL).toArray q B ∧
      Steps p.tables e below (T.setTop g) ((B.U.setTop { g with stack := rest }).pushFrame (.throwing q))) := by
  obtain ⟨mk, methM, hnamed, hmethM, hstM, habM⟩ := Cond.instanceMethod_spec hinst
  obtain ⟨m8, methM', cM, hn8, hmethM', -, -, -, -, -, -, hsigM⟩ := Cond.codeWith_spec hcode
  cases Option.some.inj (hn8.symm.trans hnamed)
  cases hmethM.symm.trans hmethM'
  obtain ⟨c2, r2, m2, q1, q2, q3, q4, kP, hkP, hkPi⟩ := Cond.selects_spec hsel
  cases hcls.symm.trans q1
  cases (State.methodFound?_of_named hnamed hy).symm.trans q2
  cases hnamed.symm.trans q3
  have hselP : selectMethod e.platform s.vm cellB.cls mk = .method mk := by rw [Launch.admits_selectMethod X.admits]; exact q4
  obtain ⟨vm₁, X₁, hstep₁⟩ := X.invokevirtual hexec hown hlink hnamed hmethM hstM hkP hkPi hy (a := b) (cell := cellB) hcell
    (fun z h => by rw [h] at hobj; cases hobj) hselP hmethM habM hkP hkPi (g := g) hg (argsL := argsL) (rest := rest) (hlen _ hsigM) hstack hdg
  rcases hK m meth c ⟨T.setVm vm₁, locs, cells, slots⟩ { g with stack := rest } (.invokevirtual index) mk (Value.ref b :: argsL).toArray X₁ hg hsize hdg hW (X₁.named hnamed) (hpre vm₁ X₁.warmed) with ⟨v, B, X', hpost, hsteps⟩ | ⟨q, B, X', hpost, hsteps⟩
  · exact Or.inl ⟨v, vm₁, B, X₁.warmed, X', hpost, fun target h => hstep₁ _ fun acts => by rw [doInvoke_state]; exact hsteps.trans h⟩
  · exact Or.inr ⟨q, vm₁, B, X₁.warmed, X', hpost, hstep₁ _ fun acts => by rw [doInvoke_state]; exact hsteps⟩
theorem vx_callSX (X : Stand p l e R s m args below meth c T locs cells slots) (hexec : p.tables.exec = Jvm.exec) {own : String} {index : Nat} {y : MethodName} {bytes : ByteArray} {maxL : Nat} {ret : Option FieldType} {hh : List (Nat × Nat × Nat × Nat)}
    (hown : s.vm.findClass own = some m.cls) (hlink : (Cond.methodLink own index y).before args s = true) (hstat : (Cond.static y).before args s = true) (hinit : (Cond.initialized y.cls).before args s = true)
    (hcode : (Cond.codeWith y bytes maxL ret hh).before args s = true) (hy : y.cls ≠ "java/lang/invoke/MethodHandle" ∧ y.cls ≠ "java/lang/invoke/VarHandle")
    {W9 : Nat} {Pre : Pt → Array Value → Prop} {Post : Pt → Array Value → Option Value → Pt → Prop} {PostX : Pt → Array Value → Addr → Pt → Prop} (hK : vx_Back l R p e below s args y 3 W9 Pre Post PostX)
    {g : JFrame} (hg : g.method = m) (hsize : g.locals.size = c.maxLocals) {argsL rest : List Value} (hlen : ∀ sig, parseMethodDescriptor y.desc = some sig → argsL.length = sig.parameters.length)
    (hstack : g.stack = argsL.reverse ++ rest) (hW : 2 * g.monitorRoom + (rest.map fun v => v.category).sum ≤ W9) (hdg : decode c.code g.pc = .ok (.invokestatic index, 3))
    (hpre : ∀ vm₁, s.WarmedH vm₁ → Pre ⟨T.setVm vm₁, locs, cells, slots⟩ argsL.toArray) :
    (∃ (v : Option Value) (vm₁ : Vm) (B : Pt), s.WarmedH vm₁ ∧ Stand p l e R s m args below meth c B.U B.locs B.cells B.slots ∧ Post ⟨T.setVm vm₁, locs, cells, slots⟩ argsL.toArray v B ∧
      ∀ target, Steps p.tables e below (B.U.setTop { g with pc := g.pc + 3, stack := v.toList ++ rest }) target → Steps p.tables e below (T.setTop g) target) ∨
    (∃ (q : Addr) (vm₁ : Vm) (B : Pt), s.WarmedH vm₁ ∧ Stand p l e R s m args below meth c B.U B.locs B.cells B.slots ∧ PostX ⟨T.setVm vm₁, locs, cells, slots⟩ argsL.toArray q B ∧
      Steps p.tables e below (T.setTop g) ((B.U.setTop { g with stack := rest }).pushFrame (.throwing q))) := by
  obtain ⟨mk, methM, cM, hnamed, hmethM, -, -, -, -, -, -, hsigM⟩ := Cond.codeWith_spec hcode
  have hstatic : methM.isStatic = true := Cond.static_spec hnamed hmethM hstat
  obtain ⟨kP, hkP, -⟩ := className_of_methodNamed hnamed
  have hinitP : kP.init = .initialized := Cond.initialized_spec (findClass_of_methodNamed hnamed) hkP hinit
  obtain ⟨vm₁, X₁, hstep₁⟩ := X.invokestatic hexec hown hlink hnamed hmethM hstatic hkP hinitP hy (g := g) hg (argsL := argsL) (rest := rest) (hlen _ hsigM) hstack hdg
  rcases hK m meth c ⟨T.setVm vm₁, locs, cells, slots⟩ { g with stack := rest } (.invokestatic index) mk argsL.toArray X₁ hg hsize hdg hW (X₁.named hnamed) (hpre vm₁ X₁.warmed) with ⟨v, B, X', hpost, hsteps⟩ | ⟨q, B, X', hpost, hsteps⟩
  · exact Or.inl ⟨v, vm₁, B, X₁.warmed, X', hpost, fun target h => hstep₁ _ fun acts => by rw [doInvoke_state]; exact hsteps.trans h⟩
  · exact Or.inr ⟨q, vm₁, B, X₁.warmed, X', hpost, hstep₁ _ fun acts => by rw [doInvoke_state]; exact hsteps⟩
theorem vx_callVW (X : Stand p l e R s m args below meth c T locs cells slots) (hexec : p.tables.exec = Jvm.exec) {own C : String} {index : Nat} {y : MethodName} {bytes : ByteArray} {maxL : Nat} {ret : Option FieldType} {hh : List (Nat × Nat × Nat × Nat)}
    (hown : s.vm.findClass own = some m.cls) (hlink : (Cond.methodLink own index y).before args s = true) (hinst : (Cond.instanceMethod y).before args s = true) (hsel : (Cond.selects C y y).before args s = true)
    (hcode : (Cond.codeWith y bytes maxL ret hh).before args s = true) (hy : y.cls ≠ "java/lang/invoke/MethodHandle" ∧ y.cls ≠ "java/lang/invoke/VarHandle")
    {W9 : Nat} {Pre : Pt → Array Value → Prop} {Post : Pt → Array Value → Option Value → Pt → Prop} (hK : Back l R p e below s args y 3 W9 Pre Post)
    {b : Addr} {cellB : Cell} (hcell : T.heap[b]? = some cellB) (hobj : cellB.vm.isStatics = false) (hcls : s.vm.findClass C = some cellB.cls)
    {g : JFrame} (hg : g.method = m) (hsize : g.locals.size = c.maxLocals) {argsL rest : List Value} (hlen : ∀ sig, parseMethodDescriptor y.desc = some sig → argsL.length = sig.parameters.length)
    (hstack : g.stack = argsL.reverse ++ .ref b :: rest) (hW : 2 * g.monitorRoom + (rest.map fun v => v.category).sum ≤ W9) (hdg : decode c.code g.pc = .ok (.invokevirtual index, 3))
    (hpre : ∀ vm₁, s.WarmedH vm₁ → Pre ⟨T.setVm vm₁, locs, cells, slots⟩ (Value.ref b :: argsL).toArray) :
    ∃ (v : Option Value) (vm₁ : Vm) (B : Pt), s.WarmedH vm₁ ∧ Stand p l e R s m args below meth c B.U B.locs B.cells B.slots ∧ Post ⟨T.setVm vm₁, locs, cells, slots⟩ (Value.ref b :: argsL).toArray v B ∧
      ∀ target, Steps p.tables e below (B.U.setTop { g with pc := g.pc + 3, stack := v.toList ++ rest }) target → Steps p.tables e below (T.setTop g) target := by
  obtain ⟨mk, methM, hnamed, hmethM, hstM, habM⟩ := Cond.instanceMethod_spec hinst
  obtain ⟨m8, methM', cM, hn8, hmethM', -, -, -, -, -, -, hsigM⟩ := Cond.codeWith_spec hcode
  cases Option.some.inj (hn8.symm.trans hnamed)
  cases hmethM.symm.trans hmethM'
  obtain ⟨c2, r2, m2, q1, q2, q3, q4, kP, hkP, hkPi⟩ := Cond.selects_spec hsel
  cases hcls.symm.trans q1
  cases (State.methodFound?_of_named hnamed hy).symm.trans q2
  cases hnamed.symm.trans q3
  have hselP : selectMethod e.platform s.vm cellB.cls mk = .method mk := by rw [Launch.admits_selectMethod X.admits]; exact q4
  obtain ⟨vm₁, X₁, hstep₁⟩ := X.invokevirtual hexec hown hlink hnamed hmethM hstM hkP hkPi hy (a := b) (cell := cellB) hcell
    (fun z h => by rw [h] at hobj; cases hobj) hselP hmethM habM hkP hkPi (g := g) hg (argsL := argsL) (rest := rest) (hlen _ hsigM) hstack hdg
  obtain ⟨v, B, X', hpost, hsteps⟩ := hK m meth c ⟨T.setVm vm₁, locs, cells, slots⟩ { g with stack := rest } (.invokevirtual index) mk (Value.ref b :: argsL).toArray X₁ hg hsize hdg hW (X₁.named hnamed) (hpre vm₁ X₁.warmed)
  exact ⟨v, vm₁, B, X₁.warmed, X', hpost, fun target h => hstep₁ _ fun acts => by rw [doInvoke_state]; exact hsteps.trans h⟩
abbrev vx_CVW (R : Room) (s : State) (args : Array Value) (own C : String) (index : Nat) (y : MethodName) (bytes : ByteArray) (maxL : Nat) (ret : Option FieldType) (hh : List (Nat × Nat × Nat × Nat)) (ws : List Cond) (rm : Room) (mc ms n : Nat) : Prop :=
  (rm.cells = mc ∧ rm.slots = ms ∧ rm.frames + 1 ≤ R.frames ∧ 8 + (maxL + 11) + rm.locals ≤ R.locals ∧ (∀ w ∈ ws, ∀ (a' : Array Value) (U : State), s.WarmedH U.vm → w.before a' U = true) ∧ Cond.codeWith y bytes maxL ret hh ∈ ws) ∧
  (Cond.codeWith y bytes maxL ret hh).before args s = true ∧ (Cond.initialized y.cls).before args s = true ∧ (y.cls ≠ "java/lang/invoke/MethodHandle" ∧ y.cls ≠ "java/lang/invoke/VarHandle") ∧
  (∀ sig, parseMethodDescriptor y.desc = some sig → n = sig.parameters.length) ∧ (Cond.methodLink own index y).before args s = true ∧ (Cond.instanceMethod y).before args s = true ∧ (Cond.selects C y y).before args s = true
theorem vx_cwVW {own C : String} {index maxL mc ms : Nat} {y : MethodName} {bytes : ByteArray} {ret : Option FieldType} {hh : List (Nat × Nat × Nat × Nat)} {Ts ws ws' : List Cond} {rm : Room} (n : Nat) (ht : ∀ w ∈ Ts, w.before args s = true) (hT : GoodIn Ts (wsV own index C y ws)) (hw : ws = Cond.codeWith y bytes maxL ret hh :: ws') (hrc : rm.cells = mc) (hrs : rm.slots = ms)
    (hd : y.cls = C ∧ y.cls ≠ "java/lang/invoke/MethodHandle" ∧ y.cls ≠ "java/lang/invoke/VarHandle" ∧ (parseMethodDescriptor y.desc).map (fun d => d.parameters.length) = some n) (hR : rm.frames + 1 ≤ R.frames ∧ 8 + (maxL + 11) + rm.locals ≤ R.locals) :
    vx_CVW R s args own C index y bytes maxL ret hh ws rm mc ms n := by
  obtain ⟨hC, hd⟩ := hd
  subst hC
  have ok : ∀ w ∈ wsV own index y.cls y ws, w.before args s = true := fun w h => ht w (hT w h).1
  have hG : GoodIn Ts ws := fun w h => hT w (by unfold wsV; exact List.mem_append_right _ h)
  have hc : Cond.codeWith y bytes maxL ret hh ∈ ws := by rw [hw]; exact List.mem_cons_self
  refine ⟨⟨hrc, hrs, hR.1, hR.2, pay_in ht hG, hc⟩, ht _ (hG _ hc).1, ok _ (by simp [wsV]), ⟨hd.1, hd.2.1⟩, fun sig h => ?_, ok _ (by simp [wsV]), ok _ (by simp [wsV]), ok _ (by simp [wsV])⟩
  have h2 := hd.2.2
  rw [h] at h2
  exact (Option.some.inj h2).symm
theorem vx_runVW {y : MethodName} {bytes cc : ByteArray} {maxL nL mc ms n index : Nat} {ret : Option FieldType} {hh : List (Nat × Nat × Nat × Nat)} {ws : List Cond} {rm : Room} {Pc : Array Value → State → Prop} {Qc : Array Value → State → Outcome → State → Prop} {free : Addr → Prop} {Ts : List Cond} {own C : String} {b : Addr} {As rest : List Value} {g : JFrame}
    (S : CallFix p m c cc nL s args Ts own) (hM : Met l y ws rm Pc Qc mc ms free) (cw : vx_CVW R s args own C index y bytes maxL ret hh ws rm mc ms n) (hp : PreV s H C b Pc As)
    (hg : g.method = m) (hn : As.length = n) (hsize : g.locals.size = nL) (hstack : g.stack = As.reverse ++ .ref b :: rest) (hW : 2 * g.monitorRoom + (rest.map fun v => v.category).sum ≤ 8) (hdg : decode cc g.pc = .ok (.invokevirtual index, 3)) (hf : cells + mc ≤ R.cells ∧ slots + ms ≤ R.slots) :
    va_Run p l e R s m args below meth c H locs cells slots mc ms g rest (Qc (Value.ref b :: As).toArray) free := by
  obtain ⟨⟨hrc, hrs, hfr, hlo, hws, hcw⟩, hcode, hini, hy, hlen, hl, hin, hse⟩ := cw
  have hK : Back l R p e below s args y 3 8 (PreOf R mc ms Pc) (PostOf Qc mc ms free) := va_backW (hh := hh) (bytes := bytes) (maxL := maxL) (ret := ret) hM hp.1 hrc hrs hfr hlo hws hcw (fun a' U hW => word_at hW (Or.inl (by first | rfl | simp [Cond.onTables, Cond.keeps, Cond.steady])) hini)
  obtain ⟨hx, hb, hml, ho, -⟩ := S
  obtain ⟨-, ⟨cellB, hcB, hoB, hclB⟩, hPc⟩ := hp
  intro T hT X
  obtain ⟨v, vm₁, ⟨U', l2, c2, s2⟩, hW₁, X', ⟨g', mk, t, L, e1, e2, hq, h1, hL, h2, h3⟩, st⟩ := vx_callVW X hx (C := C) (hh := hh) (bytes := bytes) (maxL := maxL) (ret := ret) ho hl hin hse hcode hy hK (by rw [hT]; exact hcB) hoB hclB hg (hsize.trans hml.symm) (argsL := As) (rest := rest) (fun sig h => hn.trans (hlen sig h)) hstack hW (by rw [hb]; exact hdg)
    (fun vm₁ hW₁ => ⟨hf.1, hf.2, hPc (T.setVm vm₁) hT hW₁⟩)
  dsimp only [Pt.U, Pt.locs, Pt.cells, Pt.slots] at X' e1 e2 h1 h2 h3 st
  subst h1; subst h2; subst h3
  exact ⟨v, (T.setVm vm₁).calling g' mk (Value.ref b :: As).toArray, t, U', L, hT, X', hL, e1, e2, hq, st⟩
section
variable {y : MethodName} {bytes cc : ByteArray} {maxL nL mc ms n index : Nat} {ret : Option FieldType} {ws : List Cond} {rm : Room} {Pc : Array Value → State → Prop} {Qc : Array Value → State → Outcome → State → Prop} {XC : String → State → State → Prop} {free : Addr → Prop} {Ts : List Cond} {own C : String} {b : Addr} {As rest : List Value} {g : JFrame}
theorem vx_runVX {hh : List (Nat × Nat × Nat × Nat)} (S : CallFix p m c cc nL s args Ts own) (hM : vx_Met l y ws rm Pc Qc XC mc ms free) (cw : vx_CVW R s args own C index y bytes maxL ret hh ws rm mc ms n) (hp : PreV s H C b Pc As)
    (hg : g.method = m) (hn : As.length = n) (hsize : g.locals.size = nL) (hstack : g.stack = As.reverse ++ .ref b :: rest) (hW : 2 * g.monitorRoom + (rest.map fun v => v.category).sum ≤ 8) (hdg : decode cc g.pc = .ok (.invokevirtual index, 3)) (hf : cells + mc ≤ R.cells ∧ slots + ms ≤ R.slots) :
    vx_Run p l e R s m args below meth c H locs cells slots mc ms g rest (Qc (Value.ref b :: As).toArray) XC free := by
  obtain ⟨⟨hrc, hrs, hfr, hlo, hws, hcw⟩, hcode, hini, hy, hlen, hl, hin, hse⟩ := cw
  have hK : vx_Back l R p e below s args y 3 8 (PreOf R mc ms Pc) (PostOf Qc mc ms free) (vx_Post XC mc ms free) := vx_backW (hh := hh) (bytes := bytes) (maxL := maxL) (ret := ret) hM hp.1 hrc hrs hfr hlo hws hcw (fun a' U hW => word_at hW (Or.inl (by first | rfl | simp [Cond.onTables, Cond.keeps, Cond.steady])) hini)
  obtain ⟨hx, hb, hml, ho, -⟩ := S
  obtain ⟨-, ⟨cellB, hcB, hoB, hclB⟩, hPc⟩ := hp
  intro T hT X
  rcases vx_callVX X hx (C := C) (hh := hh) (bytes := bytes) (maxL := maxL) (ret := ret) ho hl hin hse hcode hy hK (by rw [hT]; exact hcB) hoB hclB hg (hsize.trans hml.symm) (argsL := As) (rest := rest) (fun sig h => hn.trans (hlen sig h)) hstack hW (by rw [hb]; exact hdg)
    (fun vm₁ hW₁ => ⟨hf.1, hf.2, hPc (T.setVm vm₁) hT hW₁⟩) with ⟨v, vm₁, ⟨U', l2, c2, s2⟩, hW₁, X', ⟨g', mk, t, L, e1, e2, hq, h1, hL, h2, h3⟩, st⟩ | ⟨q, vm₁, ⟨U', l2, c2, s2⟩, hW₁, X', ⟨g', mk, t, L, E, ce, e1, e2, hq, hce, hcv, hcl, h1, hL, h2, h3⟩, st⟩
  · dsimp only [Pt.U, Pt.locs, Pt.cells, Pt.slots] at X' e1 e2 h1 h2 h3 st
    subst h1; subst h2; subst h3
    exact Or.inl ⟨v, (T.setVm vm₁).calling g' mk (Value.ref b :: As).toArray, t, U', L, hT, X', hL, e1, e2, hq, st⟩
  · dsimp only [Pt.U, Pt.locs, Pt.cells, Pt.slots] at X' e1 e2 h1 h2 h3 st hcl
    subst h1; subst h2; subst h3
    exact Or.inr ⟨q, (T.setVm vm₁).calling g' mk (Value.ref b :: As).toArray, t, U', L, E, ce, hT, X', hL, e1, e2, hq, hce, hcv, vx_cls hW₁ hcl, st⟩
theorem vx_runSX {hh : List (Nat × Nat × Nat × Nat)} (S : CallFix p m c cc nL s args Ts own) (hM : vx_Met l y ws rm Pc Qc XC mc ms free) (cw : vx_CSW R s args own index y bytes maxL ret hh ws rm mc ms n) (hp : PreS s H Pc As)
    (hg : g.method = m) (hn : As.length = n) (hsize : g.locals.size = nL) (hstack : g.stack = As.reverse ++ rest) (hW : 2 * g.monitorRoom + (rest.map fun v => v.category).sum ≤ 8) (hdg : decode cc g.pc = .ok (.invokestatic index, 3)) (hf : cells + mc ≤ R.cells ∧ slots + ms ≤ R.slots) :
    vx_Run p l e R s m args below meth c H locs cells slots mc ms g rest (Qc As.toArray) XC free := by
  obtain ⟨⟨hrc, hrs, hfr, hlo, hws, hcw⟩, hcode, hini, hy, hlen, hl, hstt⟩ := cw
  have hK : vx_Back l R p e below s args y 3 8 (PreOf R mc ms Pc) (PostOf Qc mc ms free) (vx_Post XC mc ms free) := vx_backW (hh := hh) (bytes := bytes) (maxL := maxL) (ret := ret) hM hp.1 hrc hrs hfr hlo hws hcw (fun a' U hW => word_at hW (Or.inl (by first | rfl | simp [Cond.onTables, Cond.keeps, Cond.steady])) hini)
  obtain ⟨hx, hb, hml, ho, -⟩ := S
  intro T hT X
  rcases vx_callSX X hx (hh := hh) (bytes := bytes) (maxL := maxL) (ret := ret) ho hl hstt hini hcode hy hK hg (hsize.trans hml.symm) (argsL := As) (rest := rest) (fun sig h => hn.trans (hlen sig h)) hstack hW (by rw [hb]; exact hdg)
    (fun vm₁ hW₁ => ⟨hf.1, hf.2, hp.2 (T.setVm vm₁) hT hW₁⟩) with ⟨v, vm₁, ⟨U', l2, c2, s2⟩, hW₁, X', ⟨g', mk, t, L, e1, e2, hq, h1, hL, h2, h3⟩, st⟩ | ⟨q, vm₁, ⟨U', l2, c2, s2⟩, hW₁, X', ⟨g', mk, t, L, E, ce, e1, e2, hq, hce, hcv, hcl, h1, hL, h2, h3⟩, st⟩
  · dsimp only [Pt.U, Pt.locs, Pt.cells, Pt.slots] at X' e1 e2 h1 h2 h3 st
    subst h1; subst h2; subst h3
    exact Or.inl ⟨v, (T.setVm vm₁).calling g' mk As.toArray, t, U', L, hT, X', hL, e1, e2, hq, st⟩
  · dsimp only [Pt.U, Pt.locs, Pt.cells, Pt.slots] at X' e1 e2 h1 h2 h3 st hcl
    subst h1; subst h2; subst h3
    exact Or.inr ⟨q, (T.setVm vm₁).calling g' mk As.toArray, t, U', L, E, ce, hT, X', hL, e1, e2, hq, hce, hcv, vx_cls hW₁ hcl, st⟩
end
end VXH
theorem vx_ofWH {l : Launch} {y : MethodName} {ws ws' : List Cond} {rm : Room} {Pc : Array Value → State → Prop} {Qc : Array Value → State → Outcome → State → Prop} {XC : String → State → State → Prop} {mc ms : Nat} {free : Addr → Prop} {cc : ByteArray} {maxL : Nat} {ret : Option FieldType} {hh : List (Nat × Nat × Nat × Nat)}
    (hy : plainName y.cls = true) (hw : ws = Cond.codeWith y cc maxL ret hh :: ws')
    (body : ∀ p e s m args below meth c s₁, BodyLoose p l y (headSpec ws rm) cc maxL ret e s m args below meth c s₁ → c.maxLocals = maxL → Pc args s →
      W p l e (headSpec ws rm).room s m args below meth c s.heap [] 0 0 (vx_MQ below Qc XC args s mc ms free) (entryFrame m args maxL)) : vx_Met l y ws rm Pc Qc XC mc ms free := by
  refine MetFree.of_bodyS (code := cc) (maxLocals := maxL) (ret := ret) hy ?_ ?_
  · intro args s m h hn
    obtain ⟨m9, meth, c, hn9, h1, h2, h3, h4, -, h5, h6, -⟩ := Cond.codeWith_spec (atoms_spec (ws := ws) h _ (by rw [hw]; exact List.mem_cons_self))
    cases hn.symm.trans hn9
    exact ⟨meth, c, h1, h2, h3, h4, h5, h6⟩
  · intro p e s m args below meth c s₁ B hml hP _
    have hh0 : s₁.heap = s.heap := by rw [B.state]; rfl
    obtain ⟨t, a1, o, b1, b2, b3⟩ := body p e s m args below meth c s₁ B hml hP s₁ hh0 (Stand.of_body B)
    exact ⟨t, o, a1, b1, b2, b3⟩
/-! ===== END ===== -/
end
section
/-! ===== BEGIN printed: names, fields, word lists, decode rows ===== -/
def RX0 : String := "BootChooser$CodeLock"
def TX0 : u_T := fun k => match k with
  | 0 => ("BootChooser$CodeLock", "digits", "[I", true)
  | 1 => ("BootChooser$CodeLock", "isClosed", "Z", false)
  | 2 => ("BootChooser$CodeLock", "codeValue", "I", false)
  | 3 => ("BootChooser$CodeLock", "codeLength", "I", false)
  | _ => ("BootChooser$CodeLock", "entered", "I", false)
def tyX0 : Nat → FieldType := fun k => match k with
  | 0 => .array .int
  | 1 => .boolean
  | 2 => .int
  | 3 => .int
  | _ => .int
abbrev wsX00 : List Cond := u_ws RX0 TX0 5
theorem nmX0 : ∀ a, a < 5 → ∀ b, b < 5 → a ≠ b → (TX0 a).2.1 ≠ (TX0 b).2.1 := by decide +kernel
theorem tyX0_ok : ∀ k, k < 5 → parseFieldDescriptor (TX0 k).2.2.1 = some (tyX0 k) := by decide +kernel
abbrev cX0_init : ByteArray := prog_2_method_1_code
def yX0_init : MethodName := ⟨RX0, "<init>", "()V"⟩
abbrev cX0_close : ByteArray := prog_2_method_2_code
def yX0_close : MethodName := ⟨RX0, "close", "(II)V"⟩
abbrev cX0_forgetDigits : ByteArray := prog_2_method_3_code
def yX0_forgetDigits : MethodName := ⟨RX0, "forgetDigits", "()V"⟩
abbrev cX0_takeDigit : ByteArray := prog_2_method_4_code
def yX0_takeDigit : MethodName := ⟨RX0, "takeDigit", "(I)Z"⟩
abbrev cX0_endsInCode : ByteArray := prog_2_method_5_code
def yX0_endsInCode : MethodName := ⟨RX0, "endsInCode", "()Z"⟩
def RX1 : String := "BootChooser$Entry"
def TX1 : u_T := fun k => match k with
  | 0 => ("BootChooser$Entry", "isThere", "Z", false)
  | 1 => ("BootChooser$Entry", "number", "I", false)
  | 2 => ("BootChooser$Entry", "kind", "I", false)
  | 3 => ("BootChooser$Entry", "name", "I", false)
  | 4 => ("BootChooser$Entry", "version", "I", false)
  | 5 => ("BootChooser$Entry", "mark", "I", false)
  | 6 => ("BootChooser$Entry", "option", "I", false)
  | _ => ("BootChooser$Entry", "triesLeft", "I", false)
def tyX1 : Nat → FieldType := fun k => match k with
  | 0 => .boolean
  | 1 => .int
  | 2 => .int
  | 3 => .int
  | 4 => .int
  | 5 => .int
  | 6 => .int
  | _ => .int
abbrev wsX10 : List Cond := u_ws RX1 TX1 8
theorem nmX1 : ∀ a, a < 8 → ∀ b, b < 8 → a ≠ b → (TX1 a).2.1 ≠ (TX1 b).2.1 := by decide +kernel
theorem tyX1_ok : ∀ k, k < 8 → parseFieldDescriptor (TX1 k).2.2.1 = some (tyX1 k) := by decide +kernel
abbrev cX1_init : ByteArray := prog_3_method_1_code
def yX1_init : MethodName := ⟨RX1, "<init>", "()V"⟩
abbrev cX1_fill : ByteArray := prog_3_method_2_code
def yX1_fill : MethodName := ⟨RX1, "fill", "(IIIIII)V"⟩
abbrev cX1_isBad : ByteArray := prog_3_method_3_code
def yX1_isBad : MethodName := ⟨RX1, "isBad", "()Z"⟩
abbrev cX1_useTry : ByteArray := prog_3_method_4_code
def yX1_useTry : MethodName := ⟨RX1, "useTry", "()V"⟩
abbrev cX1_isAheadOf : ByteArray := prog_3_method_5_code
def yX1_isAheadOf : MethodName := ⟨RX1, "isAheadOf", "(LBootChooser$Entry;)Z"⟩
abbrev cX1_compareVersion : ByteArray := prog_3_method_6_code
def yX1_compareVersion : MethodName := ⟨RX1, "compareVersion", "(LBootChooser$Entry;)I"⟩
def RX2 : String := "BootChooser"
def TX2 : u_T := fun k => match k with
  | 0 => ("BootChooser", "rows", "[LBootChooser$Entry;", true)
  | 1 => ("BootChooser", "codeLock", "LBootChooser$CodeLock;", true)
  | 2 => ("BootChooser", "entriesEver", "I", false)
  | 3 => ("BootChooser", "stayingChoice", "I", false)
  | 4 => ("BootChooser", "onceChoice", "I", false)
  | 5 => ("BootChooser", "patternFrom", "I", false)
  | 6 => ("BootChooser", "patternTo", "I", false)
  | 7 => ("BootChooser", "runningEntry", "I", false)
  | _ => ("BootChooser", "measured", "I", false)
def tyX2 : Nat → FieldType := fun k => match k with
  | 0 => .array (.object "BootChooser$Entry")
  | 1 => .object "BootChooser$CodeLock"
  | 2 => .int
  | 3 => .int
  | 4 => .int
  | 5 => .int
  | 6 => .int
  | 7 => .int
  | _ => .int
abbrev wsX20 : List Cond := u_ws RX2 TX2 9
theorem nmX2 : ∀ a, a < 9 → ∀ b, b < 9 → a ≠ b → (TX2 a).2.1 ≠ (TX2 b).2.1 := by decide +kernel
theorem tyX2_ok : ∀ k, k < 9 → parseFieldDescriptor (TX2 k).2.2.1 = some (tyX2 k) := by decide +kernel
abbrev cX2_init : ByteArray := prog_1_method_1_code
def yX2_init : MethodName := ⟨RX2, "<init>", "()V"⟩
abbrev cX2_add : ByteArray := prog_1_method_2_code
def yX2_add : MethodName := ⟨RX2, "add", "(IIIII)I"⟩
abbrev cX2_remove : ByteArray := prog_1_method_3_code
def yX2_remove : MethodName := ⟨RX2, "remove", "(I)I"⟩
abbrev cX2_edit : ByteArray := prog_1_method_4_code
def yX2_edit : MethodName := ⟨RX2, "edit", "(II)I"⟩
abbrev cX2_choose : ByteArray := prog_1_method_5_code
def yX2_choose : MethodName := ⟨RX2, "choose", "(I)I"⟩
abbrev cX2_chooseOnce : ByteArray := prog_1_method_6_code
def yX2_chooseOnce : MethodName := ⟨RX2, "chooseOnce", "(I)I"⟩
abbrev cX2_setPattern : ByteArray := prog_1_method_7_code
def yX2_setPattern : MethodName := ⟨RX2, "setPattern", "(II)I"⟩
abbrev cX2_start : ByteArray := prog_1_method_8_code
def yX2_start : MethodName := ⟨RX2, "start", "()I"⟩
abbrev cX2_good : ByteArray := prog_1_method_9_code
def yX2_good : MethodName := ⟨RX2, "good", "()I"⟩
abbrev cX2_running : ByteArray := prog_1_method_10_code
def yX2_running : MethodName := ⟨RX2, "running", "()I"⟩
abbrev cX2_next : ByteArray := prog_1_method_11_code
def yX2_next : MethodName := ⟨RX2, "next", "()I"⟩
abbrev cX2_lock : ByteArray := prog_1_method_12_code
def yX2_lock : MethodName := ⟨RX2, "lock", "(II)V"⟩
abbrev cX2_enter : ByteArray := prog_1_method_13_code
def yX2_enter : MethodName := ⟨RX2, "enter", "(I)Z"⟩
abbrev cX2_isLocked : ByteArray := prog_1_method_14_code
def yX2_isLocked : MethodName := ⟨RX2, "isLocked", "()Z"⟩
abbrev cX2_entries : ByteArray := prog_1_method_15_code
def yX2_entries : MethodName := ⟨RX2, "entries", "()I"⟩
abbrev cX2_at : ByteArray := prog_1_method_16_code
def yX2_at : MethodName := ⟨RX2, "at", "(I)I"⟩
abbrev cX2_placeOf : ByteArray := prog_1_method_17_code
def yX2_placeOf : MethodName := ⟨RX2, "placeOf", "(I)I"⟩
abbrev cX2_tries : ByteArray := prog_1_method_18_code
def yX2_tries : MethodName := ⟨RX2, "tries", "(I)I"⟩
abbrev cX2_compare : ByteArray := prog_1_method_19_code
def yX2_compare : MethodName := ⟨RX2, "compare", "(II)I"⟩
abbrev cX2_foretold : ByteArray := prog_1_method_20_code
def yX2_foretold : MethodName := ⟨RX2, "foretold", "(I)I"⟩
abbrev cX2_register : ByteArray := prog_1_method_21_code
def yX2_register : MethodName := ⟨RX2, "register", "()I"⟩
abbrev cX2_presentEntry : ByteArray := prog_1_method_22_code
def yX2_presentEntry : MethodName := ⟨RX2, "presentEntry", "(I)LBootChooser$Entry;"⟩
abbrev cX2_refuseAsChoice : ByteArray := prog_1_method_23_code
def yX2_refuseAsChoice : MethodName := ⟨RX2, "refuseAsChoice", "(I)V"⟩
abbrev cX2_refuseIfLocked : ByteArray := prog_1_method_24_code
def yX2_refuseIfLocked : MethodName := ⟨RX2, "refuseIfLocked", "()V"⟩
abbrev cX2_isWithin : ByteArray := prog_1_method_25_code
def yX2_isWithin : MethodName := ⟨RX2, "isWithin", "(III)Z"⟩
abbrev cX2_highestCode : ByteArray := prog_1_method_26_code
def yX2_highestCode : MethodName := ⟨RX2, "highestCode", "(I)I"⟩
abbrev cX2_freeRow : ByteArray := prog_1_method_27_code
def yX2_freeRow : MethodName := ⟨RX2, "freeRow", "()LBootChooser$Entry;"⟩
abbrev cX2_findEntry : ByteArray := prog_1_method_28_code
def yX2_findEntry : MethodName := ⟨RX2, "findEntry", "(I)LBootChooser$Entry;"⟩
abbrev cX2_countEntries : ByteArray := prog_1_method_29_code
def yX2_countEntries : MethodName := ⟨RX2, "countEntries", "()I"⟩
abbrev cX2_countFitting : ByteArray := prog_1_method_30_code
def yX2_countFitting : MethodName := ⟨RX2, "countFitting", "()I"⟩
abbrev cX2_isFitting : ByteArray := prog_1_method_31_code
def yX2_isFitting : MethodName := ⟨RX2, "isFitting", "(LBootChooser$Entry;)Z"⟩
abbrev cX2_countAhead : ByteArray := prog_1_method_32_code
def yX2_countAhead : MethodName := ⟨RX2, "countAhead", "(LBootChooser$Entry;)I"⟩
abbrev cX2_entryWithPlace : ByteArray := prog_1_method_33_code
def yX2_entryWithPlace : MethodName := ⟨RX2, "entryWithPlace", "(I)LBootChooser$Entry;"⟩
abbrev cX2_nextEntry : ByteArray := prog_1_method_34_code
def yX2_nextEntry : MethodName := ⟨RX2, "nextEntry", "()LBootChooser$Entry;"⟩
abbrev cX2_firstFittingNotBad : ByteArray := prog_1_method_35_code
def yX2_firstFittingNotBad : MethodName := ⟨RX2, "firstFittingNotBad", "()LBootChooser$Entry;"⟩
abbrev cX2_measure : ByteArray := prog_1_method_36_code
def yX2_measure : MethodName := ⟨RX2, "measure", "(LBootChooser$Entry;)I"⟩
abbrev cX2_step : ByteArray := prog_1_method_37_code
def yX2_step : MethodName := ⟨RX2, "step", "(II)I"⟩
def RX3 : String := "BootChooserModel"
def TX3 : u_T := fun k => match k with
  | _ => ("", "", "", false)
def tyX3 : Nat → FieldType := fun k => match k with
  | _ => .int
abbrev wsX30 : List Cond := u_ws RX3 TX3 0
theorem nmX3 : ∀ a, a < 0 → ∀ b, b < 0 → a ≠ b → (TX3 a).2.1 ≠ (TX3 b).2.1 := by decide +kernel
theorem tyX3_ok : ∀ k, k < 0 → parseFieldDescriptor (TX3 k).2.2.1 = some (tyX3 k) := by decide +kernel
def RJ6 : String := "java/lang/Integer"
def TJ6 : u_T := fun k => match k with
  | _ => ("", "", "", false)
def tyJ6 : Nat → FieldType := fun k => match k with
  | _ => .int
abbrev wsJ60 : List Cond := u_ws RJ6 TJ6 0
theorem nmJ6 : ∀ a, a < 0 → ∀ b, b < 0 → a ≠ b → (TJ6 a).2.1 ≠ (TJ6 b).2.1 := by decide +kernel
theorem tyJ6_ok : ∀ k, k < 0 → parseFieldDescriptor (TJ6 k).2.2.1 = some (tyJ6 k) := by decide +kernel
abbrev cJ6_compare_7cf53 : ByteArray := prog_10_method_40_code
def yJ6_compare_7cf53 : MethodName := ⟨RJ6, "compare", "(II)I"⟩
def RJ0 : String := "java/lang/String"
def TJ0 : u_T := fun k => match k with
  | _ => ("", "", "", false)
def tyJ0 : Nat → FieldType := fun k => match k with
  | _ => .int
abbrev wsJ00 : List Cond := u_ws RJ0 TJ0 0
theorem nmJ0 : ∀ a, a < 0 → ∀ b, b < 0 → a ≠ b → (TJ0 a).2.1 ≠ (TJ0 b).2.1 := by decide +kernel
theorem tyJ0_ok : ∀ k, k < 0 → parseFieldDescriptor (TJ0 k).2.2.1 = some (tyJ0 k) := by decide +kernel
def RL : String := "BootChooserLaw"
abbrev cL_lock : ByteArray := method_2_code
def yL_lock : MethodName := ⟨RL, "lock", "(LBootChooser;II)I"⟩
abbrev cL_act : ByteArray := method_3_code
def yL_act : MethodName := ⟨RL, "act", "(LBootChooser;III)I"⟩
abbrev cL_add : ByteArray := method_4_code
def yL_add : MethodName := ⟨RL, "add", "(LBootChooser;IIIII)I"⟩
abbrev cL_refuses : ByteArray := method_5_code
def yL_refuses : MethodName := ⟨RL, "refuses", "(LBootChooser;II)Z"⟩
abbrev cL_order : ByteArray := method_6_code
def yL_order : MethodName := ⟨RL, "order", "(LBootChooser;IIII)Z"⟩
abbrev cL_starts : ByteArray := method_7_code
def yL_starts : MethodName := ⟨RL, "starts", "()Z"⟩
abbrev cL_locks : ByteArray := method_8_code
def yL_locks : MethodName := ⟨RL, "locks", "()Z"⟩
abbrev cL_law : ByteArray := code
def yL_law : MethodName := ⟨RL, "law", "([I)Z"⟩
def wsX0_init : List Cond := .code yX0_init cX0_init 1 none :: ([.methodLink RX0 3 objectInit, .instanceMethod objectInit, .code objectInit ⟨#[0xb1]⟩ 1 none, .arrayClass .int, .fieldLink RX0 9 "BootChooser$CodeLock" "digits" "[I", .fieldLink RX0 15 "BootChooser$CodeLock" "isClosed" "Z", .fieldLink RX0 19 "BootChooser$CodeLock" "codeValue" "I", .fieldLink RX0 23 "BootChooser$CodeLock" "codeLength" "I", .fieldLink RX0 26 "BootChooser$CodeLock" "entered" "I"] ++ wsX00)
def wsX0_forgetDigits : List Cond := .code yX0_forgetDigits cX0_forgetDigits 1 none :: ([.fieldLink RX0 26 "BootChooser$CodeLock" "entered" "I"] ++ wsX00)
def wsX0_close : List Cond := .code yX0_close cX0_close 3 none :: ([.fieldLink RX0 15 "BootChooser$CodeLock" "isClosed" "Z", .fieldLink RX0 19 "BootChooser$CodeLock" "codeValue" "I", .fieldLink RX0 23 "BootChooser$CodeLock" "codeLength" "I", .methodLink RX0 29 yX0_forgetDigits, .instanceMethod yX0_forgetDigits, .selects RX0 yX0_forgetDigits yX0_forgetDigits, .initialized RX0, .code yX0_forgetDigits cX0_forgetDigits 1 none, .fieldLink RX0 26 "BootChooser$CodeLock" "entered" "I"] ++ wsX00)
def wsX0_endsInCode : List Cond := .code yX0_endsInCode cX0_endsInCode 3 (some .boolean) :: ([.fieldLink RX0 26 "BootChooser$CodeLock" "entered" "I", .fieldLink RX0 23 "BootChooser$CodeLock" "codeLength" "I", .fieldLink RX0 9 "BootChooser$CodeLock" "digits" "[I", .fieldLink RX0 19 "BootChooser$CodeLock" "codeValue" "I"] ++ wsX00)
def wsX0_takeDigit : List Cond := .code yX0_takeDigit cX0_takeDigit 2 (some .boolean) :: ([.classLink RX0 32 "java/lang/IllegalStateException", .initialized "java/lang/IllegalStateException", .fieldLink RX0 15 "BootChooser$CodeLock" "isClosed" "Z", .fieldLink RX0 26 "BootChooser$CodeLock" "entered" "I", .fieldLink RX0 9 "BootChooser$CodeLock" "digits" "[I", .methodLink RX0 39 yX0_endsInCode, .instanceMethod yX0_endsInCode, .selects RX0 yX0_endsInCode yX0_endsInCode, .initialized RX0, .code yX0_endsInCode cX0_endsInCode 3 (some .boolean), .fieldLink RX0 23 "BootChooser$CodeLock" "codeLength" "I", .fieldLink RX0 19 "BootChooser$CodeLock" "codeValue" "I"] ++ wsX00 ++ (vx_atS RX0 36 "java/lang/IllegalStateException" ["java/lang/RuntimeException", "java/lang/Exception"]).filter goodWord)
def wsX1_init : List Cond := .code yX1_init cX1_init 1 none :: ([.methodLink RX1 3 objectInit, .instanceMethod objectInit, .code objectInit ⟨#[0xb1]⟩ 1 none, .fieldLink RX1 9 "BootChooser$Entry" "isThere" "Z", .fieldLink RX1 15 "BootChooser$Entry" "number" "I", .fieldLink RX1 19 "BootChooser$Entry" "kind" "I", .fieldLink RX1 22 "BootChooser$Entry" "name" "I", .fieldLink RX1 25 "BootChooser$Entry" "version" "I", .fieldLink RX1 28 "BootChooser$Entry" "mark" "I", .fieldLink RX1 31 "BootChooser$Entry" "option" "I", .fieldLink RX1 34 "BootChooser$Entry" "triesLeft" "I"] ++ wsX10)
def wsX1_fill : List Cond := .code yX1_fill cX1_fill 7 none :: ([.fieldLink RX1 9 "BootChooser$Entry" "isThere" "Z", .fieldLink RX1 15 "BootChooser$Entry" "number" "I", .fieldLink RX1 19 "BootChooser$Entry" "kind" "I", .fieldLink RX1 22 "BootChooser$Entry" "name" "I", .fieldLink RX1 25 "BootChooser$Entry" "version" "I", .fieldLink RX1 28 "BootChooser$Entry" "mark" "I", .fieldLink RX1 31 "BootChooser$Entry" "option" "I", .fieldLink RX1 34 "BootChooser$Entry" "triesLeft" "I"] ++ wsX10)
def wsX1_isBad : List Cond := .code yX1_isBad cX1_isBad 1 (some .boolean) :: ([.fieldLink RX1 34 "BootChooser$Entry" "triesLeft" "I"] ++ wsX10)
def wsX1_useTry : List Cond := .code yX1_useTry cX1_useTry 1 none :: ([.fieldLink RX1 34 "BootChooser$Entry" "triesLeft" "I"] ++ wsX10)
def wsJ6_compare_7cf53 : List Cond := .code yJ6_compare_7cf53 cJ6_compare_7cf53 2 (some .int) :: ([])
def wsX1_compareVersion : List Cond := .code yX1_compareVersion cX1_compareVersion 2 (some .int) :: ([.fieldLink RX1 25 "BootChooser$Entry" "version" "I", .fieldLink RX1 28 "BootChooser$Entry" "mark" "I", .methodLink RX1 45 yJ6_compare_7cf53, .static yJ6_compare_7cf53, .initialized RJ6, .code yJ6_compare_7cf53 cJ6_compare_7cf53 2 (some .int)] ++ wsX10)
def wsX1_isAheadOf : List Cond := .code yX1_isAheadOf cX1_isAheadOf 3 (some .boolean) :: ([.fieldLink RX1 19 "BootChooser$Entry" "kind" "I", .fieldLink RX1 22 "BootChooser$Entry" "name" "I", .fieldLink RX1 15 "BootChooser$Entry" "number" "I", .methodLink RX1 37 yX1_isBad, .instanceMethod yX1_isBad, .selects RX1 yX1_isBad yX1_isBad, .initialized RX1, .code yX1_isBad cX1_isBad 1 (some .boolean), .fieldLink RX1 34 "BootChooser$Entry" "triesLeft" "I", .methodLink RX1 41 yX1_compareVersion, .instanceMethod yX1_compareVersion, .selects RX1 yX1_compareVersion yX1_compareVersion, .code yX1_compareVersion cX1_compareVersion 2 (some .int), .fieldLink RX1 25 "BootChooser$Entry" "version" "I", .fieldLink RX1 28 "BootChooser$Entry" "mark" "I", .methodLink RX1 45 yJ6_compare_7cf53, .static yJ6_compare_7cf53, .initialized RJ6, .code yJ6_compare_7cf53 cJ6_compare_7cf53 2 (some .int)] ++ wsX10)
def wsX2_init_r1 : List Cond := [Cond.methodLink RX2 1 objectInit, Cond.instanceMethod objectInit, Cond.code objectInit ⟨#[0xb1]⟩ 1 none, Cond.classLink RX2 9 RX1, Cond.fieldLink RX2 11 "BootChooser" "rows" "[LBootChooser$Entry;", Cond.classLink RX2 15 RX0, Cond.instantiable RX0 5, Cond.initialized RX0, Cond.fieldLink RX2 18 "BootChooser" "codeLock" "LBootChooser$CodeLock;", Cond.fieldLink RX2 22 "BootChooser" "entriesEver" "I", Cond.fieldLink RX2 26 "BootChooser" "stayingChoice" "I", Cond.fieldLink RX2 29 "BootChooser" "onceChoice" "I", Cond.fieldLink RX2 32 "BootChooser" "patternFrom" "I", Cond.fieldLink RX2 35 "BootChooser" "patternTo" "I", Cond.fieldLink RX2 38 "BootChooser" "runningEntry" "I", Cond.fieldLink RX2 41 "BootChooser" "measured" "I", Cond.instantiable RX1 8, Cond.initialized RX1, Cond.instanceMethod yX0_init, Cond.code yX0_init cX0_init 1 none, Cond.methodLink RX0 3 objectInit, Cond.arrayClass .int, Cond.fieldLink RX0 9 "BootChooser$CodeLock" "digits" "[I", Cond.fieldLink RX0 15 "BootChooser$CodeLock" "isClosed" "Z"]
def wsX2_init_r2 : List Cond := [Cond.fieldLink RX0 19 "BootChooser$CodeLock" "codeValue" "I", Cond.fieldLink RX0 23 "BootChooser$CodeLock" "codeLength" "I", Cond.fieldLink RX0 26 "BootChooser$CodeLock" "entered" "I", Cond.instanceMethod yX1_init, Cond.code yX1_init cX1_init 1 none, Cond.methodLink RX1 3 objectInit, Cond.fieldLink RX1 9 "BootChooser$Entry" "isThere" "Z", Cond.fieldLink RX1 15 "BootChooser$Entry" "number" "I", Cond.fieldLink RX1 19 "BootChooser$Entry" "kind" "I", Cond.fieldLink RX1 22 "BootChooser$Entry" "name" "I", Cond.fieldLink RX1 25 "BootChooser$Entry" "version" "I", Cond.fieldLink RX1 28 "BootChooser$Entry" "mark" "I", Cond.fieldLink RX1 31 "BootChooser$Entry" "option" "I", Cond.fieldLink RX1 34 "BootChooser$Entry" "triesLeft" "I"]
def wsX2_init : List Cond := .code yX2_init cX2_init 2 none :: ((wsX2_init_r1 ++ wsX2_init_r2) ++ wsX20 ++ wsX00 ++ wsX10)
def wsX2_isWithin : List Cond := .code yX2_isWithin cX2_isWithin 3 (some .boolean) :: ([])
def wsX2_freeRow : List Cond := .code yX2_freeRow cX2_freeRow 5 (some (.object "BootChooser$Entry")) :: ([.fieldLink RX2 11 "BootChooser" "rows" "[LBootChooser$Entry;"] ++ wsX20 ++ wsX10)
def wsX2_add_r1 : List Cond := [Cond.classLink RX2 50 "java/lang/IllegalArgumentException", Cond.initialized "java/lang/IllegalArgumentException", Cond.classLink RX2 63 "java/lang/IllegalStateException", Cond.initialized "java/lang/IllegalStateException", Cond.constant RX2 49 (999999999), Cond.fieldLink RX2 22 "BootChooser" "entriesEver" "I", Cond.methodLink RX2 45 yX2_isWithin, Cond.static yX2_isWithin, Cond.initialized RX2, Cond.code yX2_isWithin cX2_isWithin 3 (some .boolean), Cond.methodLink RX2 59 yX2_freeRow, Cond.instanceMethod yX2_freeRow, Cond.selects RX2 yX2_freeRow yX2_freeRow, Cond.code yX2_freeRow cX2_freeRow 5 (some (.object "BootChooser$Entry")), Cond.fieldLink RX2 11 "BootChooser" "rows" "[LBootChooser$Entry;", Cond.instanceMethod yX1_fill, Cond.initialized RX1, Cond.selects RX1 yX1_fill yX1_fill, Cond.code yX1_fill cX1_fill 7 none, Cond.fieldLink RX1 9 "BootChooser$Entry" "isThere" "Z", Cond.fieldLink RX1 15 "BootChooser$Entry" "number" "I", Cond.fieldLink RX1 19 "BootChooser$Entry" "kind" "I", Cond.fieldLink RX1 22 "BootChooser$Entry" "name" "I", Cond.fieldLink RX1 25 "BootChooser$Entry" "version" "I"]
def wsX2_add_r2 : List Cond := [Cond.fieldLink RX1 28 "BootChooser$Entry" "mark" "I", Cond.fieldLink RX1 31 "BootChooser$Entry" "option" "I", Cond.fieldLink RX1 34 "BootChooser$Entry" "triesLeft" "I"]
def wsX2_add : List Cond := .code yX2_add cX2_add 7 (some .int) :: ((wsX2_add_r1 ++ wsX2_add_r2) ++ wsX20 ++ wsX10 ++ (vx_atS RX2 54 "java/lang/IllegalArgumentException" ["java/lang/RuntimeException", "java/lang/Exception"]).filter goodWord ++ (vx_atS RX2 67 "java/lang/IllegalStateException" ["java/lang/RuntimeException", "java/lang/Exception"]).filter goodWord)
def wsX2_findEntry : List Cond := .code yX2_findEntry cX2_findEntry 6 (some (.object "BootChooser$Entry")) :: ([.fieldLink RX2 11 "BootChooser" "rows" "[LBootChooser$Entry;"] ++ wsX20 ++ wsX10)
def wsX2_presentEntry : List Cond := .code yX2_presentEntry cX2_presentEntry 3 (some (.object "BootChooser$Entry")) :: ([.classLink RX2 151 "java/lang/IndexOutOfBoundsException", .initialized "java/lang/IndexOutOfBoundsException", .methodLink RX2 121 yX2_findEntry, .instanceMethod yX2_findEntry, .selects RX2 yX2_findEntry yX2_findEntry, .initialized RX2, .code yX2_findEntry cX2_findEntry 6 (some (.object "BootChooser$Entry")), .fieldLink RX2 11 "BootChooser" "rows" "[LBootChooser$Entry;"] ++ wsX20 ++ wsX10 ++ (vx_atS RX2 155 "java/lang/IndexOutOfBoundsException" ["java/lang/RuntimeException", "java/lang/Exception"]).filter goodWord)
def wsX2_countEntries : List Cond := .code yX2_countEntries cX2_countEntries 6 (some .int) :: ([.fieldLink RX2 11 "BootChooser" "rows" "[LBootChooser$Entry;"] ++ wsX20 ++ wsX10)
def wsX2_remove : List Cond := .code yX2_remove cX2_remove 2 (some .int) :: ([.methodLink RX2 75 yX2_presentEntry, .instanceMethod yX2_presentEntry, .selects RX2 yX2_presentEntry yX2_presentEntry, .initialized RX2, .code yX2_presentEntry cX2_presentEntry 3 (some (.object "BootChooser$Entry")), .classLink RX2 151 "java/lang/IndexOutOfBoundsException", .initialized "java/lang/IndexOutOfBoundsException", .methodLink RX2 121 yX2_findEntry, .instanceMethod yX2_findEntry, .selects RX2 yX2_findEntry yX2_findEntry, .code yX2_findEntry cX2_findEntry 6 (some (.object "BootChooser$Entry")), .fieldLink RX2 11 "BootChooser" "rows" "[LBootChooser$Entry;", .methodLink RX2 83 yX2_countEntries, .instanceMethod yX2_countEntries, .selects RX2 yX2_countEntries yX2_countEntries, .code yX2_countEntries cX2_countEntries 6 (some .int)] ++ wsX10 ++ wsX20 ++ (vx_atS RX2 155 "java/lang/IndexOutOfBoundsException" ["java/lang/RuntimeException", "java/lang/Exception"]).filter goodWord)
def wsX2_refuseIfLocked : List Cond := .code yX2_refuseIfLocked cX2_refuseIfLocked 1 none :: ([.classLink RX2 63 "java/lang/IllegalStateException", .initialized "java/lang/IllegalStateException", .fieldLink RX2 18 "BootChooser" "codeLock" "LBootChooser$CodeLock;"] ++ wsX20 ++ wsX00 ++ (vx_atS RX2 67 "java/lang/IllegalStateException" ["java/lang/RuntimeException", "java/lang/Exception"]).filter goodWord)
def wsX2_edit : List Cond := .code yX2_edit cX2_edit 5 (some .int) :: ([.classLink RX2 50 "java/lang/IllegalArgumentException", .initialized "java/lang/IllegalArgumentException", .methodLink RX2 75 yX2_presentEntry, .instanceMethod yX2_presentEntry, .selects RX2 yX2_presentEntry yX2_presentEntry, .initialized RX2, .code yX2_presentEntry cX2_presentEntry 3 (some (.object "BootChooser$Entry")), .classLink RX2 151 "java/lang/IndexOutOfBoundsException", .initialized "java/lang/IndexOutOfBoundsException", .methodLink RX2 121 yX2_findEntry, .instanceMethod yX2_findEntry, .selects RX2 yX2_findEntry yX2_findEntry, .code yX2_findEntry cX2_findEntry 6 (some (.object "BootChooser$Entry")), .fieldLink RX2 11 "BootChooser" "rows" "[LBootChooser$Entry;", .methodLink RX2 45 yX2_isWithin, .static yX2_isWithin, .code yX2_isWithin cX2_isWithin 3 (some .boolean), .methodLink RX2 89 yX2_refuseIfLocked, .instanceMethod yX2_refuseIfLocked, .selects RX2 yX2_refuseIfLocked yX2_refuseIfLocked, .code yX2_refuseIfLocked cX2_refuseIfLocked 1 none, .classLink RX2 63 "java/lang/IllegalStateException", .initialized "java/lang/IllegalStateException", .fieldLink RX2 18 "BootChooser" "codeLock" "LBootChooser$CodeLock;"] ++ wsX10 ++ wsX20 ++ wsX00 ++ (vx_atS RX2 54 "java/lang/IllegalArgumentException" ["java/lang/RuntimeException", "java/lang/Exception"]).filter goodWord ++ (vx_atS RX2 155 "java/lang/IndexOutOfBoundsException" ["java/lang/RuntimeException", "java/lang/Exception"]).filter goodWord ++ (vx_atS RX2 67 "java/lang/IllegalStateException" ["java/lang/RuntimeException", "java/lang/Exception"]).filter goodWord)
def wsX2_refuseAsChoice : List Cond := .code yX2_refuseAsChoice cX2_refuseAsChoice 2 none :: ([.classLink RX2 151 "java/lang/IndexOutOfBoundsException", .initialized "java/lang/IndexOutOfBoundsException", .methodLink RX2 121 yX2_findEntry, .instanceMethod yX2_findEntry, .selects RX2 yX2_findEntry yX2_findEntry, .initialized RX2, .code yX2_findEntry cX2_findEntry 6 (some (.object "BootChooser$Entry")), .fieldLink RX2 11 "BootChooser" "rows" "[LBootChooser$Entry;"] ++ wsX20 ++ wsX10 ++ (vx_atS RX2 155 "java/lang/IndexOutOfBoundsException" ["java/lang/RuntimeException", "java/lang/Exception"]).filter goodWord)
def wsX2_choose : List Cond := .code yX2_choose cX2_choose 3 (some .int) :: ([.fieldLink RX2 26 "BootChooser" "stayingChoice" "I", .methodLink RX2 95 yX2_refuseAsChoice, .instanceMethod yX2_refuseAsChoice, .selects RX2 yX2_refuseAsChoice yX2_refuseAsChoice, .initialized RX2, .code yX2_refuseAsChoice cX2_refuseAsChoice 2 none, .classLink RX2 151 "java/lang/IndexOutOfBoundsException", .initialized "java/lang/IndexOutOfBoundsException", .methodLink RX2 121 yX2_findEntry, .instanceMethod yX2_findEntry, .selects RX2 yX2_findEntry yX2_findEntry, .code yX2_findEntry cX2_findEntry 6 (some (.object "BootChooser$Entry")), .fieldLink RX2 11 "BootChooser" "rows" "[LBootChooser$Entry;", .methodLink RX2 89 yX2_refuseIfLocked, .instanceMethod yX2_refuseIfLocked, .selects RX2 yX2_refuseIfLocked yX2_refuseIfLocked, .code yX2_refuseIfLocked cX2_refuseIfLocked 1 none, .classLink RX2 63 "java/lang/IllegalStateException", .initialized "java/lang/IllegalStateException", .fieldLink RX2 18 "BootChooser" "codeLock" "LBootChooser$CodeLock;"] ++ wsX20 ++ wsX10 ++ wsX00 ++ (vx_atS RX2 155 "java/lang/IndexOutOfBoundsException" ["java/lang/RuntimeException", "java/lang/Exception"]).filter goodWord ++ (vx_atS RX2 67 "java/lang/IllegalStateException" ["java/lang/RuntimeException", "java/lang/Exception"]).filter goodWord)
def wsX2_chooseOnce : List Cond := .code yX2_chooseOnce cX2_chooseOnce 3 (some .int) :: ([.fieldLink RX2 29 "BootChooser" "onceChoice" "I", .methodLink RX2 95 yX2_refuseAsChoice, .instanceMethod yX2_refuseAsChoice, .selects RX2 yX2_refuseAsChoice yX2_refuseAsChoice, .initialized RX2, .code yX2_refuseAsChoice cX2_refuseAsChoice 2 none, .classLink RX2 151 "java/lang/IndexOutOfBoundsException", .initialized "java/lang/IndexOutOfBoundsException", .methodLink RX2 121 yX2_findEntry, .instanceMethod yX2_findEntry, .selects RX2 yX2_findEntry yX2_findEntry, .code yX2_findEntry cX2_findEntry 6 (some (.object "BootChooser$Entry")), .fieldLink RX2 11 "BootChooser" "rows" "[LBootChooser$Entry;"] ++ wsX20 ++ wsX10 ++ (vx_atS RX2 155 "java/lang/IndexOutOfBoundsException" ["java/lang/RuntimeException", "java/lang/Exception"]).filter goodWord)
def wsX2_isFitting : List Cond := .code yX2_isFitting cX2_isFitting 2 (some .boolean) :: ([.fieldLink RX2 32 "BootChooser" "patternFrom" "I", .fieldLink RX2 35 "BootChooser" "patternTo" "I", .methodLink RX2 45 yX2_isWithin, .static yX2_isWithin, .initialized RX2, .code yX2_isWithin cX2_isWithin 3 (some .boolean)] ++ wsX10 ++ wsX20)
def wsX2_countFitting : List Cond := .code yX2_countFitting cX2_countFitting 6 (some .int) :: ([.fieldLink RX2 11 "BootChooser" "rows" "[LBootChooser$Entry;", .methodLink RX2 166 yX2_isFitting, .instanceMethod yX2_isFitting, .selects RX2 yX2_isFitting yX2_isFitting, .initialized RX2, .code yX2_isFitting cX2_isFitting 2 (some .boolean), .fieldLink RX2 32 "BootChooser" "patternFrom" "I", .fieldLink RX2 35 "BootChooser" "patternTo" "I", .methodLink RX2 45 yX2_isWithin, .static yX2_isWithin, .code yX2_isWithin cX2_isWithin 3 (some .boolean)] ++ wsX20 ++ wsX10)
def wsX2_setPattern : List Cond := .code yX2_setPattern cX2_setPattern 3 (some .int) :: ([.classLink RX2 50 "java/lang/IllegalArgumentException", .initialized "java/lang/IllegalArgumentException", .fieldLink RX2 32 "BootChooser" "patternFrom" "I", .fieldLink RX2 35 "BootChooser" "patternTo" "I", .methodLink RX2 45 yX2_isWithin, .static yX2_isWithin, .initialized RX2, .code yX2_isWithin cX2_isWithin 3 (some .boolean), .methodLink RX2 89 yX2_refuseIfLocked, .instanceMethod yX2_refuseIfLocked, .selects RX2 yX2_refuseIfLocked yX2_refuseIfLocked, .code yX2_refuseIfLocked cX2_refuseIfLocked 1 none, .classLink RX2 63 "java/lang/IllegalStateException", .initialized "java/lang/IllegalStateException", .fieldLink RX2 18 "BootChooser" "codeLock" "LBootChooser$CodeLock;", .methodLink RX2 101 yX2_countFitting, .instanceMethod yX2_countFitting, .selects RX2 yX2_countFitting yX2_countFitting, .code yX2_countFitting cX2_countFitting 6 (some .int), .fieldLink RX2 11 "BootChooser" "rows" "[LBootChooser$Entry;", .methodLink RX2 166 yX2_isFitting, .instanceMethod yX2_isFitting, .selects RX2 yX2_isFitting yX2_isFitting, .code yX2_isFitting cX2_isFitting 2 (some .boolean)] ++ wsX20 ++ wsX00 ++ wsX10 ++ (vx_atS RX2 54 "java/lang/IllegalArgumentException" ["java/lang/RuntimeException", "java/lang/Exception"]).filter goodWord ++ (vx_atS RX2 67 "java/lang/IllegalStateException" ["java/lang/RuntimeException", "java/lang/Exception"]).filter goodWord)
def wsX2_firstFittingNotBad_r1 : List Cond := [Cond.fieldLink RX2 11 "BootChooser" "rows" "[LBootChooser$Entry;", Cond.methodLink RX2 166 yX2_isFitting, Cond.instanceMethod yX2_isFitting, Cond.selects RX2 yX2_isFitting yX2_isFitting, Cond.initialized RX2, Cond.code yX2_isFitting cX2_isFitting 2 (some .boolean), Cond.fieldLink RX2 32 "BootChooser" "patternFrom" "I", Cond.fieldLink RX2 35 "BootChooser" "patternTo" "I", Cond.methodLink RX2 45 yX2_isWithin, Cond.static yX2_isWithin, Cond.code yX2_isWithin cX2_isWithin 3 (some .boolean), Cond.instanceMethod yX1_isBad, Cond.initialized RX1, Cond.selects RX1 yX1_isBad yX1_isBad, Cond.code yX1_isBad cX1_isBad 1 (some .boolean), Cond.fieldLink RX1 34 "BootChooser$Entry" "triesLeft" "I", Cond.instanceMethod yX1_isAheadOf, Cond.selects RX1 yX1_isAheadOf yX1_isAheadOf, Cond.code yX1_isAheadOf cX1_isAheadOf 3 (some .boolean), Cond.fieldLink RX1 19 "BootChooser$Entry" "kind" "I", Cond.fieldLink RX1 22 "BootChooser$Entry" "name" "I", Cond.fieldLink RX1 15 "BootChooser$Entry" "number" "I", Cond.methodLink RX1 37 yX1_isBad, Cond.methodLink RX1 41 yX1_compareVersion]
def wsX2_firstFittingNotBad_r2 : List Cond := [Cond.instanceMethod yX1_compareVersion, Cond.selects RX1 yX1_compareVersion yX1_compareVersion, Cond.code yX1_compareVersion cX1_compareVersion 2 (some .int), Cond.fieldLink RX1 25 "BootChooser$Entry" "version" "I", Cond.fieldLink RX1 28 "BootChooser$Entry" "mark" "I", Cond.methodLink RX1 45 yJ6_compare_7cf53, Cond.static yJ6_compare_7cf53, Cond.initialized RJ6, Cond.code yJ6_compare_7cf53 cJ6_compare_7cf53 2 (some .int)]
def wsX2_firstFittingNotBad : List Cond := .code yX2_firstFittingNotBad cX2_firstFittingNotBad 6 (some (.object "BootChooser$Entry")) :: ((wsX2_firstFittingNotBad_r1 ++ wsX2_firstFittingNotBad_r2) ++ wsX20 ++ wsX10)
def wsX2_countAhead : List Cond := .code yX2_countAhead cX2_countAhead 7 (some .int) :: ([.fieldLink RX2 11 "BootChooser" "rows" "[LBootChooser$Entry;", .instanceMethod yX1_isAheadOf, .initialized RX1, .selects RX1 yX1_isAheadOf yX1_isAheadOf, .code yX1_isAheadOf cX1_isAheadOf 3 (some .boolean), .fieldLink RX1 19 "BootChooser$Entry" "kind" "I", .fieldLink RX1 22 "BootChooser$Entry" "name" "I", .fieldLink RX1 15 "BootChooser$Entry" "number" "I", .methodLink RX1 37 yX1_isBad, .instanceMethod yX1_isBad, .selects RX1 yX1_isBad yX1_isBad, .code yX1_isBad cX1_isBad 1 (some .boolean), .fieldLink RX1 34 "BootChooser$Entry" "triesLeft" "I", .methodLink RX1 41 yX1_compareVersion, .instanceMethod yX1_compareVersion, .selects RX1 yX1_compareVersion yX1_compareVersion, .code yX1_compareVersion cX1_compareVersion 2 (some .int), .fieldLink RX1 25 "BootChooser$Entry" "version" "I", .fieldLink RX1 28 "BootChooser$Entry" "mark" "I", .methodLink RX1 45 yJ6_compare_7cf53, .static yJ6_compare_7cf53, .initialized RJ6, .code yJ6_compare_7cf53 cJ6_compare_7cf53 2 (some .int)] ++ wsX20 ++ wsX10)
def wsX2_entryWithPlace_r1 : List Cond := [Cond.fieldLink RX2 11 "BootChooser" "rows" "[LBootChooser$Entry;", Cond.methodLink RX2 156 yX2_countAhead, Cond.instanceMethod yX2_countAhead, Cond.selects RX2 yX2_countAhead yX2_countAhead, Cond.initialized RX2, Cond.code yX2_countAhead cX2_countAhead 7 (some .int), Cond.instanceMethod yX1_isAheadOf, Cond.initialized RX1, Cond.selects RX1 yX1_isAheadOf yX1_isAheadOf, Cond.code yX1_isAheadOf cX1_isAheadOf 3 (some .boolean), Cond.fieldLink RX1 19 "BootChooser$Entry" "kind" "I", Cond.fieldLink RX1 22 "BootChooser$Entry" "name" "I", Cond.fieldLink RX1 15 "BootChooser$Entry" "number" "I", Cond.methodLink RX1 37 yX1_isBad, Cond.instanceMethod yX1_isBad, Cond.selects RX1 yX1_isBad yX1_isBad, Cond.code yX1_isBad cX1_isBad 1 (some .boolean), Cond.fieldLink RX1 34 "BootChooser$Entry" "triesLeft" "I", Cond.methodLink RX1 41 yX1_compareVersion, Cond.instanceMethod yX1_compareVersion, Cond.selects RX1 yX1_compareVersion yX1_compareVersion, Cond.code yX1_compareVersion cX1_compareVersion 2 (some .int), Cond.fieldLink RX1 25 "BootChooser$Entry" "version" "I", Cond.fieldLink RX1 28 "BootChooser$Entry" "mark" "I"]
def wsX2_entryWithPlace_r2 : List Cond := [Cond.methodLink RX1 45 yJ6_compare_7cf53, Cond.static yJ6_compare_7cf53, Cond.initialized RJ6, Cond.code yJ6_compare_7cf53 cJ6_compare_7cf53 2 (some .int)]
def wsX2_entryWithPlace : List Cond := .code yX2_entryWithPlace cX2_entryWithPlace 6 (some (.object "BootChooser$Entry")) :: ((wsX2_entryWithPlace_r1 ++ wsX2_entryWithPlace_r2) ++ wsX20 ++ wsX10)
def wsX2_nextEntry_r1 : List Cond := [Cond.fieldLink RX2 29 "BootChooser" "onceChoice" "I", Cond.fieldLink RX2 26 "BootChooser" "stayingChoice" "I", Cond.methodLink RX2 121 yX2_findEntry, Cond.instanceMethod yX2_findEntry, Cond.selects RX2 yX2_findEntry yX2_findEntry, Cond.initialized RX2, Cond.code yX2_findEntry cX2_findEntry 6 (some (.object "BootChooser$Entry")), Cond.fieldLink RX2 11 "BootChooser" "rows" "[LBootChooser$Entry;", Cond.instanceMethod yX1_isBad, Cond.initialized RX1, Cond.selects RX1 yX1_isBad yX1_isBad, Cond.code yX1_isBad cX1_isBad 1 (some .boolean), Cond.fieldLink RX1 34 "BootChooser$Entry" "triesLeft" "I", Cond.methodLink RX2 180 yX2_firstFittingNotBad, Cond.instanceMethod yX2_firstFittingNotBad, Cond.selects RX2 yX2_firstFittingNotBad yX2_firstFittingNotBad, Cond.code yX2_firstFittingNotBad cX2_firstFittingNotBad 6 (some (.object "BootChooser$Entry")), Cond.methodLink RX2 166 yX2_isFitting, Cond.instanceMethod yX2_isFitting, Cond.selects RX2 yX2_isFitting yX2_isFitting, Cond.code yX2_isFitting cX2_isFitting 2 (some .boolean), Cond.fieldLink RX2 32 "BootChooser" "patternFrom" "I", Cond.fieldLink RX2 35 "BootChooser" "patternTo" "I", Cond.methodLink RX2 45 yX2_isWithin]
def wsX2_nextEntry_r2 : List Cond := [Cond.static yX2_isWithin, Cond.code yX2_isWithin cX2_isWithin 3 (some .boolean), Cond.instanceMethod yX1_isAheadOf, Cond.selects RX1 yX1_isAheadOf yX1_isAheadOf, Cond.code yX1_isAheadOf cX1_isAheadOf 3 (some .boolean), Cond.fieldLink RX1 19 "BootChooser$Entry" "kind" "I", Cond.fieldLink RX1 22 "BootChooser$Entry" "name" "I", Cond.fieldLink RX1 15 "BootChooser$Entry" "number" "I", Cond.methodLink RX1 37 yX1_isBad, Cond.methodLink RX1 41 yX1_compareVersion, Cond.instanceMethod yX1_compareVersion, Cond.selects RX1 yX1_compareVersion yX1_compareVersion, Cond.code yX1_compareVersion cX1_compareVersion 2 (some .int), Cond.fieldLink RX1 25 "BootChooser$Entry" "version" "I", Cond.fieldLink RX1 28 "BootChooser$Entry" "mark" "I", Cond.methodLink RX1 45 yJ6_compare_7cf53, Cond.static yJ6_compare_7cf53, Cond.initialized RJ6, Cond.code yJ6_compare_7cf53 cJ6_compare_7cf53 2 (some .int), Cond.methodLink RX2 148 yX2_entryWithPlace, Cond.instanceMethod yX2_entryWithPlace, Cond.selects RX2 yX2_entryWithPlace yX2_entryWithPlace, Cond.code yX2_entryWithPlace cX2_entryWithPlace 6 (some (.object "BootChooser$Entry")), Cond.methodLink RX2 156 yX2_countAhead]
def wsX2_nextEntry_r3 : List Cond := [Cond.instanceMethod yX2_countAhead, Cond.selects RX2 yX2_countAhead yX2_countAhead, Cond.code yX2_countAhead cX2_countAhead 7 (some .int)]
def wsX2_nextEntry : List Cond := .code yX2_nextEntry cX2_nextEntry 4 (some (.object "BootChooser$Entry")) :: ((wsX2_nextEntry_r1 ++ (wsX2_nextEntry_r2 ++ wsX2_nextEntry_r3)) ++ wsX20 ++ wsX10)
def wsX2_step : List Cond := .code yX2_step cX2_step 2 (some .int) :: ([.constant RX2 197 (1000003)])
def wsX2_measure : List Cond := .code yX2_measure cX2_measure 3 (some .int) :: ([.fieldLink RX2 18 "BootChooser" "codeLock" "LBootChooser$CodeLock;", .constant RX2 193 (1000000), .methodLink RX2 183 yX2_step, .static yX2_step, .initialized RX2, .code yX2_step cX2_step 2 (some .int), .constant RX2 197 (1000003)] ++ wsX20 ++ wsX00 ++ wsX10)
def wsX2_start_r1 : List Cond := [Cond.classLink RX2 63 "java/lang/IllegalStateException", Cond.initialized "java/lang/IllegalStateException", Cond.fieldLink RX2 41 "BootChooser" "measured" "I", Cond.fieldLink RX2 29 "BootChooser" "onceChoice" "I", Cond.fieldLink RX2 38 "BootChooser" "runningEntry" "I", Cond.fieldLink RX2 18 "BootChooser" "codeLock" "LBootChooser$CodeLock;", Cond.methodLink RX2 104 yX2_nextEntry, Cond.instanceMethod yX2_nextEntry, Cond.selects RX2 yX2_nextEntry yX2_nextEntry, Cond.initialized RX2, Cond.code yX2_nextEntry cX2_nextEntry 4 (some (.object "BootChooser$Entry")), Cond.fieldLink RX2 26 "BootChooser" "stayingChoice" "I", Cond.methodLink RX2 121 yX2_findEntry, Cond.instanceMethod yX2_findEntry, Cond.selects RX2 yX2_findEntry yX2_findEntry, Cond.code yX2_findEntry cX2_findEntry 6 (some (.object "BootChooser$Entry")), Cond.fieldLink RX2 11 "BootChooser" "rows" "[LBootChooser$Entry;", Cond.instanceMethod yX1_isBad, Cond.initialized RX1, Cond.selects RX1 yX1_isBad yX1_isBad, Cond.code yX1_isBad cX1_isBad 1 (some .boolean), Cond.fieldLink RX1 34 "BootChooser$Entry" "triesLeft" "I", Cond.methodLink RX2 180 yX2_firstFittingNotBad, Cond.instanceMethod yX2_firstFittingNotBad]
def wsX2_start_r2 : List Cond := [Cond.selects RX2 yX2_firstFittingNotBad yX2_firstFittingNotBad, Cond.code yX2_firstFittingNotBad cX2_firstFittingNotBad 6 (some (.object "BootChooser$Entry")), Cond.methodLink RX2 166 yX2_isFitting, Cond.instanceMethod yX2_isFitting, Cond.selects RX2 yX2_isFitting yX2_isFitting, Cond.code yX2_isFitting cX2_isFitting 2 (some .boolean), Cond.fieldLink RX2 32 "BootChooser" "patternFrom" "I", Cond.fieldLink RX2 35 "BootChooser" "patternTo" "I", Cond.methodLink RX2 45 yX2_isWithin, Cond.static yX2_isWithin, Cond.code yX2_isWithin cX2_isWithin 3 (some .boolean), Cond.instanceMethod yX1_isAheadOf, Cond.selects RX1 yX1_isAheadOf yX1_isAheadOf, Cond.code yX1_isAheadOf cX1_isAheadOf 3 (some .boolean), Cond.fieldLink RX1 19 "BootChooser$Entry" "kind" "I", Cond.fieldLink RX1 22 "BootChooser$Entry" "name" "I", Cond.fieldLink RX1 15 "BootChooser$Entry" "number" "I", Cond.methodLink RX1 37 yX1_isBad, Cond.methodLink RX1 41 yX1_compareVersion, Cond.instanceMethod yX1_compareVersion, Cond.selects RX1 yX1_compareVersion yX1_compareVersion, Cond.code yX1_compareVersion cX1_compareVersion 2 (some .int), Cond.fieldLink RX1 25 "BootChooser$Entry" "version" "I", Cond.fieldLink RX1 28 "BootChooser$Entry" "mark" "I"]
def wsX2_start_r3 : List Cond := [Cond.methodLink RX1 45 yJ6_compare_7cf53, Cond.static yJ6_compare_7cf53, Cond.initialized RJ6, Cond.code yJ6_compare_7cf53 cJ6_compare_7cf53 2 (some .int), Cond.methodLink RX2 148 yX2_entryWithPlace, Cond.instanceMethod yX2_entryWithPlace, Cond.selects RX2 yX2_entryWithPlace yX2_entryWithPlace, Cond.code yX2_entryWithPlace cX2_entryWithPlace 6 (some (.object "BootChooser$Entry")), Cond.methodLink RX2 156 yX2_countAhead, Cond.instanceMethod yX2_countAhead, Cond.selects RX2 yX2_countAhead yX2_countAhead, Cond.code yX2_countAhead cX2_countAhead 7 (some .int), Cond.methodLink RX2 109 yX2_measure, Cond.instanceMethod yX2_measure, Cond.selects RX2 yX2_measure yX2_measure, Cond.code yX2_measure cX2_measure 3 (some .int), Cond.constant RX2 193 (1000000), Cond.methodLink RX2 183 yX2_step, Cond.static yX2_step, Cond.code yX2_step cX2_step 2 (some .int), Cond.constant RX2 197 (1000003), Cond.instanceMethod yX1_useTry, Cond.selects RX1 yX1_useTry yX1_useTry, Cond.code yX1_useTry cX1_useTry 1 none]
def wsX2_start_r4 : List Cond := [Cond.instanceMethod yX0_forgetDigits, Cond.initialized RX0, Cond.selects RX0 yX0_forgetDigits yX0_forgetDigits, Cond.code yX0_forgetDigits cX0_forgetDigits 1 none, Cond.fieldLink RX0 26 "BootChooser$CodeLock" "entered" "I"]
def wsX2_start : List Cond := .code yX2_start cX2_start 2 (some .int) :: ((wsX2_start_r1 ++ (wsX2_start_r2 ++ (wsX2_start_r3 ++ wsX2_start_r4))) ++ wsX20 ++ wsX10 ++ wsX00 ++ (vx_atS RX2 67 "java/lang/IllegalStateException" ["java/lang/RuntimeException", "java/lang/Exception"]).filter goodWord)
def wsX2_good : List Cond := .code yX2_good cX2_good 3 (some .int) :: ([.classLink RX2 63 "java/lang/IllegalStateException", .initialized "java/lang/IllegalStateException", .fieldLink RX2 38 "BootChooser" "runningEntry" "I", .methodLink RX2 121 yX2_findEntry, .instanceMethod yX2_findEntry, .selects RX2 yX2_findEntry yX2_findEntry, .initialized RX2, .code yX2_findEntry cX2_findEntry 6 (some (.object "BootChooser$Entry")), .fieldLink RX2 11 "BootChooser" "rows" "[LBootChooser$Entry;"] ++ wsX20 ++ wsX10 ++ (vx_atS RX2 67 "java/lang/IllegalStateException" ["java/lang/RuntimeException", "java/lang/Exception"]).filter goodWord)
def wsX2_running : List Cond := .code yX2_running cX2_running 1 (some .int) :: ([.fieldLink RX2 38 "BootChooser" "runningEntry" "I"] ++ wsX20)
def wsX2_next_r1 : List Cond := [Cond.methodLink RX2 104 yX2_nextEntry, Cond.instanceMethod yX2_nextEntry, Cond.selects RX2 yX2_nextEntry yX2_nextEntry, Cond.initialized RX2, Cond.code yX2_nextEntry cX2_nextEntry 4 (some (.object "BootChooser$Entry")), Cond.fieldLink RX2 29 "BootChooser" "onceChoice" "I", Cond.fieldLink RX2 26 "BootChooser" "stayingChoice" "I", Cond.methodLink RX2 121 yX2_findEntry, Cond.instanceMethod yX2_findEntry, Cond.selects RX2 yX2_findEntry yX2_findEntry, Cond.code yX2_findEntry cX2_findEntry 6 (some (.object "BootChooser$Entry")), Cond.fieldLink RX2 11 "BootChooser" "rows" "[LBootChooser$Entry;", Cond.instanceMethod yX1_isBad, Cond.initialized RX1, Cond.selects RX1 yX1_isBad yX1_isBad, Cond.code yX1_isBad cX1_isBad 1 (some .boolean), Cond.fieldLink RX1 34 "BootChooser$Entry" "triesLeft" "I", Cond.methodLink RX2 180 yX2_firstFittingNotBad, Cond.instanceMethod yX2_firstFittingNotBad, Cond.selects RX2 yX2_firstFittingNotBad yX2_firstFittingNotBad, Cond.code yX2_firstFittingNotBad cX2_firstFittingNotBad 6 (some (.object "BootChooser$Entry")), Cond.methodLink RX2 166 yX2_isFitting, Cond.instanceMethod yX2_isFitting, Cond.selects RX2 yX2_isFitting yX2_isFitting]
def wsX2_next_r2 : List Cond := [Cond.code yX2_isFitting cX2_isFitting 2 (some .boolean), Cond.fieldLink RX2 32 "BootChooser" "patternFrom" "I", Cond.fieldLink RX2 35 "BootChooser" "patternTo" "I", Cond.methodLink RX2 45 yX2_isWithin, Cond.static yX2_isWithin, Cond.code yX2_isWithin cX2_isWithin 3 (some .boolean), Cond.instanceMethod yX1_isAheadOf, Cond.selects RX1 yX1_isAheadOf yX1_isAheadOf, Cond.code yX1_isAheadOf cX1_isAheadOf 3 (some .boolean), Cond.fieldLink RX1 19 "BootChooser$Entry" "kind" "I", Cond.fieldLink RX1 22 "BootChooser$Entry" "name" "I", Cond.fieldLink RX1 15 "BootChooser$Entry" "number" "I", Cond.methodLink RX1 37 yX1_isBad, Cond.methodLink RX1 41 yX1_compareVersion, Cond.instanceMethod yX1_compareVersion, Cond.selects RX1 yX1_compareVersion yX1_compareVersion, Cond.code yX1_compareVersion cX1_compareVersion 2 (some .int), Cond.fieldLink RX1 25 "BootChooser$Entry" "version" "I", Cond.fieldLink RX1 28 "BootChooser$Entry" "mark" "I", Cond.methodLink RX1 45 yJ6_compare_7cf53, Cond.static yJ6_compare_7cf53, Cond.initialized RJ6, Cond.code yJ6_compare_7cf53 cJ6_compare_7cf53 2 (some .int), Cond.methodLink RX2 148 yX2_entryWithPlace]
def wsX2_next_r3 : List Cond := [Cond.instanceMethod yX2_entryWithPlace, Cond.selects RX2 yX2_entryWithPlace yX2_entryWithPlace, Cond.code yX2_entryWithPlace cX2_entryWithPlace 6 (some (.object "BootChooser$Entry")), Cond.methodLink RX2 156 yX2_countAhead, Cond.instanceMethod yX2_countAhead, Cond.selects RX2 yX2_countAhead yX2_countAhead, Cond.code yX2_countAhead cX2_countAhead 7 (some .int)]
def wsX2_next : List Cond := .code yX2_next cX2_next 2 (some .int) :: ((wsX2_next_r1 ++ (wsX2_next_r2 ++ wsX2_next_r3)) ++ wsX10 ++ wsX20)
def wsX2_highestCode : List Cond := .code yX2_highestCode cX2_highestCode 3 (some .int) :: ([])
def wsX2_lock_r1 : List Cond := [Cond.classLink RX2 50 "java/lang/IllegalArgumentException", Cond.initialized "java/lang/IllegalArgumentException", Cond.fieldLink RX2 18 "BootChooser" "codeLock" "LBootChooser$CodeLock;", Cond.methodLink RX2 45 yX2_isWithin, Cond.static yX2_isWithin, Cond.initialized RX2, Cond.code yX2_isWithin cX2_isWithin 3 (some .boolean), Cond.methodLink RX2 129 yX2_highestCode, Cond.static yX2_highestCode, Cond.code yX2_highestCode cX2_highestCode 3 (some .int), Cond.methodLink RX2 89 yX2_refuseIfLocked, Cond.instanceMethod yX2_refuseIfLocked, Cond.selects RX2 yX2_refuseIfLocked yX2_refuseIfLocked, Cond.code yX2_refuseIfLocked cX2_refuseIfLocked 1 none, Cond.classLink RX2 63 "java/lang/IllegalStateException", Cond.initialized "java/lang/IllegalStateException", Cond.instanceMethod yX0_close, Cond.initialized RX0, Cond.selects RX0 yX0_close yX0_close, Cond.code yX0_close cX0_close 3 none, Cond.fieldLink RX0 15 "BootChooser$CodeLock" "isClosed" "Z", Cond.fieldLink RX0 19 "BootChooser$CodeLock" "codeValue" "I", Cond.fieldLink RX0 23 "BootChooser$CodeLock" "codeLength" "I", Cond.methodLink RX0 29 yX0_forgetDigits]
def wsX2_lock_r2 : List Cond := [Cond.instanceMethod yX0_forgetDigits, Cond.selects RX0 yX0_forgetDigits yX0_forgetDigits, Cond.code yX0_forgetDigits cX0_forgetDigits 1 none, Cond.fieldLink RX0 26 "BootChooser$CodeLock" "entered" "I"]
def wsX2_lock : List Cond := .code yX2_lock cX2_lock 3 none :: ((wsX2_lock_r1 ++ wsX2_lock_r2) ++ wsX20 ++ wsX00 ++ (vx_atS RX2 54 "java/lang/IllegalArgumentException" ["java/lang/RuntimeException", "java/lang/Exception"]).filter goodWord ++ (vx_atS RX2 67 "java/lang/IllegalStateException" ["java/lang/RuntimeException", "java/lang/Exception"]).filter goodWord)
def wsX2_enter : List Cond := .code yX2_enter cX2_enter 2 (some .boolean) :: ([.classLink RX2 50 "java/lang/IllegalArgumentException", .initialized "java/lang/IllegalArgumentException", .fieldLink RX2 18 "BootChooser" "codeLock" "LBootChooser$CodeLock;", .methodLink RX2 45 yX2_isWithin, .static yX2_isWithin, .initialized RX2, .code yX2_isWithin cX2_isWithin 3 (some .boolean), .instanceMethod yX0_takeDigit, .initialized RX0, .selects RX0 yX0_takeDigit yX0_takeDigit, .code yX0_takeDigit cX0_takeDigit 2 (some .boolean), .classLink RX0 32 "java/lang/IllegalStateException", .initialized "java/lang/IllegalStateException", .fieldLink RX0 15 "BootChooser$CodeLock" "isClosed" "Z", .fieldLink RX0 26 "BootChooser$CodeLock" "entered" "I", .fieldLink RX0 9 "BootChooser$CodeLock" "digits" "[I", .methodLink RX0 39 yX0_endsInCode, .instanceMethod yX0_endsInCode, .selects RX0 yX0_endsInCode yX0_endsInCode, .code yX0_endsInCode cX0_endsInCode 3 (some .boolean), .fieldLink RX0 23 "BootChooser$CodeLock" "codeLength" "I", .fieldLink RX0 19 "BootChooser$CodeLock" "codeValue" "I"] ++ wsX20 ++ wsX00 ++ (vx_atS RX2 54 "java/lang/IllegalArgumentException" ["java/lang/RuntimeException", "java/lang/Exception"]).filter goodWord ++ (vx_atS RX0 36 "java/lang/IllegalStateException" ["java/lang/RuntimeException", "java/lang/Exception"]).filter goodWord)
def wsX2_isLocked : List Cond := .code yX2_isLocked cX2_isLocked 1 (some .boolean) :: ([.fieldLink RX2 18 "BootChooser" "codeLock" "LBootChooser$CodeLock;"] ++ wsX20 ++ wsX00)
def wsX2_entries : List Cond := .code yX2_entries cX2_entries 1 (some .int) :: ([.methodLink RX2 83 yX2_countEntries, .instanceMethod yX2_countEntries, .selects RX2 yX2_countEntries yX2_countEntries, .initialized RX2, .code yX2_countEntries cX2_countEntries 6 (some .int), .fieldLink RX2 11 "BootChooser" "rows" "[LBootChooser$Entry;"] ++ wsX20 ++ wsX10)
def wsX2_at_r1 : List Cond := [Cond.classLink RX2 151 "java/lang/IndexOutOfBoundsException", Cond.initialized "java/lang/IndexOutOfBoundsException", Cond.methodLink RX2 148 yX2_entryWithPlace, Cond.instanceMethod yX2_entryWithPlace, Cond.selects RX2 yX2_entryWithPlace yX2_entryWithPlace, Cond.initialized RX2, Cond.code yX2_entryWithPlace cX2_entryWithPlace 6 (some (.object "BootChooser$Entry")), Cond.fieldLink RX2 11 "BootChooser" "rows" "[LBootChooser$Entry;", Cond.methodLink RX2 156 yX2_countAhead, Cond.instanceMethod yX2_countAhead, Cond.selects RX2 yX2_countAhead yX2_countAhead, Cond.code yX2_countAhead cX2_countAhead 7 (some .int), Cond.instanceMethod yX1_isAheadOf, Cond.initialized RX1, Cond.selects RX1 yX1_isAheadOf yX1_isAheadOf, Cond.code yX1_isAheadOf cX1_isAheadOf 3 (some .boolean), Cond.fieldLink RX1 19 "BootChooser$Entry" "kind" "I", Cond.fieldLink RX1 22 "BootChooser$Entry" "name" "I", Cond.fieldLink RX1 15 "BootChooser$Entry" "number" "I", Cond.methodLink RX1 37 yX1_isBad, Cond.instanceMethod yX1_isBad, Cond.selects RX1 yX1_isBad yX1_isBad, Cond.code yX1_isBad cX1_isBad 1 (some .boolean), Cond.fieldLink RX1 34 "BootChooser$Entry" "triesLeft" "I"]
def wsX2_at_r2 : List Cond := [Cond.methodLink RX1 41 yX1_compareVersion, Cond.instanceMethod yX1_compareVersion, Cond.selects RX1 yX1_compareVersion yX1_compareVersion, Cond.code yX1_compareVersion cX1_compareVersion 2 (some .int), Cond.fieldLink RX1 25 "BootChooser$Entry" "version" "I", Cond.fieldLink RX1 28 "BootChooser$Entry" "mark" "I", Cond.methodLink RX1 45 yJ6_compare_7cf53, Cond.static yJ6_compare_7cf53, Cond.initialized RJ6, Cond.code yJ6_compare_7cf53 cJ6_compare_7cf53 2 (some .int)]
def wsX2_at : List Cond := .code yX2_at cX2_at 3 (some .int) :: ((wsX2_at_r1 ++ wsX2_at_r2) ++ wsX10 ++ wsX20 ++ (vx_atS RX2 155 "java/lang/IndexOutOfBoundsException" ["java/lang/RuntimeException", "java/lang/Exception"]).filter goodWord)
def wsX2_placeOf_r1 : List Cond := [Cond.methodLink RX2 75 yX2_presentEntry, Cond.instanceMethod yX2_presentEntry, Cond.selects RX2 yX2_presentEntry yX2_presentEntry, Cond.initialized RX2, Cond.code yX2_presentEntry cX2_presentEntry 3 (some (.object "BootChooser$Entry")), Cond.classLink RX2 151 "java/lang/IndexOutOfBoundsException", Cond.initialized "java/lang/IndexOutOfBoundsException", Cond.methodLink RX2 121 yX2_findEntry, Cond.instanceMethod yX2_findEntry, Cond.selects RX2 yX2_findEntry yX2_findEntry, Cond.code yX2_findEntry cX2_findEntry 6 (some (.object "BootChooser$Entry")), Cond.fieldLink RX2 11 "BootChooser" "rows" "[LBootChooser$Entry;", Cond.methodLink RX2 156 yX2_countAhead, Cond.instanceMethod yX2_countAhead, Cond.selects RX2 yX2_countAhead yX2_countAhead, Cond.code yX2_countAhead cX2_countAhead 7 (some .int), Cond.instanceMethod yX1_isAheadOf, Cond.initialized RX1, Cond.selects RX1 yX1_isAheadOf yX1_isAheadOf, Cond.code yX1_isAheadOf cX1_isAheadOf 3 (some .boolean), Cond.fieldLink RX1 19 "BootChooser$Entry" "kind" "I", Cond.fieldLink RX1 22 "BootChooser$Entry" "name" "I", Cond.fieldLink RX1 15 "BootChooser$Entry" "number" "I", Cond.methodLink RX1 37 yX1_isBad]
def wsX2_placeOf_r2 : List Cond := [Cond.instanceMethod yX1_isBad, Cond.selects RX1 yX1_isBad yX1_isBad, Cond.code yX1_isBad cX1_isBad 1 (some .boolean), Cond.fieldLink RX1 34 "BootChooser$Entry" "triesLeft" "I", Cond.methodLink RX1 41 yX1_compareVersion, Cond.instanceMethod yX1_compareVersion, Cond.selects RX1 yX1_compareVersion yX1_compareVersion, Cond.code yX1_compareVersion cX1_compareVersion 2 (some .int), Cond.fieldLink RX1 25 "BootChooser$Entry" "version" "I", Cond.fieldLink RX1 28 "BootChooser$Entry" "mark" "I", Cond.methodLink RX1 45 yJ6_compare_7cf53, Cond.static yJ6_compare_7cf53, Cond.initialized RJ6, Cond.code yJ6_compare_7cf53 cJ6_compare_7cf53 2 (some .int)]
def wsX2_placeOf : List Cond := .code yX2_placeOf cX2_placeOf 2 (some .int) :: ((wsX2_placeOf_r1 ++ wsX2_placeOf_r2) ++ wsX20 ++ wsX10 ++ (vx_atS RX2 155 "java/lang/IndexOutOfBoundsException" ["java/lang/RuntimeException", "java/lang/Exception"]).filter goodWord)
def wsX2_tries : List Cond := .code yX2_tries cX2_tries 2 (some .int) :: ([.methodLink RX2 75 yX2_presentEntry, .instanceMethod yX2_presentEntry, .selects RX2 yX2_presentEntry yX2_presentEntry, .initialized RX2, .code yX2_presentEntry cX2_presentEntry 3 (some (.object "BootChooser$Entry")), .classLink RX2 151 "java/lang/IndexOutOfBoundsException", .initialized "java/lang/IndexOutOfBoundsException", .methodLink RX2 121 yX2_findEntry, .instanceMethod yX2_findEntry, .selects RX2 yX2_findEntry yX2_findEntry, .code yX2_findEntry cX2_findEntry 6 (some (.object "BootChooser$Entry")), .fieldLink RX2 11 "BootChooser" "rows" "[LBootChooser$Entry;"] ++ wsX10 ++ wsX20 ++ (vx_atS RX2 155 "java/lang/IndexOutOfBoundsException" ["java/lang/RuntimeException", "java/lang/Exception"]).filter goodWord)
def wsX2_compare : List Cond := .code yX2_compare cX2_compare 5 (some .int) :: ([.methodLink RX2 75 yX2_presentEntry, .instanceMethod yX2_presentEntry, .selects RX2 yX2_presentEntry yX2_presentEntry, .initialized RX2, .code yX2_presentEntry cX2_presentEntry 3 (some (.object "BootChooser$Entry")), .classLink RX2 151 "java/lang/IndexOutOfBoundsException", .initialized "java/lang/IndexOutOfBoundsException", .methodLink RX2 121 yX2_findEntry, .instanceMethod yX2_findEntry, .selects RX2 yX2_findEntry yX2_findEntry, .code yX2_findEntry cX2_findEntry 6 (some (.object "BootChooser$Entry")), .fieldLink RX2 11 "BootChooser" "rows" "[LBootChooser$Entry;", .instanceMethod yX1_compareVersion, .initialized RX1, .selects RX1 yX1_compareVersion yX1_compareVersion, .code yX1_compareVersion cX1_compareVersion 2 (some .int), .fieldLink RX1 25 "BootChooser$Entry" "version" "I", .fieldLink RX1 28 "BootChooser$Entry" "mark" "I", .methodLink RX1 45 yJ6_compare_7cf53, .static yJ6_compare_7cf53, .initialized RJ6, .code yJ6_compare_7cf53 cJ6_compare_7cf53 2 (some .int)] ++ wsX20 ++ wsX10 ++ (vx_atS RX2 155 "java/lang/IndexOutOfBoundsException" ["java/lang/RuntimeException", "java/lang/Exception"]).filter goodWord)
def wsX2_foretold : List Cond := .code yX2_foretold cX2_foretold 2 (some .int) :: ([.methodLink RX2 75 yX2_presentEntry, .instanceMethod yX2_presentEntry, .selects RX2 yX2_presentEntry yX2_presentEntry, .initialized RX2, .code yX2_presentEntry cX2_presentEntry 3 (some (.object "BootChooser$Entry")), .classLink RX2 151 "java/lang/IndexOutOfBoundsException", .initialized "java/lang/IndexOutOfBoundsException", .methodLink RX2 121 yX2_findEntry, .instanceMethod yX2_findEntry, .selects RX2 yX2_findEntry yX2_findEntry, .code yX2_findEntry cX2_findEntry 6 (some (.object "BootChooser$Entry")), .fieldLink RX2 11 "BootChooser" "rows" "[LBootChooser$Entry;", .methodLink RX2 109 yX2_measure, .instanceMethod yX2_measure, .selects RX2 yX2_measure yX2_measure, .code yX2_measure cX2_measure 3 (some .int), .fieldLink RX2 18 "BootChooser" "codeLock" "LBootChooser$CodeLock;", .constant RX2 193 (1000000), .methodLink RX2 183 yX2_step, .static yX2_step, .code yX2_step cX2_step 2 (some .int), .constant RX2 197 (1000003)] ++ wsX20 ++ wsX10 ++ wsX00 ++ (vx_atS RX2 155 "java/lang/IndexOutOfBoundsException" ["java/lang/RuntimeException", "java/lang/Exception"]).filter goodWord)
def wsX2_register : List Cond := .code yX2_register cX2_register 1 (some .int) :: ([.fieldLink RX2 41 "BootChooser" "measured" "I"] ++ wsX20)
def wsL_lock_r1 : List Cond := [Cond.classLink RL 13 "java/lang/IllegalArgumentException", Cond.classLink RL 15 "java/lang/IllegalStateException", Cond.methodLink RL 7 yX2_lock, Cond.instanceMethod yX2_lock, Cond.selects RX2 yX2_lock yX2_lock, Cond.initialized RX2, Cond.code yX2_lock cX2_lock 3 none, Cond.classLink RX2 50 "java/lang/IllegalArgumentException", Cond.initialized "java/lang/IllegalArgumentException", Cond.fieldLink RX2 18 "BootChooser" "codeLock" "LBootChooser$CodeLock;", Cond.methodLink RX2 45 yX2_isWithin, Cond.static yX2_isWithin, Cond.code yX2_isWithin cX2_isWithin 3 (some .boolean), Cond.methodLink RX2 129 yX2_highestCode, Cond.static yX2_highestCode, Cond.code yX2_highestCode cX2_highestCode 3 (some .int), Cond.methodLink RX2 89 yX2_refuseIfLocked, Cond.instanceMethod yX2_refuseIfLocked, Cond.selects RX2 yX2_refuseIfLocked yX2_refuseIfLocked, Cond.code yX2_refuseIfLocked cX2_refuseIfLocked 1 none, Cond.classLink RX2 63 "java/lang/IllegalStateException", Cond.initialized "java/lang/IllegalStateException", Cond.instanceMethod yX0_close, Cond.initialized RX0]
def wsL_lock_r2 : List Cond := [Cond.selects RX0 yX0_close yX0_close, Cond.code yX0_close cX0_close 3 none, Cond.fieldLink RX0 15 "BootChooser$CodeLock" "isClosed" "Z", Cond.fieldLink RX0 19 "BootChooser$CodeLock" "codeValue" "I", Cond.fieldLink RX0 23 "BootChooser$CodeLock" "codeLength" "I", Cond.methodLink RX0 29 yX0_forgetDigits, Cond.instanceMethod yX0_forgetDigits, Cond.selects RX0 yX0_forgetDigits yX0_forgetDigits, Cond.code yX0_forgetDigits cX0_forgetDigits 1 none, Cond.fieldLink RX0 26 "BootChooser$CodeLock" "entered" "I"]
def wsL_lock : List Cond := .codeWith yL_lock cL_lock 4 (some .int) [(0, 7, 8, 13), (0, 7, 12, 15)] :: ((wsL_lock_r1 ++ wsL_lock_r2) ++ wsX20 ++ wsX00 ++ (vx_atS RX2 54 "java/lang/IllegalArgumentException" ["java/lang/RuntimeException", "java/lang/Exception"]).filter goodWord ++ (vx_atS RX2 67 "java/lang/IllegalStateException" ["java/lang/RuntimeException", "java/lang/Exception"]).filter goodWord)
def wsL_act_r1 : List Cond := [Cond.classLink RL 60 "java/lang/IndexOutOfBoundsException", Cond.classLink RL 13 "java/lang/IllegalArgumentException", Cond.classLink RL 15 "java/lang/IllegalStateException", Cond.methodLink RL 17 yX2_remove, Cond.instanceMethod yX2_remove, Cond.selects RX2 yX2_remove yX2_remove, Cond.initialized RX2, Cond.code yX2_remove cX2_remove 2 (some .int), Cond.methodLink RX2 75 yX2_presentEntry, Cond.instanceMethod yX2_presentEntry, Cond.selects RX2 yX2_presentEntry yX2_presentEntry, Cond.code yX2_presentEntry cX2_presentEntry 3 (some (.object "BootChooser$Entry")), Cond.classLink RX2 151 "java/lang/IndexOutOfBoundsException", Cond.initialized "java/lang/IndexOutOfBoundsException", Cond.methodLink RX2 121 yX2_findEntry, Cond.instanceMethod yX2_findEntry, Cond.selects RX2 yX2_findEntry yX2_findEntry, Cond.code yX2_findEntry cX2_findEntry 6 (some (.object "BootChooser$Entry")), Cond.fieldLink RX2 11 "BootChooser" "rows" "[LBootChooser$Entry;", Cond.methodLink RX2 83 yX2_countEntries, Cond.instanceMethod yX2_countEntries, Cond.selects RX2 yX2_countEntries yX2_countEntries, Cond.code yX2_countEntries cX2_countEntries 6 (some .int), Cond.methodLink RL 21 yX2_edit]
def wsL_act_r2 : List Cond := [Cond.instanceMethod yX2_edit, Cond.selects RX2 yX2_edit yX2_edit, Cond.code yX2_edit cX2_edit 5 (some .int), Cond.classLink RX2 50 "java/lang/IllegalArgumentException", Cond.initialized "java/lang/IllegalArgumentException", Cond.methodLink RX2 45 yX2_isWithin, Cond.static yX2_isWithin, Cond.code yX2_isWithin cX2_isWithin 3 (some .boolean), Cond.methodLink RX2 89 yX2_refuseIfLocked, Cond.instanceMethod yX2_refuseIfLocked, Cond.selects RX2 yX2_refuseIfLocked yX2_refuseIfLocked, Cond.code yX2_refuseIfLocked cX2_refuseIfLocked 1 none, Cond.classLink RX2 63 "java/lang/IllegalStateException", Cond.initialized "java/lang/IllegalStateException", Cond.fieldLink RX2 18 "BootChooser" "codeLock" "LBootChooser$CodeLock;", Cond.methodLink RL 25 yX2_choose, Cond.instanceMethod yX2_choose, Cond.selects RX2 yX2_choose yX2_choose, Cond.code yX2_choose cX2_choose 3 (some .int), Cond.fieldLink RX2 26 "BootChooser" "stayingChoice" "I", Cond.methodLink RX2 95 yX2_refuseAsChoice, Cond.instanceMethod yX2_refuseAsChoice, Cond.selects RX2 yX2_refuseAsChoice yX2_refuseAsChoice, Cond.code yX2_refuseAsChoice cX2_refuseAsChoice 2 none]
def wsL_act_r3 : List Cond := [Cond.methodLink RL 28 yX2_chooseOnce, Cond.instanceMethod yX2_chooseOnce, Cond.selects RX2 yX2_chooseOnce yX2_chooseOnce, Cond.code yX2_chooseOnce cX2_chooseOnce 3 (some .int), Cond.fieldLink RX2 29 "BootChooser" "onceChoice" "I", Cond.methodLink RL 31 yX2_setPattern, Cond.instanceMethod yX2_setPattern, Cond.selects RX2 yX2_setPattern yX2_setPattern, Cond.code yX2_setPattern cX2_setPattern 3 (some .int), Cond.fieldLink RX2 32 "BootChooser" "patternFrom" "I", Cond.fieldLink RX2 35 "BootChooser" "patternTo" "I", Cond.methodLink RX2 101 yX2_countFitting, Cond.instanceMethod yX2_countFitting, Cond.selects RX2 yX2_countFitting yX2_countFitting, Cond.code yX2_countFitting cX2_countFitting 6 (some .int), Cond.methodLink RX2 166 yX2_isFitting, Cond.instanceMethod yX2_isFitting, Cond.selects RX2 yX2_isFitting yX2_isFitting, Cond.code yX2_isFitting cX2_isFitting 2 (some .boolean), Cond.methodLink RL 34 yX2_start, Cond.instanceMethod yX2_start, Cond.selects RX2 yX2_start yX2_start, Cond.code yX2_start cX2_start 2 (some .int), Cond.fieldLink RX2 41 "BootChooser" "measured" "I"]
def wsL_act_r4 : List Cond := [Cond.fieldLink RX2 38 "BootChooser" "runningEntry" "I", Cond.methodLink RX2 104 yX2_nextEntry, Cond.instanceMethod yX2_nextEntry, Cond.selects RX2 yX2_nextEntry yX2_nextEntry, Cond.code yX2_nextEntry cX2_nextEntry 4 (some (.object "BootChooser$Entry")), Cond.instanceMethod yX1_isBad, Cond.initialized RX1, Cond.selects RX1 yX1_isBad yX1_isBad, Cond.code yX1_isBad cX1_isBad 1 (some .boolean), Cond.fieldLink RX1 34 "BootChooser$Entry" "triesLeft" "I", Cond.methodLink RX2 180 yX2_firstFittingNotBad, Cond.instanceMethod yX2_firstFittingNotBad, Cond.selects RX2 yX2_firstFittingNotBad yX2_firstFittingNotBad, Cond.code yX2_firstFittingNotBad cX2_firstFittingNotBad 6 (some (.object "BootChooser$Entry")), Cond.instanceMethod yX1_isAheadOf, Cond.selects RX1 yX1_isAheadOf yX1_isAheadOf, Cond.code yX1_isAheadOf cX1_isAheadOf 3 (some .boolean), Cond.fieldLink RX1 19 "BootChooser$Entry" "kind" "I", Cond.fieldLink RX1 22 "BootChooser$Entry" "name" "I", Cond.fieldLink RX1 15 "BootChooser$Entry" "number" "I", Cond.methodLink RX1 37 yX1_isBad, Cond.methodLink RX1 41 yX1_compareVersion, Cond.instanceMethod yX1_compareVersion, Cond.selects RX1 yX1_compareVersion yX1_compareVersion]
def wsL_act_r5 : List Cond := [Cond.code yX1_compareVersion cX1_compareVersion 2 (some .int), Cond.fieldLink RX1 25 "BootChooser$Entry" "version" "I", Cond.fieldLink RX1 28 "BootChooser$Entry" "mark" "I", Cond.methodLink RX1 45 yJ6_compare_7cf53, Cond.static yJ6_compare_7cf53, Cond.initialized RJ6, Cond.code yJ6_compare_7cf53 cJ6_compare_7cf53 2 (some .int), Cond.methodLink RX2 148 yX2_entryWithPlace, Cond.instanceMethod yX2_entryWithPlace, Cond.selects RX2 yX2_entryWithPlace yX2_entryWithPlace, Cond.code yX2_entryWithPlace cX2_entryWithPlace 6 (some (.object "BootChooser$Entry")), Cond.methodLink RX2 156 yX2_countAhead, Cond.instanceMethod yX2_countAhead, Cond.selects RX2 yX2_countAhead yX2_countAhead, Cond.code yX2_countAhead cX2_countAhead 7 (some .int), Cond.methodLink RX2 109 yX2_measure, Cond.instanceMethod yX2_measure, Cond.selects RX2 yX2_measure yX2_measure, Cond.code yX2_measure cX2_measure 3 (some .int), Cond.constant RX2 193 (1000000), Cond.methodLink RX2 183 yX2_step, Cond.static yX2_step, Cond.code yX2_step cX2_step 2 (some .int), Cond.constant RX2 197 (1000003)]
def wsL_act_r6 : List Cond := [Cond.instanceMethod yX1_useTry, Cond.selects RX1 yX1_useTry yX1_useTry, Cond.code yX1_useTry cX1_useTry 1 none, Cond.instanceMethod yX0_forgetDigits, Cond.initialized RX0, Cond.selects RX0 yX0_forgetDigits yX0_forgetDigits, Cond.code yX0_forgetDigits cX0_forgetDigits 1 none, Cond.fieldLink RX0 26 "BootChooser$CodeLock" "entered" "I", Cond.methodLink RL 38 yX2_good, Cond.instanceMethod yX2_good, Cond.selects RX2 yX2_good yX2_good, Cond.code yX2_good cX2_good 3 (some .int), Cond.methodLink RL 41 yX2_enter, Cond.instanceMethod yX2_enter, Cond.selects RX2 yX2_enter yX2_enter, Cond.code yX2_enter cX2_enter 2 (some .boolean), Cond.instanceMethod yX0_takeDigit, Cond.selects RX0 yX0_takeDigit yX0_takeDigit, Cond.code yX0_takeDigit cX0_takeDigit 2 (some .boolean), Cond.classLink RX0 32 "java/lang/IllegalStateException", Cond.fieldLink RX0 15 "BootChooser$CodeLock" "isClosed" "Z", Cond.fieldLink RX0 9 "BootChooser$CodeLock" "digits" "[I", Cond.methodLink RX0 39 yX0_endsInCode, Cond.instanceMethod yX0_endsInCode]
def wsL_act_r7 : List Cond := [Cond.selects RX0 yX0_endsInCode yX0_endsInCode, Cond.code yX0_endsInCode cX0_endsInCode 3 (some .boolean), Cond.fieldLink RX0 23 "BootChooser$CodeLock" "codeLength" "I", Cond.fieldLink RX0 19 "BootChooser$CodeLock" "codeValue" "I", Cond.methodLink RL 45 yX2_at, Cond.instanceMethod yX2_at, Cond.selects RX2 yX2_at yX2_at, Cond.code yX2_at cX2_at 3 (some .int), Cond.methodLink RL 48 yX2_placeOf, Cond.instanceMethod yX2_placeOf, Cond.selects RX2 yX2_placeOf yX2_placeOf, Cond.code yX2_placeOf cX2_placeOf 2 (some .int), Cond.methodLink RL 51 yX2_tries, Cond.instanceMethod yX2_tries, Cond.selects RX2 yX2_tries yX2_tries, Cond.code yX2_tries cX2_tries 2 (some .int), Cond.methodLink RL 54 yX2_compare, Cond.instanceMethod yX2_compare, Cond.selects RX2 yX2_compare yX2_compare, Cond.code yX2_compare cX2_compare 5 (some .int), Cond.methodLink RL 57 yX2_foretold, Cond.instanceMethod yX2_foretold, Cond.selects RX2 yX2_foretold yX2_foretold, Cond.code yX2_foretold cX2_foretold 2 (some .int)]
def wsL_act : List Cond := .codeWith yL_act cL_act 5 (some .int) [(0, 175, 176, 60), (0, 175, 181, 13), (0, 175, 186, 15)] :: ((wsL_act_r1 ++ (wsL_act_r2 ++ (wsL_act_r3 ++ (wsL_act_r4 ++ (wsL_act_r5 ++ (wsL_act_r6 ++ wsL_act_r7)))))) ++ wsX10 ++ wsX20 ++ wsX00 ++ (vx_atS RX2 155 "java/lang/IndexOutOfBoundsException" ["java/lang/RuntimeException", "java/lang/Exception"]).filter goodWord ++ (vx_atS RX2 54 "java/lang/IllegalArgumentException" ["java/lang/RuntimeException", "java/lang/Exception"]).filter goodWord ++ (vx_atS RX2 67 "java/lang/IllegalStateException" ["java/lang/RuntimeException", "java/lang/Exception"]).filter goodWord ++ (vx_atS RX0 36 "java/lang/IllegalStateException" ["java/lang/RuntimeException", "java/lang/Exception"]).filter goodWord)
def wsL_add_r1 : List Cond := [Cond.classLink RL 13 "java/lang/IllegalArgumentException", Cond.classLink RL 15 "java/lang/IllegalStateException", Cond.methodLink RL 62 yX2_add, Cond.instanceMethod yX2_add, Cond.selects RX2 yX2_add yX2_add, Cond.initialized RX2, Cond.code yX2_add cX2_add 7 (some .int), Cond.classLink RX2 50 "java/lang/IllegalArgumentException", Cond.initialized "java/lang/IllegalArgumentException", Cond.classLink RX2 63 "java/lang/IllegalStateException", Cond.initialized "java/lang/IllegalStateException", Cond.constant RX2 49 (999999999), Cond.fieldLink RX2 22 "BootChooser" "entriesEver" "I", Cond.methodLink RX2 45 yX2_isWithin, Cond.static yX2_isWithin, Cond.code yX2_isWithin cX2_isWithin 3 (some .boolean), Cond.methodLink RX2 59 yX2_freeRow, Cond.instanceMethod yX2_freeRow, Cond.selects RX2 yX2_freeRow yX2_freeRow, Cond.code yX2_freeRow cX2_freeRow 5 (some (.object "BootChooser$Entry")), Cond.fieldLink RX2 11 "BootChooser" "rows" "[LBootChooser$Entry;", Cond.instanceMethod yX1_fill, Cond.initialized RX1, Cond.selects RX1 yX1_fill yX1_fill]
def wsL_add_r2 : List Cond := [Cond.code yX1_fill cX1_fill 7 none, Cond.fieldLink RX1 9 "BootChooser$Entry" "isThere" "Z", Cond.fieldLink RX1 15 "BootChooser$Entry" "number" "I", Cond.fieldLink RX1 19 "BootChooser$Entry" "kind" "I", Cond.fieldLink RX1 22 "BootChooser$Entry" "name" "I", Cond.fieldLink RX1 25 "BootChooser$Entry" "version" "I", Cond.fieldLink RX1 28 "BootChooser$Entry" "mark" "I", Cond.fieldLink RX1 31 "BootChooser$Entry" "option" "I", Cond.fieldLink RX1 34 "BootChooser$Entry" "triesLeft" "I"]
def wsL_add : List Cond := .codeWith yL_add cL_add 7 (some .int) [(0, 11, 12, 13), (0, 11, 17, 15)] :: ((wsL_add_r1 ++ wsL_add_r2) ++ wsX20 ++ wsX10 ++ (vx_atS RX2 54 "java/lang/IllegalArgumentException" ["java/lang/RuntimeException", "java/lang/Exception"]).filter goodWord ++ (vx_atS RX2 67 "java/lang/IllegalStateException" ["java/lang/RuntimeException", "java/lang/Exception"]).filter goodWord)
def wsL_refuses_r1 : List Cond := [Cond.constant RL 79 (2147483647), Cond.constant RL 85 (1000000000), Cond.methodLink RL 66 yX2_entries, Cond.instanceMethod yX2_entries, Cond.selects RX2 yX2_entries yX2_entries, Cond.initialized RX2, Cond.code yX2_entries cX2_entries 1 (some .int), Cond.methodLink RX2 83 yX2_countEntries, Cond.instanceMethod yX2_countEntries, Cond.selects RX2 yX2_countEntries yX2_countEntries, Cond.code yX2_countEntries cX2_countEntries 6 (some .int), Cond.fieldLink RX2 11 "BootChooser" "rows" "[LBootChooser$Entry;", Cond.methodLink RL 69 yX2_next, Cond.instanceMethod yX2_next, Cond.selects RX2 yX2_next yX2_next, Cond.code yX2_next cX2_next 2 (some .int), Cond.methodLink RX2 104 yX2_nextEntry, Cond.instanceMethod yX2_nextEntry, Cond.selects RX2 yX2_nextEntry yX2_nextEntry, Cond.code yX2_nextEntry cX2_nextEntry 4 (some (.object "BootChooser$Entry")), Cond.fieldLink RX2 29 "BootChooser" "onceChoice" "I", Cond.fieldLink RX2 26 "BootChooser" "stayingChoice" "I", Cond.methodLink RX2 121 yX2_findEntry, Cond.instanceMethod yX2_findEntry]
def wsL_refuses_r2 : List Cond := [Cond.selects RX2 yX2_findEntry yX2_findEntry, Cond.code yX2_findEntry cX2_findEntry 6 (some (.object "BootChooser$Entry")), Cond.instanceMethod yX1_isBad, Cond.initialized RX1, Cond.selects RX1 yX1_isBad yX1_isBad, Cond.code yX1_isBad cX1_isBad 1 (some .boolean), Cond.fieldLink RX1 34 "BootChooser$Entry" "triesLeft" "I", Cond.methodLink RX2 180 yX2_firstFittingNotBad, Cond.instanceMethod yX2_firstFittingNotBad, Cond.selects RX2 yX2_firstFittingNotBad yX2_firstFittingNotBad, Cond.code yX2_firstFittingNotBad cX2_firstFittingNotBad 6 (some (.object "BootChooser$Entry")), Cond.methodLink RX2 166 yX2_isFitting, Cond.instanceMethod yX2_isFitting, Cond.selects RX2 yX2_isFitting yX2_isFitting, Cond.code yX2_isFitting cX2_isFitting 2 (some .boolean), Cond.fieldLink RX2 32 "BootChooser" "patternFrom" "I", Cond.fieldLink RX2 35 "BootChooser" "patternTo" "I", Cond.methodLink RX2 45 yX2_isWithin, Cond.static yX2_isWithin, Cond.code yX2_isWithin cX2_isWithin 3 (some .boolean), Cond.instanceMethod yX1_isAheadOf, Cond.selects RX1 yX1_isAheadOf yX1_isAheadOf, Cond.code yX1_isAheadOf cX1_isAheadOf 3 (some .boolean), Cond.fieldLink RX1 19 "BootChooser$Entry" "kind" "I"]
def wsL_refuses_r3 : List Cond := [Cond.fieldLink RX1 22 "BootChooser$Entry" "name" "I", Cond.fieldLink RX1 15 "BootChooser$Entry" "number" "I", Cond.methodLink RX1 37 yX1_isBad, Cond.methodLink RX1 41 yX1_compareVersion, Cond.instanceMethod yX1_compareVersion, Cond.selects RX1 yX1_compareVersion yX1_compareVersion, Cond.code yX1_compareVersion cX1_compareVersion 2 (some .int), Cond.fieldLink RX1 25 "BootChooser$Entry" "version" "I", Cond.fieldLink RX1 28 "BootChooser$Entry" "mark" "I", Cond.methodLink RX1 45 yJ6_compare_7cf53, Cond.static yJ6_compare_7cf53, Cond.initialized RJ6, Cond.code yJ6_compare_7cf53 cJ6_compare_7cf53 2 (some .int), Cond.methodLink RX2 148 yX2_entryWithPlace, Cond.instanceMethod yX2_entryWithPlace, Cond.selects RX2 yX2_entryWithPlace yX2_entryWithPlace, Cond.code yX2_entryWithPlace cX2_entryWithPlace 6 (some (.object "BootChooser$Entry")), Cond.methodLink RX2 156 yX2_countAhead, Cond.instanceMethod yX2_countAhead, Cond.selects RX2 yX2_countAhead yX2_countAhead, Cond.code yX2_countAhead cX2_countAhead 7 (some .int), Cond.methodLink RL 72 yX2_register, Cond.instanceMethod yX2_register, Cond.selects RX2 yX2_register yX2_register]
def wsL_refuses_r4 : List Cond := [Cond.code yX2_register cX2_register 1 (some .int), Cond.fieldLink RX2 41 "BootChooser" "measured" "I", Cond.methodLink RL 75 yX2_isLocked, Cond.instanceMethod yX2_isLocked, Cond.selects RX2 yX2_isLocked yX2_isLocked, Cond.code yX2_isLocked cX2_isLocked 1 (some .boolean), Cond.fieldLink RX2 18 "BootChooser" "codeLock" "LBootChooser$CodeLock;", Cond.methodLink RL 80 yL_add, Cond.static yL_add, Cond.initialized RL, Cond.codeWith yL_add cL_add 7 (some .int) [(0, 11, 12, 13), (0, 11, 17, 15)], Cond.classLink RL 13 "java/lang/IllegalArgumentException", Cond.classLink RL 15 "java/lang/IllegalStateException", Cond.methodLink RL 62 yX2_add, Cond.instanceMethod yX2_add, Cond.selects RX2 yX2_add yX2_add, Cond.code yX2_add cX2_add 7 (some .int), Cond.classLink RX2 50 "java/lang/IllegalArgumentException", Cond.initialized "java/lang/IllegalArgumentException", Cond.classLink RX2 63 "java/lang/IllegalStateException", Cond.initialized "java/lang/IllegalStateException", Cond.constant RX2 49 (999999999), Cond.fieldLink RX2 22 "BootChooser" "entriesEver" "I", Cond.methodLink RX2 59 yX2_freeRow]
def wsL_refuses_r5 : List Cond := [Cond.instanceMethod yX2_freeRow, Cond.selects RX2 yX2_freeRow yX2_freeRow, Cond.code yX2_freeRow cX2_freeRow 5 (some (.object "BootChooser$Entry")), Cond.instanceMethod yX1_fill, Cond.selects RX1 yX1_fill yX1_fill, Cond.code yX1_fill cX1_fill 7 none, Cond.fieldLink RX1 9 "BootChooser$Entry" "isThere" "Z", Cond.fieldLink RX1 31 "BootChooser$Entry" "option" "I", Cond.methodLink RL 86 yL_act, Cond.static yL_act, Cond.codeWith yL_act cL_act 5 (some .int) [(0, 175, 176, 60), (0, 175, 181, 13), (0, 175, 186, 15)], Cond.classLink RL 60 "java/lang/IndexOutOfBoundsException", Cond.methodLink RL 17 yX2_remove, Cond.instanceMethod yX2_remove, Cond.selects RX2 yX2_remove yX2_remove, Cond.code yX2_remove cX2_remove 2 (some .int), Cond.methodLink RX2 75 yX2_presentEntry, Cond.instanceMethod yX2_presentEntry, Cond.selects RX2 yX2_presentEntry yX2_presentEntry, Cond.code yX2_presentEntry cX2_presentEntry 3 (some (.object "BootChooser$Entry")), Cond.classLink RX2 151 "java/lang/IndexOutOfBoundsException", Cond.initialized "java/lang/IndexOutOfBoundsException", Cond.methodLink RL 21 yX2_edit, Cond.instanceMethod yX2_edit]
def wsL_refuses_r6 : List Cond := [Cond.selects RX2 yX2_edit yX2_edit, Cond.code yX2_edit cX2_edit 5 (some .int), Cond.methodLink RX2 89 yX2_refuseIfLocked, Cond.instanceMethod yX2_refuseIfLocked, Cond.selects RX2 yX2_refuseIfLocked yX2_refuseIfLocked, Cond.code yX2_refuseIfLocked cX2_refuseIfLocked 1 none, Cond.methodLink RL 25 yX2_choose, Cond.instanceMethod yX2_choose, Cond.selects RX2 yX2_choose yX2_choose, Cond.code yX2_choose cX2_choose 3 (some .int), Cond.methodLink RX2 95 yX2_refuseAsChoice, Cond.instanceMethod yX2_refuseAsChoice, Cond.selects RX2 yX2_refuseAsChoice yX2_refuseAsChoice, Cond.code yX2_refuseAsChoice cX2_refuseAsChoice 2 none, Cond.methodLink RL 28 yX2_chooseOnce, Cond.instanceMethod yX2_chooseOnce, Cond.selects RX2 yX2_chooseOnce yX2_chooseOnce, Cond.code yX2_chooseOnce cX2_chooseOnce 3 (some .int), Cond.methodLink RL 31 yX2_setPattern, Cond.instanceMethod yX2_setPattern, Cond.selects RX2 yX2_setPattern yX2_setPattern, Cond.code yX2_setPattern cX2_setPattern 3 (some .int), Cond.methodLink RX2 101 yX2_countFitting, Cond.instanceMethod yX2_countFitting]
def wsL_refuses_r7 : List Cond := [Cond.selects RX2 yX2_countFitting yX2_countFitting, Cond.code yX2_countFitting cX2_countFitting 6 (some .int), Cond.methodLink RL 34 yX2_start, Cond.instanceMethod yX2_start, Cond.selects RX2 yX2_start yX2_start, Cond.code yX2_start cX2_start 2 (some .int), Cond.fieldLink RX2 38 "BootChooser" "runningEntry" "I", Cond.methodLink RX2 109 yX2_measure, Cond.instanceMethod yX2_measure, Cond.selects RX2 yX2_measure yX2_measure, Cond.code yX2_measure cX2_measure 3 (some .int), Cond.constant RX2 193 (1000000), Cond.methodLink RX2 183 yX2_step, Cond.static yX2_step, Cond.code yX2_step cX2_step 2 (some .int), Cond.constant RX2 197 (1000003), Cond.instanceMethod yX1_useTry, Cond.selects RX1 yX1_useTry yX1_useTry, Cond.code yX1_useTry cX1_useTry 1 none, Cond.instanceMethod yX0_forgetDigits, Cond.initialized RX0, Cond.selects RX0 yX0_forgetDigits yX0_forgetDigits, Cond.code yX0_forgetDigits cX0_forgetDigits 1 none, Cond.fieldLink RX0 26 "BootChooser$CodeLock" "entered" "I"]
def wsL_refuses_r8 : List Cond := [Cond.methodLink RL 38 yX2_good, Cond.instanceMethod yX2_good, Cond.selects RX2 yX2_good yX2_good, Cond.code yX2_good cX2_good 3 (some .int), Cond.methodLink RL 41 yX2_enter, Cond.instanceMethod yX2_enter, Cond.selects RX2 yX2_enter yX2_enter, Cond.code yX2_enter cX2_enter 2 (some .boolean), Cond.instanceMethod yX0_takeDigit, Cond.selects RX0 yX0_takeDigit yX0_takeDigit, Cond.code yX0_takeDigit cX0_takeDigit 2 (some .boolean), Cond.classLink RX0 32 "java/lang/IllegalStateException", Cond.fieldLink RX0 15 "BootChooser$CodeLock" "isClosed" "Z", Cond.fieldLink RX0 9 "BootChooser$CodeLock" "digits" "[I", Cond.methodLink RX0 39 yX0_endsInCode, Cond.instanceMethod yX0_endsInCode, Cond.selects RX0 yX0_endsInCode yX0_endsInCode, Cond.code yX0_endsInCode cX0_endsInCode 3 (some .boolean), Cond.fieldLink RX0 23 "BootChooser$CodeLock" "codeLength" "I", Cond.fieldLink RX0 19 "BootChooser$CodeLock" "codeValue" "I", Cond.methodLink RL 45 yX2_at, Cond.instanceMethod yX2_at, Cond.selects RX2 yX2_at yX2_at, Cond.code yX2_at cX2_at 3 (some .int)]
def wsL_refuses_r9 : List Cond := [Cond.methodLink RL 48 yX2_placeOf, Cond.instanceMethod yX2_placeOf, Cond.selects RX2 yX2_placeOf yX2_placeOf, Cond.code yX2_placeOf cX2_placeOf 2 (some .int), Cond.methodLink RL 51 yX2_tries, Cond.instanceMethod yX2_tries, Cond.selects RX2 yX2_tries yX2_tries, Cond.code yX2_tries cX2_tries 2 (some .int), Cond.methodLink RL 54 yX2_compare, Cond.instanceMethod yX2_compare, Cond.selects RX2 yX2_compare yX2_compare, Cond.code yX2_compare cX2_compare 5 (some .int), Cond.methodLink RL 57 yX2_foretold, Cond.instanceMethod yX2_foretold, Cond.selects RX2 yX2_foretold yX2_foretold, Cond.code yX2_foretold cX2_foretold 2 (some .int), Cond.methodLink RL 90 yL_lock, Cond.static yL_lock, Cond.codeWith yL_lock cL_lock 4 (some .int) [(0, 7, 8, 13), (0, 7, 12, 15)], Cond.methodLink RL 7 yX2_lock, Cond.instanceMethod yX2_lock, Cond.selects RX2 yX2_lock yX2_lock, Cond.code yX2_lock cX2_lock 3 none, Cond.methodLink RX2 129 yX2_highestCode]
def wsL_refuses_r10 : List Cond := [Cond.static yX2_highestCode, Cond.code yX2_highestCode cX2_highestCode 3 (some .int), Cond.instanceMethod yX0_close, Cond.selects RX0 yX0_close yX0_close, Cond.code yX0_close cX0_close 3 none, Cond.methodLink RX0 29 yX0_forgetDigits]
def wsL_refuses : List Cond := .code yL_refuses cL_refuses 15 (some .boolean) :: ((wsL_refuses_r1 ++ (wsL_refuses_r2 ++ (wsL_refuses_r3 ++ (wsL_refuses_r4 ++ (wsL_refuses_r5 ++ (wsL_refuses_r6 ++ (wsL_refuses_r7 ++ (wsL_refuses_r8 ++ (wsL_refuses_r9 ++ wsL_refuses_r10))))))))) ++ wsX20 ++ wsX10 ++ wsX00 ++ (vx_atS RX2 54 "java/lang/IllegalArgumentException" ["java/lang/RuntimeException", "java/lang/Exception"]).filter goodWord ++ (vx_atS RX2 67 "java/lang/IllegalStateException" ["java/lang/RuntimeException", "java/lang/Exception"]).filter goodWord ++ (vx_atS RX2 155 "java/lang/IndexOutOfBoundsException" ["java/lang/RuntimeException", "java/lang/Exception"]).filter goodWord ++ (vx_atS RX0 36 "java/lang/IllegalStateException" ["java/lang/RuntimeException", "java/lang/Exception"]).filter goodWord)
def wsL_order_r1 : List Cond := [Cond.methodLink RL 45 yX2_at, Cond.instanceMethod yX2_at, Cond.selects RX2 yX2_at yX2_at, Cond.initialized RX2, Cond.code yX2_at cX2_at 3 (some .int), Cond.classLink RX2 151 "java/lang/IndexOutOfBoundsException", Cond.initialized "java/lang/IndexOutOfBoundsException", Cond.methodLink RX2 148 yX2_entryWithPlace, Cond.instanceMethod yX2_entryWithPlace, Cond.selects RX2 yX2_entryWithPlace yX2_entryWithPlace, Cond.code yX2_entryWithPlace cX2_entryWithPlace 6 (some (.object "BootChooser$Entry")), Cond.fieldLink RX2 11 "BootChooser" "rows" "[LBootChooser$Entry;", Cond.methodLink RX2 156 yX2_countAhead, Cond.instanceMethod yX2_countAhead, Cond.selects RX2 yX2_countAhead yX2_countAhead, Cond.code yX2_countAhead cX2_countAhead 7 (some .int), Cond.instanceMethod yX1_isAheadOf, Cond.initialized RX1, Cond.selects RX1 yX1_isAheadOf yX1_isAheadOf, Cond.code yX1_isAheadOf cX1_isAheadOf 3 (some .boolean), Cond.fieldLink RX1 19 "BootChooser$Entry" "kind" "I", Cond.fieldLink RX1 22 "BootChooser$Entry" "name" "I", Cond.fieldLink RX1 15 "BootChooser$Entry" "number" "I", Cond.methodLink RX1 37 yX1_isBad]
def wsL_order_r2 : List Cond := [Cond.instanceMethod yX1_isBad, Cond.selects RX1 yX1_isBad yX1_isBad, Cond.code yX1_isBad cX1_isBad 1 (some .boolean), Cond.fieldLink RX1 34 "BootChooser$Entry" "triesLeft" "I", Cond.methodLink RX1 41 yX1_compareVersion, Cond.instanceMethod yX1_compareVersion, Cond.selects RX1 yX1_compareVersion yX1_compareVersion, Cond.code yX1_compareVersion cX1_compareVersion 2 (some .int), Cond.fieldLink RX1 25 "BootChooser$Entry" "version" "I", Cond.fieldLink RX1 28 "BootChooser$Entry" "mark" "I", Cond.methodLink RX1 45 yJ6_compare_7cf53, Cond.static yJ6_compare_7cf53, Cond.initialized RJ6, Cond.code yJ6_compare_7cf53 cJ6_compare_7cf53 2 (some .int), Cond.methodLink RL 48 yX2_placeOf, Cond.instanceMethod yX2_placeOf, Cond.selects RX2 yX2_placeOf yX2_placeOf, Cond.code yX2_placeOf cX2_placeOf 2 (some .int), Cond.methodLink RX2 75 yX2_presentEntry, Cond.instanceMethod yX2_presentEntry, Cond.selects RX2 yX2_presentEntry yX2_presentEntry, Cond.code yX2_presentEntry cX2_presentEntry 3 (some (.object "BootChooser$Entry")), Cond.methodLink RX2 121 yX2_findEntry, Cond.instanceMethod yX2_findEntry]
def wsL_order_r3 : List Cond := [Cond.selects RX2 yX2_findEntry yX2_findEntry, Cond.code yX2_findEntry cX2_findEntry 6 (some (.object "BootChooser$Entry"))]
def wsL_order : List Cond := .code yL_order cL_order 5 (some .boolean) :: ((wsL_order_r1 ++ (wsL_order_r2 ++ wsL_order_r3)) ++ wsX10 ++ wsX20 ++ (vx_atS RX2 155 "java/lang/IndexOutOfBoundsException" ["java/lang/RuntimeException", "java/lang/Exception"]).filter goodWord)
def wsL_starts_r1 : List Cond := [Cond.classLink RL 8 RX2, Cond.instantiable RX2 9, Cond.initialized RX2, Cond.constant RL 97 (1002003), Cond.constant RL 98 (9000000), Cond.constant RL 99 (1010000), Cond.constant RL 104 (878307), Cond.methodLink RL 93 yX2_init, Cond.instanceMethod yX2_init, Cond.code yX2_init cX2_init 2 none, Cond.methodLink RX2 1 objectInit, Cond.instanceMethod objectInit, Cond.code objectInit ⟨#[0xb1]⟩ 1 none, Cond.classLink RX2 9 RX1, Cond.fieldLink RX2 11 "BootChooser" "rows" "[LBootChooser$Entry;", Cond.classLink RX2 15 RX0, Cond.instantiable RX0 5, Cond.initialized RX0, Cond.fieldLink RX2 18 "BootChooser" "codeLock" "LBootChooser$CodeLock;", Cond.fieldLink RX2 22 "BootChooser" "entriesEver" "I", Cond.fieldLink RX2 26 "BootChooser" "stayingChoice" "I", Cond.fieldLink RX2 29 "BootChooser" "onceChoice" "I", Cond.fieldLink RX2 32 "BootChooser" "patternFrom" "I", Cond.fieldLink RX2 35 "BootChooser" "patternTo" "I"]
def wsL_starts_r2 : List Cond := [Cond.fieldLink RX2 38 "BootChooser" "runningEntry" "I", Cond.fieldLink RX2 41 "BootChooser" "measured" "I", Cond.instantiable RX1 8, Cond.initialized RX1, Cond.instanceMethod yX0_init, Cond.code yX0_init cX0_init 1 none, Cond.methodLink RX0 3 objectInit, Cond.arrayClass .int, Cond.fieldLink RX0 9 "BootChooser$CodeLock" "digits" "[I", Cond.fieldLink RX0 15 "BootChooser$CodeLock" "isClosed" "Z", Cond.fieldLink RX0 19 "BootChooser$CodeLock" "codeValue" "I", Cond.fieldLink RX0 23 "BootChooser$CodeLock" "codeLength" "I", Cond.fieldLink RX0 26 "BootChooser$CodeLock" "entered" "I", Cond.instanceMethod yX1_init, Cond.code yX1_init cX1_init 1 none, Cond.methodLink RX1 3 objectInit, Cond.fieldLink RX1 9 "BootChooser$Entry" "isThere" "Z", Cond.fieldLink RX1 15 "BootChooser$Entry" "number" "I", Cond.fieldLink RX1 19 "BootChooser$Entry" "kind" "I", Cond.fieldLink RX1 22 "BootChooser$Entry" "name" "I", Cond.fieldLink RX1 25 "BootChooser$Entry" "version" "I", Cond.fieldLink RX1 28 "BootChooser$Entry" "mark" "I", Cond.fieldLink RX1 31 "BootChooser$Entry" "option" "I", Cond.fieldLink RX1 34 "BootChooser$Entry" "triesLeft" "I"]
def wsL_starts_r3 : List Cond := [Cond.methodLink RL 66 yX2_entries, Cond.instanceMethod yX2_entries, Cond.selects RX2 yX2_entries yX2_entries, Cond.code yX2_entries cX2_entries 1 (some .int), Cond.methodLink RX2 83 yX2_countEntries, Cond.instanceMethod yX2_countEntries, Cond.selects RX2 yX2_countEntries yX2_countEntries, Cond.code yX2_countEntries cX2_countEntries 6 (some .int), Cond.methodLink RL 69 yX2_next, Cond.instanceMethod yX2_next, Cond.selects RX2 yX2_next yX2_next, Cond.code yX2_next cX2_next 2 (some .int), Cond.methodLink RX2 104 yX2_nextEntry, Cond.instanceMethod yX2_nextEntry, Cond.selects RX2 yX2_nextEntry yX2_nextEntry, Cond.code yX2_nextEntry cX2_nextEntry 4 (some (.object "BootChooser$Entry")), Cond.methodLink RX2 121 yX2_findEntry, Cond.instanceMethod yX2_findEntry, Cond.selects RX2 yX2_findEntry yX2_findEntry, Cond.code yX2_findEntry cX2_findEntry 6 (some (.object "BootChooser$Entry")), Cond.instanceMethod yX1_isBad, Cond.selects RX1 yX1_isBad yX1_isBad, Cond.code yX1_isBad cX1_isBad 1 (some .boolean), Cond.methodLink RX2 180 yX2_firstFittingNotBad]
def wsL_starts_r4 : List Cond := [Cond.instanceMethod yX2_firstFittingNotBad, Cond.selects RX2 yX2_firstFittingNotBad yX2_firstFittingNotBad, Cond.code yX2_firstFittingNotBad cX2_firstFittingNotBad 6 (some (.object "BootChooser$Entry")), Cond.methodLink RX2 166 yX2_isFitting, Cond.instanceMethod yX2_isFitting, Cond.selects RX2 yX2_isFitting yX2_isFitting, Cond.code yX2_isFitting cX2_isFitting 2 (some .boolean), Cond.methodLink RX2 45 yX2_isWithin, Cond.static yX2_isWithin, Cond.code yX2_isWithin cX2_isWithin 3 (some .boolean), Cond.instanceMethod yX1_isAheadOf, Cond.selects RX1 yX1_isAheadOf yX1_isAheadOf, Cond.code yX1_isAheadOf cX1_isAheadOf 3 (some .boolean), Cond.methodLink RX1 37 yX1_isBad, Cond.methodLink RX1 41 yX1_compareVersion, Cond.instanceMethod yX1_compareVersion, Cond.selects RX1 yX1_compareVersion yX1_compareVersion, Cond.code yX1_compareVersion cX1_compareVersion 2 (some .int), Cond.methodLink RX1 45 yJ6_compare_7cf53, Cond.static yJ6_compare_7cf53, Cond.initialized RJ6, Cond.code yJ6_compare_7cf53 cJ6_compare_7cf53 2 (some .int), Cond.methodLink RX2 148 yX2_entryWithPlace, Cond.instanceMethod yX2_entryWithPlace]
def wsL_starts_r5 : List Cond := [Cond.selects RX2 yX2_entryWithPlace yX2_entryWithPlace, Cond.code yX2_entryWithPlace cX2_entryWithPlace 6 (some (.object "BootChooser$Entry")), Cond.methodLink RX2 156 yX2_countAhead, Cond.instanceMethod yX2_countAhead, Cond.selects RX2 yX2_countAhead yX2_countAhead, Cond.code yX2_countAhead cX2_countAhead 7 (some .int), Cond.methodLink RL 94 yX2_running, Cond.instanceMethod yX2_running, Cond.selects RX2 yX2_running yX2_running, Cond.code yX2_running cX2_running 1 (some .int), Cond.methodLink RL 72 yX2_register, Cond.instanceMethod yX2_register, Cond.selects RX2 yX2_register yX2_register, Cond.code yX2_register cX2_register 1 (some .int), Cond.methodLink RL 75 yX2_isLocked, Cond.instanceMethod yX2_isLocked, Cond.selects RX2 yX2_isLocked yX2_isLocked, Cond.code yX2_isLocked cX2_isLocked 1 (some .boolean), Cond.methodLink RL 86 yL_act, Cond.static yL_act, Cond.initialized RL, Cond.codeWith yL_act cL_act 5 (some .int) [(0, 175, 176, 60), (0, 175, 181, 13), (0, 175, 186, 15)], Cond.classLink RL 60 "java/lang/IndexOutOfBoundsException", Cond.classLink RL 13 "java/lang/IllegalArgumentException"]
def wsL_starts_r6 : List Cond := [Cond.classLink RL 15 "java/lang/IllegalStateException", Cond.methodLink RL 17 yX2_remove, Cond.instanceMethod yX2_remove, Cond.selects RX2 yX2_remove yX2_remove, Cond.code yX2_remove cX2_remove 2 (some .int), Cond.methodLink RX2 75 yX2_presentEntry, Cond.instanceMethod yX2_presentEntry, Cond.selects RX2 yX2_presentEntry yX2_presentEntry, Cond.code yX2_presentEntry cX2_presentEntry 3 (some (.object "BootChooser$Entry")), Cond.classLink RX2 151 "java/lang/IndexOutOfBoundsException", Cond.initialized "java/lang/IndexOutOfBoundsException", Cond.methodLink RL 21 yX2_edit, Cond.instanceMethod yX2_edit, Cond.selects RX2 yX2_edit yX2_edit, Cond.code yX2_edit cX2_edit 5 (some .int), Cond.classLink RX2 50 "java/lang/IllegalArgumentException", Cond.initialized "java/lang/IllegalArgumentException", Cond.methodLink RX2 89 yX2_refuseIfLocked, Cond.instanceMethod yX2_refuseIfLocked, Cond.selects RX2 yX2_refuseIfLocked yX2_refuseIfLocked, Cond.code yX2_refuseIfLocked cX2_refuseIfLocked 1 none, Cond.classLink RX2 63 "java/lang/IllegalStateException", Cond.initialized "java/lang/IllegalStateException", Cond.methodLink RL 25 yX2_choose]
def wsL_starts_r7 : List Cond := [Cond.instanceMethod yX2_choose, Cond.selects RX2 yX2_choose yX2_choose, Cond.code yX2_choose cX2_choose 3 (some .int), Cond.methodLink RX2 95 yX2_refuseAsChoice, Cond.instanceMethod yX2_refuseAsChoice, Cond.selects RX2 yX2_refuseAsChoice yX2_refuseAsChoice, Cond.code yX2_refuseAsChoice cX2_refuseAsChoice 2 none, Cond.methodLink RL 28 yX2_chooseOnce, Cond.instanceMethod yX2_chooseOnce, Cond.selects RX2 yX2_chooseOnce yX2_chooseOnce, Cond.code yX2_chooseOnce cX2_chooseOnce 3 (some .int), Cond.methodLink RL 31 yX2_setPattern, Cond.instanceMethod yX2_setPattern, Cond.selects RX2 yX2_setPattern yX2_setPattern, Cond.code yX2_setPattern cX2_setPattern 3 (some .int), Cond.methodLink RX2 101 yX2_countFitting, Cond.instanceMethod yX2_countFitting, Cond.selects RX2 yX2_countFitting yX2_countFitting, Cond.code yX2_countFitting cX2_countFitting 6 (some .int), Cond.methodLink RL 34 yX2_start, Cond.instanceMethod yX2_start, Cond.selects RX2 yX2_start yX2_start, Cond.code yX2_start cX2_start 2 (some .int), Cond.methodLink RX2 109 yX2_measure]
def wsL_starts_r8 : List Cond := [Cond.instanceMethod yX2_measure, Cond.selects RX2 yX2_measure yX2_measure, Cond.code yX2_measure cX2_measure 3 (some .int), Cond.constant RX2 193 (1000000), Cond.methodLink RX2 183 yX2_step, Cond.static yX2_step, Cond.code yX2_step cX2_step 2 (some .int), Cond.constant RX2 197 (1000003), Cond.instanceMethod yX1_useTry, Cond.selects RX1 yX1_useTry yX1_useTry, Cond.code yX1_useTry cX1_useTry 1 none, Cond.instanceMethod yX0_forgetDigits, Cond.selects RX0 yX0_forgetDigits yX0_forgetDigits, Cond.code yX0_forgetDigits cX0_forgetDigits 1 none, Cond.methodLink RL 38 yX2_good, Cond.instanceMethod yX2_good, Cond.selects RX2 yX2_good yX2_good, Cond.code yX2_good cX2_good 3 (some .int), Cond.methodLink RL 41 yX2_enter, Cond.instanceMethod yX2_enter, Cond.selects RX2 yX2_enter yX2_enter, Cond.code yX2_enter cX2_enter 2 (some .boolean), Cond.instanceMethod yX0_takeDigit, Cond.selects RX0 yX0_takeDigit yX0_takeDigit]
def wsL_starts_r9 : List Cond := [Cond.code yX0_takeDigit cX0_takeDigit 2 (some .boolean), Cond.classLink RX0 32 "java/lang/IllegalStateException", Cond.methodLink RX0 39 yX0_endsInCode, Cond.instanceMethod yX0_endsInCode, Cond.selects RX0 yX0_endsInCode yX0_endsInCode, Cond.code yX0_endsInCode cX0_endsInCode 3 (some .boolean), Cond.methodLink RL 45 yX2_at, Cond.instanceMethod yX2_at, Cond.selects RX2 yX2_at yX2_at, Cond.code yX2_at cX2_at 3 (some .int), Cond.methodLink RL 48 yX2_placeOf, Cond.instanceMethod yX2_placeOf, Cond.selects RX2 yX2_placeOf yX2_placeOf, Cond.code yX2_placeOf cX2_placeOf 2 (some .int), Cond.methodLink RL 51 yX2_tries, Cond.instanceMethod yX2_tries, Cond.selects RX2 yX2_tries yX2_tries, Cond.code yX2_tries cX2_tries 2 (some .int), Cond.methodLink RL 54 yX2_compare, Cond.instanceMethod yX2_compare, Cond.selects RX2 yX2_compare yX2_compare, Cond.code yX2_compare cX2_compare 5 (some .int), Cond.methodLink RL 57 yX2_foretold, Cond.instanceMethod yX2_foretold]
def wsL_starts_r10 : List Cond := [Cond.selects RX2 yX2_foretold yX2_foretold, Cond.code yX2_foretold cX2_foretold 2 (some .int), Cond.methodLink RL 62 yX2_add, Cond.instanceMethod yX2_add, Cond.selects RX2 yX2_add yX2_add, Cond.code yX2_add cX2_add 7 (some .int), Cond.constant RX2 49 (999999999), Cond.methodLink RX2 59 yX2_freeRow, Cond.instanceMethod yX2_freeRow, Cond.selects RX2 yX2_freeRow yX2_freeRow, Cond.code yX2_freeRow cX2_freeRow 5 (some (.object "BootChooser$Entry")), Cond.instanceMethod yX1_fill, Cond.selects RX1 yX1_fill yX1_fill, Cond.code yX1_fill cX1_fill 7 none, Cond.methodLink RL 100 yL_order, Cond.static yL_order, Cond.code yL_order cL_order 5 (some .boolean), Cond.methodLink RL 105 yL_refuses, Cond.static yL_refuses, Cond.code yL_refuses cL_refuses 15 (some .boolean), Cond.constant RL 79 (2147483647), Cond.constant RL 85 (1000000000), Cond.methodLink RL 80 yL_add, Cond.static yL_add]
def wsL_starts_r11 : List Cond := [Cond.codeWith yL_add cL_add 7 (some .int) [(0, 11, 12, 13), (0, 11, 17, 15)], Cond.methodLink RL 90 yL_lock, Cond.static yL_lock, Cond.codeWith yL_lock cL_lock 4 (some .int) [(0, 7, 8, 13), (0, 7, 12, 15)], Cond.methodLink RL 7 yX2_lock, Cond.instanceMethod yX2_lock, Cond.selects RX2 yX2_lock yX2_lock, Cond.code yX2_lock cX2_lock 3 none, Cond.methodLink RX2 129 yX2_highestCode, Cond.static yX2_highestCode, Cond.code yX2_highestCode cX2_highestCode 3 (some .int), Cond.instanceMethod yX0_close, Cond.selects RX0 yX0_close yX0_close, Cond.code yX0_close cX0_close 3 none, Cond.methodLink RX0 29 yX0_forgetDigits]
def wsL_starts : List Cond := .code yL_starts cL_starts 1 (some .boolean) :: ((wsL_starts_r1 ++ (wsL_starts_r2 ++ (wsL_starts_r3 ++ (wsL_starts_r4 ++ (wsL_starts_r5 ++ (wsL_starts_r6 ++ (wsL_starts_r7 ++ (wsL_starts_r8 ++ (wsL_starts_r9 ++ (wsL_starts_r10 ++ wsL_starts_r11)))))))))) ++ wsX20 ++ wsX00 ++ wsX10 ++ (vx_atS RX2 155 "java/lang/IndexOutOfBoundsException" ["java/lang/RuntimeException", "java/lang/Exception"]).filter goodWord ++ (vx_atS RX2 54 "java/lang/IllegalArgumentException" ["java/lang/RuntimeException", "java/lang/Exception"]).filter goodWord ++ (vx_atS RX2 67 "java/lang/IllegalStateException" ["java/lang/RuntimeException", "java/lang/Exception"]).filter goodWord ++ (vx_atS RX0 36 "java/lang/IllegalStateException" ["java/lang/RuntimeException", "java/lang/Exception"]).filter goodWord)
def wsL_locks_r1 : List Cond := [Cond.classLink RL 8 RX2, Cond.instantiable RX2 9, Cond.initialized RX2, Cond.constant RL 97 (1002003), Cond.constant RL 109 (409879), Cond.constant RL 104 (878307), Cond.constant RL 110 (878406), Cond.constant RL 111 (999999), Cond.methodLink RL 93 yX2_init, Cond.instanceMethod yX2_init, Cond.code yX2_init cX2_init 2 none, Cond.methodLink RX2 1 objectInit, Cond.instanceMethod objectInit, Cond.code objectInit ⟨#[0xb1]⟩ 1 none, Cond.classLink RX2 9 RX1, Cond.fieldLink RX2 11 "BootChooser" "rows" "[LBootChooser$Entry;", Cond.classLink RX2 15 RX0, Cond.instantiable RX0 5, Cond.initialized RX0, Cond.fieldLink RX2 18 "BootChooser" "codeLock" "LBootChooser$CodeLock;", Cond.fieldLink RX2 22 "BootChooser" "entriesEver" "I", Cond.fieldLink RX2 26 "BootChooser" "stayingChoice" "I", Cond.fieldLink RX2 29 "BootChooser" "onceChoice" "I", Cond.fieldLink RX2 32 "BootChooser" "patternFrom" "I"]
def wsL_locks_r2 : List Cond := [Cond.fieldLink RX2 35 "BootChooser" "patternTo" "I", Cond.fieldLink RX2 38 "BootChooser" "runningEntry" "I", Cond.fieldLink RX2 41 "BootChooser" "measured" "I", Cond.instantiable RX1 8, Cond.initialized RX1, Cond.instanceMethod yX0_init, Cond.code yX0_init cX0_init 1 none, Cond.methodLink RX0 3 objectInit, Cond.arrayClass .int, Cond.fieldLink RX0 9 "BootChooser$CodeLock" "digits" "[I", Cond.fieldLink RX0 15 "BootChooser$CodeLock" "isClosed" "Z", Cond.fieldLink RX0 19 "BootChooser$CodeLock" "codeValue" "I", Cond.fieldLink RX0 23 "BootChooser$CodeLock" "codeLength" "I", Cond.fieldLink RX0 26 "BootChooser$CodeLock" "entered" "I", Cond.instanceMethod yX1_init, Cond.code yX1_init cX1_init 1 none, Cond.methodLink RX1 3 objectInit, Cond.fieldLink RX1 9 "BootChooser$Entry" "isThere" "Z", Cond.fieldLink RX1 15 "BootChooser$Entry" "number" "I", Cond.fieldLink RX1 19 "BootChooser$Entry" "kind" "I", Cond.fieldLink RX1 22 "BootChooser$Entry" "name" "I", Cond.fieldLink RX1 25 "BootChooser$Entry" "version" "I", Cond.fieldLink RX1 28 "BootChooser$Entry" "mark" "I", Cond.fieldLink RX1 31 "BootChooser$Entry" "option" "I"]
def wsL_locks_r3 : List Cond := [Cond.fieldLink RX1 34 "BootChooser$Entry" "triesLeft" "I", Cond.methodLink RL 62 yX2_add, Cond.instanceMethod yX2_add, Cond.selects RX2 yX2_add yX2_add, Cond.code yX2_add cX2_add 7 (some .int), Cond.classLink RX2 50 "java/lang/IllegalArgumentException", Cond.initialized "java/lang/IllegalArgumentException", Cond.classLink RX2 63 "java/lang/IllegalStateException", Cond.initialized "java/lang/IllegalStateException", Cond.constant RX2 49 (999999999), Cond.methodLink RX2 45 yX2_isWithin, Cond.static yX2_isWithin, Cond.code yX2_isWithin cX2_isWithin 3 (some .boolean), Cond.methodLink RX2 59 yX2_freeRow, Cond.instanceMethod yX2_freeRow, Cond.selects RX2 yX2_freeRow yX2_freeRow, Cond.code yX2_freeRow cX2_freeRow 5 (some (.object "BootChooser$Entry")), Cond.instanceMethod yX1_fill, Cond.selects RX1 yX1_fill yX1_fill, Cond.code yX1_fill cX1_fill 7 none, Cond.methodLink RL 90 yL_lock, Cond.static yL_lock, Cond.initialized RL, Cond.codeWith yL_lock cL_lock 4 (some .int) [(0, 7, 8, 13), (0, 7, 12, 15)]]
def wsL_locks_r4 : List Cond := [Cond.classLink RL 13 "java/lang/IllegalArgumentException", Cond.classLink RL 15 "java/lang/IllegalStateException", Cond.methodLink RL 7 yX2_lock, Cond.instanceMethod yX2_lock, Cond.selects RX2 yX2_lock yX2_lock, Cond.code yX2_lock cX2_lock 3 none, Cond.methodLink RX2 129 yX2_highestCode, Cond.static yX2_highestCode, Cond.code yX2_highestCode cX2_highestCode 3 (some .int), Cond.methodLink RX2 89 yX2_refuseIfLocked, Cond.instanceMethod yX2_refuseIfLocked, Cond.selects RX2 yX2_refuseIfLocked yX2_refuseIfLocked, Cond.code yX2_refuseIfLocked cX2_refuseIfLocked 1 none, Cond.instanceMethod yX0_close, Cond.selects RX0 yX0_close yX0_close, Cond.code yX0_close cX0_close 3 none, Cond.methodLink RX0 29 yX0_forgetDigits, Cond.instanceMethod yX0_forgetDigits, Cond.selects RX0 yX0_forgetDigits yX0_forgetDigits, Cond.code yX0_forgetDigits cX0_forgetDigits 1 none, Cond.methodLink RL 75 yX2_isLocked, Cond.instanceMethod yX2_isLocked, Cond.selects RX2 yX2_isLocked yX2_isLocked, Cond.code yX2_isLocked cX2_isLocked 1 (some .boolean)]
def wsL_locks_r5 : List Cond := [Cond.methodLink RL 57 yX2_foretold, Cond.instanceMethod yX2_foretold, Cond.selects RX2 yX2_foretold yX2_foretold, Cond.code yX2_foretold cX2_foretold 2 (some .int), Cond.methodLink RX2 75 yX2_presentEntry, Cond.instanceMethod yX2_presentEntry, Cond.selects RX2 yX2_presentEntry yX2_presentEntry, Cond.code yX2_presentEntry cX2_presentEntry 3 (some (.object "BootChooser$Entry")), Cond.classLink RX2 151 "java/lang/IndexOutOfBoundsException", Cond.initialized "java/lang/IndexOutOfBoundsException", Cond.methodLink RX2 121 yX2_findEntry, Cond.instanceMethod yX2_findEntry, Cond.selects RX2 yX2_findEntry yX2_findEntry, Cond.code yX2_findEntry cX2_findEntry 6 (some (.object "BootChooser$Entry")), Cond.methodLink RX2 109 yX2_measure, Cond.instanceMethod yX2_measure, Cond.selects RX2 yX2_measure yX2_measure, Cond.code yX2_measure cX2_measure 3 (some .int), Cond.constant RX2 193 (1000000), Cond.methodLink RX2 183 yX2_step, Cond.static yX2_step, Cond.code yX2_step cX2_step 2 (some .int), Cond.constant RX2 197 (1000003), Cond.methodLink RL 105 yL_refuses]
def wsL_locks_r6 : List Cond := [Cond.static yL_refuses, Cond.code yL_refuses cL_refuses 15 (some .boolean), Cond.constant RL 79 (2147483647), Cond.constant RL 85 (1000000000), Cond.methodLink RL 66 yX2_entries, Cond.instanceMethod yX2_entries, Cond.selects RX2 yX2_entries yX2_entries, Cond.code yX2_entries cX2_entries 1 (some .int), Cond.methodLink RX2 83 yX2_countEntries, Cond.instanceMethod yX2_countEntries, Cond.selects RX2 yX2_countEntries yX2_countEntries, Cond.code yX2_countEntries cX2_countEntries 6 (some .int), Cond.methodLink RL 69 yX2_next, Cond.instanceMethod yX2_next, Cond.selects RX2 yX2_next yX2_next, Cond.code yX2_next cX2_next 2 (some .int), Cond.methodLink RX2 104 yX2_nextEntry, Cond.instanceMethod yX2_nextEntry, Cond.selects RX2 yX2_nextEntry yX2_nextEntry, Cond.code yX2_nextEntry cX2_nextEntry 4 (some (.object "BootChooser$Entry")), Cond.instanceMethod yX1_isBad, Cond.selects RX1 yX1_isBad yX1_isBad, Cond.code yX1_isBad cX1_isBad 1 (some .boolean), Cond.methodLink RX2 180 yX2_firstFittingNotBad]
def wsL_locks_r7 : List Cond := [Cond.instanceMethod yX2_firstFittingNotBad, Cond.selects RX2 yX2_firstFittingNotBad yX2_firstFittingNotBad, Cond.code yX2_firstFittingNotBad cX2_firstFittingNotBad 6 (some (.object "BootChooser$Entry")), Cond.methodLink RX2 166 yX2_isFitting, Cond.instanceMethod yX2_isFitting, Cond.selects RX2 yX2_isFitting yX2_isFitting, Cond.code yX2_isFitting cX2_isFitting 2 (some .boolean), Cond.instanceMethod yX1_isAheadOf, Cond.selects RX1 yX1_isAheadOf yX1_isAheadOf, Cond.code yX1_isAheadOf cX1_isAheadOf 3 (some .boolean), Cond.methodLink RX1 37 yX1_isBad, Cond.methodLink RX1 41 yX1_compareVersion, Cond.instanceMethod yX1_compareVersion, Cond.selects RX1 yX1_compareVersion yX1_compareVersion, Cond.code yX1_compareVersion cX1_compareVersion 2 (some .int), Cond.methodLink RX1 45 yJ6_compare_7cf53, Cond.static yJ6_compare_7cf53, Cond.initialized RJ6, Cond.code yJ6_compare_7cf53 cJ6_compare_7cf53 2 (some .int), Cond.methodLink RX2 148 yX2_entryWithPlace, Cond.instanceMethod yX2_entryWithPlace, Cond.selects RX2 yX2_entryWithPlace yX2_entryWithPlace, Cond.code yX2_entryWithPlace cX2_entryWithPlace 6 (some (.object "BootChooser$Entry")), Cond.methodLink RX2 156 yX2_countAhead]
def wsL_locks_r8 : List Cond := [Cond.instanceMethod yX2_countAhead, Cond.selects RX2 yX2_countAhead yX2_countAhead, Cond.code yX2_countAhead cX2_countAhead 7 (some .int), Cond.methodLink RL 72 yX2_register, Cond.instanceMethod yX2_register, Cond.selects RX2 yX2_register yX2_register, Cond.code yX2_register cX2_register 1 (some .int), Cond.methodLink RL 80 yL_add, Cond.static yL_add, Cond.codeWith yL_add cL_add 7 (some .int) [(0, 11, 12, 13), (0, 11, 17, 15)], Cond.methodLink RL 86 yL_act, Cond.static yL_act, Cond.codeWith yL_act cL_act 5 (some .int) [(0, 175, 176, 60), (0, 175, 181, 13), (0, 175, 186, 15)], Cond.classLink RL 60 "java/lang/IndexOutOfBoundsException", Cond.methodLink RL 17 yX2_remove, Cond.instanceMethod yX2_remove, Cond.selects RX2 yX2_remove yX2_remove, Cond.code yX2_remove cX2_remove 2 (some .int), Cond.methodLink RL 21 yX2_edit, Cond.instanceMethod yX2_edit, Cond.selects RX2 yX2_edit yX2_edit, Cond.code yX2_edit cX2_edit 5 (some .int), Cond.methodLink RL 25 yX2_choose, Cond.instanceMethod yX2_choose]
def wsL_locks_r9 : List Cond := [Cond.selects RX2 yX2_choose yX2_choose, Cond.code yX2_choose cX2_choose 3 (some .int), Cond.methodLink RX2 95 yX2_refuseAsChoice, Cond.instanceMethod yX2_refuseAsChoice, Cond.selects RX2 yX2_refuseAsChoice yX2_refuseAsChoice, Cond.code yX2_refuseAsChoice cX2_refuseAsChoice 2 none, Cond.methodLink RL 28 yX2_chooseOnce, Cond.instanceMethod yX2_chooseOnce, Cond.selects RX2 yX2_chooseOnce yX2_chooseOnce, Cond.code yX2_chooseOnce cX2_chooseOnce 3 (some .int), Cond.methodLink RL 31 yX2_setPattern, Cond.instanceMethod yX2_setPattern, Cond.selects RX2 yX2_setPattern yX2_setPattern, Cond.code yX2_setPattern cX2_setPattern 3 (some .int), Cond.methodLink RX2 101 yX2_countFitting, Cond.instanceMethod yX2_countFitting, Cond.selects RX2 yX2_countFitting yX2_countFitting, Cond.code yX2_countFitting cX2_countFitting 6 (some .int), Cond.methodLink RL 34 yX2_start, Cond.instanceMethod yX2_start, Cond.selects RX2 yX2_start yX2_start, Cond.code yX2_start cX2_start 2 (some .int), Cond.instanceMethod yX1_useTry, Cond.selects RX1 yX1_useTry yX1_useTry]
def wsL_locks_r10 : List Cond := [Cond.code yX1_useTry cX1_useTry 1 none, Cond.methodLink RL 38 yX2_good, Cond.instanceMethod yX2_good, Cond.selects RX2 yX2_good yX2_good, Cond.code yX2_good cX2_good 3 (some .int), Cond.methodLink RL 41 yX2_enter, Cond.instanceMethod yX2_enter, Cond.selects RX2 yX2_enter yX2_enter, Cond.code yX2_enter cX2_enter 2 (some .boolean), Cond.instanceMethod yX0_takeDigit, Cond.selects RX0 yX0_takeDigit yX0_takeDigit, Cond.code yX0_takeDigit cX0_takeDigit 2 (some .boolean), Cond.classLink RX0 32 "java/lang/IllegalStateException", Cond.methodLink RX0 39 yX0_endsInCode, Cond.instanceMethod yX0_endsInCode, Cond.selects RX0 yX0_endsInCode yX0_endsInCode, Cond.code yX0_endsInCode cX0_endsInCode 3 (some .boolean), Cond.methodLink RL 45 yX2_at, Cond.instanceMethod yX2_at, Cond.selects RX2 yX2_at yX2_at, Cond.code yX2_at cX2_at 3 (some .int), Cond.methodLink RL 48 yX2_placeOf, Cond.instanceMethod yX2_placeOf, Cond.selects RX2 yX2_placeOf yX2_placeOf]
def wsL_locks_r11 : List Cond := [Cond.code yX2_placeOf cX2_placeOf 2 (some .int), Cond.methodLink RL 51 yX2_tries, Cond.instanceMethod yX2_tries, Cond.selects RX2 yX2_tries yX2_tries, Cond.code yX2_tries cX2_tries 2 (some .int), Cond.methodLink RL 54 yX2_compare, Cond.instanceMethod yX2_compare, Cond.selects RX2 yX2_compare yX2_compare, Cond.code yX2_compare cX2_compare 5 (some .int)]
def wsL_locks : List Cond := .code yL_locks cL_locks 2 (some .boolean) :: ((wsL_locks_r1 ++ (wsL_locks_r2 ++ (wsL_locks_r3 ++ (wsL_locks_r4 ++ (wsL_locks_r5 ++ (wsL_locks_r6 ++ (wsL_locks_r7 ++ (wsL_locks_r8 ++ (wsL_locks_r9 ++ (wsL_locks_r10 ++ wsL_locks_r11)))))))))) ++ wsX20 ++ wsX00 ++ wsX10 ++ (vx_atS RX2 54 "java/lang/IllegalArgumentException" ["java/lang/RuntimeException", "java/lang/Exception"]).filter goodWord ++ (vx_atS RX2 67 "java/lang/IllegalStateException" ["java/lang/RuntimeException", "java/lang/Exception"]).filter goodWord ++ (vx_atS RX2 155 "java/lang/IndexOutOfBoundsException" ["java/lang/RuntimeException", "java/lang/Exception"]).filter goodWord ++ (vx_atS RX0 36 "java/lang/IllegalStateException" ["java/lang/RuntimeException", "java/lang/Exception"]).filter goodWord)
def wsL_law0_r1 : List Cond := [Cond.classLink RL 8 RX2, Cond.instantiable RX2 9, Cond.initialized RX2, Cond.constant RL 118 (1000000), Cond.constant RL 119 (999999999), Cond.methodLink RL 112 yL_starts, Cond.static yL_starts, Cond.initialized RL, Cond.code yL_starts cL_starts 1 (some .boolean), Cond.constant RL 97 (1002003), Cond.constant RL 98 (9000000), Cond.constant RL 99 (1010000), Cond.constant RL 104 (878307), Cond.methodLink RL 93 yX2_init, Cond.instanceMethod yX2_init, Cond.code yX2_init cX2_init 2 none, Cond.methodLink RX2 1 objectInit, Cond.instanceMethod objectInit, Cond.code objectInit ⟨#[0xb1]⟩ 1 none, Cond.classLink RX2 9 RX1, Cond.fieldLink RX2 11 "BootChooser" "rows" "[LBootChooser$Entry;", Cond.classLink RX2 15 RX0, Cond.instantiable RX0 5, Cond.initialized RX0]
def wsL_law0_r2 : List Cond := [Cond.fieldLink RX2 18 "BootChooser" "codeLock" "LBootChooser$CodeLock;", Cond.fieldLink RX2 22 "BootChooser" "entriesEver" "I", Cond.fieldLink RX2 26 "BootChooser" "stayingChoice" "I", Cond.fieldLink RX2 29 "BootChooser" "onceChoice" "I", Cond.fieldLink RX2 32 "BootChooser" "patternFrom" "I", Cond.fieldLink RX2 35 "BootChooser" "patternTo" "I", Cond.fieldLink RX2 38 "BootChooser" "runningEntry" "I", Cond.fieldLink RX2 41 "BootChooser" "measured" "I", Cond.instantiable RX1 8, Cond.initialized RX1, Cond.instanceMethod yX0_init, Cond.code yX0_init cX0_init 1 none, Cond.methodLink RX0 3 objectInit, Cond.arrayClass .int, Cond.fieldLink RX0 9 "BootChooser$CodeLock" "digits" "[I", Cond.fieldLink RX0 15 "BootChooser$CodeLock" "isClosed" "Z", Cond.fieldLink RX0 19 "BootChooser$CodeLock" "codeValue" "I", Cond.fieldLink RX0 23 "BootChooser$CodeLock" "codeLength" "I", Cond.fieldLink RX0 26 "BootChooser$CodeLock" "entered" "I", Cond.instanceMethod yX1_init, Cond.code yX1_init cX1_init 1 none, Cond.methodLink RX1 3 objectInit, Cond.fieldLink RX1 9 "BootChooser$Entry" "isThere" "Z", Cond.fieldLink RX1 15 "BootChooser$Entry" "number" "I"]
def wsL_law0_r3 : List Cond := [Cond.fieldLink RX1 19 "BootChooser$Entry" "kind" "I", Cond.fieldLink RX1 22 "BootChooser$Entry" "name" "I", Cond.fieldLink RX1 25 "BootChooser$Entry" "version" "I", Cond.fieldLink RX1 28 "BootChooser$Entry" "mark" "I", Cond.fieldLink RX1 31 "BootChooser$Entry" "option" "I", Cond.fieldLink RX1 34 "BootChooser$Entry" "triesLeft" "I", Cond.methodLink RL 66 yX2_entries, Cond.instanceMethod yX2_entries, Cond.selects RX2 yX2_entries yX2_entries, Cond.code yX2_entries cX2_entries 1 (some .int), Cond.methodLink RX2 83 yX2_countEntries, Cond.instanceMethod yX2_countEntries, Cond.selects RX2 yX2_countEntries yX2_countEntries, Cond.code yX2_countEntries cX2_countEntries 6 (some .int), Cond.methodLink RL 69 yX2_next, Cond.instanceMethod yX2_next, Cond.selects RX2 yX2_next yX2_next, Cond.code yX2_next cX2_next 2 (some .int), Cond.methodLink RX2 104 yX2_nextEntry, Cond.instanceMethod yX2_nextEntry, Cond.selects RX2 yX2_nextEntry yX2_nextEntry, Cond.code yX2_nextEntry cX2_nextEntry 4 (some (.object "BootChooser$Entry")), Cond.methodLink RX2 121 yX2_findEntry, Cond.instanceMethod yX2_findEntry]
def wsL_law0_r4 : List Cond := [Cond.selects RX2 yX2_findEntry yX2_findEntry, Cond.code yX2_findEntry cX2_findEntry 6 (some (.object "BootChooser$Entry")), Cond.instanceMethod yX1_isBad, Cond.selects RX1 yX1_isBad yX1_isBad, Cond.code yX1_isBad cX1_isBad 1 (some .boolean), Cond.methodLink RX2 180 yX2_firstFittingNotBad, Cond.instanceMethod yX2_firstFittingNotBad, Cond.selects RX2 yX2_firstFittingNotBad yX2_firstFittingNotBad, Cond.code yX2_firstFittingNotBad cX2_firstFittingNotBad 6 (some (.object "BootChooser$Entry")), Cond.methodLink RX2 166 yX2_isFitting, Cond.instanceMethod yX2_isFitting, Cond.selects RX2 yX2_isFitting yX2_isFitting, Cond.code yX2_isFitting cX2_isFitting 2 (some .boolean), Cond.methodLink RX2 45 yX2_isWithin, Cond.static yX2_isWithin, Cond.code yX2_isWithin cX2_isWithin 3 (some .boolean), Cond.instanceMethod yX1_isAheadOf, Cond.selects RX1 yX1_isAheadOf yX1_isAheadOf, Cond.code yX1_isAheadOf cX1_isAheadOf 3 (some .boolean), Cond.methodLink RX1 37 yX1_isBad, Cond.methodLink RX1 41 yX1_compareVersion, Cond.instanceMethod yX1_compareVersion, Cond.selects RX1 yX1_compareVersion yX1_compareVersion, Cond.code yX1_compareVersion cX1_compareVersion 2 (some .int)]
def wsL_law0_r5 : List Cond := [Cond.methodLink RX1 45 yJ6_compare_7cf53, Cond.static yJ6_compare_7cf53, Cond.initialized RJ6, Cond.code yJ6_compare_7cf53 cJ6_compare_7cf53 2 (some .int), Cond.methodLink RX2 148 yX2_entryWithPlace, Cond.instanceMethod yX2_entryWithPlace, Cond.selects RX2 yX2_entryWithPlace yX2_entryWithPlace, Cond.code yX2_entryWithPlace cX2_entryWithPlace 6 (some (.object "BootChooser$Entry")), Cond.methodLink RX2 156 yX2_countAhead, Cond.instanceMethod yX2_countAhead, Cond.selects RX2 yX2_countAhead yX2_countAhead, Cond.code yX2_countAhead cX2_countAhead 7 (some .int), Cond.methodLink RL 94 yX2_running, Cond.instanceMethod yX2_running, Cond.selects RX2 yX2_running yX2_running, Cond.code yX2_running cX2_running 1 (some .int), Cond.methodLink RL 72 yX2_register, Cond.instanceMethod yX2_register, Cond.selects RX2 yX2_register yX2_register, Cond.code yX2_register cX2_register 1 (some .int), Cond.methodLink RL 75 yX2_isLocked, Cond.instanceMethod yX2_isLocked, Cond.selects RX2 yX2_isLocked yX2_isLocked, Cond.code yX2_isLocked cX2_isLocked 1 (some .boolean)]
def wsL_law0_r6 : List Cond := [Cond.methodLink RL 86 yL_act, Cond.static yL_act, Cond.codeWith yL_act cL_act 5 (some .int) [(0, 175, 176, 60), (0, 175, 181, 13), (0, 175, 186, 15)], Cond.classLink RL 60 "java/lang/IndexOutOfBoundsException", Cond.classLink RL 13 "java/lang/IllegalArgumentException", Cond.classLink RL 15 "java/lang/IllegalStateException", Cond.methodLink RL 17 yX2_remove, Cond.instanceMethod yX2_remove, Cond.selects RX2 yX2_remove yX2_remove, Cond.code yX2_remove cX2_remove 2 (some .int), Cond.methodLink RX2 75 yX2_presentEntry, Cond.instanceMethod yX2_presentEntry, Cond.selects RX2 yX2_presentEntry yX2_presentEntry, Cond.code yX2_presentEntry cX2_presentEntry 3 (some (.object "BootChooser$Entry")), Cond.classLink RX2 151 "java/lang/IndexOutOfBoundsException", Cond.initialized "java/lang/IndexOutOfBoundsException", Cond.methodLink RL 21 yX2_edit, Cond.instanceMethod yX2_edit, Cond.selects RX2 yX2_edit yX2_edit, Cond.code yX2_edit cX2_edit 5 (some .int), Cond.classLink RX2 50 "java/lang/IllegalArgumentException", Cond.initialized "java/lang/IllegalArgumentException", Cond.methodLink RX2 89 yX2_refuseIfLocked, Cond.instanceMethod yX2_refuseIfLocked]
def wsL_law0_r7 : List Cond := [Cond.selects RX2 yX2_refuseIfLocked yX2_refuseIfLocked, Cond.code yX2_refuseIfLocked cX2_refuseIfLocked 1 none, Cond.classLink RX2 63 "java/lang/IllegalStateException", Cond.initialized "java/lang/IllegalStateException", Cond.methodLink RL 25 yX2_choose, Cond.instanceMethod yX2_choose, Cond.selects RX2 yX2_choose yX2_choose, Cond.code yX2_choose cX2_choose 3 (some .int), Cond.methodLink RX2 95 yX2_refuseAsChoice, Cond.instanceMethod yX2_refuseAsChoice, Cond.selects RX2 yX2_refuseAsChoice yX2_refuseAsChoice, Cond.code yX2_refuseAsChoice cX2_refuseAsChoice 2 none, Cond.methodLink RL 28 yX2_chooseOnce, Cond.instanceMethod yX2_chooseOnce, Cond.selects RX2 yX2_chooseOnce yX2_chooseOnce, Cond.code yX2_chooseOnce cX2_chooseOnce 3 (some .int), Cond.methodLink RL 31 yX2_setPattern, Cond.instanceMethod yX2_setPattern, Cond.selects RX2 yX2_setPattern yX2_setPattern, Cond.code yX2_setPattern cX2_setPattern 3 (some .int), Cond.methodLink RX2 101 yX2_countFitting, Cond.instanceMethod yX2_countFitting, Cond.selects RX2 yX2_countFitting yX2_countFitting, Cond.code yX2_countFitting cX2_countFitting 6 (some .int)]
def wsL_law0_r8 : List Cond := [Cond.methodLink RL 34 yX2_start, Cond.instanceMethod yX2_start, Cond.selects RX2 yX2_start yX2_start, Cond.code yX2_start cX2_start 2 (some .int), Cond.methodLink RX2 109 yX2_measure, Cond.instanceMethod yX2_measure, Cond.selects RX2 yX2_measure yX2_measure, Cond.code yX2_measure cX2_measure 3 (some .int), Cond.constant RX2 193 (1000000), Cond.methodLink RX2 183 yX2_step, Cond.static yX2_step, Cond.code yX2_step cX2_step 2 (some .int), Cond.constant RX2 197 (1000003), Cond.instanceMethod yX1_useTry, Cond.selects RX1 yX1_useTry yX1_useTry, Cond.code yX1_useTry cX1_useTry 1 none, Cond.instanceMethod yX0_forgetDigits, Cond.selects RX0 yX0_forgetDigits yX0_forgetDigits, Cond.code yX0_forgetDigits cX0_forgetDigits 1 none, Cond.methodLink RL 38 yX2_good, Cond.instanceMethod yX2_good, Cond.selects RX2 yX2_good yX2_good, Cond.code yX2_good cX2_good 3 (some .int), Cond.methodLink RL 41 yX2_enter]
def wsL_law0_r9 : List Cond := [Cond.instanceMethod yX2_enter, Cond.selects RX2 yX2_enter yX2_enter, Cond.code yX2_enter cX2_enter 2 (some .boolean), Cond.instanceMethod yX0_takeDigit, Cond.selects RX0 yX0_takeDigit yX0_takeDigit, Cond.code yX0_takeDigit cX0_takeDigit 2 (some .boolean), Cond.classLink RX0 32 "java/lang/IllegalStateException", Cond.methodLink RX0 39 yX0_endsInCode, Cond.instanceMethod yX0_endsInCode, Cond.selects RX0 yX0_endsInCode yX0_endsInCode, Cond.code yX0_endsInCode cX0_endsInCode 3 (some .boolean), Cond.methodLink RL 45 yX2_at, Cond.instanceMethod yX2_at, Cond.selects RX2 yX2_at yX2_at, Cond.code yX2_at cX2_at 3 (some .int), Cond.methodLink RL 48 yX2_placeOf, Cond.instanceMethod yX2_placeOf, Cond.selects RX2 yX2_placeOf yX2_placeOf, Cond.code yX2_placeOf cX2_placeOf 2 (some .int), Cond.methodLink RL 51 yX2_tries, Cond.instanceMethod yX2_tries, Cond.selects RX2 yX2_tries yX2_tries, Cond.code yX2_tries cX2_tries 2 (some .int), Cond.methodLink RL 54 yX2_compare]
def wsL_law0_r10 : List Cond := [Cond.instanceMethod yX2_compare, Cond.selects RX2 yX2_compare yX2_compare, Cond.code yX2_compare cX2_compare 5 (some .int), Cond.methodLink RL 57 yX2_foretold, Cond.instanceMethod yX2_foretold, Cond.selects RX2 yX2_foretold yX2_foretold, Cond.code yX2_foretold cX2_foretold 2 (some .int), Cond.methodLink RL 62 yX2_add, Cond.instanceMethod yX2_add, Cond.selects RX2 yX2_add yX2_add, Cond.code yX2_add cX2_add 7 (some .int), Cond.constant RX2 49 (999999999), Cond.methodLink RX2 59 yX2_freeRow, Cond.instanceMethod yX2_freeRow, Cond.selects RX2 yX2_freeRow yX2_freeRow, Cond.code yX2_freeRow cX2_freeRow 5 (some (.object "BootChooser$Entry")), Cond.instanceMethod yX1_fill, Cond.selects RX1 yX1_fill yX1_fill, Cond.code yX1_fill cX1_fill 7 none, Cond.methodLink RL 100 yL_order, Cond.static yL_order, Cond.code yL_order cL_order 5 (some .boolean), Cond.methodLink RL 105 yL_refuses, Cond.static yL_refuses]
def wsL_law0_r11 : List Cond := [Cond.code yL_refuses cL_refuses 15 (some .boolean), Cond.constant RL 79 (2147483647), Cond.constant RL 85 (1000000000), Cond.methodLink RL 80 yL_add, Cond.static yL_add, Cond.codeWith yL_add cL_add 7 (some .int) [(0, 11, 12, 13), (0, 11, 17, 15)], Cond.methodLink RL 90 yL_lock, Cond.static yL_lock, Cond.codeWith yL_lock cL_lock 4 (some .int) [(0, 7, 8, 13), (0, 7, 12, 15)], Cond.methodLink RL 7 yX2_lock, Cond.instanceMethod yX2_lock, Cond.selects RX2 yX2_lock yX2_lock, Cond.code yX2_lock cX2_lock 3 none, Cond.methodLink RX2 129 yX2_highestCode, Cond.static yX2_highestCode, Cond.code yX2_highestCode cX2_highestCode 3 (some .int), Cond.instanceMethod yX0_close, Cond.selects RX0 yX0_close yX0_close, Cond.code yX0_close cX0_close 3 none, Cond.methodLink RX0 29 yX0_forgetDigits, Cond.methodLink RL 115 yL_locks, Cond.static yL_locks, Cond.code yL_locks cL_locks 2 (some .boolean), Cond.constant RL 109 (409879)]
def wsL_law0_r12 : List Cond := [Cond.constant RL 110 (878406), Cond.constant RL 111 (999999)]
def wsL_law0 : List Cond := (wsL_law0_r1 ++ (wsL_law0_r2 ++ (wsL_law0_r3 ++ (wsL_law0_r4 ++ (wsL_law0_r5 ++ (wsL_law0_r6 ++ (wsL_law0_r7 ++ (wsL_law0_r8 ++ (wsL_law0_r9 ++ (wsL_law0_r10 ++ (wsL_law0_r11 ++ wsL_law0_r12))))))))))) ++ wsX20 ++ wsX00 ++ wsX10 ++ ([] : List Cond)
def wsL_law : List Cond := wsL_law0 ++ (vx_atS RX2 155 "java/lang/IndexOutOfBoundsException" ["java/lang/RuntimeException", "java/lang/Exception"]).filter goodWord ++ (vx_atS RX2 54 "java/lang/IllegalArgumentException" ["java/lang/RuntimeException", "java/lang/Exception"]).filter goodWord ++ (vx_atS RX2 67 "java/lang/IllegalStateException" ["java/lang/RuntimeException", "java/lang/Exception"]).filter goodWord ++ (vx_atS RX0 36 "java/lang/IllegalStateException" ["java/lang/RuntimeException", "java/lang/Exception"]).filter goodWord
abbrev vwCl : List vw_C := [(RX0, TX0, 5), (RX1, TX1, 8), (RX2, TX2, 9)]
end
section
set_option maxRecDepth 200000 in
theorem wsL_in_r1 : ∀ w ∈ wsL_law0_r1, w ∈ lw_tbl := fun w h => (goodIn_p wsL_law0_r1 [448, 38, 41] rfl (by decide +kernel) w h).1
set_option maxRecDepth 20000 in
theorem wsL_in_r2 : ∀ w ∈ wsL_law0_r2, w ∈ lw_tbl := fun w h => (goodIn_p wsL_law0_r2 [48, 71] (by decide +kernel) (by decide +kernel) w h).1
set_option maxRecDepth 20000 in
theorem wsL_in_r3 : ∀ w ∈ wsL_law0_r3, w ∈ lw_tbl := fun w h => (goodIn_p wsL_law0_r3 [270, 266, 318, 322] (by decide +kernel) (by decide +kernel) w h).1
set_option maxRecDepth 20000 in
theorem wsL_in_r4 : ∀ w ∈ wsL_law0_r4, w ∈ lw_tbl := fun w h => (goodIn_p wsL_law0_r4 [246, 290, 327, 331, 140, 286, 294] (by decide +kernel) (by decide +kernel) w h).1
set_option maxRecDepth 20000 in
theorem wsL_in_r5 : ∀ w ∈ wsL_law0_r5, w ∈ lw_tbl := fun w h => (goodIn_p wsL_law0_r5 [297, 278, 282, 452, 335, 339] (by decide +kernel) (by decide +kernel) w h).1
set_option maxRecDepth 20000 in
theorem wsL_in_r6 : ∀ w ∈ wsL_law0_r6, w ∈ lw_tbl := fun w h => (goodIn_p wsL_law0_r6 [238, 242, 349] (by decide +kernel) (by decide +kernel) w h).1
set_option maxRecDepth 20000 in
theorem wsL_in_r7 : ∀ w ∈ wsL_law0_r7, w ∈ lw_tbl := fun w h => (goodIn_p wsL_law0_r7 [354, 359, 363, 367, 371, 376] (by decide +kernel) (by decide +kernel) w h).1
set_option maxRecDepth 20000 in
theorem wsL_in_r8 : ∀ w ∈ wsL_law0_r8, w ∈ lw_tbl := fun w h => (goodIn_p wsL_law0_r8 [380, 385, 388, 394, 398, 402] (by decide +kernel) (by decide +kernel) w h).1
set_option maxRecDepth 20000 in
theorem wsL_in_r9 : ∀ w ∈ wsL_law0_r9, w ∈ lw_tbl := fun w h => (goodIn_p wsL_law0_r9 [407, 412, 419, 274, 302, 306] (by decide +kernel) (by decide +kernel) w h).1
set_option maxRecDepth 20000 in
theorem wsL_in_r10 : ∀ w ∈ wsL_law0_r10, w ∈ lw_tbl := fun w h => (goodIn_p wsL_law0_r10 [423, 428, 137, 214, 234, 458] (by decide +kernel) (by decide +kernel) w h).1
set_option maxRecDepth 200000 in
theorem wsL_in_r11 : ∀ w ∈ wsL_law0_r11, w ∈ lw_tbl := fun w h => (goodIn_p wsL_law0_r11 [314, 435, 439, 444, 462] rfl (by decide +kernel) w h).1
set_option maxRecDepth 20000 in
theorem wsL_in_r12 : ∀ w ∈ wsL_law0_r12, w ∈ lw_tbl := fun w h => (goodIn_p wsL_law0_r12 [] (by decide +kernel) (by decide +kernel) w h).1
theorem wsL_in_X2 : ∀ w ∈ wsX20, w ∈ lw_tbl := by decide +kernel
theorem wsL_in_X0 : ∀ w ∈ wsX00, w ∈ lw_tbl := by decide +kernel
theorem wsL_in_X1 : ∀ w ∈ wsX10, w ∈ lw_tbl := by decide +kernel
set_option maxRecDepth 20000 in
theorem wsL_law_in0 : ∀ w ∈ wsL_law0, w ∈ lw_tbl := fun w h => (List.mem_append.mp h).elim (fun h => (List.mem_append.mp h).elim (fun h => (List.mem_append.mp h).elim (fun h => (List.mem_append.mp h).elim (fun h => (List.mem_append.mp h).elim (fun h => wsL_in_r1 w h) (fun h => (List.mem_append.mp h).elim (fun h => wsL_in_r2 w h) (fun h => (List.mem_append.mp h).elim (fun h => wsL_in_r3 w h) (fun h => (List.mem_append.mp h).elim (fun h => wsL_in_r4 w h) (fun h => (List.mem_append.mp h).elim (fun h => wsL_in_r5 w h) (fun h => (List.mem_append.mp h).elim (fun h => wsL_in_r6 w h) (fun h => (List.mem_append.mp h).elim (fun h => wsL_in_r7 w h) (fun h => (List.mem_append.mp h).elim (fun h => wsL_in_r8 w h) (fun h => (List.mem_append.mp h).elim (fun h => wsL_in_r9 w h) (fun h => (List.mem_append.mp h).elim (fun h => wsL_in_r10 w h) (fun h => (List.mem_append.mp h).elim (fun h => wsL_in_r11 w h) (fun h => wsL_in_r12 w h)))))))))))) (fun h => wsL_in_X2 w h)) (fun h => wsL_in_X0 w h)) (fun h => wsL_in_X1 w h)) (fun h => absurd h List.not_mem_nil)
theorem wsL_law_x0 : ∀ w ∈ (vx_atS RX2 155 "java/lang/IndexOutOfBoundsException" ["java/lang/RuntimeException", "java/lang/Exception"]).filter goodWord, w ∈ lw_tbl := by decide +kernel
theorem wsL_law_x1 : ∀ w ∈ (vx_atS RX2 54 "java/lang/IllegalArgumentException" ["java/lang/RuntimeException", "java/lang/Exception"]).filter goodWord, w ∈ lw_tbl := by decide +kernel
theorem wsL_law_x2 : ∀ w ∈ (vx_atS RX2 67 "java/lang/IllegalStateException" ["java/lang/RuntimeException", "java/lang/Exception"]).filter goodWord, w ∈ lw_tbl := by decide +kernel
theorem wsL_law_x3 : ∀ w ∈ (vx_atS RX0 36 "java/lang/IllegalStateException" ["java/lang/RuntimeException", "java/lang/Exception"]).filter goodWord, w ∈ lw_tbl := by decide +kernel
theorem wsL_law_in : ∀ w ∈ wsL_law, w ∈ lw_tbl := fun w h => (List.mem_append.mp h).elim (fun h => (List.mem_append.mp h).elim (fun h => (List.mem_append.mp h).elim (fun h => (List.mem_append.mp h).elim (fun h => wsL_law_in0 w h) (fun h => wsL_law_x0 w h)) (fun h => wsL_law_x1 w h)) (fun h => wsL_law_x2 w h)) (fun h => wsL_law_x3 w h)
theorem inlX0 : ∀ w ∈ wsX00, w ∈ wsL_law := fun _ h => List.mem_append_left _ (List.mem_append_left _ (List.mem_append_left _ (List.mem_append_left _ (List.mem_append_left _ (List.mem_append_left _ (List.mem_append_right _ h))))))
theorem inX0 : ∀ w ∈ wsX00, w ∈ lw_tbl := fun w h => wsL_law_in w (inlX0 w h)
theorem inlX1 : ∀ w ∈ wsX10, w ∈ wsL_law := fun _ h => List.mem_append_left _ (List.mem_append_left _ (List.mem_append_left _ (List.mem_append_left _ (List.mem_append_left _ (List.mem_append_right _ h)))))
theorem inX1 : ∀ w ∈ wsX10, w ∈ lw_tbl := fun w h => wsL_law_in w (inlX1 w h)
theorem inlX2 : ∀ w ∈ wsX20, w ∈ wsL_law := fun _ h => List.mem_append_left _ (List.mem_append_left _ (List.mem_append_left _ (List.mem_append_left _ (List.mem_append_left _ (List.mem_append_left _ (List.mem_append_left _ (List.mem_append_right _ h)))))))
theorem inX2 : ∀ w ∈ wsX20, w ∈ lw_tbl := fun w h => wsL_law_in w (inlX2 w h)
theorem inX3 : ∀ w ∈ wsX30, w ∈ lw_tbl := by decide +kernel
theorem inJ6 : ∀ w ∈ wsJ60, w ∈ lw_tbl := by decide +kernel
theorem inJ0 : ∀ w ∈ wsJ00, w ∈ lw_tbl := by decide +kernel
end
section
theorem dX0_init_0 : decode cX0_init 0 = .ok (.aload_n 0, 1) := by decide +kernel
theorem dX0_init_1 : decode cX0_init 1 = .ok (.invokespecial 3, 3) := by decide +kernel
theorem dX0_init_4 : decode cX0_init 4 = .ok (.aload_n 0, 1) := by decide +kernel
theorem dX0_init_5 : decode cX0_init 5 = .ok (.bipush 12, 2) := by decide +kernel
theorem dX0_init_7 : decode cX0_init 7 = .ok (.newarray .int, 2) := by decide +kernel
theorem dX0_init_9 : decode cX0_init 9 = .ok (.putfield 9, 3) := by decide +kernel
theorem dX0_init_12 : decode cX0_init 12 = .ok (.aload_n 0, 1) := by decide +kernel
theorem dX0_init_13 : decode cX0_init 13 = .ok (.iconst 0, 1) := by decide +kernel
theorem dX0_init_14 : decode cX0_init 14 = .ok (.putfield 15, 3) := by decide +kernel
theorem dX0_init_17 : decode cX0_init 17 = .ok (.aload_n 0, 1) := by decide +kernel
theorem dX0_init_18 : decode cX0_init 18 = .ok (.iconst 0, 1) := by decide +kernel
theorem dX0_init_19 : decode cX0_init 19 = .ok (.putfield 19, 3) := by decide +kernel
theorem dX0_init_22 : decode cX0_init 22 = .ok (.aload_n 0, 1) := by decide +kernel
theorem dX0_init_23 : decode cX0_init 23 = .ok (.iconst 1, 1) := by decide +kernel
theorem dX0_init_24 : decode cX0_init 24 = .ok (.putfield 23, 3) := by decide +kernel
theorem dX0_init_27 : decode cX0_init 27 = .ok (.aload_n 0, 1) := by decide +kernel
theorem dX0_init_28 : decode cX0_init 28 = .ok (.iconst 0, 1) := by decide +kernel
theorem dX0_init_29 : decode cX0_init 29 = .ok (.putfield 26, 3) := by decide +kernel
theorem dX0_init_32 : decode cX0_init 32 = .ok (.return_, 1) := by decide +kernel
set_option maxRecDepth 20000 in
theorem ggX0_close_X0_forgetDigits : GoodIn wsX0_close wsX0_forgetDigits := goodIn_r _ [8, 9, 10, 11, 12, 13, 14] (by decide +kernel) (by decide +kernel)
set_option maxRecDepth 20000 in
theorem gX0_close_X0_forgetDigits : GoodIn wsX0_close (wsV RX0 29 RX0 yX0_forgetDigits wsX0_forgetDigits) := goodIn_app (goodIn_of _ (by decide +kernel)) ggX0_close_X0_forgetDigits
theorem dX0_close_0 : decode cX0_close 0 = .ok (.aload_n 0, 1) := by decide +kernel
theorem dX0_close_1 : decode cX0_close 1 = .ok (.iconst 1, 1) := by decide +kernel
theorem dX0_close_2 : decode cX0_close 2 = .ok (.putfield 15, 3) := by decide +kernel
theorem dX0_close_5 : decode cX0_close 5 = .ok (.aload_n 0, 1) := by decide +kernel
theorem dX0_close_6 : decode cX0_close 6 = .ok (.iload_n 1, 1) := by decide +kernel
theorem dX0_close_7 : decode cX0_close 7 = .ok (.putfield 19, 3) := by decide +kernel
theorem dX0_close_10 : decode cX0_close 10 = .ok (.aload_n 0, 1) := by decide +kernel
theorem dX0_close_11 : decode cX0_close 11 = .ok (.iload_n 2, 1) := by decide +kernel
theorem dX0_close_12 : decode cX0_close 12 = .ok (.putfield 23, 3) := by decide +kernel
theorem dX0_close_15 : decode cX0_close 15 = .ok (.aload_n 0, 1) := by decide +kernel
theorem dX0_close_16 : decode cX0_close 16 = .ok (.invokevirtual 29, 3) := by decide +kernel
theorem dX0_close_19 : decode cX0_close 19 = .ok (.return_, 1) := by decide +kernel
theorem dX0_forgetDigits_0 : decode cX0_forgetDigits 0 = .ok (.aload_n 0, 1) := by decide +kernel
theorem dX0_forgetDigits_1 : decode cX0_forgetDigits 1 = .ok (.iconst 0, 1) := by decide +kernel
theorem dX0_forgetDigits_2 : decode cX0_forgetDigits 2 = .ok (.putfield 26, 3) := by decide +kernel
theorem dX0_forgetDigits_5 : decode cX0_forgetDigits 5 = .ok (.return_, 1) := by decide +kernel
set_option maxRecDepth 20000 in
theorem ggX0_takeDigit_X0_endsInCode : GoodIn wsX0_takeDigit wsX0_endsInCode := goodIn_r _ [10, 4, 11, 5, 12, 13, 14, 15, 16, 17] (by decide +kernel) (by decide +kernel)
set_option maxRecDepth 20000 in
theorem gX0_takeDigit_X0_endsInCode : GoodIn wsX0_takeDigit (wsV RX0 39 RX0 yX0_endsInCode wsX0_endsInCode) := goodIn_app (goodIn_of _ (by decide +kernel)) ggX0_takeDigit_X0_endsInCode
theorem dX0_takeDigit_0 : decode cX0_takeDigit 0 = .ok (.aload_n 0, 1) := by decide +kernel
theorem dX0_takeDigit_1 : decode cX0_takeDigit 1 = .ok (.getfield 15, 3) := by decide +kernel
theorem dX0_takeDigit_4 : decode cX0_takeDigit 4 = .ok (.ifCond .eq 15, 3) := by decide +kernel
theorem dX0_takeDigit_7 : decode cX0_takeDigit 7 = .ok (.aload_n 0, 1) := by decide +kernel
theorem dX0_takeDigit_8 : decode cX0_takeDigit 8 = .ok (.getfield 26, 3) := by decide +kernel
theorem dX0_takeDigit_11 : decode cX0_takeDigit 11 = .ok (.aload_n 0, 1) := by decide +kernel
theorem dX0_takeDigit_12 : decode cX0_takeDigit 12 = .ok (.getfield 9, 3) := by decide +kernel
theorem dX0_takeDigit_15 : decode cX0_takeDigit 15 = .ok (.arraylength, 1) := by decide +kernel
theorem dX0_takeDigit_16 : decode cX0_takeDigit 16 = .ok (.if_icmp .lt 13, 3) := by decide +kernel
theorem dX0_takeDigit_19 : decode cX0_takeDigit 19 = .ok (.new 32, 3) := by decide +kernel
theorem dX0_takeDigit_22 : decode cX0_takeDigit 22 = .ok (.dup, 1) := by decide +kernel
theorem dX0_takeDigit_23 : decode cX0_takeDigit 23 = .ok (.ldc 34, 2) := by decide +kernel
theorem dX0_takeDigit_25 : decode cX0_takeDigit 25 = .ok (.invokespecial 36, 3) := by decide +kernel
theorem dX0_takeDigit_28 : decode cX0_takeDigit 28 = .ok (.athrow, 1) := by decide +kernel
theorem dX0_takeDigit_29 : decode cX0_takeDigit 29 = .ok (.aload_n 0, 1) := by decide +kernel
theorem dX0_takeDigit_30 : decode cX0_takeDigit 30 = .ok (.getfield 9, 3) := by decide +kernel
theorem dX0_takeDigit_33 : decode cX0_takeDigit 33 = .ok (.aload_n 0, 1) := by decide +kernel
theorem dX0_takeDigit_34 : decode cX0_takeDigit 34 = .ok (.getfield 26, 3) := by decide +kernel
theorem dX0_takeDigit_37 : decode cX0_takeDigit 37 = .ok (.iload_n 1, 1) := by decide +kernel
theorem dX0_takeDigit_38 : decode cX0_takeDigit 38 = .ok (.iastore, 1) := by decide +kernel
theorem dX0_takeDigit_39 : decode cX0_takeDigit 39 = .ok (.aload_n 0, 1) := by decide +kernel
theorem dX0_takeDigit_40 : decode cX0_takeDigit 40 = .ok (.dup, 1) := by decide +kernel
theorem dX0_takeDigit_41 : decode cX0_takeDigit 41 = .ok (.getfield 26, 3) := by decide +kernel
theorem dX0_takeDigit_44 : decode cX0_takeDigit 44 = .ok (.iconst 1, 1) := by decide +kernel
theorem dX0_takeDigit_45 : decode cX0_takeDigit 45 = .ok (.iadd, 1) := by decide +kernel
theorem dX0_takeDigit_46 : decode cX0_takeDigit 46 = .ok (.putfield 26, 3) := by decide +kernel
theorem dX0_takeDigit_49 : decode cX0_takeDigit 49 = .ok (.aload_n 0, 1) := by decide +kernel
theorem dX0_takeDigit_50 : decode cX0_takeDigit 50 = .ok (.aload_n 0, 1) := by decide +kernel
theorem dX0_takeDigit_51 : decode cX0_takeDigit 51 = .ok (.invokevirtual 39, 3) := by decide +kernel
theorem dX0_takeDigit_54 : decode cX0_takeDigit 54 = .ok (.ifCond .ne 7, 3) := by decide +kernel
theorem dX0_takeDigit_57 : decode cX0_takeDigit 57 = .ok (.iconst 1, 1) := by decide +kernel
theorem dX0_takeDigit_58 : decode cX0_takeDigit 58 = .ok (.goto 4, 3) := by decide +kernel
theorem dX0_takeDigit_61 : decode cX0_takeDigit 61 = .ok (.iconst 0, 1) := by decide +kernel
theorem dX0_takeDigit_62 : decode cX0_takeDigit 62 = .ok (.putfield 15, 3) := by decide +kernel
theorem dX0_takeDigit_65 : decode cX0_takeDigit 65 = .ok (.aload_n 0, 1) := by decide +kernel
theorem dX0_takeDigit_66 : decode cX0_takeDigit 66 = .ok (.getfield 15, 3) := by decide +kernel
theorem dX0_takeDigit_69 : decode cX0_takeDigit 69 = .ok (.ifCond .ne 7, 3) := by decide +kernel
theorem dX0_takeDigit_72 : decode cX0_takeDigit 72 = .ok (.iconst 1, 1) := by decide +kernel
theorem dX0_takeDigit_73 : decode cX0_takeDigit 73 = .ok (.goto 4, 3) := by decide +kernel
theorem dX0_takeDigit_76 : decode cX0_takeDigit 76 = .ok (.iconst 0, 1) := by decide +kernel
theorem dX0_takeDigit_77 : decode cX0_takeDigit 77 = .ok (.ireturn, 1) := by decide +kernel
theorem dX0_endsInCode_0 : decode cX0_endsInCode 0 = .ok (.aload_n 0, 1) := by decide +kernel
theorem dX0_endsInCode_1 : decode cX0_endsInCode 1 = .ok (.getfield 26, 3) := by decide +kernel
theorem dX0_endsInCode_4 : decode cX0_endsInCode 4 = .ok (.aload_n 0, 1) := by decide +kernel
theorem dX0_endsInCode_5 : decode cX0_endsInCode 5 = .ok (.getfield 23, 3) := by decide +kernel
theorem dX0_endsInCode_8 : decode cX0_endsInCode 8 = .ok (.if_icmp .ge 5, 3) := by decide +kernel
theorem dX0_endsInCode_11 : decode cX0_endsInCode 11 = .ok (.iconst 0, 1) := by decide +kernel
theorem dX0_endsInCode_12 : decode cX0_endsInCode 12 = .ok (.ireturn, 1) := by decide +kernel
theorem dX0_endsInCode_13 : decode cX0_endsInCode 13 = .ok (.iconst 0, 1) := by decide +kernel
theorem dX0_endsInCode_14 : decode cX0_endsInCode 14 = .ok (.istore_n 1, 1) := by decide +kernel
theorem dX0_endsInCode_15 : decode cX0_endsInCode 15 = .ok (.aload_n 0, 1) := by decide +kernel
theorem dX0_endsInCode_16 : decode cX0_endsInCode 16 = .ok (.getfield 26, 3) := by decide +kernel
theorem dX0_endsInCode_19 : decode cX0_endsInCode 19 = .ok (.aload_n 0, 1) := by decide +kernel
theorem dX0_endsInCode_20 : decode cX0_endsInCode 20 = .ok (.getfield 23, 3) := by decide +kernel
theorem dX0_endsInCode_23 : decode cX0_endsInCode 23 = .ok (.isub, 1) := by decide +kernel
theorem dX0_endsInCode_24 : decode cX0_endsInCode 24 = .ok (.istore_n 2, 1) := by decide +kernel
theorem dX0_endsInCode_25 : decode cX0_endsInCode 25 = .ok (.iload_n 2, 1) := by decide +kernel
theorem dX0_endsInCode_26 : decode cX0_endsInCode 26 = .ok (.aload_n 0, 1) := by decide +kernel
theorem dX0_endsInCode_27 : decode cX0_endsInCode 27 = .ok (.getfield 26, 3) := by decide +kernel
theorem dX0_endsInCode_30 : decode cX0_endsInCode 30 = .ok (.if_icmp .ge 21, 3) := by decide +kernel
theorem dX0_endsInCode_33 : decode cX0_endsInCode 33 = .ok (.iload_n 1, 1) := by decide +kernel
theorem dX0_endsInCode_34 : decode cX0_endsInCode 34 = .ok (.bipush 10, 2) := by decide +kernel
theorem dX0_endsInCode_36 : decode cX0_endsInCode 36 = .ok (.imul, 1) := by decide +kernel
theorem dX0_endsInCode_37 : decode cX0_endsInCode 37 = .ok (.aload_n 0, 1) := by decide +kernel
theorem dX0_endsInCode_38 : decode cX0_endsInCode 38 = .ok (.getfield 9, 3) := by decide +kernel
theorem dX0_endsInCode_41 : decode cX0_endsInCode 41 = .ok (.iload_n 2, 1) := by decide +kernel
theorem dX0_endsInCode_42 : decode cX0_endsInCode 42 = .ok (.iaload, 1) := by decide +kernel
theorem dX0_endsInCode_43 : decode cX0_endsInCode 43 = .ok (.iadd, 1) := by decide +kernel
theorem dX0_endsInCode_44 : decode cX0_endsInCode 44 = .ok (.istore_n 1, 1) := by decide +kernel
theorem dX0_endsInCode_45 : decode cX0_endsInCode 45 = .ok (.iinc 2 1, 3) := by decide +kernel
theorem dX0_endsInCode_48 : decode cX0_endsInCode 48 = .ok (.goto (-23), 3) := by decide +kernel
theorem dX0_endsInCode_51 : decode cX0_endsInCode 51 = .ok (.iload_n 1, 1) := by decide +kernel
theorem dX0_endsInCode_52 : decode cX0_endsInCode 52 = .ok (.aload_n 0, 1) := by decide +kernel
theorem dX0_endsInCode_53 : decode cX0_endsInCode 53 = .ok (.getfield 19, 3) := by decide +kernel
theorem dX0_endsInCode_56 : decode cX0_endsInCode 56 = .ok (.if_icmp .ne 7, 3) := by decide +kernel
theorem dX0_endsInCode_59 : decode cX0_endsInCode 59 = .ok (.iconst 1, 1) := by decide +kernel
theorem dX0_endsInCode_60 : decode cX0_endsInCode 60 = .ok (.goto 4, 3) := by decide +kernel
theorem dX0_endsInCode_63 : decode cX0_endsInCode 63 = .ok (.iconst 0, 1) := by decide +kernel
theorem dX0_endsInCode_64 : decode cX0_endsInCode 64 = .ok (.ireturn, 1) := by decide +kernel
theorem dX1_init_0 : decode cX1_init 0 = .ok (.aload_n 0, 1) := by decide +kernel
theorem dX1_init_1 : decode cX1_init 1 = .ok (.invokespecial 3, 3) := by decide +kernel
theorem dX1_init_4 : decode cX1_init 4 = .ok (.aload_n 0, 1) := by decide +kernel
theorem dX1_init_5 : decode cX1_init 5 = .ok (.iconst 0, 1) := by decide +kernel
theorem dX1_init_6 : decode cX1_init 6 = .ok (.putfield 9, 3) := by decide +kernel
theorem dX1_init_9 : decode cX1_init 9 = .ok (.aload_n 0, 1) := by decide +kernel
theorem dX1_init_10 : decode cX1_init 10 = .ok (.iconst (-1), 1) := by decide +kernel
theorem dX1_init_11 : decode cX1_init 11 = .ok (.putfield 15, 3) := by decide +kernel
theorem dX1_init_14 : decode cX1_init 14 = .ok (.aload_n 0, 1) := by decide +kernel
theorem dX1_init_15 : decode cX1_init 15 = .ok (.iconst 0, 1) := by decide +kernel
theorem dX1_init_16 : decode cX1_init 16 = .ok (.putfield 19, 3) := by decide +kernel
theorem dX1_init_19 : decode cX1_init 19 = .ok (.aload_n 0, 1) := by decide +kernel
theorem dX1_init_20 : decode cX1_init 20 = .ok (.iconst 0, 1) := by decide +kernel
theorem dX1_init_21 : decode cX1_init 21 = .ok (.putfield 22, 3) := by decide +kernel
theorem dX1_init_24 : decode cX1_init 24 = .ok (.aload_n 0, 1) := by decide +kernel
theorem dX1_init_25 : decode cX1_init 25 = .ok (.iconst 0, 1) := by decide +kernel
theorem dX1_init_26 : decode cX1_init 26 = .ok (.putfield 25, 3) := by decide +kernel
theorem dX1_init_29 : decode cX1_init 29 = .ok (.aload_n 0, 1) := by decide +kernel
theorem dX1_init_30 : decode cX1_init 30 = .ok (.iconst 1, 1) := by decide +kernel
theorem dX1_init_31 : decode cX1_init 31 = .ok (.putfield 28, 3) := by decide +kernel
theorem dX1_init_34 : decode cX1_init 34 = .ok (.aload_n 0, 1) := by decide +kernel
theorem dX1_init_35 : decode cX1_init 35 = .ok (.iconst 0, 1) := by decide +kernel
theorem dX1_init_36 : decode cX1_init 36 = .ok (.putfield 31, 3) := by decide +kernel
theorem dX1_init_39 : decode cX1_init 39 = .ok (.aload_n 0, 1) := by decide +kernel
theorem dX1_init_40 : decode cX1_init 40 = .ok (.iconst (-1), 1) := by decide +kernel
theorem dX1_init_41 : decode cX1_init 41 = .ok (.putfield 34, 3) := by decide +kernel
theorem dX1_init_44 : decode cX1_init 44 = .ok (.return_, 1) := by decide +kernel
theorem dX1_fill_0 : decode cX1_fill 0 = .ok (.aload_n 0, 1) := by decide +kernel
theorem dX1_fill_1 : decode cX1_fill 1 = .ok (.iconst 1, 1) := by decide +kernel
theorem dX1_fill_2 : decode cX1_fill 2 = .ok (.putfield 9, 3) := by decide +kernel
theorem dX1_fill_5 : decode cX1_fill 5 = .ok (.aload_n 0, 1) := by decide +kernel
theorem dX1_fill_6 : decode cX1_fill 6 = .ok (.iload_n 1, 1) := by decide +kernel
theorem dX1_fill_7 : decode cX1_fill 7 = .ok (.putfield 15, 3) := by decide +kernel
theorem dX1_fill_10 : decode cX1_fill 10 = .ok (.aload_n 0, 1) := by decide +kernel
theorem dX1_fill_11 : decode cX1_fill 11 = .ok (.iload_n 2, 1) := by decide +kernel
theorem dX1_fill_12 : decode cX1_fill 12 = .ok (.putfield 19, 3) := by decide +kernel
theorem dX1_fill_15 : decode cX1_fill 15 = .ok (.aload_n 0, 1) := by decide +kernel
theorem dX1_fill_16 : decode cX1_fill 16 = .ok (.iload_n 3, 1) := by decide +kernel
theorem dX1_fill_17 : decode cX1_fill 17 = .ok (.putfield 22, 3) := by decide +kernel
theorem dX1_fill_20 : decode cX1_fill 20 = .ok (.aload_n 0, 1) := by decide +kernel
theorem dX1_fill_21 : decode cX1_fill 21 = .ok (.iload 4, 2) := by decide +kernel
theorem dX1_fill_23 : decode cX1_fill 23 = .ok (.putfield 25, 3) := by decide +kernel
theorem dX1_fill_26 : decode cX1_fill 26 = .ok (.aload_n 0, 1) := by decide +kernel
theorem dX1_fill_27 : decode cX1_fill 27 = .ok (.iload 5, 2) := by decide +kernel
theorem dX1_fill_29 : decode cX1_fill 29 = .ok (.putfield 28, 3) := by decide +kernel
theorem dX1_fill_32 : decode cX1_fill 32 = .ok (.aload_n 0, 1) := by decide +kernel
theorem dX1_fill_33 : decode cX1_fill 33 = .ok (.iconst 0, 1) := by decide +kernel
theorem dX1_fill_34 : decode cX1_fill 34 = .ok (.putfield 31, 3) := by decide +kernel
theorem dX1_fill_37 : decode cX1_fill 37 = .ok (.aload_n 0, 1) := by decide +kernel
theorem dX1_fill_38 : decode cX1_fill 38 = .ok (.iload 6, 2) := by decide +kernel
theorem dX1_fill_40 : decode cX1_fill 40 = .ok (.putfield 34, 3) := by decide +kernel
theorem dX1_fill_43 : decode cX1_fill 43 = .ok (.return_, 1) := by decide +kernel
theorem dX1_isBad_0 : decode cX1_isBad 0 = .ok (.aload_n 0, 1) := by decide +kernel
theorem dX1_isBad_1 : decode cX1_isBad 1 = .ok (.getfield 34, 3) := by decide +kernel
theorem dX1_isBad_4 : decode cX1_isBad 4 = .ok (.ifCond .ne 7, 3) := by decide +kernel
theorem dX1_isBad_7 : decode cX1_isBad 7 = .ok (.iconst 1, 1) := by decide +kernel
theorem dX1_isBad_8 : decode cX1_isBad 8 = .ok (.goto 4, 3) := by decide +kernel
theorem dX1_isBad_11 : decode cX1_isBad 11 = .ok (.iconst 0, 1) := by decide +kernel
theorem dX1_isBad_12 : decode cX1_isBad 12 = .ok (.ireturn, 1) := by decide +kernel
theorem dX1_useTry_0 : decode cX1_useTry 0 = .ok (.aload_n 0, 1) := by decide +kernel
theorem dX1_useTry_1 : decode cX1_useTry 1 = .ok (.getfield 34, 3) := by decide +kernel
theorem dX1_useTry_4 : decode cX1_useTry 4 = .ok (.ifCond .le 13, 3) := by decide +kernel
theorem dX1_useTry_7 : decode cX1_useTry 7 = .ok (.aload_n 0, 1) := by decide +kernel
theorem dX1_useTry_8 : decode cX1_useTry 8 = .ok (.dup, 1) := by decide +kernel
theorem dX1_useTry_9 : decode cX1_useTry 9 = .ok (.getfield 34, 3) := by decide +kernel
theorem dX1_useTry_12 : decode cX1_useTry 12 = .ok (.iconst 1, 1) := by decide +kernel
theorem dX1_useTry_13 : decode cX1_useTry 13 = .ok (.isub, 1) := by decide +kernel
theorem dX1_useTry_14 : decode cX1_useTry 14 = .ok (.putfield 34, 3) := by decide +kernel
theorem dX1_useTry_17 : decode cX1_useTry 17 = .ok (.return_, 1) := by decide +kernel
set_option maxRecDepth 20000 in
theorem ggX1_isAheadOf_X1_isBad : GoodIn wsX1_isAheadOf wsX1_isBad := goodIn_r _ [8, 9, 20, 21, 22, 23, 24, 25, 26, 27] (by decide +kernel) (by decide +kernel)
set_option maxRecDepth 20000 in
theorem gX1_isAheadOf_X1_isBad : GoodIn wsX1_isAheadOf (wsV RX1 37 RX1 yX1_isBad wsX1_isBad) := goodIn_app (goodIn_of _ (by decide +kernel)) ggX1_isAheadOf_X1_isBad
set_option maxRecDepth 20000 in
theorem ggX1_isAheadOf_X1_compareVersion : GoodIn wsX1_isAheadOf wsX1_compareVersion := goodIn_r _ [13, 14, 15, 16, 17, 18, 19, 20, 21, 22, 23, 24, 25, 26, 27] (by decide +kernel) (by decide +kernel)
set_option maxRecDepth 20000 in
theorem gX1_isAheadOf_X1_compareVersion : GoodIn wsX1_isAheadOf (wsV RX1 41 RX1 yX1_compareVersion wsX1_compareVersion) := goodIn_app (goodIn_of _ (by decide +kernel)) ggX1_isAheadOf_X1_compareVersion
theorem dX1_isAheadOf_0 : decode cX1_isAheadOf 0 = .ok (.aload_n 0, 1) := by decide +kernel
theorem dX1_isAheadOf_1 : decode cX1_isAheadOf 1 = .ok (.invokevirtual 37, 3) := by decide +kernel
theorem dX1_isAheadOf_4 : decode cX1_isAheadOf 4 = .ok (.aload_n 1, 1) := by decide +kernel
theorem dX1_isAheadOf_5 : decode cX1_isAheadOf 5 = .ok (.invokevirtual 37, 3) := by decide +kernel
theorem dX1_isAheadOf_8 : decode cX1_isAheadOf 8 = .ok (.if_icmp .eq 8, 3) := by decide +kernel
theorem dX1_isAheadOf_11 : decode cX1_isAheadOf 11 = .ok (.aload_n 1, 1) := by decide +kernel
theorem dX1_isAheadOf_12 : decode cX1_isAheadOf 12 = .ok (.invokevirtual 37, 3) := by decide +kernel
theorem dX1_isAheadOf_15 : decode cX1_isAheadOf 15 = .ok (.ireturn, 1) := by decide +kernel
theorem dX1_isAheadOf_16 : decode cX1_isAheadOf 16 = .ok (.aload_n 0, 1) := by decide +kernel
theorem dX1_isAheadOf_17 : decode cX1_isAheadOf 17 = .ok (.getfield 19, 3) := by decide +kernel
theorem dX1_isAheadOf_20 : decode cX1_isAheadOf 20 = .ok (.aload_n 1, 1) := by decide +kernel
theorem dX1_isAheadOf_21 : decode cX1_isAheadOf 21 = .ok (.getfield 19, 3) := by decide +kernel
theorem dX1_isAheadOf_24 : decode cX1_isAheadOf 24 = .ok (.if_icmp .eq 20, 3) := by decide +kernel
theorem dX1_isAheadOf_27 : decode cX1_isAheadOf 27 = .ok (.aload_n 0, 1) := by decide +kernel
theorem dX1_isAheadOf_28 : decode cX1_isAheadOf 28 = .ok (.getfield 19, 3) := by decide +kernel
theorem dX1_isAheadOf_31 : decode cX1_isAheadOf 31 = .ok (.aload_n 1, 1) := by decide +kernel
theorem dX1_isAheadOf_32 : decode cX1_isAheadOf 32 = .ok (.getfield 19, 3) := by decide +kernel
theorem dX1_isAheadOf_35 : decode cX1_isAheadOf 35 = .ok (.if_icmp .ge 7, 3) := by decide +kernel
theorem dX1_isAheadOf_38 : decode cX1_isAheadOf 38 = .ok (.iconst 1, 1) := by decide +kernel
theorem dX1_isAheadOf_39 : decode cX1_isAheadOf 39 = .ok (.goto 4, 3) := by decide +kernel
theorem dX1_isAheadOf_42 : decode cX1_isAheadOf 42 = .ok (.iconst 0, 1) := by decide +kernel
theorem dX1_isAheadOf_43 : decode cX1_isAheadOf 43 = .ok (.ireturn, 1) := by decide +kernel
theorem dX1_isAheadOf_44 : decode cX1_isAheadOf 44 = .ok (.aload_n 0, 1) := by decide +kernel
theorem dX1_isAheadOf_45 : decode cX1_isAheadOf 45 = .ok (.aload_n 1, 1) := by decide +kernel
theorem dX1_isAheadOf_46 : decode cX1_isAheadOf 46 = .ok (.invokevirtual 41, 3) := by decide +kernel
theorem dX1_isAheadOf_49 : decode cX1_isAheadOf 49 = .ok (.istore_n 2, 1) := by decide +kernel
theorem dX1_isAheadOf_50 : decode cX1_isAheadOf 50 = .ok (.iload_n 2, 1) := by decide +kernel
theorem dX1_isAheadOf_51 : decode cX1_isAheadOf 51 = .ok (.ifCond .eq 13, 3) := by decide +kernel
theorem dX1_isAheadOf_54 : decode cX1_isAheadOf 54 = .ok (.iload_n 2, 1) := by decide +kernel
theorem dX1_isAheadOf_55 : decode cX1_isAheadOf 55 = .ok (.ifCond .le 7, 3) := by decide +kernel
theorem dX1_isAheadOf_58 : decode cX1_isAheadOf 58 = .ok (.iconst 1, 1) := by decide +kernel
theorem dX1_isAheadOf_59 : decode cX1_isAheadOf 59 = .ok (.goto 4, 3) := by decide +kernel
theorem dX1_isAheadOf_62 : decode cX1_isAheadOf 62 = .ok (.iconst 0, 1) := by decide +kernel
theorem dX1_isAheadOf_63 : decode cX1_isAheadOf 63 = .ok (.ireturn, 1) := by decide +kernel
theorem dX1_isAheadOf_64 : decode cX1_isAheadOf 64 = .ok (.aload_n 0, 1) := by decide +kernel
theorem dX1_isAheadOf_65 : decode cX1_isAheadOf 65 = .ok (.getfield 22, 3) := by decide +kernel
theorem dX1_isAheadOf_68 : decode cX1_isAheadOf 68 = .ok (.aload_n 1, 1) := by decide +kernel
theorem dX1_isAheadOf_69 : decode cX1_isAheadOf 69 = .ok (.getfield 22, 3) := by decide +kernel
theorem dX1_isAheadOf_72 : decode cX1_isAheadOf 72 = .ok (.if_icmp .eq 20, 3) := by decide +kernel
theorem dX1_isAheadOf_75 : decode cX1_isAheadOf 75 = .ok (.aload_n 0, 1) := by decide +kernel
theorem dX1_isAheadOf_76 : decode cX1_isAheadOf 76 = .ok (.getfield 22, 3) := by decide +kernel
theorem dX1_isAheadOf_79 : decode cX1_isAheadOf 79 = .ok (.aload_n 1, 1) := by decide +kernel
theorem dX1_isAheadOf_80 : decode cX1_isAheadOf 80 = .ok (.getfield 22, 3) := by decide +kernel
theorem dX1_isAheadOf_83 : decode cX1_isAheadOf 83 = .ok (.if_icmp .ge 7, 3) := by decide +kernel
theorem dX1_isAheadOf_86 : decode cX1_isAheadOf 86 = .ok (.iconst 1, 1) := by decide +kernel
theorem dX1_isAheadOf_87 : decode cX1_isAheadOf 87 = .ok (.goto 4, 3) := by decide +kernel
theorem dX1_isAheadOf_90 : decode cX1_isAheadOf 90 = .ok (.iconst 0, 1) := by decide +kernel
theorem dX1_isAheadOf_91 : decode cX1_isAheadOf 91 = .ok (.ireturn, 1) := by decide +kernel
theorem dX1_isAheadOf_92 : decode cX1_isAheadOf 92 = .ok (.aload_n 0, 1) := by decide +kernel
theorem dX1_isAheadOf_93 : decode cX1_isAheadOf 93 = .ok (.getfield 15, 3) := by decide +kernel
theorem dX1_isAheadOf_96 : decode cX1_isAheadOf 96 = .ok (.aload_n 1, 1) := by decide +kernel
theorem dX1_isAheadOf_97 : decode cX1_isAheadOf 97 = .ok (.getfield 15, 3) := by decide +kernel
theorem dX1_isAheadOf_100 : decode cX1_isAheadOf 100 = .ok (.if_icmp .ge 7, 3) := by decide +kernel
theorem dX1_isAheadOf_103 : decode cX1_isAheadOf 103 = .ok (.iconst 1, 1) := by decide +kernel
theorem dX1_isAheadOf_104 : decode cX1_isAheadOf 104 = .ok (.goto 4, 3) := by decide +kernel
theorem dX1_isAheadOf_107 : decode cX1_isAheadOf 107 = .ok (.iconst 0, 1) := by decide +kernel
theorem dX1_isAheadOf_108 : decode cX1_isAheadOf 108 = .ok (.ireturn, 1) := by decide +kernel
set_option maxRecDepth 20000 in
theorem ggX1_compareVersion_J6_compare_7cf53 : GoodIn wsX1_compareVersion wsJ6_compare_7cf53 := goodIn_r _ [6] (by decide +kernel) (by decide +kernel)
set_option maxRecDepth 20000 in
theorem gX1_compareVersion_J6_compare_7cf53 : GoodIn wsX1_compareVersion (va_wsS RX1 45 yJ6_compare_7cf53 wsJ6_compare_7cf53) := goodIn_app (goodIn_of _ (by decide +kernel)) ggX1_compareVersion_J6_compare_7cf53
theorem dX1_compareVersion_0 : decode cX1_compareVersion 0 = .ok (.aload_n 0, 1) := by decide +kernel
theorem dX1_compareVersion_1 : decode cX1_compareVersion 1 = .ok (.getfield 25, 3) := by decide +kernel
theorem dX1_compareVersion_4 : decode cX1_compareVersion 4 = .ok (.aload_n 1, 1) := by decide +kernel
theorem dX1_compareVersion_5 : decode cX1_compareVersion 5 = .ok (.getfield 25, 3) := by decide +kernel
theorem dX1_compareVersion_8 : decode cX1_compareVersion 8 = .ok (.if_icmp .eq 20, 3) := by decide +kernel
theorem dX1_compareVersion_11 : decode cX1_compareVersion 11 = .ok (.aload_n 0, 1) := by decide +kernel
theorem dX1_compareVersion_12 : decode cX1_compareVersion 12 = .ok (.getfield 25, 3) := by decide +kernel
theorem dX1_compareVersion_15 : decode cX1_compareVersion 15 = .ok (.aload_n 1, 1) := by decide +kernel
theorem dX1_compareVersion_16 : decode cX1_compareVersion 16 = .ok (.getfield 25, 3) := by decide +kernel
theorem dX1_compareVersion_19 : decode cX1_compareVersion 19 = .ok (.if_icmp .le 7, 3) := by decide +kernel
theorem dX1_compareVersion_22 : decode cX1_compareVersion 22 = .ok (.iconst 1, 1) := by decide +kernel
theorem dX1_compareVersion_23 : decode cX1_compareVersion 23 = .ok (.goto 4, 3) := by decide +kernel
theorem dX1_compareVersion_26 : decode cX1_compareVersion 26 = .ok (.iconst (-1), 1) := by decide +kernel
theorem dX1_compareVersion_27 : decode cX1_compareVersion 27 = .ok (.ireturn, 1) := by decide +kernel
theorem dX1_compareVersion_28 : decode cX1_compareVersion 28 = .ok (.aload_n 0, 1) := by decide +kernel
theorem dX1_compareVersion_29 : decode cX1_compareVersion 29 = .ok (.getfield 28, 3) := by decide +kernel
theorem dX1_compareVersion_32 : decode cX1_compareVersion 32 = .ok (.aload_n 1, 1) := by decide +kernel
theorem dX1_compareVersion_33 : decode cX1_compareVersion 33 = .ok (.getfield 28, 3) := by decide +kernel
theorem dX1_compareVersion_36 : decode cX1_compareVersion 36 = .ok (.invokestatic 45, 3) := by decide +kernel
theorem dX1_compareVersion_39 : decode cX1_compareVersion 39 = .ok (.ireturn, 1) := by decide +kernel
set_option maxRecDepth 20000 in
theorem ggX2_init_X0_init : GoodIn wsX2_init wsX0_init := goodIn_r _ [20, 21, 2, 3, 22, 23, 24, 25, 26, 27, 48, 49, 50, 51, 52] (by decide +kernel) (by decide +kernel)
set_option maxRecDepth 20000 in
theorem gX2_init_X0_init_n17 : GoodIn wsX2_init (wsX0_init) := ggX2_init_X0_init
set_option maxRecDepth 20000 in
theorem ggX2_init_X1_init : GoodIn wsX2_init wsX1_init := goodIn_r _ [29, 30, 2, 3, 31, 32, 33, 34, 35, 36, 37, 38, 53, 54, 55, 56, 57, 58, 59, 60] (by decide +kernel) (by decide +kernel)
set_option maxRecDepth 20000 in
theorem gX2_init_X1_init_n44 : GoodIn wsX2_init (wsX1_init) := ggX2_init_X1_init
theorem dX2_init_0 : decode cX2_init 0 = .ok (.aload_n 0, 1) := by decide +kernel
theorem dX2_init_1 : decode cX2_init 1 = .ok (.invokespecial 1, 3) := by decide +kernel
theorem dX2_init_4 : decode cX2_init 4 = .ok (.aload_n 0, 1) := by decide +kernel
theorem dX2_init_5 : decode cX2_init 5 = .ok (.bipush 16, 2) := by decide +kernel
theorem dX2_init_7 : decode cX2_init 7 = .ok (.anewarray 9, 3) := by decide +kernel
theorem dX2_init_10 : decode cX2_init 10 = .ok (.putfield 11, 3) := by decide +kernel
theorem dX2_init_13 : decode cX2_init 13 = .ok (.aload_n 0, 1) := by decide +kernel
theorem dX2_init_14 : decode cX2_init 14 = .ok (.new 15, 3) := by decide +kernel
theorem dX2_init_17 : decode cX2_init 17 = .ok (.dup, 1) := by decide +kernel
theorem dX2_init_18 : decode cX2_init 18 = .ok (.invokespecial 17, 3) := by decide +kernel
theorem dX2_init_21 : decode cX2_init 21 = .ok (.putfield 18, 3) := by decide +kernel
theorem dX2_init_24 : decode cX2_init 24 = .ok (.aload_n 0, 1) := by decide +kernel
theorem dX2_init_25 : decode cX2_init 25 = .ok (.iconst 0, 1) := by decide +kernel
theorem dX2_init_26 : decode cX2_init 26 = .ok (.putfield 22, 3) := by decide +kernel
theorem dX2_init_29 : decode cX2_init 29 = .ok (.aload_n 0, 1) := by decide +kernel
theorem dX2_init_30 : decode cX2_init 30 = .ok (.iconst (-1), 1) := by decide +kernel
theorem dX2_init_31 : decode cX2_init 31 = .ok (.putfield 26, 3) := by decide +kernel
theorem dX2_init_34 : decode cX2_init 34 = .ok (.aload_n 0, 1) := by decide +kernel
theorem dX2_init_35 : decode cX2_init 35 = .ok (.iconst (-1), 1) := by decide +kernel
theorem dX2_init_36 : decode cX2_init 36 = .ok (.putfield 29, 3) := by decide +kernel
theorem dX2_init_39 : decode cX2_init 39 = .ok (.aload_n 0, 1) := by decide +kernel
theorem dX2_init_40 : decode cX2_init 40 = .ok (.iconst 0, 1) := by decide +kernel
theorem dX2_init_41 : decode cX2_init 41 = .ok (.putfield 32, 3) := by decide +kernel
theorem dX2_init_44 : decode cX2_init 44 = .ok (.aload_n 0, 1) := by decide +kernel
theorem dX2_init_45 : decode cX2_init 45 = .ok (.bipush 99, 2) := by decide +kernel
theorem dX2_init_47 : decode cX2_init 47 = .ok (.putfield 35, 3) := by decide +kernel
theorem dX2_init_50 : decode cX2_init 50 = .ok (.aload_n 0, 1) := by decide +kernel
theorem dX2_init_51 : decode cX2_init 51 = .ok (.iconst (-1), 1) := by decide +kernel
theorem dX2_init_52 : decode cX2_init 52 = .ok (.putfield 38, 3) := by decide +kernel
theorem dX2_init_55 : decode cX2_init 55 = .ok (.aload_n 0, 1) := by decide +kernel
theorem dX2_init_56 : decode cX2_init 56 = .ok (.iconst 0, 1) := by decide +kernel
theorem dX2_init_57 : decode cX2_init 57 = .ok (.putfield 41, 3) := by decide +kernel
theorem dX2_init_60 : decode cX2_init 60 = .ok (.iconst 0, 1) := by decide +kernel
theorem dX2_init_61 : decode cX2_init 61 = .ok (.istore_n 1, 1) := by decide +kernel
theorem dX2_init_62 : decode cX2_init 62 = .ok (.iload_n 1, 1) := by decide +kernel
theorem dX2_init_63 : decode cX2_init 63 = .ok (.aload_n 0, 1) := by decide +kernel
theorem dX2_init_64 : decode cX2_init 64 = .ok (.getfield 11, 3) := by decide +kernel
theorem dX2_init_67 : decode cX2_init 67 = .ok (.arraylength, 1) := by decide +kernel
theorem dX2_init_68 : decode cX2_init 68 = .ok (.if_icmp .ge 22, 3) := by decide +kernel
theorem dX2_init_71 : decode cX2_init 71 = .ok (.aload_n 0, 1) := by decide +kernel
theorem dX2_init_72 : decode cX2_init 72 = .ok (.getfield 11, 3) := by decide +kernel
theorem dX2_init_75 : decode cX2_init 75 = .ok (.iload_n 1, 1) := by decide +kernel
theorem dX2_init_76 : decode cX2_init 76 = .ok (.new 9, 3) := by decide +kernel
theorem dX2_init_79 : decode cX2_init 79 = .ok (.dup, 1) := by decide +kernel
theorem dX2_init_80 : decode cX2_init 80 = .ok (.invokespecial 44, 3) := by decide +kernel
theorem dX2_init_83 : decode cX2_init 83 = .ok (.aastore, 1) := by decide +kernel
theorem dX2_init_84 : decode cX2_init 84 = .ok (.iinc 1 1, 3) := by decide +kernel
theorem dX2_init_87 : decode cX2_init 87 = .ok (.goto (-25), 3) := by decide +kernel
theorem dX2_init_90 : decode cX2_init 90 = .ok (.return_, 1) := by decide +kernel
set_option maxRecDepth 20000 in
theorem ggX2_add_X2_isWithin : GoodIn wsX2_add wsX2_isWithin := goodIn_r _ [10] (by decide +kernel) (by decide +kernel)
set_option maxRecDepth 20000 in
theorem gX2_add_X2_isWithin : GoodIn wsX2_add (va_wsS RX2 45 yX2_isWithin wsX2_isWithin) := goodIn_app (goodIn_of _ (by decide +kernel)) ggX2_add_X2_isWithin
set_option maxRecDepth 20000 in
theorem ggX2_add_X2_freeRow : GoodIn wsX2_add wsX2_freeRow := goodIn_r _ [14, 15, 28, 29, 30, 31, 32, 33, 34, 35, 36, 37, 38, 39, 40, 41, 42, 43, 44] (by decide +kernel) (by decide +kernel)
set_option maxRecDepth 20000 in
theorem gX2_add_X2_freeRow : GoodIn wsX2_add (wsV RX2 59 RX2 yX2_freeRow wsX2_freeRow) := goodIn_app (goodIn_of _ (by decide +kernel)) ggX2_add_X2_freeRow
set_option maxRecDepth 20000 in
theorem ggX2_add_X1_fill : GoodIn wsX2_add wsX1_fill := goodIn_r _ [19, 20, 21, 22, 23, 24, 25, 26, 27, 37, 38, 39, 40, 41, 42, 43, 44] (by decide +kernel) (by decide +kernel)
set_option maxRecDepth 20000 in
theorem gX2_add_X1_fill_n68 : GoodIn wsX2_add (wsX1_fill) := ggX2_add_X1_fill
theorem dX2_add_0 : decode cX2_add 0 = .ok (.iload_n 1, 1) := by decide +kernel
theorem dX2_add_1 : decode cX2_add 1 = .ok (.iconst 0, 1) := by decide +kernel
theorem dX2_add_2 : decode cX2_add 2 = .ok (.iconst 2, 1) := by decide +kernel
theorem dX2_add_3 : decode cX2_add 3 = .ok (.invokestatic 45, 3) := by decide +kernel
theorem dX2_add_6 : decode cX2_add 6 = .ok (.ifCond .eq 33, 3) := by decide +kernel
theorem dX2_add_9 : decode cX2_add 9 = .ok (.iload_n 2, 1) := by decide +kernel
theorem dX2_add_10 : decode cX2_add 10 = .ok (.iconst 0, 1) := by decide +kernel
theorem dX2_add_11 : decode cX2_add 11 = .ok (.bipush 99, 2) := by decide +kernel
theorem dX2_add_13 : decode cX2_add 13 = .ok (.invokestatic 45, 3) := by decide +kernel
theorem dX2_add_16 : decode cX2_add 16 = .ok (.ifCond .eq 23, 3) := by decide +kernel
theorem dX2_add_19 : decode cX2_add 19 = .ok (.iload_n 3, 1) := by decide +kernel
theorem dX2_add_20 : decode cX2_add 20 = .ok (.iconst 0, 1) := by decide +kernel
theorem dX2_add_21 : decode cX2_add 21 = .ok (.ldc 49, 2) := by decide +kernel
theorem dX2_add_23 : decode cX2_add 23 = .ok (.invokestatic 45, 3) := by decide +kernel
theorem dX2_add_26 : decode cX2_add 26 = .ok (.ifCond .eq 13, 3) := by decide +kernel
theorem dX2_add_29 : decode cX2_add 29 = .ok (.iload 4, 2) := by decide +kernel
theorem dX2_add_31 : decode cX2_add 31 = .ok (.iconst 0, 1) := by decide +kernel
theorem dX2_add_32 : decode cX2_add 32 = .ok (.iconst 2, 1) := by decide +kernel
theorem dX2_add_33 : decode cX2_add 33 = .ok (.invokestatic 45, 3) := by decide +kernel
theorem dX2_add_36 : decode cX2_add 36 = .ok (.ifCond .ne 13, 3) := by decide +kernel
theorem dX2_add_39 : decode cX2_add 39 = .ok (.new 50, 3) := by decide +kernel
theorem dX2_add_42 : decode cX2_add 42 = .ok (.dup, 1) := by decide +kernel
theorem dX2_add_43 : decode cX2_add 43 = .ok (.ldc 52, 2) := by decide +kernel
theorem dX2_add_45 : decode cX2_add 45 = .ok (.invokespecial 54, 3) := by decide +kernel
theorem dX2_add_48 : decode cX2_add 48 = .ok (.athrow, 1) := by decide +kernel
theorem dX2_add_49 : decode cX2_add 49 = .ok (.iload 5, 2) := by decide +kernel
theorem dX2_add_51 : decode cX2_add 51 = .ok (.iconst (-1), 1) := by decide +kernel
theorem dX2_add_52 : decode cX2_add 52 = .ok (.if_icmp .eq 24, 3) := by decide +kernel
theorem dX2_add_55 : decode cX2_add 55 = .ok (.iload 5, 2) := by decide +kernel
theorem dX2_add_57 : decode cX2_add 57 = .ok (.iconst 0, 1) := by decide +kernel
theorem dX2_add_58 : decode cX2_add 58 = .ok (.bipush 9, 2) := by decide +kernel
theorem dX2_add_60 : decode cX2_add 60 = .ok (.invokestatic 45, 3) := by decide +kernel
theorem dX2_add_63 : decode cX2_add 63 = .ok (.ifCond .ne 13, 3) := by decide +kernel
theorem dX2_add_66 : decode cX2_add 66 = .ok (.new 50, 3) := by decide +kernel
theorem dX2_add_69 : decode cX2_add 69 = .ok (.dup, 1) := by decide +kernel
theorem dX2_add_70 : decode cX2_add 70 = .ok (.ldc 57, 2) := by decide +kernel
theorem dX2_add_72 : decode cX2_add 72 = .ok (.invokespecial 54, 3) := by decide +kernel
theorem dX2_add_75 : decode cX2_add 75 = .ok (.athrow, 1) := by decide +kernel
theorem dX2_add_76 : decode cX2_add 76 = .ok (.aload_n 0, 1) := by decide +kernel
theorem dX2_add_77 : decode cX2_add 77 = .ok (.invokevirtual 59, 3) := by decide +kernel
theorem dX2_add_80 : decode cX2_add 80 = .ok (.astore 6, 2) := by decide +kernel
theorem dX2_add_82 : decode cX2_add 82 = .ok (.aload 6, 2) := by decide +kernel
theorem dX2_add_84 : decode cX2_add 84 = .ok (.ifnull 12, 3) := by decide +kernel
theorem dX2_add_87 : decode cX2_add 87 = .ok (.aload_n 0, 1) := by decide +kernel
theorem dX2_add_88 : decode cX2_add 88 = .ok (.getfield 22, 3) := by decide +kernel
theorem dX2_add_91 : decode cX2_add 91 = .ok (.bipush 60, 2) := by decide +kernel
theorem dX2_add_93 : decode cX2_add 93 = .ok (.if_icmp .lt 13, 3) := by decide +kernel
theorem dX2_add_96 : decode cX2_add 96 = .ok (.new 63, 3) := by decide +kernel
theorem dX2_add_99 : decode cX2_add 99 = .ok (.dup, 1) := by decide +kernel
theorem dX2_add_100 : decode cX2_add 100 = .ok (.ldc 65, 2) := by decide +kernel
theorem dX2_add_102 : decode cX2_add 102 = .ok (.invokespecial 67, 3) := by decide +kernel
theorem dX2_add_105 : decode cX2_add 105 = .ok (.athrow, 1) := by decide +kernel
theorem dX2_add_106 : decode cX2_add 106 = .ok (.aload 6, 2) := by decide +kernel
theorem dX2_add_108 : decode cX2_add 108 = .ok (.aload_n 0, 1) := by decide +kernel
theorem dX2_add_109 : decode cX2_add 109 = .ok (.getfield 22, 3) := by decide +kernel
theorem dX2_add_112 : decode cX2_add 112 = .ok (.iload_n 1, 1) := by decide +kernel
theorem dX2_add_113 : decode cX2_add 113 = .ok (.iload_n 2, 1) := by decide +kernel
theorem dX2_add_114 : decode cX2_add 114 = .ok (.iload_n 3, 1) := by decide +kernel
theorem dX2_add_115 : decode cX2_add 115 = .ok (.iload 4, 2) := by decide +kernel
theorem dX2_add_117 : decode cX2_add 117 = .ok (.iload 5, 2) := by decide +kernel
theorem dX2_add_119 : decode cX2_add 119 = .ok (.invokevirtual 68, 3) := by decide +kernel
theorem dX2_add_122 : decode cX2_add 122 = .ok (.aload_n 0, 1) := by decide +kernel
theorem dX2_add_123 : decode cX2_add 123 = .ok (.dup, 1) := by decide +kernel
theorem dX2_add_124 : decode cX2_add 124 = .ok (.getfield 22, 3) := by decide +kernel
theorem dX2_add_127 : decode cX2_add 127 = .ok (.iconst 1, 1) := by decide +kernel
theorem dX2_add_128 : decode cX2_add 128 = .ok (.iadd, 1) := by decide +kernel
theorem dX2_add_129 : decode cX2_add 129 = .ok (.putfield 22, 3) := by decide +kernel
theorem dX2_add_132 : decode cX2_add 132 = .ok (.aload 6, 2) := by decide +kernel
theorem dX2_add_134 : decode cX2_add 134 = .ok (.getfield 72, 3) := by decide +kernel
theorem dX2_add_137 : decode cX2_add 137 = .ok (.ireturn, 1) := by decide +kernel
set_option maxRecDepth 20000 in
theorem ggX2_remove_X2_presentEntry : GoodIn wsX2_remove wsX2_presentEntry := goodIn_ca (goodIn_r _ [5, 6, 7, 8, 9, 10, 4, 11, 12, 25, 26, 27, 28, 29, 30, 31, 32, 33, 17, 18, 19, 20, 21, 22, 23, 24] (by decide +kernel) (by decide +kernel)) (goodIn_sub (fun _ h => List.mem_cons_of_mem _ (List.mem_append_right _ h)) (by decide +kernel))
set_option maxRecDepth 20000 in
theorem gX2_remove_X2_presentEntry : GoodIn wsX2_remove (wsV RX2 75 RX2 yX2_presentEntry wsX2_presentEntry) := goodIn_app (goodIn_of _ (by decide +kernel)) ggX2_remove_X2_presentEntry
set_option maxRecDepth 20000 in
theorem ggX2_remove_X2_countEntries : GoodIn wsX2_remove wsX2_countEntries := goodIn_r _ [16, 12, 25, 26, 27, 28, 29, 30, 31, 32, 33, 17, 18, 19, 20, 21, 22, 23, 24] (by decide +kernel) (by decide +kernel)
set_option maxRecDepth 20000 in
theorem gX2_remove_X2_countEntries : GoodIn wsX2_remove (wsV RX2 83 RX2 yX2_countEntries wsX2_countEntries) := goodIn_app (goodIn_of _ (by decide +kernel)) ggX2_remove_X2_countEntries
theorem dX2_remove_0 : decode cX2_remove 0 = .ok (.aload_n 0, 1) := by decide +kernel
theorem dX2_remove_1 : decode cX2_remove 1 = .ok (.iload_n 1, 1) := by decide +kernel
theorem dX2_remove_2 : decode cX2_remove 2 = .ok (.invokevirtual 75, 3) := by decide +kernel
theorem dX2_remove_5 : decode cX2_remove 5 = .ok (.iconst 0, 1) := by decide +kernel
theorem dX2_remove_6 : decode cX2_remove 6 = .ok (.putfield 79, 3) := by decide +kernel
theorem dX2_remove_9 : decode cX2_remove 9 = .ok (.aload_n 0, 1) := by decide +kernel
theorem dX2_remove_10 : decode cX2_remove 10 = .ok (.invokevirtual 83, 3) := by decide +kernel
theorem dX2_remove_13 : decode cX2_remove 13 = .ok (.ireturn, 1) := by decide +kernel
set_option maxRecDepth 20000 in
theorem ggX2_edit_X2_presentEntry : GoodIn wsX2_edit wsX2_presentEntry := goodIn_ca (goodIn_r _ [7, 8, 9, 10, 11, 12, 6, 13, 14, 33, 34, 35, 36, 37, 38, 39, 40, 41, 25, 26, 27, 28, 29, 30, 31, 32] (by decide +kernel) (by decide +kernel)) (goodIn_sub (fun _ h => List.mem_cons_of_mem _ (List.mem_append_left _ (List.mem_append_right _ h))) (by decide +kernel))
set_option maxRecDepth 20000 in
theorem gX2_edit_X2_presentEntry : GoodIn wsX2_edit (wsV RX2 75 RX2 yX2_presentEntry wsX2_presentEntry) := goodIn_app (goodIn_of _ (by decide +kernel)) ggX2_edit_X2_presentEntry
set_option maxRecDepth 20000 in
theorem ggX2_edit_X2_isWithin : GoodIn wsX2_edit wsX2_isWithin := goodIn_r _ [17] (by decide +kernel) (by decide +kernel)
set_option maxRecDepth 20000 in
theorem gX2_edit_X2_isWithin : GoodIn wsX2_edit (va_wsS RX2 45 yX2_isWithin wsX2_isWithin) := goodIn_app (goodIn_of _ (by decide +kernel)) ggX2_edit_X2_isWithin
set_option maxRecDepth 20000 in
theorem ggX2_edit_X2_refuseIfLocked : GoodIn wsX2_edit wsX2_refuseIfLocked := goodIn_ca (goodIn_r _ [21, 22, 23, 24, 33, 34, 35, 36, 37, 38, 39, 40, 41, 42, 43, 44, 45, 46] (by decide +kernel) (by decide +kernel)) (goodIn_sub (fun _ h => List.mem_cons_of_mem _ (List.mem_append_right _ h)) (by decide +kernel))
set_option maxRecDepth 20000 in
theorem gX2_edit_X2_refuseIfLocked : GoodIn wsX2_edit (wsV RX2 89 RX2 yX2_refuseIfLocked wsX2_refuseIfLocked) := goodIn_app (goodIn_of _ (by decide +kernel)) ggX2_edit_X2_refuseIfLocked
theorem dX2_edit_0 : decode cX2_edit 0 = .ok (.aload_n 0, 1) := by decide +kernel
theorem dX2_edit_1 : decode cX2_edit 1 = .ok (.iload_n 1, 1) := by decide +kernel
theorem dX2_edit_2 : decode cX2_edit 2 = .ok (.invokevirtual 75, 3) := by decide +kernel
theorem dX2_edit_5 : decode cX2_edit 5 = .ok (.astore_n 3, 1) := by decide +kernel
theorem dX2_edit_6 : decode cX2_edit 6 = .ok (.iload_n 2, 1) := by decide +kernel
theorem dX2_edit_7 : decode cX2_edit 7 = .ok (.iconst 0, 1) := by decide +kernel
theorem dX2_edit_8 : decode cX2_edit 8 = .ok (.bipush 99, 2) := by decide +kernel
theorem dX2_edit_10 : decode cX2_edit 10 = .ok (.invokestatic 45, 3) := by decide +kernel
theorem dX2_edit_13 : decode cX2_edit 13 = .ok (.ifCond .ne 13, 3) := by decide +kernel
theorem dX2_edit_16 : decode cX2_edit 16 = .ok (.new 50, 3) := by decide +kernel
theorem dX2_edit_19 : decode cX2_edit 19 = .ok (.dup, 1) := by decide +kernel
theorem dX2_edit_20 : decode cX2_edit 20 = .ok (.ldc 87, 2) := by decide +kernel
theorem dX2_edit_22 : decode cX2_edit 22 = .ok (.invokespecial 54, 3) := by decide +kernel
theorem dX2_edit_25 : decode cX2_edit 25 = .ok (.athrow, 1) := by decide +kernel
theorem dX2_edit_26 : decode cX2_edit 26 = .ok (.aload_n 0, 1) := by decide +kernel
theorem dX2_edit_27 : decode cX2_edit 27 = .ok (.invokevirtual 89, 3) := by decide +kernel
theorem dX2_edit_30 : decode cX2_edit 30 = .ok (.aload_n 3, 1) := by decide +kernel
theorem dX2_edit_31 : decode cX2_edit 31 = .ok (.getfield 92, 3) := by decide +kernel
theorem dX2_edit_34 : decode cX2_edit 34 = .ok (.istore 4, 2) := by decide +kernel
theorem dX2_edit_36 : decode cX2_edit 36 = .ok (.aload_n 3, 1) := by decide +kernel
theorem dX2_edit_37 : decode cX2_edit 37 = .ok (.iload_n 2, 1) := by decide +kernel
theorem dX2_edit_38 : decode cX2_edit 38 = .ok (.putfield 92, 3) := by decide +kernel
theorem dX2_edit_41 : decode cX2_edit 41 = .ok (.iload 4, 2) := by decide +kernel
theorem dX2_edit_43 : decode cX2_edit 43 = .ok (.ireturn, 1) := by decide +kernel
set_option maxRecDepth 20000 in
theorem ggX2_choose_X2_refuseAsChoice : GoodIn wsX2_choose wsX2_refuseAsChoice := goodIn_ca (goodIn_r _ [6, 7, 8, 9, 10, 11, 5, 12, 13, 21, 22, 23, 24, 25, 26, 27, 28, 29, 30, 31, 32, 33, 34, 35, 36, 37] (by decide +kernel) (by decide +kernel)) (goodIn_sub (fun _ h => List.mem_cons_of_mem _ (List.mem_append_left _ (List.mem_append_right _ h))) (by decide +kernel))
set_option maxRecDepth 20000 in
theorem gX2_choose_X2_refuseAsChoice : GoodIn wsX2_choose (wsV RX2 95 RX2 yX2_refuseAsChoice wsX2_refuseAsChoice) := goodIn_app (goodIn_of _ (by decide +kernel)) ggX2_choose_X2_refuseAsChoice
set_option maxRecDepth 20000 in
theorem ggX2_choose_X2_refuseIfLocked : GoodIn wsX2_choose wsX2_refuseIfLocked := goodIn_ca (goodIn_r _ [17, 18, 19, 20, 21, 22, 23, 24, 25, 26, 27, 28, 29, 38, 39, 40, 41, 42] (by decide +kernel) (by decide +kernel)) (goodIn_sub (fun _ h => List.mem_cons_of_mem _ (List.mem_append_right _ h)) (by decide +kernel))
set_option maxRecDepth 20000 in
theorem gX2_choose_X2_refuseIfLocked : GoodIn wsX2_choose (wsV RX2 89 RX2 yX2_refuseIfLocked wsX2_refuseIfLocked) := goodIn_app (goodIn_of _ (by decide +kernel)) ggX2_choose_X2_refuseIfLocked
theorem dX2_choose_0 : decode cX2_choose 0 = .ok (.aload_n 0, 1) := by decide +kernel
theorem dX2_choose_1 : decode cX2_choose 1 = .ok (.iload_n 1, 1) := by decide +kernel
theorem dX2_choose_2 : decode cX2_choose 2 = .ok (.invokevirtual 95, 3) := by decide +kernel
theorem dX2_choose_5 : decode cX2_choose 5 = .ok (.aload_n 0, 1) := by decide +kernel
theorem dX2_choose_6 : decode cX2_choose 6 = .ok (.invokevirtual 89, 3) := by decide +kernel
theorem dX2_choose_9 : decode cX2_choose 9 = .ok (.aload_n 0, 1) := by decide +kernel
theorem dX2_choose_10 : decode cX2_choose 10 = .ok (.getfield 26, 3) := by decide +kernel
theorem dX2_choose_13 : decode cX2_choose 13 = .ok (.istore_n 2, 1) := by decide +kernel
theorem dX2_choose_14 : decode cX2_choose 14 = .ok (.aload_n 0, 1) := by decide +kernel
theorem dX2_choose_15 : decode cX2_choose 15 = .ok (.iload_n 1, 1) := by decide +kernel
theorem dX2_choose_16 : decode cX2_choose 16 = .ok (.putfield 26, 3) := by decide +kernel
theorem dX2_choose_19 : decode cX2_choose 19 = .ok (.iload_n 2, 1) := by decide +kernel
theorem dX2_choose_20 : decode cX2_choose 20 = .ok (.ireturn, 1) := by decide +kernel
set_option maxRecDepth 20000 in
theorem ggX2_chooseOnce_X2_refuseAsChoice : GoodIn wsX2_chooseOnce wsX2_refuseAsChoice := goodIn_ca (goodIn_r _ [6, 7, 8, 9, 10, 11, 5, 12, 13, 14, 15, 16, 17, 18, 19, 20, 21, 22, 23, 24, 25, 26, 27, 28, 29, 30] (by decide +kernel) (by decide +kernel)) (goodIn_sub (fun _ h => List.mem_cons_of_mem _ (List.mem_append_right _ h)) (by decide +kernel))
set_option maxRecDepth 20000 in
theorem gX2_chooseOnce_X2_refuseAsChoice : GoodIn wsX2_chooseOnce (wsV RX2 95 RX2 yX2_refuseAsChoice wsX2_refuseAsChoice) := goodIn_app (goodIn_of _ (by decide +kernel)) ggX2_chooseOnce_X2_refuseAsChoice
theorem dX2_chooseOnce_0 : decode cX2_chooseOnce 0 = .ok (.aload_n 0, 1) := by decide +kernel
theorem dX2_chooseOnce_1 : decode cX2_chooseOnce 1 = .ok (.iload_n 1, 1) := by decide +kernel
theorem dX2_chooseOnce_2 : decode cX2_chooseOnce 2 = .ok (.invokevirtual 95, 3) := by decide +kernel
theorem dX2_chooseOnce_5 : decode cX2_chooseOnce 5 = .ok (.aload_n 0, 1) := by decide +kernel
theorem dX2_chooseOnce_6 : decode cX2_chooseOnce 6 = .ok (.getfield 29, 3) := by decide +kernel
theorem dX2_chooseOnce_9 : decode cX2_chooseOnce 9 = .ok (.istore_n 2, 1) := by decide +kernel
theorem dX2_chooseOnce_10 : decode cX2_chooseOnce 10 = .ok (.aload_n 0, 1) := by decide +kernel
theorem dX2_chooseOnce_11 : decode cX2_chooseOnce 11 = .ok (.iload_n 1, 1) := by decide +kernel
theorem dX2_chooseOnce_12 : decode cX2_chooseOnce 12 = .ok (.putfield 29, 3) := by decide +kernel
theorem dX2_chooseOnce_15 : decode cX2_chooseOnce 15 = .ok (.iload_n 2, 1) := by decide +kernel
theorem dX2_chooseOnce_16 : decode cX2_chooseOnce 16 = .ok (.ireturn, 1) := by decide +kernel
set_option maxRecDepth 20000 in
theorem ggX2_setPattern_X2_isWithin : GoodIn wsX2_setPattern wsX2_isWithin := goodIn_r _ [8] (by decide +kernel) (by decide +kernel)
set_option maxRecDepth 20000 in
theorem gX2_setPattern_X2_isWithin : GoodIn wsX2_setPattern (va_wsS RX2 45 yX2_isWithin wsX2_isWithin) := goodIn_app (goodIn_of _ (by decide +kernel)) ggX2_setPattern_X2_isWithin
set_option maxRecDepth 20000 in
theorem ggX2_setPattern_X2_refuseIfLocked : GoodIn wsX2_setPattern wsX2_refuseIfLocked := goodIn_ca (goodIn_r _ [12, 13, 14, 15, 25, 26, 27, 28, 29, 30, 31, 32, 33, 34, 35, 36, 37, 38] (by decide +kernel) (by decide +kernel)) (goodIn_sub (fun _ h => List.mem_cons_of_mem _ (List.mem_append_right _ h)) (by decide +kernel))
set_option maxRecDepth 20000 in
theorem gX2_setPattern_X2_refuseIfLocked : GoodIn wsX2_setPattern (wsV RX2 89 RX2 yX2_refuseIfLocked wsX2_refuseIfLocked) := goodIn_app (goodIn_of _ (by decide +kernel)) ggX2_setPattern_X2_refuseIfLocked
set_option maxRecDepth 20000 in
theorem ggX2_setPattern_X2_countFitting : GoodIn wsX2_setPattern wsX2_countFitting := goodIn_r _ [19, 20, 21, 22, 23, 7, 24, 3, 4, 5, 6, 8, 25, 26, 27, 28, 29, 30, 31, 32, 33, 39, 40, 41, 42, 43, 44, 45, 46] (by decide +kernel) (by decide +kernel)
set_option maxRecDepth 20000 in
theorem gX2_setPattern_X2_countFitting : GoodIn wsX2_setPattern (wsV RX2 101 RX2 yX2_countFitting wsX2_countFitting) := goodIn_app (goodIn_of _ (by decide +kernel)) ggX2_setPattern_X2_countFitting
theorem dX2_setPattern_0 : decode cX2_setPattern 0 = .ok (.iload_n 1, 1) := by decide +kernel
theorem dX2_setPattern_1 : decode cX2_setPattern 1 = .ok (.iconst 0, 1) := by decide +kernel
theorem dX2_setPattern_2 : decode cX2_setPattern 2 = .ok (.bipush 99, 2) := by decide +kernel
theorem dX2_setPattern_4 : decode cX2_setPattern 4 = .ok (.invokestatic 45, 3) := by decide +kernel
theorem dX2_setPattern_7 : decode cX2_setPattern 7 = .ok (.ifCond .eq 13, 3) := by decide +kernel
theorem dX2_setPattern_10 : decode cX2_setPattern 10 = .ok (.iload_n 2, 1) := by decide +kernel
theorem dX2_setPattern_11 : decode cX2_setPattern 11 = .ok (.iload_n 1, 1) := by decide +kernel
theorem dX2_setPattern_12 : decode cX2_setPattern 12 = .ok (.bipush 99, 2) := by decide +kernel
theorem dX2_setPattern_14 : decode cX2_setPattern 14 = .ok (.invokestatic 45, 3) := by decide +kernel
theorem dX2_setPattern_17 : decode cX2_setPattern 17 = .ok (.ifCond .ne 13, 3) := by decide +kernel
theorem dX2_setPattern_20 : decode cX2_setPattern 20 = .ok (.new 50, 3) := by decide +kernel
theorem dX2_setPattern_23 : decode cX2_setPattern 23 = .ok (.dup, 1) := by decide +kernel
theorem dX2_setPattern_24 : decode cX2_setPattern 24 = .ok (.ldc 99, 2) := by decide +kernel
theorem dX2_setPattern_26 : decode cX2_setPattern 26 = .ok (.invokespecial 54, 3) := by decide +kernel
theorem dX2_setPattern_29 : decode cX2_setPattern 29 = .ok (.athrow, 1) := by decide +kernel
theorem dX2_setPattern_30 : decode cX2_setPattern 30 = .ok (.aload_n 0, 1) := by decide +kernel
theorem dX2_setPattern_31 : decode cX2_setPattern 31 = .ok (.invokevirtual 89, 3) := by decide +kernel
theorem dX2_setPattern_34 : decode cX2_setPattern 34 = .ok (.aload_n 0, 1) := by decide +kernel
theorem dX2_setPattern_35 : decode cX2_setPattern 35 = .ok (.iload_n 1, 1) := by decide +kernel
theorem dX2_setPattern_36 : decode cX2_setPattern 36 = .ok (.putfield 32, 3) := by decide +kernel
theorem dX2_setPattern_39 : decode cX2_setPattern 39 = .ok (.aload_n 0, 1) := by decide +kernel
theorem dX2_setPattern_40 : decode cX2_setPattern 40 = .ok (.iload_n 2, 1) := by decide +kernel
theorem dX2_setPattern_41 : decode cX2_setPattern 41 = .ok (.putfield 35, 3) := by decide +kernel
theorem dX2_setPattern_44 : decode cX2_setPattern 44 = .ok (.aload_n 0, 1) := by decide +kernel
theorem dX2_setPattern_45 : decode cX2_setPattern 45 = .ok (.invokevirtual 101, 3) := by decide +kernel
theorem dX2_setPattern_48 : decode cX2_setPattern 48 = .ok (.ireturn, 1) := by decide +kernel
set_option maxRecDepth 20000 in
theorem ggX2_start_X2_nextEntry : GoodIn wsX2_start wsX2_nextEntry := goodIn_r _ [11, 4, 12, 13, 14, 15, 10, 16, 17, 18, 19, 20, 21, 22, 23, 24, 25, 26, 27, 28, 29, 30, 31, 32, 33, 34, 35, 36, 37, 38, 39, 40, 41, 42, 43, 44, 45, 46, 47, 48, 49, 50, 51, 52, 53, 54, 55, 56, 57, 58, 59, 60, 78, 79, 80, 81, 82, 83, 84, 85, 86, 87, 88, 89, 90, 91, 92, 93, 94] (by decide +kernel) (by decide +kernel)
set_option maxRecDepth 20000 in
theorem gX2_start_X2_nextEntry : GoodIn wsX2_start (wsV RX2 104 RX2 yX2_nextEntry wsX2_nextEntry) := goodIn_app (goodIn_of _ (by decide +kernel)) ggX2_start_X2_nextEntry
set_option maxRecDepth 20000 in
theorem ggX2_start_X2_measure : GoodIn wsX2_start wsX2_measure := goodIn_r _ [64, 6, 65, 66, 67, 10, 68, 69, 78, 79, 80, 81, 82, 83, 84, 85, 86, 95, 96, 97, 98, 99, 87, 88, 89, 90, 91, 92, 93, 94] (by decide +kernel) (by decide +kernel)
set_option maxRecDepth 20000 in
theorem gX2_start_X2_measure : GoodIn wsX2_start (wsV RX2 109 RX2 yX2_measure wsX2_measure) := goodIn_app (goodIn_of _ (by decide +kernel)) ggX2_start_X2_measure
set_option maxRecDepth 20000 in
theorem ggX2_start_X1_useTry : GoodIn wsX2_start wsX1_useTry := goodIn_r _ [72, 22, 87, 88, 89, 90, 91, 92, 93, 94] (by decide +kernel) (by decide +kernel)
set_option maxRecDepth 20000 in
theorem gX2_start_X1_useTry_n113 : GoodIn wsX2_start (wsX1_useTry) := ggX2_start_X1_useTry
set_option maxRecDepth 20000 in
theorem ggX2_start_X0_forgetDigits : GoodIn wsX2_start wsX0_forgetDigits := goodIn_r _ [76, 77, 95, 96, 97, 98, 99] (by decide +kernel) (by decide +kernel)
set_option maxRecDepth 20000 in
theorem gX2_start_X0_forgetDigits_n116 : GoodIn wsX2_start (wsX0_forgetDigits) := ggX2_start_X0_forgetDigits
theorem dX2_start_0 : decode cX2_start 0 = .ok (.aload_n 0, 1) := by decide +kernel
theorem dX2_start_1 : decode cX2_start 1 = .ok (.invokevirtual 104, 3) := by decide +kernel
theorem dX2_start_4 : decode cX2_start 4 = .ok (.astore_n 1, 1) := by decide +kernel
theorem dX2_start_5 : decode cX2_start 5 = .ok (.aload_n 1, 1) := by decide +kernel
theorem dX2_start_6 : decode cX2_start 6 = .ok (.ifnonnull 13, 3) := by decide +kernel
theorem dX2_start_9 : decode cX2_start 9 = .ok (.new 63, 3) := by decide +kernel
theorem dX2_start_12 : decode cX2_start 12 = .ok (.dup, 1) := by decide +kernel
theorem dX2_start_13 : decode cX2_start 13 = .ok (.ldc 107, 2) := by decide +kernel
theorem dX2_start_15 : decode cX2_start 15 = .ok (.invokespecial 67, 3) := by decide +kernel
theorem dX2_start_18 : decode cX2_start 18 = .ok (.athrow, 1) := by decide +kernel
theorem dX2_start_19 : decode cX2_start 19 = .ok (.aload_n 0, 1) := by decide +kernel
theorem dX2_start_20 : decode cX2_start 20 = .ok (.aload_n 0, 1) := by decide +kernel
theorem dX2_start_21 : decode cX2_start 21 = .ok (.aload_n 1, 1) := by decide +kernel
theorem dX2_start_22 : decode cX2_start 22 = .ok (.invokevirtual 109, 3) := by decide +kernel
theorem dX2_start_25 : decode cX2_start 25 = .ok (.putfield 41, 3) := by decide +kernel
theorem dX2_start_28 : decode cX2_start 28 = .ok (.aload_n 0, 1) := by decide +kernel
theorem dX2_start_29 : decode cX2_start 29 = .ok (.iconst (-1), 1) := by decide +kernel
theorem dX2_start_30 : decode cX2_start 30 = .ok (.putfield 29, 3) := by decide +kernel
theorem dX2_start_33 : decode cX2_start 33 = .ok (.aload_n 0, 1) := by decide +kernel
theorem dX2_start_34 : decode cX2_start 34 = .ok (.aload_n 1, 1) := by decide +kernel
theorem dX2_start_35 : decode cX2_start 35 = .ok (.getfield 72, 3) := by decide +kernel
theorem dX2_start_38 : decode cX2_start 38 = .ok (.putfield 38, 3) := by decide +kernel
theorem dX2_start_41 : decode cX2_start 41 = .ok (.aload_n 1, 1) := by decide +kernel
theorem dX2_start_42 : decode cX2_start 42 = .ok (.invokevirtual 113, 3) := by decide +kernel
theorem dX2_start_45 : decode cX2_start 45 = .ok (.aload_n 0, 1) := by decide +kernel
theorem dX2_start_46 : decode cX2_start 46 = .ok (.getfield 18, 3) := by decide +kernel
theorem dX2_start_49 : decode cX2_start 49 = .ok (.invokevirtual 116, 3) := by decide +kernel
theorem dX2_start_52 : decode cX2_start 52 = .ok (.aload_n 1, 1) := by decide +kernel
theorem dX2_start_53 : decode cX2_start 53 = .ok (.getfield 72, 3) := by decide +kernel
theorem dX2_start_56 : decode cX2_start 56 = .ok (.ireturn, 1) := by decide +kernel
set_option maxRecDepth 20000 in
theorem ggX2_good_X2_findEntry : GoodIn wsX2_good wsX2_findEntry := goodIn_r _ [8, 9, 10, 11, 12, 13, 14, 15, 16, 17, 18, 19, 20, 21, 22, 23, 24, 25, 26] (by decide +kernel) (by decide +kernel)
set_option maxRecDepth 20000 in
theorem gX2_good_X2_findEntry : GoodIn wsX2_good (wsV RX2 121 RX2 yX2_findEntry wsX2_findEntry) := goodIn_app (goodIn_of _ (by decide +kernel)) ggX2_good_X2_findEntry
theorem dX2_good_0 : decode cX2_good 0 = .ok (.aload_n 0, 1) := by decide +kernel
theorem dX2_good_1 : decode cX2_good 1 = .ok (.getfield 38, 3) := by decide +kernel
theorem dX2_good_4 : decode cX2_good 4 = .ok (.iconst (-1), 1) := by decide +kernel
theorem dX2_good_5 : decode cX2_good 5 = .ok (.if_icmp .ne 13, 3) := by decide +kernel
theorem dX2_good_8 : decode cX2_good 8 = .ok (.new 63, 3) := by decide +kernel
theorem dX2_good_11 : decode cX2_good 11 = .ok (.dup, 1) := by decide +kernel
theorem dX2_good_12 : decode cX2_good 12 = .ok (.ldc 119, 2) := by decide +kernel
theorem dX2_good_14 : decode cX2_good 14 = .ok (.invokespecial 67, 3) := by decide +kernel
theorem dX2_good_17 : decode cX2_good 17 = .ok (.athrow, 1) := by decide +kernel
theorem dX2_good_18 : decode cX2_good 18 = .ok (.aload_n 0, 1) := by decide +kernel
theorem dX2_good_19 : decode cX2_good 19 = .ok (.aload_n 0, 1) := by decide +kernel
theorem dX2_good_20 : decode cX2_good 20 = .ok (.getfield 38, 3) := by decide +kernel
theorem dX2_good_23 : decode cX2_good 23 = .ok (.invokevirtual 121, 3) := by decide +kernel
theorem dX2_good_26 : decode cX2_good 26 = .ok (.astore_n 1, 1) := by decide +kernel
theorem dX2_good_27 : decode cX2_good 27 = .ok (.aload_n 1, 1) := by decide +kernel
theorem dX2_good_28 : decode cX2_good 28 = .ok (.ifnonnull 5, 3) := by decide +kernel
theorem dX2_good_31 : decode cX2_good 31 = .ok (.iconst (-1), 1) := by decide +kernel
theorem dX2_good_32 : decode cX2_good 32 = .ok (.ireturn, 1) := by decide +kernel
theorem dX2_good_33 : decode cX2_good 33 = .ok (.aload_n 1, 1) := by decide +kernel
theorem dX2_good_34 : decode cX2_good 34 = .ok (.getfield 124, 3) := by decide +kernel
theorem dX2_good_37 : decode cX2_good 37 = .ok (.istore_n 2, 1) := by decide +kernel
theorem dX2_good_38 : decode cX2_good 38 = .ok (.aload_n 1, 1) := by decide +kernel
theorem dX2_good_39 : decode cX2_good 39 = .ok (.iconst (-1), 1) := by decide +kernel
theorem dX2_good_40 : decode cX2_good 40 = .ok (.putfield 124, 3) := by decide +kernel
theorem dX2_good_43 : decode cX2_good 43 = .ok (.iload_n 2, 1) := by decide +kernel
theorem dX2_good_44 : decode cX2_good 44 = .ok (.ireturn, 1) := by decide +kernel
theorem dX2_running_0 : decode cX2_running 0 = .ok (.aload_n 0, 1) := by decide +kernel
theorem dX2_running_1 : decode cX2_running 1 = .ok (.getfield 38, 3) := by decide +kernel
theorem dX2_running_4 : decode cX2_running 4 = .ok (.ireturn, 1) := by decide +kernel
set_option maxRecDepth 20000 in
theorem ggX2_next_X2_nextEntry : GoodIn wsX2_next wsX2_nextEntry := goodIn_r _ [5, 6, 7, 8, 9, 10, 4, 11, 12, 13, 14, 15, 16, 17, 18, 19, 20, 21, 22, 23, 24, 25, 26, 27, 28, 29, 30, 31, 32, 33, 34, 35, 36, 37, 38, 39, 40, 41, 42, 43, 44, 45, 46, 47, 48, 49, 50, 51, 52, 53, 54, 55, 64, 65, 66, 67, 68, 69, 70, 71, 72, 56, 57, 58, 59, 60, 61, 62, 63] (by decide +kernel) (by decide +kernel)
set_option maxRecDepth 20000 in
theorem gX2_next_X2_nextEntry : GoodIn wsX2_next (wsV RX2 104 RX2 yX2_nextEntry wsX2_nextEntry) := goodIn_app (goodIn_of _ (by decide +kernel)) ggX2_next_X2_nextEntry
theorem dX2_next_0 : decode cX2_next 0 = .ok (.aload_n 0, 1) := by decide +kernel
theorem dX2_next_1 : decode cX2_next 1 = .ok (.invokevirtual 104, 3) := by decide +kernel
theorem dX2_next_4 : decode cX2_next 4 = .ok (.astore_n 1, 1) := by decide +kernel
theorem dX2_next_5 : decode cX2_next 5 = .ok (.aload_n 1, 1) := by decide +kernel
theorem dX2_next_6 : decode cX2_next 6 = .ok (.ifnonnull 7, 3) := by decide +kernel
theorem dX2_next_9 : decode cX2_next 9 = .ok (.iconst (-1), 1) := by decide +kernel
theorem dX2_next_10 : decode cX2_next 10 = .ok (.goto 7, 3) := by decide +kernel
theorem dX2_next_13 : decode cX2_next 13 = .ok (.aload_n 1, 1) := by decide +kernel
theorem dX2_next_14 : decode cX2_next 14 = .ok (.getfield 72, 3) := by decide +kernel
theorem dX2_next_17 : decode cX2_next 17 = .ok (.ireturn, 1) := by decide +kernel
set_option maxRecDepth 20000 in
theorem ggX2_lock_X2_isWithin : GoodIn wsX2_lock wsX2_isWithin := goodIn_r _ [7] (by decide +kernel) (by decide +kernel)
set_option maxRecDepth 20000 in
theorem gX2_lock_X2_isWithin : GoodIn wsX2_lock (va_wsS RX2 45 yX2_isWithin wsX2_isWithin) := goodIn_app (goodIn_of _ (by decide +kernel)) ggX2_lock_X2_isWithin
set_option maxRecDepth 20000 in
theorem ggX2_lock_X2_highestCode : GoodIn wsX2_lock wsX2_highestCode := goodIn_r _ [10] (by decide +kernel) (by decide +kernel)
set_option maxRecDepth 20000 in
theorem gX2_lock_X2_highestCode : GoodIn wsX2_lock (va_wsS RX2 129 yX2_highestCode wsX2_highestCode) := goodIn_app (goodIn_of _ (by decide +kernel)) ggX2_lock_X2_highestCode
set_option maxRecDepth 20000 in
theorem ggX2_lock_X2_refuseIfLocked : GoodIn wsX2_lock wsX2_refuseIfLocked := goodIn_ca (goodIn_r _ [14, 15, 16, 3, 29, 30, 31, 32, 33, 34, 35, 36, 37, 38, 39, 40, 41, 42] (by decide +kernel) (by decide +kernel)) (goodIn_sub (fun _ h => List.mem_cons_of_mem _ (List.mem_append_right _ h)) (by decide +kernel))
set_option maxRecDepth 20000 in
theorem gX2_lock_X2_refuseIfLocked : GoodIn wsX2_lock (wsV RX2 89 RX2 yX2_refuseIfLocked wsX2_refuseIfLocked) := goodIn_app (goodIn_of _ (by decide +kernel)) ggX2_lock_X2_refuseIfLocked
set_option maxRecDepth 20000 in
theorem ggX2_lock_X0_close : GoodIn wsX2_lock wsX0_close := goodIn_r _ [20, 21, 22, 23, 24, 25, 26, 18, 27, 28, 38, 39, 40, 41, 42] (by decide +kernel) (by decide +kernel)
set_option maxRecDepth 20000 in
theorem gX2_lock_X0_close_n135 : GoodIn wsX2_lock (wsX0_close) := ggX2_lock_X0_close
theorem dX2_lock_0 : decode cX2_lock 0 = .ok (.iload_n 2, 1) := by decide +kernel
theorem dX2_lock_1 : decode cX2_lock 1 = .ok (.iconst 1, 1) := by decide +kernel
theorem dX2_lock_2 : decode cX2_lock 2 = .ok (.bipush 6, 2) := by decide +kernel
theorem dX2_lock_4 : decode cX2_lock 4 = .ok (.invokestatic 45, 3) := by decide +kernel
theorem dX2_lock_7 : decode cX2_lock 7 = .ok (.ifCond .ne 13, 3) := by decide +kernel
theorem dX2_lock_10 : decode cX2_lock 10 = .ok (.new 50, 3) := by decide +kernel
theorem dX2_lock_13 : decode cX2_lock 13 = .ok (.dup, 1) := by decide +kernel
theorem dX2_lock_14 : decode cX2_lock 14 = .ok (.ldc 127, 2) := by decide +kernel
theorem dX2_lock_16 : decode cX2_lock 16 = .ok (.invokespecial 54, 3) := by decide +kernel
theorem dX2_lock_19 : decode cX2_lock 19 = .ok (.athrow, 1) := by decide +kernel
theorem dX2_lock_20 : decode cX2_lock 20 = .ok (.iload_n 1, 1) := by decide +kernel
theorem dX2_lock_21 : decode cX2_lock 21 = .ok (.iconst 0, 1) := by decide +kernel
theorem dX2_lock_22 : decode cX2_lock 22 = .ok (.iload_n 2, 1) := by decide +kernel
theorem dX2_lock_23 : decode cX2_lock 23 = .ok (.invokestatic 129, 3) := by decide +kernel
theorem dX2_lock_26 : decode cX2_lock 26 = .ok (.invokestatic 45, 3) := by decide +kernel
theorem dX2_lock_29 : decode cX2_lock 29 = .ok (.ifCond .ne 13, 3) := by decide +kernel
theorem dX2_lock_32 : decode cX2_lock 32 = .ok (.new 50, 3) := by decide +kernel
theorem dX2_lock_35 : decode cX2_lock 35 = .ok (.dup, 1) := by decide +kernel
theorem dX2_lock_36 : decode cX2_lock 36 = .ok (.ldc 133, 2) := by decide +kernel
theorem dX2_lock_38 : decode cX2_lock 38 = .ok (.invokespecial 54, 3) := by decide +kernel
theorem dX2_lock_41 : decode cX2_lock 41 = .ok (.athrow, 1) := by decide +kernel
theorem dX2_lock_42 : decode cX2_lock 42 = .ok (.aload_n 0, 1) := by decide +kernel
theorem dX2_lock_43 : decode cX2_lock 43 = .ok (.invokevirtual 89, 3) := by decide +kernel
theorem dX2_lock_46 : decode cX2_lock 46 = .ok (.aload_n 0, 1) := by decide +kernel
theorem dX2_lock_47 : decode cX2_lock 47 = .ok (.getfield 18, 3) := by decide +kernel
theorem dX2_lock_50 : decode cX2_lock 50 = .ok (.iload_n 1, 1) := by decide +kernel
theorem dX2_lock_51 : decode cX2_lock 51 = .ok (.iload_n 2, 1) := by decide +kernel
theorem dX2_lock_52 : decode cX2_lock 52 = .ok (.invokevirtual 135, 3) := by decide +kernel
theorem dX2_lock_55 : decode cX2_lock 55 = .ok (.return_, 1) := by decide +kernel
set_option maxRecDepth 20000 in
theorem ggX2_enter_X2_isWithin : GoodIn wsX2_enter wsX2_isWithin := goodIn_r _ [7] (by decide +kernel) (by decide +kernel)
set_option maxRecDepth 20000 in
theorem gX2_enter_X2_isWithin : GoodIn wsX2_enter (va_wsS RX2 45 yX2_isWithin wsX2_isWithin) := goodIn_app (goodIn_of _ (by decide +kernel)) ggX2_enter_X2_isWithin
set_option maxRecDepth 20000 in
theorem ggX2_enter_X0_takeDigit : GoodIn wsX2_enter wsX0_takeDigit := goodIn_ca (goodIn_r _ [11, 12, 13, 14, 15, 16, 17, 18, 19, 9, 20, 21, 22, 32, 33, 34, 35, 36] (by decide +kernel) (by decide +kernel)) (goodIn_sub (fun _ h => List.mem_cons_of_mem _ (List.mem_append_right _ h)) (by decide +kernel))
set_option maxRecDepth 20000 in
theorem gX2_enter_X0_takeDigit_n141 : GoodIn wsX2_enter (wsX0_takeDigit) := ggX2_enter_X0_takeDigit
theorem dX2_enter_0 : decode cX2_enter 0 = .ok (.iload_n 1, 1) := by decide +kernel
theorem dX2_enter_1 : decode cX2_enter 1 = .ok (.iconst 0, 1) := by decide +kernel
theorem dX2_enter_2 : decode cX2_enter 2 = .ok (.bipush 9, 2) := by decide +kernel
theorem dX2_enter_4 : decode cX2_enter 4 = .ok (.invokestatic 45, 3) := by decide +kernel
theorem dX2_enter_7 : decode cX2_enter 7 = .ok (.ifCond .ne 13, 3) := by decide +kernel
theorem dX2_enter_10 : decode cX2_enter 10 = .ok (.new 50, 3) := by decide +kernel
theorem dX2_enter_13 : decode cX2_enter 13 = .ok (.dup, 1) := by decide +kernel
theorem dX2_enter_14 : decode cX2_enter 14 = .ok (.ldc 139, 2) := by decide +kernel
theorem dX2_enter_16 : decode cX2_enter 16 = .ok (.invokespecial 54, 3) := by decide +kernel
theorem dX2_enter_19 : decode cX2_enter 19 = .ok (.athrow, 1) := by decide +kernel
theorem dX2_enter_20 : decode cX2_enter 20 = .ok (.aload_n 0, 1) := by decide +kernel
theorem dX2_enter_21 : decode cX2_enter 21 = .ok (.getfield 18, 3) := by decide +kernel
theorem dX2_enter_24 : decode cX2_enter 24 = .ok (.iload_n 1, 1) := by decide +kernel
theorem dX2_enter_25 : decode cX2_enter 25 = .ok (.invokevirtual 141, 3) := by decide +kernel
theorem dX2_enter_28 : decode cX2_enter 28 = .ok (.ireturn, 1) := by decide +kernel
theorem dX2_isLocked_0 : decode cX2_isLocked 0 = .ok (.aload_n 0, 1) := by decide +kernel
theorem dX2_isLocked_1 : decode cX2_isLocked 1 = .ok (.getfield 18, 3) := by decide +kernel
theorem dX2_isLocked_4 : decode cX2_isLocked 4 = .ok (.getfield 145, 3) := by decide +kernel
theorem dX2_isLocked_7 : decode cX2_isLocked 7 = .ok (.ireturn, 1) := by decide +kernel
set_option maxRecDepth 20000 in
theorem ggX2_entries_X2_countEntries : GoodIn wsX2_entries wsX2_countEntries := goodIn_r _ [5, 6, 7, 8, 9, 10, 11, 12, 13, 14, 15, 16, 17, 18, 19, 20, 21, 22, 23] (by decide +kernel) (by decide +kernel)
set_option maxRecDepth 20000 in
theorem gX2_entries_X2_countEntries : GoodIn wsX2_entries (wsV RX2 83 RX2 yX2_countEntries wsX2_countEntries) := goodIn_app (goodIn_of _ (by decide +kernel)) ggX2_entries_X2_countEntries
theorem dX2_entries_0 : decode cX2_entries 0 = .ok (.aload_n 0, 1) := by decide +kernel
theorem dX2_entries_1 : decode cX2_entries 1 = .ok (.invokevirtual 83, 3) := by decide +kernel
theorem dX2_entries_4 : decode cX2_entries 4 = .ok (.ireturn, 1) := by decide +kernel
set_option maxRecDepth 20000 in
theorem ggX2_at_X2_entryWithPlace : GoodIn wsX2_at wsX2_entryWithPlace := goodIn_r _ [7, 8, 9, 10, 11, 6, 12, 13, 14, 15, 16, 17, 18, 19, 20, 21, 22, 23, 24, 25, 26, 27, 28, 29, 30, 31, 32, 33, 34, 43, 44, 45, 46, 47, 48, 49, 50, 51, 35, 36, 37, 38, 39, 40, 41, 42] (by decide +kernel) (by decide +kernel)
set_option maxRecDepth 20000 in
theorem gX2_at_X2_entryWithPlace : GoodIn wsX2_at (wsV RX2 148 RX2 yX2_entryWithPlace wsX2_entryWithPlace) := goodIn_app (goodIn_of _ (by decide +kernel)) ggX2_at_X2_entryWithPlace
theorem dX2_at_0 : decode cX2_at 0 = .ok (.aload_n 0, 1) := by decide +kernel
theorem dX2_at_1 : decode cX2_at 1 = .ok (.iload_n 1, 1) := by decide +kernel
theorem dX2_at_2 : decode cX2_at 2 = .ok (.invokevirtual 148, 3) := by decide +kernel
theorem dX2_at_5 : decode cX2_at 5 = .ok (.astore_n 2, 1) := by decide +kernel
theorem dX2_at_6 : decode cX2_at 6 = .ok (.aload_n 2, 1) := by decide +kernel
theorem dX2_at_7 : decode cX2_at 7 = .ok (.ifnonnull 13, 3) := by decide +kernel
theorem dX2_at_10 : decode cX2_at 10 = .ok (.new 151, 3) := by decide +kernel
theorem dX2_at_13 : decode cX2_at 13 = .ok (.dup, 1) := by decide +kernel
theorem dX2_at_14 : decode cX2_at 14 = .ok (.ldc 153, 2) := by decide +kernel
theorem dX2_at_16 : decode cX2_at 16 = .ok (.invokespecial 155, 3) := by decide +kernel
theorem dX2_at_19 : decode cX2_at 19 = .ok (.athrow, 1) := by decide +kernel
theorem dX2_at_20 : decode cX2_at 20 = .ok (.aload_n 2, 1) := by decide +kernel
theorem dX2_at_21 : decode cX2_at 21 = .ok (.getfield 72, 3) := by decide +kernel
theorem dX2_at_24 : decode cX2_at 24 = .ok (.ireturn, 1) := by decide +kernel
set_option maxRecDepth 20000 in
theorem ggX2_placeOf_X2_presentEntry : GoodIn wsX2_placeOf wsX2_presentEntry := goodIn_ca (goodIn_r _ [5, 6, 7, 8, 9, 10, 4, 11, 12, 39, 40, 41, 42, 43, 44, 45, 46, 47, 48, 49, 50, 51, 52, 53, 54, 55] (by decide +kernel) (by decide +kernel)) (goodIn_sub (fun _ h => List.mem_cons_of_mem _ (List.mem_append_right _ h)) (by decide +kernel))
set_option maxRecDepth 20000 in
theorem gX2_placeOf_X2_presentEntry : GoodIn wsX2_placeOf (wsV RX2 75 RX2 yX2_presentEntry wsX2_presentEntry) := goodIn_app (goodIn_of _ (by decide +kernel)) ggX2_placeOf_X2_presentEntry
set_option maxRecDepth 20000 in
theorem ggX2_placeOf_X2_countAhead : GoodIn wsX2_placeOf wsX2_countAhead := goodIn_r _ [16, 12, 17, 18, 19, 20, 21, 22, 23, 24, 25, 26, 27, 28, 29, 30, 31, 32, 33, 34, 35, 36, 37, 38, 39, 40, 41, 42, 43, 44, 45, 46, 47, 48, 49, 50, 51, 52, 53, 54, 55] (by decide +kernel) (by decide +kernel)
set_option maxRecDepth 20000 in
theorem gX2_placeOf_X2_countAhead : GoodIn wsX2_placeOf (wsV RX2 156 RX2 yX2_countAhead wsX2_countAhead) := goodIn_app (goodIn_of _ (by decide +kernel)) ggX2_placeOf_X2_countAhead
theorem dX2_placeOf_0 : decode cX2_placeOf 0 = .ok (.aload_n 0, 1) := by decide +kernel
theorem dX2_placeOf_1 : decode cX2_placeOf 1 = .ok (.aload_n 0, 1) := by decide +kernel
theorem dX2_placeOf_2 : decode cX2_placeOf 2 = .ok (.iload_n 1, 1) := by decide +kernel
theorem dX2_placeOf_3 : decode cX2_placeOf 3 = .ok (.invokevirtual 75, 3) := by decide +kernel
theorem dX2_placeOf_6 : decode cX2_placeOf 6 = .ok (.invokevirtual 156, 3) := by decide +kernel
theorem dX2_placeOf_9 : decode cX2_placeOf 9 = .ok (.ireturn, 1) := by decide +kernel
set_option maxRecDepth 20000 in
theorem ggX2_tries_X2_presentEntry : GoodIn wsX2_tries wsX2_presentEntry := goodIn_ca (goodIn_r _ [5, 6, 7, 8, 9, 10, 4, 11, 12, 21, 22, 23, 24, 25, 26, 27, 28, 29, 13, 14, 15, 16, 17, 18, 19, 20] (by decide +kernel) (by decide +kernel)) (goodIn_sub (fun _ h => List.mem_cons_of_mem _ (List.mem_append_right _ h)) (by decide +kernel))
set_option maxRecDepth 20000 in
theorem gX2_tries_X2_presentEntry : GoodIn wsX2_tries (wsV RX2 75 RX2 yX2_presentEntry wsX2_presentEntry) := goodIn_app (goodIn_of _ (by decide +kernel)) ggX2_tries_X2_presentEntry
theorem dX2_tries_0 : decode cX2_tries 0 = .ok (.aload_n 0, 1) := by decide +kernel
theorem dX2_tries_1 : decode cX2_tries 1 = .ok (.iload_n 1, 1) := by decide +kernel
theorem dX2_tries_2 : decode cX2_tries 2 = .ok (.invokevirtual 75, 3) := by decide +kernel
theorem dX2_tries_5 : decode cX2_tries 5 = .ok (.getfield 124, 3) := by decide +kernel
theorem dX2_tries_8 : decode cX2_tries 8 = .ok (.ireturn, 1) := by decide +kernel
set_option maxRecDepth 20000 in
theorem ggX2_compare_X2_presentEntry : GoodIn wsX2_compare wsX2_presentEntry := goodIn_ca (goodIn_r _ [5, 6, 7, 8, 9, 10, 4, 11, 12, 23, 24, 25, 26, 27, 28, 29, 30, 31, 32, 33, 34, 35, 36, 37, 38, 39] (by decide +kernel) (by decide +kernel)) (goodIn_sub (fun _ h => List.mem_cons_of_mem _ (List.mem_append_right _ h)) (by decide +kernel))
set_option maxRecDepth 20000 in
theorem gX2_compare_X2_presentEntry : GoodIn wsX2_compare (wsV RX2 75 RX2 yX2_presentEntry wsX2_presentEntry) := goodIn_app (goodIn_of _ (by decide +kernel)) ggX2_compare_X2_presentEntry
set_option maxRecDepth 20000 in
theorem ggX2_compare_X1_compareVersion : GoodIn wsX2_compare wsX1_compareVersion := goodIn_r _ [16, 17, 18, 19, 20, 21, 22, 32, 33, 34, 35, 36, 37, 38, 39] (by decide +kernel) (by decide +kernel)
set_option maxRecDepth 20000 in
theorem gX2_compare_X1_compareVersion_n159 : GoodIn wsX2_compare (wsX1_compareVersion) := ggX2_compare_X1_compareVersion
theorem dX2_compare_0 : decode cX2_compare 0 = .ok (.aload_n 0, 1) := by decide +kernel
theorem dX2_compare_1 : decode cX2_compare 1 = .ok (.iload_n 1, 1) := by decide +kernel
theorem dX2_compare_2 : decode cX2_compare 2 = .ok (.invokevirtual 75, 3) := by decide +kernel
theorem dX2_compare_5 : decode cX2_compare 5 = .ok (.astore_n 3, 1) := by decide +kernel
theorem dX2_compare_6 : decode cX2_compare 6 = .ok (.aload_n 0, 1) := by decide +kernel
theorem dX2_compare_7 : decode cX2_compare 7 = .ok (.iload_n 2, 1) := by decide +kernel
theorem dX2_compare_8 : decode cX2_compare 8 = .ok (.invokevirtual 75, 3) := by decide +kernel
theorem dX2_compare_11 : decode cX2_compare 11 = .ok (.astore 4, 2) := by decide +kernel
theorem dX2_compare_13 : decode cX2_compare 13 = .ok (.aload_n 3, 1) := by decide +kernel
theorem dX2_compare_14 : decode cX2_compare 14 = .ok (.aload 4, 2) := by decide +kernel
theorem dX2_compare_16 : decode cX2_compare 16 = .ok (.invokevirtual 159, 3) := by decide +kernel
theorem dX2_compare_19 : decode cX2_compare 19 = .ok (.ireturn, 1) := by decide +kernel
set_option maxRecDepth 20000 in
theorem ggX2_foretold_X2_presentEntry : GoodIn wsX2_foretold wsX2_presentEntry := goodIn_ca (goodIn_r _ [5, 6, 7, 8, 9, 10, 4, 11, 12, 23, 24, 25, 26, 27, 28, 29, 30, 31, 32, 33, 34, 35, 36, 37, 38, 39] (by decide +kernel) (by decide +kernel)) (goodIn_sub (fun _ h => List.mem_cons_of_mem _ (List.mem_append_right _ h)) (by decide +kernel))
set_option maxRecDepth 20000 in
theorem gX2_foretold_X2_presentEntry : GoodIn wsX2_foretold (wsV RX2 75 RX2 yX2_presentEntry wsX2_presentEntry) := goodIn_app (goodIn_of _ (by decide +kernel)) ggX2_foretold_X2_presentEntry
set_option maxRecDepth 20000 in
theorem ggX2_foretold_X2_measure : GoodIn wsX2_foretold wsX2_measure := goodIn_r _ [16, 17, 18, 19, 20, 4, 21, 22, 23, 24, 25, 26, 27, 28, 29, 30, 31, 40, 41, 42, 43, 44, 32, 33, 34, 35, 36, 37, 38, 39] (by decide +kernel) (by decide +kernel)
set_option maxRecDepth 20000 in
theorem gX2_foretold_X2_measure : GoodIn wsX2_foretold (wsV RX2 109 RX2 yX2_measure wsX2_measure) := goodIn_app (goodIn_of _ (by decide +kernel)) ggX2_foretold_X2_measure
theorem dX2_foretold_0 : decode cX2_foretold 0 = .ok (.aload_n 0, 1) := by decide +kernel
theorem dX2_foretold_1 : decode cX2_foretold 1 = .ok (.aload_n 0, 1) := by decide +kernel
theorem dX2_foretold_2 : decode cX2_foretold 2 = .ok (.iload_n 1, 1) := by decide +kernel
theorem dX2_foretold_3 : decode cX2_foretold 3 = .ok (.invokevirtual 75, 3) := by decide +kernel
theorem dX2_foretold_6 : decode cX2_foretold 6 = .ok (.invokevirtual 109, 3) := by decide +kernel
theorem dX2_foretold_9 : decode cX2_foretold 9 = .ok (.ireturn, 1) := by decide +kernel
theorem dX2_register_0 : decode cX2_register 0 = .ok (.aload_n 0, 1) := by decide +kernel
theorem dX2_register_1 : decode cX2_register 1 = .ok (.getfield 41, 3) := by decide +kernel
theorem dX2_register_4 : decode cX2_register 4 = .ok (.ireturn, 1) := by decide +kernel
set_option maxRecDepth 20000 in
theorem ggX2_presentEntry_X2_findEntry : GoodIn wsX2_presentEntry wsX2_findEntry := goodIn_r _ [7, 8, 9, 10, 11, 12, 13, 14, 15, 16, 17, 18, 19, 20, 21, 22, 23, 24, 25] (by decide +kernel) (by decide +kernel)
set_option maxRecDepth 20000 in
theorem gX2_presentEntry_X2_findEntry : GoodIn wsX2_presentEntry (wsV RX2 121 RX2 yX2_findEntry wsX2_findEntry) := goodIn_app (goodIn_of _ (by decide +kernel)) ggX2_presentEntry_X2_findEntry
theorem dX2_presentEntry_0 : decode cX2_presentEntry 0 = .ok (.aload_n 0, 1) := by decide +kernel
theorem dX2_presentEntry_1 : decode cX2_presentEntry 1 = .ok (.iload_n 1, 1) := by decide +kernel
theorem dX2_presentEntry_2 : decode cX2_presentEntry 2 = .ok (.invokevirtual 121, 3) := by decide +kernel
theorem dX2_presentEntry_5 : decode cX2_presentEntry 5 = .ok (.astore_n 2, 1) := by decide +kernel
theorem dX2_presentEntry_6 : decode cX2_presentEntry 6 = .ok (.aload_n 2, 1) := by decide +kernel
theorem dX2_presentEntry_7 : decode cX2_presentEntry 7 = .ok (.ifnonnull 13, 3) := by decide +kernel
theorem dX2_presentEntry_10 : decode cX2_presentEntry 10 = .ok (.new 151, 3) := by decide +kernel
theorem dX2_presentEntry_13 : decode cX2_presentEntry 13 = .ok (.dup, 1) := by decide +kernel
theorem dX2_presentEntry_14 : decode cX2_presentEntry 14 = .ok (.ldc 162, 2) := by decide +kernel
theorem dX2_presentEntry_16 : decode cX2_presentEntry 16 = .ok (.invokespecial 155, 3) := by decide +kernel
theorem dX2_presentEntry_19 : decode cX2_presentEntry 19 = .ok (.athrow, 1) := by decide +kernel
theorem dX2_presentEntry_20 : decode cX2_presentEntry 20 = .ok (.aload_n 2, 1) := by decide +kernel
theorem dX2_presentEntry_21 : decode cX2_presentEntry 21 = .ok (.areturn, 1) := by decide +kernel
set_option maxRecDepth 20000 in
theorem ggX2_refuseAsChoice_X2_findEntry : GoodIn wsX2_refuseAsChoice wsX2_findEntry := goodIn_r _ [7, 8, 9, 10, 11, 12, 13, 14, 15, 16, 17, 18, 19, 20, 21, 22, 23, 24, 25] (by decide +kernel) (by decide +kernel)
set_option maxRecDepth 20000 in
theorem gX2_refuseAsChoice_X2_findEntry : GoodIn wsX2_refuseAsChoice (wsV RX2 121 RX2 yX2_findEntry wsX2_findEntry) := goodIn_app (goodIn_of _ (by decide +kernel)) ggX2_refuseAsChoice_X2_findEntry
theorem dX2_refuseAsChoice_0 : decode cX2_refuseAsChoice 0 = .ok (.iload_n 1, 1) := by decide +kernel
theorem dX2_refuseAsChoice_1 : decode cX2_refuseAsChoice 1 = .ok (.iconst (-1), 1) := by decide +kernel
theorem dX2_refuseAsChoice_2 : decode cX2_refuseAsChoice 2 = .ok (.if_icmp .eq 21, 3) := by decide +kernel
theorem dX2_refuseAsChoice_5 : decode cX2_refuseAsChoice 5 = .ok (.aload_n 0, 1) := by decide +kernel
theorem dX2_refuseAsChoice_6 : decode cX2_refuseAsChoice 6 = .ok (.iload_n 1, 1) := by decide +kernel
theorem dX2_refuseAsChoice_7 : decode cX2_refuseAsChoice 7 = .ok (.invokevirtual 121, 3) := by decide +kernel
theorem dX2_refuseAsChoice_10 : decode cX2_refuseAsChoice 10 = .ok (.ifnonnull 13, 3) := by decide +kernel
theorem dX2_refuseAsChoice_13 : decode cX2_refuseAsChoice 13 = .ok (.new 151, 3) := by decide +kernel
theorem dX2_refuseAsChoice_16 : decode cX2_refuseAsChoice 16 = .ok (.dup, 1) := by decide +kernel
theorem dX2_refuseAsChoice_17 : decode cX2_refuseAsChoice 17 = .ok (.ldc 162, 2) := by decide +kernel
theorem dX2_refuseAsChoice_19 : decode cX2_refuseAsChoice 19 = .ok (.invokespecial 155, 3) := by decide +kernel
theorem dX2_refuseAsChoice_22 : decode cX2_refuseAsChoice 22 = .ok (.athrow, 1) := by decide +kernel
theorem dX2_refuseAsChoice_23 : decode cX2_refuseAsChoice 23 = .ok (.return_, 1) := by decide +kernel
theorem dX2_refuseIfLocked_0 : decode cX2_refuseIfLocked 0 = .ok (.aload_n 0, 1) := by decide +kernel
theorem dX2_refuseIfLocked_1 : decode cX2_refuseIfLocked 1 = .ok (.getfield 18, 3) := by decide +kernel
theorem dX2_refuseIfLocked_4 : decode cX2_refuseIfLocked 4 = .ok (.getfield 145, 3) := by decide +kernel
theorem dX2_refuseIfLocked_7 : decode cX2_refuseIfLocked 7 = .ok (.ifCond .eq 13, 3) := by decide +kernel
theorem dX2_refuseIfLocked_10 : decode cX2_refuseIfLocked 10 = .ok (.new 63, 3) := by decide +kernel
theorem dX2_refuseIfLocked_13 : decode cX2_refuseIfLocked 13 = .ok (.dup, 1) := by decide +kernel
theorem dX2_refuseIfLocked_14 : decode cX2_refuseIfLocked 14 = .ok (.ldc 164, 2) := by decide +kernel
theorem dX2_refuseIfLocked_16 : decode cX2_refuseIfLocked 16 = .ok (.invokespecial 67, 3) := by decide +kernel
theorem dX2_refuseIfLocked_19 : decode cX2_refuseIfLocked 19 = .ok (.athrow, 1) := by decide +kernel
theorem dX2_refuseIfLocked_20 : decode cX2_refuseIfLocked 20 = .ok (.return_, 1) := by decide +kernel
theorem dX2_isWithin_0 : decode cX2_isWithin 0 = .ok (.iload_n 0, 1) := by decide +kernel
theorem dX2_isWithin_1 : decode cX2_isWithin 1 = .ok (.iload_n 1, 1) := by decide +kernel
theorem dX2_isWithin_2 : decode cX2_isWithin 2 = .ok (.if_icmp .lt 12, 3) := by decide +kernel
theorem dX2_isWithin_5 : decode cX2_isWithin 5 = .ok (.iload_n 0, 1) := by decide +kernel
theorem dX2_isWithin_6 : decode cX2_isWithin 6 = .ok (.iload_n 2, 1) := by decide +kernel
theorem dX2_isWithin_7 : decode cX2_isWithin 7 = .ok (.if_icmp .gt 7, 3) := by decide +kernel
theorem dX2_isWithin_10 : decode cX2_isWithin 10 = .ok (.iconst 1, 1) := by decide +kernel
theorem dX2_isWithin_11 : decode cX2_isWithin 11 = .ok (.goto 4, 3) := by decide +kernel
theorem dX2_isWithin_14 : decode cX2_isWithin 14 = .ok (.iconst 0, 1) := by decide +kernel
theorem dX2_isWithin_15 : decode cX2_isWithin 15 = .ok (.ireturn, 1) := by decide +kernel
theorem dX2_highestCode_0 : decode cX2_highestCode 0 = .ok (.iconst 1, 1) := by decide +kernel
theorem dX2_highestCode_1 : decode cX2_highestCode 1 = .ok (.istore_n 1, 1) := by decide +kernel
theorem dX2_highestCode_2 : decode cX2_highestCode 2 = .ok (.iconst 0, 1) := by decide +kernel
theorem dX2_highestCode_3 : decode cX2_highestCode 3 = .ok (.istore_n 2, 1) := by decide +kernel
theorem dX2_highestCode_4 : decode cX2_highestCode 4 = .ok (.iload_n 2, 1) := by decide +kernel
theorem dX2_highestCode_5 : decode cX2_highestCode 5 = .ok (.iload_n 0, 1) := by decide +kernel
theorem dX2_highestCode_6 : decode cX2_highestCode 6 = .ok (.if_icmp .ge 14, 3) := by decide +kernel
theorem dX2_highestCode_9 : decode cX2_highestCode 9 = .ok (.iload_n 1, 1) := by decide +kernel
theorem dX2_highestCode_10 : decode cX2_highestCode 10 = .ok (.bipush 10, 2) := by decide +kernel
theorem dX2_highestCode_12 : decode cX2_highestCode 12 = .ok (.imul, 1) := by decide +kernel
theorem dX2_highestCode_13 : decode cX2_highestCode 13 = .ok (.istore_n 1, 1) := by decide +kernel
theorem dX2_highestCode_14 : decode cX2_highestCode 14 = .ok (.iinc 2 1, 3) := by decide +kernel
theorem dX2_highestCode_17 : decode cX2_highestCode 17 = .ok (.goto (-13), 3) := by decide +kernel
theorem dX2_highestCode_20 : decode cX2_highestCode 20 = .ok (.iload_n 1, 1) := by decide +kernel
theorem dX2_highestCode_21 : decode cX2_highestCode 21 = .ok (.iconst 1, 1) := by decide +kernel
theorem dX2_highestCode_22 : decode cX2_highestCode 22 = .ok (.isub, 1) := by decide +kernel
theorem dX2_highestCode_23 : decode cX2_highestCode 23 = .ok (.ireturn, 1) := by decide +kernel
theorem dX2_freeRow_0 : decode cX2_freeRow 0 = .ok (.aload_n 0, 1) := by decide +kernel
theorem dX2_freeRow_1 : decode cX2_freeRow 1 = .ok (.getfield 11, 3) := by decide +kernel
theorem dX2_freeRow_4 : decode cX2_freeRow 4 = .ok (.astore_n 1, 1) := by decide +kernel
theorem dX2_freeRow_5 : decode cX2_freeRow 5 = .ok (.aload_n 1, 1) := by decide +kernel
theorem dX2_freeRow_6 : decode cX2_freeRow 6 = .ok (.arraylength, 1) := by decide +kernel
theorem dX2_freeRow_7 : decode cX2_freeRow 7 = .ok (.istore_n 2, 1) := by decide +kernel
theorem dX2_freeRow_8 : decode cX2_freeRow 8 = .ok (.iconst 0, 1) := by decide +kernel
theorem dX2_freeRow_9 : decode cX2_freeRow 9 = .ok (.istore_n 3, 1) := by decide +kernel
theorem dX2_freeRow_10 : decode cX2_freeRow 10 = .ok (.iload_n 3, 1) := by decide +kernel
theorem dX2_freeRow_11 : decode cX2_freeRow 11 = .ok (.iload_n 2, 1) := by decide +kernel
theorem dX2_freeRow_12 : decode cX2_freeRow 12 = .ok (.if_icmp .ge 25, 3) := by decide +kernel
theorem dX2_freeRow_15 : decode cX2_freeRow 15 = .ok (.aload_n 1, 1) := by decide +kernel
theorem dX2_freeRow_16 : decode cX2_freeRow 16 = .ok (.iload_n 3, 1) := by decide +kernel
theorem dX2_freeRow_17 : decode cX2_freeRow 17 = .ok (.aaload, 1) := by decide +kernel
theorem dX2_freeRow_18 : decode cX2_freeRow 18 = .ok (.astore 4, 2) := by decide +kernel
theorem dX2_freeRow_20 : decode cX2_freeRow 20 = .ok (.aload 4, 2) := by decide +kernel
theorem dX2_freeRow_22 : decode cX2_freeRow 22 = .ok (.getfield 79, 3) := by decide +kernel
theorem dX2_freeRow_25 : decode cX2_freeRow 25 = .ok (.ifCond .ne 6, 3) := by decide +kernel
theorem dX2_freeRow_28 : decode cX2_freeRow 28 = .ok (.aload 4, 2) := by decide +kernel
theorem dX2_freeRow_30 : decode cX2_freeRow 30 = .ok (.areturn, 1) := by decide +kernel
theorem dX2_freeRow_31 : decode cX2_freeRow 31 = .ok (.iinc 3 1, 3) := by decide +kernel
theorem dX2_freeRow_34 : decode cX2_freeRow 34 = .ok (.goto (-24), 3) := by decide +kernel
theorem dX2_freeRow_37 : decode cX2_freeRow 37 = .ok (.aconst_null, 1) := by decide +kernel
theorem dX2_freeRow_38 : decode cX2_freeRow 38 = .ok (.areturn, 1) := by decide +kernel
theorem dX2_findEntry_0 : decode cX2_findEntry 0 = .ok (.aload_n 0, 1) := by decide +kernel
theorem dX2_findEntry_1 : decode cX2_findEntry 1 = .ok (.getfield 11, 3) := by decide +kernel
theorem dX2_findEntry_4 : decode cX2_findEntry 4 = .ok (.astore_n 2, 1) := by decide +kernel
theorem dX2_findEntry_5 : decode cX2_findEntry 5 = .ok (.aload_n 2, 1) := by decide +kernel
theorem dX2_findEntry_6 : decode cX2_findEntry 6 = .ok (.arraylength, 1) := by decide +kernel
theorem dX2_findEntry_7 : decode cX2_findEntry 7 = .ok (.istore_n 3, 1) := by decide +kernel
theorem dX2_findEntry_8 : decode cX2_findEntry 8 = .ok (.iconst 0, 1) := by decide +kernel
theorem dX2_findEntry_9 : decode cX2_findEntry 9 = .ok (.istore 4, 2) := by decide +kernel
theorem dX2_findEntry_11 : decode cX2_findEntry 11 = .ok (.iload 4, 2) := by decide +kernel
theorem dX2_findEntry_13 : decode cX2_findEntry 13 = .ok (.iload_n 3, 1) := by decide +kernel
theorem dX2_findEntry_14 : decode cX2_findEntry 14 = .ok (.if_icmp .ge 35, 3) := by decide +kernel
theorem dX2_findEntry_17 : decode cX2_findEntry 17 = .ok (.aload_n 2, 1) := by decide +kernel
theorem dX2_findEntry_18 : decode cX2_findEntry 18 = .ok (.iload 4, 2) := by decide +kernel
theorem dX2_findEntry_20 : decode cX2_findEntry 20 = .ok (.aaload, 1) := by decide +kernel
theorem dX2_findEntry_21 : decode cX2_findEntry 21 = .ok (.astore 5, 2) := by decide +kernel
theorem dX2_findEntry_23 : decode cX2_findEntry 23 = .ok (.aload 5, 2) := by decide +kernel
theorem dX2_findEntry_25 : decode cX2_findEntry 25 = .ok (.getfield 79, 3) := by decide +kernel
theorem dX2_findEntry_28 : decode cX2_findEntry 28 = .ok (.ifCond .eq 15, 3) := by decide +kernel
theorem dX2_findEntry_31 : decode cX2_findEntry 31 = .ok (.aload 5, 2) := by decide +kernel
theorem dX2_findEntry_33 : decode cX2_findEntry 33 = .ok (.getfield 72, 3) := by decide +kernel
theorem dX2_findEntry_36 : decode cX2_findEntry 36 = .ok (.iload_n 1, 1) := by decide +kernel
theorem dX2_findEntry_37 : decode cX2_findEntry 37 = .ok (.if_icmp .ne 6, 3) := by decide +kernel
theorem dX2_findEntry_40 : decode cX2_findEntry 40 = .ok (.aload 5, 2) := by decide +kernel
theorem dX2_findEntry_42 : decode cX2_findEntry 42 = .ok (.areturn, 1) := by decide +kernel
theorem dX2_findEntry_43 : decode cX2_findEntry 43 = .ok (.iinc 4 1, 3) := by decide +kernel
theorem dX2_findEntry_46 : decode cX2_findEntry 46 = .ok (.goto (-35), 3) := by decide +kernel
theorem dX2_findEntry_49 : decode cX2_findEntry 49 = .ok (.aconst_null, 1) := by decide +kernel
theorem dX2_findEntry_50 : decode cX2_findEntry 50 = .ok (.areturn, 1) := by decide +kernel
theorem dX2_countEntries_0 : decode cX2_countEntries 0 = .ok (.iconst 0, 1) := by decide +kernel
theorem dX2_countEntries_1 : decode cX2_countEntries 1 = .ok (.istore_n 1, 1) := by decide +kernel
theorem dX2_countEntries_2 : decode cX2_countEntries 2 = .ok (.aload_n 0, 1) := by decide +kernel
theorem dX2_countEntries_3 : decode cX2_countEntries 3 = .ok (.getfield 11, 3) := by decide +kernel
theorem dX2_countEntries_6 : decode cX2_countEntries 6 = .ok (.astore_n 2, 1) := by decide +kernel
theorem dX2_countEntries_7 : decode cX2_countEntries 7 = .ok (.aload_n 2, 1) := by decide +kernel
theorem dX2_countEntries_8 : decode cX2_countEntries 8 = .ok (.arraylength, 1) := by decide +kernel
theorem dX2_countEntries_9 : decode cX2_countEntries 9 = .ok (.istore_n 3, 1) := by decide +kernel
theorem dX2_countEntries_10 : decode cX2_countEntries 10 = .ok (.iconst 0, 1) := by decide +kernel
theorem dX2_countEntries_11 : decode cX2_countEntries 11 = .ok (.istore 4, 2) := by decide +kernel
theorem dX2_countEntries_13 : decode cX2_countEntries 13 = .ok (.iload 4, 2) := by decide +kernel
theorem dX2_countEntries_15 : decode cX2_countEntries 15 = .ok (.iload_n 3, 1) := by decide +kernel
theorem dX2_countEntries_16 : decode cX2_countEntries 16 = .ok (.if_icmp .ge 26, 3) := by decide +kernel
theorem dX2_countEntries_19 : decode cX2_countEntries 19 = .ok (.aload_n 2, 1) := by decide +kernel
theorem dX2_countEntries_20 : decode cX2_countEntries 20 = .ok (.iload 4, 2) := by decide +kernel
theorem dX2_countEntries_22 : decode cX2_countEntries 22 = .ok (.aaload, 1) := by decide +kernel
theorem dX2_countEntries_23 : decode cX2_countEntries 23 = .ok (.astore 5, 2) := by decide +kernel
theorem dX2_countEntries_25 : decode cX2_countEntries 25 = .ok (.aload 5, 2) := by decide +kernel
theorem dX2_countEntries_27 : decode cX2_countEntries 27 = .ok (.getfield 79, 3) := by decide +kernel
theorem dX2_countEntries_30 : decode cX2_countEntries 30 = .ok (.ifCond .eq 6, 3) := by decide +kernel
theorem dX2_countEntries_33 : decode cX2_countEntries 33 = .ok (.iinc 1 1, 3) := by decide +kernel
theorem dX2_countEntries_36 : decode cX2_countEntries 36 = .ok (.iinc 4 1, 3) := by decide +kernel
theorem dX2_countEntries_39 : decode cX2_countEntries 39 = .ok (.goto (-26), 3) := by decide +kernel
theorem dX2_countEntries_42 : decode cX2_countEntries 42 = .ok (.iload_n 1, 1) := by decide +kernel
theorem dX2_countEntries_43 : decode cX2_countEntries 43 = .ok (.ireturn, 1) := by decide +kernel
set_option maxRecDepth 20000 in
theorem ggX2_countFitting_X2_isFitting : GoodIn wsX2_countFitting wsX2_isFitting := goodIn_r _ [6, 7, 8, 9, 10, 5, 11, 21, 22, 23, 24, 25, 26, 27, 28, 12, 13, 14, 15, 16, 17, 18, 19, 20] (by decide +kernel) (by decide +kernel)
set_option maxRecDepth 20000 in
theorem gX2_countFitting_X2_isFitting : GoodIn wsX2_countFitting (wsV RX2 166 RX2 yX2_isFitting wsX2_isFitting) := goodIn_app (goodIn_of _ (by decide +kernel)) ggX2_countFitting_X2_isFitting
theorem dX2_countFitting_0 : decode cX2_countFitting 0 = .ok (.iconst 0, 1) := by decide +kernel
theorem dX2_countFitting_1 : decode cX2_countFitting 1 = .ok (.istore_n 1, 1) := by decide +kernel
theorem dX2_countFitting_2 : decode cX2_countFitting 2 = .ok (.aload_n 0, 1) := by decide +kernel
theorem dX2_countFitting_3 : decode cX2_countFitting 3 = .ok (.getfield 11, 3) := by decide +kernel
theorem dX2_countFitting_6 : decode cX2_countFitting 6 = .ok (.astore_n 2, 1) := by decide +kernel
theorem dX2_countFitting_7 : decode cX2_countFitting 7 = .ok (.aload_n 2, 1) := by decide +kernel
theorem dX2_countFitting_8 : decode cX2_countFitting 8 = .ok (.arraylength, 1) := by decide +kernel
theorem dX2_countFitting_9 : decode cX2_countFitting 9 = .ok (.istore_n 3, 1) := by decide +kernel
theorem dX2_countFitting_10 : decode cX2_countFitting 10 = .ok (.iconst 0, 1) := by decide +kernel
theorem dX2_countFitting_11 : decode cX2_countFitting 11 = .ok (.istore 4, 2) := by decide +kernel
theorem dX2_countFitting_13 : decode cX2_countFitting 13 = .ok (.iload 4, 2) := by decide +kernel
theorem dX2_countFitting_15 : decode cX2_countFitting 15 = .ok (.iload_n 3, 1) := by decide +kernel
theorem dX2_countFitting_16 : decode cX2_countFitting 16 = .ok (.if_icmp .ge 35, 3) := by decide +kernel
theorem dX2_countFitting_19 : decode cX2_countFitting 19 = .ok (.aload_n 2, 1) := by decide +kernel
theorem dX2_countFitting_20 : decode cX2_countFitting 20 = .ok (.iload 4, 2) := by decide +kernel
theorem dX2_countFitting_22 : decode cX2_countFitting 22 = .ok (.aaload, 1) := by decide +kernel
theorem dX2_countFitting_23 : decode cX2_countFitting 23 = .ok (.astore 5, 2) := by decide +kernel
theorem dX2_countFitting_25 : decode cX2_countFitting 25 = .ok (.aload 5, 2) := by decide +kernel
theorem dX2_countFitting_27 : decode cX2_countFitting 27 = .ok (.getfield 79, 3) := by decide +kernel
theorem dX2_countFitting_30 : decode cX2_countFitting 30 = .ok (.ifCond .eq 15, 3) := by decide +kernel
theorem dX2_countFitting_33 : decode cX2_countFitting 33 = .ok (.aload_n 0, 1) := by decide +kernel
theorem dX2_countFitting_34 : decode cX2_countFitting 34 = .ok (.aload 5, 2) := by decide +kernel
theorem dX2_countFitting_36 : decode cX2_countFitting 36 = .ok (.invokevirtual 166, 3) := by decide +kernel
theorem dX2_countFitting_39 : decode cX2_countFitting 39 = .ok (.ifCond .eq 6, 3) := by decide +kernel
theorem dX2_countFitting_42 : decode cX2_countFitting 42 = .ok (.iinc 1 1, 3) := by decide +kernel
theorem dX2_countFitting_45 : decode cX2_countFitting 45 = .ok (.iinc 4 1, 3) := by decide +kernel
theorem dX2_countFitting_48 : decode cX2_countFitting 48 = .ok (.goto (-35), 3) := by decide +kernel
theorem dX2_countFitting_51 : decode cX2_countFitting 51 = .ok (.iload_n 1, 1) := by decide +kernel
theorem dX2_countFitting_52 : decode cX2_countFitting 52 = .ok (.ireturn, 1) := by decide +kernel
set_option maxRecDepth 20000 in
theorem ggX2_isFitting_X2_isWithin : GoodIn wsX2_isFitting wsX2_isWithin := goodIn_r _ [6] (by decide +kernel) (by decide +kernel)
set_option maxRecDepth 20000 in
theorem gX2_isFitting_X2_isWithin : GoodIn wsX2_isFitting (va_wsS RX2 45 yX2_isWithin wsX2_isWithin) := goodIn_app (goodIn_of _ (by decide +kernel)) ggX2_isFitting_X2_isWithin
theorem dX2_isFitting_0 : decode cX2_isFitting 0 = .ok (.aload_n 1, 1) := by decide +kernel
theorem dX2_isFitting_1 : decode cX2_isFitting 1 = .ok (.getfield 170, 3) := by decide +kernel
theorem dX2_isFitting_4 : decode cX2_isFitting 4 = .ok (.aload_n 0, 1) := by decide +kernel
theorem dX2_isFitting_5 : decode cX2_isFitting 5 = .ok (.getfield 32, 3) := by decide +kernel
theorem dX2_isFitting_8 : decode cX2_isFitting 8 = .ok (.aload_n 0, 1) := by decide +kernel
theorem dX2_isFitting_9 : decode cX2_isFitting 9 = .ok (.getfield 35, 3) := by decide +kernel
theorem dX2_isFitting_12 : decode cX2_isFitting 12 = .ok (.invokestatic 45, 3) := by decide +kernel
theorem dX2_isFitting_15 : decode cX2_isFitting 15 = .ok (.ireturn, 1) := by decide +kernel
set_option maxRecDepth 20000 in
theorem ggX2_countAhead_X1_isAheadOf : GoodIn wsX2_countAhead wsX1_isAheadOf := goodIn_r _ [5, 6, 7, 8, 9, 10, 11, 3, 12, 13, 14, 15, 16, 17, 18, 19, 20, 21, 22, 23, 33, 34, 35, 36, 37, 38, 39, 40] (by decide +kernel) (by decide +kernel)
set_option maxRecDepth 20000 in
theorem gX2_countAhead_X1_isAheadOf_n173 : GoodIn wsX2_countAhead (wsX1_isAheadOf) := ggX2_countAhead_X1_isAheadOf
theorem dX2_countAhead_0 : decode cX2_countAhead 0 = .ok (.iconst 0, 1) := by decide +kernel
theorem dX2_countAhead_1 : decode cX2_countAhead 1 = .ok (.istore_n 2, 1) := by decide +kernel
theorem dX2_countAhead_2 : decode cX2_countAhead 2 = .ok (.aload_n 0, 1) := by decide +kernel
theorem dX2_countAhead_3 : decode cX2_countAhead 3 = .ok (.getfield 11, 3) := by decide +kernel
theorem dX2_countAhead_6 : decode cX2_countAhead 6 = .ok (.astore_n 3, 1) := by decide +kernel
theorem dX2_countAhead_7 : decode cX2_countAhead 7 = .ok (.aload_n 3, 1) := by decide +kernel
theorem dX2_countAhead_8 : decode cX2_countAhead 8 = .ok (.arraylength, 1) := by decide +kernel
theorem dX2_countAhead_9 : decode cX2_countAhead 9 = .ok (.istore 4, 2) := by decide +kernel
theorem dX2_countAhead_11 : decode cX2_countAhead 11 = .ok (.iconst 0, 1) := by decide +kernel
theorem dX2_countAhead_12 : decode cX2_countAhead 12 = .ok (.istore 5, 2) := by decide +kernel
theorem dX2_countAhead_14 : decode cX2_countAhead 14 = .ok (.iload 5, 2) := by decide +kernel
theorem dX2_countAhead_16 : decode cX2_countAhead 16 = .ok (.iload 4, 2) := by decide +kernel
theorem dX2_countAhead_18 : decode cX2_countAhead 18 = .ok (.if_icmp .ge 35, 3) := by decide +kernel
theorem dX2_countAhead_21 : decode cX2_countAhead 21 = .ok (.aload_n 3, 1) := by decide +kernel
theorem dX2_countAhead_22 : decode cX2_countAhead 22 = .ok (.iload 5, 2) := by decide +kernel
theorem dX2_countAhead_24 : decode cX2_countAhead 24 = .ok (.aaload, 1) := by decide +kernel
theorem dX2_countAhead_25 : decode cX2_countAhead 25 = .ok (.astore 6, 2) := by decide +kernel
theorem dX2_countAhead_27 : decode cX2_countAhead 27 = .ok (.aload 6, 2) := by decide +kernel
theorem dX2_countAhead_29 : decode cX2_countAhead 29 = .ok (.getfield 79, 3) := by decide +kernel
theorem dX2_countAhead_32 : decode cX2_countAhead 32 = .ok (.ifCond .eq 15, 3) := by decide +kernel
theorem dX2_countAhead_35 : decode cX2_countAhead 35 = .ok (.aload 6, 2) := by decide +kernel
theorem dX2_countAhead_37 : decode cX2_countAhead 37 = .ok (.aload_n 1, 1) := by decide +kernel
theorem dX2_countAhead_38 : decode cX2_countAhead 38 = .ok (.invokevirtual 173, 3) := by decide +kernel
theorem dX2_countAhead_41 : decode cX2_countAhead 41 = .ok (.ifCond .eq 6, 3) := by decide +kernel
theorem dX2_countAhead_44 : decode cX2_countAhead 44 = .ok (.iinc 2 1, 3) := by decide +kernel
theorem dX2_countAhead_47 : decode cX2_countAhead 47 = .ok (.iinc 5 1, 3) := by decide +kernel
theorem dX2_countAhead_50 : decode cX2_countAhead 50 = .ok (.goto (-36), 3) := by decide +kernel
theorem dX2_countAhead_53 : decode cX2_countAhead 53 = .ok (.iload_n 2, 1) := by decide +kernel
theorem dX2_countAhead_54 : decode cX2_countAhead 54 = .ok (.ireturn, 1) := by decide +kernel
set_option maxRecDepth 20000 in
theorem ggX2_entryWithPlace_X2_countAhead : GoodIn wsX2_entryWithPlace wsX2_countAhead := goodIn_r _ [6, 1, 7, 8, 9, 10, 11, 12, 13, 14, 15, 16, 17, 18, 19, 20, 21, 22, 23, 24, 25, 26, 27, 28, 29, 30, 31, 32, 33, 34, 35, 36, 37, 38, 39, 40, 41, 42, 43, 44, 45] (by decide +kernel) (by decide +kernel)
set_option maxRecDepth 20000 in
theorem gX2_entryWithPlace_X2_countAhead : GoodIn wsX2_entryWithPlace (wsV RX2 156 RX2 yX2_countAhead wsX2_countAhead) := goodIn_app (goodIn_of _ (by decide +kernel)) ggX2_entryWithPlace_X2_countAhead
theorem dX2_entryWithPlace_0 : decode cX2_entryWithPlace 0 = .ok (.aload_n 0, 1) := by decide +kernel
theorem dX2_entryWithPlace_1 : decode cX2_entryWithPlace 1 = .ok (.getfield 11, 3) := by decide +kernel
theorem dX2_entryWithPlace_4 : decode cX2_entryWithPlace 4 = .ok (.astore_n 2, 1) := by decide +kernel
theorem dX2_entryWithPlace_5 : decode cX2_entryWithPlace 5 = .ok (.aload_n 2, 1) := by decide +kernel
theorem dX2_entryWithPlace_6 : decode cX2_entryWithPlace 6 = .ok (.arraylength, 1) := by decide +kernel
theorem dX2_entryWithPlace_7 : decode cX2_entryWithPlace 7 = .ok (.istore_n 3, 1) := by decide +kernel
theorem dX2_entryWithPlace_8 : decode cX2_entryWithPlace 8 = .ok (.iconst 0, 1) := by decide +kernel
theorem dX2_entryWithPlace_9 : decode cX2_entryWithPlace 9 = .ok (.istore 4, 2) := by decide +kernel
theorem dX2_entryWithPlace_11 : decode cX2_entryWithPlace 11 = .ok (.iload 4, 2) := by decide +kernel
theorem dX2_entryWithPlace_13 : decode cX2_entryWithPlace 13 = .ok (.iload_n 3, 1) := by decide +kernel
theorem dX2_entryWithPlace_14 : decode cX2_entryWithPlace 14 = .ok (.if_icmp .ge 36, 3) := by decide +kernel
theorem dX2_entryWithPlace_17 : decode cX2_entryWithPlace 17 = .ok (.aload_n 2, 1) := by decide +kernel
theorem dX2_entryWithPlace_18 : decode cX2_entryWithPlace 18 = .ok (.iload 4, 2) := by decide +kernel
theorem dX2_entryWithPlace_20 : decode cX2_entryWithPlace 20 = .ok (.aaload, 1) := by decide +kernel
theorem dX2_entryWithPlace_21 : decode cX2_entryWithPlace 21 = .ok (.astore 5, 2) := by decide +kernel
theorem dX2_entryWithPlace_23 : decode cX2_entryWithPlace 23 = .ok (.aload 5, 2) := by decide +kernel
theorem dX2_entryWithPlace_25 : decode cX2_entryWithPlace 25 = .ok (.getfield 79, 3) := by decide +kernel
theorem dX2_entryWithPlace_28 : decode cX2_entryWithPlace 28 = .ok (.ifCond .eq 16, 3) := by decide +kernel
theorem dX2_entryWithPlace_31 : decode cX2_entryWithPlace 31 = .ok (.aload_n 0, 1) := by decide +kernel
theorem dX2_entryWithPlace_32 : decode cX2_entryWithPlace 32 = .ok (.aload 5, 2) := by decide +kernel
theorem dX2_entryWithPlace_34 : decode cX2_entryWithPlace 34 = .ok (.invokevirtual 156, 3) := by decide +kernel
theorem dX2_entryWithPlace_37 : decode cX2_entryWithPlace 37 = .ok (.iload_n 1, 1) := by decide +kernel
theorem dX2_entryWithPlace_38 : decode cX2_entryWithPlace 38 = .ok (.if_icmp .ne 6, 3) := by decide +kernel
theorem dX2_entryWithPlace_41 : decode cX2_entryWithPlace 41 = .ok (.aload 5, 2) := by decide +kernel
theorem dX2_entryWithPlace_43 : decode cX2_entryWithPlace 43 = .ok (.areturn, 1) := by decide +kernel
theorem dX2_entryWithPlace_44 : decode cX2_entryWithPlace 44 = .ok (.iinc 4 1, 3) := by decide +kernel
theorem dX2_entryWithPlace_47 : decode cX2_entryWithPlace 47 = .ok (.goto (-36), 3) := by decide +kernel
theorem dX2_entryWithPlace_50 : decode cX2_entryWithPlace 50 = .ok (.aconst_null, 1) := by decide +kernel
theorem dX2_entryWithPlace_51 : decode cX2_entryWithPlace 51 = .ok (.areturn, 1) := by decide +kernel
set_option maxRecDepth 20000 in
theorem ggX2_nextEntry_X2_findEntry : GoodIn wsX2_nextEntry wsX2_findEntry := goodIn_r _ [7, 8, 52, 53, 54, 55, 56, 57, 58, 59, 60, 61, 62, 63, 64, 65, 66, 67, 68] (by decide +kernel) (by decide +kernel)
set_option maxRecDepth 20000 in
theorem gX2_nextEntry_X2_findEntry : GoodIn wsX2_nextEntry (wsV RX2 121 RX2 yX2_findEntry wsX2_findEntry) := goodIn_app (goodIn_of _ (by decide +kernel)) ggX2_nextEntry_X2_findEntry
set_option maxRecDepth 20000 in
theorem ggX2_nextEntry_X1_isBad : GoodIn wsX2_nextEntry wsX1_isBad := goodIn_r _ [12, 13, 61, 62, 63, 64, 65, 66, 67, 68] (by decide +kernel) (by decide +kernel)
set_option maxRecDepth 20000 in
theorem gX2_nextEntry_X1_isBad_n176 : GoodIn wsX2_nextEntry (wsX1_isBad) := ggX2_nextEntry_X1_isBad
set_option maxRecDepth 20000 in
theorem ggX2_nextEntry_X2_firstFittingNotBad : GoodIn wsX2_nextEntry wsX2_firstFittingNotBad := goodIn_r _ [17, 8, 18, 19, 20, 6, 21, 22, 23, 24, 25, 26, 9, 10, 11, 12, 13, 27, 28, 29, 30, 31, 32, 33, 34, 35, 36, 37, 38, 39, 40, 41, 42, 43, 52, 53, 54, 55, 56, 57, 58, 59, 60, 61, 62, 63, 64, 65, 66, 67, 68] (by decide +kernel) (by decide +kernel)
set_option maxRecDepth 20000 in
theorem gX2_nextEntry_X2_firstFittingNotBad : GoodIn wsX2_nextEntry (wsV RX2 180 RX2 yX2_firstFittingNotBad wsX2_firstFittingNotBad) := goodIn_app (goodIn_of _ (by decide +kernel)) ggX2_nextEntry_X2_firstFittingNotBad
set_option maxRecDepth 20000 in
theorem ggX2_nextEntry_X2_entryWithPlace : GoodIn wsX2_nextEntry wsX2_entryWithPlace := goodIn_r _ [47, 8, 48, 49, 50, 6, 51, 27, 10, 28, 29, 30, 31, 32, 33, 9, 11, 12, 13, 34, 35, 36, 37, 38, 39, 40, 41, 42, 43, 52, 53, 54, 55, 56, 57, 58, 59, 60, 61, 62, 63, 64, 65, 66, 67, 68] (by decide +kernel) (by decide +kernel)
set_option maxRecDepth 20000 in
theorem gX2_nextEntry_X2_entryWithPlace : GoodIn wsX2_nextEntry (wsV RX2 148 RX2 yX2_entryWithPlace wsX2_entryWithPlace) := goodIn_app (goodIn_of _ (by decide +kernel)) ggX2_nextEntry_X2_entryWithPlace
theorem dX2_nextEntry_0 : decode cX2_nextEntry 0 = .ok (.aload_n 0, 1) := by decide +kernel
theorem dX2_nextEntry_1 : decode cX2_nextEntry 1 = .ok (.aload_n 0, 1) := by decide +kernel
theorem dX2_nextEntry_2 : decode cX2_nextEntry 2 = .ok (.getfield 29, 3) := by decide +kernel
theorem dX2_nextEntry_5 : decode cX2_nextEntry 5 = .ok (.invokevirtual 121, 3) := by decide +kernel
theorem dX2_nextEntry_8 : decode cX2_nextEntry 8 = .ok (.astore_n 1, 1) := by decide +kernel
theorem dX2_nextEntry_9 : decode cX2_nextEntry 9 = .ok (.aload_n 1, 1) := by decide +kernel
theorem dX2_nextEntry_10 : decode cX2_nextEntry 10 = .ok (.ifnull 5, 3) := by decide +kernel
theorem dX2_nextEntry_13 : decode cX2_nextEntry 13 = .ok (.aload_n 1, 1) := by decide +kernel
theorem dX2_nextEntry_14 : decode cX2_nextEntry 14 = .ok (.areturn, 1) := by decide +kernel
theorem dX2_nextEntry_15 : decode cX2_nextEntry 15 = .ok (.aload_n 0, 1) := by decide +kernel
theorem dX2_nextEntry_16 : decode cX2_nextEntry 16 = .ok (.aload_n 0, 1) := by decide +kernel
theorem dX2_nextEntry_17 : decode cX2_nextEntry 17 = .ok (.getfield 26, 3) := by decide +kernel
theorem dX2_nextEntry_20 : decode cX2_nextEntry 20 = .ok (.invokevirtual 121, 3) := by decide +kernel
theorem dX2_nextEntry_23 : decode cX2_nextEntry 23 = .ok (.astore_n 2, 1) := by decide +kernel
theorem dX2_nextEntry_24 : decode cX2_nextEntry 24 = .ok (.aload_n 2, 1) := by decide +kernel
theorem dX2_nextEntry_25 : decode cX2_nextEntry 25 = .ok (.ifnull 12, 3) := by decide +kernel
theorem dX2_nextEntry_28 : decode cX2_nextEntry 28 = .ok (.aload_n 2, 1) := by decide +kernel
theorem dX2_nextEntry_29 : decode cX2_nextEntry 29 = .ok (.invokevirtual 176, 3) := by decide +kernel
theorem dX2_nextEntry_32 : decode cX2_nextEntry 32 = .ok (.ifCond .ne 5, 3) := by decide +kernel
theorem dX2_nextEntry_35 : decode cX2_nextEntry 35 = .ok (.aload_n 2, 1) := by decide +kernel
theorem dX2_nextEntry_36 : decode cX2_nextEntry 36 = .ok (.areturn, 1) := by decide +kernel
theorem dX2_nextEntry_37 : decode cX2_nextEntry 37 = .ok (.aload_n 0, 1) := by decide +kernel
theorem dX2_nextEntry_38 : decode cX2_nextEntry 38 = .ok (.invokevirtual 180, 3) := by decide +kernel
theorem dX2_nextEntry_41 : decode cX2_nextEntry 41 = .ok (.astore_n 3, 1) := by decide +kernel
theorem dX2_nextEntry_42 : decode cX2_nextEntry 42 = .ok (.aload_n 3, 1) := by decide +kernel
theorem dX2_nextEntry_43 : decode cX2_nextEntry 43 = .ok (.ifnull 7, 3) := by decide +kernel
theorem dX2_nextEntry_46 : decode cX2_nextEntry 46 = .ok (.aload_n 3, 1) := by decide +kernel
theorem dX2_nextEntry_47 : decode cX2_nextEntry 47 = .ok (.goto 8, 3) := by decide +kernel
theorem dX2_nextEntry_50 : decode cX2_nextEntry 50 = .ok (.aload_n 0, 1) := by decide +kernel
theorem dX2_nextEntry_51 : decode cX2_nextEntry 51 = .ok (.iconst 0, 1) := by decide +kernel
theorem dX2_nextEntry_52 : decode cX2_nextEntry 52 = .ok (.invokevirtual 148, 3) := by decide +kernel
theorem dX2_nextEntry_55 : decode cX2_nextEntry 55 = .ok (.areturn, 1) := by decide +kernel
set_option maxRecDepth 20000 in
theorem ggX2_firstFittingNotBad_X2_isFitting : GoodIn wsX2_firstFittingNotBad wsX2_isFitting := goodIn_r _ [6, 7, 8, 9, 10, 5, 11, 43, 44, 45, 46, 47, 48, 49, 50, 34, 35, 36, 37, 38, 39, 40, 41, 42] (by decide +kernel) (by decide +kernel)
set_option maxRecDepth 20000 in
theorem gX2_firstFittingNotBad_X2_isFitting : GoodIn wsX2_firstFittingNotBad (wsV RX2 166 RX2 yX2_isFitting wsX2_isFitting) := goodIn_app (goodIn_of _ (by decide +kernel)) ggX2_firstFittingNotBad_X2_isFitting
set_option maxRecDepth 20000 in
theorem ggX2_firstFittingNotBad_X1_isBad : GoodIn wsX2_firstFittingNotBad wsX1_isBad := goodIn_r _ [15, 16, 43, 44, 45, 46, 47, 48, 49, 50] (by decide +kernel) (by decide +kernel)
set_option maxRecDepth 20000 in
theorem gX2_firstFittingNotBad_X1_isBad_n176 : GoodIn wsX2_firstFittingNotBad (wsX1_isBad) := ggX2_firstFittingNotBad_X1_isBad
set_option maxRecDepth 20000 in
theorem ggX2_firstFittingNotBad_X1_isAheadOf : GoodIn wsX2_firstFittingNotBad wsX1_isAheadOf := goodIn_r _ [19, 20, 21, 22, 23, 12, 14, 13, 15, 16, 24, 25, 26, 27, 28, 29, 30, 31, 32, 33, 43, 44, 45, 46, 47, 48, 49, 50] (by decide +kernel) (by decide +kernel)
set_option maxRecDepth 20000 in
theorem gX2_firstFittingNotBad_X1_isAheadOf_n173 : GoodIn wsX2_firstFittingNotBad (wsX1_isAheadOf) := ggX2_firstFittingNotBad_X1_isAheadOf
theorem dX2_firstFittingNotBad_0 : decode cX2_firstFittingNotBad 0 = .ok (.aconst_null, 1) := by decide +kernel
theorem dX2_firstFittingNotBad_1 : decode cX2_firstFittingNotBad 1 = .ok (.astore_n 1, 1) := by decide +kernel
theorem dX2_firstFittingNotBad_2 : decode cX2_firstFittingNotBad 2 = .ok (.aload_n 0, 1) := by decide +kernel
theorem dX2_firstFittingNotBad_3 : decode cX2_firstFittingNotBad 3 = .ok (.getfield 11, 3) := by decide +kernel
theorem dX2_firstFittingNotBad_6 : decode cX2_firstFittingNotBad 6 = .ok (.astore_n 2, 1) := by decide +kernel
theorem dX2_firstFittingNotBad_7 : decode cX2_firstFittingNotBad 7 = .ok (.aload_n 2, 1) := by decide +kernel
theorem dX2_firstFittingNotBad_8 : decode cX2_firstFittingNotBad 8 = .ok (.arraylength, 1) := by decide +kernel
theorem dX2_firstFittingNotBad_9 : decode cX2_firstFittingNotBad 9 = .ok (.istore_n 3, 1) := by decide +kernel
theorem dX2_firstFittingNotBad_10 : decode cX2_firstFittingNotBad 10 = .ok (.iconst 0, 1) := by decide +kernel
theorem dX2_firstFittingNotBad_11 : decode cX2_firstFittingNotBad 11 = .ok (.istore 4, 2) := by decide +kernel
theorem dX2_firstFittingNotBad_13 : decode cX2_firstFittingNotBad 13 = .ok (.iload 4, 2) := by decide +kernel
theorem dX2_firstFittingNotBad_15 : decode cX2_firstFittingNotBad 15 = .ok (.iload_n 3, 1) := by decide +kernel
theorem dX2_firstFittingNotBad_16 : decode cX2_firstFittingNotBad 16 = .ok (.if_icmp .ge 56, 3) := by decide +kernel
theorem dX2_firstFittingNotBad_19 : decode cX2_firstFittingNotBad 19 = .ok (.aload_n 2, 1) := by decide +kernel
theorem dX2_firstFittingNotBad_20 : decode cX2_firstFittingNotBad 20 = .ok (.iload 4, 2) := by decide +kernel
theorem dX2_firstFittingNotBad_22 : decode cX2_firstFittingNotBad 22 = .ok (.aaload, 1) := by decide +kernel
theorem dX2_firstFittingNotBad_23 : decode cX2_firstFittingNotBad 23 = .ok (.astore 5, 2) := by decide +kernel
theorem dX2_firstFittingNotBad_25 : decode cX2_firstFittingNotBad 25 = .ok (.aload 5, 2) := by decide +kernel
theorem dX2_firstFittingNotBad_27 : decode cX2_firstFittingNotBad 27 = .ok (.getfield 79, 3) := by decide +kernel
theorem dX2_firstFittingNotBad_30 : decode cX2_firstFittingNotBad 30 = .ok (.ifCond .eq 36, 3) := by decide +kernel
theorem dX2_firstFittingNotBad_33 : decode cX2_firstFittingNotBad 33 = .ok (.aload_n 0, 1) := by decide +kernel
theorem dX2_firstFittingNotBad_34 : decode cX2_firstFittingNotBad 34 = .ok (.aload 5, 2) := by decide +kernel
theorem dX2_firstFittingNotBad_36 : decode cX2_firstFittingNotBad 36 = .ok (.invokevirtual 166, 3) := by decide +kernel
theorem dX2_firstFittingNotBad_39 : decode cX2_firstFittingNotBad 39 = .ok (.ifCond .eq 27, 3) := by decide +kernel
theorem dX2_firstFittingNotBad_42 : decode cX2_firstFittingNotBad 42 = .ok (.aload 5, 2) := by decide +kernel
theorem dX2_firstFittingNotBad_44 : decode cX2_firstFittingNotBad 44 = .ok (.invokevirtual 176, 3) := by decide +kernel
theorem dX2_firstFittingNotBad_47 : decode cX2_firstFittingNotBad 47 = .ok (.ifCond .ne 19, 3) := by decide +kernel
theorem dX2_firstFittingNotBad_50 : decode cX2_firstFittingNotBad 50 = .ok (.aload_n 1, 1) := by decide +kernel
theorem dX2_firstFittingNotBad_51 : decode cX2_firstFittingNotBad 51 = .ok (.ifnull 12, 3) := by decide +kernel
theorem dX2_firstFittingNotBad_54 : decode cX2_firstFittingNotBad 54 = .ok (.aload 5, 2) := by decide +kernel
theorem dX2_firstFittingNotBad_56 : decode cX2_firstFittingNotBad 56 = .ok (.aload_n 1, 1) := by decide +kernel
theorem dX2_firstFittingNotBad_57 : decode cX2_firstFittingNotBad 57 = .ok (.invokevirtual 173, 3) := by decide +kernel
theorem dX2_firstFittingNotBad_60 : decode cX2_firstFittingNotBad 60 = .ok (.ifCond .eq 6, 3) := by decide +kernel
theorem dX2_firstFittingNotBad_63 : decode cX2_firstFittingNotBad 63 = .ok (.aload 5, 2) := by decide +kernel
theorem dX2_firstFittingNotBad_65 : decode cX2_firstFittingNotBad 65 = .ok (.astore_n 1, 1) := by decide +kernel
theorem dX2_firstFittingNotBad_66 : decode cX2_firstFittingNotBad 66 = .ok (.iinc 4 1, 3) := by decide +kernel
theorem dX2_firstFittingNotBad_69 : decode cX2_firstFittingNotBad 69 = .ok (.goto (-56), 3) := by decide +kernel
theorem dX2_firstFittingNotBad_72 : decode cX2_firstFittingNotBad 72 = .ok (.aload_n 1, 1) := by decide +kernel
theorem dX2_firstFittingNotBad_73 : decode cX2_firstFittingNotBad 73 = .ok (.areturn, 1) := by decide +kernel
set_option maxRecDepth 20000 in
theorem ggX2_measure_X2_step : GoodIn wsX2_measure wsX2_step := goodIn_r _ [6, 7] (by decide +kernel) (by decide +kernel)
set_option maxRecDepth 20000 in
theorem gX2_measure_X2_step : GoodIn wsX2_measure (va_wsS RX2 183 yX2_step wsX2_step) := goodIn_app (goodIn_of _ (by decide +kernel)) ggX2_measure_X2_step
theorem dX2_measure_0 : decode cX2_measure 0 = .ok (.iconst 0, 1) := by decide +kernel
theorem dX2_measure_1 : decode cX2_measure 1 = .ok (.aload_n 0, 1) := by decide +kernel
theorem dX2_measure_2 : decode cX2_measure 2 = .ok (.getfield 18, 3) := by decide +kernel
theorem dX2_measure_5 : decode cX2_measure 5 = .ok (.getfield 145, 3) := by decide +kernel
theorem dX2_measure_8 : decode cX2_measure 8 = .ok (.ifCond .eq 7, 3) := by decide +kernel
theorem dX2_measure_11 : decode cX2_measure 11 = .ok (.iconst 1, 1) := by decide +kernel
theorem dX2_measure_12 : decode cX2_measure 12 = .ok (.goto 4, 3) := by decide +kernel
theorem dX2_measure_15 : decode cX2_measure 15 = .ok (.iconst 0, 1) := by decide +kernel
theorem dX2_measure_16 : decode cX2_measure 16 = .ok (.invokestatic 183, 3) := by decide +kernel
theorem dX2_measure_19 : decode cX2_measure 19 = .ok (.istore_n 2, 1) := by decide +kernel
theorem dX2_measure_20 : decode cX2_measure 20 = .ok (.iload_n 2, 1) := by decide +kernel
theorem dX2_measure_21 : decode cX2_measure 21 = .ok (.aload_n 1, 1) := by decide +kernel
theorem dX2_measure_22 : decode cX2_measure 22 = .ok (.getfield 187, 3) := by decide +kernel
theorem dX2_measure_25 : decode cX2_measure 25 = .ok (.invokestatic 183, 3) := by decide +kernel
theorem dX2_measure_28 : decode cX2_measure 28 = .ok (.istore_n 2, 1) := by decide +kernel
theorem dX2_measure_29 : decode cX2_measure 29 = .ok (.iload_n 2, 1) := by decide +kernel
theorem dX2_measure_30 : decode cX2_measure 30 = .ok (.aload_n 1, 1) := by decide +kernel
theorem dX2_measure_31 : decode cX2_measure 31 = .ok (.getfield 190, 3) := by decide +kernel
theorem dX2_measure_34 : decode cX2_measure 34 = .ok (.ldc 193, 2) := by decide +kernel
theorem dX2_measure_36 : decode cX2_measure 36 = .ok (.idiv, 1) := by decide +kernel
theorem dX2_measure_37 : decode cX2_measure 37 = .ok (.invokestatic 183, 3) := by decide +kernel
theorem dX2_measure_40 : decode cX2_measure 40 = .ok (.istore_n 2, 1) := by decide +kernel
theorem dX2_measure_41 : decode cX2_measure 41 = .ok (.iload_n 2, 1) := by decide +kernel
theorem dX2_measure_42 : decode cX2_measure 42 = .ok (.aload_n 1, 1) := by decide +kernel
theorem dX2_measure_43 : decode cX2_measure 43 = .ok (.getfield 190, 3) := by decide +kernel
theorem dX2_measure_46 : decode cX2_measure 46 = .ok (.sipush 1000, 3) := by decide +kernel
theorem dX2_measure_49 : decode cX2_measure 49 = .ok (.idiv, 1) := by decide +kernel
theorem dX2_measure_50 : decode cX2_measure 50 = .ok (.sipush 1000, 3) := by decide +kernel
theorem dX2_measure_53 : decode cX2_measure 53 = .ok (.irem, 1) := by decide +kernel
theorem dX2_measure_54 : decode cX2_measure 54 = .ok (.invokestatic 183, 3) := by decide +kernel
theorem dX2_measure_57 : decode cX2_measure 57 = .ok (.istore_n 2, 1) := by decide +kernel
theorem dX2_measure_58 : decode cX2_measure 58 = .ok (.iload_n 2, 1) := by decide +kernel
theorem dX2_measure_59 : decode cX2_measure 59 = .ok (.aload_n 1, 1) := by decide +kernel
theorem dX2_measure_60 : decode cX2_measure 60 = .ok (.getfield 190, 3) := by decide +kernel
theorem dX2_measure_63 : decode cX2_measure 63 = .ok (.sipush 1000, 3) := by decide +kernel
theorem dX2_measure_66 : decode cX2_measure 66 = .ok (.irem, 1) := by decide +kernel
theorem dX2_measure_67 : decode cX2_measure 67 = .ok (.invokestatic 183, 3) := by decide +kernel
theorem dX2_measure_70 : decode cX2_measure 70 = .ok (.istore_n 2, 1) := by decide +kernel
theorem dX2_measure_71 : decode cX2_measure 71 = .ok (.iload_n 2, 1) := by decide +kernel
theorem dX2_measure_72 : decode cX2_measure 72 = .ok (.aload_n 1, 1) := by decide +kernel
theorem dX2_measure_73 : decode cX2_measure 73 = .ok (.getfield 194, 3) := by decide +kernel
theorem dX2_measure_76 : decode cX2_measure 76 = .ok (.invokestatic 183, 3) := by decide +kernel
theorem dX2_measure_79 : decode cX2_measure 79 = .ok (.istore_n 2, 1) := by decide +kernel
theorem dX2_measure_80 : decode cX2_measure 80 = .ok (.iload_n 2, 1) := by decide +kernel
theorem dX2_measure_81 : decode cX2_measure 81 = .ok (.aload_n 1, 1) := by decide +kernel
theorem dX2_measure_82 : decode cX2_measure 82 = .ok (.getfield 170, 3) := by decide +kernel
theorem dX2_measure_85 : decode cX2_measure 85 = .ok (.invokestatic 183, 3) := by decide +kernel
theorem dX2_measure_88 : decode cX2_measure 88 = .ok (.istore_n 2, 1) := by decide +kernel
theorem dX2_measure_89 : decode cX2_measure 89 = .ok (.iload_n 2, 1) := by decide +kernel
theorem dX2_measure_90 : decode cX2_measure 90 = .ok (.aload_n 1, 1) := by decide +kernel
theorem dX2_measure_91 : decode cX2_measure 91 = .ok (.getfield 92, 3) := by decide +kernel
theorem dX2_measure_94 : decode cX2_measure 94 = .ok (.invokestatic 183, 3) := by decide +kernel
theorem dX2_measure_97 : decode cX2_measure 97 = .ok (.ireturn, 1) := by decide +kernel
theorem dX2_step_0 : decode cX2_step 0 = .ok (.iload_n 0, 1) := by decide +kernel
theorem dX2_step_1 : decode cX2_step 1 = .ok (.bipush 31, 2) := by decide +kernel
theorem dX2_step_3 : decode cX2_step 3 = .ok (.imul, 1) := by decide +kernel
theorem dX2_step_4 : decode cX2_step 4 = .ok (.iload_n 1, 1) := by decide +kernel
theorem dX2_step_5 : decode cX2_step 5 = .ok (.iadd, 1) := by decide +kernel
theorem dX2_step_6 : decode cX2_step 6 = .ok (.bipush 7, 2) := by decide +kernel
theorem dX2_step_8 : decode cX2_step 8 = .ok (.iadd, 1) := by decide +kernel
theorem dX2_step_9 : decode cX2_step 9 = .ok (.ldc 197, 2) := by decide +kernel
theorem dX2_step_11 : decode cX2_step 11 = .ok (.irem, 1) := by decide +kernel
theorem dX2_step_12 : decode cX2_step 12 = .ok (.ireturn, 1) := by decide +kernel
theorem dJ6_compare_7cf53_0 : decode cJ6_compare_7cf53 0 = .ok (.iload_n 0, 1) := by decide +kernel
theorem dJ6_compare_7cf53_1 : decode cJ6_compare_7cf53 1 = .ok (.iload_n 1, 1) := by decide +kernel
theorem dJ6_compare_7cf53_2 : decode cJ6_compare_7cf53 2 = .ok (.if_icmp .ge 7, 3) := by decide +kernel
theorem dJ6_compare_7cf53_5 : decode cJ6_compare_7cf53 5 = .ok (.iconst (-1), 1) := by decide +kernel
theorem dJ6_compare_7cf53_6 : decode cJ6_compare_7cf53 6 = .ok (.goto 13, 3) := by decide +kernel
theorem dJ6_compare_7cf53_9 : decode cJ6_compare_7cf53 9 = .ok (.iload_n 0, 1) := by decide +kernel
theorem dJ6_compare_7cf53_10 : decode cJ6_compare_7cf53 10 = .ok (.iload_n 1, 1) := by decide +kernel
theorem dJ6_compare_7cf53_11 : decode cJ6_compare_7cf53 11 = .ok (.if_icmp .ne 7, 3) := by decide +kernel
theorem dJ6_compare_7cf53_14 : decode cJ6_compare_7cf53 14 = .ok (.iconst 0, 1) := by decide +kernel
theorem dJ6_compare_7cf53_15 : decode cJ6_compare_7cf53 15 = .ok (.goto 4, 3) := by decide +kernel
theorem dJ6_compare_7cf53_18 : decode cJ6_compare_7cf53 18 = .ok (.iconst 1, 1) := by decide +kernel
theorem dJ6_compare_7cf53_19 : decode cJ6_compare_7cf53 19 = .ok (.ireturn, 1) := by decide +kernel
set_option maxRecDepth 20000 in
theorem ggL_lock_X2_lock : GoodIn wsL_lock wsX2_lock := goodIn_ca (goodIn_ca (goodIn_r _ [7, 8, 9, 10, 11, 12, 6, 13, 14, 15, 16, 17, 18, 19, 20, 21, 22, 23, 24, 25, 26, 27, 28, 29, 30, 31, 32, 33, 34, 35, 36, 37, 38, 39, 40, 41, 42, 43, 44, 45, 46, 47, 48] (by decide +kernel) (by decide +kernel)) (goodIn_sub (fun _ h => List.mem_cons_of_mem _ (List.mem_append_left _ (List.mem_append_right _ h))) (by decide +kernel))) (goodIn_sub (fun _ h => List.mem_cons_of_mem _ (List.mem_append_right _ h)) (by decide +kernel))
set_option maxRecDepth 20000 in
theorem gL_lock_X2_lock : GoodIn wsL_lock (wsV RL 7 RX2 yX2_lock wsX2_lock) := goodIn_app (goodIn_of _ (by decide +kernel)) ggL_lock_X2_lock
end
section
theorem dL_lock_0 : decode cL_lock 0 = .ok (.aload_n 0, 1) := by decide +kernel
theorem dL_lock_1 : decode cL_lock 1 = .ok (.iload_n 1, 1) := by decide +kernel
theorem dL_lock_2 : decode cL_lock 2 = .ok (.iload_n 2, 1) := by decide +kernel
theorem dL_lock_3 : decode cL_lock 3 = .ok (.invokevirtual 7, 3) := by decide +kernel
theorem dL_lock_6 : decode cL_lock 6 = .ok (.iconst 0, 1) := by decide +kernel
theorem dL_lock_7 : decode cL_lock 7 = .ok (.ireturn, 1) := by decide +kernel
theorem dL_lock_8 : decode cL_lock 8 = .ok (.astore_n 3, 1) := by decide +kernel
theorem dL_lock_9 : decode cL_lock 9 = .ok (.bipush (-72), 2) := by decide +kernel
theorem dL_lock_11 : decode cL_lock 11 = .ok (.ireturn, 1) := by decide +kernel
theorem dL_lock_12 : decode cL_lock 12 = .ok (.astore_n 3, 1) := by decide +kernel
theorem dL_lock_13 : decode cL_lock 13 = .ok (.bipush (-73), 2) := by decide +kernel
theorem dL_lock_15 : decode cL_lock 15 = .ok (.ireturn, 1) := by decide +kernel
set_option maxRecDepth 200000 in
theorem ggL_act_X2_remove : GoodIn wsL_act wsX2_remove := goodIn_ca (goodIn_r _ [8, 9, 10, 11, 7, 12, 13, 14, 15, 16, 17, 18, 19, 20, 21, 22, 23, 169, 170, 171, 172, 173, 174, 175, 176, 177, 178, 179, 180, 181, 182, 183, 184, 185] rfl (by decide +kernel)) (goodIn_sub (fun _ h => List.mem_cons_of_mem _ (List.mem_append_left _ (List.mem_append_left _ (List.mem_append_left _ (List.mem_append_right _ h))))) (by decide +kernel))
set_option maxRecDepth 20000 in
theorem gL_act_X2_remove : GoodIn wsL_act (wsV RL 17 RX2 yX2_remove wsX2_remove) := goodIn_app (goodIn_of _ (by decide +kernel)) ggL_act_X2_remove
set_option maxRecDepth 200000 in
theorem ggL_act_X2_edit : GoodIn wsL_act wsX2_edit := goodIn_ca (goodIn_ca (goodIn_ca (goodIn_r _ [27, 28, 29, 9, 10, 11, 7, 12, 13, 14, 15, 16, 17, 18, 19, 30, 31, 32, 33, 34, 35, 36, 37, 38, 39, 169, 170, 171, 172, 173, 174, 175, 176, 177, 178, 179, 180, 181, 182, 183, 184, 185, 186, 187, 188, 189, 190] rfl (by decide +kernel)) (goodIn_sub (fun _ h => List.mem_cons_of_mem _ (List.mem_append_left _ (List.mem_append_left _ (List.mem_append_right _ h)))) (by decide +kernel))) (goodIn_sub (fun _ h => List.mem_cons_of_mem _ (List.mem_append_left _ (List.mem_append_left _ (List.mem_append_left _ (List.mem_append_right _ h))))) (by decide +kernel))) (goodIn_sub (fun _ h => List.mem_cons_of_mem _ (List.mem_append_left _ (List.mem_append_right _ h))) (by decide +kernel))
set_option maxRecDepth 20000 in
theorem gL_act_X2_edit : GoodIn wsL_act (wsV RL 21 RX2 yX2_edit wsX2_edit) := goodIn_app (goodIn_of _ (by decide +kernel)) ggL_act_X2_edit
set_option maxRecDepth 200000 in
theorem ggL_act_X2_choose : GoodIn wsL_act wsX2_choose := goodIn_ca (goodIn_ca (goodIn_r _ [43, 44, 45, 46, 47, 7, 48, 13, 14, 15, 16, 17, 18, 19, 33, 34, 35, 36, 37, 38, 39, 177, 178, 179, 180, 181, 182, 183, 184, 185, 169, 170, 171, 172, 173, 174, 175, 176, 186, 187, 188, 189, 190] rfl (by decide +kernel)) (goodIn_sub (fun _ h => List.mem_cons_of_mem _ (List.mem_append_left _ (List.mem_append_left _ (List.mem_append_left _ (List.mem_append_right _ h))))) (by decide +kernel))) (goodIn_sub (fun _ h => List.mem_cons_of_mem _ (List.mem_append_left _ (List.mem_append_right _ h))) (by decide +kernel))
set_option maxRecDepth 20000 in
theorem gL_act_X2_choose : GoodIn wsL_act (wsV RL 25 RX2 yX2_choose wsX2_choose) := goodIn_app (goodIn_of _ (by decide +kernel)) ggL_act_X2_choose
set_option maxRecDepth 200000 in
theorem ggL_act_X2_chooseOnce : GoodIn wsL_act wsX2_chooseOnce := goodIn_ca (goodIn_r _ [52, 53, 45, 46, 47, 7, 48, 13, 14, 15, 16, 17, 18, 19, 177, 178, 179, 180, 181, 182, 183, 184, 185, 169, 170, 171, 172, 173, 174, 175, 176] rfl (by decide +kernel)) (goodIn_sub (fun _ h => List.mem_cons_of_mem _ (List.mem_append_left _ (List.mem_append_left _ (List.mem_append_left _ (List.mem_append_right _ h))))) (by decide +kernel))
set_option maxRecDepth 20000 in
theorem gL_act_X2_chooseOnce : GoodIn wsL_act (wsV RL 28 RX2 yX2_chooseOnce wsX2_chooseOnce) := goodIn_app (goodIn_of _ (by decide +kernel)) ggL_act_X2_chooseOnce
set_option maxRecDepth 200000 in
theorem ggL_act_X2_setPattern : GoodIn wsL_act wsX2_setPattern := goodIn_ca (goodIn_ca (goodIn_r _ [57, 28, 29, 58, 59, 30, 31, 7, 32, 33, 34, 35, 36, 37, 38, 39, 60, 61, 62, 63, 19, 64, 65, 66, 67, 177, 178, 179, 180, 181, 182, 183, 184, 185, 186, 187, 188, 189, 190, 169, 170, 171, 172, 173, 174, 175, 176] rfl (by decide +kernel)) (goodIn_sub (fun _ h => List.mem_cons_of_mem _ (List.mem_append_left _ (List.mem_append_left _ (List.mem_append_right _ h)))) (by decide +kernel))) (goodIn_sub (fun _ h => List.mem_cons_of_mem _ (List.mem_append_left _ (List.mem_append_right _ h))) (by decide +kernel))
set_option maxRecDepth 20000 in
theorem gL_act_X2_setPattern : GoodIn wsL_act (wsV RL 31 RX2 yX2_setPattern wsX2_setPattern) := goodIn_app (goodIn_of _ (by decide +kernel)) ggL_act_X2_setPattern
set_option maxRecDepth 200000 in
theorem ggL_act_X2_start : GoodIn wsL_act wsX2_start := goodIn_ca (goodIn_r _ [71, 37, 38, 72, 53, 73, 39, 74, 75, 76, 7, 77, 44, 15, 16, 17, 18, 19, 78, 79, 80, 81, 82, 83, 84, 85, 86, 64, 65, 66, 67, 58, 59, 30, 31, 32, 87, 88, 89, 90, 91, 92, 93, 94, 95, 96, 97, 98, 99, 100, 101, 102, 103, 104, 105, 106, 107, 108, 109, 110, 111, 112, 113, 114, 115, 116, 117, 118, 119, 120, 121, 122, 123, 124, 125, 126, 127, 128, 177, 178, 179, 180, 181, 182, 183, 184, 185, 169, 170, 171, 172, 173, 174, 175, 176, 186, 187, 188, 189, 190] rfl (by decide +kernel)) (goodIn_sub (fun _ h => List.mem_cons_of_mem _ (List.mem_append_left _ (List.mem_append_right _ h))) (by decide +kernel))
set_option maxRecDepth 20000 in
theorem gL_act_X2_start : GoodIn wsL_act (wsV RL 34 RX2 yX2_start wsX2_start) := goodIn_app (goodIn_of _ (by decide +kernel)) ggL_act_X2_start
set_option maxRecDepth 200000 in
theorem ggL_act_X2_good : GoodIn wsL_act wsX2_good := goodIn_ca (goodIn_r _ [132, 37, 38, 73, 15, 16, 17, 7, 18, 19, 177, 178, 179, 180, 181, 182, 183, 184, 185, 169, 170, 171, 172, 173, 174, 175, 176] rfl (by decide +kernel)) (goodIn_sub (fun _ h => List.mem_cons_of_mem _ (List.mem_append_left _ (List.mem_append_right _ h))) (by decide +kernel))
set_option maxRecDepth 20000 in
theorem gL_act_X2_good : GoodIn wsL_act (wsV RL 38 RX2 yX2_good wsX2_good) := goodIn_app (goodIn_of _ (by decide +kernel)) ggL_act_X2_good
set_option maxRecDepth 200000 in
theorem ggL_act_X2_enter : GoodIn wsL_act wsX2_enter := goodIn_ca (goodIn_ca (goodIn_r _ [136, 28, 29, 39, 30, 31, 7, 32, 137, 125, 138, 139, 140, 38, 141, 128, 142, 143, 144, 145, 146, 147, 148, 177, 178, 179, 180, 181, 182, 183, 184, 185, 186, 187, 188, 189, 190] rfl (by decide +kernel)) (goodIn_sub (fun _ h => List.mem_cons_of_mem _ (List.mem_append_left _ (List.mem_append_left _ (List.mem_append_right _ h)))) (by decide +kernel))) (goodIn_sub (fun _ h => List.mem_cons_of_mem _ (List.mem_append_right _ h)) (by decide +kernel))
set_option maxRecDepth 20000 in
theorem gL_act_X2_enter : GoodIn wsL_act (wsV RL 41 RX2 yX2_enter wsX2_enter) := goodIn_app (goodIn_of _ (by decide +kernel)) ggL_act_X2_enter
set_option maxRecDepth 200000 in
theorem ggL_act_X2_at : GoodIn wsL_act wsX2_at := goodIn_ca (goodIn_r _ [152, 13, 14, 104, 105, 106, 7, 107, 19, 108, 109, 110, 111, 87, 79, 88, 89, 90, 91, 92, 93, 78, 80, 81, 82, 94, 95, 96, 97, 98, 99, 100, 101, 102, 103, 169, 170, 171, 172, 173, 174, 175, 176, 177, 178, 179, 180, 181, 182, 183, 184, 185] rfl (by decide +kernel)) (goodIn_sub (fun _ h => List.mem_cons_of_mem _ (List.mem_append_left _ (List.mem_append_left _ (List.mem_append_left _ (List.mem_append_right _ h))))) (by decide +kernel))
set_option maxRecDepth 20000 in
theorem gL_act_X2_at : GoodIn wsL_act (wsV RL 45 RX2 yX2_at wsX2_at) := goodIn_app (goodIn_of _ (by decide +kernel)) ggL_act_X2_at
set_option maxRecDepth 200000 in
theorem ggL_act_X2_placeOf : GoodIn wsL_act wsX2_placeOf := goodIn_ca (goodIn_r _ [156, 9, 10, 11, 7, 12, 13, 14, 15, 16, 17, 18, 19, 108, 109, 110, 111, 87, 79, 88, 89, 90, 91, 92, 93, 78, 80, 81, 82, 94, 95, 96, 97, 98, 99, 100, 101, 102, 103, 177, 178, 179, 180, 181, 182, 183, 184, 185, 169, 170, 171, 172, 173, 174, 175, 176] rfl (by decide +kernel)) (goodIn_sub (fun _ h => List.mem_cons_of_mem _ (List.mem_append_left _ (List.mem_append_left _ (List.mem_append_left _ (List.mem_append_right _ h))))) (by decide +kernel))
set_option maxRecDepth 20000 in
theorem gL_act_X2_placeOf : GoodIn wsL_act (wsV RL 48 RX2 yX2_placeOf wsX2_placeOf) := goodIn_app (goodIn_of _ (by decide +kernel)) ggL_act_X2_placeOf
set_option maxRecDepth 200000 in
theorem ggL_act_X2_tries : GoodIn wsL_act wsX2_tries := goodIn_ca (goodIn_r _ [160, 9, 10, 11, 7, 12, 13, 14, 15, 16, 17, 18, 19, 169, 170, 171, 172, 173, 174, 175, 176, 177, 178, 179, 180, 181, 182, 183, 184, 185] rfl (by decide +kernel)) (goodIn_sub (fun _ h => List.mem_cons_of_mem _ (List.mem_append_left _ (List.mem_append_left _ (List.mem_append_left _ (List.mem_append_right _ h))))) (by decide +kernel))
set_option maxRecDepth 20000 in
theorem gL_act_X2_tries : GoodIn wsL_act (wsV RL 51 RX2 yX2_tries wsX2_tries) := goodIn_app (goodIn_of _ (by decide +kernel)) ggL_act_X2_tries
set_option maxRecDepth 200000 in
theorem ggL_act_X2_compare : GoodIn wsL_act wsX2_compare := goodIn_ca (goodIn_r _ [164, 9, 10, 11, 7, 12, 13, 14, 15, 16, 17, 18, 19, 95, 79, 96, 97, 98, 99, 100, 101, 102, 103, 177, 178, 179, 180, 181, 182, 183, 184, 185, 169, 170, 171, 172, 173, 174, 175, 176] rfl (by decide +kernel)) (goodIn_sub (fun _ h => List.mem_cons_of_mem _ (List.mem_append_left _ (List.mem_append_left _ (List.mem_append_left _ (List.mem_append_right _ h))))) (by decide +kernel))
set_option maxRecDepth 20000 in
theorem gL_act_X2_compare : GoodIn wsL_act (wsV RL 54 RX2 yX2_compare wsX2_compare) := goodIn_app (goodIn_of _ (by decide +kernel)) ggL_act_X2_compare
set_option maxRecDepth 200000 in
theorem ggL_act_X2_foretold : GoodIn wsL_act wsX2_foretold := goodIn_ca (goodIn_r _ [168, 9, 10, 11, 7, 12, 13, 14, 15, 16, 17, 18, 19, 112, 113, 114, 115, 39, 116, 117, 118, 119, 120, 177, 178, 179, 180, 181, 182, 183, 184, 185, 169, 170, 171, 172, 173, 174, 175, 176, 186, 187, 188, 189, 190] rfl (by decide +kernel)) (goodIn_sub (fun _ h => List.mem_cons_of_mem _ (List.mem_append_left _ (List.mem_append_left _ (List.mem_append_left _ (List.mem_append_right _ h))))) (by decide +kernel))
set_option maxRecDepth 20000 in
theorem gL_act_X2_foretold : GoodIn wsL_act (wsV RL 57 RX2 yX2_foretold wsX2_foretold) := goodIn_app (goodIn_of _ (by decide +kernel)) ggL_act_X2_foretold
theorem dL_act_0 : decode cL_act 0 = .ok (.iload_n 1, 1) := by decide +kernel
theorem dL_act_1 : decode cL_act 1 = .ok (.ifCond .ne 11, 3) := by decide +kernel
theorem dL_act_4 : decode cL_act 4 = .ok (.aload_n 0, 1) := by decide +kernel
theorem dL_act_5 : decode cL_act 5 = .ok (.iload_n 2, 1) := by decide +kernel
theorem dL_act_6 : decode cL_act 6 = .ok (.invokevirtual 17, 3) := by decide +kernel
theorem dL_act_9 : decode cL_act 9 = .ok (.goto 166, 3) := by decide +kernel
theorem dL_act_12 : decode cL_act 12 = .ok (.iload_n 1, 1) := by decide +kernel
theorem dL_act_13 : decode cL_act 13 = .ok (.iconst 1, 1) := by decide +kernel
theorem dL_act_14 : decode cL_act 14 = .ok (.if_icmp .ne 12, 3) := by decide +kernel
theorem dL_act_17 : decode cL_act 17 = .ok (.aload_n 0, 1) := by decide +kernel
theorem dL_act_18 : decode cL_act 18 = .ok (.iload_n 2, 1) := by decide +kernel
theorem dL_act_19 : decode cL_act 19 = .ok (.iload_n 3, 1) := by decide +kernel
theorem dL_act_20 : decode cL_act 20 = .ok (.invokevirtual 21, 3) := by decide +kernel
theorem dL_act_23 : decode cL_act 23 = .ok (.goto 152, 3) := by decide +kernel
theorem dL_act_26 : decode cL_act 26 = .ok (.iload_n 1, 1) := by decide +kernel
theorem dL_act_27 : decode cL_act 27 = .ok (.iconst 2, 1) := by decide +kernel
theorem dL_act_28 : decode cL_act 28 = .ok (.if_icmp .ne 11, 3) := by decide +kernel
theorem dL_act_31 : decode cL_act 31 = .ok (.aload_n 0, 1) := by decide +kernel
theorem dL_act_32 : decode cL_act 32 = .ok (.iload_n 2, 1) := by decide +kernel
theorem dL_act_33 : decode cL_act 33 = .ok (.invokevirtual 25, 3) := by decide +kernel
theorem dL_act_36 : decode cL_act 36 = .ok (.goto 139, 3) := by decide +kernel
theorem dL_act_39 : decode cL_act 39 = .ok (.iload_n 1, 1) := by decide +kernel
theorem dL_act_40 : decode cL_act 40 = .ok (.iconst 3, 1) := by decide +kernel
theorem dL_act_41 : decode cL_act 41 = .ok (.if_icmp .ne 11, 3) := by decide +kernel
theorem dL_act_44 : decode cL_act 44 = .ok (.aload_n 0, 1) := by decide +kernel
theorem dL_act_45 : decode cL_act 45 = .ok (.iload_n 2, 1) := by decide +kernel
theorem dL_act_46 : decode cL_act 46 = .ok (.invokevirtual 28, 3) := by decide +kernel
theorem dL_act_49 : decode cL_act 49 = .ok (.goto 126, 3) := by decide +kernel
theorem dL_act_52 : decode cL_act 52 = .ok (.iload_n 1, 1) := by decide +kernel
theorem dL_act_53 : decode cL_act 53 = .ok (.iconst 4, 1) := by decide +kernel
theorem dL_act_54 : decode cL_act 54 = .ok (.if_icmp .ne 12, 3) := by decide +kernel
theorem dL_act_57 : decode cL_act 57 = .ok (.aload_n 0, 1) := by decide +kernel
theorem dL_act_58 : decode cL_act 58 = .ok (.iload_n 2, 1) := by decide +kernel
theorem dL_act_59 : decode cL_act 59 = .ok (.iload_n 3, 1) := by decide +kernel
theorem dL_act_60 : decode cL_act 60 = .ok (.invokevirtual 31, 3) := by decide +kernel
theorem dL_act_63 : decode cL_act 63 = .ok (.goto 112, 3) := by decide +kernel
theorem dL_act_66 : decode cL_act 66 = .ok (.iload_n 1, 1) := by decide +kernel
theorem dL_act_67 : decode cL_act 67 = .ok (.iconst 5, 1) := by decide +kernel
theorem dL_act_68 : decode cL_act 68 = .ok (.if_icmp .ne 10, 3) := by decide +kernel
theorem dL_act_71 : decode cL_act 71 = .ok (.aload_n 0, 1) := by decide +kernel
theorem dL_act_72 : decode cL_act 72 = .ok (.invokevirtual 34, 3) := by decide +kernel
theorem dL_act_75 : decode cL_act 75 = .ok (.goto 100, 3) := by decide +kernel
theorem dL_act_78 : decode cL_act 78 = .ok (.iload_n 1, 1) := by decide +kernel
theorem dL_act_79 : decode cL_act 79 = .ok (.bipush 6, 2) := by decide +kernel
theorem dL_act_81 : decode cL_act 81 = .ok (.if_icmp .ne 10, 3) := by decide +kernel
theorem dL_act_84 : decode cL_act 84 = .ok (.aload_n 0, 1) := by decide +kernel
theorem dL_act_85 : decode cL_act 85 = .ok (.invokevirtual 38, 3) := by decide +kernel
theorem dL_act_88 : decode cL_act 88 = .ok (.goto 87, 3) := by decide +kernel
theorem dL_act_91 : decode cL_act 91 = .ok (.iload_n 1, 1) := by decide +kernel
theorem dL_act_92 : decode cL_act 92 = .ok (.bipush 7, 2) := by decide +kernel
theorem dL_act_94 : decode cL_act 94 = .ok (.if_icmp .ne 19, 3) := by decide +kernel
theorem dL_act_97 : decode cL_act 97 = .ok (.aload_n 0, 1) := by decide +kernel
theorem dL_act_98 : decode cL_act 98 = .ok (.iload_n 2, 1) := by decide +kernel
theorem dL_act_99 : decode cL_act 99 = .ok (.invokevirtual 41, 3) := by decide +kernel
theorem dL_act_102 : decode cL_act 102 = .ok (.ifCond .eq 7, 3) := by decide +kernel
theorem dL_act_105 : decode cL_act 105 = .ok (.iconst 1, 1) := by decide +kernel
theorem dL_act_106 : decode cL_act 106 = .ok (.goto 69, 3) := by decide +kernel
theorem dL_act_109 : decode cL_act 109 = .ok (.iconst 0, 1) := by decide +kernel
theorem dL_act_110 : decode cL_act 110 = .ok (.goto 65, 3) := by decide +kernel
theorem dL_act_113 : decode cL_act 113 = .ok (.iload_n 1, 1) := by decide +kernel
theorem dL_act_114 : decode cL_act 114 = .ok (.bipush 8, 2) := by decide +kernel
theorem dL_act_116 : decode cL_act 116 = .ok (.if_icmp .ne 11, 3) := by decide +kernel
theorem dL_act_119 : decode cL_act 119 = .ok (.aload_n 0, 1) := by decide +kernel
theorem dL_act_120 : decode cL_act 120 = .ok (.iload_n 2, 1) := by decide +kernel
theorem dL_act_121 : decode cL_act 121 = .ok (.invokevirtual 45, 3) := by decide +kernel
theorem dL_act_124 : decode cL_act 124 = .ok (.goto 51, 3) := by decide +kernel
theorem dL_act_127 : decode cL_act 127 = .ok (.iload_n 1, 1) := by decide +kernel
theorem dL_act_128 : decode cL_act 128 = .ok (.bipush 9, 2) := by decide +kernel
theorem dL_act_130 : decode cL_act 130 = .ok (.if_icmp .ne 11, 3) := by decide +kernel
theorem dL_act_133 : decode cL_act 133 = .ok (.aload_n 0, 1) := by decide +kernel
theorem dL_act_134 : decode cL_act 134 = .ok (.iload_n 2, 1) := by decide +kernel
theorem dL_act_135 : decode cL_act 135 = .ok (.invokevirtual 48, 3) := by decide +kernel
theorem dL_act_138 : decode cL_act 138 = .ok (.goto 37, 3) := by decide +kernel
theorem dL_act_141 : decode cL_act 141 = .ok (.iload_n 1, 1) := by decide +kernel
theorem dL_act_142 : decode cL_act 142 = .ok (.bipush 10, 2) := by decide +kernel
theorem dL_act_144 : decode cL_act 144 = .ok (.if_icmp .ne 11, 3) := by decide +kernel
theorem dL_act_147 : decode cL_act 147 = .ok (.aload_n 0, 1) := by decide +kernel
theorem dL_act_148 : decode cL_act 148 = .ok (.iload_n 2, 1) := by decide +kernel
theorem dL_act_149 : decode cL_act 149 = .ok (.invokevirtual 51, 3) := by decide +kernel
theorem dL_act_152 : decode cL_act 152 = .ok (.goto 23, 3) := by decide +kernel
theorem dL_act_155 : decode cL_act 155 = .ok (.iload_n 1, 1) := by decide +kernel
theorem dL_act_156 : decode cL_act 156 = .ok (.bipush 11, 2) := by decide +kernel
theorem dL_act_158 : decode cL_act 158 = .ok (.if_icmp .ne 12, 3) := by decide +kernel
theorem dL_act_161 : decode cL_act 161 = .ok (.aload_n 0, 1) := by decide +kernel
theorem dL_act_162 : decode cL_act 162 = .ok (.iload_n 2, 1) := by decide +kernel
theorem dL_act_163 : decode cL_act 163 = .ok (.iload_n 3, 1) := by decide +kernel
theorem dL_act_164 : decode cL_act 164 = .ok (.invokevirtual 54, 3) := by decide +kernel
theorem dL_act_167 : decode cL_act 167 = .ok (.goto 8, 3) := by decide +kernel
theorem dL_act_170 : decode cL_act 170 = .ok (.aload_n 0, 1) := by decide +kernel
theorem dL_act_171 : decode cL_act 171 = .ok (.iload_n 2, 1) := by decide +kernel
theorem dL_act_172 : decode cL_act 172 = .ok (.invokevirtual 57, 3) := by decide +kernel
theorem dL_act_175 : decode cL_act 175 = .ok (.ireturn, 1) := by decide +kernel
theorem dL_act_176 : decode cL_act 176 = .ok (.astore 4, 2) := by decide +kernel
theorem dL_act_178 : decode cL_act 178 = .ok (.bipush (-71), 2) := by decide +kernel
theorem dL_act_180 : decode cL_act 180 = .ok (.ireturn, 1) := by decide +kernel
theorem dL_act_181 : decode cL_act 181 = .ok (.astore 4, 2) := by decide +kernel
theorem dL_act_183 : decode cL_act 183 = .ok (.bipush (-72), 2) := by decide +kernel
theorem dL_act_185 : decode cL_act 185 = .ok (.ireturn, 1) := by decide +kernel
theorem dL_act_186 : decode cL_act 186 = .ok (.astore 4, 2) := by decide +kernel
theorem dL_act_188 : decode cL_act 188 = .ok (.bipush (-73), 2) := by decide +kernel
theorem dL_act_190 : decode cL_act 190 = .ok (.ireturn, 1) := by decide +kernel
set_option maxRecDepth 200000 in
theorem ggL_add_X2_add : GoodIn wsL_add wsX2_add := goodIn_ca (goodIn_ca (goodIn_r _ [7, 8, 9, 10, 11, 12, 13, 14, 15, 6, 16, 17, 18, 19, 20, 21, 22, 23, 24, 25, 26, 27, 28, 29, 30, 31, 32, 33, 34, 35, 36, 37, 38, 39, 40, 41, 42, 43, 44, 45, 46, 47, 48, 49, 50] rfl (by decide +kernel)) (goodIn_sub (fun _ h => List.mem_cons_of_mem _ (List.mem_append_left _ (List.mem_append_right _ h))) (by decide +kernel))) (goodIn_sub (fun _ h => List.mem_cons_of_mem _ (List.mem_append_right _ h)) (by decide +kernel))
set_option maxRecDepth 20000 in
theorem gL_add_X2_add : GoodIn wsL_add (wsV RL 62 RX2 yX2_add wsX2_add) := goodIn_app (goodIn_of _ (by decide +kernel)) ggL_add_X2_add
theorem dL_add_0 : decode cL_add 0 = .ok (.aload_n 0, 1) := by decide +kernel
theorem dL_add_1 : decode cL_add 1 = .ok (.iload_n 1, 1) := by decide +kernel
theorem dL_add_2 : decode cL_add 2 = .ok (.iload_n 2, 1) := by decide +kernel
theorem dL_add_3 : decode cL_add 3 = .ok (.iload_n 3, 1) := by decide +kernel
theorem dL_add_4 : decode cL_add 4 = .ok (.iload 4, 2) := by decide +kernel
theorem dL_add_6 : decode cL_add 6 = .ok (.iload 5, 2) := by decide +kernel
theorem dL_add_8 : decode cL_add 8 = .ok (.invokevirtual 62, 3) := by decide +kernel
theorem dL_add_11 : decode cL_add 11 = .ok (.ireturn, 1) := by decide +kernel
theorem dL_add_12 : decode cL_add 12 = .ok (.astore 6, 2) := by decide +kernel
theorem dL_add_14 : decode cL_add 14 = .ok (.bipush (-72), 2) := by decide +kernel
theorem dL_add_16 : decode cL_add 16 = .ok (.ireturn, 1) := by decide +kernel
theorem dL_add_17 : decode cL_add 17 = .ok (.astore 6, 2) := by decide +kernel
theorem dL_add_19 : decode cL_add 19 = .ok (.bipush (-73), 2) := by decide +kernel
theorem dL_add_21 : decode cL_add 21 = .ok (.ireturn, 1) := by decide +kernel
set_option maxRecDepth 200000 in
theorem ggL_refuses_X2_entries : GoodIn wsL_refuses wsX2_entries := goodIn_r _ [7, 8, 9, 10, 6, 11, 12, 223, 224, 225, 226, 227, 228, 229, 230, 231, 232, 233, 234, 235, 236, 237, 238, 239] rfl (by decide +kernel)
set_option maxRecDepth 20000 in
theorem gL_refuses_X2_entries : GoodIn wsL_refuses (wsV RL 66 RX2 yX2_entries wsX2_entries) := goodIn_app (goodIn_of _ (by decide +kernel)) ggL_refuses_X2_entries
set_option maxRecDepth 200000 in
theorem ggL_refuses_X2_next : GoodIn wsL_refuses wsX2_next := goodIn_r _ [16, 17, 18, 19, 6, 20, 21, 22, 23, 24, 25, 26, 12, 27, 28, 29, 30, 31, 32, 33, 34, 35, 36, 37, 38, 39, 40, 41, 42, 43, 44, 45, 46, 47, 48, 49, 50, 51, 52, 53, 54, 55, 56, 57, 58, 59, 60, 61, 62, 63, 64, 65, 66, 67, 68, 69, 232, 233, 234, 235, 236, 237, 238, 239, 223, 224, 225, 226, 227, 228, 229, 230, 231] rfl (by decide +kernel)
set_option maxRecDepth 20000 in
theorem gL_refuses_X2_next : GoodIn wsL_refuses (wsV RL 69 RX2 yX2_next wsX2_next) := goodIn_app (goodIn_of _ (by decide +kernel)) ggL_refuses_X2_next
set_option maxRecDepth 200000 in
theorem ggL_refuses_X2_register : GoodIn wsL_refuses wsX2_register := goodIn_r _ [73, 74, 223, 224, 225, 226, 227, 228, 229, 230, 231] rfl (by decide +kernel)
set_option maxRecDepth 20000 in
theorem gL_refuses_X2_register : GoodIn wsL_refuses (wsV RL 72 RX2 yX2_register wsX2_register) := goodIn_app (goodIn_of _ (by decide +kernel)) ggL_refuses_X2_register
set_option maxRecDepth 200000 in
theorem ggL_refuses_X2_isLocked : GoodIn wsL_refuses wsX2_isLocked := goodIn_r _ [78, 79, 223, 224, 225, 226, 227, 228, 229, 230, 231, 240, 241, 242, 243, 244] rfl (by decide +kernel)
set_option maxRecDepth 20000 in
theorem gL_refuses_X2_isLocked : GoodIn wsL_refuses (wsV RL 75 RX2 yX2_isLocked wsX2_isLocked) := goodIn_app (goodIn_of _ (by decide +kernel)) ggL_refuses_X2_isLocked
set_option maxRecDepth 200000 in
theorem ggL_refuses_L_add : GoodIn wsL_refuses wsL_add := goodIn_ca (goodIn_ca (goodIn_r _ [83, 84, 85, 86, 87, 88, 6, 89, 90, 91, 92, 93, 94, 95, 42, 43, 44, 96, 97, 98, 99, 12, 100, 28, 101, 102, 103, 50, 48, 49, 56, 57, 104, 31, 223, 224, 225, 226, 227, 228, 229, 230, 231, 232, 233, 234, 235, 236, 237, 238, 239] rfl (by decide +kernel)) (goodIn_sub (fun _ h => List.mem_cons_of_mem _ (List.mem_append_left _ (List.mem_append_left _ (List.mem_append_left _ (List.mem_append_right _ h))))) (by decide +kernel))) (goodIn_sub (fun _ h => List.mem_cons_of_mem _ (List.mem_append_left _ (List.mem_append_left _ (List.mem_append_right _ h)))) (by decide +kernel))
set_option maxRecDepth 20000 in
theorem gL_refuses_L_add : GoodIn wsL_refuses (va_wsS RL 80 yL_add wsL_add) := goodIn_app (goodIn_of _ (by decide +kernel)) ggL_refuses_L_add
set_option maxRecDepth 200000 in
theorem ggL_refuses_L_act : GoodIn wsL_refuses wsL_act := goodIn_ca (goodIn_ca (goodIn_ca (goodIn_ca (goodIn_r _ [107, 108, 84, 85, 109, 110, 111, 6, 112, 113, 114, 115, 116, 117, 118, 23, 24, 25, 26, 12, 8, 9, 10, 11, 119, 120, 121, 122, 90, 91, 42, 43, 44, 123, 124, 125, 126, 92, 93, 79, 127, 128, 129, 130, 22, 131, 132, 133, 134, 135, 136, 137, 138, 21, 139, 140, 141, 142, 40, 41, 143, 144, 145, 146, 36, 37, 38, 39, 147, 148, 149, 150, 74, 151, 17, 18, 19, 20, 27, 28, 29, 30, 31, 32, 33, 34, 35, 45, 46, 47, 48, 49, 50, 51, 52, 53, 54, 55, 56, 57, 58, 59, 60, 61, 62, 63, 64, 65, 66, 67, 68, 69, 152, 153, 154, 155, 156, 157, 158, 159, 160, 161, 162, 163, 164, 165, 166, 167, 168, 169, 170, 171, 172, 173, 174, 175, 176, 177, 178, 179, 180, 181, 182, 183, 184, 185, 186, 187, 188, 189, 190, 191, 192, 193, 194, 195, 196, 197, 198, 199, 200, 201, 202, 203, 204, 205, 206, 207, 208, 232, 233, 234, 235, 236, 237, 238, 239, 223, 224, 225, 226, 227, 228, 229, 230, 231, 240, 241, 242, 243, 244] rfl (by decide +kernel)) (goodIn_sub (fun _ h => List.mem_cons_of_mem _ (List.mem_append_left _ (List.mem_append_right _ h))) (by decide +kernel))) (goodIn_sub (fun _ h => List.mem_cons_of_mem _ (List.mem_append_left _ (List.mem_append_left _ (List.mem_append_left _ (List.mem_append_right _ h))))) (by decide +kernel))) (goodIn_sub (fun _ h => List.mem_cons_of_mem _ (List.mem_append_left _ (List.mem_append_left _ (List.mem_append_right _ h)))) (by decide +kernel))) (goodIn_sub (fun _ h => List.mem_cons_of_mem _ (List.mem_append_right _ h)) (by decide +kernel))
set_option maxRecDepth 20000 in
theorem gL_refuses_L_act : GoodIn wsL_refuses (va_wsS RL 86 yL_act wsL_act) := goodIn_app (goodIn_of _ (by decide +kernel)) ggL_refuses_L_act
set_option maxRecDepth 200000 in
theorem ggL_refuses_L_lock : GoodIn wsL_refuses wsL_lock := goodIn_ca (goodIn_ca (goodIn_r _ [211, 84, 85, 212, 213, 214, 6, 215, 90, 91, 79, 42, 43, 44, 216, 217, 218, 123, 124, 125, 126, 92, 93, 219, 165, 220, 221, 181, 188, 187, 222, 164, 166, 167, 168, 223, 224, 225, 226, 227, 228, 229, 230, 231, 240, 241, 242, 243, 244] rfl (by decide +kernel)) (goodIn_sub (fun _ h => List.mem_cons_of_mem _ (List.mem_append_left _ (List.mem_append_left _ (List.mem_append_left _ (List.mem_append_right _ h))))) (by decide +kernel))) (goodIn_sub (fun _ h => List.mem_cons_of_mem _ (List.mem_append_left _ (List.mem_append_left _ (List.mem_append_right _ h)))) (by decide +kernel))
set_option maxRecDepth 20000 in
theorem gL_refuses_L_lock : GoodIn wsL_refuses (va_wsS RL 90 yL_lock wsL_lock) := goodIn_app (goodIn_of _ (by decide +kernel)) ggL_refuses_L_lock
theorem dL_refuses_0 : decode cL_refuses 0 = .ok (.aload_n 0, 1) := by decide +kernel
theorem dL_refuses_1 : decode cL_refuses 1 = .ok (.invokevirtual 66, 3) := by decide +kernel
theorem dL_refuses_4 : decode cL_refuses 4 = .ok (.istore_n 3, 1) := by decide +kernel
theorem dL_refuses_5 : decode cL_refuses 5 = .ok (.aload_n 0, 1) := by decide +kernel
theorem dL_refuses_6 : decode cL_refuses 6 = .ok (.invokevirtual 69, 3) := by decide +kernel
theorem dL_refuses_9 : decode cL_refuses 9 = .ok (.istore 4, 2) := by decide +kernel
theorem dL_refuses_11 : decode cL_refuses 11 = .ok (.aload_n 0, 1) := by decide +kernel
theorem dL_refuses_12 : decode cL_refuses 12 = .ok (.invokevirtual 72, 3) := by decide +kernel
theorem dL_refuses_15 : decode cL_refuses 15 = .ok (.istore 5, 2) := by decide +kernel
theorem dL_refuses_17 : decode cL_refuses 17 = .ok (.aload_n 0, 1) := by decide +kernel
theorem dL_refuses_18 : decode cL_refuses 18 = .ok (.invokevirtual 75, 3) := by decide +kernel
theorem dL_refuses_21 : decode cL_refuses 21 = .ok (.istore 6, 2) := by decide +kernel
theorem dL_refuses_23 : decode cL_refuses 23 = .ok (.ldc 79, 2) := by decide +kernel
theorem dL_refuses_25 : decode cL_refuses 25 = .ok (.istore 7, 2) := by decide +kernel
theorem dL_refuses_27 : decode cL_refuses 27 = .ok (.iconst 0, 1) := by decide +kernel
theorem dL_refuses_28 : decode cL_refuses 28 = .ok (.istore 8, 2) := by decide +kernel
theorem dL_refuses_30 : decode cL_refuses 30 = .ok (.iload 8, 2) := by decide +kernel
theorem dL_refuses_32 : decode cL_refuses 32 = .ok (.iconst 4, 1) := by decide +kernel
theorem dL_refuses_33 : decode cL_refuses 33 = .ok (.if_icmp .ge 580, 3) := by decide +kernel
theorem dL_refuses_36 : decode cL_refuses 36 = .ok (.iload 8, 2) := by decide +kernel
theorem dL_refuses_38 : decode cL_refuses 38 = .ok (.ifCond .ne 8, 3) := by decide +kernel
theorem dL_refuses_41 : decode cL_refuses 41 = .ok (.bipush (-2), 2) := by decide +kernel
theorem dL_refuses_43 : decode cL_refuses 43 = .ok (.goto 29, 3) := by decide +kernel
theorem dL_refuses_46 : decode cL_refuses 46 = .ok (.iload 8, 2) := by decide +kernel
theorem dL_refuses_48 : decode cL_refuses 48 = .ok (.iconst 1, 1) := by decide +kernel
theorem dL_refuses_49 : decode cL_refuses 49 = .ok (.if_icmp .ne 7, 3) := by decide +kernel
theorem dL_refuses_52 : decode cL_refuses 52 = .ok (.iload_n 2, 1) := by decide +kernel
theorem dL_refuses_53 : decode cL_refuses 53 = .ok (.goto 19, 3) := by decide +kernel
theorem dL_refuses_56 : decode cL_refuses 56 = .ok (.iload 8, 2) := by decide +kernel
theorem dL_refuses_58 : decode cL_refuses 58 = .ok (.iconst 2, 1) := by decide +kernel
theorem dL_refuses_59 : decode cL_refuses 59 = .ok (.if_icmp .ne 8, 3) := by decide +kernel
theorem dL_refuses_62 : decode cL_refuses 62 = .ok (.iload 7, 2) := by decide +kernel
theorem dL_refuses_64 : decode cL_refuses 64 = .ok (.goto 8, 3) := by decide +kernel
theorem dL_refuses_67 : decode cL_refuses 67 = .ok (.iload 7, 2) := by decide +kernel
theorem dL_refuses_69 : decode cL_refuses 69 = .ok (.ineg, 1) := by decide +kernel
theorem dL_refuses_70 : decode cL_refuses 70 = .ok (.iconst 1, 1) := by decide +kernel
theorem dL_refuses_71 : decode cL_refuses 71 = .ok (.isub, 1) := by decide +kernel
theorem dL_refuses_72 : decode cL_refuses 72 = .ok (.istore 9, 2) := by decide +kernel
theorem dL_refuses_74 : decode cL_refuses 74 = .ok (.iload 8, 2) := by decide +kernel
theorem dL_refuses_76 : decode cL_refuses 76 = .ok (.iconst 2, 1) := by decide +kernel
theorem dL_refuses_77 : decode cL_refuses 77 = .ok (.if_icmp .ge 7, 3) := by decide +kernel
theorem dL_refuses_80 : decode cL_refuses 80 = .ok (.iconst (-1), 1) := by decide +kernel
theorem dL_refuses_81 : decode cL_refuses 81 = .ok (.goto 5, 3) := by decide +kernel
theorem dL_refuses_84 : decode cL_refuses 84 = .ok (.iload 9, 2) := by decide +kernel
theorem dL_refuses_86 : decode cL_refuses 86 = .ok (.istore 10, 2) := by decide +kernel
theorem dL_refuses_88 : decode cL_refuses 88 = .ok (.iload 8, 2) := by decide +kernel
theorem dL_refuses_90 : decode cL_refuses 90 = .ok (.ifCond .ne 7, 3) := by decide +kernel
theorem dL_refuses_93 : decode cL_refuses 93 = .ok (.iconst (-1), 1) := by decide +kernel
theorem dL_refuses_94 : decode cL_refuses 94 = .ok (.goto 16, 3) := by decide +kernel
theorem dL_refuses_97 : decode cL_refuses 97 = .ok (.iload 8, 2) := by decide +kernel
theorem dL_refuses_99 : decode cL_refuses 99 = .ok (.iconst 1, 1) := by decide +kernel
theorem dL_refuses_100 : decode cL_refuses 100 = .ok (.if_icmp .ne 8, 3) := by decide +kernel
theorem dL_refuses_103 : decode cL_refuses 103 = .ok (.bipush 100, 2) := by decide +kernel
theorem dL_refuses_105 : decode cL_refuses 105 = .ok (.goto 5, 3) := by decide +kernel
theorem dL_refuses_108 : decode cL_refuses 108 = .ok (.iload 9, 2) := by decide +kernel
theorem dL_refuses_110 : decode cL_refuses 110 = .ok (.istore 11, 2) := by decide +kernel
theorem dL_refuses_112 : decode cL_refuses 112 = .ok (.iload 8, 2) := by decide +kernel
theorem dL_refuses_114 : decode cL_refuses 114 = .ok (.ifCond .ne 7, 3) := by decide +kernel
theorem dL_refuses_117 : decode cL_refuses 117 = .ok (.iconst (-1), 1) := by decide +kernel
theorem dL_refuses_118 : decode cL_refuses 118 = .ok (.goto 15, 3) := by decide +kernel
theorem dL_refuses_121 : decode cL_refuses 121 = .ok (.iload 8, 2) := by decide +kernel
theorem dL_refuses_123 : decode cL_refuses 123 = .ok (.iconst 1, 1) := by decide +kernel
theorem dL_refuses_124 : decode cL_refuses 124 = .ok (.if_icmp .ne 7, 3) := by decide +kernel
theorem dL_refuses_127 : decode cL_refuses 127 = .ok (.iconst 3, 1) := by decide +kernel
theorem dL_refuses_128 : decode cL_refuses 128 = .ok (.goto 5, 3) := by decide +kernel
theorem dL_refuses_131 : decode cL_refuses 131 = .ok (.iload 9, 2) := by decide +kernel
theorem dL_refuses_133 : decode cL_refuses 133 = .ok (.istore 12, 2) := by decide +kernel
theorem dL_refuses_135 : decode cL_refuses 135 = .ok (.aload_n 0, 1) := by decide +kernel
theorem dL_refuses_136 : decode cL_refuses 136 = .ok (.iload 12, 2) := by decide +kernel
theorem dL_refuses_138 : decode cL_refuses 138 = .ok (.iconst 5, 1) := by decide +kernel
theorem dL_refuses_139 : decode cL_refuses 139 = .ok (.iconst 5, 1) := by decide +kernel
theorem dL_refuses_140 : decode cL_refuses 140 = .ok (.iconst 0, 1) := by decide +kernel
theorem dL_refuses_141 : decode cL_refuses 141 = .ok (.iconst 0, 1) := by decide +kernel
theorem dL_refuses_142 : decode cL_refuses 142 = .ok (.invokestatic 80, 3) := by decide +kernel
theorem dL_refuses_145 : decode cL_refuses 145 = .ok (.bipush (-72), 2) := by decide +kernel
theorem dL_refuses_147 : decode cL_refuses 147 = .ok (.if_icmp .ne 257, 3) := by decide +kernel
theorem dL_refuses_150 : decode cL_refuses 150 = .ok (.aload_n 0, 1) := by decide +kernel
theorem dL_refuses_151 : decode cL_refuses 151 = .ok (.iconst 0, 1) := by decide +kernel
theorem dL_refuses_152 : decode cL_refuses 152 = .ok (.iload 11, 2) := by decide +kernel
theorem dL_refuses_154 : decode cL_refuses 154 = .ok (.iconst 5, 1) := by decide +kernel
theorem dL_refuses_155 : decode cL_refuses 155 = .ok (.iconst 0, 1) := by decide +kernel
theorem dL_refuses_156 : decode cL_refuses 156 = .ok (.iconst 0, 1) := by decide +kernel
theorem dL_refuses_157 : decode cL_refuses 157 = .ok (.invokestatic 80, 3) := by decide +kernel
theorem dL_refuses_160 : decode cL_refuses 160 = .ok (.bipush (-72), 2) := by decide +kernel
theorem dL_refuses_162 : decode cL_refuses 162 = .ok (.if_icmp .ne 242, 3) := by decide +kernel
theorem dL_refuses_165 : decode cL_refuses 165 = .ok (.aload_n 0, 1) := by decide +kernel
theorem dL_refuses_166 : decode cL_refuses 166 = .ok (.iconst 0, 1) := by decide +kernel
theorem dL_refuses_167 : decode cL_refuses 167 = .ok (.iconst 5, 1) := by decide +kernel
theorem dL_refuses_168 : decode cL_refuses 168 = .ok (.iload 8, 2) := by decide +kernel
theorem dL_refuses_170 : decode cL_refuses 170 = .ok (.ifCond .ne 7, 3) := by decide +kernel
theorem dL_refuses_173 : decode cL_refuses 173 = .ok (.iconst (-1), 1) := by decide +kernel
theorem dL_refuses_174 : decode cL_refuses 174 = .ok (.goto 17, 3) := by decide +kernel
theorem dL_refuses_177 : decode cL_refuses 177 = .ok (.iload 8, 2) := by decide +kernel
theorem dL_refuses_179 : decode cL_refuses 179 = .ok (.iconst 1, 1) := by decide +kernel
theorem dL_refuses_180 : decode cL_refuses 180 = .ok (.if_icmp .ne 8, 3) := by decide +kernel
theorem dL_refuses_183 : decode cL_refuses 183 = .ok (.ldc 85, 2) := by decide +kernel
theorem dL_refuses_185 : decode cL_refuses 185 = .ok (.goto 6, 3) := by decide +kernel
theorem dL_refuses_188 : decode cL_refuses 188 = .ok (.iload 7, 2) := by decide +kernel
theorem dL_refuses_190 : decode cL_refuses 190 = .ok (.ineg, 1) := by decide +kernel
theorem dL_refuses_191 : decode cL_refuses 191 = .ok (.iconst 0, 1) := by decide +kernel
theorem dL_refuses_192 : decode cL_refuses 192 = .ok (.iconst 0, 1) := by decide +kernel
theorem dL_refuses_193 : decode cL_refuses 193 = .ok (.invokestatic 80, 3) := by decide +kernel
theorem dL_refuses_196 : decode cL_refuses 196 = .ok (.bipush (-72), 2) := by decide +kernel
theorem dL_refuses_198 : decode cL_refuses 198 = .ok (.if_icmp .ne 206, 3) := by decide +kernel
theorem dL_refuses_201 : decode cL_refuses 201 = .ok (.aload_n 0, 1) := by decide +kernel
theorem dL_refuses_202 : decode cL_refuses 202 = .ok (.iconst 0, 1) := by decide +kernel
theorem dL_refuses_203 : decode cL_refuses 203 = .ok (.iconst 5, 1) := by decide +kernel
theorem dL_refuses_204 : decode cL_refuses 204 = .ok (.iconst 5, 1) := by decide +kernel
theorem dL_refuses_205 : decode cL_refuses 205 = .ok (.iload 12, 2) := by decide +kernel
theorem dL_refuses_207 : decode cL_refuses 207 = .ok (.iconst 0, 1) := by decide +kernel
theorem dL_refuses_208 : decode cL_refuses 208 = .ok (.invokestatic 80, 3) := by decide +kernel
theorem dL_refuses_211 : decode cL_refuses 211 = .ok (.bipush (-72), 2) := by decide +kernel
theorem dL_refuses_213 : decode cL_refuses 213 = .ok (.if_icmp .ne 191, 3) := by decide +kernel
theorem dL_refuses_216 : decode cL_refuses 216 = .ok (.aload_n 0, 1) := by decide +kernel
theorem dL_refuses_217 : decode cL_refuses 217 = .ok (.iconst 0, 1) := by decide +kernel
theorem dL_refuses_218 : decode cL_refuses 218 = .ok (.iconst 5, 1) := by decide +kernel
theorem dL_refuses_219 : decode cL_refuses 219 = .ok (.iconst 5, 1) := by decide +kernel
theorem dL_refuses_220 : decode cL_refuses 220 = .ok (.iconst 0, 1) := by decide +kernel
theorem dL_refuses_221 : decode cL_refuses 221 = .ok (.iload 8, 2) := by decide +kernel
theorem dL_refuses_223 : decode cL_refuses 223 = .ok (.ifCond .ne 8, 3) := by decide +kernel
theorem dL_refuses_226 : decode cL_refuses 226 = .ok (.bipush (-2), 2) := by decide +kernel
theorem dL_refuses_228 : decode cL_refuses 228 = .ok (.goto 16, 3) := by decide +kernel
theorem dL_refuses_231 : decode cL_refuses 231 = .ok (.iload 8, 2) := by decide +kernel
theorem dL_refuses_233 : decode cL_refuses 233 = .ok (.iconst 1, 1) := by decide +kernel
theorem dL_refuses_234 : decode cL_refuses 234 = .ok (.if_icmp .ne 8, 3) := by decide +kernel
theorem dL_refuses_237 : decode cL_refuses 237 = .ok (.bipush 10, 2) := by decide +kernel
theorem dL_refuses_239 : decode cL_refuses 239 = .ok (.goto 5, 3) := by decide +kernel
theorem dL_refuses_242 : decode cL_refuses 242 = .ok (.iload 9, 2) := by decide +kernel
theorem dL_refuses_244 : decode cL_refuses 244 = .ok (.invokestatic 80, 3) := by decide +kernel
theorem dL_refuses_247 : decode cL_refuses 247 = .ok (.bipush (-72), 2) := by decide +kernel
theorem dL_refuses_249 : decode cL_refuses 249 = .ok (.if_icmp .ne 155, 3) := by decide +kernel
theorem dL_refuses_252 : decode cL_refuses 252 = .ok (.aload_n 0, 1) := by decide +kernel
theorem dL_refuses_253 : decode cL_refuses 253 = .ok (.iconst 1, 1) := by decide +kernel
theorem dL_refuses_254 : decode cL_refuses 254 = .ok (.iload 9, 2) := by decide +kernel
theorem dL_refuses_256 : decode cL_refuses 256 = .ok (.iconst (-1), 1) := by decide +kernel
theorem dL_refuses_257 : decode cL_refuses 257 = .ok (.invokestatic 86, 3) := by decide +kernel
theorem dL_refuses_260 : decode cL_refuses 260 = .ok (.bipush (-71), 2) := by decide +kernel
theorem dL_refuses_262 : decode cL_refuses 262 = .ok (.if_icmp .ne 142, 3) := by decide +kernel
theorem dL_refuses_265 : decode cL_refuses 265 = .ok (.aload_n 0, 1) := by decide +kernel
theorem dL_refuses_266 : decode cL_refuses 266 = .ok (.iconst 1, 1) := by decide +kernel
theorem dL_refuses_267 : decode cL_refuses 267 = .ok (.iload_n 1, 1) := by decide +kernel
theorem dL_refuses_268 : decode cL_refuses 268 = .ok (.iload 11, 2) := by decide +kernel
theorem dL_refuses_270 : decode cL_refuses 270 = .ok (.invokestatic 86, 3) := by decide +kernel
theorem dL_refuses_273 : decode cL_refuses 273 = .ok (.bipush (-72), 2) := by decide +kernel
theorem dL_refuses_275 : decode cL_refuses 275 = .ok (.if_icmp .ne 129, 3) := by decide +kernel
theorem dL_refuses_278 : decode cL_refuses 278 = .ok (.aload_n 0, 1) := by decide +kernel
theorem dL_refuses_279 : decode cL_refuses 279 = .ok (.iconst 4, 1) := by decide +kernel
theorem dL_refuses_280 : decode cL_refuses 280 = .ok (.iload 11, 2) := by decide +kernel
theorem dL_refuses_282 : decode cL_refuses 282 = .ok (.bipush 99, 2) := by decide +kernel
theorem dL_refuses_284 : decode cL_refuses 284 = .ok (.invokestatic 86, 3) := by decide +kernel
theorem dL_refuses_287 : decode cL_refuses 287 = .ok (.bipush (-72), 2) := by decide +kernel
theorem dL_refuses_289 : decode cL_refuses 289 = .ok (.if_icmp .ne 115, 3) := by decide +kernel
theorem dL_refuses_292 : decode cL_refuses 292 = .ok (.aload_n 0, 1) := by decide +kernel
theorem dL_refuses_293 : decode cL_refuses 293 = .ok (.iconst 4, 1) := by decide +kernel
theorem dL_refuses_294 : decode cL_refuses 294 = .ok (.iconst 5, 1) := by decide +kernel
theorem dL_refuses_295 : decode cL_refuses 295 = .ok (.iload 8, 2) := by decide +kernel
theorem dL_refuses_297 : decode cL_refuses 297 = .ok (.ifCond .ne 7, 3) := by decide +kernel
theorem dL_refuses_300 : decode cL_refuses 300 = .ok (.iconst 4, 1) := by decide +kernel
theorem dL_refuses_301 : decode cL_refuses 301 = .ok (.goto 5, 3) := by decide +kernel
theorem dL_refuses_304 : decode cL_refuses 304 = .ok (.iload 11, 2) := by decide +kernel
theorem dL_refuses_306 : decode cL_refuses 306 = .ok (.invokestatic 86, 3) := by decide +kernel
theorem dL_refuses_309 : decode cL_refuses 309 = .ok (.bipush (-72), 2) := by decide +kernel
theorem dL_refuses_311 : decode cL_refuses 311 = .ok (.if_icmp .ne 93, 3) := by decide +kernel
theorem dL_refuses_314 : decode cL_refuses 314 = .ok (.aload_n 0, 1) := by decide +kernel
theorem dL_refuses_315 : decode cL_refuses 315 = .ok (.bipush 7, 2) := by decide +kernel
theorem dL_refuses_317 : decode cL_refuses 317 = .ok (.iload 8, 2) := by decide +kernel
theorem dL_refuses_319 : decode cL_refuses 319 = .ok (.ifCond .ne 7, 3) := by decide +kernel
theorem dL_refuses_322 : decode cL_refuses 322 = .ok (.iconst (-1), 1) := by decide +kernel
theorem dL_refuses_323 : decode cL_refuses 323 = .ok (.goto 16, 3) := by decide +kernel
theorem dL_refuses_326 : decode cL_refuses 326 = .ok (.iload 8, 2) := by decide +kernel
theorem dL_refuses_328 : decode cL_refuses 328 = .ok (.iconst 1, 1) := by decide +kernel
theorem dL_refuses_329 : decode cL_refuses 329 = .ok (.if_icmp .ne 8, 3) := by decide +kernel
theorem dL_refuses_332 : decode cL_refuses 332 = .ok (.bipush 10, 2) := by decide +kernel
theorem dL_refuses_334 : decode cL_refuses 334 = .ok (.goto 5, 3) := by decide +kernel
theorem dL_refuses_337 : decode cL_refuses 337 = .ok (.iload 9, 2) := by decide +kernel
theorem dL_refuses_339 : decode cL_refuses 339 = .ok (.iconst 0, 1) := by decide +kernel
theorem dL_refuses_340 : decode cL_refuses 340 = .ok (.invokestatic 86, 3) := by decide +kernel
theorem dL_refuses_343 : decode cL_refuses 343 = .ok (.bipush (-72), 2) := by decide +kernel
theorem dL_refuses_345 : decode cL_refuses 345 = .ok (.if_icmp .ne 59, 3) := by decide +kernel
theorem dL_refuses_348 : decode cL_refuses 348 = .ok (.aload_n 0, 1) := by decide +kernel
theorem dL_refuses_349 : decode cL_refuses 349 = .ok (.bipush 8, 2) := by decide +kernel
theorem dL_refuses_351 : decode cL_refuses 351 = .ok (.iload 8, 2) := by decide +kernel
theorem dL_refuses_353 : decode cL_refuses 353 = .ok (.iconst 1, 1) := by decide +kernel
theorem dL_refuses_354 : decode cL_refuses 354 = .ok (.if_icmp .ne 7, 3) := by decide +kernel
theorem dL_refuses_357 : decode cL_refuses 357 = .ok (.iload_n 3, 1) := by decide +kernel
theorem dL_refuses_358 : decode cL_refuses 358 = .ok (.goto 5, 3) := by decide +kernel
theorem dL_refuses_361 : decode cL_refuses 361 = .ok (.iload 9, 2) := by decide +kernel
theorem dL_refuses_363 : decode cL_refuses 363 = .ok (.iconst 0, 1) := by decide +kernel
theorem dL_refuses_364 : decode cL_refuses 364 = .ok (.invokestatic 86, 3) := by decide +kernel
theorem dL_refuses_367 : decode cL_refuses 367 = .ok (.bipush (-71), 2) := by decide +kernel
theorem dL_refuses_369 : decode cL_refuses 369 = .ok (.if_icmp .ne 35, 3) := by decide +kernel
theorem dL_refuses_372 : decode cL_refuses 372 = .ok (.aload_n 0, 1) := by decide +kernel
theorem dL_refuses_373 : decode cL_refuses 373 = .ok (.bipush 11, 2) := by decide +kernel
theorem dL_refuses_375 : decode cL_refuses 375 = .ok (.iload 9, 2) := by decide +kernel
theorem dL_refuses_377 : decode cL_refuses 377 = .ok (.iload_n 1, 1) := by decide +kernel
theorem dL_refuses_378 : decode cL_refuses 378 = .ok (.invokestatic 86, 3) := by decide +kernel
theorem dL_refuses_381 : decode cL_refuses 381 = .ok (.bipush (-71), 2) := by decide +kernel
theorem dL_refuses_383 : decode cL_refuses 383 = .ok (.if_icmp .ne 21, 3) := by decide +kernel
theorem dL_refuses_386 : decode cL_refuses 386 = .ok (.aload_n 0, 1) := by decide +kernel
theorem dL_refuses_387 : decode cL_refuses 387 = .ok (.bipush 11, 2) := by decide +kernel
theorem dL_refuses_389 : decode cL_refuses 389 = .ok (.iload_n 1, 1) := by decide +kernel
theorem dL_refuses_390 : decode cL_refuses 390 = .ok (.iload 9, 2) := by decide +kernel
theorem dL_refuses_392 : decode cL_refuses 392 = .ok (.invokestatic 86, 3) := by decide +kernel
theorem dL_refuses_395 : decode cL_refuses 395 = .ok (.bipush (-71), 2) := by decide +kernel
theorem dL_refuses_397 : decode cL_refuses 397 = .ok (.if_icmp .ne 7, 3) := by decide +kernel
theorem dL_refuses_400 : decode cL_refuses 400 = .ok (.iconst 1, 1) := by decide +kernel
theorem dL_refuses_401 : decode cL_refuses 401 = .ok (.goto 4, 3) := by decide +kernel
theorem dL_refuses_404 : decode cL_refuses 404 = .ok (.iconst 0, 1) := by decide +kernel
theorem dL_refuses_405 : decode cL_refuses 405 = .ok (.istore 13, 2) := by decide +kernel
theorem dL_refuses_407 : decode cL_refuses 407 = .ok (.iload 13, 2) := by decide +kernel
theorem dL_refuses_409 : decode cL_refuses 409 = .ok (.ifCond .eq 124, 3) := by decide +kernel
theorem dL_refuses_412 : decode cL_refuses 412 = .ok (.aload_n 0, 1) := by decide +kernel
theorem dL_refuses_413 : decode cL_refuses 413 = .ok (.iconst 5, 1) := by decide +kernel
theorem dL_refuses_414 : decode cL_refuses 414 = .ok (.iload 8, 2) := by decide +kernel
theorem dL_refuses_416 : decode cL_refuses 416 = .ok (.ifCond .ne 7, 3) := by decide +kernel
theorem dL_refuses_419 : decode cL_refuses 419 = .ok (.iconst 0, 1) := by decide +kernel
theorem dL_refuses_420 : decode cL_refuses 420 = .ok (.goto 16, 3) := by decide +kernel
theorem dL_refuses_423 : decode cL_refuses 423 = .ok (.iload 8, 2) := by decide +kernel
theorem dL_refuses_425 : decode cL_refuses 425 = .ok (.iconst 1, 1) := by decide +kernel
theorem dL_refuses_426 : decode cL_refuses 426 = .ok (.if_icmp .ne 8, 3) := by decide +kernel
theorem dL_refuses_429 : decode cL_refuses 429 = .ok (.bipush 7, 2) := by decide +kernel
theorem dL_refuses_431 : decode cL_refuses 431 = .ok (.goto 5, 3) := by decide +kernel
theorem dL_refuses_434 : decode cL_refuses 434 = .ok (.iload 9, 2) := by decide +kernel
theorem dL_refuses_436 : decode cL_refuses 436 = .ok (.invokestatic 90, 3) := by decide +kernel
theorem dL_refuses_439 : decode cL_refuses 439 = .ok (.bipush (-72), 2) := by decide +kernel
theorem dL_refuses_441 : decode cL_refuses 441 = .ok (.if_icmp .ne 92, 3) := by decide +kernel
theorem dL_refuses_444 : decode cL_refuses 444 = .ok (.aload_n 0, 1) := by decide +kernel
theorem dL_refuses_445 : decode cL_refuses 445 = .ok (.iload 8, 2) := by decide +kernel
theorem dL_refuses_447 : decode cL_refuses 447 = .ok (.ifCond .ne 7, 3) := by decide +kernel
theorem dL_refuses_450 : decode cL_refuses 450 = .ok (.iconst (-1), 1) := by decide +kernel
theorem dL_refuses_451 : decode cL_refuses 451 = .ok (.goto 17, 3) := by decide +kernel
theorem dL_refuses_454 : decode cL_refuses 454 = .ok (.iload 8, 2) := by decide +kernel
theorem dL_refuses_456 : decode cL_refuses 456 = .ok (.iconst 1, 1) := by decide +kernel
theorem dL_refuses_457 : decode cL_refuses 457 = .ok (.if_icmp .ne 9, 3) := by decide +kernel
theorem dL_refuses_460 : decode cL_refuses 460 = .ok (.sipush 1000, 3) := by decide +kernel
theorem dL_refuses_463 : decode cL_refuses 463 = .ok (.goto 5, 3) := by decide +kernel
theorem dL_refuses_466 : decode cL_refuses 466 = .ok (.iload 9, 2) := by decide +kernel
theorem dL_refuses_468 : decode cL_refuses 468 = .ok (.iconst 3, 1) := by decide +kernel
theorem dL_refuses_469 : decode cL_refuses 469 = .ok (.invokestatic 90, 3) := by decide +kernel
theorem dL_refuses_472 : decode cL_refuses 472 = .ok (.bipush (-72), 2) := by decide +kernel
theorem dL_refuses_474 : decode cL_refuses 474 = .ok (.if_icmp .ne 59, 3) := by decide +kernel
theorem dL_refuses_477 : decode cL_refuses 477 = .ok (.aload_n 0, 1) := by decide +kernel
theorem dL_refuses_478 : decode cL_refuses 478 = .ok (.iconst 2, 1) := by decide +kernel
theorem dL_refuses_479 : decode cL_refuses 479 = .ok (.iload 9, 2) := by decide +kernel
theorem dL_refuses_481 : decode cL_refuses 481 = .ok (.iconst 0, 1) := by decide +kernel
theorem dL_refuses_482 : decode cL_refuses 482 = .ok (.invokestatic 86, 3) := by decide +kernel
theorem dL_refuses_485 : decode cL_refuses 485 = .ok (.bipush (-71), 2) := by decide +kernel
theorem dL_refuses_487 : decode cL_refuses 487 = .ok (.if_icmp .ne 46, 3) := by decide +kernel
theorem dL_refuses_490 : decode cL_refuses 490 = .ok (.aload_n 0, 1) := by decide +kernel
theorem dL_refuses_491 : decode cL_refuses 491 = .ok (.iconst 3, 1) := by decide +kernel
theorem dL_refuses_492 : decode cL_refuses 492 = .ok (.iload 9, 2) := by decide +kernel
theorem dL_refuses_494 : decode cL_refuses 494 = .ok (.iconst 0, 1) := by decide +kernel
theorem dL_refuses_495 : decode cL_refuses 495 = .ok (.invokestatic 86, 3) := by decide +kernel
theorem dL_refuses_498 : decode cL_refuses 498 = .ok (.bipush (-71), 2) := by decide +kernel
theorem dL_refuses_500 : decode cL_refuses 500 = .ok (.if_icmp .ne 33, 3) := by decide +kernel
theorem dL_refuses_503 : decode cL_refuses 503 = .ok (.aload_n 0, 1) := by decide +kernel
theorem dL_refuses_504 : decode cL_refuses 504 = .ok (.iconst 0, 1) := by decide +kernel
theorem dL_refuses_505 : decode cL_refuses 505 = .ok (.iload 9, 2) := by decide +kernel
theorem dL_refuses_507 : decode cL_refuses 507 = .ok (.iconst 0, 1) := by decide +kernel
theorem dL_refuses_508 : decode cL_refuses 508 = .ok (.invokestatic 86, 3) := by decide +kernel
theorem dL_refuses_511 : decode cL_refuses 511 = .ok (.bipush (-71), 2) := by decide +kernel
theorem dL_refuses_513 : decode cL_refuses 513 = .ok (.if_icmp .ne 20, 3) := by decide +kernel
theorem dL_refuses_516 : decode cL_refuses 516 = .ok (.aload_n 0, 1) := by decide +kernel
theorem dL_refuses_517 : decode cL_refuses 517 = .ok (.iconst 0, 1) := by decide +kernel
theorem dL_refuses_518 : decode cL_refuses 518 = .ok (.iload 10, 2) := by decide +kernel
theorem dL_refuses_520 : decode cL_refuses 520 = .ok (.iconst 0, 1) := by decide +kernel
theorem dL_refuses_521 : decode cL_refuses 521 = .ok (.invokestatic 86, 3) := by decide +kernel
theorem dL_refuses_524 : decode cL_refuses 524 = .ok (.bipush (-71), 2) := by decide +kernel
theorem dL_refuses_526 : decode cL_refuses 526 = .ok (.if_icmp .ne 7, 3) := by decide +kernel
theorem dL_refuses_529 : decode cL_refuses 529 = .ok (.iconst 1, 1) := by decide +kernel
theorem dL_refuses_530 : decode cL_refuses 530 = .ok (.goto 4, 3) := by decide +kernel
theorem dL_refuses_533 : decode cL_refuses 533 = .ok (.iconst 0, 1) := by decide +kernel
theorem dL_refuses_534 : decode cL_refuses 534 = .ok (.istore 13, 2) := by decide +kernel
theorem dL_refuses_536 : decode cL_refuses 536 = .ok (.bipush 9, 2) := by decide +kernel
theorem dL_refuses_538 : decode cL_refuses 538 = .ok (.istore 14, 2) := by decide +kernel
theorem dL_refuses_540 : decode cL_refuses 540 = .ok (.iload 14, 2) := by decide +kernel
theorem dL_refuses_542 : decode cL_refuses 542 = .ok (.bipush 13, 2) := by decide +kernel
theorem dL_refuses_544 : decode cL_refuses 544 = .ok (.if_icmp .ge 56, 3) := by decide +kernel
theorem dL_refuses_547 : decode cL_refuses 547 = .ok (.iload 13, 2) := by decide +kernel
theorem dL_refuses_549 : decode cL_refuses 549 = .ok (.ifCond .eq 42, 3) := by decide +kernel
theorem dL_refuses_552 : decode cL_refuses 552 = .ok (.iload 14, 2) := by decide +kernel
theorem dL_refuses_554 : decode cL_refuses 554 = .ok (.bipush 11, 2) := by decide +kernel
theorem dL_refuses_556 : decode cL_refuses 556 = .ok (.if_icmp .eq 31, 3) := by decide +kernel
theorem dL_refuses_559 : decode cL_refuses 559 = .ok (.aload_n 0, 1) := by decide +kernel
theorem dL_refuses_560 : decode cL_refuses 560 = .ok (.iload 14, 2) := by decide +kernel
theorem dL_refuses_562 : decode cL_refuses 562 = .ok (.iload 9, 2) := by decide +kernel
theorem dL_refuses_564 : decode cL_refuses 564 = .ok (.iconst 0, 1) := by decide +kernel
theorem dL_refuses_565 : decode cL_refuses 565 = .ok (.invokestatic 86, 3) := by decide +kernel
theorem dL_refuses_568 : decode cL_refuses 568 = .ok (.bipush (-71), 2) := by decide +kernel
theorem dL_refuses_570 : decode cL_refuses 570 = .ok (.if_icmp .ne 21, 3) := by decide +kernel
theorem dL_refuses_573 : decode cL_refuses 573 = .ok (.aload_n 0, 1) := by decide +kernel
theorem dL_refuses_574 : decode cL_refuses 574 = .ok (.iload 14, 2) := by decide +kernel
theorem dL_refuses_576 : decode cL_refuses 576 = .ok (.iload 10, 2) := by decide +kernel
theorem dL_refuses_578 : decode cL_refuses 578 = .ok (.iconst 0, 1) := by decide +kernel
theorem dL_refuses_579 : decode cL_refuses 579 = .ok (.invokestatic 86, 3) := by decide +kernel
theorem dL_refuses_582 : decode cL_refuses 582 = .ok (.bipush (-71), 2) := by decide +kernel
theorem dL_refuses_584 : decode cL_refuses 584 = .ok (.if_icmp .ne 7, 3) := by decide +kernel
theorem dL_refuses_587 : decode cL_refuses 587 = .ok (.iconst 1, 1) := by decide +kernel
theorem dL_refuses_588 : decode cL_refuses 588 = .ok (.goto 4, 3) := by decide +kernel
theorem dL_refuses_591 : decode cL_refuses 591 = .ok (.iconst 0, 1) := by decide +kernel
theorem dL_refuses_592 : decode cL_refuses 592 = .ok (.istore 13, 2) := by decide +kernel
theorem dL_refuses_594 : decode cL_refuses 594 = .ok (.iinc 14 1, 3) := by decide +kernel
theorem dL_refuses_597 : decode cL_refuses 597 = .ok (.goto (-57), 3) := by decide +kernel
theorem dL_refuses_600 : decode cL_refuses 600 = .ok (.iload 13, 2) := by decide +kernel
theorem dL_refuses_602 : decode cL_refuses 602 = .ok (.ifCond .ne 5, 3) := by decide +kernel
theorem dL_refuses_605 : decode cL_refuses 605 = .ok (.iconst 0, 1) := by decide +kernel
theorem dL_refuses_606 : decode cL_refuses 606 = .ok (.ireturn, 1) := by decide +kernel
theorem dL_refuses_607 : decode cL_refuses 607 = .ok (.iinc 8 1, 3) := by decide +kernel
theorem dL_refuses_610 : decode cL_refuses 610 = .ok (.goto (-580), 3) := by decide +kernel
theorem dL_refuses_613 : decode cL_refuses 613 = .ok (.iload 6, 2) := by decide +kernel
theorem dL_refuses_615 : decode cL_refuses 615 = .ok (.ifCond .eq 71, 3) := by decide +kernel
theorem dL_refuses_618 : decode cL_refuses 618 = .ok (.aload_n 0, 1) := by decide +kernel
theorem dL_refuses_619 : decode cL_refuses 619 = .ok (.iconst 1, 1) := by decide +kernel
theorem dL_refuses_620 : decode cL_refuses 620 = .ok (.iload_n 1, 1) := by decide +kernel
theorem dL_refuses_621 : decode cL_refuses 621 = .ok (.iconst 5, 1) := by decide +kernel
theorem dL_refuses_622 : decode cL_refuses 622 = .ok (.invokestatic 86, 3) := by decide +kernel
theorem dL_refuses_625 : decode cL_refuses 625 = .ok (.bipush (-73), 2) := by decide +kernel
theorem dL_refuses_627 : decode cL_refuses 627 = .ok (.if_icmp .ne 55, 3) := by decide +kernel
theorem dL_refuses_630 : decode cL_refuses 630 = .ok (.aload_n 0, 1) := by decide +kernel
theorem dL_refuses_631 : decode cL_refuses 631 = .ok (.iconst 2, 1) := by decide +kernel
theorem dL_refuses_632 : decode cL_refuses 632 = .ok (.iload_n 1, 1) := by decide +kernel
theorem dL_refuses_633 : decode cL_refuses 633 = .ok (.iconst 0, 1) := by decide +kernel
theorem dL_refuses_634 : decode cL_refuses 634 = .ok (.invokestatic 86, 3) := by decide +kernel
theorem dL_refuses_637 : decode cL_refuses 637 = .ok (.bipush (-73), 2) := by decide +kernel
theorem dL_refuses_639 : decode cL_refuses 639 = .ok (.if_icmp .ne 43, 3) := by decide +kernel
theorem dL_refuses_642 : decode cL_refuses 642 = .ok (.aload_n 0, 1) := by decide +kernel
theorem dL_refuses_643 : decode cL_refuses 643 = .ok (.iconst 2, 1) := by decide +kernel
theorem dL_refuses_644 : decode cL_refuses 644 = .ok (.iconst (-1), 1) := by decide +kernel
theorem dL_refuses_645 : decode cL_refuses 645 = .ok (.iconst 0, 1) := by decide +kernel
theorem dL_refuses_646 : decode cL_refuses 646 = .ok (.invokestatic 86, 3) := by decide +kernel
theorem dL_refuses_649 : decode cL_refuses 649 = .ok (.bipush (-73), 2) := by decide +kernel
theorem dL_refuses_651 : decode cL_refuses 651 = .ok (.if_icmp .ne 31, 3) := by decide +kernel
theorem dL_refuses_654 : decode cL_refuses 654 = .ok (.aload_n 0, 1) := by decide +kernel
theorem dL_refuses_655 : decode cL_refuses 655 = .ok (.iconst 4, 1) := by decide +kernel
theorem dL_refuses_656 : decode cL_refuses 656 = .ok (.iconst 5, 1) := by decide +kernel
theorem dL_refuses_657 : decode cL_refuses 657 = .ok (.bipush 6, 2) := by decide +kernel
theorem dL_refuses_659 : decode cL_refuses 659 = .ok (.invokestatic 86, 3) := by decide +kernel
theorem dL_refuses_662 : decode cL_refuses 662 = .ok (.bipush (-73), 2) := by decide +kernel
theorem dL_refuses_664 : decode cL_refuses 664 = .ok (.if_icmp .ne 18, 3) := by decide +kernel
theorem dL_refuses_667 : decode cL_refuses 667 = .ok (.aload_n 0, 1) := by decide +kernel
theorem dL_refuses_668 : decode cL_refuses 668 = .ok (.iconst 5, 1) := by decide +kernel
theorem dL_refuses_669 : decode cL_refuses 669 = .ok (.iconst 1, 1) := by decide +kernel
theorem dL_refuses_670 : decode cL_refuses 670 = .ok (.invokestatic 90, 3) := by decide +kernel
theorem dL_refuses_673 : decode cL_refuses 673 = .ok (.bipush (-73), 2) := by decide +kernel
theorem dL_refuses_675 : decode cL_refuses 675 = .ok (.if_icmp .ne 7, 3) := by decide +kernel
theorem dL_refuses_678 : decode cL_refuses 678 = .ok (.iconst 1, 1) := by decide +kernel
theorem dL_refuses_679 : decode cL_refuses 679 = .ok (.goto 25, 3) := by decide +kernel
theorem dL_refuses_682 : decode cL_refuses 682 = .ok (.iconst 0, 1) := by decide +kernel
theorem dL_refuses_683 : decode cL_refuses 683 = .ok (.goto 21, 3) := by decide +kernel
theorem dL_refuses_686 : decode cL_refuses 686 = .ok (.aload_n 0, 1) := by decide +kernel
theorem dL_refuses_687 : decode cL_refuses 687 = .ok (.bipush 7, 2) := by decide +kernel
theorem dL_refuses_689 : decode cL_refuses 689 = .ok (.iconst 5, 1) := by decide +kernel
theorem dL_refuses_690 : decode cL_refuses 690 = .ok (.iconst 0, 1) := by decide +kernel
theorem dL_refuses_691 : decode cL_refuses 691 = .ok (.invokestatic 86, 3) := by decide +kernel
theorem dL_refuses_694 : decode cL_refuses 694 = .ok (.bipush (-73), 2) := by decide +kernel
theorem dL_refuses_696 : decode cL_refuses 696 = .ok (.if_icmp .ne 7, 3) := by decide +kernel
theorem dL_refuses_699 : decode cL_refuses 699 = .ok (.iconst 1, 1) := by decide +kernel
theorem dL_refuses_700 : decode cL_refuses 700 = .ok (.goto 4, 3) := by decide +kernel
theorem dL_refuses_703 : decode cL_refuses 703 = .ok (.iconst 0, 1) := by decide +kernel
theorem dL_refuses_704 : decode cL_refuses 704 = .ok (.istore 8, 2) := by decide +kernel
theorem dL_refuses_706 : decode cL_refuses 706 = .ok (.iload 8, 2) := by decide +kernel
theorem dL_refuses_708 : decode cL_refuses 708 = .ok (.ifCond .eq 42, 3) := by decide +kernel
theorem dL_refuses_711 : decode cL_refuses 711 = .ok (.aload_n 0, 1) := by decide +kernel
theorem dL_refuses_712 : decode cL_refuses 712 = .ok (.invokevirtual 66, 3) := by decide +kernel
theorem dL_refuses_715 : decode cL_refuses 715 = .ok (.iload_n 3, 1) := by decide +kernel
theorem dL_refuses_716 : decode cL_refuses 716 = .ok (.if_icmp .ne 34, 3) := by decide +kernel
theorem dL_refuses_719 : decode cL_refuses 719 = .ok (.aload_n 0, 1) := by decide +kernel
theorem dL_refuses_720 : decode cL_refuses 720 = .ok (.invokevirtual 69, 3) := by decide +kernel
theorem dL_refuses_723 : decode cL_refuses 723 = .ok (.iload 4, 2) := by decide +kernel
theorem dL_refuses_725 : decode cL_refuses 725 = .ok (.if_icmp .ne 25, 3) := by decide +kernel
theorem dL_refuses_728 : decode cL_refuses 728 = .ok (.aload_n 0, 1) := by decide +kernel
theorem dL_refuses_729 : decode cL_refuses 729 = .ok (.invokevirtual 72, 3) := by decide +kernel
theorem dL_refuses_732 : decode cL_refuses 732 = .ok (.iload 5, 2) := by decide +kernel
theorem dL_refuses_734 : decode cL_refuses 734 = .ok (.if_icmp .ne 16, 3) := by decide +kernel
theorem dL_refuses_737 : decode cL_refuses 737 = .ok (.aload_n 0, 1) := by decide +kernel
theorem dL_refuses_738 : decode cL_refuses 738 = .ok (.invokevirtual 75, 3) := by decide +kernel
theorem dL_refuses_741 : decode cL_refuses 741 = .ok (.iload 6, 2) := by decide +kernel
theorem dL_refuses_743 : decode cL_refuses 743 = .ok (.if_icmp .ne 7, 3) := by decide +kernel
theorem dL_refuses_746 : decode cL_refuses 746 = .ok (.iconst 1, 1) := by decide +kernel
theorem dL_refuses_747 : decode cL_refuses 747 = .ok (.goto 4, 3) := by decide +kernel
theorem dL_refuses_750 : decode cL_refuses 750 = .ok (.iconst 0, 1) := by decide +kernel
theorem dL_refuses_751 : decode cL_refuses 751 = .ok (.ireturn, 1) := by decide +kernel
set_option maxRecDepth 200000 in
theorem ggL_order_X2_at : GoodIn wsL_order wsX2_at := goodIn_ca (goodIn_r _ [5, 6, 7, 8, 9, 10, 4, 11, 12, 13, 14, 15, 16, 17, 18, 19, 20, 21, 22, 23, 24, 25, 26, 27, 28, 29, 30, 31, 32, 33, 34, 35, 36, 37, 38, 51, 52, 53, 54, 55, 56, 57, 58, 59, 60, 61, 62, 63, 64, 65, 66, 67] rfl (by decide +kernel)) (goodIn_sub (fun _ h => List.mem_cons_of_mem _ (List.mem_append_right _ h)) (by decide +kernel))
set_option maxRecDepth 20000 in
theorem gL_order_X2_at : GoodIn wsL_order (wsV RL 45 RX2 yX2_at wsX2_at) := goodIn_app (goodIn_of _ (by decide +kernel)) ggL_order_X2_at
set_option maxRecDepth 200000 in
theorem ggL_order_X2_placeOf : GoodIn wsL_order wsX2_placeOf := goodIn_ca (goodIn_r _ [42, 43, 44, 45, 4, 46, 6, 7, 47, 48, 49, 50, 12, 13, 14, 15, 16, 17, 18, 19, 20, 21, 22, 23, 24, 25, 26, 27, 28, 29, 30, 31, 32, 33, 34, 35, 36, 37, 38, 59, 60, 61, 62, 63, 64, 65, 66, 67, 51, 52, 53, 54, 55, 56, 57, 58] rfl (by decide +kernel)) (goodIn_sub (fun _ h => List.mem_cons_of_mem _ (List.mem_append_right _ h)) (by decide +kernel))
set_option maxRecDepth 20000 in
theorem gL_order_X2_placeOf : GoodIn wsL_order (wsV RL 48 RX2 yX2_placeOf wsX2_placeOf) := goodIn_app (goodIn_of _ (by decide +kernel)) ggL_order_X2_placeOf
theorem dL_order_0 : decode cL_order 0 = .ok (.aload_n 0, 1) := by decide +kernel
theorem dL_order_1 : decode cL_order 1 = .ok (.iconst 0, 1) := by decide +kernel
theorem dL_order_2 : decode cL_order 2 = .ok (.invokevirtual 45, 3) := by decide +kernel
theorem dL_order_5 : decode cL_order 5 = .ok (.iload_n 1, 1) := by decide +kernel
theorem dL_order_6 : decode cL_order 6 = .ok (.if_icmp .ne 71, 3) := by decide +kernel
theorem dL_order_9 : decode cL_order 9 = .ok (.aload_n 0, 1) := by decide +kernel
theorem dL_order_10 : decode cL_order 10 = .ok (.iconst 1, 1) := by decide +kernel
theorem dL_order_11 : decode cL_order 11 = .ok (.invokevirtual 45, 3) := by decide +kernel
theorem dL_order_14 : decode cL_order 14 = .ok (.iload_n 2, 1) := by decide +kernel
theorem dL_order_15 : decode cL_order 15 = .ok (.if_icmp .ne 62, 3) := by decide +kernel
theorem dL_order_18 : decode cL_order 18 = .ok (.aload_n 0, 1) := by decide +kernel
theorem dL_order_19 : decode cL_order 19 = .ok (.iconst 2, 1) := by decide +kernel
theorem dL_order_20 : decode cL_order 20 = .ok (.invokevirtual 45, 3) := by decide +kernel
theorem dL_order_23 : decode cL_order 23 = .ok (.iload_n 3, 1) := by decide +kernel
theorem dL_order_24 : decode cL_order 24 = .ok (.if_icmp .ne 53, 3) := by decide +kernel
theorem dL_order_27 : decode cL_order 27 = .ok (.aload_n 0, 1) := by decide +kernel
theorem dL_order_28 : decode cL_order 28 = .ok (.iconst 3, 1) := by decide +kernel
theorem dL_order_29 : decode cL_order 29 = .ok (.invokevirtual 45, 3) := by decide +kernel
theorem dL_order_32 : decode cL_order 32 = .ok (.iload 4, 2) := by decide +kernel
theorem dL_order_34 : decode cL_order 34 = .ok (.if_icmp .ne 43, 3) := by decide +kernel
theorem dL_order_37 : decode cL_order 37 = .ok (.aload_n 0, 1) := by decide +kernel
theorem dL_order_38 : decode cL_order 38 = .ok (.iload_n 1, 1) := by decide +kernel
theorem dL_order_39 : decode cL_order 39 = .ok (.invokevirtual 48, 3) := by decide +kernel
theorem dL_order_42 : decode cL_order 42 = .ok (.ifCond .ne 35, 3) := by decide +kernel
theorem dL_order_45 : decode cL_order 45 = .ok (.aload_n 0, 1) := by decide +kernel
theorem dL_order_46 : decode cL_order 46 = .ok (.iload_n 2, 1) := by decide +kernel
theorem dL_order_47 : decode cL_order 47 = .ok (.invokevirtual 48, 3) := by decide +kernel
theorem dL_order_50 : decode cL_order 50 = .ok (.iconst 1, 1) := by decide +kernel
theorem dL_order_51 : decode cL_order 51 = .ok (.if_icmp .ne 26, 3) := by decide +kernel
theorem dL_order_54 : decode cL_order 54 = .ok (.aload_n 0, 1) := by decide +kernel
theorem dL_order_55 : decode cL_order 55 = .ok (.iload_n 3, 1) := by decide +kernel
theorem dL_order_56 : decode cL_order 56 = .ok (.invokevirtual 48, 3) := by decide +kernel
theorem dL_order_59 : decode cL_order 59 = .ok (.iconst 2, 1) := by decide +kernel
theorem dL_order_60 : decode cL_order 60 = .ok (.if_icmp .ne 17, 3) := by decide +kernel
theorem dL_order_63 : decode cL_order 63 = .ok (.aload_n 0, 1) := by decide +kernel
theorem dL_order_64 : decode cL_order 64 = .ok (.iload 4, 2) := by decide +kernel
theorem dL_order_66 : decode cL_order 66 = .ok (.invokevirtual 48, 3) := by decide +kernel
theorem dL_order_69 : decode cL_order 69 = .ok (.iconst 3, 1) := by decide +kernel
theorem dL_order_70 : decode cL_order 70 = .ok (.if_icmp .ne 7, 3) := by decide +kernel
theorem dL_order_73 : decode cL_order 73 = .ok (.iconst 1, 1) := by decide +kernel
theorem dL_order_74 : decode cL_order 74 = .ok (.goto 4, 3) := by decide +kernel
theorem dL_order_77 : decode cL_order 77 = .ok (.iconst 0, 1) := by decide +kernel
theorem dL_order_78 : decode cL_order 78 = .ok (.ireturn, 1) := by decide +kernel
set_option maxRecDepth 200000 in
theorem ggL_starts_X2_init : GoodIn wsL_starts wsX2_init := goodIn_r _ [10, 11, 12, 13, 14, 15, 16, 17, 18, 19, 20, 21, 22, 23, 24, 25, 26, 27, 28, 29, 30, 31, 32, 33, 34, 35, 36, 37, 38, 39, 40, 41, 42, 43, 44, 45, 46, 47, 48, 256, 257, 258, 259, 260, 261, 262, 263, 264, 265, 266, 267, 268, 269, 270, 271, 272, 273, 274, 275, 276, 277] rfl (by decide +kernel)
set_option maxRecDepth 20000 in
theorem gL_starts_X2_init : GoodIn wsL_starts (wsX2_init) := ggL_starts_X2_init
set_option maxRecDepth 200000 in
theorem ggL_starts_X2_entries : GoodIn wsL_starts wsX2_entries := goodIn_r _ [52, 53, 54, 55, 3, 56, 15, 256, 257, 258, 259, 260, 261, 262, 263, 264, 270, 271, 272, 273, 274, 275, 276, 277] rfl (by decide +kernel)
set_option maxRecDepth 20000 in
theorem gL_starts_X2_entries : GoodIn wsL_starts (wsV RL 66 RX2 yX2_entries wsX2_entries) := goodIn_app (goodIn_of _ (by decide +kernel)) ggL_starts_X2_entries
set_option maxRecDepth 200000 in
theorem ggL_starts_X2_next : GoodIn wsL_starts wsX2_next := goodIn_r _ [60, 61, 62, 63, 3, 64, 22, 21, 65, 66, 67, 68, 15, 69, 28, 70, 71, 48, 72, 73, 74, 75, 76, 77, 78, 79, 23, 24, 80, 81, 82, 83, 84, 85, 43, 44, 42, 86, 87, 88, 89, 90, 45, 46, 91, 92, 93, 94, 95, 96, 97, 98, 99, 100, 101, 102, 270, 271, 272, 273, 274, 275, 276, 277, 256, 257, 258, 259, 260, 261, 262, 263, 264] rfl (by decide +kernel)
set_option maxRecDepth 20000 in
theorem gL_starts_X2_next : GoodIn wsL_starts (wsV RL 69 RX2 yX2_next wsX2_next) := goodIn_app (goodIn_of _ (by decide +kernel)) ggL_starts_X2_next
set_option maxRecDepth 200000 in
theorem ggL_starts_X2_running : GoodIn wsL_starts wsX2_running := goodIn_r _ [106, 25, 256, 257, 258, 259, 260, 261, 262, 263, 264] rfl (by decide +kernel)
set_option maxRecDepth 20000 in
theorem gL_starts_X2_running : GoodIn wsL_starts (wsV RL 94 RX2 yX2_running wsX2_running) := goodIn_app (goodIn_of _ (by decide +kernel)) ggL_starts_X2_running
set_option maxRecDepth 200000 in
theorem ggL_starts_X2_register : GoodIn wsL_starts wsX2_register := goodIn_r _ [110, 26, 256, 257, 258, 259, 260, 261, 262, 263, 264] rfl (by decide +kernel)
set_option maxRecDepth 20000 in
theorem gL_starts_X2_register : GoodIn wsL_starts (wsV RL 72 RX2 yX2_register wsX2_register) := goodIn_app (goodIn_of _ (by decide +kernel)) ggL_starts_X2_register
set_option maxRecDepth 200000 in
theorem ggL_starts_X2_isLocked : GoodIn wsL_starts wsX2_isLocked := goodIn_r _ [114, 19, 256, 257, 258, 259, 260, 261, 262, 263, 264, 265, 266, 267, 268, 269] rfl (by decide +kernel)
set_option maxRecDepth 20000 in
theorem gL_starts_X2_isLocked : GoodIn wsL_starts (wsV RL 75 RX2 yX2_isLocked wsX2_isLocked) := goodIn_app (goodIn_of _ (by decide +kernel)) ggL_starts_X2_isLocked
set_option maxRecDepth 200000 in
theorem ggL_starts_L_act : GoodIn wsL_starts wsL_act := goodIn_ca (goodIn_ca (goodIn_ca (goodIn_ca (goodIn_r _ [118, 119, 120, 121, 122, 123, 124, 3, 125, 126, 127, 128, 129, 130, 131, 65, 66, 67, 68, 15, 53, 54, 55, 56, 132, 133, 134, 135, 136, 137, 80, 81, 82, 138, 139, 140, 141, 142, 143, 19, 144, 145, 146, 147, 21, 148, 149, 150, 151, 152, 153, 154, 155, 22, 156, 157, 158, 159, 23, 24, 160, 161, 162, 163, 76, 77, 78, 79, 164, 165, 166, 167, 26, 25, 61, 62, 63, 64, 69, 28, 70, 71, 48, 72, 73, 74, 75, 83, 84, 85, 43, 44, 42, 86, 87, 88, 89, 90, 45, 46, 91, 92, 93, 94, 95, 96, 97, 98, 99, 100, 101, 102, 168, 169, 170, 171, 172, 173, 174, 175, 176, 177, 178, 179, 180, 18, 181, 182, 37, 183, 184, 185, 186, 187, 188, 189, 190, 191, 192, 193, 194, 34, 33, 195, 196, 197, 198, 36, 35, 199, 200, 201, 202, 203, 204, 205, 206, 207, 208, 209, 210, 211, 212, 213, 214, 215, 216, 217, 218, 270, 271, 272, 273, 274, 275, 276, 277, 256, 257, 258, 259, 260, 261, 262, 263, 264, 265, 266, 267, 268, 269] rfl (by decide +kernel)) (goodIn_sub (fun _ h => List.mem_cons_of_mem _ (List.mem_append_left _ (List.mem_append_left _ (List.mem_append_left _ (List.mem_append_right _ h))))) (by decide +kernel))) (goodIn_sub (fun _ h => List.mem_cons_of_mem _ (List.mem_append_left _ (List.mem_append_left _ (List.mem_append_right _ h)))) (by decide +kernel))) (goodIn_sub (fun _ h => List.mem_cons_of_mem _ (List.mem_append_left _ (List.mem_append_right _ h))) (by decide +kernel))) (goodIn_sub (fun _ h => List.mem_cons_of_mem _ (List.mem_append_right _ h)) (by decide +kernel))
set_option maxRecDepth 20000 in
theorem gL_starts_L_act : GoodIn wsL_starts (va_wsS RL 86 yL_act wsL_act) := goodIn_app (goodIn_of _ (by decide +kernel)) ggL_starts_L_act
set_option maxRecDepth 200000 in
theorem ggL_starts_X2_choose : GoodIn wsL_starts wsX2_choose := goodIn_ca (goodIn_ca (goodIn_r _ [147, 21, 148, 149, 150, 3, 151, 130, 131, 65, 66, 67, 68, 15, 138, 139, 140, 141, 142, 143, 19, 256, 257, 258, 259, 260, 261, 262, 263, 264, 270, 271, 272, 273, 274, 275, 276, 277, 265, 266, 267, 268, 269] rfl (by decide +kernel)) (goodIn_sub (fun _ h => List.mem_cons_of_mem _ (List.mem_append_left _ (List.mem_append_left _ (List.mem_append_left _ (List.mem_append_right _ h))))) (by decide +kernel))) (goodIn_sub (fun _ h => List.mem_cons_of_mem _ (List.mem_append_left _ (List.mem_append_right _ h))) (by decide +kernel))
set_option maxRecDepth 20000 in
theorem gL_starts_X2_choose : GoodIn wsL_starts (wsV RL 25 RX2 yX2_choose wsX2_choose) := goodIn_app (goodIn_of _ (by decide +kernel)) ggL_starts_X2_choose
set_option maxRecDepth 200000 in
theorem ggL_starts_X2_chooseOnce : GoodIn wsL_starts wsX2_chooseOnce := goodIn_ca (goodIn_r _ [155, 22, 148, 149, 150, 3, 151, 130, 131, 65, 66, 67, 68, 15, 256, 257, 258, 259, 260, 261, 262, 263, 264, 270, 271, 272, 273, 274, 275, 276, 277] rfl (by decide +kernel)) (goodIn_sub (fun _ h => List.mem_cons_of_mem _ (List.mem_append_left _ (List.mem_append_left _ (List.mem_append_left _ (List.mem_append_right _ h))))) (by decide +kernel))
set_option maxRecDepth 20000 in
theorem gL_starts_X2_chooseOnce : GoodIn wsL_starts (wsV RL 28 RX2 yX2_chooseOnce wsX2_chooseOnce) := goodIn_app (goodIn_of _ (by decide +kernel)) ggL_starts_X2_chooseOnce
set_option maxRecDepth 200000 in
theorem ggL_starts_X2_setPattern : GoodIn wsL_starts wsX2_setPattern := goodIn_ca (goodIn_ca (goodIn_r _ [159, 136, 137, 23, 24, 80, 81, 3, 82, 138, 139, 140, 141, 142, 143, 19, 160, 161, 162, 163, 15, 76, 77, 78, 79, 256, 257, 258, 259, 260, 261, 262, 263, 264, 265, 266, 267, 268, 269, 270, 271, 272, 273, 274, 275, 276, 277] rfl (by decide +kernel)) (goodIn_sub (fun _ h => List.mem_cons_of_mem _ (List.mem_append_left _ (List.mem_append_left _ (List.mem_append_right _ h)))) (by decide +kernel))) (goodIn_sub (fun _ h => List.mem_cons_of_mem _ (List.mem_append_left _ (List.mem_append_right _ h))) (by decide +kernel))
set_option maxRecDepth 20000 in
theorem gL_starts_X2_setPattern : GoodIn wsL_starts (wsV RL 31 RX2 yX2_setPattern wsX2_setPattern) := goodIn_app (goodIn_of _ (by decide +kernel)) ggL_starts_X2_setPattern
set_option maxRecDepth 200000 in
theorem ggL_starts_X2_add : GoodIn wsL_starts wsX2_add := goodIn_ca (goodIn_ca (goodIn_r _ [222, 136, 137, 142, 143, 223, 20, 80, 81, 3, 82, 224, 225, 226, 227, 15, 228, 28, 229, 230, 41, 42, 43, 44, 45, 46, 47, 48, 256, 257, 258, 259, 260, 261, 262, 263, 264, 270, 271, 272, 273, 274, 275, 276, 277] rfl (by decide +kernel)) (goodIn_sub (fun _ h => List.mem_cons_of_mem _ (List.mem_append_left _ (List.mem_append_left _ (List.mem_append_right _ h)))) (by decide +kernel))) (goodIn_sub (fun _ h => List.mem_cons_of_mem _ (List.mem_append_left _ (List.mem_append_right _ h))) (by decide +kernel))
set_option maxRecDepth 20000 in
theorem gL_starts_X2_add : GoodIn wsL_starts (wsV RL 62 RX2 yX2_add wsX2_add) := goodIn_app (goodIn_of _ (by decide +kernel)) ggL_starts_X2_add
set_option maxRecDepth 200000 in
theorem ggL_starts_L_order : GoodIn wsL_starts wsL_order := goodIn_ca (goodIn_r _ [233, 199, 200, 201, 3, 202, 130, 131, 95, 96, 97, 98, 15, 99, 100, 101, 102, 83, 28, 84, 85, 43, 44, 42, 86, 69, 70, 71, 48, 87, 88, 89, 90, 45, 46, 91, 92, 93, 94, 203, 204, 205, 206, 126, 127, 128, 129, 65, 66, 67, 68, 270, 271, 272, 273, 274, 275, 276, 277, 256, 257, 258, 259, 260, 261, 262, 263, 264] rfl (by decide +kernel)) (goodIn_sub (fun _ h => List.mem_cons_of_mem _ (List.mem_append_left _ (List.mem_append_left _ (List.mem_append_left _ (List.mem_append_right _ h))))) (by decide +kernel))
set_option maxRecDepth 20000 in
theorem gL_starts_L_order : GoodIn wsL_starts (va_wsS RL 100 yL_order wsL_order) := goodIn_app (goodIn_of _ (by decide +kernel)) ggL_starts_L_order
set_option maxRecDepth 200000 in
theorem ggL_starts_X2_at : GoodIn wsL_starts wsX2_at := goodIn_ca (goodIn_r _ [202, 130, 131, 95, 96, 97, 3, 98, 15, 99, 100, 101, 102, 83, 28, 84, 85, 43, 44, 42, 86, 69, 70, 71, 48, 87, 88, 89, 90, 45, 46, 91, 92, 93, 94, 270, 271, 272, 273, 274, 275, 276, 277, 256, 257, 258, 259, 260, 261, 262, 263, 264] rfl (by decide +kernel)) (goodIn_sub (fun _ h => List.mem_cons_of_mem _ (List.mem_append_left _ (List.mem_append_left _ (List.mem_append_left _ (List.mem_append_right _ h))))) (by decide +kernel))
set_option maxRecDepth 20000 in
theorem gL_starts_X2_at : GoodIn wsL_starts (wsV RL 45 RX2 yX2_at wsX2_at) := goodIn_app (goodIn_of _ (by decide +kernel)) ggL_starts_X2_at
set_option maxRecDepth 200000 in
theorem ggL_starts_X2_placeOf : GoodIn wsL_starts wsX2_placeOf := goodIn_ca (goodIn_r _ [206, 126, 127, 128, 3, 129, 130, 131, 65, 66, 67, 68, 15, 99, 100, 101, 102, 83, 28, 84, 85, 43, 44, 42, 86, 69, 70, 71, 48, 87, 88, 89, 90, 45, 46, 91, 92, 93, 94, 256, 257, 258, 259, 260, 261, 262, 263, 264, 270, 271, 272, 273, 274, 275, 276, 277] rfl (by decide +kernel)) (goodIn_sub (fun _ h => List.mem_cons_of_mem _ (List.mem_append_left _ (List.mem_append_left _ (List.mem_append_left _ (List.mem_append_right _ h))))) (by decide +kernel))
set_option maxRecDepth 20000 in
theorem gL_starts_X2_placeOf : GoodIn wsL_starts (wsV RL 48 RX2 yX2_placeOf wsX2_placeOf) := goodIn_app (goodIn_of _ (by decide +kernel)) ggL_starts_X2_placeOf
set_option maxRecDepth 200000 in
theorem ggL_starts_X2_compare : GoodIn wsL_starts wsX2_compare := goodIn_ca (goodIn_r _ [214, 126, 127, 128, 3, 129, 130, 131, 65, 66, 67, 68, 15, 88, 28, 89, 90, 45, 46, 91, 92, 93, 94, 256, 257, 258, 259, 260, 261, 262, 263, 264, 270, 271, 272, 273, 274, 275, 276, 277] rfl (by decide +kernel)) (goodIn_sub (fun _ h => List.mem_cons_of_mem _ (List.mem_append_left _ (List.mem_append_left _ (List.mem_append_left _ (List.mem_append_right _ h))))) (by decide +kernel))
set_option maxRecDepth 20000 in
theorem gL_starts_X2_compare : GoodIn wsL_starts (wsV RL 54 RX2 yX2_compare wsX2_compare) := goodIn_app (goodIn_of _ (by decide +kernel)) ggL_starts_X2_compare
set_option maxRecDepth 200000 in
theorem ggL_starts_X2_foretold : GoodIn wsL_starts wsX2_foretold := goodIn_ca (goodIn_r _ [218, 126, 127, 128, 3, 129, 130, 131, 65, 66, 67, 68, 15, 168, 169, 170, 171, 19, 172, 173, 174, 175, 176, 256, 257, 258, 259, 260, 261, 262, 263, 264, 270, 271, 272, 273, 274, 275, 276, 277, 265, 266, 267, 268, 269] rfl (by decide +kernel)) (goodIn_sub (fun _ h => List.mem_cons_of_mem _ (List.mem_append_left _ (List.mem_append_left _ (List.mem_append_left _ (List.mem_append_right _ h))))) (by decide +kernel))
set_option maxRecDepth 20000 in
theorem gL_starts_X2_foretold : GoodIn wsL_starts (wsV RL 57 RX2 yX2_foretold wsX2_foretold) := goodIn_app (goodIn_of _ (by decide +kernel)) ggL_starts_X2_foretold
set_option maxRecDepth 200000 in
theorem ggL_starts_L_refuses : GoodIn wsL_starts wsL_refuses := goodIn_ca (goodIn_ca (goodIn_ca (goodIn_ca (goodIn_r _ [236, 237, 238, 49, 50, 51, 3, 52, 53, 54, 55, 56, 15, 57, 58, 59, 60, 61, 62, 63, 64, 22, 21, 65, 66, 67, 68, 69, 28, 70, 71, 48, 72, 73, 74, 75, 76, 77, 78, 79, 23, 24, 80, 81, 82, 83, 84, 85, 43, 44, 42, 86, 87, 88, 89, 90, 45, 46, 91, 92, 93, 94, 95, 96, 97, 98, 99, 100, 101, 102, 107, 108, 109, 110, 26, 111, 112, 113, 114, 19, 239, 240, 117, 241, 120, 121, 219, 220, 221, 222, 136, 137, 142, 143, 223, 20, 224, 225, 226, 227, 228, 229, 230, 41, 47, 115, 116, 118, 119, 122, 123, 124, 125, 126, 127, 128, 129, 130, 131, 132, 133, 134, 135, 138, 139, 140, 141, 144, 145, 146, 147, 148, 149, 150, 151, 152, 153, 154, 155, 156, 157, 158, 159, 160, 161, 162, 163, 164, 165, 166, 167, 25, 168, 169, 170, 171, 172, 173, 174, 175, 176, 177, 178, 179, 180, 18, 181, 182, 37, 183, 184, 185, 186, 187, 188, 189, 190, 191, 192, 193, 194, 34, 33, 195, 196, 197, 198, 36, 35, 199, 200, 201, 202, 203, 204, 205, 206, 207, 208, 209, 210, 211, 212, 213, 214, 215, 216, 217, 218, 242, 243, 244, 245, 246, 247, 248, 249, 250, 251, 252, 253, 254, 255, 256, 257, 258, 259, 260, 261, 262, 263, 264, 270, 271, 272, 273, 274, 275, 276, 277, 265, 266, 267, 268, 269] rfl (by decide +kernel)) (goodIn_sub (fun _ h => List.mem_cons_of_mem _ (List.mem_append_left _ (List.mem_append_left _ (List.mem_append_right _ h)))) (by decide +kernel))) (goodIn_sub (fun _ h => List.mem_cons_of_mem _ (List.mem_append_left _ (List.mem_append_right _ h))) (by decide +kernel))) (goodIn_sub (fun _ h => List.mem_cons_of_mem _ (List.mem_append_left _ (List.mem_append_left _ (List.mem_append_left _ (List.mem_append_right _ h))))) (by decide +kernel))) (goodIn_sub (fun _ h => List.mem_cons_of_mem _ (List.mem_append_right _ h)) (by decide +kernel))
set_option maxRecDepth 20000 in
theorem gL_starts_L_refuses : GoodIn wsL_starts (va_wsS RL 105 yL_refuses wsL_refuses) := goodIn_app (goodIn_of _ (by decide +kernel)) ggL_starts_L_refuses
set_option maxRecDepth 200000 in
theorem ggL_starts_X2_start : GoodIn wsL_starts wsX2_start := goodIn_ca (goodIn_r _ [167, 142, 143, 26, 22, 25, 19, 61, 62, 63, 3, 64, 21, 65, 66, 67, 68, 15, 69, 28, 70, 71, 48, 72, 73, 74, 75, 76, 77, 78, 79, 23, 24, 80, 81, 82, 83, 84, 85, 43, 44, 42, 86, 87, 88, 89, 90, 45, 46, 91, 92, 93, 94, 95, 96, 97, 98, 99, 100, 101, 102, 168, 169, 170, 171, 172, 173, 174, 175, 176, 177, 178, 179, 180, 18, 181, 182, 37, 256, 257, 258, 259, 260, 261, 262, 263, 264, 270, 271, 272, 273, 274, 275, 276, 277, 265, 266, 267, 268, 269] rfl (by decide +kernel)) (goodIn_sub (fun _ h => List.mem_cons_of_mem _ (List.mem_append_left _ (List.mem_append_right _ h))) (by decide +kernel))
set_option maxRecDepth 20000 in
theorem gL_starts_X2_start : GoodIn wsL_starts (wsV RL 34 RX2 yX2_start wsX2_start) := goodIn_app (goodIn_of _ (by decide +kernel)) ggL_starts_X2_start
set_option maxRecDepth 200000 in
theorem ggL_starts_X2_tries : GoodIn wsL_starts wsX2_tries := goodIn_ca (goodIn_r _ [210, 126, 127, 128, 3, 129, 130, 131, 65, 66, 67, 68, 15, 270, 271, 272, 273, 274, 275, 276, 277, 256, 257, 258, 259, 260, 261, 262, 263, 264] rfl (by decide +kernel)) (goodIn_sub (fun _ h => List.mem_cons_of_mem _ (List.mem_append_left _ (List.mem_append_left _ (List.mem_append_left _ (List.mem_append_right _ h))))) (by decide +kernel))
set_option maxRecDepth 20000 in
theorem gL_starts_X2_tries : GoodIn wsL_starts (wsV RL 51 RX2 yX2_tries wsX2_tries) := goodIn_app (goodIn_of _ (by decide +kernel)) ggL_starts_X2_tries
set_option maxRecDepth 200000 in
theorem ggL_starts_X2_good : GoodIn wsL_starts wsX2_good := goodIn_ca (goodIn_r _ [186, 142, 143, 25, 65, 66, 67, 3, 68, 15, 256, 257, 258, 259, 260, 261, 262, 263, 264, 270, 271, 272, 273, 274, 275, 276, 277] rfl (by decide +kernel)) (goodIn_sub (fun _ h => List.mem_cons_of_mem _ (List.mem_append_left _ (List.mem_append_right _ h))) (by decide +kernel))
set_option maxRecDepth 20000 in
theorem gL_starts_X2_good : GoodIn wsL_starts (wsV RL 38 RX2 yX2_good wsX2_good) := goodIn_app (goodIn_of _ (by decide +kernel)) ggL_starts_X2_good
set_option maxRecDepth 200000 in
theorem ggL_starts_X2_remove : GoodIn wsL_starts wsX2_remove := goodIn_ca (goodIn_r _ [125, 126, 127, 128, 3, 129, 130, 131, 65, 66, 67, 68, 15, 53, 54, 55, 56, 270, 271, 272, 273, 274, 275, 276, 277, 256, 257, 258, 259, 260, 261, 262, 263, 264] rfl (by decide +kernel)) (goodIn_sub (fun _ h => List.mem_cons_of_mem _ (List.mem_append_left _ (List.mem_append_left _ (List.mem_append_left _ (List.mem_append_right _ h))))) (by decide +kernel))
set_option maxRecDepth 20000 in
theorem gL_starts_X2_remove : GoodIn wsL_starts (wsV RL 17 RX2 yX2_remove wsX2_remove) := goodIn_app (goodIn_of _ (by decide +kernel)) ggL_starts_X2_remove
end
section
theorem dL_starts_0 : decode cL_starts 0 = .ok (.new 8, 3) := by decide +kernel
theorem dL_starts_3 : decode cL_starts 3 = .ok (.dup, 1) := by decide +kernel
theorem dL_starts_4 : decode cL_starts 4 = .ok (.invokespecial 93, 3) := by decide +kernel
theorem dL_starts_7 : decode cL_starts 7 = .ok (.astore_n 0, 1) := by decide +kernel
theorem dL_starts_8 : decode cL_starts 8 = .ok (.aload_n 0, 1) := by decide +kernel
theorem dL_starts_9 : decode cL_starts 9 = .ok (.invokevirtual 66, 3) := by decide +kernel
theorem dL_starts_12 : decode cL_starts 12 = .ok (.ifCond .ne 279, 3) := by decide +kernel
theorem dL_starts_15 : decode cL_starts 15 = .ok (.aload_n 0, 1) := by decide +kernel
theorem dL_starts_16 : decode cL_starts 16 = .ok (.invokevirtual 69, 3) := by decide +kernel
theorem dL_starts_19 : decode cL_starts 19 = .ok (.iconst (-1), 1) := by decide +kernel
theorem dL_starts_20 : decode cL_starts 20 = .ok (.if_icmp .ne 271, 3) := by decide +kernel
theorem dL_starts_23 : decode cL_starts 23 = .ok (.aload_n 0, 1) := by decide +kernel
theorem dL_starts_24 : decode cL_starts 24 = .ok (.invokevirtual 94, 3) := by decide +kernel
theorem dL_starts_27 : decode cL_starts 27 = .ok (.iconst (-1), 1) := by decide +kernel
theorem dL_starts_28 : decode cL_starts 28 = .ok (.if_icmp .ne 263, 3) := by decide +kernel
theorem dL_starts_31 : decode cL_starts 31 = .ok (.aload_n 0, 1) := by decide +kernel
theorem dL_starts_32 : decode cL_starts 32 = .ok (.invokevirtual 72, 3) := by decide +kernel
theorem dL_starts_35 : decode cL_starts 35 = .ok (.ifCond .ne 256, 3) := by decide +kernel
theorem dL_starts_38 : decode cL_starts 38 = .ok (.aload_n 0, 1) := by decide +kernel
theorem dL_starts_39 : decode cL_starts 39 = .ok (.invokevirtual 75, 3) := by decide +kernel
theorem dL_starts_42 : decode cL_starts 42 = .ok (.ifCond .ne 249, 3) := by decide +kernel
theorem dL_starts_45 : decode cL_starts 45 = .ok (.aload_n 0, 1) := by decide +kernel
theorem dL_starts_46 : decode cL_starts 46 = .ok (.iconst 5, 1) := by decide +kernel
theorem dL_starts_47 : decode cL_starts 47 = .ok (.iconst 0, 1) := by decide +kernel
theorem dL_starts_48 : decode cL_starts 48 = .ok (.iconst 0, 1) := by decide +kernel
theorem dL_starts_49 : decode cL_starts 49 = .ok (.invokestatic 86, 3) := by decide +kernel
theorem dL_starts_52 : decode cL_starts 52 = .ok (.bipush (-73), 2) := by decide +kernel
theorem dL_starts_54 : decode cL_starts 54 = .ok (.if_icmp .ne 237, 3) := by decide +kernel
theorem dL_starts_57 : decode cL_starts 57 = .ok (.aload_n 0, 1) := by decide +kernel
theorem dL_starts_58 : decode cL_starts 58 = .ok (.bipush 6, 2) := by decide +kernel
theorem dL_starts_60 : decode cL_starts 60 = .ok (.iconst 0, 1) := by decide +kernel
theorem dL_starts_61 : decode cL_starts 61 = .ok (.iconst 0, 1) := by decide +kernel
theorem dL_starts_62 : decode cL_starts 62 = .ok (.invokestatic 86, 3) := by decide +kernel
theorem dL_starts_65 : decode cL_starts 65 = .ok (.bipush (-73), 2) := by decide +kernel
theorem dL_starts_67 : decode cL_starts 67 = .ok (.if_icmp .ne 224, 3) := by decide +kernel
theorem dL_starts_70 : decode cL_starts 70 = .ok (.aload_n 0, 1) := by decide +kernel
theorem dL_starts_71 : decode cL_starts 71 = .ok (.bipush 8, 2) := by decide +kernel
theorem dL_starts_73 : decode cL_starts 73 = .ok (.iconst 0, 1) := by decide +kernel
theorem dL_starts_74 : decode cL_starts 74 = .ok (.iconst 0, 1) := by decide +kernel
theorem dL_starts_75 : decode cL_starts 75 = .ok (.invokestatic 86, 3) := by decide +kernel
theorem dL_starts_78 : decode cL_starts 78 = .ok (.bipush (-71), 2) := by decide +kernel
theorem dL_starts_80 : decode cL_starts 80 = .ok (.if_icmp .ne 211, 3) := by decide +kernel
theorem dL_starts_83 : decode cL_starts 83 = .ok (.aload_n 0, 1) := by decide +kernel
theorem dL_starts_84 : decode cL_starts 84 = .ok (.iconst (-1), 1) := by decide +kernel
theorem dL_starts_85 : decode cL_starts 85 = .ok (.invokevirtual 25, 3) := by decide +kernel
theorem dL_starts_88 : decode cL_starts 88 = .ok (.iconst (-1), 1) := by decide +kernel
theorem dL_starts_89 : decode cL_starts 89 = .ok (.if_icmp .ne 202, 3) := by decide +kernel
theorem dL_starts_92 : decode cL_starts 92 = .ok (.aload_n 0, 1) := by decide +kernel
theorem dL_starts_93 : decode cL_starts 93 = .ok (.iconst (-1), 1) := by decide +kernel
theorem dL_starts_94 : decode cL_starts 94 = .ok (.invokevirtual 28, 3) := by decide +kernel
theorem dL_starts_97 : decode cL_starts 97 = .ok (.iconst (-1), 1) := by decide +kernel
theorem dL_starts_98 : decode cL_starts 98 = .ok (.if_icmp .ne 193, 3) := by decide +kernel
theorem dL_starts_101 : decode cL_starts 101 = .ok (.aload_n 0, 1) := by decide +kernel
theorem dL_starts_102 : decode cL_starts 102 = .ok (.iconst 0, 1) := by decide +kernel
theorem dL_starts_103 : decode cL_starts 103 = .ok (.bipush 99, 2) := by decide +kernel
theorem dL_starts_105 : decode cL_starts 105 = .ok (.invokevirtual 31, 3) := by decide +kernel
theorem dL_starts_108 : decode cL_starts 108 = .ok (.ifCond .ne 183, 3) := by decide +kernel
theorem dL_starts_111 : decode cL_starts 111 = .ok (.aload_n 0, 1) := by decide +kernel
theorem dL_starts_112 : decode cL_starts 112 = .ok (.iconst 0, 1) := by decide +kernel
theorem dL_starts_113 : decode cL_starts 113 = .ok (.iconst 5, 1) := by decide +kernel
theorem dL_starts_114 : decode cL_starts 114 = .ok (.ldc 97, 2) := by decide +kernel
theorem dL_starts_116 : decode cL_starts 116 = .ok (.iconst 1, 1) := by decide +kernel
theorem dL_starts_117 : decode cL_starts 117 = .ok (.iconst (-1), 1) := by decide +kernel
theorem dL_starts_118 : decode cL_starts 118 = .ok (.invokevirtual 62, 3) := by decide +kernel
theorem dL_starts_121 : decode cL_starts 121 = .ok (.ifCond .ne 170, 3) := by decide +kernel
theorem dL_starts_124 : decode cL_starts 124 = .ok (.aload_n 0, 1) := by decide +kernel
theorem dL_starts_125 : decode cL_starts 125 = .ok (.iconst 0, 1) := by decide +kernel
theorem dL_starts_126 : decode cL_starts 126 = .ok (.iconst 5, 1) := by decide +kernel
theorem dL_starts_127 : decode cL_starts 127 = .ok (.ldc 97, 2) := by decide +kernel
theorem dL_starts_129 : decode cL_starts 129 = .ok (.iconst 0, 1) := by decide +kernel
theorem dL_starts_130 : decode cL_starts 130 = .ok (.iconst 2, 1) := by decide +kernel
theorem dL_starts_131 : decode cL_starts 131 = .ok (.invokevirtual 62, 3) := by decide +kernel
theorem dL_starts_134 : decode cL_starts 134 = .ok (.iconst 1, 1) := by decide +kernel
theorem dL_starts_135 : decode cL_starts 135 = .ok (.if_icmp .ne 156, 3) := by decide +kernel
theorem dL_starts_138 : decode cL_starts 138 = .ok (.aload_n 0, 1) := by decide +kernel
theorem dL_starts_139 : decode cL_starts 139 = .ok (.iconst 1, 1) := by decide +kernel
theorem dL_starts_140 : decode cL_starts 140 = .ok (.iconst 1, 1) := by decide +kernel
theorem dL_starts_141 : decode cL_starts 141 = .ok (.ldc 98, 2) := by decide +kernel
theorem dL_starts_143 : decode cL_starts 143 = .ok (.iconst 2, 1) := by decide +kernel
theorem dL_starts_144 : decode cL_starts 144 = .ok (.iconst 0, 1) := by decide +kernel
theorem dL_starts_145 : decode cL_starts 145 = .ok (.invokevirtual 62, 3) := by decide +kernel
theorem dL_starts_148 : decode cL_starts 148 = .ok (.iconst 2, 1) := by decide +kernel
theorem dL_starts_149 : decode cL_starts 149 = .ok (.if_icmp .ne 142, 3) := by decide +kernel
theorem dL_starts_152 : decode cL_starts 152 = .ok (.aload_n 0, 1) := by decide +kernel
theorem dL_starts_153 : decode cL_starts 153 = .ok (.iconst 0, 1) := by decide +kernel
theorem dL_starts_154 : decode cL_starts 154 = .ok (.iconst 3, 1) := by decide +kernel
theorem dL_starts_155 : decode cL_starts 155 = .ok (.ldc 97, 2) := by decide +kernel
theorem dL_starts_157 : decode cL_starts 157 = .ok (.iconst 1, 1) := by decide +kernel
theorem dL_starts_158 : decode cL_starts 158 = .ok (.iconst (-1), 1) := by decide +kernel
theorem dL_starts_159 : decode cL_starts 159 = .ok (.invokevirtual 62, 3) := by decide +kernel
theorem dL_starts_162 : decode cL_starts 162 = .ok (.iconst 3, 1) := by decide +kernel
theorem dL_starts_163 : decode cL_starts 163 = .ok (.if_icmp .ne 128, 3) := by decide +kernel
theorem dL_starts_166 : decode cL_starts 166 = .ok (.aload_n 0, 1) := by decide +kernel
theorem dL_starts_167 : decode cL_starts 167 = .ok (.iconst 0, 1) := by decide +kernel
theorem dL_starts_168 : decode cL_starts 168 = .ok (.iconst 3, 1) := by decide +kernel
theorem dL_starts_169 : decode cL_starts 169 = .ok (.ldc 99, 2) := by decide +kernel
theorem dL_starts_171 : decode cL_starts 171 = .ok (.iconst 1, 1) := by decide +kernel
theorem dL_starts_172 : decode cL_starts 172 = .ok (.iconst 1, 1) := by decide +kernel
theorem dL_starts_173 : decode cL_starts 173 = .ok (.invokevirtual 62, 3) := by decide +kernel
theorem dL_starts_176 : decode cL_starts 176 = .ok (.iconst 4, 1) := by decide +kernel
theorem dL_starts_177 : decode cL_starts 177 = .ok (.if_icmp .ne 114, 3) := by decide +kernel
theorem dL_starts_180 : decode cL_starts 180 = .ok (.aload_n 0, 1) := by decide +kernel
theorem dL_starts_181 : decode cL_starts 181 = .ok (.iconst 4, 1) := by decide +kernel
theorem dL_starts_182 : decode cL_starts 182 = .ok (.iconst 3, 1) := by decide +kernel
theorem dL_starts_183 : decode cL_starts 183 = .ok (.iconst 0, 1) := by decide +kernel
theorem dL_starts_184 : decode cL_starts 184 = .ok (.iconst 1, 1) := by decide +kernel
theorem dL_starts_185 : decode cL_starts 185 = .ok (.invokestatic 100, 3) := by decide +kernel
theorem dL_starts_188 : decode cL_starts 188 = .ok (.ifCond .eq 103, 3) := by decide +kernel
theorem dL_starts_191 : decode cL_starts 191 = .ok (.aload_n 0, 1) := by decide +kernel
theorem dL_starts_192 : decode cL_starts 192 = .ok (.iconst 4, 1) := by decide +kernel
theorem dL_starts_193 : decode cL_starts 193 = .ok (.invokevirtual 45, 3) := by decide +kernel
theorem dL_starts_196 : decode cL_starts 196 = .ok (.iconst 2, 1) := by decide +kernel
theorem dL_starts_197 : decode cL_starts 197 = .ok (.if_icmp .ne 94, 3) := by decide +kernel
theorem dL_starts_200 : decode cL_starts 200 = .ok (.aload_n 0, 1) := by decide +kernel
theorem dL_starts_201 : decode cL_starts 201 = .ok (.iconst 2, 1) := by decide +kernel
theorem dL_starts_202 : decode cL_starts 202 = .ok (.invokevirtual 48, 3) := by decide +kernel
theorem dL_starts_205 : decode cL_starts 205 = .ok (.iconst 4, 1) := by decide +kernel
theorem dL_starts_206 : decode cL_starts 206 = .ok (.if_icmp .ne 85, 3) := by decide +kernel
theorem dL_starts_209 : decode cL_starts 209 = .ok (.aload_n 0, 1) := by decide +kernel
theorem dL_starts_210 : decode cL_starts 210 = .ok (.iconst 0, 1) := by decide +kernel
theorem dL_starts_211 : decode cL_starts 211 = .ok (.iconst 1, 1) := by decide +kernel
theorem dL_starts_212 : decode cL_starts 212 = .ok (.invokevirtual 54, 3) := by decide +kernel
theorem dL_starts_215 : decode cL_starts 215 = .ok (.iconst 1, 1) := by decide +kernel
theorem dL_starts_216 : decode cL_starts 216 = .ok (.if_icmp .ne 75, 3) := by decide +kernel
theorem dL_starts_219 : decode cL_starts 219 = .ok (.aload_n 0, 1) := by decide +kernel
theorem dL_starts_220 : decode cL_starts 220 = .ok (.iconst 1, 1) := by decide +kernel
theorem dL_starts_221 : decode cL_starts 221 = .ok (.iconst 0, 1) := by decide +kernel
theorem dL_starts_222 : decode cL_starts 222 = .ok (.invokevirtual 54, 3) := by decide +kernel
theorem dL_starts_225 : decode cL_starts 225 = .ok (.iconst (-1), 1) := by decide +kernel
theorem dL_starts_226 : decode cL_starts 226 = .ok (.if_icmp .ne 65, 3) := by decide +kernel
theorem dL_starts_229 : decode cL_starts 229 = .ok (.aload_n 0, 1) := by decide +kernel
theorem dL_starts_230 : decode cL_starts 230 = .ok (.iconst 0, 1) := by decide +kernel
theorem dL_starts_231 : decode cL_starts 231 = .ok (.iconst 3, 1) := by decide +kernel
theorem dL_starts_232 : decode cL_starts 232 = .ok (.invokevirtual 54, 3) := by decide +kernel
theorem dL_starts_235 : decode cL_starts 235 = .ok (.ifCond .ne 56, 3) := by decide +kernel
theorem dL_starts_238 : decode cL_starts 238 = .ok (.aload_n 0, 1) := by decide +kernel
theorem dL_starts_239 : decode cL_starts 239 = .ok (.iconst 4, 1) := by decide +kernel
theorem dL_starts_240 : decode cL_starts 240 = .ok (.iconst 3, 1) := by decide +kernel
theorem dL_starts_241 : decode cL_starts 241 = .ok (.invokevirtual 54, 3) := by decide +kernel
theorem dL_starts_244 : decode cL_starts 244 = .ok (.iconst 1, 1) := by decide +kernel
theorem dL_starts_245 : decode cL_starts 245 = .ok (.if_icmp .ne 46, 3) := by decide +kernel
theorem dL_starts_248 : decode cL_starts 248 = .ok (.aload_n 0, 1) := by decide +kernel
theorem dL_starts_249 : decode cL_starts 249 = .ok (.iconst 2, 1) := by decide +kernel
theorem dL_starts_250 : decode cL_starts 250 = .ok (.iconst 2, 1) := by decide +kernel
theorem dL_starts_251 : decode cL_starts 251 = .ok (.invokevirtual 54, 3) := by decide +kernel
theorem dL_starts_254 : decode cL_starts 254 = .ok (.ifCond .ne 37, 3) := by decide +kernel
theorem dL_starts_257 : decode cL_starts 257 = .ok (.aload_n 0, 1) := by decide +kernel
theorem dL_starts_258 : decode cL_starts 258 = .ok (.invokevirtual 69, 3) := by decide +kernel
theorem dL_starts_261 : decode cL_starts 261 = .ok (.iconst 4, 1) := by decide +kernel
theorem dL_starts_262 : decode cL_starts 262 = .ok (.if_icmp .ne 29, 3) := by decide +kernel
theorem dL_starts_265 : decode cL_starts 265 = .ok (.aload_n 0, 1) := by decide +kernel
theorem dL_starts_266 : decode cL_starts 266 = .ok (.iconst 0, 1) := by decide +kernel
theorem dL_starts_267 : decode cL_starts 267 = .ok (.invokevirtual 57, 3) := by decide +kernel
theorem dL_starts_270 : decode cL_starts 270 = .ok (.ldc 104, 2) := by decide +kernel
theorem dL_starts_272 : decode cL_starts 272 = .ok (.if_icmp .ne 19, 3) := by decide +kernel
theorem dL_starts_275 : decode cL_starts 275 = .ok (.aload_n 0, 1) := by decide +kernel
theorem dL_starts_276 : decode cL_starts 276 = .ok (.invokevirtual 72, 3) := by decide +kernel
theorem dL_starts_279 : decode cL_starts 279 = .ok (.ifCond .ne 12, 3) := by decide +kernel
theorem dL_starts_282 : decode cL_starts 282 = .ok (.aload_n 0, 1) := by decide +kernel
theorem dL_starts_283 : decode cL_starts 283 = .ok (.iconst 0, 1) := by decide +kernel
theorem dL_starts_284 : decode cL_starts 284 = .ok (.iconst 5, 1) := by decide +kernel
theorem dL_starts_285 : decode cL_starts 285 = .ok (.invokestatic 105, 3) := by decide +kernel
theorem dL_starts_288 : decode cL_starts 288 = .ok (.ifCond .ne 5, 3) := by decide +kernel
theorem dL_starts_291 : decode cL_starts 291 = .ok (.iconst 0, 1) := by decide +kernel
theorem dL_starts_292 : decode cL_starts 292 = .ok (.ireturn, 1) := by decide +kernel
theorem dL_starts_293 : decode cL_starts 293 = .ok (.aload_n 0, 1) := by decide +kernel
theorem dL_starts_294 : decode cL_starts 294 = .ok (.iconst 4, 1) := by decide +kernel
theorem dL_starts_295 : decode cL_starts 295 = .ok (.bipush 9, 2) := by decide +kernel
theorem dL_starts_297 : decode cL_starts 297 = .ok (.invokevirtual 31, 3) := by decide +kernel
theorem dL_starts_300 : decode cL_starts 300 = .ok (.iconst 2, 1) := by decide +kernel
theorem dL_starts_301 : decode cL_starts 301 = .ok (.if_icmp .ne 268, 3) := by decide +kernel
theorem dL_starts_304 : decode cL_starts 304 = .ok (.aload_n 0, 1) := by decide +kernel
theorem dL_starts_305 : decode cL_starts 305 = .ok (.invokevirtual 69, 3) := by decide +kernel
theorem dL_starts_308 : decode cL_starts 308 = .ok (.ifCond .ne 261, 3) := by decide +kernel
theorem dL_starts_311 : decode cL_starts 311 = .ok (.aload_n 0, 1) := by decide +kernel
theorem dL_starts_312 : decode cL_starts 312 = .ok (.iconst 2, 1) := by decide +kernel
theorem dL_starts_313 : decode cL_starts 313 = .ok (.invokevirtual 28, 3) := by decide +kernel
theorem dL_starts_316 : decode cL_starts 316 = .ok (.iconst (-1), 1) := by decide +kernel
theorem dL_starts_317 : decode cL_starts 317 = .ok (.if_icmp .ne 252, 3) := by decide +kernel
theorem dL_starts_320 : decode cL_starts 320 = .ok (.aload_n 0, 1) := by decide +kernel
theorem dL_starts_321 : decode cL_starts 321 = .ok (.invokevirtual 69, 3) := by decide +kernel
theorem dL_starts_324 : decode cL_starts 324 = .ok (.iconst 2, 1) := by decide +kernel
theorem dL_starts_325 : decode cL_starts 325 = .ok (.if_icmp .ne 244, 3) := by decide +kernel
theorem dL_starts_328 : decode cL_starts 328 = .ok (.aload_n 0, 1) := by decide +kernel
theorem dL_starts_329 : decode cL_starts 329 = .ok (.invokevirtual 34, 3) := by decide +kernel
theorem dL_starts_332 : decode cL_starts 332 = .ok (.iconst 2, 1) := by decide +kernel
theorem dL_starts_333 : decode cL_starts 333 = .ok (.if_icmp .ne 236, 3) := by decide +kernel
theorem dL_starts_336 : decode cL_starts 336 = .ok (.aload_n 0, 1) := by decide +kernel
theorem dL_starts_337 : decode cL_starts 337 = .ok (.iconst 2, 1) := by decide +kernel
theorem dL_starts_338 : decode cL_starts 338 = .ok (.invokevirtual 51, 3) := by decide +kernel
theorem dL_starts_341 : decode cL_starts 341 = .ok (.ifCond .ne 228, 3) := by decide +kernel
theorem dL_starts_344 : decode cL_starts 344 = .ok (.aload_n 0, 1) := by decide +kernel
theorem dL_starts_345 : decode cL_starts 345 = .ok (.invokevirtual 94, 3) := by decide +kernel
theorem dL_starts_348 : decode cL_starts 348 = .ok (.iconst 2, 1) := by decide +kernel
theorem dL_starts_349 : decode cL_starts 349 = .ok (.if_icmp .ne 220, 3) := by decide +kernel
theorem dL_starts_352 : decode cL_starts 352 = .ok (.aload_n 0, 1) := by decide +kernel
theorem dL_starts_353 : decode cL_starts 353 = .ok (.invokevirtual 69, 3) := by decide +kernel
theorem dL_starts_356 : decode cL_starts 356 = .ok (.ifCond .ne 213, 3) := by decide +kernel
theorem dL_starts_359 : decode cL_starts 359 = .ok (.aload_n 0, 1) := by decide +kernel
theorem dL_starts_360 : decode cL_starts 360 = .ok (.iconst (-1), 1) := by decide +kernel
theorem dL_starts_361 : decode cL_starts 361 = .ok (.invokevirtual 28, 3) := by decide +kernel
theorem dL_starts_364 : decode cL_starts 364 = .ok (.iconst (-1), 1) := by decide +kernel
theorem dL_starts_365 : decode cL_starts 365 = .ok (.if_icmp .ne 204, 3) := by decide +kernel
theorem dL_starts_368 : decode cL_starts 368 = .ok (.aload_n 0, 1) := by decide +kernel
theorem dL_starts_369 : decode cL_starts 369 = .ok (.invokevirtual 34, 3) := by decide +kernel
theorem dL_starts_372 : decode cL_starts 372 = .ok (.ifCond .ne 197, 3) := by decide +kernel
theorem dL_starts_375 : decode cL_starts 375 = .ok (.aload_n 0, 1) := by decide +kernel
theorem dL_starts_376 : decode cL_starts 376 = .ok (.invokevirtual 72, 3) := by decide +kernel
theorem dL_starts_379 : decode cL_starts 379 = .ok (.ldc 104, 2) := by decide +kernel
theorem dL_starts_381 : decode cL_starts 381 = .ok (.if_icmp .ne 188, 3) := by decide +kernel
theorem dL_starts_384 : decode cL_starts 384 = .ok (.aload_n 0, 1) := by decide +kernel
theorem dL_starts_385 : decode cL_starts 385 = .ok (.iconst 0, 1) := by decide +kernel
theorem dL_starts_386 : decode cL_starts 386 = .ok (.invokevirtual 51, 3) := by decide +kernel
theorem dL_starts_389 : decode cL_starts 389 = .ok (.iconst (-1), 1) := by decide +kernel
theorem dL_starts_390 : decode cL_starts 390 = .ok (.if_icmp .ne 179, 3) := by decide +kernel
theorem dL_starts_393 : decode cL_starts 393 = .ok (.aload_n 0, 1) := by decide +kernel
theorem dL_starts_394 : decode cL_starts 394 = .ok (.iconst 1, 1) := by decide +kernel
theorem dL_starts_395 : decode cL_starts 395 = .ok (.invokevirtual 25, 3) := by decide +kernel
theorem dL_starts_398 : decode cL_starts 398 = .ok (.iconst (-1), 1) := by decide +kernel
theorem dL_starts_399 : decode cL_starts 399 = .ok (.if_icmp .ne 170, 3) := by decide +kernel
theorem dL_starts_402 : decode cL_starts 402 = .ok (.aload_n 0, 1) := by decide +kernel
theorem dL_starts_403 : decode cL_starts 403 = .ok (.invokevirtual 69, 3) := by decide +kernel
theorem dL_starts_406 : decode cL_starts 406 = .ok (.iconst 1, 1) := by decide +kernel
theorem dL_starts_407 : decode cL_starts 407 = .ok (.if_icmp .ne 162, 3) := by decide +kernel
theorem dL_starts_410 : decode cL_starts 410 = .ok (.aload_n 0, 1) := by decide +kernel
theorem dL_starts_411 : decode cL_starts 411 = .ok (.invokevirtual 34, 3) := by decide +kernel
theorem dL_starts_414 : decode cL_starts 414 = .ok (.iconst 1, 1) := by decide +kernel
theorem dL_starts_415 : decode cL_starts 415 = .ok (.if_icmp .ne 154, 3) := by decide +kernel
theorem dL_starts_418 : decode cL_starts 418 = .ok (.aload_n 0, 1) := by decide +kernel
theorem dL_starts_419 : decode cL_starts 419 = .ok (.iconst 1, 1) := by decide +kernel
theorem dL_starts_420 : decode cL_starts 420 = .ok (.invokevirtual 51, 3) := by decide +kernel
theorem dL_starts_423 : decode cL_starts 423 = .ok (.iconst 1, 1) := by decide +kernel
theorem dL_starts_424 : decode cL_starts 424 = .ok (.if_icmp .ne 145, 3) := by decide +kernel
theorem dL_starts_427 : decode cL_starts 427 = .ok (.aload_n 0, 1) := by decide +kernel
theorem dL_starts_428 : decode cL_starts 428 = .ok (.invokevirtual 34, 3) := by decide +kernel
theorem dL_starts_431 : decode cL_starts 431 = .ok (.iconst 1, 1) := by decide +kernel
theorem dL_starts_432 : decode cL_starts 432 = .ok (.if_icmp .ne 137, 3) := by decide +kernel
theorem dL_starts_435 : decode cL_starts 435 = .ok (.aload_n 0, 1) := by decide +kernel
theorem dL_starts_436 : decode cL_starts 436 = .ok (.iconst 1, 1) := by decide +kernel
theorem dL_starts_437 : decode cL_starts 437 = .ok (.invokevirtual 51, 3) := by decide +kernel
theorem dL_starts_440 : decode cL_starts 440 = .ok (.ifCond .ne 129, 3) := by decide +kernel
theorem dL_starts_443 : decode cL_starts 443 = .ok (.aload_n 0, 1) := by decide +kernel
theorem dL_starts_444 : decode cL_starts 444 = .ok (.iconst 1, 1) := by decide +kernel
theorem dL_starts_445 : decode cL_starts 445 = .ok (.invokevirtual 48, 3) := by decide +kernel
theorem dL_starts_448 : decode cL_starts 448 = .ok (.iconst 3, 1) := by decide +kernel
theorem dL_starts_449 : decode cL_starts 449 = .ok (.if_icmp .ne 120, 3) := by decide +kernel
theorem dL_starts_452 : decode cL_starts 452 = .ok (.aload_n 0, 1) := by decide +kernel
theorem dL_starts_453 : decode cL_starts 453 = .ok (.invokevirtual 69, 3) := by decide +kernel
theorem dL_starts_456 : decode cL_starts 456 = .ok (.ifCond .ne 113, 3) := by decide +kernel
theorem dL_starts_459 : decode cL_starts 459 = .ok (.aload_n 0, 1) := by decide +kernel
theorem dL_starts_460 : decode cL_starts 460 = .ok (.invokevirtual 38, 3) := by decide +kernel
theorem dL_starts_463 : decode cL_starts 463 = .ok (.ifCond .ne 106, 3) := by decide +kernel
theorem dL_starts_466 : decode cL_starts 466 = .ok (.aload_n 0, 1) := by decide +kernel
theorem dL_starts_467 : decode cL_starts 467 = .ok (.iconst 1, 1) := by decide +kernel
theorem dL_starts_468 : decode cL_starts 468 = .ok (.invokevirtual 51, 3) := by decide +kernel
theorem dL_starts_471 : decode cL_starts 471 = .ok (.iconst (-1), 1) := by decide +kernel
theorem dL_starts_472 : decode cL_starts 472 = .ok (.if_icmp .ne 97, 3) := by decide +kernel
theorem dL_starts_475 : decode cL_starts 475 = .ok (.aload_n 0, 1) := by decide +kernel
theorem dL_starts_476 : decode cL_starts 476 = .ok (.invokevirtual 38, 3) := by decide +kernel
theorem dL_starts_479 : decode cL_starts 479 = .ok (.iconst (-1), 1) := by decide +kernel
theorem dL_starts_480 : decode cL_starts 480 = .ok (.if_icmp .ne 89, 3) := by decide +kernel
theorem dL_starts_483 : decode cL_starts 483 = .ok (.aload_n 0, 1) := by decide +kernel
theorem dL_starts_484 : decode cL_starts 484 = .ok (.invokevirtual 69, 3) := by decide +kernel
theorem dL_starts_487 : decode cL_starts 487 = .ok (.iconst 1, 1) := by decide +kernel
theorem dL_starts_488 : decode cL_starts 488 = .ok (.if_icmp .ne 81, 3) := by decide +kernel
theorem dL_starts_491 : decode cL_starts 491 = .ok (.aload_n 0, 1) := by decide +kernel
theorem dL_starts_492 : decode cL_starts 492 = .ok (.iconst 4, 1) := by decide +kernel
theorem dL_starts_493 : decode cL_starts 493 = .ok (.iconst 3, 1) := by decide +kernel
theorem dL_starts_494 : decode cL_starts 494 = .ok (.iconst 0, 1) := by decide +kernel
theorem dL_starts_495 : decode cL_starts 495 = .ok (.iconst 1, 1) := by decide +kernel
theorem dL_starts_496 : decode cL_starts 496 = .ok (.invokestatic 100, 3) := by decide +kernel
theorem dL_starts_499 : decode cL_starts 499 = .ok (.ifCond .eq 70, 3) := by decide +kernel
theorem dL_starts_502 : decode cL_starts 502 = .ok (.aload_n 0, 1) := by decide +kernel
theorem dL_starts_503 : decode cL_starts 503 = .ok (.iconst 1, 1) := by decide +kernel
theorem dL_starts_504 : decode cL_starts 504 = .ok (.invokevirtual 17, 3) := by decide +kernel
theorem dL_starts_507 : decode cL_starts 507 = .ok (.iconst 4, 1) := by decide +kernel
theorem dL_starts_508 : decode cL_starts 508 = .ok (.if_icmp .ne 61, 3) := by decide +kernel
theorem dL_starts_511 : decode cL_starts 511 = .ok (.aload_n 0, 1) := by decide +kernel
theorem dL_starts_512 : decode cL_starts 512 = .ok (.invokevirtual 38, 3) := by decide +kernel
theorem dL_starts_515 : decode cL_starts 515 = .ok (.iconst (-1), 1) := by decide +kernel
theorem dL_starts_516 : decode cL_starts 516 = .ok (.if_icmp .ne 53, 3) := by decide +kernel
theorem dL_starts_519 : decode cL_starts 519 = .ok (.aload_n 0, 1) := by decide +kernel
theorem dL_starts_520 : decode cL_starts 520 = .ok (.invokevirtual 94, 3) := by decide +kernel
theorem dL_starts_523 : decode cL_starts 523 = .ok (.iconst 1, 1) := by decide +kernel
theorem dL_starts_524 : decode cL_starts 524 = .ok (.if_icmp .ne 45, 3) := by decide +kernel
theorem dL_starts_527 : decode cL_starts 527 = .ok (.aload_n 0, 1) := by decide +kernel
theorem dL_starts_528 : decode cL_starts 528 = .ok (.invokevirtual 69, 3) := by decide +kernel
theorem dL_starts_531 : decode cL_starts 531 = .ok (.ifCond .ne 38, 3) := by decide +kernel
theorem dL_starts_534 : decode cL_starts 534 = .ok (.aload_n 0, 1) := by decide +kernel
theorem dL_starts_535 : decode cL_starts 535 = .ok (.iconst 0, 1) := by decide +kernel
theorem dL_starts_536 : decode cL_starts 536 = .ok (.iconst 1, 1) := by decide +kernel
theorem dL_starts_537 : decode cL_starts 537 = .ok (.invokestatic 105, 3) := by decide +kernel
theorem dL_starts_540 : decode cL_starts 540 = .ok (.ifCond .eq 29, 3) := by decide +kernel
theorem dL_starts_543 : decode cL_starts 543 = .ok (.aload_n 0, 1) := by decide +kernel
theorem dL_starts_544 : decode cL_starts 544 = .ok (.iconst 3, 1) := by decide +kernel
theorem dL_starts_545 : decode cL_starts 545 = .ok (.invokevirtual 25, 3) := by decide +kernel
theorem dL_starts_548 : decode cL_starts 548 = .ok (.iconst 1, 1) := by decide +kernel
theorem dL_starts_549 : decode cL_starts 549 = .ok (.if_icmp .ne 20, 3) := by decide +kernel
theorem dL_starts_552 : decode cL_starts 552 = .ok (.aload_n 0, 1) := by decide +kernel
theorem dL_starts_553 : decode cL_starts 553 = .ok (.invokevirtual 69, 3) := by decide +kernel
theorem dL_starts_556 : decode cL_starts 556 = .ok (.iconst 3, 1) := by decide +kernel
theorem dL_starts_557 : decode cL_starts 557 = .ok (.if_icmp .ne 12, 3) := by decide +kernel
theorem dL_starts_560 : decode cL_starts 560 = .ok (.aload_n 0, 1) := by decide +kernel
theorem dL_starts_561 : decode cL_starts 561 = .ok (.iconst (-1), 1) := by decide +kernel
theorem dL_starts_562 : decode cL_starts 562 = .ok (.invokevirtual 25, 3) := by decide +kernel
theorem dL_starts_565 : decode cL_starts 565 = .ok (.iconst 3, 1) := by decide +kernel
theorem dL_starts_566 : decode cL_starts 566 = .ok (.if_icmp .eq 5, 3) := by decide +kernel
theorem dL_starts_569 : decode cL_starts 569 = .ok (.iconst 0, 1) := by decide +kernel
theorem dL_starts_570 : decode cL_starts 570 = .ok (.ireturn, 1) := by decide +kernel
theorem dL_starts_571 : decode cL_starts 571 = .ok (.aload_n 0, 1) := by decide +kernel
theorem dL_starts_572 : decode cL_starts 572 = .ok (.bipush 50, 2) := by decide +kernel
theorem dL_starts_574 : decode cL_starts 574 = .ok (.bipush 60, 2) := by decide +kernel
theorem dL_starts_576 : decode cL_starts 576 = .ok (.invokevirtual 31, 3) := by decide +kernel
theorem dL_starts_579 : decode cL_starts 579 = .ok (.ifCond .ne 195, 3) := by decide +kernel
theorem dL_starts_582 : decode cL_starts 582 = .ok (.aload_n 0, 1) := by decide +kernel
theorem dL_starts_583 : decode cL_starts 583 = .ok (.invokevirtual 69, 3) := by decide +kernel
theorem dL_starts_586 : decode cL_starts 586 = .ok (.iconst 4, 1) := by decide +kernel
theorem dL_starts_587 : decode cL_starts 587 = .ok (.if_icmp .ne 187, 3) := by decide +kernel
theorem dL_starts_590 : decode cL_starts 590 = .ok (.aload_n 0, 1) := by decide +kernel
theorem dL_starts_591 : decode cL_starts 591 = .ok (.invokevirtual 34, 3) := by decide +kernel
theorem dL_starts_594 : decode cL_starts 594 = .ok (.iconst 4, 1) := by decide +kernel
theorem dL_starts_595 : decode cL_starts 595 = .ok (.if_icmp .ne 179, 3) := by decide +kernel
theorem dL_starts_598 : decode cL_starts 598 = .ok (.aload_n 0, 1) := by decide +kernel
theorem dL_starts_599 : decode cL_starts 599 = .ok (.iconst 4, 1) := by decide +kernel
theorem dL_starts_600 : decode cL_starts 600 = .ok (.invokevirtual 51, 3) := by decide +kernel
theorem dL_starts_603 : decode cL_starts 603 = .ok (.ifCond .ne 171, 3) := by decide +kernel
theorem dL_starts_606 : decode cL_starts 606 = .ok (.aload_n 0, 1) := by decide +kernel
theorem dL_starts_607 : decode cL_starts 607 = .ok (.iconst 3, 1) := by decide +kernel
theorem dL_starts_608 : decode cL_starts 608 = .ok (.iconst 0, 1) := by decide +kernel
theorem dL_starts_609 : decode cL_starts 609 = .ok (.iconst 4, 1) := by decide +kernel
theorem dL_starts_610 : decode cL_starts 610 = .ok (.iconst 2, 1) := by decide +kernel
theorem dL_starts_611 : decode cL_starts 611 = .ok (.invokestatic 100, 3) := by decide +kernel
theorem dL_starts_614 : decode cL_starts 614 = .ok (.ifCond .eq 160, 3) := by decide +kernel
theorem dL_starts_617 : decode cL_starts 617 = .ok (.aload_n 0, 1) := by decide +kernel
theorem dL_starts_618 : decode cL_starts 618 = .ok (.invokevirtual 69, 3) := by decide +kernel
theorem dL_starts_621 : decode cL_starts 621 = .ok (.iconst 3, 1) := by decide +kernel
theorem dL_starts_622 : decode cL_starts 622 = .ok (.if_icmp .ne 152, 3) := by decide +kernel
theorem dL_starts_625 : decode cL_starts 625 = .ok (.aload_n 0, 1) := by decide +kernel
theorem dL_starts_626 : decode cL_starts 626 = .ok (.iconst 4, 1) := by decide +kernel
theorem dL_starts_627 : decode cL_starts 627 = .ok (.invokevirtual 28, 3) := by decide +kernel
theorem dL_starts_630 : decode cL_starts 630 = .ok (.iconst (-1), 1) := by decide +kernel
theorem dL_starts_631 : decode cL_starts 631 = .ok (.if_icmp .ne 143, 3) := by decide +kernel
theorem dL_starts_634 : decode cL_starts 634 = .ok (.aload_n 0, 1) := by decide +kernel
theorem dL_starts_635 : decode cL_starts 635 = .ok (.iconst 4, 1) := by decide +kernel
theorem dL_starts_636 : decode cL_starts 636 = .ok (.invokevirtual 17, 3) := by decide +kernel
theorem dL_starts_639 : decode cL_starts 639 = .ok (.iconst 3, 1) := by decide +kernel
theorem dL_starts_640 : decode cL_starts 640 = .ok (.if_icmp .ne 134, 3) := by decide +kernel
theorem dL_starts_643 : decode cL_starts 643 = .ok (.aload_n 0, 1) := by decide +kernel
theorem dL_starts_644 : decode cL_starts 644 = .ok (.invokevirtual 69, 3) := by decide +kernel
theorem dL_starts_647 : decode cL_starts 647 = .ok (.iconst 3, 1) := by decide +kernel
theorem dL_starts_648 : decode cL_starts 648 = .ok (.if_icmp .ne 126, 3) := by decide +kernel
theorem dL_starts_651 : decode cL_starts 651 = .ok (.aload_n 0, 1) := by decide +kernel
theorem dL_starts_652 : decode cL_starts 652 = .ok (.iconst 0, 1) := by decide +kernel
theorem dL_starts_653 : decode cL_starts 653 = .ok (.invokevirtual 28, 3) := by decide +kernel
theorem dL_starts_656 : decode cL_starts 656 = .ok (.iconst 4, 1) := by decide +kernel
theorem dL_starts_657 : decode cL_starts 657 = .ok (.if_icmp .ne 117, 3) := by decide +kernel
theorem dL_starts_660 : decode cL_starts 660 = .ok (.aload_n 0, 1) := by decide +kernel
theorem dL_starts_661 : decode cL_starts 661 = .ok (.iconst 3, 1) := by decide +kernel
theorem dL_starts_662 : decode cL_starts 662 = .ok (.invokevirtual 28, 3) := by decide +kernel
theorem dL_starts_665 : decode cL_starts 665 = .ok (.ifCond .ne 109, 3) := by decide +kernel
theorem dL_starts_668 : decode cL_starts 668 = .ok (.aload_n 0, 1) := by decide +kernel
theorem dL_starts_669 : decode cL_starts 669 = .ok (.iconst 3, 1) := by decide +kernel
theorem dL_starts_670 : decode cL_starts 670 = .ok (.invokevirtual 17, 3) := by decide +kernel
theorem dL_starts_673 : decode cL_starts 673 = .ok (.iconst 2, 1) := by decide +kernel
theorem dL_starts_674 : decode cL_starts 674 = .ok (.if_icmp .ne 100, 3) := by decide +kernel
theorem dL_starts_677 : decode cL_starts 677 = .ok (.aload_n 0, 1) := by decide +kernel
theorem dL_starts_678 : decode cL_starts 678 = .ok (.invokevirtual 34, 3) := by decide +kernel
theorem dL_starts_681 : decode cL_starts 681 = .ok (.ifCond .ne 93, 3) := by decide +kernel
theorem dL_starts_684 : decode cL_starts 684 = .ok (.aload_n 0, 1) := by decide +kernel
theorem dL_starts_685 : decode cL_starts 685 = .ok (.iconst (-1), 1) := by decide +kernel
theorem dL_starts_686 : decode cL_starts 686 = .ok (.invokevirtual 28, 3) := by decide +kernel
theorem dL_starts_689 : decode cL_starts 689 = .ok (.iconst (-1), 1) := by decide +kernel
theorem dL_starts_690 : decode cL_starts 690 = .ok (.if_icmp .ne 84, 3) := by decide +kernel
theorem dL_starts_693 : decode cL_starts 693 = .ok (.aload_n 0, 1) := by decide +kernel
theorem dL_starts_694 : decode cL_starts 694 = .ok (.iconst 0, 1) := by decide +kernel
theorem dL_starts_695 : decode cL_starts 695 = .ok (.invokevirtual 17, 3) := by decide +kernel
theorem dL_starts_698 : decode cL_starts 698 = .ok (.iconst 1, 1) := by decide +kernel
theorem dL_starts_699 : decode cL_starts 699 = .ok (.if_icmp .ne 75, 3) := by decide +kernel
theorem dL_starts_702 : decode cL_starts 702 = .ok (.aload_n 0, 1) := by decide +kernel
theorem dL_starts_703 : decode cL_starts 703 = .ok (.invokevirtual 69, 3) := by decide +kernel
theorem dL_starts_706 : decode cL_starts 706 = .ok (.iconst 2, 1) := by decide +kernel
theorem dL_starts_707 : decode cL_starts 707 = .ok (.if_icmp .ne 67, 3) := by decide +kernel
theorem dL_starts_710 : decode cL_starts 710 = .ok (.aload_n 0, 1) := by decide +kernel
theorem dL_starts_711 : decode cL_starts 711 = .ok (.invokevirtual 34, 3) := by decide +kernel
theorem dL_starts_714 : decode cL_starts 714 = .ok (.iconst 2, 1) := by decide +kernel
theorem dL_starts_715 : decode cL_starts 715 = .ok (.if_icmp .ne 59, 3) := by decide +kernel
theorem dL_starts_718 : decode cL_starts 718 = .ok (.aload_n 0, 1) := by decide +kernel
theorem dL_starts_719 : decode cL_starts 719 = .ok (.iconst 2, 1) := by decide +kernel
theorem dL_starts_720 : decode cL_starts 720 = .ok (.invokevirtual 51, 3) := by decide +kernel
theorem dL_starts_723 : decode cL_starts 723 = .ok (.ifCond .ne 51, 3) := by decide +kernel
theorem dL_starts_726 : decode cL_starts 726 = .ok (.aload_n 0, 1) := by decide +kernel
theorem dL_starts_727 : decode cL_starts 727 = .ok (.iconst 2, 1) := by decide +kernel
theorem dL_starts_728 : decode cL_starts 728 = .ok (.invokevirtual 17, 3) := by decide +kernel
theorem dL_starts_731 : decode cL_starts 731 = .ok (.ifCond .ne 43, 3) := by decide +kernel
theorem dL_starts_734 : decode cL_starts 734 = .ok (.aload_n 0, 1) := by decide +kernel
theorem dL_starts_735 : decode cL_starts 735 = .ok (.invokevirtual 69, 3) := by decide +kernel
theorem dL_starts_738 : decode cL_starts 738 = .ok (.iconst (-1), 1) := by decide +kernel
theorem dL_starts_739 : decode cL_starts 739 = .ok (.if_icmp .ne 35, 3) := by decide +kernel
theorem dL_starts_742 : decode cL_starts 742 = .ok (.aload_n 0, 1) := by decide +kernel
theorem dL_starts_743 : decode cL_starts 743 = .ok (.invokevirtual 94, 3) := by decide +kernel
theorem dL_starts_746 : decode cL_starts 746 = .ok (.iconst 2, 1) := by decide +kernel
theorem dL_starts_747 : decode cL_starts 747 = .ok (.if_icmp .ne 27, 3) := by decide +kernel
theorem dL_starts_750 : decode cL_starts 750 = .ok (.aload_n 0, 1) := by decide +kernel
theorem dL_starts_751 : decode cL_starts 751 = .ok (.iconst 5, 1) := by decide +kernel
theorem dL_starts_752 : decode cL_starts 752 = .ok (.iconst 0, 1) := by decide +kernel
theorem dL_starts_753 : decode cL_starts 753 = .ok (.iconst 0, 1) := by decide +kernel
theorem dL_starts_754 : decode cL_starts 754 = .ok (.invokestatic 86, 3) := by decide +kernel
theorem dL_starts_757 : decode cL_starts 757 = .ok (.bipush (-73), 2) := by decide +kernel
theorem dL_starts_759 : decode cL_starts 759 = .ok (.if_icmp .ne 15, 3) := by decide +kernel
theorem dL_starts_762 : decode cL_starts 762 = .ok (.aload_n 0, 1) := by decide +kernel
theorem dL_starts_763 : decode cL_starts 763 = .ok (.invokevirtual 38, 3) := by decide +kernel
theorem dL_starts_766 : decode cL_starts 766 = .ok (.iconst (-1), 1) := by decide +kernel
theorem dL_starts_767 : decode cL_starts 767 = .ok (.if_icmp .ne 7, 3) := by decide +kernel
theorem dL_starts_770 : decode cL_starts 770 = .ok (.iconst 1, 1) := by decide +kernel
theorem dL_starts_771 : decode cL_starts 771 = .ok (.goto 4, 3) := by decide +kernel
theorem dL_starts_774 : decode cL_starts 774 = .ok (.iconst 0, 1) := by decide +kernel
theorem dL_starts_775 : decode cL_starts 775 = .ok (.ireturn, 1) := by decide +kernel
set_option maxRecDepth 200000 in
theorem ggL_locks_X2_init : GoodIn wsL_locks wsX2_init := goodIn_r _ [11, 12, 13, 14, 15, 16, 17, 18, 19, 20, 21, 22, 23, 24, 25, 26, 27, 28, 29, 30, 31, 32, 33, 34, 35, 36, 37, 38, 39, 40, 41, 42, 43, 44, 45, 46, 47, 48, 49, 250, 251, 252, 253, 254, 255, 256, 257, 258, 259, 260, 261, 262, 263, 264, 265, 266, 267, 268, 269, 270, 271] rfl (by decide +kernel)
set_option maxRecDepth 20000 in
theorem gL_locks_X2_init : GoodIn wsL_locks (wsX2_init) := ggL_locks_X2_init
set_option maxRecDepth 200000 in
theorem ggL_locks_X2_add : GoodIn wsL_locks wsX2_add := goodIn_ca (goodIn_ca (goodIn_r _ [53, 54, 55, 56, 57, 58, 21, 59, 60, 3, 61, 62, 63, 64, 65, 16, 66, 29, 67, 68, 42, 43, 44, 45, 46, 47, 48, 49, 250, 251, 252, 253, 254, 255, 256, 257, 258, 264, 265, 266, 267, 268, 269, 270, 271] rfl (by decide +kernel)) (goodIn_sub (fun _ h => List.mem_cons_of_mem _ (List.mem_append_left _ (List.mem_append_left _ (List.mem_append_left _ (List.mem_append_right _ h))))) (by decide +kernel))) (goodIn_sub (fun _ h => List.mem_cons_of_mem _ (List.mem_append_left _ (List.mem_append_left _ (List.mem_append_right _ h)))) (by decide +kernel))
set_option maxRecDepth 20000 in
theorem gL_locks_X2_add : GoodIn wsL_locks (wsV RL 62 RX2 yX2_add wsX2_add) := goodIn_app (goodIn_of _ (by decide +kernel)) ggL_locks_X2_add
set_option maxRecDepth 200000 in
theorem ggL_locks_L_lock : GoodIn wsL_locks wsL_lock := goodIn_ca (goodIn_ca (goodIn_r _ [72, 73, 74, 75, 76, 77, 3, 78, 54, 55, 20, 59, 60, 61, 79, 80, 81, 82, 83, 84, 85, 56, 57, 86, 19, 87, 88, 35, 36, 37, 89, 90, 91, 92, 38, 250, 251, 252, 253, 254, 255, 256, 257, 258, 259, 260, 261, 262, 263] rfl (by decide +kernel)) (goodIn_sub (fun _ h => List.mem_cons_of_mem _ (List.mem_append_left _ (List.mem_append_left _ (List.mem_append_left _ (List.mem_append_right _ h))))) (by decide +kernel))) (goodIn_sub (fun _ h => List.mem_cons_of_mem _ (List.mem_append_left _ (List.mem_append_left _ (List.mem_append_right _ h)))) (by decide +kernel))
set_option maxRecDepth 20000 in
theorem gL_locks_L_lock : GoodIn wsL_locks (va_wsS RL 90 yL_lock wsL_lock) := goodIn_app (goodIn_of _ (by decide +kernel)) ggL_locks_L_lock
set_option maxRecDepth 200000 in
theorem ggL_locks_X2_isLocked : GoodIn wsL_locks wsX2_isLocked := goodIn_r _ [96, 20, 250, 251, 252, 253, 254, 255, 256, 257, 258, 259, 260, 261, 262, 263] rfl (by decide +kernel)
set_option maxRecDepth 20000 in
theorem gL_locks_X2_isLocked : GoodIn wsL_locks (wsV RL 75 RX2 yX2_isLocked wsX2_isLocked) := goodIn_app (goodIn_of _ (by decide +kernel)) ggL_locks_X2_isLocked
set_option maxRecDepth 200000 in
theorem ggL_locks_X2_foretold : GoodIn wsL_locks wsX2_foretold := goodIn_ca (goodIn_r _ [100, 101, 102, 103, 3, 104, 105, 106, 107, 108, 109, 110, 16, 111, 112, 113, 114, 20, 115, 116, 117, 118, 119, 250, 251, 252, 253, 254, 255, 256, 257, 258, 264, 265, 266, 267, 268, 269, 270, 271, 259, 260, 261, 262, 263] rfl (by decide +kernel)) (goodIn_sub (fun _ h => List.mem_cons_of_mem _ (List.mem_append_left _ (List.mem_append_right _ h))) (by decide +kernel))
set_option maxRecDepth 20000 in
theorem gL_locks_X2_foretold : GoodIn wsL_locks (wsV RL 57 RX2 yX2_foretold wsX2_foretold) := goodIn_app (goodIn_of _ (by decide +kernel)) ggL_locks_X2_foretold
set_option maxRecDepth 200000 in
theorem ggL_locks_L_refuses : GoodIn wsL_locks wsL_refuses := goodIn_ca (goodIn_ca (goodIn_ca (goodIn_ca (goodIn_r _ [122, 123, 124, 125, 126, 127, 3, 128, 129, 130, 131, 132, 16, 133, 134, 135, 136, 137, 138, 139, 140, 23, 22, 107, 108, 109, 110, 141, 29, 142, 143, 49, 144, 145, 146, 147, 148, 149, 150, 151, 24, 25, 59, 60, 61, 152, 153, 154, 44, 45, 43, 155, 156, 157, 158, 159, 46, 47, 160, 161, 162, 163, 164, 165, 166, 167, 168, 169, 170, 171, 172, 173, 174, 175, 27, 93, 94, 95, 96, 20, 176, 177, 71, 178, 73, 74, 50, 51, 52, 53, 54, 55, 56, 57, 58, 21, 62, 63, 64, 65, 66, 67, 68, 42, 48, 179, 180, 181, 182, 183, 184, 185, 186, 101, 102, 103, 104, 105, 106, 187, 188, 189, 190, 82, 83, 84, 85, 191, 192, 193, 194, 195, 196, 197, 198, 199, 200, 201, 202, 203, 204, 205, 206, 207, 208, 209, 210, 211, 212, 213, 214, 26, 111, 112, 113, 114, 115, 116, 117, 118, 119, 215, 216, 217, 90, 19, 91, 92, 38, 218, 219, 220, 221, 222, 223, 224, 225, 226, 227, 228, 229, 35, 34, 230, 231, 232, 233, 37, 36, 234, 235, 236, 237, 238, 239, 240, 241, 242, 243, 244, 245, 246, 247, 248, 249, 97, 98, 99, 100, 69, 70, 72, 75, 76, 77, 78, 79, 80, 81, 86, 87, 88, 89, 250, 251, 252, 253, 254, 255, 256, 257, 258, 264, 265, 266, 267, 268, 269, 270, 271, 259, 260, 261, 262, 263] rfl (by decide +kernel)) (goodIn_sub (fun _ h => List.mem_cons_of_mem _ (List.mem_append_left _ (List.mem_append_left _ (List.mem_append_left _ (List.mem_append_right _ h))))) (by decide +kernel))) (goodIn_sub (fun _ h => List.mem_cons_of_mem _ (List.mem_append_left _ (List.mem_append_left _ (List.mem_append_right _ h)))) (by decide +kernel))) (goodIn_sub (fun _ h => List.mem_cons_of_mem _ (List.mem_append_left _ (List.mem_append_right _ h))) (by decide +kernel))) (goodIn_sub (fun _ h => List.mem_cons_of_mem _ (List.mem_append_right _ h)) (by decide +kernel))
set_option maxRecDepth 20000 in
theorem gL_locks_L_refuses : GoodIn wsL_locks (va_wsS RL 105 yL_refuses wsL_refuses) := goodIn_app (goodIn_of _ (by decide +kernel)) ggL_locks_L_refuses
set_option maxRecDepth 200000 in
theorem ggL_locks_X2_chooseOnce : GoodIn wsL_locks wsX2_chooseOnce := goodIn_ca (goodIn_r _ [202, 23, 195, 196, 197, 3, 198, 105, 106, 107, 108, 109, 110, 16, 250, 251, 252, 253, 254, 255, 256, 257, 258, 264, 265, 266, 267, 268, 269, 270, 271] rfl (by decide +kernel)) (goodIn_sub (fun _ h => List.mem_cons_of_mem _ (List.mem_append_left _ (List.mem_append_right _ h))) (by decide +kernel))
set_option maxRecDepth 20000 in
theorem gL_locks_X2_chooseOnce : GoodIn wsL_locks (wsV RL 28 RX2 yX2_chooseOnce wsX2_chooseOnce) := goodIn_app (goodIn_of _ (by decide +kernel)) ggL_locks_X2_chooseOnce
set_option maxRecDepth 200000 in
theorem ggL_locks_X2_enter : GoodIn wsL_locks wsX2_enter := goodIn_ca (goodIn_ca (goodIn_r _ [225, 54, 55, 20, 59, 60, 3, 61, 226, 19, 227, 228, 229, 57, 35, 38, 34, 230, 231, 232, 233, 37, 36, 250, 251, 252, 253, 254, 255, 256, 257, 258, 259, 260, 261, 262, 263] rfl (by decide +kernel)) (goodIn_sub (fun _ h => List.mem_cons_of_mem _ (List.mem_append_left _ (List.mem_append_left _ (List.mem_append_left _ (List.mem_append_right _ h))))) (by decide +kernel))) (goodIn_sub (fun _ h => List.mem_cons_of_mem _ (List.mem_append_right _ h)) (by decide +kernel))
set_option maxRecDepth 20000 in
theorem gL_locks_X2_enter : GoodIn wsL_locks (wsV RL 41 RX2 yX2_enter wsX2_enter) := goodIn_app (goodIn_of _ (by decide +kernel)) ggL_locks_X2_enter
set_option maxRecDepth 200000 in
theorem ggL_locks_X2_edit : GoodIn wsL_locks wsX2_edit := goodIn_ca (goodIn_ca (goodIn_ca (goodIn_r _ [190, 54, 55, 101, 102, 103, 3, 104, 105, 106, 107, 108, 109, 110, 16, 59, 60, 61, 82, 83, 84, 85, 56, 57, 20, 264, 265, 266, 267, 268, 269, 270, 271, 250, 251, 252, 253, 254, 255, 256, 257, 258, 259, 260, 261, 262, 263] rfl (by decide +kernel)) (goodIn_sub (fun _ h => List.mem_cons_of_mem _ (List.mem_append_left _ (List.mem_append_left _ (List.mem_append_left _ (List.mem_append_right _ h))))) (by decide +kernel))) (goodIn_sub (fun _ h => List.mem_cons_of_mem _ (List.mem_append_left _ (List.mem_append_right _ h))) (by decide +kernel))) (goodIn_sub (fun _ h => List.mem_cons_of_mem _ (List.mem_append_left _ (List.mem_append_left _ (List.mem_append_right _ h)))) (by decide +kernel))
set_option maxRecDepth 20000 in
theorem gL_locks_X2_edit : GoodIn wsL_locks (wsV RL 21 RX2 yX2_edit wsX2_edit) := goodIn_app (goodIn_of _ (by decide +kernel)) ggL_locks_X2_edit
set_option maxRecDepth 200000 in
theorem ggL_locks_L_act : GoodIn wsL_locks wsL_act := goodIn_ca (goodIn_ca (goodIn_ca (goodIn_ca (goodIn_r _ [181, 182, 73, 74, 183, 184, 185, 3, 186, 101, 102, 103, 104, 105, 106, 107, 108, 109, 110, 16, 129, 130, 131, 132, 187, 188, 189, 190, 54, 55, 59, 60, 61, 82, 83, 84, 85, 56, 57, 20, 191, 192, 193, 194, 22, 195, 196, 197, 198, 199, 200, 201, 202, 23, 203, 204, 205, 206, 24, 25, 207, 208, 209, 210, 148, 149, 150, 151, 211, 212, 213, 214, 27, 26, 137, 138, 139, 140, 141, 29, 142, 143, 49, 144, 145, 146, 147, 152, 153, 154, 44, 45, 43, 155, 156, 157, 158, 159, 46, 47, 160, 161, 162, 163, 164, 165, 166, 167, 168, 169, 170, 171, 111, 112, 113, 114, 115, 116, 117, 118, 119, 215, 216, 217, 90, 19, 91, 92, 38, 218, 219, 220, 221, 222, 223, 224, 225, 226, 227, 228, 229, 35, 34, 230, 231, 232, 233, 37, 36, 234, 235, 236, 237, 238, 239, 240, 241, 242, 243, 244, 245, 246, 247, 248, 249, 97, 98, 99, 100, 264, 265, 266, 267, 268, 269, 270, 271, 250, 251, 252, 253, 254, 255, 256, 257, 258, 259, 260, 261, 262, 263] rfl (by decide +kernel)) (goodIn_sub (fun _ h => List.mem_cons_of_mem _ (List.mem_append_left _ (List.mem_append_right _ h))) (by decide +kernel))) (goodIn_sub (fun _ h => List.mem_cons_of_mem _ (List.mem_append_left _ (List.mem_append_left _ (List.mem_append_left _ (List.mem_append_right _ h))))) (by decide +kernel))) (goodIn_sub (fun _ h => List.mem_cons_of_mem _ (List.mem_append_left _ (List.mem_append_left _ (List.mem_append_right _ h)))) (by decide +kernel))) (goodIn_sub (fun _ h => List.mem_cons_of_mem _ (List.mem_append_right _ h)) (by decide +kernel))
set_option maxRecDepth 20000 in
theorem gL_locks_L_act : GoodIn wsL_locks (va_wsS RL 86 yL_act wsL_act) := goodIn_app (goodIn_of _ (by decide +kernel)) ggL_locks_L_act
set_option maxRecDepth 200000 in
theorem ggL_locks_X2_start : GoodIn wsL_locks wsX2_start := goodIn_ca (goodIn_r _ [214, 56, 57, 27, 23, 26, 20, 137, 138, 139, 3, 140, 22, 107, 108, 109, 110, 16, 141, 29, 142, 143, 49, 144, 145, 146, 147, 148, 149, 150, 151, 24, 25, 59, 60, 61, 152, 153, 154, 44, 45, 43, 155, 156, 157, 158, 159, 46, 47, 160, 161, 162, 163, 164, 165, 166, 167, 168, 169, 170, 171, 111, 112, 113, 114, 115, 116, 117, 118, 119, 215, 216, 217, 90, 19, 91, 92, 38, 250, 251, 252, 253, 254, 255, 256, 257, 258, 264, 265, 266, 267, 268, 269, 270, 271, 259, 260, 261, 262, 263] rfl (by decide +kernel)) (goodIn_sub (fun _ h => List.mem_cons_of_mem _ (List.mem_append_left _ (List.mem_append_left _ (List.mem_append_right _ h)))) (by decide +kernel))
set_option maxRecDepth 20000 in
theorem gL_locks_X2_start : GoodIn wsL_locks (wsV RL 34 RX2 yX2_start wsX2_start) := goodIn_app (goodIn_of _ (by decide +kernel)) ggL_locks_X2_start
set_option maxRecDepth 200000 in
theorem ggL_locks_X2_register : GoodIn wsL_locks wsX2_register := goodIn_r _ [175, 27, 250, 251, 252, 253, 254, 255, 256, 257, 258] rfl (by decide +kernel)
set_option maxRecDepth 20000 in
theorem gL_locks_X2_register : GoodIn wsL_locks (wsV RL 72 RX2 yX2_register wsX2_register) := goodIn_app (goodIn_of _ (by decide +kernel)) ggL_locks_X2_register
theorem dL_locks_0 : decode cL_locks 0 = .ok (.new 8, 3) := by decide +kernel
theorem dL_locks_3 : decode cL_locks 3 = .ok (.dup, 1) := by decide +kernel
theorem dL_locks_4 : decode cL_locks 4 = .ok (.invokespecial 93, 3) := by decide +kernel
theorem dL_locks_7 : decode cL_locks 7 = .ok (.astore_n 0, 1) := by decide +kernel
theorem dL_locks_8 : decode cL_locks 8 = .ok (.aload_n 0, 1) := by decide +kernel
theorem dL_locks_9 : decode cL_locks 9 = .ok (.iconst 0, 1) := by decide +kernel
theorem dL_locks_10 : decode cL_locks 10 = .ok (.iconst 5, 1) := by decide +kernel
theorem dL_locks_11 : decode cL_locks 11 = .ok (.ldc 97, 2) := by decide +kernel
theorem dL_locks_13 : decode cL_locks 13 = .ok (.iconst 1, 1) := by decide +kernel
theorem dL_locks_14 : decode cL_locks 14 = .ok (.iconst (-1), 1) := by decide +kernel
theorem dL_locks_15 : decode cL_locks 15 = .ok (.invokevirtual 62, 3) := by decide +kernel
theorem dL_locks_18 : decode cL_locks 18 = .ok (.ifCond .ne 138, 3) := by decide +kernel
theorem dL_locks_21 : decode cL_locks 21 = .ok (.aload_n 0, 1) := by decide +kernel
theorem dL_locks_22 : decode cL_locks 22 = .ok (.bipush 12, 2) := by decide +kernel
theorem dL_locks_24 : decode cL_locks 24 = .ok (.iconst 3, 1) := by decide +kernel
theorem dL_locks_25 : decode cL_locks 25 = .ok (.invokestatic 90, 3) := by decide +kernel
theorem dL_locks_28 : decode cL_locks 28 = .ok (.ifCond .ne 128, 3) := by decide +kernel
theorem dL_locks_31 : decode cL_locks 31 = .ok (.aload_n 0, 1) := by decide +kernel
theorem dL_locks_32 : decode cL_locks 32 = .ok (.invokevirtual 75, 3) := by decide +kernel
theorem dL_locks_35 : decode cL_locks 35 = .ok (.ifCond .eq 121, 3) := by decide +kernel
theorem dL_locks_38 : decode cL_locks 38 = .ok (.aload_n 0, 1) := by decide +kernel
theorem dL_locks_39 : decode cL_locks 39 = .ok (.iconst 0, 1) := by decide +kernel
theorem dL_locks_40 : decode cL_locks 40 = .ok (.invokevirtual 57, 3) := by decide +kernel
theorem dL_locks_43 : decode cL_locks 43 = .ok (.ldc 109, 2) := by decide +kernel
theorem dL_locks_45 : decode cL_locks 45 = .ok (.if_icmp .ne 111, 3) := by decide +kernel
theorem dL_locks_48 : decode cL_locks 48 = .ok (.aload_n 0, 1) := by decide +kernel
theorem dL_locks_49 : decode cL_locks 49 = .ok (.iconst 0, 1) := by decide +kernel
theorem dL_locks_50 : decode cL_locks 50 = .ok (.iconst 1, 1) := by decide +kernel
theorem dL_locks_51 : decode cL_locks 51 = .ok (.invokestatic 105, 3) := by decide +kernel
theorem dL_locks_54 : decode cL_locks 54 = .ok (.ifCond .eq 102, 3) := by decide +kernel
theorem dL_locks_57 : decode cL_locks 57 = .ok (.aload_n 0, 1) := by decide +kernel
theorem dL_locks_58 : decode cL_locks 58 = .ok (.iconst 0, 1) := by decide +kernel
theorem dL_locks_59 : decode cL_locks 59 = .ok (.invokevirtual 28, 3) := by decide +kernel
theorem dL_locks_62 : decode cL_locks 62 = .ok (.iconst (-1), 1) := by decide +kernel
theorem dL_locks_63 : decode cL_locks 63 = .ok (.if_icmp .ne 93, 3) := by decide +kernel
theorem dL_locks_66 : decode cL_locks 66 = .ok (.aload_n 0, 1) := by decide +kernel
theorem dL_locks_67 : decode cL_locks 67 = .ok (.iconst 0, 1) := by decide +kernel
theorem dL_locks_68 : decode cL_locks 68 = .ok (.invokevirtual 41, 3) := by decide +kernel
theorem dL_locks_71 : decode cL_locks 71 = .ok (.ifCond .ne 85, 3) := by decide +kernel
theorem dL_locks_74 : decode cL_locks 74 = .ok (.aload_n 0, 1) := by decide +kernel
theorem dL_locks_75 : decode cL_locks 75 = .ok (.iconst 0, 1) := by decide +kernel
theorem dL_locks_76 : decode cL_locks 76 = .ok (.invokevirtual 41, 3) := by decide +kernel
theorem dL_locks_79 : decode cL_locks 79 = .ok (.ifCond .ne 77, 3) := by decide +kernel
theorem dL_locks_82 : decode cL_locks 82 = .ok (.aload_n 0, 1) := by decide +kernel
theorem dL_locks_83 : decode cL_locks 83 = .ok (.iconst 1, 1) := by decide +kernel
theorem dL_locks_84 : decode cL_locks 84 = .ok (.invokevirtual 41, 3) := by decide +kernel
theorem dL_locks_87 : decode cL_locks 87 = .ok (.ifCond .ne 69, 3) := by decide +kernel
theorem dL_locks_90 : decode cL_locks 90 = .ok (.aload_n 0, 1) := by decide +kernel
theorem dL_locks_91 : decode cL_locks 91 = .ok (.iconst 2, 1) := by decide +kernel
theorem dL_locks_92 : decode cL_locks 92 = .ok (.invokevirtual 41, 3) := by decide +kernel
theorem dL_locks_95 : decode cL_locks 95 = .ok (.ifCond .eq 61, 3) := by decide +kernel
theorem dL_locks_98 : decode cL_locks 98 = .ok (.aload_n 0, 1) := by decide +kernel
theorem dL_locks_99 : decode cL_locks 99 = .ok (.invokevirtual 75, 3) := by decide +kernel
theorem dL_locks_102 : decode cL_locks 102 = .ok (.ifCond .ne 54, 3) := by decide +kernel
theorem dL_locks_105 : decode cL_locks 105 = .ok (.aload_n 0, 1) := by decide +kernel
theorem dL_locks_106 : decode cL_locks 106 = .ok (.iconst 0, 1) := by decide +kernel
theorem dL_locks_107 : decode cL_locks 107 = .ok (.invokevirtual 57, 3) := by decide +kernel
theorem dL_locks_110 : decode cL_locks 110 = .ok (.ldc 104, 2) := by decide +kernel
theorem dL_locks_112 : decode cL_locks 112 = .ok (.if_icmp .ne 44, 3) := by decide +kernel
theorem dL_locks_115 : decode cL_locks 115 = .ok (.aload_n 0, 1) := by decide +kernel
theorem dL_locks_116 : decode cL_locks 116 = .ok (.iconst 0, 1) := by decide +kernel
theorem dL_locks_117 : decode cL_locks 117 = .ok (.bipush 99, 2) := by decide +kernel
theorem dL_locks_119 : decode cL_locks 119 = .ok (.invokevirtual 21, 3) := by decide +kernel
theorem dL_locks_122 : decode cL_locks 122 = .ok (.ifCond .ne 34, 3) := by decide +kernel
theorem dL_locks_125 : decode cL_locks 125 = .ok (.aload_n 0, 1) := by decide +kernel
theorem dL_locks_126 : decode cL_locks 126 = .ok (.iconst 0, 1) := by decide +kernel
theorem dL_locks_127 : decode cL_locks 127 = .ok (.invokevirtual 57, 3) := by decide +kernel
theorem dL_locks_130 : decode cL_locks 130 = .ok (.ldc 110, 2) := by decide +kernel
theorem dL_locks_132 : decode cL_locks 132 = .ok (.if_icmp .ne 24, 3) := by decide +kernel
theorem dL_locks_135 : decode cL_locks 135 = .ok (.aload_n 0, 1) := by decide +kernel
theorem dL_locks_136 : decode cL_locks 136 = .ok (.iconst 0, 1) := by decide +kernel
theorem dL_locks_137 : decode cL_locks 137 = .ok (.iconst 0, 1) := by decide +kernel
theorem dL_locks_138 : decode cL_locks 138 = .ok (.invokevirtual 21, 3) := by decide +kernel
theorem dL_locks_141 : decode cL_locks 141 = .ok (.bipush 99, 2) := by decide +kernel
theorem dL_locks_143 : decode cL_locks 143 = .ok (.if_icmp .ne 13, 3) := by decide +kernel
theorem dL_locks_146 : decode cL_locks 146 = .ok (.aload_n 0, 1) := by decide +kernel
theorem dL_locks_147 : decode cL_locks 147 = .ok (.bipush 7, 2) := by decide +kernel
theorem dL_locks_149 : decode cL_locks 149 = .ok (.iconst 1, 1) := by decide +kernel
theorem dL_locks_150 : decode cL_locks 150 = .ok (.invokestatic 90, 3) := by decide +kernel
theorem dL_locks_153 : decode cL_locks 153 = .ok (.ifCond .eq 5, 3) := by decide +kernel
theorem dL_locks_156 : decode cL_locks 156 = .ok (.iconst 0, 1) := by decide +kernel
theorem dL_locks_157 : decode cL_locks 157 = .ok (.ireturn, 1) := by decide +kernel
theorem dL_locks_158 : decode cL_locks 158 = .ok (.iconst 0, 1) := by decide +kernel
theorem dL_locks_159 : decode cL_locks 159 = .ok (.istore_n 1, 1) := by decide +kernel
theorem dL_locks_160 : decode cL_locks 160 = .ok (.iload_n 1, 1) := by decide +kernel
theorem dL_locks_161 : decode cL_locks 161 = .ok (.bipush 12, 2) := by decide +kernel
theorem dL_locks_163 : decode cL_locks 163 = .ok (.if_icmp .ge 22, 3) := by decide +kernel
theorem dL_locks_166 : decode cL_locks 166 = .ok (.aload_n 0, 1) := by decide +kernel
theorem dL_locks_167 : decode cL_locks 167 = .ok (.iload_n 1, 1) := by decide +kernel
theorem dL_locks_168 : decode cL_locks 168 = .ok (.bipush 7, 2) := by decide +kernel
theorem dL_locks_170 : decode cL_locks 170 = .ok (.irem, 1) := by decide +kernel
theorem dL_locks_171 : decode cL_locks 171 = .ok (.invokevirtual 41, 3) := by decide +kernel
theorem dL_locks_174 : decode cL_locks 174 = .ok (.ifCond .eq 5, 3) := by decide +kernel
theorem dL_locks_177 : decode cL_locks 177 = .ok (.iconst 0, 1) := by decide +kernel
theorem dL_locks_178 : decode cL_locks 178 = .ok (.ireturn, 1) := by decide +kernel
theorem dL_locks_179 : decode cL_locks 179 = .ok (.iinc 1 1, 3) := by decide +kernel
theorem dL_locks_182 : decode cL_locks 182 = .ok (.goto (-22), 3) := by decide +kernel
theorem dL_locks_185 : decode cL_locks 185 = .ok (.aload_n 0, 1) := by decide +kernel
theorem dL_locks_186 : decode cL_locks 186 = .ok (.bipush 7, 2) := by decide +kernel
theorem dL_locks_188 : decode cL_locks 188 = .ok (.bipush 7, 2) := by decide +kernel
theorem dL_locks_190 : decode cL_locks 190 = .ok (.iconst 0, 1) := by decide +kernel
theorem dL_locks_191 : decode cL_locks 191 = .ok (.invokestatic 86, 3) := by decide +kernel
theorem dL_locks_194 : decode cL_locks 194 = .ok (.bipush (-73), 2) := by decide +kernel
theorem dL_locks_196 : decode cL_locks 196 = .ok (.if_icmp .ne 136, 3) := by decide +kernel
theorem dL_locks_199 : decode cL_locks 199 = .ok (.aload_n 0, 1) := by decide +kernel
theorem dL_locks_200 : decode cL_locks 200 = .ok (.invokevirtual 75, 3) := by decide +kernel
theorem dL_locks_203 : decode cL_locks 203 = .ok (.ifCond .eq 129, 3) := by decide +kernel
theorem dL_locks_206 : decode cL_locks 206 = .ok (.aload_n 0, 1) := by decide +kernel
theorem dL_locks_207 : decode cL_locks 207 = .ok (.invokevirtual 34, 3) := by decide +kernel
theorem dL_locks_210 : decode cL_locks 210 = .ok (.ifCond .ne 122, 3) := by decide +kernel
theorem dL_locks_213 : decode cL_locks 213 = .ok (.aload_n 0, 1) := by decide +kernel
theorem dL_locks_214 : decode cL_locks 214 = .ok (.invokevirtual 72, 3) := by decide +kernel
theorem dL_locks_217 : decode cL_locks 217 = .ok (.ldc 109, 2) := by decide +kernel
theorem dL_locks_219 : decode cL_locks 219 = .ok (.if_icmp .ne 113, 3) := by decide +kernel
theorem dL_locks_222 : decode cL_locks 222 = .ok (.aload_n 0, 1) := by decide +kernel
theorem dL_locks_223 : decode cL_locks 223 = .ok (.bipush 7, 2) := by decide +kernel
theorem dL_locks_225 : decode cL_locks 225 = .ok (.invokevirtual 41, 3) := by decide +kernel
theorem dL_locks_228 : decode cL_locks 228 = .ok (.ifCond .eq 104, 3) := by decide +kernel
theorem dL_locks_231 : decode cL_locks 231 = .ok (.aload_n 0, 1) := by decide +kernel
theorem dL_locks_232 : decode cL_locks 232 = .ok (.bipush 7, 2) := by decide +kernel
theorem dL_locks_234 : decode cL_locks 234 = .ok (.bipush 7, 2) := by decide +kernel
theorem dL_locks_236 : decode cL_locks 236 = .ok (.iconst 0, 1) := by decide +kernel
theorem dL_locks_237 : decode cL_locks 237 = .ok (.invokestatic 86, 3) := by decide +kernel
theorem dL_locks_240 : decode cL_locks 240 = .ok (.bipush (-73), 2) := by decide +kernel
theorem dL_locks_242 : decode cL_locks 242 = .ok (.if_icmp .ne 90, 3) := by decide +kernel
theorem dL_locks_245 : decode cL_locks 245 = .ok (.aload_n 0, 1) := by decide +kernel
theorem dL_locks_246 : decode cL_locks 246 = .ok (.bipush 12, 2) := by decide +kernel
theorem dL_locks_248 : decode cL_locks 248 = .ok (.iconst 2, 1) := by decide +kernel
theorem dL_locks_249 : decode cL_locks 249 = .ok (.invokestatic 90, 3) := by decide +kernel
theorem dL_locks_252 : decode cL_locks 252 = .ok (.ifCond .ne 80, 3) := by decide +kernel
theorem dL_locks_255 : decode cL_locks 255 = .ok (.aload_n 0, 1) := by decide +kernel
theorem dL_locks_256 : decode cL_locks 256 = .ok (.iconst 1, 1) := by decide +kernel
theorem dL_locks_257 : decode cL_locks 257 = .ok (.invokevirtual 41, 3) := by decide +kernel
theorem dL_locks_260 : decode cL_locks 260 = .ok (.ifCond .ne 72, 3) := by decide +kernel
theorem dL_locks_263 : decode cL_locks 263 = .ok (.aload_n 0, 1) := by decide +kernel
theorem dL_locks_264 : decode cL_locks 264 = .ok (.invokevirtual 34, 3) := by decide +kernel
theorem dL_locks_267 : decode cL_locks 267 = .ok (.ifCond .ne 65, 3) := by decide +kernel
theorem dL_locks_270 : decode cL_locks 270 = .ok (.aload_n 0, 1) := by decide +kernel
theorem dL_locks_271 : decode cL_locks 271 = .ok (.iconst 2, 1) := by decide +kernel
theorem dL_locks_272 : decode cL_locks 272 = .ok (.invokevirtual 41, 3) := by decide +kernel
theorem dL_locks_275 : decode cL_locks 275 = .ok (.ifCond .ne 57, 3) := by decide +kernel
theorem dL_locks_278 : decode cL_locks 278 = .ok (.aload_n 0, 1) := by decide +kernel
theorem dL_locks_279 : decode cL_locks 279 = .ok (.iconst 1, 1) := by decide +kernel
theorem dL_locks_280 : decode cL_locks 280 = .ok (.invokevirtual 41, 3) := by decide +kernel
theorem dL_locks_283 : decode cL_locks 283 = .ok (.ifCond .ne 49, 3) := by decide +kernel
theorem dL_locks_286 : decode cL_locks 286 = .ok (.aload_n 0, 1) := by decide +kernel
theorem dL_locks_287 : decode cL_locks 287 = .ok (.iconst 2, 1) := by decide +kernel
theorem dL_locks_288 : decode cL_locks 288 = .ok (.invokevirtual 41, 3) := by decide +kernel
theorem dL_locks_291 : decode cL_locks 291 = .ok (.ifCond .eq 41, 3) := by decide +kernel
theorem dL_locks_294 : decode cL_locks 294 = .ok (.aload_n 0, 1) := by decide +kernel
theorem dL_locks_295 : decode cL_locks 295 = .ok (.invokevirtual 34, 3) := by decide +kernel
theorem dL_locks_298 : decode cL_locks 298 = .ok (.ifCond .ne 34, 3) := by decide +kernel
theorem dL_locks_301 : decode cL_locks 301 = .ok (.aload_n 0, 1) := by decide +kernel
theorem dL_locks_302 : decode cL_locks 302 = .ok (.invokevirtual 72, 3) := by decide +kernel
theorem dL_locks_305 : decode cL_locks 305 = .ok (.ldc 104, 2) := by decide +kernel
theorem dL_locks_307 : decode cL_locks 307 = .ok (.if_icmp .ne 25, 3) := by decide +kernel
theorem dL_locks_310 : decode cL_locks 310 = .ok (.aload_n 0, 1) := by decide +kernel
theorem dL_locks_311 : decode cL_locks 311 = .ok (.iconst 0, 1) := by decide +kernel
theorem dL_locks_312 : decode cL_locks 312 = .ok (.bipush 6, 2) := by decide +kernel
theorem dL_locks_314 : decode cL_locks 314 = .ok (.invokestatic 90, 3) := by decide +kernel
theorem dL_locks_317 : decode cL_locks 317 = .ok (.ifCond .ne 15, 3) := by decide +kernel
theorem dL_locks_320 : decode cL_locks 320 = .ok (.aload_n 0, 1) := by decide +kernel
theorem dL_locks_321 : decode cL_locks 321 = .ok (.iconst 0, 1) := by decide +kernel
theorem dL_locks_322 : decode cL_locks 322 = .ok (.bipush 6, 2) := by decide +kernel
theorem dL_locks_324 : decode cL_locks 324 = .ok (.invokestatic 90, 3) := by decide +kernel
theorem dL_locks_327 : decode cL_locks 327 = .ok (.bipush (-73), 2) := by decide +kernel
theorem dL_locks_329 : decode cL_locks 329 = .ok (.if_icmp .eq 5, 3) := by decide +kernel
theorem dL_locks_332 : decode cL_locks 332 = .ok (.iconst 0, 1) := by decide +kernel
theorem dL_locks_333 : decode cL_locks 333 = .ok (.ireturn, 1) := by decide +kernel
theorem dL_locks_334 : decode cL_locks 334 = .ok (.iconst 0, 1) := by decide +kernel
theorem dL_locks_335 : decode cL_locks 335 = .ok (.istore_n 1, 1) := by decide +kernel
theorem dL_locks_336 : decode cL_locks 336 = .ok (.iload_n 1, 1) := by decide +kernel
theorem dL_locks_337 : decode cL_locks 337 = .ok (.bipush 6, 2) := by decide +kernel
theorem dL_locks_339 : decode cL_locks 339 = .ok (.if_icmp .ge 29, 3) := by decide +kernel
theorem dL_locks_342 : decode cL_locks 342 = .ok (.aload_n 0, 1) := by decide +kernel
theorem dL_locks_343 : decode cL_locks 343 = .ok (.iconst 0, 1) := by decide +kernel
theorem dL_locks_344 : decode cL_locks 344 = .ok (.invokevirtual 41, 3) := by decide +kernel
theorem dL_locks_347 : decode cL_locks 347 = .ok (.iload_n 1, 1) := by decide +kernel
theorem dL_locks_348 : decode cL_locks 348 = .ok (.iconst 5, 1) := by decide +kernel
theorem dL_locks_349 : decode cL_locks 349 = .ok (.if_icmp .ne 7, 3) := by decide +kernel
theorem dL_locks_352 : decode cL_locks 352 = .ok (.iconst 1, 1) := by decide +kernel
theorem dL_locks_353 : decode cL_locks 353 = .ok (.goto 4, 3) := by decide +kernel
theorem dL_locks_356 : decode cL_locks 356 = .ok (.iconst 0, 1) := by decide +kernel
theorem dL_locks_357 : decode cL_locks 357 = .ok (.if_icmp .eq 5, 3) := by decide +kernel
theorem dL_locks_360 : decode cL_locks 360 = .ok (.iconst 0, 1) := by decide +kernel
theorem dL_locks_361 : decode cL_locks 361 = .ok (.ireturn, 1) := by decide +kernel
theorem dL_locks_362 : decode cL_locks 362 = .ok (.iinc 1 1, 3) := by decide +kernel
theorem dL_locks_365 : decode cL_locks 365 = .ok (.goto (-29), 3) := by decide +kernel
theorem dL_locks_368 : decode cL_locks 368 = .ok (.aload_n 0, 1) := by decide +kernel
theorem dL_locks_369 : decode cL_locks 369 = .ok (.ldc 111, 2) := by decide +kernel
theorem dL_locks_371 : decode cL_locks 371 = .ok (.bipush 6, 2) := by decide +kernel
theorem dL_locks_373 : decode cL_locks 373 = .ok (.invokestatic 90, 3) := by decide +kernel
theorem dL_locks_376 : decode cL_locks 376 = .ok (.ifCond .ne 11, 3) := by decide +kernel
theorem dL_locks_379 : decode cL_locks 379 = .ok (.aload_n 0, 1) := by decide +kernel
theorem dL_locks_380 : decode cL_locks 380 = .ok (.iconst 5, 1) := by decide +kernel
theorem dL_locks_381 : decode cL_locks 381 = .ok (.invokevirtual 41, 3) := by decide +kernel
theorem dL_locks_384 : decode cL_locks 384 = .ok (.ifCond .eq 5, 3) := by decide +kernel
theorem dL_locks_387 : decode cL_locks 387 = .ok (.iconst 0, 1) := by decide +kernel
theorem dL_locks_388 : decode cL_locks 388 = .ok (.ireturn, 1) := by decide +kernel
theorem dL_locks_389 : decode cL_locks 389 = .ok (.iconst 0, 1) := by decide +kernel
theorem dL_locks_390 : decode cL_locks 390 = .ok (.istore_n 1, 1) := by decide +kernel
theorem dL_locks_391 : decode cL_locks 391 = .ok (.iload_n 1, 1) := by decide +kernel
theorem dL_locks_392 : decode cL_locks 392 = .ok (.bipush 6, 2) := by decide +kernel
theorem dL_locks_394 : decode cL_locks 394 = .ok (.if_icmp .ge 30, 3) := by decide +kernel
theorem dL_locks_397 : decode cL_locks 397 = .ok (.aload_n 0, 1) := by decide +kernel
theorem dL_locks_398 : decode cL_locks 398 = .ok (.bipush 9, 2) := by decide +kernel
theorem dL_locks_400 : decode cL_locks 400 = .ok (.invokevirtual 41, 3) := by decide +kernel
theorem dL_locks_403 : decode cL_locks 403 = .ok (.iload_n 1, 1) := by decide +kernel
theorem dL_locks_404 : decode cL_locks 404 = .ok (.iconst 5, 1) := by decide +kernel
theorem dL_locks_405 : decode cL_locks 405 = .ok (.if_icmp .ne 7, 3) := by decide +kernel
theorem dL_locks_408 : decode cL_locks 408 = .ok (.iconst 1, 1) := by decide +kernel
theorem dL_locks_409 : decode cL_locks 409 = .ok (.goto 4, 3) := by decide +kernel
theorem dL_locks_412 : decode cL_locks 412 = .ok (.iconst 0, 1) := by decide +kernel
theorem dL_locks_413 : decode cL_locks 413 = .ok (.if_icmp .eq 5, 3) := by decide +kernel
theorem dL_locks_416 : decode cL_locks 416 = .ok (.iconst 0, 1) := by decide +kernel
theorem dL_locks_417 : decode cL_locks 417 = .ok (.ireturn, 1) := by decide +kernel
theorem dL_locks_418 : decode cL_locks 418 = .ok (.iinc 1 1, 3) := by decide +kernel
theorem dL_locks_421 : decode cL_locks 421 = .ok (.goto (-30), 3) := by decide +kernel
theorem dL_locks_424 : decode cL_locks 424 = .ok (.aload_n 0, 1) := by decide +kernel
theorem dL_locks_425 : decode cL_locks 425 = .ok (.iconst 3, 1) := by decide +kernel
theorem dL_locks_426 : decode cL_locks 426 = .ok (.iconst 1, 1) := by decide +kernel
theorem dL_locks_427 : decode cL_locks 427 = .ok (.invokestatic 90, 3) := by decide +kernel
theorem dL_locks_430 : decode cL_locks 430 = .ok (.ifCond .eq 5, 3) := by decide +kernel
theorem dL_locks_433 : decode cL_locks 433 = .ok (.iconst 0, 1) := by decide +kernel
theorem dL_locks_434 : decode cL_locks 434 = .ok (.ireturn, 1) := by decide +kernel
theorem dL_locks_435 : decode cL_locks 435 = .ok (.iconst 0, 1) := by decide +kernel
theorem dL_locks_436 : decode cL_locks 436 = .ok (.istore_n 1, 1) := by decide +kernel
theorem dL_locks_437 : decode cL_locks 437 = .ok (.iload_n 1, 1) := by decide +kernel
theorem dL_locks_438 : decode cL_locks 438 = .ok (.bipush 12, 2) := by decide +kernel
theorem dL_locks_440 : decode cL_locks 440 = .ok (.if_icmp .ge 40, 3) := by decide +kernel
theorem dL_locks_443 : decode cL_locks 443 = .ok (.aload_n 0, 1) := by decide +kernel
theorem dL_locks_444 : decode cL_locks 444 = .ok (.iload_n 1, 1) := by decide +kernel
theorem dL_locks_445 : decode cL_locks 445 = .ok (.bipush 11, 2) := by decide +kernel
theorem dL_locks_447 : decode cL_locks 447 = .ok (.if_icmp .ne 7, 3) := by decide +kernel
theorem dL_locks_450 : decode cL_locks 450 = .ok (.iconst 3, 1) := by decide +kernel
theorem dL_locks_451 : decode cL_locks 451 = .ok (.goto 4, 3) := by decide +kernel
theorem dL_locks_454 : decode cL_locks 454 = .ok (.iconst 4, 1) := by decide +kernel
theorem dL_locks_455 : decode cL_locks 455 = .ok (.invokevirtual 41, 3) := by decide +kernel
theorem dL_locks_458 : decode cL_locks 458 = .ok (.iload_n 1, 1) := by decide +kernel
theorem dL_locks_459 : decode cL_locks 459 = .ok (.bipush 11, 2) := by decide +kernel
theorem dL_locks_461 : decode cL_locks 461 = .ok (.if_icmp .ne 7, 3) := by decide +kernel
theorem dL_locks_464 : decode cL_locks 464 = .ok (.iconst 1, 1) := by decide +kernel
theorem dL_locks_465 : decode cL_locks 465 = .ok (.goto 4, 3) := by decide +kernel
theorem dL_locks_468 : decode cL_locks 468 = .ok (.iconst 0, 1) := by decide +kernel
theorem dL_locks_469 : decode cL_locks 469 = .ok (.if_icmp .eq 5, 3) := by decide +kernel
theorem dL_locks_472 : decode cL_locks 472 = .ok (.iconst 0, 1) := by decide +kernel
theorem dL_locks_473 : decode cL_locks 473 = .ok (.ireturn, 1) := by decide +kernel
theorem dL_locks_474 : decode cL_locks 474 = .ok (.iinc 1 1, 3) := by decide +kernel
theorem dL_locks_477 : decode cL_locks 477 = .ok (.goto (-40), 3) := by decide +kernel
theorem dL_locks_480 : decode cL_locks 480 = .ok (.aload_n 0, 1) := by decide +kernel
theorem dL_locks_481 : decode cL_locks 481 = .ok (.invokevirtual 75, 3) := by decide +kernel
theorem dL_locks_484 : decode cL_locks 484 = .ok (.ifCond .ne 16, 3) := by decide +kernel
theorem dL_locks_487 : decode cL_locks 487 = .ok (.aload_n 0, 1) := by decide +kernel
theorem dL_locks_488 : decode cL_locks 488 = .ok (.iconst 0, 1) := by decide +kernel
theorem dL_locks_489 : decode cL_locks 489 = .ok (.iconst 1, 1) := by decide +kernel
theorem dL_locks_490 : decode cL_locks 490 = .ok (.invokestatic 105, 3) := by decide +kernel
theorem dL_locks_493 : decode cL_locks 493 = .ok (.ifCond .eq 7, 3) := by decide +kernel
theorem dL_locks_496 : decode cL_locks 496 = .ok (.iconst 1, 1) := by decide +kernel
theorem dL_locks_497 : decode cL_locks 497 = .ok (.goto 4, 3) := by decide +kernel
theorem dL_locks_500 : decode cL_locks 500 = .ok (.iconst 0, 1) := by decide +kernel
theorem dL_locks_501 : decode cL_locks 501 = .ok (.ireturn, 1) := by decide +kernel
set_option maxRecDepth 200000 in
theorem ggL_law_L_starts : GoodIn wsL_law wsL_starts := goodIn_ca (goodIn_ca (goodIn_ca (goodIn_ca (goodIn_r _ [8, 0, 1, 2, 9, 10, 11, 12, 13, 14, 15, 16, 17, 18, 19, 20, 21, 22, 23, 24, 25, 26, 27, 28, 29, 30, 31, 32, 33, 34, 35, 36, 37, 38, 39, 40, 41, 42, 43, 44, 45, 46, 47, 48, 49, 50, 51, 52, 53, 54, 55, 56, 57, 58, 59, 60, 61, 62, 63, 64, 65, 66, 67, 68, 69, 70, 71, 72, 73, 74, 75, 76, 77, 78, 79, 80, 81, 82, 83, 84, 85, 86, 87, 88, 89, 90, 91, 92, 93, 94, 95, 96, 97, 98, 99, 100, 101, 102, 103, 104, 105, 106, 107, 108, 109, 110, 111, 112, 113, 114, 115, 116, 117, 118, 119, 120, 121, 7, 122, 123, 124, 125, 126, 127, 128, 129, 130, 131, 132, 133, 134, 135, 136, 137, 138, 139, 140, 141, 142, 143, 144, 145, 146, 147, 148, 149, 150, 151, 152, 153, 154, 155, 156, 157, 158, 159, 160, 161, 162, 163, 164, 165, 166, 167, 168, 169, 170, 171, 172, 173, 174, 175, 176, 177, 178, 179, 180, 181, 182, 183, 184, 185, 186, 187, 188, 189, 190, 191, 192, 193, 194, 195, 196, 197, 198, 199, 200, 201, 202, 203, 204, 205, 206, 207, 208, 209, 210, 211, 212, 213, 214, 215, 216, 217, 218, 219, 220, 221, 222, 223, 224, 225, 226, 227, 228, 229, 230, 231, 232, 233, 234, 235, 236, 237, 238, 239, 240, 241, 242, 243, 244, 245, 246, 247, 248, 249, 250, 251, 252, 253, 254, 255, 256, 257, 258, 259, 266, 267, 268, 269, 270, 271, 272, 273, 274, 275, 276, 277, 278, 279, 280, 281, 282, 283, 284, 285, 286, 287] rfl (by decide +kernel)) (goodIn_sub (fun _ h => List.mem_append_left _ (List.mem_append_left _ (List.mem_append_left _ (List.mem_append_right _ h)))) (by decide +kernel))) (goodIn_sub (fun _ h => List.mem_append_left _ (List.mem_append_left _ (List.mem_append_right _ h))) (by decide +kernel))) (goodIn_sub (fun _ h => List.mem_append_left _ (List.mem_append_right _ h)) (by decide +kernel))) (goodIn_sub (fun _ h => List.mem_append_right _ h) (by decide +kernel))
set_option maxRecDepth 20000 in
theorem gL_law_L_starts : GoodIn wsL_law (va_wsS RL 112 yL_starts wsL_starts) := goodIn_app (goodIn_of _ (by decide +kernel)) ggL_law_L_starts
set_option maxRecDepth 200000 in
theorem ggL_law_L_locks : GoodIn wsL_law wsL_locks := goodIn_ca (goodIn_ca (goodIn_ca (goodIn_ca (goodIn_r _ [262, 0, 1, 2, 9, 263, 12, 264, 265, 13, 14, 15, 16, 17, 18, 19, 20, 21, 22, 23, 24, 25, 26, 27, 28, 29, 30, 31, 32, 33, 34, 35, 36, 37, 38, 39, 40, 41, 42, 43, 44, 45, 46, 47, 48, 49, 50, 51, 52, 53, 223, 224, 225, 226, 140, 141, 146, 147, 227, 85, 86, 87, 228, 229, 230, 231, 232, 233, 234, 246, 247, 7, 248, 124, 125, 249, 250, 251, 252, 253, 254, 255, 142, 143, 144, 145, 256, 257, 258, 259, 184, 185, 186, 116, 117, 118, 119, 219, 220, 221, 222, 130, 131, 132, 133, 134, 135, 70, 71, 72, 73, 172, 173, 174, 175, 176, 177, 178, 179, 180, 238, 239, 240, 241, 242, 54, 55, 56, 57, 58, 59, 60, 61, 62, 63, 64, 65, 66, 67, 68, 69, 74, 75, 76, 77, 78, 79, 80, 81, 82, 83, 84, 88, 89, 90, 91, 92, 93, 94, 95, 96, 97, 98, 99, 100, 101, 102, 103, 104, 105, 106, 107, 112, 113, 114, 115, 243, 244, 245, 120, 121, 122, 123, 126, 127, 128, 129, 136, 137, 138, 139, 148, 149, 150, 151, 152, 153, 154, 155, 156, 157, 158, 159, 160, 161, 162, 163, 164, 165, 166, 167, 168, 169, 170, 171, 181, 182, 183, 187, 188, 189, 190, 191, 192, 193, 194, 195, 196, 197, 198, 199, 200, 201, 202, 203, 204, 205, 206, 207, 208, 209, 210, 211, 212, 213, 214, 215, 216, 217, 218, 266, 267, 268, 269, 270, 271, 272, 273, 274, 275, 276, 277, 278, 279, 280, 281, 282, 283, 284, 285, 286, 287] rfl (by decide +kernel)) (goodIn_sub (fun _ h => List.mem_append_left _ (List.mem_append_left _ (List.mem_append_right _ h))) (by decide +kernel))) (goodIn_sub (fun _ h => List.mem_append_left _ (List.mem_append_right _ h)) (by decide +kernel))) (goodIn_sub (fun _ h => List.mem_append_left _ (List.mem_append_left _ (List.mem_append_left _ (List.mem_append_right _ h)))) (by decide +kernel))) (goodIn_sub (fun _ h => List.mem_append_right _ h) (by decide +kernel))
set_option maxRecDepth 20000 in
theorem gL_law_L_locks : GoodIn wsL_law (va_wsS RL 115 yL_locks wsL_locks) := goodIn_app (goodIn_of _ (by decide +kernel)) ggL_law_L_locks
set_option maxRecDepth 200000 in
theorem ggL_law_X2_init : GoodIn wsL_law wsX2_init := goodIn_r _ [15, 16, 17, 18, 19, 20, 21, 22, 23, 24, 25, 26, 27, 28, 29, 30, 31, 32, 33, 34, 35, 36, 37, 38, 39, 40, 41, 42, 43, 44, 45, 46, 47, 48, 49, 50, 51, 52, 53, 266, 267, 268, 269, 270, 271, 272, 273, 274, 275, 276, 277, 278, 279, 280, 281, 282, 283, 284, 285, 286, 287] rfl (by decide +kernel)
set_option maxRecDepth 20000 in
theorem gL_law_X2_init : GoodIn wsL_law (wsX2_init) := ggL_law_X2_init
set_option maxRecDepth 200000 in
theorem ggL_law_X2_add : GoodIn wsL_law wsX2_add := goodIn_ca (goodIn_ca (goodIn_r _ [226, 140, 141, 146, 147, 227, 25, 85, 86, 2, 87, 228, 229, 230, 231, 20, 232, 33, 233, 234, 46, 47, 48, 49, 50, 51, 52, 53, 266, 267, 268, 269, 270, 271, 272, 273, 274, 280, 281, 282, 283, 284, 285, 286, 287] rfl (by decide +kernel)) (goodIn_sub (fun _ h => List.mem_append_left _ (List.mem_append_left _ (List.mem_append_right _ h))) (by decide +kernel))) (goodIn_sub (fun _ h => List.mem_append_left _ (List.mem_append_right _ h)) (by decide +kernel))
set_option maxRecDepth 20000 in
theorem gL_law_X2_add : GoodIn wsL_law (wsV RL 62 RX2 yX2_add wsX2_add) := goodIn_app (goodIn_of _ (by decide +kernel)) ggL_law_X2_add
set_option maxRecDepth 200000 in
theorem ggL_law_X2_at : GoodIn wsL_law wsX2_at := goodIn_ca (goodIn_r _ [206, 134, 135, 100, 101, 102, 2, 103, 20, 104, 105, 106, 107, 88, 33, 89, 90, 48, 49, 47, 91, 74, 75, 76, 53, 92, 93, 94, 95, 50, 51, 96, 97, 98, 99, 280, 281, 282, 283, 284, 285, 286, 287, 266, 267, 268, 269, 270, 271, 272, 273, 274] rfl (by decide +kernel)) (goodIn_sub (fun _ h => List.mem_append_left _ (List.mem_append_left _ (List.mem_append_left _ (List.mem_append_right _ h)))) (by decide +kernel))
set_option maxRecDepth 20000 in
theorem gL_law_X2_at : GoodIn wsL_law (wsV RL 45 RX2 yX2_at wsX2_at) := goodIn_app (goodIn_of _ (by decide +kernel)) ggL_law_X2_at
set_option maxRecDepth 200000 in
theorem ggL_law_X2_placeOf : GoodIn wsL_law wsX2_placeOf := goodIn_ca (goodIn_r _ [210, 130, 131, 132, 2, 133, 134, 135, 70, 71, 72, 73, 20, 104, 105, 106, 107, 88, 33, 89, 90, 48, 49, 47, 91, 74, 75, 76, 53, 92, 93, 94, 95, 50, 51, 96, 97, 98, 99, 266, 267, 268, 269, 270, 271, 272, 273, 274, 280, 281, 282, 283, 284, 285, 286, 287] rfl (by decide +kernel)) (goodIn_sub (fun _ h => List.mem_append_left _ (List.mem_append_left _ (List.mem_append_left _ (List.mem_append_right _ h)))) (by decide +kernel))
set_option maxRecDepth 20000 in
theorem gL_law_X2_placeOf : GoodIn wsL_law (wsV RL 48 RX2 yX2_placeOf wsX2_placeOf) := goodIn_app (goodIn_of _ (by decide +kernel)) ggL_law_X2_placeOf
set_option maxRecDepth 200000 in
theorem ggL_law_L_refuses : GoodIn wsL_law wsL_refuses := goodIn_ca (goodIn_ca (goodIn_ca (goodIn_ca (goodIn_r _ [240, 241, 242, 54, 55, 56, 2, 57, 58, 59, 60, 61, 20, 62, 63, 64, 65, 66, 67, 68, 69, 27, 26, 70, 71, 72, 73, 74, 33, 75, 76, 53, 77, 78, 79, 80, 81, 82, 83, 84, 28, 29, 85, 86, 87, 88, 89, 90, 48, 49, 47, 91, 92, 93, 94, 95, 50, 51, 96, 97, 98, 99, 100, 101, 102, 103, 104, 105, 106, 107, 112, 113, 114, 115, 31, 116, 117, 118, 119, 24, 243, 244, 7, 245, 124, 125, 223, 224, 225, 226, 140, 141, 146, 147, 227, 25, 228, 229, 230, 231, 232, 233, 234, 46, 52, 120, 121, 122, 123, 126, 127, 128, 129, 130, 131, 132, 133, 134, 135, 136, 137, 138, 139, 142, 143, 144, 145, 148, 149, 150, 151, 152, 153, 154, 155, 156, 157, 158, 159, 160, 161, 162, 163, 164, 165, 166, 167, 168, 169, 170, 171, 30, 172, 173, 174, 175, 176, 177, 178, 179, 180, 181, 182, 183, 184, 23, 185, 186, 42, 187, 188, 189, 190, 191, 192, 193, 194, 195, 196, 197, 198, 39, 38, 199, 200, 201, 202, 41, 40, 203, 204, 205, 206, 207, 208, 209, 210, 211, 212, 213, 214, 215, 216, 217, 218, 219, 220, 221, 222, 246, 247, 248, 249, 250, 251, 252, 253, 254, 255, 256, 257, 258, 259, 266, 267, 268, 269, 270, 271, 272, 273, 274, 280, 281, 282, 283, 284, 285, 286, 287, 275, 276, 277, 278, 279] rfl (by decide +kernel)) (goodIn_sub (fun _ h => List.mem_append_left _ (List.mem_append_left _ (List.mem_append_right _ h))) (by decide +kernel))) (goodIn_sub (fun _ h => List.mem_append_left _ (List.mem_append_right _ h)) (by decide +kernel))) (goodIn_sub (fun _ h => List.mem_append_left _ (List.mem_append_left _ (List.mem_append_left _ (List.mem_append_right _ h)))) (by decide +kernel))) (goodIn_sub (fun _ h => List.mem_append_right _ h) (by decide +kernel))
set_option maxRecDepth 20000 in
theorem gL_law_L_refuses : GoodIn wsL_law (va_wsS RL 105 yL_refuses wsL_refuses) := goodIn_app (goodIn_of _ (by decide +kernel)) ggL_law_L_refuses
set_option maxRecDepth 200000 in
theorem ggL_law_L_add : GoodIn wsL_law wsL_add := goodIn_ca (goodIn_ca (goodIn_r _ [245, 124, 125, 223, 224, 225, 2, 226, 140, 141, 146, 147, 227, 25, 85, 86, 87, 228, 229, 230, 231, 20, 232, 33, 233, 234, 46, 47, 48, 49, 50, 51, 52, 53, 266, 267, 268, 269, 270, 271, 272, 273, 274, 280, 281, 282, 283, 284, 285, 286, 287] rfl (by decide +kernel)) (goodIn_sub (fun _ h => List.mem_append_left _ (List.mem_append_left _ (List.mem_append_right _ h))) (by decide +kernel))) (goodIn_sub (fun _ h => List.mem_append_left _ (List.mem_append_right _ h)) (by decide +kernel))
set_option maxRecDepth 20000 in
theorem gL_law_L_add : GoodIn wsL_law (va_wsS RL 80 yL_add wsL_add) := goodIn_app (goodIn_of _ (by decide +kernel)) ggL_law_L_add
set_option maxRecDepth 200000 in
theorem ggL_law_X2_remove : GoodIn wsL_law wsX2_remove := goodIn_ca (goodIn_r _ [129, 130, 131, 132, 2, 133, 134, 135, 70, 71, 72, 73, 20, 58, 59, 60, 61, 280, 281, 282, 283, 284, 285, 286, 287, 266, 267, 268, 269, 270, 271, 272, 273, 274] rfl (by decide +kernel)) (goodIn_sub (fun _ h => List.mem_append_left _ (List.mem_append_left _ (List.mem_append_left _ (List.mem_append_right _ h)))) (by decide +kernel))
set_option maxRecDepth 20000 in
theorem gL_law_X2_remove : GoodIn wsL_law (wsV RL 17 RX2 yX2_remove wsX2_remove) := goodIn_app (goodIn_of _ (by decide +kernel)) ggL_law_X2_remove
set_option maxRecDepth 200000 in
theorem ggL_law_X2_entries : GoodIn wsL_law wsX2_entries := goodIn_r _ [57, 58, 59, 60, 2, 61, 20, 266, 267, 268, 269, 270, 271, 272, 273, 274, 280, 281, 282, 283, 284, 285, 286, 287] rfl (by decide +kernel)
set_option maxRecDepth 20000 in
theorem gL_law_X2_entries : GoodIn wsL_law (wsV RL 66 RX2 yX2_entries wsX2_entries) := goodIn_app (goodIn_of _ (by decide +kernel)) ggL_law_X2_entries
set_option maxRecDepth 200000 in
theorem ggL_law_X2_tries : GoodIn wsL_law wsX2_tries := goodIn_ca (goodIn_r _ [214, 130, 131, 132, 2, 133, 134, 135, 70, 71, 72, 73, 20, 280, 281, 282, 283, 284, 285, 286, 287, 266, 267, 268, 269, 270, 271, 272, 273, 274] rfl (by decide +kernel)) (goodIn_sub (fun _ h => List.mem_append_left _ (List.mem_append_left _ (List.mem_append_left _ (List.mem_append_right _ h)))) (by decide +kernel))
set_option maxRecDepth 20000 in
theorem gL_law_X2_tries : GoodIn wsL_law (wsV RL 51 RX2 yX2_tries wsX2_tries) := goodIn_app (goodIn_of _ (by decide +kernel)) ggL_law_X2_tries
theorem dL_law_0 : decode cL_law 0 = .ok (.invokestatic 112, 3) := by decide +kernel
theorem dL_law_3 : decode cL_law 3 = .ok (.ifCond .eq 9, 3) := by decide +kernel
theorem dL_law_6 : decode cL_law 6 = .ok (.invokestatic 115, 3) := by decide +kernel
theorem dL_law_9 : decode cL_law 9 = .ok (.ifCond .ne 5, 3) := by decide +kernel
theorem dL_law_12 : decode cL_law 12 = .ok (.iconst 0, 1) := by decide +kernel
theorem dL_law_13 : decode cL_law 13 = .ok (.ireturn, 1) := by decide +kernel
theorem dL_law_14 : decode cL_law 14 = .ok (.new 8, 3) := by decide +kernel
theorem dL_law_17 : decode cL_law 17 = .ok (.dup, 1) := by decide +kernel
theorem dL_law_18 : decode cL_law 18 = .ok (.invokespecial 93, 3) := by decide +kernel
theorem dL_law_21 : decode cL_law 21 = .ok (.astore_n 1, 1) := by decide +kernel
theorem dL_law_22 : decode cL_law 22 = .ok (.iconst 0, 1) := by decide +kernel
theorem dL_law_23 : decode cL_law 23 = .ok (.istore_n 2, 1) := by decide +kernel
theorem dL_law_24 : decode cL_law 24 = .ok (.iload_n 2, 1) := by decide +kernel
theorem dL_law_25 : decode cL_law 25 = .ok (.bipush 16, 2) := by decide +kernel
theorem dL_law_27 : decode cL_law 27 = .ok (.if_icmp .ge 93, 3) := by decide +kernel
theorem dL_law_30 : decode cL_law 30 = .ok (.aload_n 0, 1) := by decide +kernel
theorem dL_law_31 : decode cL_law 31 = .ok (.arraylength, 1) := by decide +kernel
theorem dL_law_32 : decode cL_law 32 = .ok (.ifCond .ne 10, 3) := by decide +kernel
theorem dL_law_35 : decode cL_law 35 = .ok (.bipush 43, 2) := by decide +kernel
theorem dL_law_37 : decode cL_law 37 = .ok (.iload_n 2, 1) := by decide +kernel
theorem dL_law_38 : decode cL_law 38 = .ok (.imul, 1) := by decide +kernel
theorem dL_law_39 : decode cL_law 39 = .ok (.goto 12, 3) := by decide +kernel
theorem dL_law_42 : decode cL_law 42 = .ok (.aload_n 0, 1) := by decide +kernel
theorem dL_law_43 : decode cL_law 43 = .ok (.iload_n 2, 1) := by decide +kernel
theorem dL_law_44 : decode cL_law 44 = .ok (.aload_n 0, 1) := by decide +kernel
theorem dL_law_45 : decode cL_law 45 = .ok (.arraylength, 1) := by decide +kernel
theorem dL_law_46 : decode cL_law 46 = .ok (.irem, 1) := by decide +kernel
theorem dL_law_47 : decode cL_law 47 = .ok (.iaload, 1) := by decide +kernel
theorem dL_law_48 : decode cL_law 48 = .ok (.bipush 7, 2) := by decide +kernel
theorem dL_law_50 : decode cL_law 50 = .ok (.iushr, 1) := by decide +kernel
theorem dL_law_51 : decode cL_law 51 = .ok (.istore_n 3, 1) := by decide +kernel
theorem dL_law_52 : decode cL_law 52 = .ok (.aload_n 1, 1) := by decide +kernel
theorem dL_law_53 : decode cL_law 53 = .ok (.iload_n 3, 1) := by decide +kernel
theorem dL_law_54 : decode cL_law 54 = .ok (.iconst 3, 1) := by decide +kernel
theorem dL_law_55 : decode cL_law 55 = .ok (.irem, 1) := by decide +kernel
theorem dL_law_56 : decode cL_law 56 = .ok (.iload_n 3, 1) := by decide +kernel
theorem dL_law_57 : decode cL_law 57 = .ok (.bipush 100, 2) := by decide +kernel
theorem dL_law_59 : decode cL_law 59 = .ok (.irem, 1) := by decide +kernel
theorem dL_law_60 : decode cL_law 60 = .ok (.iload_n 3, 1) := by decide +kernel
theorem dL_law_61 : decode cL_law 61 = .ok (.ldc 118, 2) := by decide +kernel
theorem dL_law_63 : decode cL_law 63 = .ok (.irem, 1) := by decide +kernel
theorem dL_law_64 : decode cL_law 64 = .ok (.iload_n 3, 1) := by decide +kernel
theorem dL_law_65 : decode cL_law 65 = .ok (.iconst 3, 1) := by decide +kernel
theorem dL_law_66 : decode cL_law 66 = .ok (.idiv, 1) := by decide +kernel
theorem dL_law_67 : decode cL_law 67 = .ok (.iconst 3, 1) := by decide +kernel
theorem dL_law_68 : decode cL_law 68 = .ok (.irem, 1) := by decide +kernel
theorem dL_law_69 : decode cL_law 69 = .ok (.iload_n 3, 1) := by decide +kernel
theorem dL_law_70 : decode cL_law 70 = .ok (.bipush 11, 2) := by decide +kernel
theorem dL_law_72 : decode cL_law 72 = .ok (.irem, 1) := by decide +kernel
theorem dL_law_73 : decode cL_law 73 = .ok (.iconst 1, 1) := by decide +kernel
theorem dL_law_74 : decode cL_law 74 = .ok (.isub, 1) := by decide +kernel
theorem dL_law_75 : decode cL_law 75 = .ok (.invokevirtual 62, 3) := by decide +kernel
theorem dL_law_78 : decode cL_law 78 = .ok (.iload_n 2, 1) := by decide +kernel
theorem dL_law_79 : decode cL_law 79 = .ok (.if_icmp .ne 33, 3) := by decide +kernel
theorem dL_law_82 : decode cL_law 82 = .ok (.aload_n 1, 1) := by decide +kernel
theorem dL_law_83 : decode cL_law 83 = .ok (.aload_n 1, 1) := by decide +kernel
theorem dL_law_84 : decode cL_law 84 = .ok (.iload_n 2, 1) := by decide +kernel
theorem dL_law_85 : decode cL_law 85 = .ok (.invokevirtual 45, 3) := by decide +kernel
theorem dL_law_88 : decode cL_law 88 = .ok (.invokevirtual 48, 3) := by decide +kernel
theorem dL_law_91 : decode cL_law 91 = .ok (.iload_n 2, 1) := by decide +kernel
theorem dL_law_92 : decode cL_law 92 = .ok (.if_icmp .ne 20, 3) := by decide +kernel
theorem dL_law_95 : decode cL_law 95 = .ok (.iload_n 2, 1) := by decide +kernel
theorem dL_law_96 : decode cL_law 96 = .ok (.iconst 5, 1) := by decide +kernel
theorem dL_law_97 : decode cL_law 97 = .ok (.irem, 1) := by decide +kernel
theorem dL_law_98 : decode cL_law 98 = .ok (.ifCond .ne 16, 3) := by decide +kernel
theorem dL_law_101 : decode cL_law 101 = .ok (.aload_n 1, 1) := by decide +kernel
theorem dL_law_102 : decode cL_law 102 = .ok (.iconst 0, 1) := by decide +kernel
theorem dL_law_103 : decode cL_law 103 = .ok (.iload_n 2, 1) := by decide +kernel
theorem dL_law_104 : decode cL_law 104 = .ok (.iconst 1, 1) := by decide +kernel
theorem dL_law_105 : decode cL_law 105 = .ok (.iadd, 1) := by decide +kernel
theorem dL_law_106 : decode cL_law 106 = .ok (.invokestatic 105, 3) := by decide +kernel
theorem dL_law_109 : decode cL_law 109 = .ok (.ifCond .ne 5, 3) := by decide +kernel
theorem dL_law_112 : decode cL_law 112 = .ok (.iconst 0, 1) := by decide +kernel
theorem dL_law_113 : decode cL_law 113 = .ok (.ireturn, 1) := by decide +kernel
theorem dL_law_114 : decode cL_law 114 = .ok (.iinc 2 1, 3) := by decide +kernel
theorem dL_law_117 : decode cL_law 117 = .ok (.goto (-93), 3) := by decide +kernel
theorem dL_law_120 : decode cL_law 120 = .ok (.aload_n 1, 1) := by decide +kernel
theorem dL_law_121 : decode cL_law 121 = .ok (.iconst 0, 1) := by decide +kernel
theorem dL_law_122 : decode cL_law 122 = .ok (.iconst 0, 1) := by decide +kernel
theorem dL_law_123 : decode cL_law 123 = .ok (.iconst 0, 1) := by decide +kernel
theorem dL_law_124 : decode cL_law 124 = .ok (.iconst 0, 1) := by decide +kernel
theorem dL_law_125 : decode cL_law 125 = .ok (.iconst 0, 1) := by decide +kernel
theorem dL_law_126 : decode cL_law 126 = .ok (.invokestatic 80, 3) := by decide +kernel
theorem dL_law_129 : decode cL_law 129 = .ok (.bipush (-73), 2) := by decide +kernel
theorem dL_law_131 : decode cL_law 131 = .ok (.if_icmp .eq 5, 3) := by decide +kernel
theorem dL_law_134 : decode cL_law 134 = .ok (.iconst 0, 1) := by decide +kernel
theorem dL_law_135 : decode cL_law 135 = .ok (.ireturn, 1) := by decide +kernel
theorem dL_law_136 : decode cL_law 136 = .ok (.bipush 16, 2) := by decide +kernel
theorem dL_law_138 : decode cL_law 138 = .ok (.istore_n 2, 1) := by decide +kernel
theorem dL_law_139 : decode cL_law 139 = .ok (.iload_n 2, 1) := by decide +kernel
theorem dL_law_140 : decode cL_law 140 = .ok (.bipush 61, 2) := by decide +kernel
theorem dL_law_142 : decode cL_law 142 = .ok (.if_icmp .ge 51, 3) := by decide +kernel
theorem dL_law_145 : decode cL_law 145 = .ok (.aload_n 1, 1) := by decide +kernel
theorem dL_law_146 : decode cL_law 146 = .ok (.iload_n 2, 1) := by decide +kernel
theorem dL_law_147 : decode cL_law 147 = .ok (.bipush 16, 2) := by decide +kernel
theorem dL_law_149 : decode cL_law 149 = .ok (.isub, 1) := by decide +kernel
theorem dL_law_150 : decode cL_law 150 = .ok (.invokevirtual 17, 3) := by decide +kernel
theorem dL_law_153 : decode cL_law 153 = .ok (.bipush 15, 2) := by decide +kernel
theorem dL_law_155 : decode cL_law 155 = .ok (.if_icmp .ne 30, 3) := by decide +kernel
theorem dL_law_158 : decode cL_law 158 = .ok (.aload_n 1, 1) := by decide +kernel
theorem dL_law_159 : decode cL_law 159 = .ok (.iconst 2, 1) := by decide +kernel
theorem dL_law_160 : decode cL_law 160 = .ok (.bipush 99, 2) := by decide +kernel
theorem dL_law_162 : decode cL_law 162 = .ok (.ldc 119, 2) := by decide +kernel
theorem dL_law_164 : decode cL_law 164 = .ok (.iconst 2, 1) := by decide +kernel
theorem dL_law_165 : decode cL_law 165 = .ok (.bipush 9, 2) := by decide +kernel
theorem dL_law_167 : decode cL_law 167 = .ok (.invokestatic 80, 3) := by decide +kernel
theorem dL_law_170 : decode cL_law 170 = .ok (.iload_n 2, 1) := by decide +kernel
theorem dL_law_171 : decode cL_law 171 = .ok (.bipush 60, 2) := by decide +kernel
theorem dL_law_173 : decode cL_law 173 = .ok (.if_icmp .ge 7, 3) := by decide +kernel
theorem dL_law_176 : decode cL_law 176 = .ok (.iload_n 2, 1) := by decide +kernel
theorem dL_law_177 : decode cL_law 177 = .ok (.goto 5, 3) := by decide +kernel
theorem dL_law_180 : decode cL_law 180 = .ok (.bipush (-73), 2) := by decide +kernel
theorem dL_law_182 : decode cL_law 182 = .ok (.if_icmp .eq 5, 3) := by decide +kernel
theorem dL_law_185 : decode cL_law 185 = .ok (.iconst 0, 1) := by decide +kernel
theorem dL_law_186 : decode cL_law 186 = .ok (.ireturn, 1) := by decide +kernel
theorem dL_law_187 : decode cL_law 187 = .ok (.iinc 2 1, 3) := by decide +kernel
theorem dL_law_190 : decode cL_law 190 = .ok (.goto (-51), 3) := by decide +kernel
theorem dL_law_193 : decode cL_law 193 = .ok (.aload_n 1, 1) := by decide +kernel
theorem dL_law_194 : decode cL_law 194 = .ok (.invokevirtual 66, 3) := by decide +kernel
theorem dL_law_197 : decode cL_law 197 = .ok (.bipush 15, 2) := by decide +kernel
theorem dL_law_199 : decode cL_law 199 = .ok (.if_icmp .ne 50, 3) := by decide +kernel
theorem dL_law_202 : decode cL_law 202 = .ok (.aload_n 1, 1) := by decide +kernel
theorem dL_law_203 : decode cL_law 203 = .ok (.bipush 59, 2) := by decide +kernel
theorem dL_law_205 : decode cL_law 205 = .ok (.invokevirtual 51, 3) := by decide +kernel
theorem dL_law_208 : decode cL_law 208 = .ok (.bipush 9, 2) := by decide +kernel
theorem dL_law_210 : decode cL_law 210 = .ok (.if_icmp .ne 39, 3) := by decide +kernel
theorem dL_law_213 : decode cL_law 213 = .ok (.aload_n 1, 1) := by decide +kernel
theorem dL_law_214 : decode cL_law 214 = .ok (.iconst 0, 1) := by decide +kernel
theorem dL_law_215 : decode cL_law 215 = .ok (.invokevirtual 45, 3) := by decide +kernel
theorem dL_law_218 : decode cL_law 218 = .ok (.bipush 45, 2) := by decide +kernel
theorem dL_law_220 : decode cL_law 220 = .ok (.if_icmp .lt 29, 3) := by decide +kernel
theorem dL_law_223 : decode cL_law 223 = .ok (.aload_n 1, 1) := by decide +kernel
theorem dL_law_224 : decode cL_law 224 = .ok (.bipush 59, 2) := by decide +kernel
theorem dL_law_226 : decode cL_law 226 = .ok (.bipush 60, 2) := by decide +kernel
theorem dL_law_228 : decode cL_law 228 = .ok (.invokestatic 105, 3) := by decide +kernel
theorem dL_law_231 : decode cL_law 231 = .ok (.ifCond .eq 18, 3) := by decide +kernel
theorem dL_law_234 : decode cL_law 234 = .ok (.aload_n 1, 1) := by decide +kernel
theorem dL_law_235 : decode cL_law 235 = .ok (.bipush 45, 2) := by decide +kernel
theorem dL_law_237 : decode cL_law 237 = .ok (.bipush 44, 2) := by decide +kernel
theorem dL_law_239 : decode cL_law 239 = .ok (.invokestatic 105, 3) := by decide +kernel
theorem dL_law_242 : decode cL_law 242 = .ok (.ifCond .eq 7, 3) := by decide +kernel
theorem dL_law_245 : decode cL_law 245 = .ok (.iconst 1, 1) := by decide +kernel
theorem dL_law_246 : decode cL_law 246 = .ok (.goto 4, 3) := by decide +kernel
theorem dL_law_249 : decode cL_law 249 = .ok (.iconst 0, 1) := by decide +kernel
theorem dL_law_250 : decode cL_law 250 = .ok (.ireturn, 1) := by decide +kernel
end
section
/-! THE STATE. Geometry g: (class ids, slots), class ids of arrays (0 int, 2 Entry), addresses: 0 the chooser, 1 its rows, 2 its lock, 3 the lock's digits, 13 + j the entries; 40 the heap's size at the law's start. The chooser's value: (its numbers, the entries' fields, the lock's numbers, the digits). Mg and the long row are left from the claim over the reference: nothing is said of them here. -/
abbrev Ge : Type := (Nat → ClassId) × (Nat → Nat → Nat) × (Nat → ClassId) × (Nat → Nat)
abbrev gD (g : Ge) : va_G := (g.1, g.2.1)
abbrev gC (g : Ge) (k : Nat) : ClassId := g.2.2.1 k
abbrev gA (g : Ge) (k : Nat) : Nat := g.2.2.2 k
abbrev Sg : Type := (Nat → Int32) × (Nat → Nat → Int32) × (Nat → Int32) × (Nat → Int32)
abbrev Mg : Type := (Nat → Int32) × (Nat → Nat → Int32)
abbrev tyW (g : Ge) : List (ClassId × FieldType) := [(gC g 0, .int), (gC g 2, .object "BootChooser$Entry")]
abbrev fB (g : Ge) (B : Nat → Int32) : List Value := [.ref (gA g 1), .ref (gA g 2), .int (B 0), .int (B 1), .int (B 2), .int (B 3), .int (B 4), .int (B 5), .int (B 6)]
abbrev fE (E : Nat → Int32) : List Value := [.int (E 0), .int (E 1), .int (E 2), .int (E 3), .int (E 4), .int (E 5), .int (E 6), .int (E 7)]
abbrev fK (g : Ge) (K : Nat → Int32) : List Value := [.ref (gA g 3), .int (K 0), .int (K 1), .int (K 2), .int (K 3)]
abbrev wFix (g : Ge) (σ : Sg) (_ : Mg) (_ : Nat → Int64) : va_W :=
  [(gA g 0, .inr (2, fB g σ.1)), (gA g 1, .inl (gC g 2, 16, .inr (.inr (.inr (.inr (fun j => some (gA g (13 + j)))))))), (gA g 2, .inr (0, fK g σ.2.2.1)), (gA g 3, .inl (gC g 0, 12, .inl σ.2.2.2))]
abbrev wEnt (g : Ge) (E : Nat → Nat → Int32) : va_W := (List.range 16).map (fun j => (gA g (13 + j), .inr (1, fE (E j))))
def wWd (g : Ge) (σ : Sg) (μ : Mg) (o : Nat → Int64) : va_W := wFix g σ μ o ++ wEnt g σ.2.1
def Az (g : Ge) : Nat → Prop := fun q => gA g 40 ≤ q
def Wd (g : Ge) (σ : Sg) (μ : Mg) (o : Nat → Int64) (H : Heap) : Prop := va_P (gD g) vwCl (wWd g σ μ o) H ∧ va_D (Az g) (wWd g σ μ o)
def up2 (f : Nat → Nat → Int32) (j : Nat) (x : Nat → Int32) : Nat → Nat → Int32 := fun i => if i = j then x else f i
theorem up2_s {f : Nat → Nat → Int32} {j : Nat} {x : Nat → Int32} : up2 f j x j = x := by simp [up2]
theorem up2_n {f : Nat → Nat → Int32} {j i : Nat} {x : Nat → Int32} (h : i ≠ j) : up2 f j x i = f i := by simp [up2, h]
theorem wWd_ent (g : Ge) (σ : Sg) (μ : Mg) (o : Nat → Int64) {j : Nat} (hj : j < 16) : (wWd g σ μ o)[4 + j]? = some (gA g (13 + j), .inr (1, fE (σ.2.1 j))) := by
  unfold wWd
  rw [List.getElem?_append_right (by show 4 ≤ 4 + j; omega)]
  show (wEnt g σ.2.1)[4 + j - 4]? = _
  rw [Nat.add_sub_cancel_left, List.getElem?_map, List.getElem?_range hj]
  rfl
theorem wWd_setE (g : Ge) (σ : Sg) (μ : Mg) (o : Nat → Int64) {j : Nat} (hj : j < 16) (e : Nat → Int32) : (wWd g σ μ o).set (4 + j) (gA g (13 + j), .inr (1, fE e)) = wWd g (σ.1, up2 σ.2.1 j e, σ.2.2) μ o := by
  apply List.ext_getElem?
  intro i
  by_cases h : i < 4
  · rw [List.getElem?_set_ne (by omega)]
    unfold wWd
    rw [List.getElem?_append_left (by exact h), List.getElem?_append_left (by exact h)]
  · obtain ⟨n, rfl⟩ : ∃ n, i = 4 + n := ⟨i - 4, by omega⟩
    by_cases hn : n = j
    · subst hn
      rw [List.getElem?_set_self (List.getElem?_eq_some_iff.mp (wWd_ent g σ μ o hj)).1, wWd_ent _ _ _ _ hj]
      show _ = some (gA g (13 + n), (Sum.inr (1, fE (up2 σ.2.1 n e n)) : va_E))
      rw [up2_s]
    · rw [List.getElem?_set_ne (by omega)]
      by_cases h16 : n < 16
      · rw [wWd_ent _ _ _ _ h16, wWd_ent _ _ _ _ h16]
        show _ = some (gA g (13 + n), (Sum.inr (1, fE (up2 σ.2.1 j e n)) : va_E))
        rw [up2_n hn]
      · rw [List.getElem?_eq_none (by simp [wWd]; omega), List.getElem?_eq_none (by simp [wWd]; omega)]
/-! ===== what the tables say beside the methods' own words: nest mates, strings, casts ===== -/
def isNest (w : Cond) : Bool := match w with
  | .fieldLinkNest _ _ _ _ _ _ => true
  | .methodLinkNest _ _ _ _ => true
  | _ => false
def tbL : List Cond := [.fieldLinkNest RX2 145 "BootChooser$CodeLock" "isClosed" "Z" "BootChooser", .fieldLinkNest RX2 79 "BootChooser$Entry" "isThere" "Z" "BootChooser", .fieldLinkNest RX2 72 "BootChooser$Entry" "number" "I" "BootChooser", .fieldLinkNest RX2 187 "BootChooser$Entry" "kind" "I" "BootChooser", .fieldLinkNest RX2 170 "BootChooser$Entry" "name" "I" "BootChooser", .fieldLinkNest RX2 190 "BootChooser$Entry" "version" "I" "BootChooser", .fieldLinkNest RX2 194 "BootChooser$Entry" "mark" "I" "BootChooser", .fieldLinkNest RX2 92 "BootChooser$Entry" "option" "I" "BootChooser", .fieldLinkNest RX2 124 "BootChooser$Entry" "triesLeft" "I" "BootChooser",
  .methodLinkNest RX2 17 yX0_init "BootChooser", .methodLinkNest RX2 44 yX1_init "BootChooser", .methodLinkNest RX2 176 yX1_isBad "BootChooser", .methodLinkNest RX2 173 yX1_isAheadOf "BootChooser", .methodLinkNest RX2 68 yX1_fill "BootChooser", .methodLinkNest RX2 113 yX1_useTry "BootChooser", .methodLinkNest RX2 116 yX0_forgetDigits "BootChooser", .methodLinkNest RX2 135 yX0_close "BootChooser", .methodLinkNest RX2 141 yX0_takeDigit "BootChooser", .methodLinkNest RX2 159 yX1_compareVersion "BootChooser"]
def sbL : List (String × Nat × String) := [(RX2, 52, "kind, name, version or mark is out of range"), (RX2, 57, "tries is out of range"), (RX2, 65, "there is no room for an entry"), (RX2, 162, "there is no such entry"), (RX2, 87, "option is out of range"), (RX2, 164, "the chooser is locked"), (RX2, 99, "from or to is out of range"), (RX2, 107, "there are no entries"), (RX2, 119, "nothing runs"), (RX2, 127, "many is out of range"), (RX2, 133, "code is below 0 or has more digits"), (RX2, 139, "digit is out of range"), (RX0, 34, "it is not locked, or too many digits were entered"), (RX2, 153, "there are not so many entries")]
abbrev xIA : String := "java/lang/IllegalArgumentException"
abbrev xIS : String := "java/lang/IllegalStateException"
abbrev xIO : String := "java/lang/IndexOutOfBoundsException"
def exL : List String := [xIA, xIS, xIO]
/-- the words of a throw that no method's own list carries -/
def xwB (E : String) : List Cond := [.castable E E, .declares (Bundle.initS "java/lang/RuntimeException"), .declares (Bundle.initS "java/lang/Exception"), .declares (Bundle.initS Bundle.tN)]
def xwL : List Cond := xwB xIA ++ xwB xIS ++ xwB xIO
def isXw (w : Cond) : Bool := match w with
  | .castable _ _ => true
  | .declares _ => true
  | _ => false
def ncL : List (String × String) := [(xIS, xIA), (xIO, xIA), (xIA, xIS), (xIO, xIS), (xIA, xIO), (xIS, xIO)]
def TB (U : State) : Prop := (∀ w ∈ tbL, va_Nw w U) ∧ (∀ q ∈ sbL, ∃ sa : Nat, vk_R q.1 q.2.1 q.2.2 sa U) ∧ (∀ w ∈ xwL, va_Nw w U) ∧ ∀ q ∈ ncL, va_Nc q.1 q.2 U
theorem nest_warm {w : Cond} (h : isNest w = true) {s U : State} (hW : s.WarmedH U.vm) (hZ : va_Nw w s) : va_Nw w U := by
  cases w <;> first | exact va_Nw.warmF hW hZ | exact va_Nw.warmM hW hZ | (simp [isNest] at h)
theorem xw_warm {w : Cond} (h : isXw w = true) {s U : State} (hvm : s.vm.Alike U.vm) (hZ : va_Nw w s) : va_Nw w U := by
  cases w <;> first
    | exact va_tabs rfl (rfl : (s.setVm U.vm).vm = U.vm) (by rw [Cond.castable_setVm (args := #[]) hvm]; exact hZ)
    | exact va_tabs rfl (rfl : (s.setVm U.vm).vm = U.vm) (by rw [Cond.declares_setVm (args := #[]) hvm]; exact hZ)
    | (simp [isXw] at h)
theorem TB.warm {s U : State} (hW : s.WarmedH U.vm) (h : TB s) : TB U := by
  obtain ⟨h1, h2, h3, h4⟩ := h
  refine ⟨fun w hw => nest_warm (List.all_eq_true.mp (show tbL.all isNest = true by decide +kernel) w hw) hW (h1 w hw), fun q hq => ?_, fun w hw => xw_warm (List.all_eq_true.mp (show xwL.all isXw = true by decide +kernel) w hw) hW.alike (h3 w hw), fun q hq => (h4 q hq).moved hW.alike⟩
  obtain ⟨sa, h⟩ := h2 q hq
  exact ⟨sa, vk_R.warm hW h⟩
theorem TB.same {s U : State} (hvm : U.vm = s.vm) (h : TB s) : TB U := by
  obtain ⟨h1, h2, h3, h4⟩ := h
  have ha : s.vm.Alike U.vm := by rw [hvm]; exact Vm.Alike.refl _
  refine ⟨fun w hw => ?_, fun q hq => ?_, fun w hw => xw_warm (List.all_eq_true.mp (show xwL.all isXw = true by decide +kernel) w hw) ha (h3 w hw), fun q hq => (h4 q hq).moved ha⟩
  · have hn := List.all_eq_true.mp (show tbL.all isNest = true by decide +kernel) w hw
    have h0 := h1 w hw
    cases w <;> first | exact va_Nw.same rfl hvm.symm h0 | (simp [isNest] at hn)
  · obtain ⟨sa, h⟩ := h2 q hq
    exact ⟨sa, vk_R.same hvm h⟩
theorem TB.nest {w : Cond} {U : State} {args : Array Value} (h : TB U) (hw : w ∈ tbL) (ho : w.onTables = true) : w.before args U = true := va_Nw.use ho (h.1 w hw)
/-- the surroundings: the classes, the tables, the two statics that a throw reads -/
def cx (g : Ge) (U : State) (H : Heap) : Prop := va_K (gD g) vwCl (tyW g) U ∧ TB U ∧ (vx_Zq Bundle.tN "UNASSIGNED_STACK" Bundle.steD (Az g) U H ∧ vx_Zq Bundle.tN "SUPPRESSED_SENTINEL" Bundle.listD (Az g) U H) ∧ gA g 40 ≤ H.size
theorem cx.at {g : Ge} {s : State} {H0 H : Heap} {locs : List Loc} (h : cx g s H0) (hS : va_S (Az g) H0 H locs) : cx g s H :=
  ⟨h.1, h.2.1, ⟨h.2.2.1.1.kept hS.2.1, h.2.2.1.2.kept hS.2.1⟩, Nat.le_trans h.2.2.2 hS.1⟩
theorem cx.warm {g : Ge} {s U : State} {H : Heap} (hW : s.WarmedH U.vm) (h : cx g s H) : cx g U H :=
  ⟨va_K.moved hW.alike h.1, h.2.1.warm hW, ⟨h.2.2.1.1.moved hW.alike, h.2.2.1.2.moved hW.alike⟩, h.2.2.2⟩
theorem cx.same {g : Ge} {s U : State} {H : Heap} (hvm : U.vm = s.vm) (h : cx g s H) : cx g U H := by
  have ha : s.vm.Alike U.vm := by rw [hvm]; exact Vm.Alike.refl _
  exact ⟨va_K.moved ha h.1, h.2.1.same hvm, ⟨h.2.2.1.1.moved ha, h.2.2.1.2.moved ha⟩, h.2.2.2⟩
/-- a method's start -/
def PW (g : Ge) (σ : Sg) (μ : Mg) (o : Nat → Int64) (U : State) : Prop := cx g U U.heap ∧ Wd g σ μ o U.heap
theorem PW.at {g : Ge} {σ : Sg} {μ : Mg} {o : Nat → Int64} {s : State} {H : Heap} {locs : List Loc} (hC : cx g s s.heap) (hS : va_S (Az g) s.heap H locs) (hW : Wd g σ μ o H) (U : State) (hU : U.heap = H) (hw : s.WarmedH U.vm) : PW g σ μ o U := by
  refine ⟨?_, ?_⟩
  · rw [hU]; exact (hC.at hS).warm hw
  · rw [hU]; exact hW
theorem PW.blind {av : List Value} {g : Ge} {σ : Sg} {μ : Mg} {o : Nat → Int64} : FrameBlind (va_Pc av (PW g σ μ o)) := fun a U gg mk q => ⟨q.1, ⟨cx.same (s := U) (H := U.heap) rfl q.2.1, q.2.2⟩⟩
/-- a method that needs nothing of the heap -/
def P0 (_ : State) : Prop := True
theorem P0.blind {av : List Value} : FrameBlind (va_Pc av P0) := fun _ _ _ _ q => ⟨q.1, trivial⟩
theorem Az_up {g : Ge} {s : State} {H : Heap} (h : cx g s H) : ∀ q, H.size ≤ q → Az g q := fun q hq => Nat.le_trans h.2.2.2 hq
theorem cast_w {U : State} (h : TB U) {E : String} (hE : ∀ w ∈ xwB E, w ∈ xwL) {args : Array Value} : ∀ w ∈ xwB E, w.before args U = true := by
  intro w hw
  refine va_Nw.use ?_ (h.2.2.1 w (hE w hw))
  have := List.all_eq_true.mp (show (xwL.all fun w => w.onTables) = true by decide +kernel) w (hE w hw)
  exact this
theorem optc (r : Option Nat) : r = none ∨ ∃ j, r = some j := by
  cases r with
  | none => exact Or.inl rfl
  | some j => exact Or.inr ⟨j, rfl⟩
/-- booleans -/
def bI (b : Bool) : Int32 := if b then 1 else 0
theorem bI_t : bI true = 1 := rfl
theorem bI_f : bI false = 0 := rfl
theorem bI_0 {b : Bool} : bI b = 0 ↔ b = false := by cases b <;> simp [bI]
end
section
section RW3
variable {p : Program} {l : Launch} {e : Env} {R : Room} {s : State} {m : MethodId} {args : Array Value} {below : List Frame} {meth : Method} {c : Code} {H : Heap} {locs : List Loc} {cells slots : Nat} {Q : State → Prop}
variable {cc : ByteArray} {pc : Nat} {ls : Array Slot} {rest : List Value} {g : Ge} {σ : Sg} {μ : Mg} {o : Nat → Int64} {Ts : List Cond} {index : Nat} {v : Value} {H0 : Heap}
/-! reads: a field of the chooser by itself, of an entry by itself and by the chooser, of the lock by itself and by the chooser, of the model by itself -/
theorem gB (hx : p.tables.exec = Jvm.exec) (hb : c.code = cc) (hts : ∀ w ∈ Ts, w.before args s = true) (hin : ∀ w ∈ wsX20, w ∈ Ts) (hown : s.vm.findClass RX2 = some m.cls) (hC : cx g s H0) (hW : Wd g σ μ o H) (k : Nat) (hk : k < 9) (hl : (Cond.fieldLink RX2 index "BootChooser" (TX2 k).2.1 (TX2 k).2.2.1) ∈ Ts) (h0 : (TX2 k).1 = "BootChooser") (hv : (fB g σ.1)[k]? = some v) (d : decode cc pc = .ok (.getfield index, 3))
    (kk : W p l e R s m args below meth c H locs cells slots Q (F0 m (pc + 3) ls (v :: rest))) : W p l e R s m args below meth c H locs cells slots Q (F0 m pc ls (.ref (gA g 0) :: rest)) :=
  va_get (D := gD g) (ci := 2) (v := v) (C := RX2) (T := TX2) (N := 9) hx hb hts hin hown hC.1 hW.1 0 rfl rfl k hk (hts _ hl) (fun _ h9 => by rw [h0] at h9; exact h9) hv d kk
theorem gE (hx : p.tables.exec = Jvm.exec) (hb : c.code = cc) (hts : ∀ w ∈ Ts, w.before args s = true) (hin : ∀ w ∈ wsX10, w ∈ Ts) (hown : s.vm.findClass RX1 = some m.cls) (hC : cx g s H0) (hW : Wd g σ μ o H) {j : Nat} (hj : j < 16) (k : Nat) (hk : k < 8) (hl : (Cond.fieldLink RX1 index "BootChooser$Entry" (TX1 k).2.1 (TX1 k).2.2.1) ∈ Ts) (h0 : (TX1 k).1 = "BootChooser$Entry") (hv : (fE (σ.2.1 j))[k]? = some v) (d : decode cc pc = .ok (.getfield index, 3))
    (kk : W p l e R s m args below meth c H locs cells slots Q (F0 m (pc + 3) ls (v :: rest))) : W p l e R s m args below meth c H locs cells slots Q (F0 m pc ls (.ref (gA g (13 + j)) :: rest)) :=
  va_get (D := gD g) (ci := 1) (v := v) (C := RX1) (T := TX1) (N := 8) hx hb hts hin hown hC.1 hW.1 (4 + j) (wWd_ent g σ μ o hj) rfl k hk (hts _ hl) (fun _ h9 => by rw [h0] at h9; exact h9) hv d kk
theorem gEn (hx : p.tables.exec = Jvm.exec) (hb : c.code = cc) (hts : ∀ w ∈ Ts, w.before args s = true) (hin : ∀ w ∈ wsX10, w ∈ Ts) (hown : s.vm.findClass RX2 = some m.cls) (hC : cx g s H0) (hW : Wd g σ μ o H) {j : Nat} (hj : j < 16) (k : Nat) (hk : k < 8) (hl : (Cond.fieldLinkNest RX2 index "BootChooser$Entry" (TX1 k).2.1 (TX1 k).2.2.1 "BootChooser") ∈ tbL) (h0 : (TX1 k).1 = "BootChooser$Entry") (hv : (fE (σ.2.1 j))[k]? = some v) (d : decode cc pc = .ok (.getfield index, 3))
    (kk : W p l e R s m args below meth c H locs cells slots Q (F0 m (pc + 3) ls (v :: rest))) : W p l e R s m args below meth c H locs cells slots Q (F0 m pc ls (.ref (gA g (13 + j)) :: rest)) :=
  va_getN (D := gD g) (ci := 1) (v := v) (C := RX1) (T := TX1) (N := 8) hx hb hts hin hown hC.1 hW.1 (4 + j) (wWd_ent g σ μ o hj) rfl k hk (hC.2.1.nest hl rfl) (fun _ h9 => by rw [h0] at h9; exact h9) hv d kk
theorem gL (hx : p.tables.exec = Jvm.exec) (hb : c.code = cc) (hts : ∀ w ∈ Ts, w.before args s = true) (hin : ∀ w ∈ wsX00, w ∈ Ts) (hown : s.vm.findClass RX0 = some m.cls) (hC : cx g s H0) (hW : Wd g σ μ o H) (k : Nat) (hk : k < 5) (hl : (Cond.fieldLink RX0 index "BootChooser$CodeLock" (TX0 k).2.1 (TX0 k).2.2.1) ∈ Ts) (h0 : (TX0 k).1 = "BootChooser$CodeLock") (hv : (fK g σ.2.2.1)[k]? = some v) (d : decode cc pc = .ok (.getfield index, 3))
    (kk : W p l e R s m args below meth c H locs cells slots Q (F0 m (pc + 3) ls (v :: rest))) : W p l e R s m args below meth c H locs cells slots Q (F0 m pc ls (.ref (gA g 2) :: rest)) :=
  va_get (D := gD g) (ci := 0) (v := v) (C := RX0) (T := TX0) (N := 5) hx hb hts hin hown hC.1 hW.1 2 rfl rfl k hk (hts _ hl) (fun _ h9 => by rw [h0] at h9; exact h9) hv d kk
theorem gLn (hx : p.tables.exec = Jvm.exec) (hb : c.code = cc) (hts : ∀ w ∈ Ts, w.before args s = true) (hin : ∀ w ∈ wsX00, w ∈ Ts) (hown : s.vm.findClass RX2 = some m.cls) (hC : cx g s H0) (hW : Wd g σ μ o H) (k : Nat) (hk : k < 5) (hl : (Cond.fieldLinkNest RX2 index "BootChooser$CodeLock" (TX0 k).2.1 (TX0 k).2.2.1 "BootChooser") ∈ tbL) (h0 : (TX0 k).1 = "BootChooser$CodeLock") (hv : (fK g σ.2.2.1)[k]? = some v) (d : decode cc pc = .ok (.getfield index, 3))
    (kk : W p l e R s m args below meth c H locs cells slots Q (F0 m (pc + 3) ls (v :: rest))) : W p l e R s m args below meth c H locs cells slots Q (F0 m pc ls (.ref (gA g 2) :: rest)) :=
  va_getN (D := gD g) (ci := 0) (v := v) (C := RX0) (T := TX0) (N := 5) hx hb hts hin hown hC.1 hW.1 2 rfl rfl k hk (hC.2.1.nest hl rfl) (fun _ h9 => by rw [h0] at h9; exact h9) hv d kk
/-! arrays -/
theorem rLen (hx : p.tables.exec = Jvm.exec) (hb : c.code = cc) (hC : cx g s H0) (hW : Wd g σ μ o H) (d : decode cc pc = .ok (.arraylength, 1))
    (kk : W p l e R s m args below meth c H locs cells slots Q (F0 m (pc + 1) ls (.int 16 :: rest))) : W p l e R s m args below meth c H locs cells slots Q (F0 m pc ls (.ref (gA g 1) :: rest)) :=
  va_alen hx hb hC.1 hW.1 1 1 rfl rfl (v := 16) rfl d kk
theorem rLd (hx : p.tables.exec = Jvm.exec) (hb : c.code = cc) (hC : cx g s H0) (hW : Wd g σ μ o H) {j : Nat} (hj : j < 16) (d : decode cc pc = .ok (.aaload, 1))
    (kk : W p l e R s m args below meth c H locs cells slots Q (F0 m (pc + 1) ls (.ref (gA g (13 + j)) :: rest))) : W p l e R s m args below meth c H locs cells slots Q (F0 m pc ls (.int (nI j) :: .ref (gA g 1) :: rest)) := by
  refine va_aldq hx hb hC.1 hW.1 1 1 rfl rfl (vp_in_nI hj (by omega)) d ?_
  rw [nI_clamp (by omega)]
  exact kk
theorem dLen (hx : p.tables.exec = Jvm.exec) (hb : c.code = cc) (hC : cx g s H0) (hW : Wd g σ μ o H) (d : decode cc pc = .ok (.arraylength, 1))
    (kk : W p l e R s m args below meth c H locs cells slots Q (F0 m (pc + 1) ls (.int 12 :: rest))) : W p l e R s m args below meth c H locs cells slots Q (F0 m pc ls (.ref (gA g 3) :: rest)) :=
  va_alen hx hb hC.1 hW.1 3 0 rfl rfl (v := 12) rfl d kk
theorem dLd (hx : p.tables.exec = Jvm.exec) (hb : c.code = cc) (hC : cx g s H0) (hW : Wd g σ μ o H) {j : Nat} (hj : j < 12) (d : decode cc pc = .ok (.iaload, 1))
    (kk : W p l e R s m args below meth c H locs cells slots Q (F0 m (pc + 1) ls (.int (σ.2.2.2 j) :: rest))) : W p l e R s m args below meth c H locs cells slots Q (F0 m pc ls (.int (nI j) :: .ref (gA g 3) :: rest)) := by
  refine va_iald hx hb hC.1 hW.1 3 0 rfl rfl (vp_in_nI hj (by omega)) d ?_
  rw [nI_clamp (by omega)]
  exact kk
theorem dStI {i : Int32} {j : Nat} (hi : i = nI j) (hx : p.tables.exec = Jvm.exec) (hb : c.code = cc) (hC : cx g s s.heap) (hS : va_S (Az g) s.heap H locs) (hW : Wd g σ μ o H) (hj : j < 12) (x : Int32) (d : decode cc pc = .ok (.iastore, 1))
    (kk : ∀ (H1 : Heap) (locs1 : List Loc), Wd g (σ.1, σ.2.1, σ.2.2.1, upd σ.2.2.2 j x) μ o H1 → va_S (Az g) s.heap H1 locs1 → W p l e R s m args below meth c H1 locs1 cells slots Q (F0 m (pc + 1) ls rest)) : W p l e R s m args below meth c H locs cells slots Q (F0 m pc ls (.int x :: .int i :: .ref (gA g 3) :: rest)) := by
  subst hi
  refine va_iast hx hb hC.1 hW.1 hW.2 hS 3 0 rfl rfl (vp_in_nI hj (by omega)) d (fun H1 locs1 hP hD hS => kk H1 locs1 ?_ hS)
  rw [nI_clamp (by omega)] at hP hD
  exact ⟨hP, hD⟩
/-! the model's arrays at any index that lies within -/
/-! writes -/
theorem Wd.of {g : Ge} {σ' : Sg} {μ' : Mg} {o' : Nat → Int64} {ws : va_W} {H1 : Heap} (e1 : ws = wWd g σ' μ' o') (hP : va_P (gD g) vwCl ws H1) (hD : va_D (Az g) ws) : Wd g σ' μ' o' H1 := by subst e1; exact ⟨hP, hD⟩
theorem pB (hx : p.tables.exec = Jvm.exec) (hb : c.code = cc) (hts : ∀ w ∈ Ts, w.before args s = true) (hin : ∀ w ∈ wsX20, w ∈ Ts) (hown : s.vm.findClass RX2 = some m.cls) (hC : cx g s s.heap) (hS : va_S (Az g) s.heap H locs) (hW : Wd g σ μ o H) (k : Nat) (hk : k < 7) (hl : (Cond.fieldLink RX2 index "BootChooser" (TX2 (k + 2)).2.1 (TX2 (k + 2)).2.2.1) ∈ Ts) (x : Int32) (d : decode cc pc = .ok (.putfield index, 3))
    (kk : ∀ (H1 : Heap) (locs1 : List Loc), Wd g (upd σ.1 k x, σ.2) μ o H1 → va_S (Az g) s.heap H1 locs1 → W p l e R s m args below meth c H1 locs1 cells slots Q (F0 m (pc + 3) ls rest)) : W p l e R s m args below meth c H locs cells slots Q (F0 m pc ls (.int x :: .ref (gA g 0) :: rest)) := by
  have h0 : (TX2 (k + 2)).1 = "BootChooser" ∧ (TX2 (k + 2)).2.2.2 = false ∧ parseFieldDescriptor (TX2 (k + 2)).2.2.1 = some .int := by
    match k, hk with
    | 0, _ => decide +kernel
    | 1, _ => decide +kernel
    | 2, _ => decide +kernel
    | 3, _ => decide +kernel
    | 4, _ => decide +kernel
    | 5, _ => decide +kernel
    | 6, _ => decide +kernel
  refine va_put (D := gD g) (ci := 2) (v := .int x) (ty := .int) (C := RX2) (T := TX2) (N := 9) hx hb hts hin tyX2 tyX2_ok nmX2 hown hC.1 hW.1 hW.2 hS 0 rfl rfl (k + 2) (by omega) (hts _ hl) (fun _ h9 => by rw [h0.1] at h9; exact h9) h0.2.1 h0.2.2 rfl rfl (by show k + 2 < 9; omega) d (fun H1 locs1 hP hD hS => kk H1 locs1 (Wd.of ?_ hP hD) hS)
  match k, hk with
  | 0, _ => rfl
  | 1, _ => rfl
  | 2, _ => rfl
  | 3, _ => rfl
  | 4, _ => rfl
  | 5, _ => rfl
  | 6, _ => rfl
theorem fE_set (E : Nat → Int32) (k : Nat) (hk : k < 8) (x : Int32) : (fE E).set k (.int x) = fE (upd E k x) := by
  match k, hk with
  | 0, _ => rfl
  | 1, _ => rfl
  | 2, _ => rfl
  | 3, _ => rfl
  | 4, _ => rfl
  | 5, _ => rfl
  | 6, _ => rfl
  | 7, _ => rfl
theorem pE {ty : FieldType} (hx : p.tables.exec = Jvm.exec) (hb : c.code = cc) (hts : ∀ w ∈ Ts, w.before args s = true) (hin : ∀ w ∈ wsX10, w ∈ Ts) (hown : s.vm.findClass RX1 = some m.cls) (hC : cx g s s.heap) (hS : va_S (Az g) s.heap H locs) (hW : Wd g σ μ o H) {j : Nat} (hj : j < 16) (k : Nat) (hk : k < 8) (hl : (Cond.fieldLink RX1 index "BootChooser$Entry" (TX1 k).2.1 (TX1 k).2.2.1) ∈ Ts) (h0 : (TX1 k).1 = "BootChooser$Entry" ∧ (TX1 k).2.2.2 = false ∧ parseFieldDescriptor (TX1 k).2.2.1 = some ty) (x : Int32) (hn : narrow ty (.int x) = .int x) (hfit : fits ty (.int x) = true) (d : decode cc pc = .ok (.putfield index, 3))
    (kk : ∀ (H1 : Heap) (locs1 : List Loc), Wd g (σ.1, up2 σ.2.1 j (upd (σ.2.1 j) k x), σ.2.2) μ o H1 → va_S (Az g) s.heap H1 locs1 → W p l e R s m args below meth c H1 locs1 cells slots Q (F0 m (pc + 3) ls rest)) : W p l e R s m args below meth c H locs cells slots Q (F0 m pc ls (.int x :: .ref (gA g (13 + j)) :: rest)) :=
  va_put (D := gD g) (ci := 1) (v := .int x) (ty := ty) (C := RX1) (T := TX1) (N := 8) hx hb hts hin tyX1 tyX1_ok nmX1 hown hC.1 hW.1 hW.2 hS (4 + j) (wWd_ent g σ μ o hj) rfl k hk (hts _ hl) (fun _ h9 => by rw [h0.1] at h9; exact h9) h0.2.1 h0.2.2 hn hfit hk d (fun H1 locs1 hP hD hS => kk H1 locs1 (Wd.of (by rw [fE_set _ _ hk]; exact wWd_setE g σ μ o hj _) hP hD) hS)
theorem pEn {ty : FieldType} (hx : p.tables.exec = Jvm.exec) (hb : c.code = cc) (hts : ∀ w ∈ Ts, w.before args s = true) (hin : ∀ w ∈ wsX10, w ∈ Ts) (hown : s.vm.findClass RX2 = some m.cls) (hC : cx g s s.heap) (hS : va_S (Az g) s.heap H locs) (hW : Wd g σ μ o H) {j : Nat} (hj : j < 16) (k : Nat) (hk : k < 8) (hl : (Cond.fieldLinkNest RX2 index "BootChooser$Entry" (TX1 k).2.1 (TX1 k).2.2.1 "BootChooser") ∈ tbL) (h0 : (TX1 k).1 = "BootChooser$Entry" ∧ (TX1 k).2.2.2 = false ∧ parseFieldDescriptor (TX1 k).2.2.1 = some ty) (x : Int32) (hn : narrow ty (.int x) = .int x) (hfit : fits ty (.int x) = true) (d : decode cc pc = .ok (.putfield index, 3))
    (kk : ∀ (H1 : Heap) (locs1 : List Loc), Wd g (σ.1, up2 σ.2.1 j (upd (σ.2.1 j) k x), σ.2.2) μ o H1 → va_S (Az g) s.heap H1 locs1 → W p l e R s m args below meth c H1 locs1 cells slots Q (F0 m (pc + 3) ls rest)) : W p l e R s m args below meth c H locs cells slots Q (F0 m pc ls (.int x :: .ref (gA g (13 + j)) :: rest)) :=
  va_putN (D := gD g) (ci := 1) (v := .int x) (ty := ty) (C := RX1) (T := TX1) (N := 8) hx hb hts hin tyX1 tyX1_ok nmX1 hown hC.1 hW.1 hW.2 hS (4 + j) (wWd_ent g σ μ o hj) rfl k hk (hC.2.1.nest hl rfl) (fun _ h9 => by rw [h0.1] at h9; exact h9) h0.2.1 h0.2.2 hn hfit hk d (fun H1 locs1 hP hD hS => kk H1 locs1 (Wd.of (by rw [fE_set _ _ hk]; exact wWd_setE g σ μ o hj _) hP hD) hS)
theorem pL {ty : FieldType} (hx : p.tables.exec = Jvm.exec) (hb : c.code = cc) (hts : ∀ w ∈ Ts, w.before args s = true) (hin : ∀ w ∈ wsX00, w ∈ Ts) (hown : s.vm.findClass RX0 = some m.cls) (hC : cx g s s.heap) (hS : va_S (Az g) s.heap H locs) (hW : Wd g σ μ o H) (k : Nat) (hk : k < 4) (hl : (Cond.fieldLink RX0 index "BootChooser$CodeLock" (TX0 (k + 1)).2.1 (TX0 (k + 1)).2.2.1) ∈ Ts) (h0 : (TX0 (k + 1)).1 = "BootChooser$CodeLock" ∧ (TX0 (k + 1)).2.2.2 = false ∧ parseFieldDescriptor (TX0 (k + 1)).2.2.1 = some ty) (x : Int32) (hn : narrow ty (.int x) = .int x) (hfit : fits ty (.int x) = true) (d : decode cc pc = .ok (.putfield index, 3))
    (kk : ∀ (H1 : Heap) (locs1 : List Loc), Wd g (σ.1, σ.2.1, upd σ.2.2.1 k x, σ.2.2.2) μ o H1 → va_S (Az g) s.heap H1 locs1 → W p l e R s m args below meth c H1 locs1 cells slots Q (F0 m (pc + 3) ls rest)) : W p l e R s m args below meth c H locs cells slots Q (F0 m pc ls (.int x :: .ref (gA g 2) :: rest)) := by
  refine va_put (D := gD g) (ci := 0) (v := .int x) (ty := ty) (C := RX0) (T := TX0) (N := 5) hx hb hts hin tyX0 tyX0_ok nmX0 hown hC.1 hW.1 hW.2 hS 2 rfl rfl (k + 1) (by omega) (hts _ hl) (fun _ h9 => by rw [h0.1] at h9; exact h9) h0.2.1 h0.2.2 hn hfit (by show k + 1 < 5; omega) d (fun H1 locs1 hP hD hS => kk H1 locs1 (Wd.of ?_ hP hD) hS)
  match k, hk with
  | 0, _ => rfl
  | 1, _ => rfl
  | 2, _ => rfl
  | 3, _ => rfl
theorem dSt (hx : p.tables.exec = Jvm.exec) (hb : c.code = cc) (hC : cx g s s.heap) (hS : va_S (Az g) s.heap H locs) (hW : Wd g σ μ o H) {j : Nat} (hj : j < 12) (x : Int32) (d : decode cc pc = .ok (.iastore, 1))
    (kk : ∀ (H1 : Heap) (locs1 : List Loc), Wd g (σ.1, σ.2.1, σ.2.2.1, upd σ.2.2.2 j x) μ o H1 → va_S (Az g) s.heap H1 locs1 → W p l e R s m args below meth c H1 locs1 cells slots Q (F0 m (pc + 1) ls rest)) : W p l e R s m args below meth c H locs cells slots Q (F0 m pc ls (.int x :: .int (nI j) :: .ref (gA g 3) :: rest)) := by
  refine va_iast hx hb hC.1 hW.1 hW.2 hS 3 0 rfl rfl (vp_in_nI hj (by omega)) d (fun H1 locs1 hP hD hS => kk H1 locs1 ?_ hS)
  rw [nI_clamp (by omega)] at hP hD
  exact Wd.of rfl hP hD
/-! receivers -/
theorem rcB (hC : cx g s H0) (hW : Wd g σ μ o H) : ∃ cell : Cell, H[gA g 0]? = some cell ∧ cell.vm.isStatics = false ∧ s.vm.findClass RX2 = some cell.cls := va_recv hC.1 hW.1 (ci := 2) (q0 := 0) rfl rfl
theorem rcE (hC : cx g s H0) (hW : Wd g σ μ o H) {j : Nat} (hj : j < 16) : ∃ cell : Cell, H[gA g (13 + j)]? = some cell ∧ cell.vm.isStatics = false ∧ s.vm.findClass RX1 = some cell.cls := va_recv hC.1 hW.1 (ci := 1) (q0 := 4 + j) rfl (wWd_ent g σ μ o hj)
theorem rcL (hC : cx g s H0) (hW : Wd g σ μ o H) : ∃ cell : Cell, H[gA g 2]? = some cell ∧ cell.vm.isStatics = false ∧ s.vm.findClass RX0 = some cell.cls := va_recv hC.1 hW.1 (ci := 0) (q0 := 2) rfl rfl
end RW3
end
section
/-! what the chooser's methods compute, as functions of its value -/
theorem bI_nar (b : Bool) : narrow .boolean (.int (bI b)) = .int (bI b) := by cases b <;> rfl
theorem bI_fit (b : Bool) : fits .boolean (.int (bI b)) = true := by cases b <;> rfl
theorem bI_inj {a b : Bool} : bI a = bI b ↔ a = b := by cases a <;> cases b <;> simp [bI]
theorem bI_n0 {b : Bool} : ¬ bI b = 0 ↔ b = true := by cases b <;> simp [bI]
def wi (a lo hi : Int32) : Bool := !decide (a < lo) && !decide (hi < a)
def icp (x y : Int32) : Int32 := if y ≤ x then (if x = y then 0 else 1) else -1
def fs (P : Nat → Bool) : Nat → Option Nat
  | 0 => none
  | n + 1 => match fs P n with
    | some j => some j
    | none => if P n then some n else none
theorem fs_lt {P : Nat → Bool} {j : Nat} : ∀ {n : Nat}, fs P n = some j → j < n ∧ P j = true ∧ ∀ i, i < j → P i = false := by
  intro n
  induction n with
  | zero => intro h; simp [fs] at h
  | succ n ih =>
    intro h
    have key : fs P n = none → ∀ i, i < n → P i = false := by
      clear h ih
      induction n with
      | zero => intro _ i hi; omega
      | succ n ih =>
        intro h i hi
        simp only [fs] at h
        cases hq : fs P n with
        | some k => simp [hq] at h
        | none =>
          rw [hq] at h
          by_cases hp : P n = true
          · simp [hp] at h
          · rcases Nat.lt_or_ge i n with q | q
            · exact ih hq i q
            · have : i = n := by omega
              subst this
              simpa using hp
    simp only [fs] at h
    cases hq : fs P n with
    | some k =>
      rw [hq] at h
      have := ih (hq.trans h)
      exact ⟨by omega, this.2⟩
    | none =>
      rw [hq] at h
      by_cases hp : P n = true
      · simp [hp] at h
        subst h
        exact ⟨by omega, hp, key hq⟩
      · simp [hp] at h
theorem fs_no {P : Nat → Bool} : ∀ {n : Nat}, fs P n = none → ∀ i, i < n → P i = false := by
  intro n
  induction n with
  | zero => intro _ i hi; omega
  | succ n ih =>
    intro h i hi
    simp only [fs] at h
    cases hq : fs P n with
    | some k => simp [hq] at h
    | none =>
      rw [hq] at h
      by_cases hp : P n = true
      · simp [hp] at h
      · rcases Nat.lt_or_ge i n with q | q
        · exact ih hq i q
        · have : i = n := by omega
          subst this
          simpa using hp
theorem fs_16 {P : Nat → Bool} {j : Nat} (h : fs P 16 = some j) : j < 16 := (fs_lt h).1
theorem fs_keep {P : Nat → Bool} {j n : Nat} (h : fs P n = some j) : ∀ k, fs P (n + k) = some j := by
  intro k
  induction k with
  | zero => exact h
  | succ k ih => show fs P ((n + k) + 1) = _; simp [fs, ih]
theorem fs_step {P : Nat → Bool} {i : Nat} (h : fs P i = none) (hp : P i = false) : fs P (i + 1) = none := by simp [fs, h, hp]
theorem fs_hit {P : Nat → Bool} {i n : Nat} (h : fs P i = none) (hp : P i = true) (hi : i < n) : fs P n = some i := by
  have h1 : fs P (i + 1) = some i := by simp [fs, h, hp]
  have := fs_keep h1 (n - (i + 1))
  rwa [show i + 1 + (n - (i + 1)) = n by omega] at this
def ct (P : Nat → Bool) : Nat → Nat
  | 0 => 0
  | n + 1 => ct P n + (if P n then 1 else 0)
theorem ct_t {P : Nat → Bool} {n : Nat} (h : P n = true) : ct P (n + 1) = ct P n + 1 := by simp [ct, h]
theorem ct_f {P : Nat → Bool} {n : Nat} (h : P n = false) : ct P (n + 1) = ct P n := by simp [ct, h]
theorem ct_le (P : Nat → Bool) : ∀ n, ct P n ≤ n
  | 0 => Nat.le_refl 0
  | n + 1 => by have := ct_le P n; simp only [ct]; split <;> omega
theorem ct_cong {P R : Nat → Bool} : ∀ {n : Nat}, (∀ i, i < n → P i = R i) → ct P n = ct R n
  | 0, _ => rfl
  | n + 1, h => by simp only [ct]; rw [ct_cong (fun i hi => h i (by omega)), h n (by omega)]
/-- a row is in use -/
def thr (E : Nat → Nat → Int32) (j : Nat) : Bool := !decide (E j 0 = 0)
def frP (E : Nat → Nat → Int32) (j : Nat) : Bool := decide (E j 0 = 0)
def pN (E : Nat → Nat → Int32) (n : Int32) (j : Nat) : Bool := thr E j && decide (E j 1 = n)
def bad (e : Nat → Int32) : Bool := decide (e 7 = 0)
def cv (a b : Nat → Int32) : Int32 := if a 4 = b 4 then icp (a 5) (b 5) else if a 4 ≤ b 4 then -1 else 1
def ah (a b : Nat → Int32) : Bool :=
  if bI (bad a) = bI (bad b) then
    if a 2 = b 2 then
      if cv a b = 0 then
        if a 3 = b 3 then !decide (b 1 ≤ a 1) else !decide (b 3 ≤ a 3)
      else !decide (cv a b ≤ 0)
    else !decide (b 2 ≤ a 2)
  else bad b
def fit (B : Nat → Int32) (e : Nat → Int32) : Bool := wi (e 3) (B 3) (B 4)
def pF (σ : Sg) (j : Nat) : Bool := thr σ.2.1 j && fit σ.1 (σ.2.1 j)
def pA (E : Nat → Nat → Int32) (j i : Nat) : Bool := thr E i && ah (E i) (E j)
def pP (E : Nat → Nat → Int32) (pl : Int32) (j : Nat) : Bool := thr E j && decide (nI (ct (pA E j) 16) = pl)
def pC (σ : Sg) (j : Nat) : Bool := thr σ.2.1 j && (fit σ.1 (σ.2.1 j) && !bad (σ.2.1 j))
def fb (E : Nat → Nat → Int32) (n : Nat) : Option Nat → Bool
  | none => true
  | some b => ah (E n) (E b)
def ff (E : Nat → Nat → Int32) (C : Nat → Bool) : Nat → Option Nat
  | 0 => none
  | n + 1 => if (C n && fb E n (ff E C n)) = true then some n else ff E C n
theorem ff_t {E : Nat → Nat → Int32} {C : Nat → Bool} {n : Nat} (h : (C n && fb E n (ff E C n)) = true) : ff E C (n + 1) = some n := by simp only [ff]; rw [if_pos h]
theorem ff_f {E : Nat → Nat → Int32} {C : Nat → Bool} {n : Nat} (h : (C n && fb E n (ff E C n)) = false) : ff E C (n + 1) = ff E C n := by simp only [ff]; rw [if_neg (by rw [h]; decide)]
theorem ff_lt {E : Nat → Nat → Int32} {C : Nat → Bool} {j : Nat} : ∀ {n : Nat}, ff E C n = some j → j < n := by
  intro n
  induction n with
  | zero => intro h; simp [ff] at h
  | succ n ih =>
    intro h
    cases hb : (C n && fb E n (ff E C n)) with
    | true => rw [ff_t hb] at h; cases h; omega
    | false => rw [ff_f hb] at h; have := ih h; omega
theorem ff_16 {E : Nat → Nat → Int32} {C : Nat → Bool} {j : Nat} (h : ff E C 16 = some j) : j < 16 := ff_lt h
def oel {β : Type} (o : Option Nat) (f : Nat → β) (d : β) : β := match o with
  | some j => f j
  | none => d
theorem oel_s {β : Type} {j : Nat} {f : Nat → β} {d : β} : oel (some j) f d = f j := rfl
theorem oel_n {β : Type} {f : Nat → β} {d : β} : oel none f d = d := rfl
def nx2 (σ : Sg) : Option Nat := oel (ff σ.2.1 (pC σ) 16) some (fs (pP σ.2.1 0) 16)
def nx (σ : Sg) : Option Nat := oel (fs (pN σ.2.1 (σ.1 2)) 16) some (oel (fs (pN σ.2.1 (σ.1 1)) 16) (fun j => if bad (σ.2.1 j) = true then nx2 σ else some j) (nx2 σ))
theorem nx2_16 {σ : Sg} {j : Nat} (h : nx2 σ = some j) : j < 16 := by
  rw [nx2] at h
  cases hk : ff σ.2.1 (pC σ) 16 with
  | some k => rw [hk, oel_s] at h; cases h; exact ff_16 hk
  | none => rw [hk, oel_n] at h; exact fs_16 h
theorem nx_16 {σ : Sg} {j : Nat} (h : nx σ = some j) : j < 16 := by
  rw [nx] at h
  cases hk : fs (pN σ.2.1 (σ.1 2)) 16 with
  | some k => rw [hk, oel_s] at h; cases h; exact fs_16 hk
  | none =>
    rw [hk, oel_n] at h
    cases hk2 : fs (pN σ.2.1 (σ.1 1)) 16 with
    | none => rw [hk2, oel_n] at h; exact nx2_16 h
    | some k =>
      rw [hk2, oel_s] at h
      by_cases hb : bad (σ.2.1 k) = true
      · rw [if_pos hb] at h; exact nx2_16 h
      · rw [if_neg hb] at h; cases h; exact fs_16 hk2
def sp (v n : Int32) : Int32 := v * 31 + n + 7 - (v * 31 + n + 7) / 1000003 * 1000003
def rm (x y : Int32) : Int32 := x - x / y * y
def mz (k : Int32) (e : Nat → Int32) : Int32 := sp (sp (sp (sp (sp (sp (sp (sp 0 (if k = 0 then 0 else 1)) (e 2)) (e 4 / 1000000)) (rm (e 4 / 1000) 1000)) (rm (e 4) 1000)) (e 5)) (e 3)) (e 6)
/-- the value of n digits from place a on -/
def vl (G : Nat → Int32) (a : Nat) : Nat → Int32
  | 0 => 0
  | n + 1 => vl G a n * 10 + G (a + n)
def ec (G : Nat → Int32) (en cl : Nat) (code : Int32) : Bool := decide (cl ≤ en) && decide (vl G (en - cl) cl = code)
theorem Wd_up {g : Ge} {σ : Sg} {μ : Mg} {o : Nat → Int64} {H : Heap} {t : State} (hW : Wd g σ μ o H) (hz : H.size ≤ t.heap.size) (hq : ∀ q : Nat, q < H.size → t.heap[q]? = H[q]?) : Wd g σ μ o t.heap := ⟨hW.1.kept (fun k q hk => hq q.1 ((hW.1 k q hk).lt)), hW.2⟩
theorem va_F_up {A : Nat → Prop} {s t : State} {H : Heap} {locs : List Loc} (hS : va_S A s.heap H locs) (hz : H.size ≤ t.heap.size) (hq : ∀ q : Nat, q < H.size → t.heap[q]? = H[q]?) : va_F A s t := ⟨Nat.le_trans hS.1 hz, fun q h1 h2 => (hq q (Nat.lt_of_lt_of_le h1 hS.1)).trans (hS.2.1 q h1 h2)⟩
theorem nI16_le {i : Nat} (h : i ≤ 16) : ((16 : Int32) ≤ nI i) ↔ i = 16 := by
  rw [show (16 : Int32) = nI 16 from rfl, nI_leI (by omega) (by omega)]; omega
theorem nI16_le_n {i : Nat} (h : i ≤ 16) : ¬ ((16 : Int32) ≤ nI i) ↔ i < 16 := by
  rw [nI16_le h]; omega
end
section
/-! what a call answers when it throws: 1, 2, 3 by the order of the law's catches; 0 when it returns -/
def no1 (σ : Sg) (n : Int32) : Bool := (fs (pN σ.2.1 n) 16).isNone
def okC (σ : Sg) (n : Int32) : Bool := decide (n = -1) || !no1 σ n
def okA (kind name ver mark tries : Int32) : Bool := wi kind 0 2 && (wi name 0 99 && (wi ver 0 999999999 && (wi mark 0 2 && (decide (tries = -1) || wi tries 0 9))))
def kAdd (σ : Sg) (kind name ver mark tries : Int32) : Int32 := if okA kind name ver mark tries = true then (if (fs (frP σ.2.1) 16).isNone = true then 2 else if σ.1 0 < 60 then 0 else 2) else 1
def kRem (σ : Sg) (n : Int32) : Int32 := if no1 σ n = true then 1 else 0
def kEd (σ : Sg) (n opt : Int32) : Int32 := if no1 σ n = true then 1 else if wi opt 0 99 = true then (if σ.2.2.1 0 = 0 then 0 else 3) else 2
def kCh (σ : Sg) (n : Int32) : Int32 := if okC σ n = true then (if σ.2.2.1 0 = 0 then 0 else 2) else 1
def kCo (σ : Sg) (n : Int32) : Int32 := if okC σ n = true then 0 else 1
def kPa (σ : Sg) (a b : Int32) : Int32 := if wi a 0 99 = true then (if wi b a 99 = true then (if σ.2.2.1 0 = 0 then 0 else 2) else 1) else 1
def kSt (σ : Sg) : Int32 := if (nx σ).isNone = true then 1 else 0
def kGo (σ : Sg) : Int32 := if σ.1 5 = -1 then 1 else 0
def hc (m : Int32) : Int32 := nI (10 ^ m.toNatClampNeg) - 1
def kLo (σ : Sg) (code many : Int32) : Int32 := if wi many 1 6 = true then (if wi code 0 (hc many) = true then (if σ.2.2.1 0 = 0 then 0 else 2) else 1) else 1
def kEn (σ : Sg) (d : Int32) : Int32 := if wi d 0 9 = true then (if σ.2.2.1 0 = 0 then 2 else if σ.2.2.1 3 < 12 then 0 else 2) else 1
def kAt (σ : Sg) (pl : Int32) : Int32 := if (fs (pP σ.2.1 pl) 16).isNone = true then 1 else 0
def kCm (σ : Sg) (a b : Int32) : Int32 := if no1 σ a = true then 1 else if no1 σ b = true then 1 else 0
/-- the entry that add writes, and the one that a start leaves -/
def flE (e : Nat → Int32) (nu kind name ver mark tr : Int32) : Nat → Int32 := upd (upd (upd (upd (upd (upd (upd (upd e 0 1) 1 nu) 2 kind) 3 name) 4 ver) 5 mark) 6 0) 7 tr
def us1 (e : Nat → Int32) : Nat → Int32 := if e 7 ≤ 0 then e else upd e 7 (e 7 - 1)
theorem wi_n {m : Int32} (h : wi m 1 6 = true) : ∃ k : Nat, 1 ≤ k ∧ k ≤ 6 ∧ m = nI k := by
  simp only [wi, Bool.and_eq_true, Bool.not_eq_true', decide_eq_false_iff_not] at h
  obtain ⟨h1, h2⟩ := h
  rw [Int32.lt_iff_toInt_lt] at h1 h2
  have e1 : (1 : Int32).toInt = 1 := rfl
  have e6 : (6 : Int32).toInt = 6 := rfl
  rw [e1] at h1
  rw [e6] at h2
  refine ⟨m.toInt.toNat, by omega, by omega, ?_⟩
  apply Int32.toInt_inj.mp
  rw [nI_toInt (by omega)]
  omega
theorem up2_u {f : Nat → Nat → Int32} {j : Nat} {x y : Nat → Int32} : up2 (up2 f j x) j y = up2 f j y := by
  funext i
  by_cases h : i = j
  · simp [up2, h]
  · simp [up2, h]
theorem up2_self {f : Nat → Nat → Int32} {j : Nat} : up2 f j (f j) = f := by
  funext i
  by_cases h : i = j
  · simp [up2, h]
  · simp [up2, h]
theorem us1_1 {e : Nat → Int32} : us1 e 1 = e 1 := by
  unfold us1
  split
  · rfl
  · simp [upd]
def goR (σ : Sg) : Int32 := oel (fs (pN σ.2.1 (σ.1 5)) 16) (fun j => σ.2.1 j 7) (-1)
def goE (σ : Sg) : Nat → Nat → Int32 := oel (fs (pN σ.2.1 (σ.1 5)) 16) (fun j => up2 σ.2.1 j (upd (σ.2.1 j) 7 (-1))) σ.2.1
def nxR (σ : Sg) : Int32 := oel (nx σ) (fun j => σ.2.1 j 1) (-1)
end
section
section
variable {p : Program} {l : Launch} {e : Env} {R : Room} {s : State} {m : MethodId} {args : Array Value} {below : List Frame} {meth : Method} {c : Code} {H : Heap} {locs : List Loc} {cells slots : Nat} {Q : State → Prop}
variable {mc ms : Nat} {free : Addr → Prop} {A0 A1 : Nat → Prop} {H0 : Heap} {a : Array Value} {pc : Nat} {ls : Array Slot} {st0 rest : List Value}
theorem vx_callq {S SX : Type} {post : Option Nat → S → Prop} {px : SX → Prop} {B : S → State → Prop} {BX : String → SX → State → Prop} {AX : Nat → Prop} (hr : vx_Run p l e R s m args below meth c H locs cells slots mc ms (F0 m pc ls st0) rest (va_Qq post B A1 a) (vx_X px BX AX) free) (hS : va_S A0 H0 H locs) (hA : ∀ q, q < H.size → A1 q → A0 q) (hf : ∀ q, free q → A0 q) (hAX : ∀ q, q < H.size → AX q → A0 q)
    (kx : ∀ (E : String) (ce : Cell) (q9 : Addr) (u : SX) (t : State) (H1 : Heap) (locs1 : List Loc), t.heap = H1 → s.vm.Alike t.vm → px u → BX E u t → H.size ≤ H1.size → (∀ q : Nat, q < H.size → ¬ AX q → H1[q]? = H[q]?) → va_S A0 H0 H1 locs1 → H1[q9]? = some ce → ce.vm = .none → s.vm.findClass E = some ce.cls → vx_W p l e R s m args below meth c H1 locs1 (cells + mc) (slots + ms) Q (F0 m pc ls rest) q9)
    (kk : ∀ (r : Option Nat) (u : S) (t : State) (H1 : Heap) (locs1 : List Loc), t.heap = H1 → s.vm.Alike t.vm → post r u → B u t → H.size ≤ H1.size → (∀ q : Nat, q < H.size → ¬ A1 q → H1[q]? = H[q]?) → va_S A0 H0 H1 locs1 → W p l e R s m args below meth c H1 locs1 (cells + mc) (slots + ms) Q (F0 m (pc + 3) ls (va_rf r :: rest))) : W p l e R s m args below meth c H locs cells slots Q (F0 m pc ls st0) := by
  intro T hT X
  rcases hr T hT X with ⟨v, st₀, t, T', L, h0, X', hL, e1, e2, ⟨⟨r, u, hv, hp, hb⟩, hF⟩, st⟩ | ⟨q, st₀, t, T', L, E, ce, h0, X', hL, e1, e2, ⟨u, hp, hb, hF⟩, hce, hcv, hcl, st⟩
  · cases hv
    obtain ⟨k1, k2, k3⟩ := vx_keep h0 e1 hS hA hf hL hF
    obtain ⟨t2, a1, b1⟩ := kk r u t T'.heap (locs ++ L) e1.symm (by rw [← e2]; exact X'.warmed.alike) hp hb k1 k2 k3 T' rfl X'
    exact ⟨t2, st t2 a1, b1⟩
  · obtain ⟨k1, k2, k3⟩ := vx_keep h0 e1 hS hAX hf hL hF
    obtain ⟨t2, a1, b1⟩ := kx E ce q u t T'.heap (locs ++ L) e1.symm (by rw [← e2]; exact X'.warmed.alike) hp hb k1 k2 k3 (by rw [e1]; exact hce) hcv hcl T' rfl X'
    exact ⟨t2, st.trans a1, b1⟩
end
section
variable {p : Program} {l : Launch} {e : Env} {R : Room} {s : State} {m : MethodId} {args : Array Value} {below : List Frame} {meth : Method} {c : Code} {H : Heap} {locs : List Loc} {cells slots : Nat}
variable {T : State}
theorem vx_callVN (X : Stand p l e R s m args below meth c T locs cells slots) (hexec : p.tables.exec = Jvm.exec) {own C : String} {index : Nat} {host : String} {y : MethodName} {bytes : ByteArray} {maxL : Nat} {ret : Option FieldType}
    (hown : s.vm.findClass own = some m.cls) (hlink : (Cond.methodLinkNest own index y host).before args s = true) (hinst : (Cond.instanceMethod y).before args s = true) (hsel : (Cond.selects C y y).before args s = true)
    (hcode : (Cond.code y bytes maxL ret).before args s = true) (hy : y.cls ≠ "java/lang/invoke/MethodHandle" ∧ y.cls ≠ "java/lang/invoke/VarHandle")
    {W : Nat} {Pre : Pt → Array Value → Prop} {Post : Pt → Array Value → Option Value → Pt → Prop} {PostX : Pt → Array Value → Addr → Pt → Prop} (hK : vx_Back l R p e below s args y 3 W Pre Post PostX)
    {b : Addr} {cellB : Cell} (hcell : T.heap[b]? = some cellB) (hobj : cellB.vm.isStatics = false) (hcls : s.vm.findClass C = some cellB.cls)
    {g : JFrame} (hg : g.method = m) (hsize : g.locals.size = c.maxLocals) {argsL rest : List Value} (hlen : ∀ sig, parseMethodDescriptor y.desc = some sig → argsL.length = sig.parameters.length)
    (hstack : g.stack = argsL.reverse ++ .ref b :: rest) (hW : 2 * g.monitorRoom + (rest.map fun v => v.category).sum ≤ W) (hdg : decode c.code g.pc = .ok (.invokevirtual index, 3))
    (hpre : ∀ vm₁, s.WarmedH vm₁ → Pre ⟨T.setVm vm₁, locs, cells, slots⟩ (Value.ref b :: argsL).toArray) :
    (∃ (v : Option Value) (vm₁ : Vm) (B : Pt), s.WarmedH vm₁ ∧ Stand p l e R s m args below meth c B.U B.locs B.cells B.slots ∧ Post ⟨T.setVm vm₁, locs, cells, slots⟩ (Value.ref b :: argsL).toArray v B ∧
      ∀ target, Steps p.tables e below (B.U.setTop { g with pc := g.pc + 3, stack := v.toList ++ rest }) target → Steps p.tables e below (T.setTop g) target) ∨
    (∃ (q : Addr) (vm₁ : Vm) (B : Pt), s.WarmedH vm₁ ∧ Stand p l e R s m args below meth c B.U B.locs B.cells B.slots ∧ PostX ⟨T.setVm vm₁, locs, cells, slots⟩ (Value.ref b :: argsL).toArray q B ∧
      Steps p.tables e below (T.setTop g) ((B.U.setTop { g with stack := rest }).pushFrame (.throwing q))) := by
  obtain ⟨mk, methM, hnamed, hmethM, hstM, habM⟩ := Cond.instanceMethod_spec hinst
  obtain ⟨methM', cM, hmethM', -, -, -, -, -, -, hsigM⟩ := Cond.code_spec hnamed hcode
  cases hmethM.symm.trans hmethM'
  obtain ⟨c2, r2, m2, q1, q2, q3, q4, kP, hkP, hkPi⟩ := Cond.selects_spec hsel
  cases hcls.symm.trans q1
  cases (State.methodFound?_of_named hnamed hy).symm.trans q2
  cases hnamed.symm.trans q3
  have hselP : selectMethod e.platform s.vm cellB.cls mk = .method mk := by rw [Launch.admits_selectMethod X.admits]; exact q4
  obtain ⟨vm₁, X₁, hstep₁⟩ := X.invokevirtualNest hexec hown hlink hnamed hmethM hstM hkP hkPi hy (a := b) (cell := cellB) hcell
    (fun z h => by rw [h] at hobj; cases hobj) hselP hmethM habM hkP hkPi (g := g) hg (argsL := argsL) (rest := rest) (hlen _ hsigM) hstack hdg
  rcases hK m meth c ⟨T.setVm vm₁, locs, cells, slots⟩ { g with stack := rest } (.invokevirtual index) mk (Value.ref b :: argsL).toArray X₁ hg hsize hdg hW (X₁.named hnamed) (hpre vm₁ X₁.warmed) with ⟨v, B, X', hpost, hsteps⟩ | ⟨q, B, X', hpost, hsteps⟩
  · exact Or.inl ⟨v, vm₁, B, X₁.warmed, X', hpost, fun target h => hstep₁ _ fun acts => by rw [doInvoke_state]; exact hsteps.trans h⟩
  · exact Or.inr ⟨q, vm₁, B, X₁.warmed, X', hpost, hstep₁ _ fun acts => by rw [doInvoke_state]; exact hsteps⟩
theorem vx_callSN (X : Stand p l e R s m args below meth c T locs cells slots) (hexec : p.tables.exec = Jvm.exec) {own : String} {index : Nat} {host : String} {y : MethodName} {bytes : ByteArray} {maxL : Nat} {ret : Option FieldType}
    (hown : s.vm.findClass own = some m.cls) (hlink : (Cond.methodLinkNest own index y host).before args s = true) (hstat : (Cond.static y).before args s = true) (hinit : (Cond.initialized y.cls).before args s = true)
    (hcode : (Cond.code y bytes maxL ret).before args s = true) (hy : y.cls ≠ "java/lang/invoke/MethodHandle" ∧ y.cls ≠ "java/lang/invoke/VarHandle")
    {W : Nat} {Pre : Pt → Array Value → Prop} {Post : Pt → Array Value → Option Value → Pt → Prop} {PostX : Pt → Array Value → Addr → Pt → Prop} (hK : vx_Back l R p e below s args y 3 W Pre Post PostX)
    {g : JFrame} (hg : g.method = m) (hsize : g.locals.size = c.maxLocals) {argsL rest : List Value} (hlen : ∀ sig, parseMethodDescriptor y.desc = some sig → argsL.length = sig.parameters.length)
    (hstack : g.stack = argsL.reverse ++ rest) (hW : 2 * g.monitorRoom + (rest.map fun v => v.category).sum ≤ W) (hdg : decode c.code g.pc = .ok (.invokestatic index, 3))
    (hpre : ∀ vm₁, s.WarmedH vm₁ → Pre ⟨T.setVm vm₁, locs, cells, slots⟩ argsL.toArray) :
    (∃ (v : Option Value) (vm₁ : Vm) (B : Pt), s.WarmedH vm₁ ∧ Stand p l e R s m args below meth c B.U B.locs B.cells B.slots ∧ Post ⟨T.setVm vm₁, locs, cells, slots⟩ argsL.toArray v B ∧
      ∀ target, Steps p.tables e below (B.U.setTop { g with pc := g.pc + 3, stack := v.toList ++ rest }) target → Steps p.tables e below (T.setTop g) target) ∨
    (∃ (q : Addr) (vm₁ : Vm) (B : Pt), s.WarmedH vm₁ ∧ Stand p l e R s m args below meth c B.U B.locs B.cells B.slots ∧ PostX ⟨T.setVm vm₁, locs, cells, slots⟩ argsL.toArray q B ∧
      Steps p.tables e below (T.setTop g) ((B.U.setTop { g with stack := rest }).pushFrame (.throwing q))) := by
  obtain ⟨mk, hnamed⟩ := Cond.code_named hcode
  obtain ⟨methM, cM, hmethM, -, -, -, -, -, -, hsigM⟩ := Cond.code_spec hnamed hcode
  have hstatic : methM.isStatic = true := Cond.static_spec hnamed hmethM hstat
  obtain ⟨kP, hkP, -⟩ := className_of_methodNamed hnamed
  have hinitP : kP.init = .initialized := Cond.initialized_spec (findClass_of_methodNamed hnamed) hkP hinit
  obtain ⟨vm₁, X₁, hstep₁⟩ := X.invokestaticNest hexec hown hlink hnamed hmethM hstatic hkP hinitP hy (g := g) hg (argsL := argsL) (rest := rest) (hlen _ hsigM) hstack hdg
  rcases hK m meth c ⟨T.setVm vm₁, locs, cells, slots⟩ { g with stack := rest } (.invokestatic index) mk argsL.toArray X₁ hg hsize hdg hW (X₁.named hnamed) (hpre vm₁ X₁.warmed) with ⟨v, B, X', hpost, hsteps⟩ | ⟨q, B, X', hpost, hsteps⟩
  · exact Or.inl ⟨v, vm₁, B, X₁.warmed, X', hpost, fun target h => hstep₁ _ fun acts => by rw [doInvoke_state]; exact hsteps.trans h⟩
  · exact Or.inr ⟨q, vm₁, B, X₁.warmed, X', hpost, hstep₁ _ fun acts => by rw [doInvoke_state]; exact hsteps⟩
theorem vx_runVN {y : MethodName} {bytes cc : ByteArray} {maxL nL mc ms n index : Nat} {ret : Option FieldType} {ws : List Cond} {rm : Room} {Pc : Array Value → State → Prop} {Qc : Array Value → State → Outcome → State → Prop} {XC : String → State → State → Prop} {free : Addr → Prop} {Ts : List Cond} {own C host : String} {b : Addr} {As rest : List Value} {g : JFrame}
    (S : CallFix p m c cc nL s args Ts own) (hM : vx_Met l y ws rm Pc Qc XC mc ms free) (cw : va_CN R s args own index y host bytes maxL ret ws rm mc ms n ∧ (Cond.instanceMethod y).before args s = true ∧ (Cond.selects C y y).before args s = true) (hp : PreV s H C b Pc As)
    (hg : g.method = m) (hn : As.length = n) (hsize : g.locals.size = nL) (hstack : g.stack = As.reverse ++ .ref b :: rest) (hW : 2 * g.monitorRoom + (rest.map fun v => v.category).sum ≤ 8) (hdg : decode cc g.pc = .ok (.invokevirtual index, 3)) (hf : cells + mc ≤ R.cells ∧ slots + ms ≤ R.slots) :
    vx_Run p l e R s m args below meth c H locs cells slots mc ms g rest (Qc (Value.ref b :: As).toArray) XC free := by
  obtain ⟨⟨⟨hrc, hrs, hfr, hlo, hws, hcw⟩, hcode, hini, hy, hlen, hl⟩, hx1, hx2⟩ := cw
  have hK : vx_Back l R p e below s args y 3 8 (PreOf R mc ms Pc) (PostOf Qc mc ms free) (vx_Post XC mc ms free) := vx_back (bytes := bytes) (maxL := maxL) (ret := ret) hM hp.1 hrc hrs hfr hlo hws hcw (fun a' U hW => word_at hW (Or.inl (by first | rfl | simp [Cond.onTables, Cond.keeps, Cond.steady])) hini)
  obtain ⟨hx, hb, hml, ho, -⟩ := S
  obtain ⟨-, ⟨cellB, hcB, hoB, hclB⟩, hPc⟩ := hp
  intro T hT X
  rcases vx_callVN X hx (C := C) (bytes := bytes) (maxL := maxL) (ret := ret) ho hl hx1 hx2 hcode hy hK (by rw [hT]; exact hcB) hoB hclB hg (hsize.trans hml.symm) (argsL := As) (rest := rest) (fun sig h => hn.trans (hlen sig h)) hstack hW (by rw [hb]; exact hdg)
    (fun vm₁ hW₁ => ⟨hf.1, hf.2, hPc (T.setVm vm₁) hT hW₁⟩) with ⟨v, vm₁, ⟨U', l2, c2, s2⟩, hW₁, X', ⟨g', mk, t, L, e1, e2, hq, h1, hL, h2, h3⟩, st⟩ | ⟨q, vm₁, ⟨U', l2, c2, s2⟩, hW₁, X', ⟨g', mk, t, L, E, ce, e1, e2, hq, hce, hcv, hcl, h1, hL, h2, h3⟩, st⟩
  · dsimp only [Pt.U, Pt.locs, Pt.cells, Pt.slots] at X' e1 e2 h1 h2 h3 st
    subst h1; subst h2; subst h3
    exact Or.inl ⟨v, (T.setVm vm₁).calling g' mk (Value.ref b :: As).toArray, t, U', L, hT, X', hL, e1, e2, hq, st⟩
  · dsimp only [Pt.U, Pt.locs, Pt.cells, Pt.slots] at X' e1 e2 h1 h2 h3 st hcl
    subst h1; subst h2; subst h3
    exact Or.inr ⟨q, (T.setVm vm₁).calling g' mk (Value.ref b :: As).toArray, t, U', L, E, ce, hT, X', hL, e1, e2, hq, hce, hcv, vx_cls hW₁ hcl, st⟩
theorem vx_runSN {y : MethodName} {bytes cc : ByteArray} {maxL nL mc ms n index : Nat} {ret : Option FieldType} {ws : List Cond} {rm : Room} {Pc : Array Value → State → Prop} {Qc : Array Value → State → Outcome → State → Prop} {XC : String → State → State → Prop} {free : Addr → Prop} {Ts : List Cond} {own host : String} {As rest : List Value} {g : JFrame}
    (S : CallFix p m c cc nL s args Ts own) (hM : vx_Met l y ws rm Pc Qc XC mc ms free) (cw : va_CN R s args own index y host bytes maxL ret ws rm mc ms n ∧ (Cond.static y).before args s = true ∧ True) (hp : PreS s H Pc As)
    (hg : g.method = m) (hn : As.length = n) (hsize : g.locals.size = nL) (hstack : g.stack = As.reverse ++ rest) (hW : 2 * g.monitorRoom + (rest.map fun v => v.category).sum ≤ 8) (hdg : decode cc g.pc = .ok (.invokestatic index, 3)) (hf : cells + mc ≤ R.cells ∧ slots + ms ≤ R.slots) :
    vx_Run p l e R s m args below meth c H locs cells slots mc ms g rest (Qc As.toArray) XC free := by
  obtain ⟨⟨⟨hrc, hrs, hfr, hlo, hws, hcw⟩, hcode, hini, hy, hlen, hl⟩, hx1, hx2⟩ := cw
  have hK : vx_Back l R p e below s args y 3 8 (PreOf R mc ms Pc) (PostOf Qc mc ms free) (vx_Post XC mc ms free) := vx_back (bytes := bytes) (maxL := maxL) (ret := ret) hM hp.1 hrc hrs hfr hlo hws hcw (fun a' U hW => word_at hW (Or.inl (by first | rfl | simp [Cond.onTables, Cond.keeps, Cond.steady])) hini)
  obtain ⟨hx, hb, hml, ho, -⟩ := S
  have hPc := hp.2
  intro T hT X
  rcases vx_callSN X hx (bytes := bytes) (maxL := maxL) (ret := ret) ho hl hx1 hini hcode hy hK hg (hsize.trans hml.symm) (argsL := As) (rest := rest) (fun sig h => hn.trans (hlen sig h)) hstack hW (by rw [hb]; exact hdg)
    (fun vm₁ hW₁ => ⟨hf.1, hf.2, hPc (T.setVm vm₁) hT hW₁⟩) with ⟨v, vm₁, ⟨U', l2, c2, s2⟩, hW₁, X', ⟨g', mk, t, L, e1, e2, hq, h1, hL, h2, h3⟩, st⟩ | ⟨q, vm₁, ⟨U', l2, c2, s2⟩, hW₁, X', ⟨g', mk, t, L, E, ce, e1, e2, hq, hce, hcv, hcl, h1, hL, h2, h3⟩, st⟩
  · dsimp only [Pt.U, Pt.locs, Pt.cells, Pt.slots] at X' e1 e2 h1 h2 h3 st
    subst h1; subst h2; subst h3
    exact Or.inl ⟨v, (T.setVm vm₁).calling g' mk As.toArray, t, U', L, hT, X', hL, e1, e2, hq, st⟩
  · dsimp only [Pt.U, Pt.locs, Pt.cells, Pt.slots] at X' e1 e2 h1 h2 h3 st hcl
    subst h1; subst h2; subst h3
    exact Or.inr ⟨q, (T.setVm vm₁).calling g' mk As.toArray, t, U', L, E, ce, hT, X', hL, e1, e2, hq, hce, hcv, vx_cls hW₁ hcl, st⟩
end
end
section
set_option maxHeartbeats 4000000 in
set_option maxRecDepth 100000 in
theorem mtJ6_compare_7cf53 (l : Launch) (a b : Int32) : Met l yJ6_compare_7cf53 wsJ6_compare_7cf53 ({ frames := 0, cells := 0, slots := 0, locals := 0 } : Room) (va_Pc [.int a, .int b] P0) (vp_Si (fun r => r = icp a b)) 0 0 (fun _ => False) := by
  refine Met.ofW (cc := cJ6_compare_7cf53) (maxL := 2) (ret := (some .int)) (by decide) rfl ?_
  intro p e s m args below meth c s₁ B hml hv
  obtain ⟨rfl, -⟩ := hv
  have hx := B.exec
  have hb := B.bytes
  have hr := B.returns
  have hts := atoms_spec (ws := wsJ6_compare_7cf53) B.pre
  have hown : s.vm.findClass RJ6 = some m.cls := findClass_of_methodNamed B.named
  have hlocks := B.notSynchronized
  have hl := lv_entry ([.int a, .int b]) (n := 2) (Nat.le_of_ble_eq_true rfl)
  rw [lg_entry_eq]
  generalize (lg_sl ([.int a, .int b]) ++ List.replicate (2 - (lg_sl ([.int a, .int b])).length) Slot.unset).toArray = ls at hl ⊢
  have hl : lv_has ls 2 [(0, .int a), (1, .int b)] := hl
  refine lv_iload_n hx hb dJ6_compare_7cf53_0 rfl (lv_at hl 0 rfl) ?_
  refine lv_iload_n hx hb dJ6_compare_7cf53_1 rfl (lv_at hl 1 rfl) ?_
  refine lv_icmp_ge (tgt := 9) hx hb dJ6_compare_7cf53_2 (by decide) (fun c_1 => ?_) (fun c_1 => ?_)
  · skip
    refine lv_iload_n hx hb dJ6_compare_7cf53_9 rfl (lv_at hl 0 rfl) ?_
    refine lv_iload_n hx hb dJ6_compare_7cf53_10 rfl (lv_at hl 1 rfl) ?_
    refine lv_icmp_ne (tgt := 18) hx hb dJ6_compare_7cf53_11 (by decide) (fun c_2 => ?_) (fun c_2 => ?_)
    · skip
      refine lv_iconst (v := 1) hx hb dJ6_compare_7cf53_18 (by decide) ?_
      exact W.iret (v := 1) hx hb hr (fun t ht hW9 => ⟨_, rfl, by simp [icp, c_1, c_2], ht⟩) (fun q h => by cases h) dJ6_compare_7cf53_19
    · skip
      refine lv_iconst (v := 0) hx hb dJ6_compare_7cf53_14 (by decide) ?_
      refine lv_goto (tgt := 19) hx hb dJ6_compare_7cf53_15 (by decide) ?_
      exact W.iret (v := 0) hx hb hr (fun t ht hW9 => ⟨_, rfl, by simp [icp, c_1, c_2], ht⟩) (fun q h => by cases h) dJ6_compare_7cf53_19
  · skip
    refine lv_iconst (v := (-1)) hx hb dJ6_compare_7cf53_5 (by decide) ?_
    refine lv_goto (tgt := 19) hx hb dJ6_compare_7cf53_6 (by decide) ?_
    exact W.iret (v := (-1)) hx hb hr (fun t ht hW9 => ⟨_, rfl, by simp [icp, c_1], ht⟩) (fun q h => by cases h) dJ6_compare_7cf53_19
set_option maxHeartbeats 4000000 in
set_option maxRecDepth 100000 in
theorem mtX2_isWithin (l : Launch) (a lo hi : Int32) : Met l yX2_isWithin wsX2_isWithin ({ frames := 0, cells := 0, slots := 0, locals := 0 } : Room) (va_Pc [.int a, .int lo, .int hi] P0) (vp_Si (fun r => r = bI (wi a lo hi))) 0 0 (fun _ => False) := by
  refine Met.ofW (cc := cX2_isWithin) (maxL := 3) (ret := (some .boolean)) (by decide) rfl ?_
  intro p e s m args below meth c s₁ B hml hv
  obtain ⟨rfl, -⟩ := hv
  have hx := B.exec
  have hb := B.bytes
  have hr := B.returns
  have hts := atoms_spec (ws := wsX2_isWithin) B.pre
  have hown : s.vm.findClass RX2 = some m.cls := findClass_of_methodNamed B.named
  have hlocks := B.notSynchronized
  have hl := lv_entry ([.int a, .int lo, .int hi]) (n := 3) (Nat.le_of_ble_eq_true rfl)
  rw [lg_entry_eq]
  generalize (lg_sl ([.int a, .int lo, .int hi]) ++ List.replicate (3 - (lg_sl ([.int a, .int lo, .int hi])).length) Slot.unset).toArray = ls at hl ⊢
  have hl : lv_has ls 3 [(0, .int a), (1, .int lo), (2, .int hi)] := hl
  refine lv_iload_n hx hb dX2_isWithin_0 rfl (lv_at hl 0 rfl) ?_
  refine lv_iload_n hx hb dX2_isWithin_1 rfl (lv_at hl 1 rfl) ?_
  refine lv_icmp_lt (tgt := 14) hx hb dX2_isWithin_2 (by decide) (fun c_1 => ?_) (fun c_1 => ?_)
  · skip
    refine lv_iconst (v := 0) hx hb dX2_isWithin_14 (by decide) ?_
    exact W.zret (v := 0) (ty := .boolean) hx hb hr rfl (fun t ht hW9 => ⟨_, rfl, by simp [wi, bI, c_1], ht⟩) (fun q h => by cases h) dX2_isWithin_15
  · skip
    refine lv_iload_n hx hb dX2_isWithin_5 rfl (lv_at hl 0 rfl) ?_
    refine lv_iload_n hx hb dX2_isWithin_6 rfl (lv_at hl 2 rfl) ?_
    refine lv_icmp_gt (tgt := 14) hx hb dX2_isWithin_7 (by decide) (fun c_2 => ?_) (fun c_2 => ?_)
    · skip
      refine lv_iconst (v := 0) hx hb dX2_isWithin_14 (by decide) ?_
      exact W.zret (v := 0) (ty := .boolean) hx hb hr rfl (fun t ht hW9 => ⟨_, rfl, by simp [wi, bI, c_1, c_2], ht⟩) (fun q h => by cases h) dX2_isWithin_15
    · skip
      refine lv_iconst (v := 1) hx hb dX2_isWithin_10 (by decide) ?_
      refine lv_goto (tgt := 15) hx hb dX2_isWithin_11 (by decide) ?_
      exact W.zret (v := 1) (ty := .boolean) hx hb hr rfl (fun t ht hW9 => ⟨_, rfl, by simp [wi, bI, c_1, c_2], ht⟩) (fun q h => by cases h) dX2_isWithin_15
set_option maxHeartbeats 4000000 in
set_option maxRecDepth 100000 in
theorem mtX2_step (l : Launch) (a b : Int32) : Met l yX2_step wsX2_step ({ frames := 0, cells := 0, slots := 0, locals := 0 } : Room) (va_Pc [.int a, .int b] P0) (vp_Si (fun r => r = sp a b)) 0 0 (fun _ => False) := by
  refine Met.ofW (cc := cX2_step) (maxL := 2) (ret := (some .int)) (by decide) rfl ?_
  intro p e s m args below meth c s₁ B hml hv
  obtain ⟨rfl, -⟩ := hv
  have hx := B.exec
  have hb := B.bytes
  have hr := B.returns
  have hts := atoms_spec (ws := wsX2_step) B.pre
  have hown : s.vm.findClass RX2 = some m.cls := findClass_of_methodNamed B.named
  have hlocks := B.notSynchronized
  have hl := lv_entry ([.int a, .int b]) (n := 2) (Nat.le_of_ble_eq_true rfl)
  rw [lg_entry_eq]
  generalize (lg_sl ([.int a, .int b]) ++ List.replicate (2 - (lg_sl ([.int a, .int b])).length) Slot.unset).toArray = ls at hl ⊢
  have hl : lv_has ls 2 [(0, .int a), (1, .int b)] := hl
  refine lv_iload_n hx hb dX2_step_0 rfl (lv_at hl 0 rfl) ?_
  refine lv_bipush (v := 31) hx hb dX2_step_1 (by decide) ?_
  refine lv_imul hx hb dX2_step_3 ?_
  refine lv_iload_n hx hb dX2_step_4 rfl (lv_at hl 1 rfl) ?_
  refine lv_iadd hx hb dX2_step_5 ?_
  refine lv_bipush (v := 7) hx hb dX2_step_6 (by decide) ?_
  refine lv_iadd hx hb dX2_step_8 ?_
  refine lv_ldc (v := 1000003) hx hb hown (hts (.constant RX2 197 (1000003)) (by decide +kernel)) dX2_step_9 ?_
  refine lv_irem hx hb dX2_step_11 (by decide) ?_
  exact W.iret (v := ((((a * 31) + b) + 7) - (((a * 31) + b) + 7) / 1000003 * 1000003)) hx hb hr (fun t ht hW9 => ⟨_, rfl, rfl, ht⟩) (fun q h => by cases h) dX2_step_12
end
section
set_option maxHeartbeats 4000000 in
set_option maxRecDepth 100000 in
theorem mtX1_isBad (l : Launch) (g : Ge) (σ : Sg) (μ : Mg) (o : Nat → Int64) (j : Nat) (hj : j < 16) : Met l yX1_isBad wsX1_isBad ({ frames := 0, cells := 0, slots := 0, locals := 0 } : Room) (va_Pc [.ref (gA g (13 + j))] (PW g σ μ o)) (vp_Si (fun r => r = bI (bad (σ.2.1 j)))) 0 0 (fun _ => False) := by
  refine Met.ofW (cc := cX1_isBad) (maxL := 1) (ret := (some .boolean)) (by decide) rfl ?_
  intro p e s m args below meth c s₁ B hml hv
  obtain ⟨rfl, hC, hW⟩ := hv
  have hx := B.exec
  have hb := B.bytes
  have hr := B.returns
  have hts := atoms_spec (ws := wsX1_isBad) B.pre
  have hown : s.vm.findClass RX1 = some m.cls := findClass_of_methodNamed B.named
  have hlocks := B.notSynchronized
  have hinX1 : ∀ w ∈ wsX10, w ∈ wsX1_isBad := by decide +kernel
  have hS : va_S (Az g) s.heap s.heap [] := va_S.rf
  have hl := lv_entry ([.ref (gA g (13 + j))]) (n := 1) (Nat.le_of_ble_eq_true rfl)
  rw [lg_entry_eq]
  generalize (lg_sl ([.ref (gA g (13 + j))]) ++ List.replicate (1 - (lg_sl ([.ref (gA g (13 + j))])).length) Slot.unset).toArray = ls at hl ⊢
  have hl : lv_has ls 1 [(0, .ref (gA g (13 + j)))] := hl
  refine lv_aload_n hx hb dX1_isBad_0 rfl (lv_at hl 0 rfl) ?_
  refine gE (v := .int (σ.2.1 j 7)) hx hb hts hinX1 hown hC hW hj 7 (by decide) (by decide +kernel) rfl rfl dX1_isBad_1 ?_
  refine lv_if_ne (tgt := 11) hx hb dX1_isBad_4 (by decide) (fun c_1 => ?_) (fun c_1 => ?_)
  · skip
    refine lv_iconst (v := 0) hx hb dX1_isBad_11 (by decide) ?_
    exact W.zret (v := 0) (ty := .boolean) hx hb hr rfl (fun t ht hW9 => ⟨_, rfl, by simp [bad, bI, c_1], ht⟩) (fun q h => by cases h) dX1_isBad_12
  · skip
    refine lv_iconst (v := 1) hx hb dX1_isBad_7 (by decide) ?_
    refine lv_goto (tgt := 12) hx hb dX1_isBad_8 (by decide) ?_
    exact W.zret (v := 1) (ty := .boolean) hx hb hr rfl (fun t ht hW9 => ⟨_, rfl, by simp [bad, bI, c_1], ht⟩) (fun q h => by cases h) dX1_isBad_12
set_option maxHeartbeats 4000000 in
set_option maxRecDepth 100000 in
theorem mtX1_compareVersion (l : Launch) (g : Ge) (σ : Sg) (μ : Mg) (o : Nat → Int64) (j k : Nat) (hj : j < 16) (hk : k < 16) : Met l yX1_compareVersion wsX1_compareVersion ({ frames := 1, cells := 0, slots := 0, locals := 21 } : Room) (va_Pc [.ref (gA g (13 + j)), .ref (gA g (13 + k))] (PW g σ μ o)) (vp_Si (fun r => r = cv (σ.2.1 j) (σ.2.1 k))) 0 0 (fun _ => False) := by
  refine Met.ofW (cc := cX1_compareVersion) (maxL := 2) (ret := (some .int)) (by decide) rfl ?_
  intro p e s m args below meth c s₁ B hml hv
  obtain ⟨rfl, hC, hW⟩ := hv
  have hx := B.exec
  have hb := B.bytes
  have hr := B.returns
  have hts := atoms_spec (ws := wsX1_compareVersion) B.pre
  have hown : s.vm.findClass RX1 = some m.cls := findClass_of_methodNamed B.named
  have hlocks := B.notSynchronized
  have hinX1 : ∀ w ∈ wsX10, w ∈ wsX1_compareVersion := by decide +kernel
  have hS : va_S (Az g) s.heap s.heap [] := va_S.rf
  have hl := lv_entry ([.ref (gA g (13 + j)), .ref (gA g (13 + k))]) (n := 2) (Nat.le_of_ble_eq_true rfl)
  rw [lg_entry_eq]
  generalize (lg_sl ([.ref (gA g (13 + j)), .ref (gA g (13 + k))]) ++ List.replicate (2 - (lg_sl ([.ref (gA g (13 + j)), .ref (gA g (13 + k))])).length) Slot.unset).toArray = ls at hl ⊢
  have hl : lv_has ls 2 [(0, .ref (gA g (13 + j))), (1, .ref (gA g (13 + k)))] := hl
  refine lv_aload_n hx hb dX1_compareVersion_0 rfl (lv_at hl 0 rfl) ?_
  refine gE (v := .int (σ.2.1 j 4)) hx hb hts hinX1 hown hC hW hj 4 (by decide) (by decide +kernel) rfl rfl dX1_compareVersion_1 ?_
  refine lv_aload_n hx hb dX1_compareVersion_4 rfl (lv_at hl 1 rfl) ?_
  refine gE (v := .int (σ.2.1 k 4)) hx hb hts hinX1 hown hC hW hk 4 (by decide) (by decide +kernel) rfl rfl dX1_compareVersion_5 ?_
  refine lv_icmp_eq (tgt := 28) hx hb dX1_compareVersion_8 (by decide) (fun c_1 => ?_) (fun c_1 => ?_)
  · skip
    refine lv_aload_n hx hb dX1_compareVersion_28 rfl (lv_at hl 0 rfl) ?_
    refine gE (v := .int (σ.2.1 j 5)) hx hb hts hinX1 hown hC hW hj 5 (by decide) (by decide +kernel) rfl rfl dX1_compareVersion_29 ?_
    refine lv_aload_n hx hb dX1_compareVersion_32 rfl (lv_at hl 1 rfl) ?_
    refine gE (v := .int (σ.2.1 k 5)) hx hb hts hinX1 hown hC hW hk 5 (by decide) (by decide +kernel) rfl rfl dX1_compareVersion_33 ?_
    refine vp_callSi (va_Run.run (va_runS (As := [.int (σ.2.1 j 5), .int (σ.2.1 k 5)]) (rest := []) ⟨hx, hb, hml, hown, hts⟩ (mtJ6_compare_7cf53 l (σ.2.1 j 5) (σ.2.1 k 5)) (va_cwS 2 hts gX1_compareVersion_J6_compare_7cf53 rfl rfl rfl (by decide +kernel) ⟨Nat.le_of_ble_eq_true rfl, Nat.le_of_ble_eq_true rfl⟩) ⟨P0.blind, fun U hU hW9 => ⟨rfl, trivial⟩⟩ rfl rfl hl.1 rfl (lv_room (Nat.le_of_ble_eq_true rfl)) dX1_compareVersion_36 ⟨Nat.zero_le _, Nat.zero_le _⟩)) (fun r_3 h_2 => ?_)
    obtain rfl : r_3 = icp (σ.2.1 j 5) (σ.2.1 k 5) := h_2
    exact W.iret (v := (icp (σ.2.1 j 5) (σ.2.1 k 5))) hx hb hr (fun t ht hW9 => ⟨_, rfl, by simp [cv, bI, c_1], ht⟩) (fun q h => by cases h) dX1_compareVersion_39
  · skip
    refine lv_aload_n hx hb dX1_compareVersion_11 rfl (lv_at hl 0 rfl) ?_
    refine gE (v := .int (σ.2.1 j 4)) hx hb hts hinX1 hown hC hW hj 4 (by decide) (by decide +kernel) rfl rfl dX1_compareVersion_12 ?_
    refine lv_aload_n hx hb dX1_compareVersion_15 rfl (lv_at hl 1 rfl) ?_
    refine gE (v := .int (σ.2.1 k 4)) hx hb hts hinX1 hown hC hW hk 4 (by decide) (by decide +kernel) rfl rfl dX1_compareVersion_16 ?_
    refine lv_icmp_le (tgt := 26) hx hb dX1_compareVersion_19 (by decide) (fun c_4 => ?_) (fun c_4 => ?_)
    · skip
      refine lv_iconst (v := (-1)) hx hb dX1_compareVersion_26 (by decide) ?_
      exact W.iret (v := (-1)) hx hb hr (fun t ht hW9 => ⟨_, rfl, by simp [cv, bI, c_1, c_4], ht⟩) (fun q h => by cases h) dX1_compareVersion_27
    · skip
      refine lv_iconst (v := 1) hx hb dX1_compareVersion_22 (by decide) ?_
      refine lv_goto (tgt := 27) hx hb dX1_compareVersion_23 (by decide) ?_
      exact W.iret (v := 1) hx hb hr (fun t ht hW9 => ⟨_, rfl, by simp [cv, bI, c_1, c_4], ht⟩) (fun q h => by cases h) dX1_compareVersion_27
set_option maxHeartbeats 4000000 in
set_option maxRecDepth 100000 in
theorem mtX1_isAheadOf (l : Launch) (g : Ge) (σ : Sg) (μ : Mg) (o : Nat → Int64) (j k : Nat) (hj : j < 16) (hk : k < 16) : Met l yX1_isAheadOf wsX1_isAheadOf ({ frames := 2, cells := 0, slots := 0, locals := 42 } : Room) (va_Pc [.ref (gA g (13 + j)), .ref (gA g (13 + k))] (PW g σ μ o)) (vp_Si (fun r => r = bI (ah (σ.2.1 j) (σ.2.1 k)))) 0 0 (fun _ => False) := by
  refine Met.ofW (cc := cX1_isAheadOf) (maxL := 3) (ret := (some .boolean)) (by decide) rfl ?_
  intro p e s m args below meth c s₁ B hml hv
  obtain ⟨rfl, hC, hW⟩ := hv
  have hx := B.exec
  have hb := B.bytes
  have hr := B.returns
  have hts := atoms_spec (ws := wsX1_isAheadOf) B.pre
  have hown : s.vm.findClass RX1 = some m.cls := findClass_of_methodNamed B.named
  have hlocks := B.notSynchronized
  have hinX1 : ∀ w ∈ wsX10, w ∈ wsX1_isAheadOf := by decide +kernel
  have hS : va_S (Az g) s.heap s.heap [] := va_S.rf
  have hl := lv_entry ([.ref (gA g (13 + j)), .ref (gA g (13 + k))]) (n := 3) (Nat.le_of_ble_eq_true rfl)
  rw [lg_entry_eq]
  generalize (lg_sl ([.ref (gA g (13 + j)), .ref (gA g (13 + k))]) ++ List.replicate (3 - (lg_sl ([.ref (gA g (13 + j)), .ref (gA g (13 + k))])).length) Slot.unset).toArray = ls at hl ⊢
  have hl : lv_has ls 3 [(0, .ref (gA g (13 + j))), (1, .ref (gA g (13 + k)))] := hl
  refine lv_aload_n hx hb dX1_isAheadOf_0 rfl (lv_at hl 0 rfl) ?_
  refine vp_callSi (va_Run.run (va_runV (As := []) (rest := []) ⟨hx, hb, hml, hown, hts⟩ (mtX1_isBad l g σ μ o j hj) (cwV 0 hts gX1_isAheadOf_X1_isBad rfl rfl rfl (by decide +kernel) ⟨Nat.le_of_ble_eq_true rfl, Nat.le_of_ble_eq_true rfl⟩) ⟨PW.blind, rcE hC hW hj, fun U hU hW9 => ⟨rfl, PW.at hC hS hW U hU hW9⟩⟩ rfl rfl hl.1 rfl (lv_room (Nat.le_of_ble_eq_true rfl)) dX1_isAheadOf_1 ⟨Nat.zero_le _, Nat.zero_le _⟩)) (fun r_2 h_1 => ?_)
  obtain rfl : r_2 = bI (bad (σ.2.1 j)) := h_1
  refine lv_aload_n hx hb dX1_isAheadOf_4 rfl (lv_at hl 1 rfl) ?_
  refine vp_callSi (va_Run.run (va_runV (As := []) (rest := [.int ((bI (bad (σ.2.1 j))))]) ⟨hx, hb, hml, hown, hts⟩ (mtX1_isBad l g σ μ o k hk) (cwV 0 hts gX1_isAheadOf_X1_isBad rfl rfl rfl (by decide +kernel) ⟨Nat.le_of_ble_eq_true rfl, Nat.le_of_ble_eq_true rfl⟩) ⟨PW.blind, rcE hC hW hk, fun U hU hW9 => ⟨rfl, PW.at hC hS hW U hU hW9⟩⟩ rfl rfl hl.1 rfl (lv_room (Nat.le_of_ble_eq_true rfl)) dX1_isAheadOf_5 ⟨Nat.zero_le _, Nat.zero_le _⟩)) (fun r_4 h_3 => ?_)
  obtain rfl : r_4 = bI (bad (σ.2.1 k)) := h_3
  refine lv_icmp_eq (tgt := 16) hx hb dX1_isAheadOf_8 (by decide) (fun c_5 => ?_) (fun c_5 => ?_)
  · skip
    refine lv_aload_n hx hb dX1_isAheadOf_16 rfl (lv_at hl 0 rfl) ?_
    refine gE (v := .int (σ.2.1 j 2)) hx hb hts hinX1 hown hC hW hj 2 (by decide) (by decide +kernel) rfl rfl dX1_isAheadOf_17 ?_
    refine lv_aload_n hx hb dX1_isAheadOf_20 rfl (lv_at hl 1 rfl) ?_
    refine gE (v := .int (σ.2.1 k 2)) hx hb hts hinX1 hown hC hW hk 2 (by decide) (by decide +kernel) rfl rfl dX1_isAheadOf_21 ?_
    refine lv_icmp_eq (tgt := 44) hx hb dX1_isAheadOf_24 (by decide) (fun c_6 => ?_) (fun c_6 => ?_)
    · skip
      refine lv_aload_n hx hb dX1_isAheadOf_44 rfl (lv_at hl 0 rfl) ?_
      refine lv_aload_n hx hb dX1_isAheadOf_45 rfl (lv_at hl 1 rfl) ?_
      refine vp_callSi (va_Run.run (va_runV (As := [.ref (gA g (13 + k))]) (rest := []) ⟨hx, hb, hml, hown, hts⟩ (mtX1_compareVersion l g σ μ o j k hj hk) (cwV 1 hts gX1_isAheadOf_X1_compareVersion rfl rfl rfl (by decide +kernel) ⟨Nat.le_of_ble_eq_true rfl, Nat.le_of_ble_eq_true rfl⟩) ⟨PW.blind, rcE hC hW hj, fun U hU hW9 => ⟨rfl, PW.at hC hS hW U hU hW9⟩⟩ rfl rfl hl.1 rfl (lv_room (Nat.le_of_ble_eq_true rfl)) dX1_isAheadOf_46 ⟨Nat.zero_le _, Nat.zero_le _⟩)) (fun r_8 h_7 => ?_)
      obtain rfl : r_8 = cv (σ.2.1 j) (σ.2.1 k) := h_7
      refine lv_istore_n (lv' := [(2, .int ((cv (σ.2.1 j) (σ.2.1 k)))), (0, .ref (gA g (13 + j))), (1, .ref (gA g (13 + k)))]) hx hb dX1_isAheadOf_49 rfl hl (by decide) rfl (fun ls hl => ?_)
      refine lv_iload_n hx hb dX1_isAheadOf_50 rfl (lv_at hl 0 rfl) ?_
      refine lv_if_eq (tgt := 64) hx hb dX1_isAheadOf_51 (by decide) (fun c_9 => ?_) (fun c_9 => ?_)
      · skip
        refine lv_aload_n hx hb dX1_isAheadOf_64 rfl (lv_at hl 1 rfl) ?_
        refine gE (v := .int (σ.2.1 j 3)) hx hb hts hinX1 hown hC hW hj 3 (by decide) (by decide +kernel) rfl rfl dX1_isAheadOf_65 ?_
        refine lv_aload_n hx hb dX1_isAheadOf_68 rfl (lv_at hl 2 rfl) ?_
        refine gE (v := .int (σ.2.1 k 3)) hx hb hts hinX1 hown hC hW hk 3 (by decide) (by decide +kernel) rfl rfl dX1_isAheadOf_69 ?_
        refine lv_icmp_eq (tgt := 92) hx hb dX1_isAheadOf_72 (by decide) (fun c_10 => ?_) (fun c_10 => ?_)
        · skip
          refine lv_aload_n hx hb dX1_isAheadOf_92 rfl (lv_at hl 1 rfl) ?_
          refine gE (v := .int (σ.2.1 j 1)) hx hb hts hinX1 hown hC hW hj 1 (by decide) (by decide +kernel) rfl rfl dX1_isAheadOf_93 ?_
          refine lv_aload_n hx hb dX1_isAheadOf_96 rfl (lv_at hl 2 rfl) ?_
          refine gE (v := .int (σ.2.1 k 1)) hx hb hts hinX1 hown hC hW hk 1 (by decide) (by decide +kernel) rfl rfl dX1_isAheadOf_97 ?_
          refine lv_icmp_ge (tgt := 107) hx hb dX1_isAheadOf_100 (by decide) (fun c_11 => ?_) (fun c_11 => ?_)
          · skip
            refine lv_iconst (v := 0) hx hb dX1_isAheadOf_107 (by decide) ?_
            exact W.zret (v := 0) (ty := .boolean) hx hb hr rfl (fun t ht hW9 => ⟨_, rfl, by unfold ah; simp [bI_t, bI_f, c_5, c_6, c_9, c_10, c_11], ht⟩) (fun q h => by cases h) dX1_isAheadOf_108
          · skip
            refine lv_iconst (v := 1) hx hb dX1_isAheadOf_103 (by decide) ?_
            refine lv_goto (tgt := 108) hx hb dX1_isAheadOf_104 (by decide) ?_
            exact W.zret (v := 1) (ty := .boolean) hx hb hr rfl (fun t ht hW9 => ⟨_, rfl, by unfold ah; simp [bI_t, bI_f, c_5, c_6, c_9, c_10, c_11], ht⟩) (fun q h => by cases h) dX1_isAheadOf_108
        · skip
          refine lv_aload_n hx hb dX1_isAheadOf_75 rfl (lv_at hl 1 rfl) ?_
          refine gE (v := .int (σ.2.1 j 3)) hx hb hts hinX1 hown hC hW hj 3 (by decide) (by decide +kernel) rfl rfl dX1_isAheadOf_76 ?_
          refine lv_aload_n hx hb dX1_isAheadOf_79 rfl (lv_at hl 2 rfl) ?_
          refine gE (v := .int (σ.2.1 k 3)) hx hb hts hinX1 hown hC hW hk 3 (by decide) (by decide +kernel) rfl rfl dX1_isAheadOf_80 ?_
          refine lv_icmp_ge (tgt := 90) hx hb dX1_isAheadOf_83 (by decide) (fun c_12 => ?_) (fun c_12 => ?_)
          · skip
            refine lv_iconst (v := 0) hx hb dX1_isAheadOf_90 (by decide) ?_
            exact W.zret (v := 0) (ty := .boolean) hx hb hr rfl (fun t ht hW9 => ⟨_, rfl, by unfold ah; simp [bI_t, bI_f, c_5, c_6, c_9, c_10, c_12], ht⟩) (fun q h => by cases h) dX1_isAheadOf_91
          · skip
            refine lv_iconst (v := 1) hx hb dX1_isAheadOf_86 (by decide) ?_
            refine lv_goto (tgt := 91) hx hb dX1_isAheadOf_87 (by decide) ?_
            exact W.zret (v := 1) (ty := .boolean) hx hb hr rfl (fun t ht hW9 => ⟨_, rfl, by unfold ah; simp [bI_t, bI_f, c_5, c_6, c_9, c_10, c_12], ht⟩) (fun q h => by cases h) dX1_isAheadOf_91
      · skip
        refine lv_iload_n hx hb dX1_isAheadOf_54 rfl (lv_at hl 0 rfl) ?_
        refine lv_if_le (tgt := 62) hx hb dX1_isAheadOf_55 (by decide) (fun c_13 => ?_) (fun c_13 => ?_)
        · skip
          refine lv_iconst (v := 0) hx hb dX1_isAheadOf_62 (by decide) ?_
          exact W.zret (v := 0) (ty := .boolean) hx hb hr rfl (fun t ht hW9 => ⟨_, rfl, by unfold ah; simp [bI_t, bI_f, c_5, c_6, c_9, c_13], ht⟩) (fun q h => by cases h) dX1_isAheadOf_63
        · skip
          refine lv_iconst (v := 1) hx hb dX1_isAheadOf_58 (by decide) ?_
          refine lv_goto (tgt := 63) hx hb dX1_isAheadOf_59 (by decide) ?_
          exact W.zret (v := 1) (ty := .boolean) hx hb hr rfl (fun t ht hW9 => ⟨_, rfl, by unfold ah; simp [bI_t, bI_f, c_5, c_6, c_9, c_13], ht⟩) (fun q h => by cases h) dX1_isAheadOf_63
    · skip
      refine lv_aload_n hx hb dX1_isAheadOf_27 rfl (lv_at hl 0 rfl) ?_
      refine gE (v := .int (σ.2.1 j 2)) hx hb hts hinX1 hown hC hW hj 2 (by decide) (by decide +kernel) rfl rfl dX1_isAheadOf_28 ?_
      refine lv_aload_n hx hb dX1_isAheadOf_31 rfl (lv_at hl 1 rfl) ?_
      refine gE (v := .int (σ.2.1 k 2)) hx hb hts hinX1 hown hC hW hk 2 (by decide) (by decide +kernel) rfl rfl dX1_isAheadOf_32 ?_
      refine lv_icmp_ge (tgt := 42) hx hb dX1_isAheadOf_35 (by decide) (fun c_14 => ?_) (fun c_14 => ?_)
      · skip
        refine lv_iconst (v := 0) hx hb dX1_isAheadOf_42 (by decide) ?_
        exact W.zret (v := 0) (ty := .boolean) hx hb hr rfl (fun t ht hW9 => ⟨_, rfl, by unfold ah; simp [bI_t, bI_f, c_5, c_6, c_14], ht⟩) (fun q h => by cases h) dX1_isAheadOf_43
      · skip
        refine lv_iconst (v := 1) hx hb dX1_isAheadOf_38 (by decide) ?_
        refine lv_goto (tgt := 43) hx hb dX1_isAheadOf_39 (by decide) ?_
        exact W.zret (v := 1) (ty := .boolean) hx hb hr rfl (fun t ht hW9 => ⟨_, rfl, by unfold ah; simp [bI_t, bI_f, c_5, c_6, c_14], ht⟩) (fun q h => by cases h) dX1_isAheadOf_43
  · skip
    refine lv_aload_n hx hb dX1_isAheadOf_11 rfl (lv_at hl 1 rfl) ?_
    refine vp_callSi (va_Run.run (va_runV (As := []) (rest := []) ⟨hx, hb, hml, hown, hts⟩ (mtX1_isBad l g σ μ o k hk) (cwV 0 hts gX1_isAheadOf_X1_isBad rfl rfl rfl (by decide +kernel) ⟨Nat.le_of_ble_eq_true rfl, Nat.le_of_ble_eq_true rfl⟩) ⟨PW.blind, rcE hC hW hk, fun U hU hW9 => ⟨rfl, PW.at hC hS hW U hU hW9⟩⟩ rfl rfl hl.1 rfl (lv_room (Nat.le_of_ble_eq_true rfl)) dX1_isAheadOf_12 ⟨Nat.zero_le _, Nat.zero_le _⟩)) (fun r_16 h_15 => ?_)
    obtain rfl : r_16 = bI (bad (σ.2.1 k)) := h_15
    exact W.zret (v := (bI (bad (σ.2.1 k)))) (ty := .boolean) hx hb hr (bI_nar _) (fun t ht hW9 => ⟨_, rfl, by unfold ah; simp [bI_t, bI_f, c_5], ht⟩) (fun q h => by cases h) dX1_isAheadOf_15
end
section
set_option maxHeartbeats 4000000 in
set_option maxRecDepth 100000 in
theorem mtX2_isFitting (l : Launch) (g : Ge) (σ : Sg) (μ : Mg) (o : Nat → Int64) (j : Nat) (hj : j < 16) : Met l yX2_isFitting wsX2_isFitting ({ frames := 1, cells := 0, slots := 0, locals := 22 } : Room) (va_Pc [.ref (gA g 0), .ref (gA g (13 + j))] (PW g σ μ o)) (vp_Si (fun r => r = bI (fit σ.1 (σ.2.1 j)))) 0 0 (fun _ => False) := by
  refine Met.ofW (cc := cX2_isFitting) (maxL := 2) (ret := (some .boolean)) (by decide) rfl ?_
  intro p e s m args below meth c s₁ B hml hv
  obtain ⟨rfl, hC, hW⟩ := hv
  have hx := B.exec
  have hb := B.bytes
  have hr := B.returns
  have hts := atoms_spec (ws := wsX2_isFitting) B.pre
  have hown : s.vm.findClass RX2 = some m.cls := findClass_of_methodNamed B.named
  have hlocks := B.notSynchronized
  have hinX1 : ∀ w ∈ wsX10, w ∈ wsX2_isFitting := by decide +kernel
  have hinX2 : ∀ w ∈ wsX20, w ∈ wsX2_isFitting := by decide +kernel
  have hS : va_S (Az g) s.heap s.heap [] := va_S.rf
  have hl := lv_entry ([.ref (gA g 0), .ref (gA g (13 + j))]) (n := 2) (Nat.le_of_ble_eq_true rfl)
  rw [lg_entry_eq]
  generalize (lg_sl ([.ref (gA g 0), .ref (gA g (13 + j))]) ++ List.replicate (2 - (lg_sl ([.ref (gA g 0), .ref (gA g (13 + j))])).length) Slot.unset).toArray = ls at hl ⊢
  have hl : lv_has ls 2 [(0, .ref (gA g 0)), (1, .ref (gA g (13 + j)))] := hl
  refine lv_aload_n hx hb dX2_isFitting_0 rfl (lv_at hl 1 rfl) ?_
  refine gEn (v := .int (σ.2.1 j 3)) hx hb hts hinX1 hown hC hW hj 3 (by decide) (by decide +kernel) rfl rfl dX2_isFitting_1 ?_
  refine lv_aload_n hx hb dX2_isFitting_4 rfl (lv_at hl 0 rfl) ?_
  refine gB (v := .int (σ.1 3)) hx hb hts hinX2 hown hC hW 5 (by decide) (by decide +kernel) rfl rfl dX2_isFitting_5 ?_
  refine lv_aload_n hx hb dX2_isFitting_8 rfl (lv_at hl 0 rfl) ?_
  refine gB (v := .int (σ.1 4)) hx hb hts hinX2 hown hC hW 6 (by decide) (by decide +kernel) rfl rfl dX2_isFitting_9 ?_
  refine vp_callSi (va_Run.run (va_runS (As := [.int (σ.2.1 j 3), .int (σ.1 3), .int (σ.1 4)]) (rest := []) ⟨hx, hb, hml, hown, hts⟩ (mtX2_isWithin l (σ.2.1 j 3) (σ.1 3) (σ.1 4)) (va_cwS 3 hts gX2_isFitting_X2_isWithin rfl rfl rfl (by decide +kernel) ⟨Nat.le_of_ble_eq_true rfl, Nat.le_of_ble_eq_true rfl⟩) ⟨P0.blind, fun U hU hW9 => ⟨rfl, trivial⟩⟩ rfl rfl hl.1 rfl (lv_room (Nat.le_of_ble_eq_true rfl)) dX2_isFitting_12 ⟨Nat.zero_le _, Nat.zero_le _⟩)) (fun r_2 h_1 => ?_)
  obtain rfl : r_2 = bI (wi (σ.2.1 j 3) (σ.1 3) (σ.1 4)) := h_1
  exact W.zret (v := (bI (wi (σ.2.1 j 3) (σ.1 3) (σ.1 4)))) (ty := .boolean) hx hb hr (bI_nar _) (fun t ht hW9 => ⟨_, rfl, rfl, ht⟩) (fun q h => by cases h) dX2_isFitting_15
end
section
set_option maxHeartbeats 4000000 in
set_option maxRecDepth 100000 in
theorem mtX2_findEntry (l : Launch) (g : Ge) (σ : Sg) (μ : Mg) (o : Nat → Int64) (n : Int32) : Met l yX2_findEntry wsX2_findEntry ({ frames := 0, cells := 0, slots := 0, locals := 0 } : Room) (va_Pc [.ref (gA g 0), .int n] (PW g σ μ o)) (va_Sq (fun r => r = (fs (pN σ.2.1 n) 16).map (fun j => gA g (13 + j)))) 0 0 (fun _ => False) := by
  refine Met.ofW (cc := cX2_findEntry) (maxL := 6) (ret := (some (.object "BootChooser$Entry"))) (by decide) rfl ?_
  intro p e s m args below meth c s₁ B hml hv
  obtain ⟨rfl, hC, hW⟩ := hv
  have hx := B.exec
  have hb := B.bytes
  have hr := B.returns
  have hts := atoms_spec (ws := wsX2_findEntry) B.pre
  have hown : s.vm.findClass RX2 = some m.cls := findClass_of_methodNamed B.named
  have hlocks := B.notSynchronized
  have hinX1 : ∀ w ∈ wsX10, w ∈ wsX2_findEntry := by decide +kernel
  have hinX2 : ∀ w ∈ wsX20, w ∈ wsX2_findEntry := by decide +kernel
  have hS : va_S (Az g) s.heap s.heap [] := va_S.rf
  have hl := lv_entry ([.ref (gA g 0), .int n]) (n := 6) (Nat.le_of_ble_eq_true rfl)
  rw [lg_entry_eq]
  generalize (lg_sl ([.ref (gA g 0), .int n]) ++ List.replicate (6 - (lg_sl ([.ref (gA g 0), .int n])).length) Slot.unset).toArray = ls at hl ⊢
  have hl : lv_has ls 6 [(0, .ref (gA g 0)), (1, .int n)] := hl
  refine lv_aload_n hx hb dX2_findEntry_0 rfl (lv_at hl 0 rfl) ?_
  refine gB (v := .ref (gA g 1)) hx hb hts hinX2 hown hC hW 0 (by decide) (by decide +kernel) rfl rfl dX2_findEntry_1 ?_
  refine lv_astore_n (lv' := [(2, .ref (gA g 1)), (0, .ref (gA g 0)), (1, .int n)]) hx hb dX2_findEntry_4 rfl hl (by decide) rfl (fun ls hl => ?_)
  refine lv_aload_n hx hb dX2_findEntry_5 rfl (lv_at hl 0 rfl) ?_
  refine rLen hx hb hC hW dX2_findEntry_6 ?_
  refine lv_istore_n (lv' := [(3, .int 16), (2, .ref (gA g 1)), (0, .ref (gA g 0)), (1, .int n)]) hx hb dX2_findEntry_7 rfl hl (by decide) rfl (fun ls hl => ?_)
  refine lv_iconst (v := 0) hx hb dX2_findEntry_8 (by decide) ?_
  refine lv_istore (lv' := [(4, .int 0), (3, .int 16), (2, .ref (gA g 1)), (0, .ref (gA g 0)), (1, .int n)]) hx hb dX2_findEntry_9 hl (by decide) rfl (fun ls hl => ?_)
  have loop_1 : ∀ (n9 i : Nat), i ≤ 16 → 16 < i + n9 → fs (pN σ.2.1 n) i = none → ∀ (ls : Array Slot), lv_has ls 6 [(0, .ref (gA g 0)), (1, .int n), (2, .ref (gA g 1)), (3, .int 16), (4, .int (nI i))] → W p l e (headSpec wsX2_findEntry ({ frames := 0, cells := 0, slots := 0, locals := 0 } : Room)).room s m ([.ref (gA g 0), .int n] : List Value).toArray below meth c s.heap [] 0 0 (MQ below (va_Sq (fun r => r = (fs (pN σ.2.1 n) 16).map (fun j => gA g (13 + j)))) ([.ref (gA g 0), .int n] : List Value).toArray s 0 0 (fun _ => False)) (F0 m 11 ls []) := by
    intro n9
    induction n9 with
    | zero =>
      intro i h1 h2
      exact absurd h2 (by omega)
    | succ n9 ih =>
      intro i hi hin hinv ls hl
      refine lv_iload hx hb dX2_findEntry_11 (lv_at hl 4 rfl) ?_
      refine lv_iload_n hx hb dX2_findEntry_13 rfl (lv_at hl 3 rfl) ?_
      refine lv_icmp_ge (tgt := 49) hx hb dX2_findEntry_14 (by decide) (fun c_2 => ?_) (fun c_2 => ?_)
      · skip
        have hi16 : i = 16 := (nI16_le hi).mp c_2
        refine lv_null hx hb dX2_findEntry_49 ?_
        exact W.aret (v := va_rf none) hx hb hr (Or.inl ⟨_, rfl⟩) (va_rf_or _) (fun t ht hW9 => ⟨none, rfl, by rw [hi16] at hinv; rw [hinv]; rfl, ht⟩) (fun q h => by cases h) dX2_findEntry_50
      · skip
        have hlt : i < 16 := (nI16_le_n hi).mp c_2
        refine lv_aload_n hx hb dX2_findEntry_17 rfl (lv_at hl 2 rfl) ?_
        refine lv_iload hx hb dX2_findEntry_18 (lv_at hl 4 rfl) ?_
        refine rLd hx hb hC hW hlt dX2_findEntry_20 ?_
        refine lv_astore (lv' := [(5, .ref (gA g (13 + i))), (0, .ref (gA g 0)), (1, .int n), (2, .ref (gA g 1)), (3, .int 16), (4, .int (nI i))]) hx hb dX2_findEntry_21 hl (by decide) rfl (fun ls hl => ?_)
        refine lv_aload hx hb dX2_findEntry_23 (lv_at hl 0 rfl) ?_
        refine gEn (v := .int (σ.2.1 i 0)) hx hb hts hinX1 hown hC hW hlt 0 (by decide) (by decide +kernel) rfl rfl dX2_findEntry_25 ?_
        refine lv_if_eq (tgt := 43) hx hb dX2_findEntry_28 (by decide) (fun c_3 => ?_) (fun c_3 => ?_)
        · skip
          refine lv_iinc (v := nI (i + 1)) (lv' := [(4, .int (nI (i + 1))), (5, .ref (gA g (13 + i))), (0, .ref (gA g 0)), (1, .int n), (2, .ref (gA g 1)), (3, .int 16)]) hx hb dX2_findEntry_43 hl (k := 5) rfl (nI_1 _) (by decide) rfl (fun ls hl => ?_)
          refine lv_goto (tgt := 11) hx hb dX2_findEntry_46 (by decide) ?_
          exact ih (i + 1) (by omega) (by omega) (fs_step hinv (by simp [pN, thr, c_3])) ls (by exact lv_sub hl [2, 3, 4, 5, 0] rfl)
        · skip
          refine lv_aload hx hb dX2_findEntry_31 (lv_at hl 0 rfl) ?_
          refine gEn (v := .int (σ.2.1 i 1)) hx hb hts hinX1 hown hC hW hlt 1 (by decide) (by decide +kernel) rfl rfl dX2_findEntry_33 ?_
          refine lv_iload_n hx hb dX2_findEntry_36 rfl (lv_at hl 2 rfl) ?_
          refine lv_icmp_ne (tgt := 43) hx hb dX2_findEntry_37 (by decide) (fun c_4 => ?_) (fun c_4 => ?_)
          · skip
            refine lv_iinc (v := nI (i + 1)) (lv' := [(4, .int (nI (i + 1))), (5, .ref (gA g (13 + i))), (0, .ref (gA g 0)), (1, .int n), (2, .ref (gA g 1)), (3, .int 16)]) hx hb dX2_findEntry_43 hl (k := 5) rfl (nI_1 _) (by decide) rfl (fun ls hl => ?_)
            refine lv_goto (tgt := 11) hx hb dX2_findEntry_46 (by decide) ?_
            exact ih (i + 1) (by omega) (by omega) (fs_step hinv (by simp [pN, thr, c_3, c_4])) ls (by exact lv_sub hl [2, 3, 4, 5, 0] rfl)
          · skip
            refine lv_aload hx hb dX2_findEntry_40 (lv_at hl 0 rfl) ?_
            exact W.aret (v := va_rf (some (gA g (13 + i)))) hx hb hr (Or.inl ⟨_, rfl⟩) (va_rf_or _) (fun t ht hW9 => ⟨(some (gA g (13 + i))), rfl, by rw [fs_hit hinv (by simp [pN, thr, c_3, c_4]) hlt]; rfl, ht⟩) (fun q h => by cases h) dX2_findEntry_42
  exact loop_1 (16 + 1) 0 (Nat.zero_le _) (by omega) rfl ls (by exact lv_sub hl [3, 4, 2, 1, 0] rfl)
set_option maxHeartbeats 4000000 in
set_option maxRecDepth 100000 in
theorem mtX2_freeRow (l : Launch) (g : Ge) (σ : Sg) (μ : Mg) (o : Nat → Int64)  : Met l yX2_freeRow wsX2_freeRow ({ frames := 0, cells := 0, slots := 0, locals := 0 } : Room) (va_Pc [.ref (gA g 0)] (PW g σ μ o)) (va_Sq (fun r => r = (fs (frP σ.2.1) 16).map (fun j => gA g (13 + j)))) 0 0 (fun _ => False) := by
  refine Met.ofW (cc := cX2_freeRow) (maxL := 5) (ret := (some (.object "BootChooser$Entry"))) (by decide) rfl ?_
  intro p e s m args below meth c s₁ B hml hv
  obtain ⟨rfl, hC, hW⟩ := hv
  have hx := B.exec
  have hb := B.bytes
  have hr := B.returns
  have hts := atoms_spec (ws := wsX2_freeRow) B.pre
  have hown : s.vm.findClass RX2 = some m.cls := findClass_of_methodNamed B.named
  have hlocks := B.notSynchronized
  have hinX1 : ∀ w ∈ wsX10, w ∈ wsX2_freeRow := by decide +kernel
  have hinX2 : ∀ w ∈ wsX20, w ∈ wsX2_freeRow := by decide +kernel
  have hS : va_S (Az g) s.heap s.heap [] := va_S.rf
  have hl := lv_entry ([.ref (gA g 0)]) (n := 5) (Nat.le_of_ble_eq_true rfl)
  rw [lg_entry_eq]
  generalize (lg_sl ([.ref (gA g 0)]) ++ List.replicate (5 - (lg_sl ([.ref (gA g 0)])).length) Slot.unset).toArray = ls at hl ⊢
  have hl : lv_has ls 5 [(0, .ref (gA g 0))] := hl
  refine lv_aload_n hx hb dX2_freeRow_0 rfl (lv_at hl 0 rfl) ?_
  refine gB (v := .ref (gA g 1)) hx hb hts hinX2 hown hC hW 0 (by decide) (by decide +kernel) rfl rfl dX2_freeRow_1 ?_
  refine lv_astore_n (lv' := [(1, .ref (gA g 1)), (0, .ref (gA g 0))]) hx hb dX2_freeRow_4 rfl hl (by decide) rfl (fun ls hl => ?_)
  refine lv_aload_n hx hb dX2_freeRow_5 rfl (lv_at hl 0 rfl) ?_
  refine rLen hx hb hC hW dX2_freeRow_6 ?_
  refine lv_istore_n (lv' := [(2, .int 16), (1, .ref (gA g 1)), (0, .ref (gA g 0))]) hx hb dX2_freeRow_7 rfl hl (by decide) rfl (fun ls hl => ?_)
  refine lv_iconst (v := 0) hx hb dX2_freeRow_8 (by decide) ?_
  refine lv_istore_n (lv' := [(3, .int 0), (2, .int 16), (1, .ref (gA g 1)), (0, .ref (gA g 0))]) hx hb dX2_freeRow_9 rfl hl (by decide) rfl (fun ls hl => ?_)
  have loop_1 : ∀ (n9 i : Nat), i ≤ 16 → 16 < i + n9 → fs (frP σ.2.1) i = none → ∀ (ls : Array Slot), lv_has ls 5 [(0, .ref (gA g 0)), (1, .ref (gA g 1)), (2, .int 16), (3, .int (nI i))] → W p l e (headSpec wsX2_freeRow ({ frames := 0, cells := 0, slots := 0, locals := 0 } : Room)).room s m ([.ref (gA g 0)] : List Value).toArray below meth c s.heap [] 0 0 (MQ below (va_Sq (fun r => r = (fs (frP σ.2.1) 16).map (fun j => gA g (13 + j)))) ([.ref (gA g 0)] : List Value).toArray s 0 0 (fun _ => False)) (F0 m 10 ls []) := by
    intro n9
    induction n9 with
    | zero =>
      intro i h1 h2
      exact absurd h2 (by omega)
    | succ n9 ih =>
      intro i hi hin hinv ls hl
      refine lv_iload_n hx hb dX2_freeRow_10 rfl (lv_at hl 3 rfl) ?_
      refine lv_iload_n hx hb dX2_freeRow_11 rfl (lv_at hl 2 rfl) ?_
      refine lv_icmp_ge (tgt := 37) hx hb dX2_freeRow_12 (by decide) (fun c_2 => ?_) (fun c_2 => ?_)
      · skip
        have hi16 : i = 16 := (nI16_le hi).mp c_2
        refine lv_null hx hb dX2_freeRow_37 ?_
        exact W.aret (v := va_rf none) hx hb hr (Or.inl ⟨_, rfl⟩) (va_rf_or _) (fun t ht hW9 => ⟨none, rfl, by rw [hi16] at hinv; rw [hinv]; rfl, ht⟩) (fun q h => by cases h) dX2_freeRow_38
      · skip
        have hlt : i < 16 := (nI16_le_n hi).mp c_2
        refine lv_aload_n hx hb dX2_freeRow_15 rfl (lv_at hl 1 rfl) ?_
        refine lv_iload_n hx hb dX2_freeRow_16 rfl (lv_at hl 3 rfl) ?_
        refine rLd hx hb hC hW hlt dX2_freeRow_17 ?_
        refine lv_astore (lv' := [(4, .ref (gA g (13 + i))), (0, .ref (gA g 0)), (1, .ref (gA g 1)), (2, .int 16), (3, .int (nI i))]) hx hb dX2_freeRow_18 hl (by decide) rfl (fun ls hl => ?_)
        refine lv_aload hx hb dX2_freeRow_20 (lv_at hl 0 rfl) ?_
        refine gEn (v := .int (σ.2.1 i 0)) hx hb hts hinX1 hown hC hW hlt 0 (by decide) (by decide +kernel) rfl rfl dX2_freeRow_22 ?_
        refine lv_if_ne (tgt := 31) hx hb dX2_freeRow_25 (by decide) (fun c_3 => ?_) (fun c_3 => ?_)
        · skip
          refine lv_iinc (v := nI (i + 1)) (lv' := [(3, .int (nI (i + 1))), (4, .ref (gA g (13 + i))), (0, .ref (gA g 0)), (1, .ref (gA g 1)), (2, .int 16)]) hx hb dX2_freeRow_31 hl (k := 4) rfl (nI_1 _) (by decide) rfl (fun ls hl => ?_)
          refine lv_goto (tgt := 10) hx hb dX2_freeRow_34 (by decide) ?_
          exact ih (i + 1) (by omega) (by omega) (fs_step hinv (by simp [frP, c_3])) ls (by exact lv_sub hl [2, 3, 4, 0] rfl)
        · skip
          refine lv_aload hx hb dX2_freeRow_28 (lv_at hl 0 rfl) ?_
          exact W.aret (v := va_rf (some (gA g (13 + i)))) hx hb hr (Or.inl ⟨_, rfl⟩) (va_rf_or _) (fun t ht hW9 => ⟨(some (gA g (13 + i))), rfl, by rw [fs_hit hinv (by simp [frP, c_3]) hlt]; rfl, ht⟩) (fun q h => by cases h) dX2_freeRow_30
  exact loop_1 (16 + 1) 0 (Nat.zero_le _) (by omega) rfl ls (by exact lv_sub hl [3, 2, 1, 0] rfl)
set_option maxHeartbeats 4000000 in
set_option maxRecDepth 100000 in
theorem mtX2_countEntries (l : Launch) (g : Ge) (σ : Sg) (μ : Mg) (o : Nat → Int64)  : Met l yX2_countEntries wsX2_countEntries ({ frames := 0, cells := 0, slots := 0, locals := 0 } : Room) (va_Pc [.ref (gA g 0)] (PW g σ μ o)) (vp_Si (fun r => r = nI (ct (thr σ.2.1) 16))) 0 0 (fun _ => False) := by
  refine Met.ofW (cc := cX2_countEntries) (maxL := 6) (ret := (some .int)) (by decide) rfl ?_
  intro p e s m args below meth c s₁ B hml hv
  obtain ⟨rfl, hC, hW⟩ := hv
  have hx := B.exec
  have hb := B.bytes
  have hr := B.returns
  have hts := atoms_spec (ws := wsX2_countEntries) B.pre
  have hown : s.vm.findClass RX2 = some m.cls := findClass_of_methodNamed B.named
  have hlocks := B.notSynchronized
  have hinX1 : ∀ w ∈ wsX10, w ∈ wsX2_countEntries := by decide +kernel
  have hinX2 : ∀ w ∈ wsX20, w ∈ wsX2_countEntries := by decide +kernel
  have hS : va_S (Az g) s.heap s.heap [] := va_S.rf
  have hl := lv_entry ([.ref (gA g 0)]) (n := 6) (Nat.le_of_ble_eq_true rfl)
  rw [lg_entry_eq]
  generalize (lg_sl ([.ref (gA g 0)]) ++ List.replicate (6 - (lg_sl ([.ref (gA g 0)])).length) Slot.unset).toArray = ls at hl ⊢
  have hl : lv_has ls 6 [(0, .ref (gA g 0))] := hl
  refine lv_iconst (v := 0) hx hb dX2_countEntries_0 (by decide) ?_
  refine lv_istore_n (lv' := [(1, .int 0), (0, .ref (gA g 0))]) hx hb dX2_countEntries_1 rfl hl (by decide) rfl (fun ls hl => ?_)
  refine lv_aload_n hx hb dX2_countEntries_2 rfl (lv_at hl 1 rfl) ?_
  refine gB (v := .ref (gA g 1)) hx hb hts hinX2 hown hC hW 0 (by decide) (by decide +kernel) rfl rfl dX2_countEntries_3 ?_
  refine lv_astore_n (lv' := [(2, .ref (gA g 1)), (1, .int 0), (0, .ref (gA g 0))]) hx hb dX2_countEntries_6 rfl hl (by decide) rfl (fun ls hl => ?_)
  refine lv_aload_n hx hb dX2_countEntries_7 rfl (lv_at hl 0 rfl) ?_
  refine rLen hx hb hC hW dX2_countEntries_8 ?_
  refine lv_istore_n (lv' := [(3, .int 16), (2, .ref (gA g 1)), (1, .int 0), (0, .ref (gA g 0))]) hx hb dX2_countEntries_9 rfl hl (by decide) rfl (fun ls hl => ?_)
  refine lv_iconst (v := 0) hx hb dX2_countEntries_10 (by decide) ?_
  refine lv_istore (lv' := [(4, .int 0), (3, .int 16), (2, .ref (gA g 1)), (1, .int 0), (0, .ref (gA g 0))]) hx hb dX2_countEntries_11 hl (by decide) rfl (fun ls hl => ?_)
  have loop_1 : ∀ (n9 i : Nat), i ≤ 16 → 16 < i + n9 → True → ∀ (ls : Array Slot), lv_has ls 6 [(0, .ref (gA g 0)), (1, .int (nI (ct (thr σ.2.1) i))), (2, .ref (gA g 1)), (3, .int 16), (4, .int (nI i))] → W p l e (headSpec wsX2_countEntries ({ frames := 0, cells := 0, slots := 0, locals := 0 } : Room)).room s m ([.ref (gA g 0)] : List Value).toArray below meth c s.heap [] 0 0 (MQ below (vp_Si (fun r => r = nI (ct (thr σ.2.1) 16))) ([.ref (gA g 0)] : List Value).toArray s 0 0 (fun _ => False)) (F0 m 13 ls []) := by
    intro n9
    induction n9 with
    | zero =>
      intro i h1 h2
      exact absurd h2 (by omega)
    | succ n9 ih =>
      intro i hi hin hinv ls hl
      refine lv_iload hx hb dX2_countEntries_13 (lv_at hl 4 rfl) ?_
      refine lv_iload_n hx hb dX2_countEntries_15 rfl (lv_at hl 3 rfl) ?_
      refine lv_icmp_ge (tgt := 42) hx hb dX2_countEntries_16 (by decide) (fun c_2 => ?_) (fun c_2 => ?_)
      · skip
        have hi16 : i = 16 := (nI16_le hi).mp c_2
        refine lv_iload_n hx hb dX2_countEntries_42 rfl (lv_at hl 1 rfl) ?_
        exact W.iret (v := nI (ct (thr σ.2.1) i)) hx hb hr (fun t ht hW9 => ⟨_, rfl, by rw [hi16], ht⟩) (fun q h => by cases h) dX2_countEntries_43
      · skip
        have hlt : i < 16 := (nI16_le_n hi).mp c_2
        refine lv_aload_n hx hb dX2_countEntries_19 rfl (lv_at hl 2 rfl) ?_
        refine lv_iload hx hb dX2_countEntries_20 (lv_at hl 4 rfl) ?_
        refine rLd hx hb hC hW hlt dX2_countEntries_22 ?_
        refine lv_astore (lv' := [(5, .ref (gA g (13 + i))), (0, .ref (gA g 0)), (1, .int (nI (ct (thr σ.2.1) i))), (2, .ref (gA g 1)), (3, .int 16), (4, .int (nI i))]) hx hb dX2_countEntries_23 hl (by decide) rfl (fun ls hl => ?_)
        refine lv_aload hx hb dX2_countEntries_25 (lv_at hl 0 rfl) ?_
        refine gEn (v := .int (σ.2.1 i 0)) hx hb hts hinX1 hown hC hW hlt 0 (by decide) (by decide +kernel) rfl rfl dX2_countEntries_27 ?_
        refine lv_if_eq (tgt := 36) hx hb dX2_countEntries_30 (by decide) (fun c_3 => ?_) (fun c_3 => ?_)
        · skip
          refine lv_iinc (v := nI (i + 1)) (lv' := [(4, .int (nI (i + 1))), (5, .ref (gA g (13 + i))), (0, .ref (gA g 0)), (1, .int (nI (ct (thr σ.2.1) i))), (2, .ref (gA g 1)), (3, .int 16)]) hx hb dX2_countEntries_36 hl (k := 5) rfl (nI_1 _) (by decide) rfl (fun ls hl => ?_)
          refine lv_goto (tgt := 13) hx hb dX2_countEntries_39 (by decide) ?_
          have hct : ct (thr σ.2.1) (i + 1) = ct (thr σ.2.1) i := ct_f (by simp [thr, c_3])
          exact ih (i + 1) (by omega) (by omega) trivial ls (by rw [hct]; exact lv_sub hl [2, 3, 4, 5, 0] rfl)
        · skip
          refine lv_iinc (v := nI ((ct (thr σ.2.1) i) + 1)) (lv' := [(1, .int (nI ((ct (thr σ.2.1) i) + 1))), (5, .ref (gA g (13 + i))), (0, .ref (gA g 0)), (2, .ref (gA g 1)), (3, .int 16), (4, .int (nI i))]) hx hb dX2_countEntries_33 hl (k := 2) rfl (nI_1 _) (by decide) rfl (fun ls hl => ?_)
          refine lv_iinc (v := nI (i + 1)) (lv' := [(4, .int (nI (i + 1))), (1, .int (nI ((ct (thr σ.2.1) i) + 1))), (5, .ref (gA g (13 + i))), (0, .ref (gA g 0)), (2, .ref (gA g 1)), (3, .int 16)]) hx hb dX2_countEntries_36 hl (k := 5) rfl (nI_1 _) (by decide) rfl (fun ls hl => ?_)
          refine lv_goto (tgt := 13) hx hb dX2_countEntries_39 (by decide) ?_
          have hct : ct (thr σ.2.1) (i + 1) = ct (thr σ.2.1) i + 1 := ct_t (by simp [thr, c_3])
          exact ih (i + 1) (by omega) (by omega) trivial ls (by rw [hct]; exact lv_sub hl [3, 1, 4, 5, 0] rfl)
  exact loop_1 (16 + 1) 0 (Nat.zero_le _) (by omega) trivial ls (by exact lv_sub hl [4, 3, 2, 1, 0] rfl)
set_option maxHeartbeats 4000000 in
set_option maxRecDepth 100000 in
theorem mtX2_countFitting (l : Launch) (g : Ge) (σ : Sg) (μ : Mg) (o : Nat → Int64)  : Met l yX2_countFitting wsX2_countFitting ({ frames := 2, cells := 0, slots := 0, locals := 43 } : Room) (va_Pc [.ref (gA g 0)] (PW g σ μ o)) (vp_Si (fun r => r = nI (ct (pF σ) 16))) 0 0 (fun _ => False) := by
  refine Met.ofW (cc := cX2_countFitting) (maxL := 6) (ret := (some .int)) (by decide) rfl ?_
  intro p e s m args below meth c s₁ B hml hv
  obtain ⟨rfl, hC, hW⟩ := hv
  have hx := B.exec
  have hb := B.bytes
  have hr := B.returns
  have hts := atoms_spec (ws := wsX2_countFitting) B.pre
  have hown : s.vm.findClass RX2 = some m.cls := findClass_of_methodNamed B.named
  have hlocks := B.notSynchronized
  have hinX1 : ∀ w ∈ wsX10, w ∈ wsX2_countFitting := by decide +kernel
  have hinX2 : ∀ w ∈ wsX20, w ∈ wsX2_countFitting := by decide +kernel
  have hS : va_S (Az g) s.heap s.heap [] := va_S.rf
  have hl := lv_entry ([.ref (gA g 0)]) (n := 6) (Nat.le_of_ble_eq_true rfl)
  rw [lg_entry_eq]
  generalize (lg_sl ([.ref (gA g 0)]) ++ List.replicate (6 - (lg_sl ([.ref (gA g 0)])).length) Slot.unset).toArray = ls at hl ⊢
  have hl : lv_has ls 6 [(0, .ref (gA g 0))] := hl
  refine lv_iconst (v := 0) hx hb dX2_countFitting_0 (by decide) ?_
  refine lv_istore_n (lv' := [(1, .int 0), (0, .ref (gA g 0))]) hx hb dX2_countFitting_1 rfl hl (by decide) rfl (fun ls hl => ?_)
  refine lv_aload_n hx hb dX2_countFitting_2 rfl (lv_at hl 1 rfl) ?_
  refine gB (v := .ref (gA g 1)) hx hb hts hinX2 hown hC hW 0 (by decide) (by decide +kernel) rfl rfl dX2_countFitting_3 ?_
  refine lv_astore_n (lv' := [(2, .ref (gA g 1)), (1, .int 0), (0, .ref (gA g 0))]) hx hb dX2_countFitting_6 rfl hl (by decide) rfl (fun ls hl => ?_)
  refine lv_aload_n hx hb dX2_countFitting_7 rfl (lv_at hl 0 rfl) ?_
  refine rLen hx hb hC hW dX2_countFitting_8 ?_
  refine lv_istore_n (lv' := [(3, .int 16), (2, .ref (gA g 1)), (1, .int 0), (0, .ref (gA g 0))]) hx hb dX2_countFitting_9 rfl hl (by decide) rfl (fun ls hl => ?_)
  refine lv_iconst (v := 0) hx hb dX2_countFitting_10 (by decide) ?_
  refine lv_istore (lv' := [(4, .int 0), (3, .int 16), (2, .ref (gA g 1)), (1, .int 0), (0, .ref (gA g 0))]) hx hb dX2_countFitting_11 hl (by decide) rfl (fun ls hl => ?_)
  have loop_1 : ∀ (n9 i : Nat), i ≤ 16 → 16 < i + n9 → True → ∀ (ls : Array Slot), lv_has ls 6 [(0, .ref (gA g 0)), (1, .int (nI (ct (pF σ) i))), (2, .ref (gA g 1)), (3, .int 16), (4, .int (nI i))] → W p l e (headSpec wsX2_countFitting ({ frames := 2, cells := 0, slots := 0, locals := 43 } : Room)).room s m ([.ref (gA g 0)] : List Value).toArray below meth c s.heap [] 0 0 (MQ below (vp_Si (fun r => r = nI (ct (pF σ) 16))) ([.ref (gA g 0)] : List Value).toArray s 0 0 (fun _ => False)) (F0 m 13 ls []) := by
    intro n9
    induction n9 with
    | zero =>
      intro i h1 h2
      exact absurd h2 (by omega)
    | succ n9 ih =>
      intro i hi hin hinv ls hl
      refine lv_iload hx hb dX2_countFitting_13 (lv_at hl 4 rfl) ?_
      refine lv_iload_n hx hb dX2_countFitting_15 rfl (lv_at hl 3 rfl) ?_
      refine lv_icmp_ge (tgt := 51) hx hb dX2_countFitting_16 (by decide) (fun c_2 => ?_) (fun c_2 => ?_)
      · skip
        have hi16 : i = 16 := (nI16_le hi).mp c_2
        refine lv_iload_n hx hb dX2_countFitting_51 rfl (lv_at hl 1 rfl) ?_
        exact W.iret (v := nI (ct (pF σ) i)) hx hb hr (fun t ht hW9 => ⟨_, rfl, by rw [hi16], ht⟩) (fun q h => by cases h) dX2_countFitting_52
      · skip
        have hlt : i < 16 := (nI16_le_n hi).mp c_2
        refine lv_aload_n hx hb dX2_countFitting_19 rfl (lv_at hl 2 rfl) ?_
        refine lv_iload hx hb dX2_countFitting_20 (lv_at hl 4 rfl) ?_
        refine rLd hx hb hC hW hlt dX2_countFitting_22 ?_
        refine lv_astore (lv' := [(5, .ref (gA g (13 + i))), (0, .ref (gA g 0)), (1, .int (nI (ct (pF σ) i))), (2, .ref (gA g 1)), (3, .int 16), (4, .int (nI i))]) hx hb dX2_countFitting_23 hl (by decide) rfl (fun ls hl => ?_)
        refine lv_aload hx hb dX2_countFitting_25 (lv_at hl 0 rfl) ?_
        refine gEn (v := .int (σ.2.1 i 0)) hx hb hts hinX1 hown hC hW hlt 0 (by decide) (by decide +kernel) rfl rfl dX2_countFitting_27 ?_
        refine lv_if_eq (tgt := 45) hx hb dX2_countFitting_30 (by decide) (fun c_3 => ?_) (fun c_3 => ?_)
        · skip
          refine lv_iinc (v := nI (i + 1)) (lv' := [(4, .int (nI (i + 1))), (5, .ref (gA g (13 + i))), (0, .ref (gA g 0)), (1, .int (nI (ct (pF σ) i))), (2, .ref (gA g 1)), (3, .int 16)]) hx hb dX2_countFitting_45 hl (k := 5) rfl (nI_1 _) (by decide) rfl (fun ls hl => ?_)
          refine lv_goto (tgt := 13) hx hb dX2_countFitting_48 (by decide) ?_
          have hct : ct (pF σ) (i + 1) = ct (pF σ) i := ct_f (by simp [pF, thr, bI, c_3])
          exact ih (i + 1) (by omega) (by omega) trivial ls (by rw [hct]; exact lv_sub hl [2, 3, 4, 5, 0] rfl)
        · skip
          refine lv_aload_n hx hb dX2_countFitting_33 rfl (lv_at hl 1 rfl) ?_
          refine lv_aload hx hb dX2_countFitting_34 (lv_at hl 0 rfl) ?_
          refine vp_callSi (va_Run.run (va_runV (As := [.ref (gA g (13 + i))]) (rest := []) ⟨hx, hb, hml, hown, hts⟩ (mtX2_isFitting l g σ μ o i hlt) (cwV 1 hts gX2_countFitting_X2_isFitting rfl rfl rfl (by decide +kernel) ⟨Nat.le_of_ble_eq_true rfl, Nat.le_of_ble_eq_true rfl⟩) ⟨PW.blind, rcB hC hW, fun U hU hW9 => ⟨rfl, PW.at hC hS hW U hU hW9⟩⟩ rfl rfl hl.1 rfl (lv_room (Nat.le_of_ble_eq_true rfl)) dX2_countFitting_36 ⟨Nat.zero_le _, Nat.zero_le _⟩)) (fun r_5 h_4 => ?_)
          obtain rfl : r_5 = bI (fit σ.1 (σ.2.1 i)) := h_4
          refine lv_if_eq (tgt := 45) hx hb dX2_countFitting_39 (by decide) (fun c_6 => ?_) (fun c_6 => ?_)
          · skip
            replace c_6 := bI_0.mp c_6
            refine lv_iinc (v := nI (i + 1)) (lv' := [(4, .int (nI (i + 1))), (5, .ref (gA g (13 + i))), (0, .ref (gA g 0)), (1, .int (nI (ct (pF σ) i))), (2, .ref (gA g 1)), (3, .int 16)]) hx hb dX2_countFitting_45 hl (k := 5) rfl (nI_1 _) (by decide) rfl (fun ls hl => ?_)
            refine lv_goto (tgt := 13) hx hb dX2_countFitting_48 (by decide) ?_
            have hct : ct (pF σ) (i + 1) = ct (pF σ) i := ct_f (by simp [pF, thr, bI, c_3, c_6])
            exact ih (i + 1) (by omega) (by omega) trivial ls (by rw [hct]; exact lv_sub hl [2, 3, 4, 5, 0] rfl)
          · skip
            replace c_6 := bI_n0.mp c_6
            refine lv_iinc (v := nI ((ct (pF σ) i) + 1)) (lv' := [(1, .int (nI ((ct (pF σ) i) + 1))), (5, .ref (gA g (13 + i))), (0, .ref (gA g 0)), (2, .ref (gA g 1)), (3, .int 16), (4, .int (nI i))]) hx hb dX2_countFitting_42 hl (k := 2) rfl (nI_1 _) (by decide) rfl (fun ls hl => ?_)
            refine lv_iinc (v := nI (i + 1)) (lv' := [(4, .int (nI (i + 1))), (1, .int (nI ((ct (pF σ) i) + 1))), (5, .ref (gA g (13 + i))), (0, .ref (gA g 0)), (2, .ref (gA g 1)), (3, .int 16)]) hx hb dX2_countFitting_45 hl (k := 5) rfl (nI_1 _) (by decide) rfl (fun ls hl => ?_)
            refine lv_goto (tgt := 13) hx hb dX2_countFitting_48 (by decide) ?_
            have hct : ct (pF σ) (i + 1) = ct (pF σ) i + 1 := ct_t (by simp [pF, thr, bI, c_3, c_6])
            exact ih (i + 1) (by omega) (by omega) trivial ls (by rw [hct]; exact lv_sub hl [3, 1, 4, 5, 0] rfl)
  exact loop_1 (16 + 1) 0 (Nat.zero_le _) (by omega) trivial ls (by exact lv_sub hl [4, 3, 2, 1, 0] rfl)
set_option maxHeartbeats 4000000 in
set_option maxRecDepth 100000 in
theorem mtX2_countAhead (l : Launch) (g : Ge) (σ : Sg) (μ : Mg) (o : Nat → Int64) (j : Nat) (hj : j < 16) : Met l yX2_countAhead wsX2_countAhead ({ frames := 3, cells := 0, slots := 0, locals := 64 } : Room) (va_Pc [.ref (gA g 0), .ref (gA g (13 + j))] (PW g σ μ o)) (vp_Si (fun r => r = nI (ct (pA σ.2.1 j) 16))) 0 0 (fun _ => False) := by
  refine Met.ofW (cc := cX2_countAhead) (maxL := 7) (ret := (some .int)) (by decide) rfl ?_
  intro p e s m args below meth c s₁ B hml hv
  obtain ⟨rfl, hC, hW⟩ := hv
  have hx := B.exec
  have hb := B.bytes
  have hr := B.returns
  have hts := atoms_spec (ws := wsX2_countAhead) B.pre
  have hown : s.vm.findClass RX2 = some m.cls := findClass_of_methodNamed B.named
  have hlocks := B.notSynchronized
  have hinX1 : ∀ w ∈ wsX10, w ∈ wsX2_countAhead := by decide +kernel
  have hinX2 : ∀ w ∈ wsX20, w ∈ wsX2_countAhead := by decide +kernel
  have hS : va_S (Az g) s.heap s.heap [] := va_S.rf
  have hl := lv_entry ([.ref (gA g 0), .ref (gA g (13 + j))]) (n := 7) (Nat.le_of_ble_eq_true rfl)
  rw [lg_entry_eq]
  generalize (lg_sl ([.ref (gA g 0), .ref (gA g (13 + j))]) ++ List.replicate (7 - (lg_sl ([.ref (gA g 0), .ref (gA g (13 + j))])).length) Slot.unset).toArray = ls at hl ⊢
  have hl : lv_has ls 7 [(0, .ref (gA g 0)), (1, .ref (gA g (13 + j)))] := hl
  refine lv_iconst (v := 0) hx hb dX2_countAhead_0 (by decide) ?_
  refine lv_istore_n (lv' := [(2, .int 0), (0, .ref (gA g 0)), (1, .ref (gA g (13 + j)))]) hx hb dX2_countAhead_1 rfl hl (by decide) rfl (fun ls hl => ?_)
  refine lv_aload_n hx hb dX2_countAhead_2 rfl (lv_at hl 1 rfl) ?_
  refine gB (v := .ref (gA g 1)) hx hb hts hinX2 hown hC hW 0 (by decide) (by decide +kernel) rfl rfl dX2_countAhead_3 ?_
  refine lv_astore_n (lv' := [(3, .ref (gA g 1)), (2, .int 0), (0, .ref (gA g 0)), (1, .ref (gA g (13 + j)))]) hx hb dX2_countAhead_6 rfl hl (by decide) rfl (fun ls hl => ?_)
  refine lv_aload_n hx hb dX2_countAhead_7 rfl (lv_at hl 0 rfl) ?_
  refine rLen hx hb hC hW dX2_countAhead_8 ?_
  refine lv_istore (lv' := [(4, .int 16), (3, .ref (gA g 1)), (2, .int 0), (0, .ref (gA g 0)), (1, .ref (gA g (13 + j)))]) hx hb dX2_countAhead_9 hl (by decide) rfl (fun ls hl => ?_)
  refine lv_iconst (v := 0) hx hb dX2_countAhead_11 (by decide) ?_
  refine lv_istore (lv' := [(5, .int 0), (4, .int 16), (3, .ref (gA g 1)), (2, .int 0), (0, .ref (gA g 0)), (1, .ref (gA g (13 + j)))]) hx hb dX2_countAhead_12 hl (by decide) rfl (fun ls hl => ?_)
  have loop_1 : ∀ (n9 i : Nat), i ≤ 16 → 16 < i + n9 → True → ∀ (ls : Array Slot), lv_has ls 7 [(0, .ref (gA g 0)), (1, .ref (gA g (13 + j))), (2, .int (nI (ct (pA σ.2.1 j) i))), (3, .ref (gA g 1)), (4, .int 16), (5, .int (nI i))] → W p l e (headSpec wsX2_countAhead ({ frames := 3, cells := 0, slots := 0, locals := 64 } : Room)).room s m ([.ref (gA g 0), .ref (gA g (13 + j))] : List Value).toArray below meth c s.heap [] 0 0 (MQ below (vp_Si (fun r => r = nI (ct (pA σ.2.1 j) 16))) ([.ref (gA g 0), .ref (gA g (13 + j))] : List Value).toArray s 0 0 (fun _ => False)) (F0 m 14 ls []) := by
    intro n9
    induction n9 with
    | zero =>
      intro i h1 h2
      exact absurd h2 (by omega)
    | succ n9 ih =>
      intro i hi hin hinv ls hl
      refine lv_iload hx hb dX2_countAhead_14 (lv_at hl 5 rfl) ?_
      refine lv_iload hx hb dX2_countAhead_16 (lv_at hl 4 rfl) ?_
      refine lv_icmp_ge (tgt := 53) hx hb dX2_countAhead_18 (by decide) (fun c_2 => ?_) (fun c_2 => ?_)
      · skip
        have hi16 : i = 16 := (nI16_le hi).mp c_2
        refine lv_iload_n hx hb dX2_countAhead_53 rfl (lv_at hl 2 rfl) ?_
        exact W.iret (v := nI (ct (pA σ.2.1 j) i)) hx hb hr (fun t ht hW9 => ⟨_, rfl, by rw [hi16], ht⟩) (fun q h => by cases h) dX2_countAhead_54
      · skip
        have hlt : i < 16 := (nI16_le_n hi).mp c_2
        refine lv_aload_n hx hb dX2_countAhead_21 rfl (lv_at hl 3 rfl) ?_
        refine lv_iload hx hb dX2_countAhead_22 (lv_at hl 5 rfl) ?_
        refine rLd hx hb hC hW hlt dX2_countAhead_24 ?_
        refine lv_astore (lv' := [(6, .ref (gA g (13 + i))), (0, .ref (gA g 0)), (1, .ref (gA g (13 + j))), (2, .int (nI (ct (pA σ.2.1 j) i))), (3, .ref (gA g 1)), (4, .int 16), (5, .int (nI i))]) hx hb dX2_countAhead_25 hl (by decide) rfl (fun ls hl => ?_)
        refine lv_aload hx hb dX2_countAhead_27 (lv_at hl 0 rfl) ?_
        refine gEn (v := .int (σ.2.1 i 0)) hx hb hts hinX1 hown hC hW hlt 0 (by decide) (by decide +kernel) rfl rfl dX2_countAhead_29 ?_
        refine lv_if_eq (tgt := 47) hx hb dX2_countAhead_32 (by decide) (fun c_3 => ?_) (fun c_3 => ?_)
        · skip
          refine lv_iinc (v := nI (i + 1)) (lv' := [(5, .int (nI (i + 1))), (6, .ref (gA g (13 + i))), (0, .ref (gA g 0)), (1, .ref (gA g (13 + j))), (2, .int (nI (ct (pA σ.2.1 j) i))), (3, .ref (gA g 1)), (4, .int 16)]) hx hb dX2_countAhead_47 hl (k := 6) rfl (nI_1 _) (by decide) rfl (fun ls hl => ?_)
          refine lv_goto (tgt := 14) hx hb dX2_countAhead_50 (by decide) ?_
          have hct : ct (pA σ.2.1 j) (i + 1) = ct (pA σ.2.1 j) i := ct_f (by simp [pA, thr, bI, c_3])
          exact ih (i + 1) (by omega) (by omega) trivial ls (by rw [hct]; exact lv_sub hl [2, 3, 4, 5, 6, 0] rfl)
        · skip
          refine lv_aload hx hb dX2_countAhead_35 (lv_at hl 0 rfl) ?_
          refine lv_aload_n hx hb dX2_countAhead_37 rfl (lv_at hl 2 rfl) ?_
          refine vp_callSi (va_Run.run (va_runVN (As := [.ref (gA g (13 + j))]) (rest := []) ⟨hx, hb, hml, hown, hts⟩ (mtX1_isAheadOf l g σ μ o i j hlt hj) ⟨(va_cnB (host := "BootChooser") 1 hts gX2_countAhead_X1_isAheadOf_n173 rfl rfl rfl (va_Nw.of (A := #[]) rfl (hC.2.1.nest (w := .methodLinkNest RX2 173 yX1_isAheadOf "BootChooser") (by decide +kernel) rfl)) (hts (.initialized RX1) (by decide +kernel)) (by decide +kernel) ⟨Nat.le_of_ble_eq_true rfl, Nat.le_of_ble_eq_true rfl⟩), (hts (.instanceMethod yX1_isAheadOf) (by decide +kernel)), (hts (.selects RX1 yX1_isAheadOf yX1_isAheadOf) (by decide +kernel))⟩ ⟨PW.blind, rcE hC hW hlt, fun U hU hW9 => ⟨rfl, PW.at hC hS hW U hU hW9⟩⟩ rfl rfl hl.1 rfl (lv_room (Nat.le_of_ble_eq_true rfl)) dX2_countAhead_38 ⟨Nat.zero_le _, Nat.zero_le _⟩)) (fun r_5 h_4 => ?_)
          obtain rfl : r_5 = bI (ah (σ.2.1 i) (σ.2.1 j)) := h_4
          refine lv_if_eq (tgt := 47) hx hb dX2_countAhead_41 (by decide) (fun c_6 => ?_) (fun c_6 => ?_)
          · skip
            replace c_6 := bI_0.mp c_6
            refine lv_iinc (v := nI (i + 1)) (lv' := [(5, .int (nI (i + 1))), (6, .ref (gA g (13 + i))), (0, .ref (gA g 0)), (1, .ref (gA g (13 + j))), (2, .int (nI (ct (pA σ.2.1 j) i))), (3, .ref (gA g 1)), (4, .int 16)]) hx hb dX2_countAhead_47 hl (k := 6) rfl (nI_1 _) (by decide) rfl (fun ls hl => ?_)
            refine lv_goto (tgt := 14) hx hb dX2_countAhead_50 (by decide) ?_
            have hct : ct (pA σ.2.1 j) (i + 1) = ct (pA σ.2.1 j) i := ct_f (by simp [pA, thr, bI, c_3, c_6])
            exact ih (i + 1) (by omega) (by omega) trivial ls (by rw [hct]; exact lv_sub hl [2, 3, 4, 5, 6, 0] rfl)
          · skip
            replace c_6 := bI_n0.mp c_6
            refine lv_iinc (v := nI ((ct (pA σ.2.1 j) i) + 1)) (lv' := [(2, .int (nI ((ct (pA σ.2.1 j) i) + 1))), (6, .ref (gA g (13 + i))), (0, .ref (gA g 0)), (1, .ref (gA g (13 + j))), (3, .ref (gA g 1)), (4, .int 16), (5, .int (nI i))]) hx hb dX2_countAhead_44 hl (k := 3) rfl (nI_1 _) (by decide) rfl (fun ls hl => ?_)
            refine lv_iinc (v := nI (i + 1)) (lv' := [(5, .int (nI (i + 1))), (2, .int (nI ((ct (pA σ.2.1 j) i) + 1))), (6, .ref (gA g (13 + i))), (0, .ref (gA g 0)), (1, .ref (gA g (13 + j))), (3, .ref (gA g 1)), (4, .int 16)]) hx hb dX2_countAhead_47 hl (k := 6) rfl (nI_1 _) (by decide) rfl (fun ls hl => ?_)
            refine lv_goto (tgt := 14) hx hb dX2_countAhead_50 (by decide) ?_
            have hct : ct (pA σ.2.1 j) (i + 1) = ct (pA σ.2.1 j) i + 1 := ct_t (by simp [pA, thr, bI, c_3, c_6])
            exact ih (i + 1) (by omega) (by omega) trivial ls (by rw [hct]; exact lv_sub hl [3, 4, 1, 5, 6, 0] rfl)
  exact loop_1 (16 + 1) 0 (Nat.zero_le _) (by omega) trivial ls (by exact lv_sub hl [4, 5, 3, 2, 1, 0] rfl)
set_option maxHeartbeats 4000000 in
set_option maxRecDepth 100000 in
theorem mtX2_entryWithPlace (l : Launch) (g : Ge) (σ : Sg) (μ : Mg) (o : Nat → Int64) (pl : Int32) : Met l yX2_entryWithPlace wsX2_entryWithPlace ({ frames := 4, cells := 0, slots := 0, locals := 90 } : Room) (va_Pc [.ref (gA g 0), .int pl] (PW g σ μ o)) (va_Sq (fun r => r = (fs (pP σ.2.1 pl) 16).map (fun j => gA g (13 + j)))) 0 0 (fun _ => False) := by
  refine Met.ofW (cc := cX2_entryWithPlace) (maxL := 6) (ret := (some (.object "BootChooser$Entry"))) (by decide) rfl ?_
  intro p e s m args below meth c s₁ B hml hv
  obtain ⟨rfl, hC, hW⟩ := hv
  have hx := B.exec
  have hb := B.bytes
  have hr := B.returns
  have hts := atoms_spec (ws := wsX2_entryWithPlace) B.pre
  have hown : s.vm.findClass RX2 = some m.cls := findClass_of_methodNamed B.named
  have hlocks := B.notSynchronized
  have hinX1 : ∀ w ∈ wsX10, w ∈ wsX2_entryWithPlace := by decide +kernel
  have hinX2 : ∀ w ∈ wsX20, w ∈ wsX2_entryWithPlace := by decide +kernel
  have hS : va_S (Az g) s.heap s.heap [] := va_S.rf
  have hl := lv_entry ([.ref (gA g 0), .int pl]) (n := 6) (Nat.le_of_ble_eq_true rfl)
  rw [lg_entry_eq]
  generalize (lg_sl ([.ref (gA g 0), .int pl]) ++ List.replicate (6 - (lg_sl ([.ref (gA g 0), .int pl])).length) Slot.unset).toArray = ls at hl ⊢
  have hl : lv_has ls 6 [(0, .ref (gA g 0)), (1, .int pl)] := hl
  refine lv_aload_n hx hb dX2_entryWithPlace_0 rfl (lv_at hl 0 rfl) ?_
  refine gB (v := .ref (gA g 1)) hx hb hts hinX2 hown hC hW 0 (by decide) (by decide +kernel) rfl rfl dX2_entryWithPlace_1 ?_
  refine lv_astore_n (lv' := [(2, .ref (gA g 1)), (0, .ref (gA g 0)), (1, .int pl)]) hx hb dX2_entryWithPlace_4 rfl hl (by decide) rfl (fun ls hl => ?_)
  refine lv_aload_n hx hb dX2_entryWithPlace_5 rfl (lv_at hl 0 rfl) ?_
  refine rLen hx hb hC hW dX2_entryWithPlace_6 ?_
  refine lv_istore_n (lv' := [(3, .int 16), (2, .ref (gA g 1)), (0, .ref (gA g 0)), (1, .int pl)]) hx hb dX2_entryWithPlace_7 rfl hl (by decide) rfl (fun ls hl => ?_)
  refine lv_iconst (v := 0) hx hb dX2_entryWithPlace_8 (by decide) ?_
  refine lv_istore (lv' := [(4, .int 0), (3, .int 16), (2, .ref (gA g 1)), (0, .ref (gA g 0)), (1, .int pl)]) hx hb dX2_entryWithPlace_9 hl (by decide) rfl (fun ls hl => ?_)
  have loop_1 : ∀ (n9 i : Nat), i ≤ 16 → 16 < i + n9 → fs (pP σ.2.1 pl) i = none → ∀ (ls : Array Slot), lv_has ls 6 [(0, .ref (gA g 0)), (1, .int pl), (2, .ref (gA g 1)), (3, .int 16), (4, .int (nI i))] → W p l e (headSpec wsX2_entryWithPlace ({ frames := 4, cells := 0, slots := 0, locals := 90 } : Room)).room s m ([.ref (gA g 0), .int pl] : List Value).toArray below meth c s.heap [] 0 0 (MQ below (va_Sq (fun r => r = (fs (pP σ.2.1 pl) 16).map (fun j => gA g (13 + j)))) ([.ref (gA g 0), .int pl] : List Value).toArray s 0 0 (fun _ => False)) (F0 m 11 ls []) := by
    intro n9
    induction n9 with
    | zero =>
      intro i h1 h2
      exact absurd h2 (by omega)
    | succ n9 ih =>
      intro i hi hin hinv ls hl
      refine lv_iload hx hb dX2_entryWithPlace_11 (lv_at hl 4 rfl) ?_
      refine lv_iload_n hx hb dX2_entryWithPlace_13 rfl (lv_at hl 3 rfl) ?_
      refine lv_icmp_ge (tgt := 50) hx hb dX2_entryWithPlace_14 (by decide) (fun c_2 => ?_) (fun c_2 => ?_)
      · skip
        have hi16 : i = 16 := (nI16_le hi).mp c_2
        refine lv_null hx hb dX2_entryWithPlace_50 ?_
        exact W.aret (v := va_rf none) hx hb hr (Or.inl ⟨_, rfl⟩) (va_rf_or _) (fun t ht hW9 => ⟨none, rfl, by rw [hi16] at hinv; rw [hinv]; rfl, ht⟩) (fun q h => by cases h) dX2_entryWithPlace_51
      · skip
        have hlt : i < 16 := (nI16_le_n hi).mp c_2
        refine lv_aload_n hx hb dX2_entryWithPlace_17 rfl (lv_at hl 2 rfl) ?_
        refine lv_iload hx hb dX2_entryWithPlace_18 (lv_at hl 4 rfl) ?_
        refine rLd hx hb hC hW hlt dX2_entryWithPlace_20 ?_
        refine lv_astore (lv' := [(5, .ref (gA g (13 + i))), (0, .ref (gA g 0)), (1, .int pl), (2, .ref (gA g 1)), (3, .int 16), (4, .int (nI i))]) hx hb dX2_entryWithPlace_21 hl (by decide) rfl (fun ls hl => ?_)
        refine lv_aload hx hb dX2_entryWithPlace_23 (lv_at hl 0 rfl) ?_
        refine gEn (v := .int (σ.2.1 i 0)) hx hb hts hinX1 hown hC hW hlt 0 (by decide) (by decide +kernel) rfl rfl dX2_entryWithPlace_25 ?_
        refine lv_if_eq (tgt := 44) hx hb dX2_entryWithPlace_28 (by decide) (fun c_3 => ?_) (fun c_3 => ?_)
        · skip
          refine lv_iinc (v := nI (i + 1)) (lv' := [(4, .int (nI (i + 1))), (5, .ref (gA g (13 + i))), (0, .ref (gA g 0)), (1, .int pl), (2, .ref (gA g 1)), (3, .int 16)]) hx hb dX2_entryWithPlace_44 hl (k := 5) rfl (nI_1 _) (by decide) rfl (fun ls hl => ?_)
          refine lv_goto (tgt := 11) hx hb dX2_entryWithPlace_47 (by decide) ?_
          exact ih (i + 1) (by omega) (by omega) (fs_step hinv (by simp [pP, thr, c_3])) ls (by exact lv_sub hl [2, 3, 4, 5, 0] rfl)
        · skip
          refine lv_aload_n hx hb dX2_entryWithPlace_31 rfl (lv_at hl 1 rfl) ?_
          refine lv_aload hx hb dX2_entryWithPlace_32 (lv_at hl 0 rfl) ?_
          refine vp_callSi (va_Run.run (va_runV (As := [.ref (gA g (13 + i))]) (rest := []) ⟨hx, hb, hml, hown, hts⟩ (mtX2_countAhead l g σ μ o i hlt) (cwV 1 hts gX2_entryWithPlace_X2_countAhead rfl rfl rfl (by decide +kernel) ⟨Nat.le_of_ble_eq_true rfl, Nat.le_of_ble_eq_true rfl⟩) ⟨PW.blind, rcB hC hW, fun U hU hW9 => ⟨rfl, PW.at hC hS hW U hU hW9⟩⟩ rfl rfl hl.1 rfl (lv_room (Nat.le_of_ble_eq_true rfl)) dX2_entryWithPlace_34 ⟨Nat.zero_le _, Nat.zero_le _⟩)) (fun r_5 h_4 => ?_)
          obtain rfl : r_5 = nI (ct (pA σ.2.1 i) 16) := h_4
          refine lv_iload_n hx hb dX2_entryWithPlace_37 rfl (lv_at hl 2 rfl) ?_
          refine lv_icmp_ne (tgt := 44) hx hb dX2_entryWithPlace_38 (by decide) (fun c_6 => ?_) (fun c_6 => ?_)
          · skip
            refine lv_iinc (v := nI (i + 1)) (lv' := [(4, .int (nI (i + 1))), (5, .ref (gA g (13 + i))), (0, .ref (gA g 0)), (1, .int pl), (2, .ref (gA g 1)), (3, .int 16)]) hx hb dX2_entryWithPlace_44 hl (k := 5) rfl (nI_1 _) (by decide) rfl (fun ls hl => ?_)
            refine lv_goto (tgt := 11) hx hb dX2_entryWithPlace_47 (by decide) ?_
            exact ih (i + 1) (by omega) (by omega) (fs_step hinv (by simp [pP, thr, c_3, c_6])) ls (by exact lv_sub hl [2, 3, 4, 5, 0] rfl)
          · skip
            refine lv_aload hx hb dX2_entryWithPlace_41 (lv_at hl 0 rfl) ?_
            exact W.aret (v := va_rf (some (gA g (13 + i)))) hx hb hr (Or.inl ⟨_, rfl⟩) (va_rf_or _) (fun t ht hW9 => ⟨(some (gA g (13 + i))), rfl, by rw [fs_hit hinv (by simp [pP, thr, c_3, c_6]) hlt]; rfl, ht⟩) (fun q h => by cases h) dX2_entryWithPlace_43
  exact loop_1 (16 + 1) 0 (Nat.zero_le _) (by omega) rfl ls (by exact lv_sub hl [3, 4, 2, 1, 0] rfl)
end
section
set_option maxHeartbeats 4000000 in
set_option maxRecDepth 100000 in
theorem mtX2_firstFittingNotBad (l : Launch) (g : Ge) (σ : Sg) (μ : Mg) (o : Nat → Int64)  : Met l yX2_firstFittingNotBad wsX2_firstFittingNotBad ({ frames := 3, cells := 0, slots := 0, locals := 64 } : Room) (va_Pc [.ref (gA g 0)] (PW g σ μ o)) (va_Sq (fun r => r = (ff σ.2.1 (pC σ) 16).map (fun j => gA g (13 + j)))) 0 0 (fun _ => False) := by
  refine Met.ofW (cc := cX2_firstFittingNotBad) (maxL := 6) (ret := (some (.object "BootChooser$Entry"))) (by decide) rfl ?_
  intro p e s m args below meth c s₁ B hml hv
  obtain ⟨rfl, hC, hW⟩ := hv
  have hx := B.exec
  have hb := B.bytes
  have hr := B.returns
  have hts := atoms_spec (ws := wsX2_firstFittingNotBad) B.pre
  have hown : s.vm.findClass RX2 = some m.cls := findClass_of_methodNamed B.named
  have hlocks := B.notSynchronized
  have hinX1 : ∀ w ∈ wsX10, w ∈ wsX2_firstFittingNotBad := by decide +kernel
  have hinX2 : ∀ w ∈ wsX20, w ∈ wsX2_firstFittingNotBad := by decide +kernel
  have hS : va_S (Az g) s.heap s.heap [] := va_S.rf
  have hl := lv_entry ([.ref (gA g 0)]) (n := 6) (Nat.le_of_ble_eq_true rfl)
  rw [lg_entry_eq]
  generalize (lg_sl ([.ref (gA g 0)]) ++ List.replicate (6 - (lg_sl ([.ref (gA g 0)])).length) Slot.unset).toArray = ls at hl ⊢
  have hl : lv_has ls 6 [(0, .ref (gA g 0))] := hl
  refine lv_null hx hb dX2_firstFittingNotBad_0 ?_
  refine lv_astore_nN (lv' := [(1, .null), (0, .ref (gA g 0))]) hx hb dX2_firstFittingNotBad_1 rfl hl (by decide) rfl (fun ls hl => ?_)
  refine lv_aload_n hx hb dX2_firstFittingNotBad_2 rfl (lv_at hl 1 rfl) ?_
  refine gB (v := .ref (gA g 1)) hx hb hts hinX2 hown hC hW 0 (by decide) (by decide +kernel) rfl rfl dX2_firstFittingNotBad_3 ?_
  refine lv_astore_n (lv' := [(2, .ref (gA g 1)), (1, .null), (0, .ref (gA g 0))]) hx hb dX2_firstFittingNotBad_6 rfl hl (by decide) rfl (fun ls hl => ?_)
  refine lv_aload_n hx hb dX2_firstFittingNotBad_7 rfl (lv_at hl 0 rfl) ?_
  refine rLen hx hb hC hW dX2_firstFittingNotBad_8 ?_
  refine lv_istore_n (lv' := [(3, .int 16), (2, .ref (gA g 1)), (1, .null), (0, .ref (gA g 0))]) hx hb dX2_firstFittingNotBad_9 rfl hl (by decide) rfl (fun ls hl => ?_)
  refine lv_iconst (v := 0) hx hb dX2_firstFittingNotBad_10 (by decide) ?_
  refine lv_istore (lv' := [(4, .int 0), (3, .int 16), (2, .ref (gA g 1)), (1, .null), (0, .ref (gA g 0))]) hx hb dX2_firstFittingNotBad_11 hl (by decide) rfl (fun ls hl => ?_)
  have loop_1 : ∀ (n9 i : Nat), i ≤ 16 → 16 < i + n9 → ∀ (ls : Array Slot), lv_has ls 6 [(0, .ref (gA g 0)), (1, va_rf ((ff σ.2.1 (pC σ) i).map (fun j => gA g (13 + j)))), (2, .ref (gA g 1)), (3, .int 16), (4, .int (nI i))] → W p l e (headSpec wsX2_firstFittingNotBad ({ frames := 3, cells := 0, slots := 0, locals := 64 } : Room)).room s m ([.ref (gA g 0)] : List Value).toArray below meth c s.heap [] 0 0 (MQ below (va_Sq (fun r => r = (ff σ.2.1 (pC σ) 16).map (fun j => gA g (13 + j)))) ([.ref (gA g 0)] : List Value).toArray s 0 0 (fun _ => False)) (F0 m 13 ls []) := by
    intro n9
    induction n9 with
    | zero =>
      intro i h1 h2
      exact absurd h2 (by omega)
    | succ n9 ih =>
      intro i hi hin ls hl
      cases hff : ff σ.2.1 (pC σ) i with
      | none =>
        rw [hff] at hl
        have hl : lv_has ls 6 [(0, .ref (gA g 0)), (1, .null), (2, .ref (gA g 1)), (3, .int 16), (4, .int (nI i))] := hl
        refine lv_iload hx hb dX2_firstFittingNotBad_13 (lv_at hl 4 rfl) ?_
        refine lv_iload_n hx hb dX2_firstFittingNotBad_15 rfl (lv_at hl 3 rfl) ?_
        refine lv_icmp_ge (tgt := 72) hx hb dX2_firstFittingNotBad_16 (by decide) (fun c_1 => ?_) (fun c_1 => ?_)
        · skip
          have hi16 : i = 16 := (nI16_le hi).mp c_1
          refine lv_aload_nN hx hb dX2_firstFittingNotBad_72 rfl (lv_at hl 1 rfl) ?_
          exact W.aret (v := va_rf none) hx hb hr (Or.inl ⟨_, rfl⟩) (va_rf_or _) (fun t ht hW9 => ⟨none, rfl, by rw [hi16] at hff; rw [hff]; rfl, ht⟩) (fun q h => by cases h) dX2_firstFittingNotBad_73
        · skip
          have hlt : i < 16 := (nI16_le_n hi).mp c_1
          refine lv_aload_n hx hb dX2_firstFittingNotBad_19 rfl (lv_at hl 2 rfl) ?_
          refine lv_iload hx hb dX2_firstFittingNotBad_20 (lv_at hl 4 rfl) ?_
          refine rLd hx hb hC hW hlt dX2_firstFittingNotBad_22 ?_
          refine lv_astore (lv' := [(5, .ref (gA g (13 + i))), (0, .ref (gA g 0)), (1, .null), (2, .ref (gA g 1)), (3, .int 16), (4, .int (nI i))]) hx hb dX2_firstFittingNotBad_23 hl (by decide) rfl (fun ls hl => ?_)
          refine lv_aload hx hb dX2_firstFittingNotBad_25 (lv_at hl 0 rfl) ?_
          refine gEn (v := .int (σ.2.1 i 0)) hx hb hts hinX1 hown hC hW hlt 0 (by decide) (by decide +kernel) rfl rfl dX2_firstFittingNotBad_27 ?_
          refine lv_if_eq (tgt := 66) hx hb dX2_firstFittingNotBad_30 (by decide) (fun c_2 => ?_) (fun c_2 => ?_)
          · skip
            refine lv_iinc (v := nI (i + 1)) (lv' := [(4, .int (nI (i + 1))), (5, .ref (gA g (13 + i))), (0, .ref (gA g 0)), (1, .null), (2, .ref (gA g 1)), (3, .int 16)]) hx hb dX2_firstFittingNotBad_66 hl (k := 5) rfl (nI_1 _) (by decide) rfl (fun ls hl => ?_)
            refine lv_goto (tgt := 13) hx hb dX2_firstFittingNotBad_69 (by decide) ?_
            have hct : ff σ.2.1 (pC σ) (i + 1) = none := (ff_f (by simp [pC, thr, bI, fb, hff, c_2])).trans hff
            exact ih (i + 1) (by omega) (by omega) ls (by rw [hct]; exact lv_sub hl [2, 3, 4, 5, 0] rfl)
          · skip
            refine lv_aload_n hx hb dX2_firstFittingNotBad_33 rfl (lv_at hl 1 rfl) ?_
            refine lv_aload hx hb dX2_firstFittingNotBad_34 (lv_at hl 0 rfl) ?_
            refine vp_callSi (va_Run.run (va_runV (As := [.ref (gA g (13 + i))]) (rest := []) ⟨hx, hb, hml, hown, hts⟩ (mtX2_isFitting l g σ μ o i hlt) (cwV 1 hts gX2_firstFittingNotBad_X2_isFitting rfl rfl rfl (by decide +kernel) ⟨Nat.le_of_ble_eq_true rfl, Nat.le_of_ble_eq_true rfl⟩) ⟨PW.blind, rcB hC hW, fun U hU hW9 => ⟨rfl, PW.at hC hS hW U hU hW9⟩⟩ rfl rfl hl.1 rfl (lv_room (Nat.le_of_ble_eq_true rfl)) dX2_firstFittingNotBad_36 ⟨Nat.zero_le _, Nat.zero_le _⟩)) (fun r_4 h_3 => ?_)
            obtain rfl : r_4 = bI (fit σ.1 (σ.2.1 i)) := h_3
            refine lv_if_eq (tgt := 66) hx hb dX2_firstFittingNotBad_39 (by decide) (fun c_5 => ?_) (fun c_5 => ?_)
            · skip
              replace c_5 := bI_0.mp c_5
              refine lv_iinc (v := nI (i + 1)) (lv' := [(4, .int (nI (i + 1))), (5, .ref (gA g (13 + i))), (0, .ref (gA g 0)), (1, .null), (2, .ref (gA g 1)), (3, .int 16)]) hx hb dX2_firstFittingNotBad_66 hl (k := 5) rfl (nI_1 _) (by decide) rfl (fun ls hl => ?_)
              refine lv_goto (tgt := 13) hx hb dX2_firstFittingNotBad_69 (by decide) ?_
              have hct : ff σ.2.1 (pC σ) (i + 1) = none := (ff_f (by simp [pC, thr, bI, fb, hff, c_2, c_5])).trans hff
              exact ih (i + 1) (by omega) (by omega) ls (by rw [hct]; exact lv_sub hl [2, 3, 4, 5, 0] rfl)
            · skip
              replace c_5 := bI_n0.mp c_5
              refine lv_aload hx hb dX2_firstFittingNotBad_42 (lv_at hl 0 rfl) ?_
              refine vp_callSi (va_Run.run (va_runVN (As := []) (rest := []) ⟨hx, hb, hml, hown, hts⟩ (mtX1_isBad l g σ μ o i hlt) ⟨(va_cnB (host := "BootChooser") 0 hts gX2_firstFittingNotBad_X1_isBad_n176 rfl rfl rfl (va_Nw.of (A := #[]) rfl (hC.2.1.nest (w := .methodLinkNest RX2 176 yX1_isBad "BootChooser") (by decide +kernel) rfl)) (hts (.initialized RX1) (by decide +kernel)) (by decide +kernel) ⟨Nat.le_of_ble_eq_true rfl, Nat.le_of_ble_eq_true rfl⟩), (hts (.instanceMethod yX1_isBad) (by decide +kernel)), (hts (.selects RX1 yX1_isBad yX1_isBad) (by decide +kernel))⟩ ⟨PW.blind, rcE hC hW hlt, fun U hU hW9 => ⟨rfl, PW.at hC hS hW U hU hW9⟩⟩ rfl rfl hl.1 rfl (lv_room (Nat.le_of_ble_eq_true rfl)) dX2_firstFittingNotBad_44 ⟨Nat.zero_le _, Nat.zero_le _⟩)) (fun r_7 h_6 => ?_)
              obtain rfl : r_7 = bI (bad (σ.2.1 i)) := h_6
              refine lv_if_ne (tgt := 66) hx hb dX2_firstFittingNotBad_47 (by decide) (fun c_8 => ?_) (fun c_8 => ?_)
              · skip
                replace c_8 := bI_n0.mp c_8
                refine lv_iinc (v := nI (i + 1)) (lv' := [(4, .int (nI (i + 1))), (5, .ref (gA g (13 + i))), (0, .ref (gA g 0)), (1, .null), (2, .ref (gA g 1)), (3, .int 16)]) hx hb dX2_firstFittingNotBad_66 hl (k := 5) rfl (nI_1 _) (by decide) rfl (fun ls hl => ?_)
                refine lv_goto (tgt := 13) hx hb dX2_firstFittingNotBad_69 (by decide) ?_
                have hct : ff σ.2.1 (pC σ) (i + 1) = none := (ff_f (by simp [pC, thr, bI, fb, hff, c_2, c_5, c_8])).trans hff
                exact ih (i + 1) (by omega) (by omega) ls (by rw [hct]; exact lv_sub hl [2, 3, 4, 5, 0] rfl)
              · skip
                replace c_8 := bI_0.mp c_8
                refine lv_aload_nN hx hb dX2_firstFittingNotBad_50 rfl (lv_at hl 2 rfl) ?_
                refine lv_ifnullN (tgt := 63) hx hb dX2_firstFittingNotBad_51 (by decide) ?_
                refine lv_aload hx hb dX2_firstFittingNotBad_63 (lv_at hl 0 rfl) ?_
                refine lv_astore_n (lv' := [(1, .ref (gA g (13 + i))), (5, .ref (gA g (13 + i))), (0, .ref (gA g 0)), (2, .ref (gA g 1)), (3, .int 16), (4, .int (nI i))]) hx hb dX2_firstFittingNotBad_65 rfl hl (by decide) rfl (fun ls hl => ?_)
                refine lv_iinc (v := nI (i + 1)) (lv' := [(4, .int (nI (i + 1))), (1, .ref (gA g (13 + i))), (5, .ref (gA g (13 + i))), (0, .ref (gA g 0)), (2, .ref (gA g 1)), (3, .int 16)]) hx hb dX2_firstFittingNotBad_66 hl (k := 5) rfl (nI_1 _) (by decide) rfl (fun ls hl => ?_)
                refine lv_goto (tgt := 13) hx hb dX2_firstFittingNotBad_69 (by decide) ?_
                have hct : ff σ.2.1 (pC σ) (i + 1) = some i := ff_t (by simp [pC, thr, bI, fb, hff, c_2, c_5, c_8])
                exact ih (i + 1) (by omega) (by omega) ls (by rw [hct]; exact lv_sub hl [3, 1, 4, 5, 0] rfl)
      | some b9 =>
        rw [hff] at hl
        have hl : lv_has ls 6 [(0, .ref (gA g 0)), (1, .ref (gA g (13 + b9))), (2, .ref (gA g 1)), (3, .int 16), (4, .int (nI i))] := hl
        have hb9 : b9 < 16 := Nat.lt_of_lt_of_le (ff_lt hff) hi
        refine lv_iload hx hb dX2_firstFittingNotBad_13 (lv_at hl 4 rfl) ?_
        refine lv_iload_n hx hb dX2_firstFittingNotBad_15 rfl (lv_at hl 3 rfl) ?_
        refine lv_icmp_ge (tgt := 72) hx hb dX2_firstFittingNotBad_16 (by decide) (fun c_9 => ?_) (fun c_9 => ?_)
        · skip
          have hi16 : i = 16 := (nI16_le hi).mp c_9
          refine lv_aload_n hx hb dX2_firstFittingNotBad_72 rfl (lv_at hl 1 rfl) ?_
          exact W.aret (v := va_rf (some (gA g (13 + b9)))) hx hb hr (Or.inl ⟨_, rfl⟩) (va_rf_or _) (fun t ht hW9 => ⟨(some (gA g (13 + b9))), rfl, by rw [hi16] at hff; rw [hff]; rfl, ht⟩) (fun q h => by cases h) dX2_firstFittingNotBad_73
        · skip
          have hlt : i < 16 := (nI16_le_n hi).mp c_9
          refine lv_aload_n hx hb dX2_firstFittingNotBad_19 rfl (lv_at hl 2 rfl) ?_
          refine lv_iload hx hb dX2_firstFittingNotBad_20 (lv_at hl 4 rfl) ?_
          refine rLd hx hb hC hW hlt dX2_firstFittingNotBad_22 ?_
          refine lv_astore (lv' := [(5, .ref (gA g (13 + i))), (0, .ref (gA g 0)), (1, .ref (gA g (13 + b9))), (2, .ref (gA g 1)), (3, .int 16), (4, .int (nI i))]) hx hb dX2_firstFittingNotBad_23 hl (by decide) rfl (fun ls hl => ?_)
          refine lv_aload hx hb dX2_firstFittingNotBad_25 (lv_at hl 0 rfl) ?_
          refine gEn (v := .int (σ.2.1 i 0)) hx hb hts hinX1 hown hC hW hlt 0 (by decide) (by decide +kernel) rfl rfl dX2_firstFittingNotBad_27 ?_
          refine lv_if_eq (tgt := 66) hx hb dX2_firstFittingNotBad_30 (by decide) (fun c_10 => ?_) (fun c_10 => ?_)
          · skip
            refine lv_iinc (v := nI (i + 1)) (lv' := [(4, .int (nI (i + 1))), (5, .ref (gA g (13 + i))), (0, .ref (gA g 0)), (1, .ref (gA g (13 + b9))), (2, .ref (gA g 1)), (3, .int 16)]) hx hb dX2_firstFittingNotBad_66 hl (k := 5) rfl (nI_1 _) (by decide) rfl (fun ls hl => ?_)
            refine lv_goto (tgt := 13) hx hb dX2_firstFittingNotBad_69 (by decide) ?_
            have hct : ff σ.2.1 (pC σ) (i + 1) = some b9 := (ff_f (by simp [pC, thr, bI, fb, hff, c_10])).trans hff
            exact ih (i + 1) (by omega) (by omega) ls (by rw [hct]; exact lv_sub hl [2, 3, 4, 5, 0] rfl)
          · skip
            refine lv_aload_n hx hb dX2_firstFittingNotBad_33 rfl (lv_at hl 1 rfl) ?_
            refine lv_aload hx hb dX2_firstFittingNotBad_34 (lv_at hl 0 rfl) ?_
            refine vp_callSi (va_Run.run (va_runV (As := [.ref (gA g (13 + i))]) (rest := []) ⟨hx, hb, hml, hown, hts⟩ (mtX2_isFitting l g σ μ o i hlt) (cwV 1 hts gX2_firstFittingNotBad_X2_isFitting rfl rfl rfl (by decide +kernel) ⟨Nat.le_of_ble_eq_true rfl, Nat.le_of_ble_eq_true rfl⟩) ⟨PW.blind, rcB hC hW, fun U hU hW9 => ⟨rfl, PW.at hC hS hW U hU hW9⟩⟩ rfl rfl hl.1 rfl (lv_room (Nat.le_of_ble_eq_true rfl)) dX2_firstFittingNotBad_36 ⟨Nat.zero_le _, Nat.zero_le _⟩)) (fun r_12 h_11 => ?_)
            obtain rfl : r_12 = bI (fit σ.1 (σ.2.1 i)) := h_11
            refine lv_if_eq (tgt := 66) hx hb dX2_firstFittingNotBad_39 (by decide) (fun c_13 => ?_) (fun c_13 => ?_)
            · skip
              replace c_13 := bI_0.mp c_13
              refine lv_iinc (v := nI (i + 1)) (lv' := [(4, .int (nI (i + 1))), (5, .ref (gA g (13 + i))), (0, .ref (gA g 0)), (1, .ref (gA g (13 + b9))), (2, .ref (gA g 1)), (3, .int 16)]) hx hb dX2_firstFittingNotBad_66 hl (k := 5) rfl (nI_1 _) (by decide) rfl (fun ls hl => ?_)
              refine lv_goto (tgt := 13) hx hb dX2_firstFittingNotBad_69 (by decide) ?_
              have hct : ff σ.2.1 (pC σ) (i + 1) = some b9 := (ff_f (by simp [pC, thr, bI, fb, hff, c_10, c_13])).trans hff
              exact ih (i + 1) (by omega) (by omega) ls (by rw [hct]; exact lv_sub hl [2, 3, 4, 5, 0] rfl)
            · skip
              replace c_13 := bI_n0.mp c_13
              refine lv_aload hx hb dX2_firstFittingNotBad_42 (lv_at hl 0 rfl) ?_
              refine vp_callSi (va_Run.run (va_runVN (As := []) (rest := []) ⟨hx, hb, hml, hown, hts⟩ (mtX1_isBad l g σ μ o i hlt) ⟨(va_cnB (host := "BootChooser") 0 hts gX2_firstFittingNotBad_X1_isBad_n176 rfl rfl rfl (va_Nw.of (A := #[]) rfl (hC.2.1.nest (w := .methodLinkNest RX2 176 yX1_isBad "BootChooser") (by decide +kernel) rfl)) (hts (.initialized RX1) (by decide +kernel)) (by decide +kernel) ⟨Nat.le_of_ble_eq_true rfl, Nat.le_of_ble_eq_true rfl⟩), (hts (.instanceMethod yX1_isBad) (by decide +kernel)), (hts (.selects RX1 yX1_isBad yX1_isBad) (by decide +kernel))⟩ ⟨PW.blind, rcE hC hW hlt, fun U hU hW9 => ⟨rfl, PW.at hC hS hW U hU hW9⟩⟩ rfl rfl hl.1 rfl (lv_room (Nat.le_of_ble_eq_true rfl)) dX2_firstFittingNotBad_44 ⟨Nat.zero_le _, Nat.zero_le _⟩)) (fun r_15 h_14 => ?_)
              obtain rfl : r_15 = bI (bad (σ.2.1 i)) := h_14
              refine lv_if_ne (tgt := 66) hx hb dX2_firstFittingNotBad_47 (by decide) (fun c_16 => ?_) (fun c_16 => ?_)
              · skip
                replace c_16 := bI_n0.mp c_16
                refine lv_iinc (v := nI (i + 1)) (lv' := [(4, .int (nI (i + 1))), (5, .ref (gA g (13 + i))), (0, .ref (gA g 0)), (1, .ref (gA g (13 + b9))), (2, .ref (gA g 1)), (3, .int 16)]) hx hb dX2_firstFittingNotBad_66 hl (k := 5) rfl (nI_1 _) (by decide) rfl (fun ls hl => ?_)
                refine lv_goto (tgt := 13) hx hb dX2_firstFittingNotBad_69 (by decide) ?_
                have hct : ff σ.2.1 (pC σ) (i + 1) = some b9 := (ff_f (by simp [pC, thr, bI, fb, hff, c_10, c_13, c_16])).trans hff
                exact ih (i + 1) (by omega) (by omega) ls (by rw [hct]; exact lv_sub hl [2, 3, 4, 5, 0] rfl)
              · skip
                replace c_16 := bI_0.mp c_16
                refine lv_aload_n hx hb dX2_firstFittingNotBad_50 rfl (lv_at hl 2 rfl) ?_
                refine lv_ifnull hx hb dX2_firstFittingNotBad_51 ?_
                refine lv_aload hx hb dX2_firstFittingNotBad_54 (lv_at hl 0 rfl) ?_
                refine lv_aload_n hx hb dX2_firstFittingNotBad_56 rfl (lv_at hl 2 rfl) ?_
                refine vp_callSi (va_Run.run (va_runVN (As := [.ref (gA g (13 + b9))]) (rest := []) ⟨hx, hb, hml, hown, hts⟩ (mtX1_isAheadOf l g σ μ o i b9 hlt hb9) ⟨(va_cnB (host := "BootChooser") 1 hts gX2_firstFittingNotBad_X1_isAheadOf_n173 rfl rfl rfl (va_Nw.of (A := #[]) rfl (hC.2.1.nest (w := .methodLinkNest RX2 173 yX1_isAheadOf "BootChooser") (by decide +kernel) rfl)) (hts (.initialized RX1) (by decide +kernel)) (by decide +kernel) ⟨Nat.le_of_ble_eq_true rfl, Nat.le_of_ble_eq_true rfl⟩), (hts (.instanceMethod yX1_isAheadOf) (by decide +kernel)), (hts (.selects RX1 yX1_isAheadOf yX1_isAheadOf) (by decide +kernel))⟩ ⟨PW.blind, rcE hC hW hlt, fun U hU hW9 => ⟨rfl, PW.at hC hS hW U hU hW9⟩⟩ rfl rfl hl.1 rfl (lv_room (Nat.le_of_ble_eq_true rfl)) dX2_firstFittingNotBad_57 ⟨Nat.zero_le _, Nat.zero_le _⟩)) (fun r_18 h_17 => ?_)
                obtain rfl : r_18 = bI (ah (σ.2.1 i) (σ.2.1 b9)) := h_17
                refine lv_if_eq (tgt := 66) hx hb dX2_firstFittingNotBad_60 (by decide) (fun c_19 => ?_) (fun c_19 => ?_)
                · skip
                  replace c_19 := bI_0.mp c_19
                  refine lv_iinc (v := nI (i + 1)) (lv' := [(4, .int (nI (i + 1))), (5, .ref (gA g (13 + i))), (0, .ref (gA g 0)), (1, .ref (gA g (13 + b9))), (2, .ref (gA g 1)), (3, .int 16)]) hx hb dX2_firstFittingNotBad_66 hl (k := 5) rfl (nI_1 _) (by decide) rfl (fun ls hl => ?_)
                  refine lv_goto (tgt := 13) hx hb dX2_firstFittingNotBad_69 (by decide) ?_
                  have hct : ff σ.2.1 (pC σ) (i + 1) = some b9 := (ff_f (by simp [pC, thr, bI, fb, hff, c_10, c_13, c_16, c_19])).trans hff
                  exact ih (i + 1) (by omega) (by omega) ls (by rw [hct]; exact lv_sub hl [2, 3, 4, 5, 0] rfl)
                · skip
                  replace c_19 := bI_n0.mp c_19
                  refine lv_aload hx hb dX2_firstFittingNotBad_63 (lv_at hl 0 rfl) ?_
                  refine lv_astore_n (lv' := [(1, .ref (gA g (13 + i))), (5, .ref (gA g (13 + i))), (0, .ref (gA g 0)), (2, .ref (gA g 1)), (3, .int 16), (4, .int (nI i))]) hx hb dX2_firstFittingNotBad_65 rfl hl (by decide) rfl (fun ls hl => ?_)
                  refine lv_iinc (v := nI (i + 1)) (lv' := [(4, .int (nI (i + 1))), (1, .ref (gA g (13 + i))), (5, .ref (gA g (13 + i))), (0, .ref (gA g 0)), (2, .ref (gA g 1)), (3, .int 16)]) hx hb dX2_firstFittingNotBad_66 hl (k := 5) rfl (nI_1 _) (by decide) rfl (fun ls hl => ?_)
                  refine lv_goto (tgt := 13) hx hb dX2_firstFittingNotBad_69 (by decide) ?_
                  have hct : ff σ.2.1 (pC σ) (i + 1) = some i := ff_t (by simp [pC, thr, bI, fb, hff, c_10, c_13, c_16, c_19])
                  exact ih (i + 1) (by omega) (by omega) ls (by rw [hct]; exact lv_sub hl [3, 1, 4, 5, 0] rfl)
  exact loop_1 (16 + 1) 0 (Nat.zero_le _) (by omega) ls (by exact lv_sub hl [4, 3, 2, 1, 0] rfl)
set_option maxHeartbeats 4000000 in
set_option maxRecDepth 100000 in
theorem mtX2_nextEntry (l : Launch) (g : Ge) (σ : Sg) (μ : Mg) (o : Nat → Int64)  : Met l yX2_nextEntry wsX2_nextEntry ({ frames := 5, cells := 0, slots := 0, locals := 115 } : Room) (va_Pc [.ref (gA g 0)] (PW g σ μ o)) (va_Sq (fun r => r = (nx σ).map (fun j => gA g (13 + j)))) 0 0 (fun _ => False) := by
  refine Met.ofW (cc := cX2_nextEntry) (maxL := 4) (ret := (some (.object "BootChooser$Entry"))) (by decide) rfl ?_
  intro p e s m args below meth c s₁ B hml hv
  obtain ⟨rfl, hC, hW⟩ := hv
  have hx := B.exec
  have hb := B.bytes
  have hr := B.returns
  have hts := atoms_spec (ws := wsX2_nextEntry) B.pre
  have hown : s.vm.findClass RX2 = some m.cls := findClass_of_methodNamed B.named
  have hlocks := B.notSynchronized
  have hinX2 : ∀ w ∈ wsX20, w ∈ wsX2_nextEntry := by decide +kernel
  have hS : va_S (Az g) s.heap s.heap [] := va_S.rf
  have hl := lv_entry ([.ref (gA g 0)]) (n := 4) (Nat.le_of_ble_eq_true rfl)
  rw [lg_entry_eq]
  generalize (lg_sl ([.ref (gA g 0)]) ++ List.replicate (4 - (lg_sl ([.ref (gA g 0)])).length) Slot.unset).toArray = ls at hl ⊢
  have hl : lv_has ls 4 [(0, .ref (gA g 0))] := hl
  refine lv_aload_n hx hb dX2_nextEntry_0 rfl (lv_at hl 0 rfl) ?_
  refine lv_aload_n hx hb dX2_nextEntry_1 rfl (lv_at hl 0 rfl) ?_
  refine gB (v := .int (σ.1 2)) hx hb hts hinX2 hown hC hW 4 (by decide) (by decide +kernel) rfl rfl dX2_nextEntry_2 ?_
  refine va_csq (va_Run.run (va_runV (As := [.int (σ.1 2)]) (rest := []) ⟨hx, hb, hml, hown, hts⟩ (mtX2_findEntry l g σ μ o (σ.1 2)) (cwV 1 hts gX2_nextEntry_X2_findEntry rfl rfl rfl (by decide +kernel) ⟨Nat.le_of_ble_eq_true rfl, Nat.le_of_ble_eq_true rfl⟩) ⟨PW.blind, rcB hC hW, fun U hU hW9 => ⟨rfl, PW.at hC hS hW U hU hW9⟩⟩ rfl rfl hl.1 rfl (lv_room (Nat.le_of_ble_eq_true rfl)) dX2_nextEntry_5 ⟨Nat.zero_le _, Nat.zero_le _⟩)) (fun r_2 h_1 => ?_)
  replace h_1 : r_2 = (fs (pN σ.2.1 (σ.1 2)) 16).map (fun j => gA g (13 + j)) := h_1
  rcases optc (fs (pN σ.2.1 (σ.1 2)) 16) with f_3 | ⟨j_4, f_3⟩
  · skip
    obtain rfl : r_2 = none := by rw [h_1, f_3]; rfl
    refine lv_astore_nN (lv' := [(1, .null), (0, .ref (gA g 0))]) hx hb dX2_nextEntry_8 rfl hl (by decide) rfl (fun ls hl => ?_)
    refine lv_aload_nN hx hb dX2_nextEntry_9 rfl (lv_at hl 0 rfl) ?_
    refine lv_ifnullN (tgt := 15) hx hb dX2_nextEntry_10 (by decide) ?_
    refine lv_aload_n hx hb dX2_nextEntry_15 rfl (lv_at hl 1 rfl) ?_
    refine lv_aload_n hx hb dX2_nextEntry_16 rfl (lv_at hl 1 rfl) ?_
    refine gB (v := .int (σ.1 1)) hx hb hts hinX2 hown hC hW 3 (by decide) (by decide +kernel) rfl rfl dX2_nextEntry_17 ?_
    refine va_csq (va_Run.run (va_runV (As := [.int (σ.1 1)]) (rest := []) ⟨hx, hb, hml, hown, hts⟩ (mtX2_findEntry l g σ μ o (σ.1 1)) (cwV 1 hts gX2_nextEntry_X2_findEntry rfl rfl rfl (by decide +kernel) ⟨Nat.le_of_ble_eq_true rfl, Nat.le_of_ble_eq_true rfl⟩) ⟨PW.blind, rcB hC hW, fun U hU hW9 => ⟨rfl, PW.at hC hS hW U hU hW9⟩⟩ rfl rfl hl.1 rfl (lv_room (Nat.le_of_ble_eq_true rfl)) dX2_nextEntry_20 ⟨Nat.zero_le _, Nat.zero_le _⟩)) (fun r_6 h_5 => ?_)
    replace h_5 : r_6 = (fs (pN σ.2.1 (σ.1 1)) 16).map (fun j => gA g (13 + j)) := h_5
    rcases optc (fs (pN σ.2.1 (σ.1 1)) 16) with f_7 | ⟨j_8, f_7⟩
    · skip
      obtain rfl : r_6 = none := by rw [h_5, f_7]; rfl
      refine lv_astore_nN (lv' := [(2, .null), (1, .null), (0, .ref (gA g 0))]) hx hb dX2_nextEntry_23 rfl hl (by decide) rfl (fun ls hl => ?_)
      refine lv_aload_nN hx hb dX2_nextEntry_24 rfl (lv_at hl 0 rfl) ?_
      refine lv_ifnullN (tgt := 37) hx hb dX2_nextEntry_25 (by decide) ?_
      refine lv_aload_n hx hb dX2_nextEntry_37 rfl (lv_at hl 2 rfl) ?_
      refine va_csq (va_Run.run (va_runV (As := []) (rest := []) ⟨hx, hb, hml, hown, hts⟩ (mtX2_firstFittingNotBad l g σ μ o ) (cwV 0 hts gX2_nextEntry_X2_firstFittingNotBad rfl rfl rfl (by decide +kernel) ⟨Nat.le_of_ble_eq_true rfl, Nat.le_of_ble_eq_true rfl⟩) ⟨PW.blind, rcB hC hW, fun U hU hW9 => ⟨rfl, PW.at hC hS hW U hU hW9⟩⟩ rfl rfl hl.1 rfl (lv_room (Nat.le_of_ble_eq_true rfl)) dX2_nextEntry_38 ⟨Nat.zero_le _, Nat.zero_le _⟩)) (fun r_10 h_9 => ?_)
      replace h_9 : r_10 = (ff σ.2.1 (pC σ) 16).map (fun j => gA g (13 + j)) := h_9
      rcases optc (ff σ.2.1 (pC σ) 16) with f_11 | ⟨j_12, f_11⟩
      · skip
        obtain rfl : r_10 = none := by rw [h_9, f_11]; rfl
        refine lv_astore_nN (lv' := [(3, .null), (2, .null), (1, .null), (0, .ref (gA g 0))]) hx hb dX2_nextEntry_41 rfl hl (by decide) rfl (fun ls hl => ?_)
        refine lv_aload_nN hx hb dX2_nextEntry_42 rfl (lv_at hl 0 rfl) ?_
        refine lv_ifnullN (tgt := 50) hx hb dX2_nextEntry_43 (by decide) ?_
        refine lv_aload_n hx hb dX2_nextEntry_50 rfl (lv_at hl 3 rfl) ?_
        refine lv_iconst (v := 0) hx hb dX2_nextEntry_51 (by decide) ?_
        refine va_csq (va_Run.run (va_runV (As := [.int 0]) (rest := []) ⟨hx, hb, hml, hown, hts⟩ (mtX2_entryWithPlace l g σ μ o 0) (cwV 1 hts gX2_nextEntry_X2_entryWithPlace rfl rfl rfl (by decide +kernel) ⟨Nat.le_of_ble_eq_true rfl, Nat.le_of_ble_eq_true rfl⟩) ⟨PW.blind, rcB hC hW, fun U hU hW9 => ⟨rfl, PW.at hC hS hW U hU hW9⟩⟩ rfl rfl hl.1 rfl (lv_room (Nat.le_of_ble_eq_true rfl)) dX2_nextEntry_52 ⟨Nat.zero_le _, Nat.zero_le _⟩)) (fun r_14 h_13 => ?_)
        replace h_13 : r_14 = (fs (pP σ.2.1 0) 16).map (fun j => gA g (13 + j)) := h_13
        rcases optc (fs (pP σ.2.1 0) 16) with f_15 | ⟨j_16, f_15⟩
        · skip
          obtain rfl : r_14 = none := by rw [h_13, f_15]; rfl
          exact W.aret (v := va_rf none) hx hb hr (Or.inl ⟨_, rfl⟩) (va_rf_or _) (fun t ht hW9 => ⟨none, rfl, by rw [show nx σ = none from by simp [nx, nx2, oel_s, oel_n, f_3, f_7, f_11, f_15]]; rfl, ht⟩) (fun q h => by cases h) dX2_nextEntry_55
        · skip
          obtain rfl : r_14 = some (gA g (13 + j_16)) := by rw [h_13, f_15]; rfl
          have hj_16 : j_16 < 16 := fs_16 f_15
          exact W.aret (v := va_rf (some (gA g (13 + j_16)))) hx hb hr (Or.inl ⟨_, rfl⟩) (va_rf_or _) (fun t ht hW9 => ⟨(some (gA g (13 + j_16))), rfl, by rw [show nx σ = some j_16 from by simp [nx, nx2, oel_s, oel_n, f_3, f_7, f_11, f_15]]; rfl, ht⟩) (fun q h => by cases h) dX2_nextEntry_55
      · skip
        obtain rfl : r_10 = some (gA g (13 + j_12)) := by rw [h_9, f_11]; rfl
        have hj_12 : j_12 < 16 := ff_16 f_11
        refine lv_astore_n (lv' := [(3, .ref (gA g (13 + j_12))), (2, .null), (1, .null), (0, .ref (gA g 0))]) hx hb dX2_nextEntry_41 rfl hl (by decide) rfl (fun ls hl => ?_)
        refine lv_aload_n hx hb dX2_nextEntry_42 rfl (lv_at hl 0 rfl) ?_
        refine lv_ifnull hx hb dX2_nextEntry_43 ?_
        refine lv_aload_n hx hb dX2_nextEntry_46 rfl (lv_at hl 0 rfl) ?_
        refine lv_goto (tgt := 55) hx hb dX2_nextEntry_47 (by decide) ?_
        exact W.aret (v := va_rf (some (gA g (13 + j_12)))) hx hb hr (Or.inl ⟨_, rfl⟩) (va_rf_or _) (fun t ht hW9 => ⟨(some (gA g (13 + j_12))), rfl, by rw [show nx σ = some j_12 from by simp [nx, nx2, oel_s, oel_n, f_3, f_7, f_11]]; rfl, ht⟩) (fun q h => by cases h) dX2_nextEntry_55
    · skip
      obtain rfl : r_6 = some (gA g (13 + j_8)) := by rw [h_5, f_7]; rfl
      have hj_8 : j_8 < 16 := fs_16 f_7
      refine lv_astore_n (lv' := [(2, .ref (gA g (13 + j_8))), (1, .null), (0, .ref (gA g 0))]) hx hb dX2_nextEntry_23 rfl hl (by decide) rfl (fun ls hl => ?_)
      refine lv_aload_n hx hb dX2_nextEntry_24 rfl (lv_at hl 0 rfl) ?_
      refine lv_ifnull hx hb dX2_nextEntry_25 ?_
      refine lv_aload_n hx hb dX2_nextEntry_28 rfl (lv_at hl 0 rfl) ?_
      refine vp_callSi (va_Run.run (va_runVN (As := []) (rest := []) ⟨hx, hb, hml, hown, hts⟩ (mtX1_isBad l g σ μ o j_8 hj_8) ⟨(va_cnB (host := "BootChooser") 0 hts gX2_nextEntry_X1_isBad_n176 rfl rfl rfl (va_Nw.of (A := #[]) rfl (hC.2.1.nest (w := .methodLinkNest RX2 176 yX1_isBad "BootChooser") (by decide +kernel) rfl)) (hts (.initialized RX1) (by decide +kernel)) (by decide +kernel) ⟨Nat.le_of_ble_eq_true rfl, Nat.le_of_ble_eq_true rfl⟩), (hts (.instanceMethod yX1_isBad) (by decide +kernel)), (hts (.selects RX1 yX1_isBad yX1_isBad) (by decide +kernel))⟩ ⟨PW.blind, rcE hC hW hj_8, fun U hU hW9 => ⟨rfl, PW.at hC hS hW U hU hW9⟩⟩ rfl rfl hl.1 rfl (lv_room (Nat.le_of_ble_eq_true rfl)) dX2_nextEntry_29 ⟨Nat.zero_le _, Nat.zero_le _⟩)) (fun r_18 h_17 => ?_)
      obtain rfl : r_18 = bI (bad (σ.2.1 j_8)) := h_17
      refine lv_if_ne (tgt := 37) hx hb dX2_nextEntry_32 (by decide) (fun c_19 => ?_) (fun c_19 => ?_)
      · skip
        replace c_19 := bI_n0.mp c_19
        refine lv_aload_n hx hb dX2_nextEntry_37 rfl (lv_at hl 2 rfl) ?_
        refine va_csq (va_Run.run (va_runV (As := []) (rest := []) ⟨hx, hb, hml, hown, hts⟩ (mtX2_firstFittingNotBad l g σ μ o ) (cwV 0 hts gX2_nextEntry_X2_firstFittingNotBad rfl rfl rfl (by decide +kernel) ⟨Nat.le_of_ble_eq_true rfl, Nat.le_of_ble_eq_true rfl⟩) ⟨PW.blind, rcB hC hW, fun U hU hW9 => ⟨rfl, PW.at hC hS hW U hU hW9⟩⟩ rfl rfl hl.1 rfl (lv_room (Nat.le_of_ble_eq_true rfl)) dX2_nextEntry_38 ⟨Nat.zero_le _, Nat.zero_le _⟩)) (fun r_21 h_20 => ?_)
        replace h_20 : r_21 = (ff σ.2.1 (pC σ) 16).map (fun j => gA g (13 + j)) := h_20
        rcases optc (ff σ.2.1 (pC σ) 16) with f_22 | ⟨j_23, f_22⟩
        · skip
          obtain rfl : r_21 = none := by rw [h_20, f_22]; rfl
          refine lv_astore_nN (lv' := [(3, .null), (2, .ref (gA g (13 + j_8))), (1, .null), (0, .ref (gA g 0))]) hx hb dX2_nextEntry_41 rfl hl (by decide) rfl (fun ls hl => ?_)
          refine lv_aload_nN hx hb dX2_nextEntry_42 rfl (lv_at hl 0 rfl) ?_
          refine lv_ifnullN (tgt := 50) hx hb dX2_nextEntry_43 (by decide) ?_
          refine lv_aload_n hx hb dX2_nextEntry_50 rfl (lv_at hl 3 rfl) ?_
          refine lv_iconst (v := 0) hx hb dX2_nextEntry_51 (by decide) ?_
          refine va_csq (va_Run.run (va_runV (As := [.int 0]) (rest := []) ⟨hx, hb, hml, hown, hts⟩ (mtX2_entryWithPlace l g σ μ o 0) (cwV 1 hts gX2_nextEntry_X2_entryWithPlace rfl rfl rfl (by decide +kernel) ⟨Nat.le_of_ble_eq_true rfl, Nat.le_of_ble_eq_true rfl⟩) ⟨PW.blind, rcB hC hW, fun U hU hW9 => ⟨rfl, PW.at hC hS hW U hU hW9⟩⟩ rfl rfl hl.1 rfl (lv_room (Nat.le_of_ble_eq_true rfl)) dX2_nextEntry_52 ⟨Nat.zero_le _, Nat.zero_le _⟩)) (fun r_25 h_24 => ?_)
          replace h_24 : r_25 = (fs (pP σ.2.1 0) 16).map (fun j => gA g (13 + j)) := h_24
          rcases optc (fs (pP σ.2.1 0) 16) with f_26 | ⟨j_27, f_26⟩
          · skip
            obtain rfl : r_25 = none := by rw [h_24, f_26]; rfl
            exact W.aret (v := va_rf none) hx hb hr (Or.inl ⟨_, rfl⟩) (va_rf_or _) (fun t ht hW9 => ⟨none, rfl, by rw [show nx σ = none from by simp [nx, nx2, oel_s, oel_n, f_3, f_7, c_19, f_22, f_26]]; rfl, ht⟩) (fun q h => by cases h) dX2_nextEntry_55
          · skip
            obtain rfl : r_25 = some (gA g (13 + j_27)) := by rw [h_24, f_26]; rfl
            have hj_27 : j_27 < 16 := fs_16 f_26
            exact W.aret (v := va_rf (some (gA g (13 + j_27)))) hx hb hr (Or.inl ⟨_, rfl⟩) (va_rf_or _) (fun t ht hW9 => ⟨(some (gA g (13 + j_27))), rfl, by rw [show nx σ = some j_27 from by simp [nx, nx2, oel_s, oel_n, f_3, f_7, c_19, f_22, f_26]]; rfl, ht⟩) (fun q h => by cases h) dX2_nextEntry_55
        · skip
          obtain rfl : r_21 = some (gA g (13 + j_23)) := by rw [h_20, f_22]; rfl
          have hj_23 : j_23 < 16 := ff_16 f_22
          refine lv_astore_n (lv' := [(3, .ref (gA g (13 + j_23))), (2, .ref (gA g (13 + j_8))), (1, .null), (0, .ref (gA g 0))]) hx hb dX2_nextEntry_41 rfl hl (by decide) rfl (fun ls hl => ?_)
          refine lv_aload_n hx hb dX2_nextEntry_42 rfl (lv_at hl 0 rfl) ?_
          refine lv_ifnull hx hb dX2_nextEntry_43 ?_
          refine lv_aload_n hx hb dX2_nextEntry_46 rfl (lv_at hl 0 rfl) ?_
          refine lv_goto (tgt := 55) hx hb dX2_nextEntry_47 (by decide) ?_
          exact W.aret (v := va_rf (some (gA g (13 + j_23)))) hx hb hr (Or.inl ⟨_, rfl⟩) (va_rf_or _) (fun t ht hW9 => ⟨(some (gA g (13 + j_23))), rfl, by rw [show nx σ = some j_23 from by simp [nx, nx2, oel_s, oel_n, f_3, f_7, c_19, f_22]]; rfl, ht⟩) (fun q h => by cases h) dX2_nextEntry_55
      · skip
        replace c_19 := bI_0.mp c_19
        refine lv_aload_n hx hb dX2_nextEntry_35 rfl (lv_at hl 0 rfl) ?_
        exact W.aret (v := va_rf (some (gA g (13 + j_8)))) hx hb hr (Or.inl ⟨_, rfl⟩) (va_rf_or _) (fun t ht hW9 => ⟨(some (gA g (13 + j_8))), rfl, by rw [show nx σ = some j_8 from by simp [nx, nx2, oel_s, oel_n, f_3, f_7, c_19]]; rfl, ht⟩) (fun q h => by cases h) dX2_nextEntry_36
  · skip
    obtain rfl : r_2 = some (gA g (13 + j_4)) := by rw [h_1, f_3]; rfl
    have hj_4 : j_4 < 16 := fs_16 f_3
    refine lv_astore_n (lv' := [(1, .ref (gA g (13 + j_4))), (0, .ref (gA g 0))]) hx hb dX2_nextEntry_8 rfl hl (by decide) rfl (fun ls hl => ?_)
    refine lv_aload_n hx hb dX2_nextEntry_9 rfl (lv_at hl 0 rfl) ?_
    refine lv_ifnull hx hb dX2_nextEntry_10 ?_
    refine lv_aload_n hx hb dX2_nextEntry_13 rfl (lv_at hl 0 rfl) ?_
    exact W.aret (v := va_rf (some (gA g (13 + j_4)))) hx hb hr (Or.inl ⟨_, rfl⟩) (va_rf_or _) (fun t ht hW9 => ⟨(some (gA g (13 + j_4))), rfl, by rw [show nx σ = some j_4 from by simp [nx, nx2, oel_s, oel_n, f_3]]; rfl, ht⟩) (fun q h => by cases h) dX2_nextEntry_14
set_option maxHeartbeats 4000000 in
set_option maxRecDepth 100000 in
theorem mtX2_measure (l : Launch) (g : Ge) (σ : Sg) (μ : Mg) (o : Nat → Int64) (j : Nat) (hj : j < 16) : Met l yX2_measure wsX2_measure ({ frames := 1, cells := 0, slots := 0, locals := 21 } : Room) (va_Pc [.ref (gA g 0), .ref (gA g (13 + j))] (PW g σ μ o)) (vp_Si (fun r => r = mz (σ.2.2.1 0) (σ.2.1 j))) 0 0 (fun _ => False) := by
  refine Met.ofW (cc := cX2_measure) (maxL := 3) (ret := (some .int)) (by decide) rfl ?_
  intro p e s m args below meth c s₁ B hml hv
  obtain ⟨rfl, hC, hW⟩ := hv
  have hx := B.exec
  have hb := B.bytes
  have hr := B.returns
  have hts := atoms_spec (ws := wsX2_measure) B.pre
  have hown : s.vm.findClass RX2 = some m.cls := findClass_of_methodNamed B.named
  have hlocks := B.notSynchronized
  have hinX0 : ∀ w ∈ wsX00, w ∈ wsX2_measure := by decide +kernel
  have hinX1 : ∀ w ∈ wsX10, w ∈ wsX2_measure := by decide +kernel
  have hinX2 : ∀ w ∈ wsX20, w ∈ wsX2_measure := by decide +kernel
  have hS : va_S (Az g) s.heap s.heap [] := va_S.rf
  have hl := lv_entry ([.ref (gA g 0), .ref (gA g (13 + j))]) (n := 3) (Nat.le_of_ble_eq_true rfl)
  rw [lg_entry_eq]
  generalize (lg_sl ([.ref (gA g 0), .ref (gA g (13 + j))]) ++ List.replicate (3 - (lg_sl ([.ref (gA g 0), .ref (gA g (13 + j))])).length) Slot.unset).toArray = ls at hl ⊢
  have hl : lv_has ls 3 [(0, .ref (gA g 0)), (1, .ref (gA g (13 + j)))] := hl
  refine lv_iconst (v := 0) hx hb dX2_measure_0 (by decide) ?_
  refine lv_aload_n hx hb dX2_measure_1 rfl (lv_at hl 0 rfl) ?_
  refine gB (v := .ref (gA g 2)) hx hb hts hinX2 hown hC hW 1 (by decide) (by decide +kernel) rfl rfl dX2_measure_2 ?_
  refine gLn (v := .int (σ.2.2.1 0)) hx hb hts hinX0 hown hC hW 1 (by decide) (by decide +kernel) rfl rfl dX2_measure_5 ?_
  refine lv_if_eq (tgt := 15) hx hb dX2_measure_8 (by decide) (fun c_1 => ?_) (fun c_1 => ?_)
  · skip
    refine lv_iconst (v := 0) hx hb dX2_measure_15 (by decide) ?_
    refine vp_callSi (va_Run.run (va_runS (As := [.int 0, .int 0]) (rest := []) ⟨hx, hb, hml, hown, hts⟩ (mtX2_step l 0 0) (va_cwS 2 hts gX2_measure_X2_step rfl rfl rfl (by decide +kernel) ⟨Nat.le_of_ble_eq_true rfl, Nat.le_of_ble_eq_true rfl⟩) ⟨P0.blind, fun U hU hW9 => ⟨rfl, trivial⟩⟩ rfl rfl hl.1 rfl (lv_room (Nat.le_of_ble_eq_true rfl)) dX2_measure_16 ⟨Nat.zero_le _, Nat.zero_le _⟩)) (fun r_3 h_2 => ?_)
    obtain rfl : r_3 = sp 0 0 := h_2
    refine lv_istore_n (lv' := [(2, .int ((sp 0 0))), (0, .ref (gA g 0)), (1, .ref (gA g (13 + j)))]) hx hb dX2_measure_19 rfl hl (by decide) rfl (fun ls hl => ?_)
    refine lv_iload_n hx hb dX2_measure_20 rfl (lv_at hl 0 rfl) ?_
    refine lv_aload_n hx hb dX2_measure_21 rfl (lv_at hl 2 rfl) ?_
    refine gEn (v := .int (σ.2.1 j 2)) hx hb hts hinX1 hown hC hW hj 2 (by decide) (by decide +kernel) rfl rfl dX2_measure_22 ?_
    refine vp_callSi (va_Run.run (va_runS (As := [.int ((sp 0 0)), .int (σ.2.1 j 2)]) (rest := []) ⟨hx, hb, hml, hown, hts⟩ (mtX2_step l (sp 0 0) (σ.2.1 j 2)) (va_cwS 2 hts gX2_measure_X2_step rfl rfl rfl (by decide +kernel) ⟨Nat.le_of_ble_eq_true rfl, Nat.le_of_ble_eq_true rfl⟩) ⟨P0.blind, fun U hU hW9 => ⟨rfl, trivial⟩⟩ rfl rfl hl.1 rfl (lv_room (Nat.le_of_ble_eq_true rfl)) dX2_measure_25 ⟨Nat.zero_le _, Nat.zero_le _⟩)) (fun r_5 h_4 => ?_)
    obtain rfl : r_5 = sp (sp 0 0) (σ.2.1 j 2) := h_4
    refine lv_istore_n (lv' := [(2, .int ((sp (sp 0 0) (σ.2.1 j 2)))), (0, .ref (gA g 0)), (1, .ref (gA g (13 + j)))]) hx hb dX2_measure_28 rfl hl (by decide) rfl (fun ls hl => ?_)
    refine lv_iload_n hx hb dX2_measure_29 rfl (lv_at hl 0 rfl) ?_
    refine lv_aload_n hx hb dX2_measure_30 rfl (lv_at hl 2 rfl) ?_
    refine gEn (v := .int (σ.2.1 j 4)) hx hb hts hinX1 hown hC hW hj 4 (by decide) (by decide +kernel) rfl rfl dX2_measure_31 ?_
    refine lv_ldc (v := 1000000) hx hb hown (hts (.constant RX2 193 (1000000)) (by decide +kernel)) dX2_measure_34 ?_
    refine lv_idiv hx hb dX2_measure_36 (by decide) ?_
    refine vp_callSi (va_Run.run (va_runS (As := [.int ((sp (sp 0 0) (σ.2.1 j 2))), .int ((σ.2.1 j 4 / 1000000))]) (rest := []) ⟨hx, hb, hml, hown, hts⟩ (mtX2_step l (sp (sp 0 0) (σ.2.1 j 2)) (σ.2.1 j 4 / 1000000)) (va_cwS 2 hts gX2_measure_X2_step rfl rfl rfl (by decide +kernel) ⟨Nat.le_of_ble_eq_true rfl, Nat.le_of_ble_eq_true rfl⟩) ⟨P0.blind, fun U hU hW9 => ⟨rfl, trivial⟩⟩ rfl rfl hl.1 rfl (lv_room (Nat.le_of_ble_eq_true rfl)) dX2_measure_37 ⟨Nat.zero_le _, Nat.zero_le _⟩)) (fun r_7 h_6 => ?_)
    obtain rfl : r_7 = sp (sp (sp 0 0) (σ.2.1 j 2)) (σ.2.1 j 4 / 1000000) := h_6
    refine lv_istore_n (lv' := [(2, .int ((sp (sp (sp 0 0) (σ.2.1 j 2)) (σ.2.1 j 4 / 1000000)))), (0, .ref (gA g 0)), (1, .ref (gA g (13 + j)))]) hx hb dX2_measure_40 rfl hl (by decide) rfl (fun ls hl => ?_)
    refine lv_iload_n hx hb dX2_measure_41 rfl (lv_at hl 0 rfl) ?_
    refine lv_aload_n hx hb dX2_measure_42 rfl (lv_at hl 2 rfl) ?_
    refine gEn (v := .int (σ.2.1 j 4)) hx hb hts hinX1 hown hC hW hj 4 (by decide) (by decide +kernel) rfl rfl dX2_measure_43 ?_
    refine lv_sipush (v := 1000) hx hb dX2_measure_46 (by decide) ?_
    refine lv_idiv hx hb dX2_measure_49 (by decide) ?_
    refine lv_sipush (v := 1000) hx hb dX2_measure_50 (by decide) ?_
    refine lv_irem hx hb dX2_measure_53 (by decide) ?_
    refine vp_callSi (va_Run.run (va_runS (As := [.int ((sp (sp (sp 0 0) (σ.2.1 j 2)) (σ.2.1 j 4 / 1000000))), .int (((σ.2.1 j 4 / 1000) - (σ.2.1 j 4 / 1000) / 1000 * 1000))]) (rest := []) ⟨hx, hb, hml, hown, hts⟩ (mtX2_step l (sp (sp (sp 0 0) (σ.2.1 j 2)) (σ.2.1 j 4 / 1000000)) ((σ.2.1 j 4 / 1000) - (σ.2.1 j 4 / 1000) / 1000 * 1000)) (va_cwS 2 hts gX2_measure_X2_step rfl rfl rfl (by decide +kernel) ⟨Nat.le_of_ble_eq_true rfl, Nat.le_of_ble_eq_true rfl⟩) ⟨P0.blind, fun U hU hW9 => ⟨rfl, trivial⟩⟩ rfl rfl hl.1 rfl (lv_room (Nat.le_of_ble_eq_true rfl)) dX2_measure_54 ⟨Nat.zero_le _, Nat.zero_le _⟩)) (fun r_9 h_8 => ?_)
    obtain rfl : r_9 = sp (sp (sp (sp 0 0) (σ.2.1 j 2)) (σ.2.1 j 4 / 1000000)) ((σ.2.1 j 4 / 1000) - (σ.2.1 j 4 / 1000) / 1000 * 1000) := h_8
    refine lv_istore_n (lv' := [(2, .int ((sp (sp (sp (sp 0 0) (σ.2.1 j 2)) (σ.2.1 j 4 / 1000000)) ((σ.2.1 j 4 / 1000) - (σ.2.1 j 4 / 1000) / 1000 * 1000)))), (0, .ref (gA g 0)), (1, .ref (gA g (13 + j)))]) hx hb dX2_measure_57 rfl hl (by decide) rfl (fun ls hl => ?_)
    refine lv_iload_n hx hb dX2_measure_58 rfl (lv_at hl 0 rfl) ?_
    refine lv_aload_n hx hb dX2_measure_59 rfl (lv_at hl 2 rfl) ?_
    refine gEn (v := .int (σ.2.1 j 4)) hx hb hts hinX1 hown hC hW hj 4 (by decide) (by decide +kernel) rfl rfl dX2_measure_60 ?_
    refine lv_sipush (v := 1000) hx hb dX2_measure_63 (by decide) ?_
    refine lv_irem hx hb dX2_measure_66 (by decide) ?_
    refine vp_callSi (va_Run.run (va_runS (As := [.int ((sp (sp (sp (sp 0 0) (σ.2.1 j 2)) (σ.2.1 j 4 / 1000000)) ((σ.2.1 j 4 / 1000) - (σ.2.1 j 4 / 1000) / 1000 * 1000))), .int ((σ.2.1 j 4 - σ.2.1 j 4 / 1000 * 1000))]) (rest := []) ⟨hx, hb, hml, hown, hts⟩ (mtX2_step l (sp (sp (sp (sp 0 0) (σ.2.1 j 2)) (σ.2.1 j 4 / 1000000)) ((σ.2.1 j 4 / 1000) - (σ.2.1 j 4 / 1000) / 1000 * 1000)) (σ.2.1 j 4 - σ.2.1 j 4 / 1000 * 1000)) (va_cwS 2 hts gX2_measure_X2_step rfl rfl rfl (by decide +kernel) ⟨Nat.le_of_ble_eq_true rfl, Nat.le_of_ble_eq_true rfl⟩) ⟨P0.blind, fun U hU hW9 => ⟨rfl, trivial⟩⟩ rfl rfl hl.1 rfl (lv_room (Nat.le_of_ble_eq_true rfl)) dX2_measure_67 ⟨Nat.zero_le _, Nat.zero_le _⟩)) (fun r_11 h_10 => ?_)
    obtain rfl : r_11 = sp (sp (sp (sp (sp 0 0) (σ.2.1 j 2)) (σ.2.1 j 4 / 1000000)) ((σ.2.1 j 4 / 1000) - (σ.2.1 j 4 / 1000) / 1000 * 1000)) (σ.2.1 j 4 - σ.2.1 j 4 / 1000 * 1000) := h_10
    refine lv_istore_n (lv' := [(2, .int ((sp (sp (sp (sp (sp 0 0) (σ.2.1 j 2)) (σ.2.1 j 4 / 1000000)) ((σ.2.1 j 4 / 1000) - (σ.2.1 j 4 / 1000) / 1000 * 1000)) (σ.2.1 j 4 - σ.2.1 j 4 / 1000 * 1000)))), (0, .ref (gA g 0)), (1, .ref (gA g (13 + j)))]) hx hb dX2_measure_70 rfl hl (by decide) rfl (fun ls hl => ?_)
    refine lv_iload_n hx hb dX2_measure_71 rfl (lv_at hl 0 rfl) ?_
    refine lv_aload_n hx hb dX2_measure_72 rfl (lv_at hl 2 rfl) ?_
    refine gEn (v := .int (σ.2.1 j 5)) hx hb hts hinX1 hown hC hW hj 5 (by decide) (by decide +kernel) rfl rfl dX2_measure_73 ?_
    refine vp_callSi (va_Run.run (va_runS (As := [.int ((sp (sp (sp (sp (sp 0 0) (σ.2.1 j 2)) (σ.2.1 j 4 / 1000000)) ((σ.2.1 j 4 / 1000) - (σ.2.1 j 4 / 1000) / 1000 * 1000)) (σ.2.1 j 4 - σ.2.1 j 4 / 1000 * 1000))), .int (σ.2.1 j 5)]) (rest := []) ⟨hx, hb, hml, hown, hts⟩ (mtX2_step l (sp (sp (sp (sp (sp 0 0) (σ.2.1 j 2)) (σ.2.1 j 4 / 1000000)) ((σ.2.1 j 4 / 1000) - (σ.2.1 j 4 / 1000) / 1000 * 1000)) (σ.2.1 j 4 - σ.2.1 j 4 / 1000 * 1000)) (σ.2.1 j 5)) (va_cwS 2 hts gX2_measure_X2_step rfl rfl rfl (by decide +kernel) ⟨Nat.le_of_ble_eq_true rfl, Nat.le_of_ble_eq_true rfl⟩) ⟨P0.blind, fun U hU hW9 => ⟨rfl, trivial⟩⟩ rfl rfl hl.1 rfl (lv_room (Nat.le_of_ble_eq_true rfl)) dX2_measure_76 ⟨Nat.zero_le _, Nat.zero_le _⟩)) (fun r_13 h_12 => ?_)
    obtain rfl : r_13 = sp (sp (sp (sp (sp (sp 0 0) (σ.2.1 j 2)) (σ.2.1 j 4 / 1000000)) ((σ.2.1 j 4 / 1000) - (σ.2.1 j 4 / 1000) / 1000 * 1000)) (σ.2.1 j 4 - σ.2.1 j 4 / 1000 * 1000)) (σ.2.1 j 5) := h_12
    refine lv_istore_n (lv' := [(2, .int ((sp (sp (sp (sp (sp (sp 0 0) (σ.2.1 j 2)) (σ.2.1 j 4 / 1000000)) ((σ.2.1 j 4 / 1000) - (σ.2.1 j 4 / 1000) / 1000 * 1000)) (σ.2.1 j 4 - σ.2.1 j 4 / 1000 * 1000)) (σ.2.1 j 5)))), (0, .ref (gA g 0)), (1, .ref (gA g (13 + j)))]) hx hb dX2_measure_79 rfl hl (by decide) rfl (fun ls hl => ?_)
    refine lv_iload_n hx hb dX2_measure_80 rfl (lv_at hl 0 rfl) ?_
    refine lv_aload_n hx hb dX2_measure_81 rfl (lv_at hl 2 rfl) ?_
    refine gEn (v := .int (σ.2.1 j 3)) hx hb hts hinX1 hown hC hW hj 3 (by decide) (by decide +kernel) rfl rfl dX2_measure_82 ?_
    refine vp_callSi (va_Run.run (va_runS (As := [.int ((sp (sp (sp (sp (sp (sp 0 0) (σ.2.1 j 2)) (σ.2.1 j 4 / 1000000)) ((σ.2.1 j 4 / 1000) - (σ.2.1 j 4 / 1000) / 1000 * 1000)) (σ.2.1 j 4 - σ.2.1 j 4 / 1000 * 1000)) (σ.2.1 j 5))), .int (σ.2.1 j 3)]) (rest := []) ⟨hx, hb, hml, hown, hts⟩ (mtX2_step l (sp (sp (sp (sp (sp (sp 0 0) (σ.2.1 j 2)) (σ.2.1 j 4 / 1000000)) ((σ.2.1 j 4 / 1000) - (σ.2.1 j 4 / 1000) / 1000 * 1000)) (σ.2.1 j 4 - σ.2.1 j 4 / 1000 * 1000)) (σ.2.1 j 5)) (σ.2.1 j 3)) (va_cwS 2 hts gX2_measure_X2_step rfl rfl rfl (by decide +kernel) ⟨Nat.le_of_ble_eq_true rfl, Nat.le_of_ble_eq_true rfl⟩) ⟨P0.blind, fun U hU hW9 => ⟨rfl, trivial⟩⟩ rfl rfl hl.1 rfl (lv_room (Nat.le_of_ble_eq_true rfl)) dX2_measure_85 ⟨Nat.zero_le _, Nat.zero_le _⟩)) (fun r_15 h_14 => ?_)
    obtain rfl : r_15 = sp (sp (sp (sp (sp (sp (sp 0 0) (σ.2.1 j 2)) (σ.2.1 j 4 / 1000000)) ((σ.2.1 j 4 / 1000) - (σ.2.1 j 4 / 1000) / 1000 * 1000)) (σ.2.1 j 4 - σ.2.1 j 4 / 1000 * 1000)) (σ.2.1 j 5)) (σ.2.1 j 3) := h_14
    refine lv_istore_n (lv' := [(2, .int ((sp (sp (sp (sp (sp (sp (sp 0 0) (σ.2.1 j 2)) (σ.2.1 j 4 / 1000000)) ((σ.2.1 j 4 / 1000) - (σ.2.1 j 4 / 1000) / 1000 * 1000)) (σ.2.1 j 4 - σ.2.1 j 4 / 1000 * 1000)) (σ.2.1 j 5)) (σ.2.1 j 3)))), (0, .ref (gA g 0)), (1, .ref (gA g (13 + j)))]) hx hb dX2_measure_88 rfl hl (by decide) rfl (fun ls hl => ?_)
    refine lv_iload_n hx hb dX2_measure_89 rfl (lv_at hl 0 rfl) ?_
    refine lv_aload_n hx hb dX2_measure_90 rfl (lv_at hl 2 rfl) ?_
    refine gEn (v := .int (σ.2.1 j 6)) hx hb hts hinX1 hown hC hW hj 6 (by decide) (by decide +kernel) rfl rfl dX2_measure_91 ?_
    refine vp_callSi (va_Run.run (va_runS (As := [.int ((sp (sp (sp (sp (sp (sp (sp 0 0) (σ.2.1 j 2)) (σ.2.1 j 4 / 1000000)) ((σ.2.1 j 4 / 1000) - (σ.2.1 j 4 / 1000) / 1000 * 1000)) (σ.2.1 j 4 - σ.2.1 j 4 / 1000 * 1000)) (σ.2.1 j 5)) (σ.2.1 j 3))), .int (σ.2.1 j 6)]) (rest := []) ⟨hx, hb, hml, hown, hts⟩ (mtX2_step l (sp (sp (sp (sp (sp (sp (sp 0 0) (σ.2.1 j 2)) (σ.2.1 j 4 / 1000000)) ((σ.2.1 j 4 / 1000) - (σ.2.1 j 4 / 1000) / 1000 * 1000)) (σ.2.1 j 4 - σ.2.1 j 4 / 1000 * 1000)) (σ.2.1 j 5)) (σ.2.1 j 3)) (σ.2.1 j 6)) (va_cwS 2 hts gX2_measure_X2_step rfl rfl rfl (by decide +kernel) ⟨Nat.le_of_ble_eq_true rfl, Nat.le_of_ble_eq_true rfl⟩) ⟨P0.blind, fun U hU hW9 => ⟨rfl, trivial⟩⟩ rfl rfl hl.1 rfl (lv_room (Nat.le_of_ble_eq_true rfl)) dX2_measure_94 ⟨Nat.zero_le _, Nat.zero_le _⟩)) (fun r_17 h_16 => ?_)
    obtain rfl : r_17 = sp (sp (sp (sp (sp (sp (sp (sp 0 0) (σ.2.1 j 2)) (σ.2.1 j 4 / 1000000)) ((σ.2.1 j 4 / 1000) - (σ.2.1 j 4 / 1000) / 1000 * 1000)) (σ.2.1 j 4 - σ.2.1 j 4 / 1000 * 1000)) (σ.2.1 j 5)) (σ.2.1 j 3)) (σ.2.1 j 6) := h_16
    exact W.iret (v := (sp (sp (sp (sp (sp (sp (sp (sp 0 0) (σ.2.1 j 2)) (σ.2.1 j 4 / 1000000)) ((σ.2.1 j 4 / 1000) - (σ.2.1 j 4 / 1000) / 1000 * 1000)) (σ.2.1 j 4 - σ.2.1 j 4 / 1000 * 1000)) (σ.2.1 j 5)) (σ.2.1 j 3)) (σ.2.1 j 6))) hx hb hr (fun t ht hW9 => ⟨_, rfl, by simp [mz, rm, c_1], ht⟩) (fun q h => by cases h) dX2_measure_97
  · skip
    refine lv_iconst (v := 1) hx hb dX2_measure_11 (by decide) ?_
    refine lv_goto (tgt := 16) hx hb dX2_measure_12 (by decide) ?_
    refine vp_callSi (va_Run.run (va_runS (As := [.int 0, .int 1]) (rest := []) ⟨hx, hb, hml, hown, hts⟩ (mtX2_step l 0 1) (va_cwS 2 hts gX2_measure_X2_step rfl rfl rfl (by decide +kernel) ⟨Nat.le_of_ble_eq_true rfl, Nat.le_of_ble_eq_true rfl⟩) ⟨P0.blind, fun U hU hW9 => ⟨rfl, trivial⟩⟩ rfl rfl hl.1 rfl (lv_room (Nat.le_of_ble_eq_true rfl)) dX2_measure_16 ⟨Nat.zero_le _, Nat.zero_le _⟩)) (fun r_19 h_18 => ?_)
    obtain rfl : r_19 = sp 0 1 := h_18
    refine lv_istore_n (lv' := [(2, .int ((sp 0 1))), (0, .ref (gA g 0)), (1, .ref (gA g (13 + j)))]) hx hb dX2_measure_19 rfl hl (by decide) rfl (fun ls hl => ?_)
    refine lv_iload_n hx hb dX2_measure_20 rfl (lv_at hl 0 rfl) ?_
    refine lv_aload_n hx hb dX2_measure_21 rfl (lv_at hl 2 rfl) ?_
    refine gEn (v := .int (σ.2.1 j 2)) hx hb hts hinX1 hown hC hW hj 2 (by decide) (by decide +kernel) rfl rfl dX2_measure_22 ?_
    refine vp_callSi (va_Run.run (va_runS (As := [.int ((sp 0 1)), .int (σ.2.1 j 2)]) (rest := []) ⟨hx, hb, hml, hown, hts⟩ (mtX2_step l (sp 0 1) (σ.2.1 j 2)) (va_cwS 2 hts gX2_measure_X2_step rfl rfl rfl (by decide +kernel) ⟨Nat.le_of_ble_eq_true rfl, Nat.le_of_ble_eq_true rfl⟩) ⟨P0.blind, fun U hU hW9 => ⟨rfl, trivial⟩⟩ rfl rfl hl.1 rfl (lv_room (Nat.le_of_ble_eq_true rfl)) dX2_measure_25 ⟨Nat.zero_le _, Nat.zero_le _⟩)) (fun r_21 h_20 => ?_)
    obtain rfl : r_21 = sp (sp 0 1) (σ.2.1 j 2) := h_20
    refine lv_istore_n (lv' := [(2, .int ((sp (sp 0 1) (σ.2.1 j 2)))), (0, .ref (gA g 0)), (1, .ref (gA g (13 + j)))]) hx hb dX2_measure_28 rfl hl (by decide) rfl (fun ls hl => ?_)
    refine lv_iload_n hx hb dX2_measure_29 rfl (lv_at hl 0 rfl) ?_
    refine lv_aload_n hx hb dX2_measure_30 rfl (lv_at hl 2 rfl) ?_
    refine gEn (v := .int (σ.2.1 j 4)) hx hb hts hinX1 hown hC hW hj 4 (by decide) (by decide +kernel) rfl rfl dX2_measure_31 ?_
    refine lv_ldc (v := 1000000) hx hb hown (hts (.constant RX2 193 (1000000)) (by decide +kernel)) dX2_measure_34 ?_
    refine lv_idiv hx hb dX2_measure_36 (by decide) ?_
    refine vp_callSi (va_Run.run (va_runS (As := [.int ((sp (sp 0 1) (σ.2.1 j 2))), .int ((σ.2.1 j 4 / 1000000))]) (rest := []) ⟨hx, hb, hml, hown, hts⟩ (mtX2_step l (sp (sp 0 1) (σ.2.1 j 2)) (σ.2.1 j 4 / 1000000)) (va_cwS 2 hts gX2_measure_X2_step rfl rfl rfl (by decide +kernel) ⟨Nat.le_of_ble_eq_true rfl, Nat.le_of_ble_eq_true rfl⟩) ⟨P0.blind, fun U hU hW9 => ⟨rfl, trivial⟩⟩ rfl rfl hl.1 rfl (lv_room (Nat.le_of_ble_eq_true rfl)) dX2_measure_37 ⟨Nat.zero_le _, Nat.zero_le _⟩)) (fun r_23 h_22 => ?_)
    obtain rfl : r_23 = sp (sp (sp 0 1) (σ.2.1 j 2)) (σ.2.1 j 4 / 1000000) := h_22
    refine lv_istore_n (lv' := [(2, .int ((sp (sp (sp 0 1) (σ.2.1 j 2)) (σ.2.1 j 4 / 1000000)))), (0, .ref (gA g 0)), (1, .ref (gA g (13 + j)))]) hx hb dX2_measure_40 rfl hl (by decide) rfl (fun ls hl => ?_)
    refine lv_iload_n hx hb dX2_measure_41 rfl (lv_at hl 0 rfl) ?_
    refine lv_aload_n hx hb dX2_measure_42 rfl (lv_at hl 2 rfl) ?_
    refine gEn (v := .int (σ.2.1 j 4)) hx hb hts hinX1 hown hC hW hj 4 (by decide) (by decide +kernel) rfl rfl dX2_measure_43 ?_
    refine lv_sipush (v := 1000) hx hb dX2_measure_46 (by decide) ?_
    refine lv_idiv hx hb dX2_measure_49 (by decide) ?_
    refine lv_sipush (v := 1000) hx hb dX2_measure_50 (by decide) ?_
    refine lv_irem hx hb dX2_measure_53 (by decide) ?_
    refine vp_callSi (va_Run.run (va_runS (As := [.int ((sp (sp (sp 0 1) (σ.2.1 j 2)) (σ.2.1 j 4 / 1000000))), .int (((σ.2.1 j 4 / 1000) - (σ.2.1 j 4 / 1000) / 1000 * 1000))]) (rest := []) ⟨hx, hb, hml, hown, hts⟩ (mtX2_step l (sp (sp (sp 0 1) (σ.2.1 j 2)) (σ.2.1 j 4 / 1000000)) ((σ.2.1 j 4 / 1000) - (σ.2.1 j 4 / 1000) / 1000 * 1000)) (va_cwS 2 hts gX2_measure_X2_step rfl rfl rfl (by decide +kernel) ⟨Nat.le_of_ble_eq_true rfl, Nat.le_of_ble_eq_true rfl⟩) ⟨P0.blind, fun U hU hW9 => ⟨rfl, trivial⟩⟩ rfl rfl hl.1 rfl (lv_room (Nat.le_of_ble_eq_true rfl)) dX2_measure_54 ⟨Nat.zero_le _, Nat.zero_le _⟩)) (fun r_25 h_24 => ?_)
    obtain rfl : r_25 = sp (sp (sp (sp 0 1) (σ.2.1 j 2)) (σ.2.1 j 4 / 1000000)) ((σ.2.1 j 4 / 1000) - (σ.2.1 j 4 / 1000) / 1000 * 1000) := h_24
    refine lv_istore_n (lv' := [(2, .int ((sp (sp (sp (sp 0 1) (σ.2.1 j 2)) (σ.2.1 j 4 / 1000000)) ((σ.2.1 j 4 / 1000) - (σ.2.1 j 4 / 1000) / 1000 * 1000)))), (0, .ref (gA g 0)), (1, .ref (gA g (13 + j)))]) hx hb dX2_measure_57 rfl hl (by decide) rfl (fun ls hl => ?_)
    refine lv_iload_n hx hb dX2_measure_58 rfl (lv_at hl 0 rfl) ?_
    refine lv_aload_n hx hb dX2_measure_59 rfl (lv_at hl 2 rfl) ?_
    refine gEn (v := .int (σ.2.1 j 4)) hx hb hts hinX1 hown hC hW hj 4 (by decide) (by decide +kernel) rfl rfl dX2_measure_60 ?_
    refine lv_sipush (v := 1000) hx hb dX2_measure_63 (by decide) ?_
    refine lv_irem hx hb dX2_measure_66 (by decide) ?_
    refine vp_callSi (va_Run.run (va_runS (As := [.int ((sp (sp (sp (sp 0 1) (σ.2.1 j 2)) (σ.2.1 j 4 / 1000000)) ((σ.2.1 j 4 / 1000) - (σ.2.1 j 4 / 1000) / 1000 * 1000))), .int ((σ.2.1 j 4 - σ.2.1 j 4 / 1000 * 1000))]) (rest := []) ⟨hx, hb, hml, hown, hts⟩ (mtX2_step l (sp (sp (sp (sp 0 1) (σ.2.1 j 2)) (σ.2.1 j 4 / 1000000)) ((σ.2.1 j 4 / 1000) - (σ.2.1 j 4 / 1000) / 1000 * 1000)) (σ.2.1 j 4 - σ.2.1 j 4 / 1000 * 1000)) (va_cwS 2 hts gX2_measure_X2_step rfl rfl rfl (by decide +kernel) ⟨Nat.le_of_ble_eq_true rfl, Nat.le_of_ble_eq_true rfl⟩) ⟨P0.blind, fun U hU hW9 => ⟨rfl, trivial⟩⟩ rfl rfl hl.1 rfl (lv_room (Nat.le_of_ble_eq_true rfl)) dX2_measure_67 ⟨Nat.zero_le _, Nat.zero_le _⟩)) (fun r_27 h_26 => ?_)
    obtain rfl : r_27 = sp (sp (sp (sp (sp 0 1) (σ.2.1 j 2)) (σ.2.1 j 4 / 1000000)) ((σ.2.1 j 4 / 1000) - (σ.2.1 j 4 / 1000) / 1000 * 1000)) (σ.2.1 j 4 - σ.2.1 j 4 / 1000 * 1000) := h_26
    refine lv_istore_n (lv' := [(2, .int ((sp (sp (sp (sp (sp 0 1) (σ.2.1 j 2)) (σ.2.1 j 4 / 1000000)) ((σ.2.1 j 4 / 1000) - (σ.2.1 j 4 / 1000) / 1000 * 1000)) (σ.2.1 j 4 - σ.2.1 j 4 / 1000 * 1000)))), (0, .ref (gA g 0)), (1, .ref (gA g (13 + j)))]) hx hb dX2_measure_70 rfl hl (by decide) rfl (fun ls hl => ?_)
    refine lv_iload_n hx hb dX2_measure_71 rfl (lv_at hl 0 rfl) ?_
    refine lv_aload_n hx hb dX2_measure_72 rfl (lv_at hl 2 rfl) ?_
    refine gEn (v := .int (σ.2.1 j 5)) hx hb hts hinX1 hown hC hW hj 5 (by decide) (by decide +kernel) rfl rfl dX2_measure_73 ?_
    refine vp_callSi (va_Run.run (va_runS (As := [.int ((sp (sp (sp (sp (sp 0 1) (σ.2.1 j 2)) (σ.2.1 j 4 / 1000000)) ((σ.2.1 j 4 / 1000) - (σ.2.1 j 4 / 1000) / 1000 * 1000)) (σ.2.1 j 4 - σ.2.1 j 4 / 1000 * 1000))), .int (σ.2.1 j 5)]) (rest := []) ⟨hx, hb, hml, hown, hts⟩ (mtX2_step l (sp (sp (sp (sp (sp 0 1) (σ.2.1 j 2)) (σ.2.1 j 4 / 1000000)) ((σ.2.1 j 4 / 1000) - (σ.2.1 j 4 / 1000) / 1000 * 1000)) (σ.2.1 j 4 - σ.2.1 j 4 / 1000 * 1000)) (σ.2.1 j 5)) (va_cwS 2 hts gX2_measure_X2_step rfl rfl rfl (by decide +kernel) ⟨Nat.le_of_ble_eq_true rfl, Nat.le_of_ble_eq_true rfl⟩) ⟨P0.blind, fun U hU hW9 => ⟨rfl, trivial⟩⟩ rfl rfl hl.1 rfl (lv_room (Nat.le_of_ble_eq_true rfl)) dX2_measure_76 ⟨Nat.zero_le _, Nat.zero_le _⟩)) (fun r_29 h_28 => ?_)
    obtain rfl : r_29 = sp (sp (sp (sp (sp (sp 0 1) (σ.2.1 j 2)) (σ.2.1 j 4 / 1000000)) ((σ.2.1 j 4 / 1000) - (σ.2.1 j 4 / 1000) / 1000 * 1000)) (σ.2.1 j 4 - σ.2.1 j 4 / 1000 * 1000)) (σ.2.1 j 5) := h_28
    refine lv_istore_n (lv' := [(2, .int ((sp (sp (sp (sp (sp (sp 0 1) (σ.2.1 j 2)) (σ.2.1 j 4 / 1000000)) ((σ.2.1 j 4 / 1000) - (σ.2.1 j 4 / 1000) / 1000 * 1000)) (σ.2.1 j 4 - σ.2.1 j 4 / 1000 * 1000)) (σ.2.1 j 5)))), (0, .ref (gA g 0)), (1, .ref (gA g (13 + j)))]) hx hb dX2_measure_79 rfl hl (by decide) rfl (fun ls hl => ?_)
    refine lv_iload_n hx hb dX2_measure_80 rfl (lv_at hl 0 rfl) ?_
    refine lv_aload_n hx hb dX2_measure_81 rfl (lv_at hl 2 rfl) ?_
    refine gEn (v := .int (σ.2.1 j 3)) hx hb hts hinX1 hown hC hW hj 3 (by decide) (by decide +kernel) rfl rfl dX2_measure_82 ?_
    refine vp_callSi (va_Run.run (va_runS (As := [.int ((sp (sp (sp (sp (sp (sp 0 1) (σ.2.1 j 2)) (σ.2.1 j 4 / 1000000)) ((σ.2.1 j 4 / 1000) - (σ.2.1 j 4 / 1000) / 1000 * 1000)) (σ.2.1 j 4 - σ.2.1 j 4 / 1000 * 1000)) (σ.2.1 j 5))), .int (σ.2.1 j 3)]) (rest := []) ⟨hx, hb, hml, hown, hts⟩ (mtX2_step l (sp (sp (sp (sp (sp (sp 0 1) (σ.2.1 j 2)) (σ.2.1 j 4 / 1000000)) ((σ.2.1 j 4 / 1000) - (σ.2.1 j 4 / 1000) / 1000 * 1000)) (σ.2.1 j 4 - σ.2.1 j 4 / 1000 * 1000)) (σ.2.1 j 5)) (σ.2.1 j 3)) (va_cwS 2 hts gX2_measure_X2_step rfl rfl rfl (by decide +kernel) ⟨Nat.le_of_ble_eq_true rfl, Nat.le_of_ble_eq_true rfl⟩) ⟨P0.blind, fun U hU hW9 => ⟨rfl, trivial⟩⟩ rfl rfl hl.1 rfl (lv_room (Nat.le_of_ble_eq_true rfl)) dX2_measure_85 ⟨Nat.zero_le _, Nat.zero_le _⟩)) (fun r_31 h_30 => ?_)
    obtain rfl : r_31 = sp (sp (sp (sp (sp (sp (sp 0 1) (σ.2.1 j 2)) (σ.2.1 j 4 / 1000000)) ((σ.2.1 j 4 / 1000) - (σ.2.1 j 4 / 1000) / 1000 * 1000)) (σ.2.1 j 4 - σ.2.1 j 4 / 1000 * 1000)) (σ.2.1 j 5)) (σ.2.1 j 3) := h_30
    refine lv_istore_n (lv' := [(2, .int ((sp (sp (sp (sp (sp (sp (sp 0 1) (σ.2.1 j 2)) (σ.2.1 j 4 / 1000000)) ((σ.2.1 j 4 / 1000) - (σ.2.1 j 4 / 1000) / 1000 * 1000)) (σ.2.1 j 4 - σ.2.1 j 4 / 1000 * 1000)) (σ.2.1 j 5)) (σ.2.1 j 3)))), (0, .ref (gA g 0)), (1, .ref (gA g (13 + j)))]) hx hb dX2_measure_88 rfl hl (by decide) rfl (fun ls hl => ?_)
    refine lv_iload_n hx hb dX2_measure_89 rfl (lv_at hl 0 rfl) ?_
    refine lv_aload_n hx hb dX2_measure_90 rfl (lv_at hl 2 rfl) ?_
    refine gEn (v := .int (σ.2.1 j 6)) hx hb hts hinX1 hown hC hW hj 6 (by decide) (by decide +kernel) rfl rfl dX2_measure_91 ?_
    refine vp_callSi (va_Run.run (va_runS (As := [.int ((sp (sp (sp (sp (sp (sp (sp 0 1) (σ.2.1 j 2)) (σ.2.1 j 4 / 1000000)) ((σ.2.1 j 4 / 1000) - (σ.2.1 j 4 / 1000) / 1000 * 1000)) (σ.2.1 j 4 - σ.2.1 j 4 / 1000 * 1000)) (σ.2.1 j 5)) (σ.2.1 j 3))), .int (σ.2.1 j 6)]) (rest := []) ⟨hx, hb, hml, hown, hts⟩ (mtX2_step l (sp (sp (sp (sp (sp (sp (sp 0 1) (σ.2.1 j 2)) (σ.2.1 j 4 / 1000000)) ((σ.2.1 j 4 / 1000) - (σ.2.1 j 4 / 1000) / 1000 * 1000)) (σ.2.1 j 4 - σ.2.1 j 4 / 1000 * 1000)) (σ.2.1 j 5)) (σ.2.1 j 3)) (σ.2.1 j 6)) (va_cwS 2 hts gX2_measure_X2_step rfl rfl rfl (by decide +kernel) ⟨Nat.le_of_ble_eq_true rfl, Nat.le_of_ble_eq_true rfl⟩) ⟨P0.blind, fun U hU hW9 => ⟨rfl, trivial⟩⟩ rfl rfl hl.1 rfl (lv_room (Nat.le_of_ble_eq_true rfl)) dX2_measure_94 ⟨Nat.zero_le _, Nat.zero_le _⟩)) (fun r_33 h_32 => ?_)
    obtain rfl : r_33 = sp (sp (sp (sp (sp (sp (sp (sp 0 1) (σ.2.1 j 2)) (σ.2.1 j 4 / 1000000)) ((σ.2.1 j 4 / 1000) - (σ.2.1 j 4 / 1000) / 1000 * 1000)) (σ.2.1 j 4 - σ.2.1 j 4 / 1000 * 1000)) (σ.2.1 j 5)) (σ.2.1 j 3)) (σ.2.1 j 6) := h_32
    exact W.iret (v := (sp (sp (sp (sp (sp (sp (sp (sp 0 1) (σ.2.1 j 2)) (σ.2.1 j 4 / 1000000)) ((σ.2.1 j 4 / 1000) - (σ.2.1 j 4 / 1000) / 1000 * 1000)) (σ.2.1 j 4 - σ.2.1 j 4 / 1000 * 1000)) (σ.2.1 j 5)) (σ.2.1 j 3)) (σ.2.1 j 6))) hx hb hr (fun t ht hW9 => ⟨_, rfl, by simp [mz, rm, c_1], ht⟩) (fun q h => by cases h) dX2_measure_97
set_option maxHeartbeats 4000000 in
set_option maxRecDepth 100000 in
theorem mtX2_highestCode (l : Launch) (m9 : Int32) (hm : ∃ k : Nat, 1 ≤ k ∧ k ≤ 6 ∧ m9 = nI k) : Met l yX2_highestCode wsX2_highestCode ({ frames := 0, cells := 0, slots := 0, locals := 0 } : Room) (va_Pc [.int m9] P0) (vp_Si (fun r => r = hc m9)) 0 0 (fun _ => False) := by
  refine Met.ofW (cc := cX2_highestCode) (maxL := 3) (ret := (some .int)) (by decide) rfl ?_
  intro p e s m args below meth c s₁ B hml hv
  obtain ⟨rfl, -⟩ := hv
  have hx := B.exec
  have hb := B.bytes
  have hr := B.returns
  have hts := atoms_spec (ws := wsX2_highestCode) B.pre
  have hown : s.vm.findClass RX2 = some m.cls := findClass_of_methodNamed B.named
  have hlocks := B.notSynchronized
  have hl := lv_entry ([.int m9]) (n := 3) (Nat.le_of_ble_eq_true rfl)
  rw [lg_entry_eq]
  generalize (lg_sl ([.int m9]) ++ List.replicate (3 - (lg_sl ([.int m9])).length) Slot.unset).toArray = ls at hl ⊢
  have hl : lv_has ls 3 [(0, .int m9)] := hl
  obtain ⟨k, hk1, hk6, hmk⟩ := hm
  refine lv_iconst (v := 1) hx hb dX2_highestCode_0 (by decide) ?_
  refine lv_istore_n (lv' := [(1, .int 1), (0, .int m9)]) hx hb dX2_highestCode_1 rfl hl (by decide) rfl (fun ls hl => ?_)
  refine lv_iconst (v := 0) hx hb dX2_highestCode_2 (by decide) ?_
  refine lv_istore_n (lv' := [(2, .int 0), (1, .int 1), (0, .int m9)]) hx hb dX2_highestCode_3 rfl hl (by decide) rfl (fun ls hl => ?_)
  have loop_1 : ∀ (n9 i : Nat), i ≤ k → k < i + n9 → True → ∀ (ls : Array Slot), lv_has ls 3 [(0, .int m9), (1, .int (nI (10 ^ i))), (2, .int (nI i))] → W p l e (headSpec wsX2_highestCode ({ frames := 0, cells := 0, slots := 0, locals := 0 } : Room)).room s m ([.int m9] : List Value).toArray below meth c s.heap [] 0 0 (MQ below (vp_Si (fun r => r = hc m9)) ([.int m9] : List Value).toArray s 0 0 (fun _ => False)) (F0 m 4 ls []) := by
    intro n9
    induction n9 with
    | zero =>
      intro i h1 h2
      exact absurd h2 (by omega)
    | succ n9 ih =>
      intro i hi hin hinv ls hl
      refine lv_iload_n hx hb dX2_highestCode_4 rfl (lv_at hl 2 rfl) ?_
      refine lv_iload_n hx hb dX2_highestCode_5 rfl (lv_at hl 0 rfl) ?_
      refine lv_icmp_ge (tgt := 20) hx hb dX2_highestCode_6 (by decide) (fun c_2 => ?_) (fun c_2 => ?_)
      · skip
        have hik : i = k := by rw [hmk, nI_leI (by omega) (by omega)] at c_2; omega
        refine lv_iload_n hx hb dX2_highestCode_20 rfl (lv_at hl 1 rfl) ?_
        refine lv_iconst (v := 1) hx hb dX2_highestCode_21 (by decide) ?_
        refine lv_isub hx hb dX2_highestCode_22 ?_
        exact W.iret (v := (nI (10 ^ i) - 1)) hx hb hr (fun t ht hW9 => ⟨_, rfl, by rw [hc, hmk, nI_clamp (by omega), hik], ht⟩) (fun q h => by cases h) dX2_highestCode_23
      · skip
        have hlt : i < k := by rw [hmk, nI_leI (by omega) (by omega)] at c_2; omega
        refine lv_iload_n hx hb dX2_highestCode_9 rfl (lv_at hl 1 rfl) ?_
        refine lv_bipush (v := 10) hx hb dX2_highestCode_10 (by decide) ?_
        refine lv_imul hx hb dX2_highestCode_12 ?_
        refine lv_istore_n (lv' := [(1, .int ((nI (10 ^ i) * 10))), (0, .int m9), (2, .int (nI i))]) hx hb dX2_highestCode_13 rfl hl (by decide) rfl (fun ls hl => ?_)
        refine lv_iinc (v := nI (i + 1)) (lv' := [(2, .int (nI (i + 1))), (1, .int ((nI (10 ^ i) * 10))), (0, .int m9)]) hx hb dX2_highestCode_14 hl (k := 2) rfl (nI_1 _) (by decide) rfl (fun ls hl => ?_)
        refine lv_goto (tgt := 4) hx hb dX2_highestCode_17 (by decide) ?_
        have hct : nI (10 ^ (i + 1)) = nI (10 ^ i) * 10 := by rw [Nat.pow_succ]; exact (pk_mul (10 ^ i) 10).symm
        exact ih (i + 1) (by omega) (by omega) trivial ls (by rw [hct]; exact lv_sub hl [2, 1, 0] rfl)
  exact loop_1 (k + 1) 0 (Nat.zero_le _) (by omega) trivial ls (by exact lv_sub hl [2, 1, 0] rfl)
end
section
set_option maxHeartbeats 4000000 in
set_option maxRecDepth 100000 in
theorem mtX2_presentEntry (l : Launch) (hfl : l.stackTraces = false) (g : Ge) (σ : Sg) (μ : Mg) (o : Nat → Int64) (n : Int32) : vx_Met l yX2_presentEntry wsX2_presentEntry ({ frames := 6, cells := 1, slots := 6, locals := 90 } : Room) (va_Pc [.ref (gA g 0), .int n] (PW g σ μ o)) (va_Qq (S := Nat) (fun r u => fs (pN σ.2.1 n) 16 = some u ∧ r = some (gA g (13 + u))) (fun _ t => Wd g σ μ o t.heap) (Az g)) (vx_X (S := Unit) (fun _ => True) (fun E _ t => (E = xIO ∧ fs (pN σ.2.1 n) 16 = none) ∧ Wd g σ μ o t.heap) (Az g)) 1 6 (Az g) := by
  refine vx_ofW (cc := cX2_presentEntry) (maxL := 3) (ret := (some (.object "BootChooser$Entry"))) (by decide) rfl ?_
  intro p e s m args below meth c s₁ B hml hxt hv
  obtain ⟨rfl, hC, hW⟩ := hv
  have hx := B.exec
  have hb := B.bytes
  have hr := B.returns
  have hts := atoms_spec (ws := wsX2_presentEntry) B.pre
  have hown : s.vm.findClass RX2 = some m.cls := findClass_of_methodNamed B.named
  have hlocks := B.notSynchronized
  have hxw155 : ∀ w ∈ (vx_atS RX2 155 "java/lang/IndexOutOfBoundsException" ["java/lang/RuntimeException", "java/lang/Exception"]).filter goodWord, w ∈ wsX2_presentEntry := by decide +kernel
  have hS : va_S (Az g) s.heap s.heap [] := va_S.rf
  have hl := lv_entry ([.ref (gA g 0), .int n]) (n := 3) (Nat.le_of_ble_eq_true rfl)
  rw [lg_entry_eq]
  generalize (lg_sl ([.ref (gA g 0), .int n]) ++ List.replicate (3 - (lg_sl ([.ref (gA g 0), .int n])).length) Slot.unset).toArray = ls at hl ⊢
  have hl : lv_has ls 3 [(0, .ref (gA g 0)), (1, .int n)] := hl
  refine lv_aload_n hx hb dX2_presentEntry_0 rfl (lv_at hl 0 rfl) ?_
  refine lv_iload_n hx hb dX2_presentEntry_1 rfl (lv_at hl 1 rfl) ?_
  refine va_csq (va_Run.run (va_runV (As := [.int n]) (rest := []) ⟨hx, hb, hml, hown, hts⟩ (mtX2_findEntry l g σ μ o n) (cwV 1 hts gX2_presentEntry_X2_findEntry rfl rfl rfl (by decide +kernel) ⟨Nat.le_of_ble_eq_true rfl, Nat.le_of_ble_eq_true rfl⟩) ⟨PW.blind, rcB hC hW, fun U hU hW9 => ⟨rfl, PW.at hC hS hW U hU hW9⟩⟩ rfl rfl hl.1 rfl (lv_room (Nat.le_of_ble_eq_true rfl)) dX2_presentEntry_2 ⟨Nat.le_of_ble_eq_true rfl, Nat.le_of_ble_eq_true rfl⟩)) (fun r_2 h_1 => ?_)
  replace h_1 : r_2 = (fs (pN σ.2.1 n) 16).map (fun j => gA g (13 + j)) := h_1
  rcases optc (fs (pN σ.2.1 n) 16) with f_3 | ⟨j_4, f_3⟩
  · skip
    obtain rfl : r_2 = none := by rw [h_1, f_3]; rfl
    refine lv_astore_nN (lv' := [(2, .null), (0, .ref (gA g 0)), (1, .int n)]) hx hb dX2_presentEntry_5 rfl hl (by decide) rfl (fun ls hl => ?_)
    refine lv_aload_nN hx hb dX2_presentEntry_6 rfl (lv_at hl 0 rfl) ?_
    refine lv_ifnonnullN hx hb dX2_presentEntry_7 ?_
    obtain ⟨sa_5, hsa_5⟩ := hC.2.1.2.1 (RX2, 162, "there is no such entry") (by decide +kernel)
    refine vx_throwS (own := RX2) (cls := xIO) (text := "there is no such entry") (names := ["java/lang/RuntimeException", "java/lang/Exception"]) (ik := 151) (is := 162) (ic := 155) (sa := sa_5) (A := Az g) hx hb hfl hown (by decide +kernel) (by decide +kernel) (hts (.classLink RX2 151 "java/lang/IndexOutOfBoundsException") (by decide +kernel)) (hts (.initialized "java/lang/IndexOutOfBoundsException") (by decide +kernel)) hsa_5 (vx_hat (B := xwB xIO) (fun w h => hts w (hxw155 w h)) (by decide +kernel) (cast_w hC.2.1 (by decide +kernel))) (by decide +kernel) hC.2.2.1.1 hC.2.2.1.2 hS (hl.1.trans hml.symm) dX2_presentEntry_10 dX2_presentEntry_13 dX2_presentEntry_14 dX2_presentEntry_16 dX2_presentEntry_19 (fun x h => (hxt x h).elim) (Nat.le_of_ble_eq_true rfl) (Nat.le_of_ble_eq_true rfl) (Nat.le_of_ble_eq_true rfl) (Nat.le_of_ble_eq_true rfl) hlocks (fun t9 hv9 hz9 hq9 => ⟨(), trivial, ⟨⟨rfl, f_3⟩, Wd_up hW hz9 hq9⟩, va_F_up hS hz9 hq9⟩) hS.2.2 (Nat.le_of_ble_eq_true rfl) (Nat.le_of_ble_eq_true rfl)
  · skip
    obtain rfl : r_2 = some (gA g (13 + j_4)) := by rw [h_1, f_3]; rfl
    have hj_4 : j_4 < 16 := fs_16 f_3
    refine lv_astore_n (lv' := [(2, .ref (gA g (13 + j_4))), (0, .ref (gA g 0)), (1, .int n)]) hx hb dX2_presentEntry_5 rfl hl (by decide) rfl (fun ls hl => ?_)
    refine lv_aload_n hx hb dX2_presentEntry_6 rfl (lv_at hl 0 rfl) ?_
    refine lv_ifnonnull (tgt := 20) hx hb dX2_presentEntry_7 (by decide) ?_
    refine lv_aload_n hx hb dX2_presentEntry_20 rfl (lv_at hl 0 rfl) ?_
    refine vx_ret (W.widen (k := 1) (n := 6) (Nat.le_of_ble_eq_true rfl) (Nat.le_of_ble_eq_true rfl) ?_)
    exact W.aret (v := va_rf (some (gA g (13 + j_4)))) hx hb hr (Or.inl ⟨_, rfl⟩) (va_rf_or _) (fun t ht hW9 => ⟨⟨(some (gA g (13 + j_4))), j_4, rfl, ⟨f_3, rfl⟩, by dsimp only; rw [ht]; exact hW⟩, hS.F ht⟩) hS.2.2 dX2_presentEntry_21
set_option maxHeartbeats 4000000 in
set_option maxRecDepth 100000 in
theorem mtX2_refuseAsChoice (l : Launch) (hfl : l.stackTraces = false) (g : Ge) (σ : Sg) (μ : Mg) (o : Nat → Int64) (n : Int32) : vx_Met l yX2_refuseAsChoice wsX2_refuseAsChoice ({ frames := 6, cells := 1, slots := 6, locals := 90 } : Room) (va_Pc [.ref (gA g 0), .int n] (PW g σ μ o)) (va_Qv (S := Unit) (fun _ => okC σ n = true) (fun _ t => Wd g σ μ o t.heap) (Az g)) (vx_X (S := Unit) (fun _ => True) (fun E _ t => (E = xIO ∧ okC σ n = false) ∧ Wd g σ μ o t.heap) (Az g)) 1 6 (Az g) := by
  refine vx_ofW (cc := cX2_refuseAsChoice) (maxL := 2) (ret := none) (by decide) rfl ?_
  intro p e s m args below meth c s₁ B hml hxt hv
  obtain ⟨rfl, hC, hW⟩ := hv
  have hx := B.exec
  have hb := B.bytes
  have hr := B.returns
  have hts := atoms_spec (ws := wsX2_refuseAsChoice) B.pre
  have hown : s.vm.findClass RX2 = some m.cls := findClass_of_methodNamed B.named
  have hlocks := B.notSynchronized
  have hxw155 : ∀ w ∈ (vx_atS RX2 155 "java/lang/IndexOutOfBoundsException" ["java/lang/RuntimeException", "java/lang/Exception"]).filter goodWord, w ∈ wsX2_refuseAsChoice := by decide +kernel
  have hS : va_S (Az g) s.heap s.heap [] := va_S.rf
  have hl := lv_entry ([.ref (gA g 0), .int n]) (n := 2) (Nat.le_of_ble_eq_true rfl)
  rw [lg_entry_eq]
  generalize (lg_sl ([.ref (gA g 0), .int n]) ++ List.replicate (2 - (lg_sl ([.ref (gA g 0), .int n])).length) Slot.unset).toArray = ls at hl ⊢
  have hl : lv_has ls 2 [(0, .ref (gA g 0)), (1, .int n)] := hl
  refine lv_iload_n hx hb dX2_refuseAsChoice_0 rfl (lv_at hl 1 rfl) ?_
  refine lv_iconst (v := (-1)) hx hb dX2_refuseAsChoice_1 (by decide) ?_
  refine lv_icmp_eq (tgt := 23) hx hb dX2_refuseAsChoice_2 (by decide) (fun c_1 => ?_) (fun c_1 => ?_)
  · skip
    refine vx_ret (W.widen (k := 1) (n := 6) (Nat.le_of_ble_eq_true rfl) (Nat.le_of_ble_eq_true rfl) ?_)
    exact W.vret hx hb hr (fun t ht hW9 => ⟨⟨(), rfl, by simp [okC, no1, c_1], by dsimp only; rw [ht]; exact hW⟩, hS.F ht⟩) hS.2.2 dX2_refuseAsChoice_23
  · skip
    refine lv_aload_n hx hb dX2_refuseAsChoice_5 rfl (lv_at hl 0 rfl) ?_
    refine lv_iload_n hx hb dX2_refuseAsChoice_6 rfl (lv_at hl 1 rfl) ?_
    refine va_csq (va_Run.run (va_runV (As := [.int n]) (rest := []) ⟨hx, hb, hml, hown, hts⟩ (mtX2_findEntry l g σ μ o n) (cwV 1 hts gX2_refuseAsChoice_X2_findEntry rfl rfl rfl (by decide +kernel) ⟨Nat.le_of_ble_eq_true rfl, Nat.le_of_ble_eq_true rfl⟩) ⟨PW.blind, rcB hC hW, fun U hU hW9 => ⟨rfl, PW.at hC hS hW U hU hW9⟩⟩ rfl rfl hl.1 rfl (lv_room (Nat.le_of_ble_eq_true rfl)) dX2_refuseAsChoice_7 ⟨Nat.le_of_ble_eq_true rfl, Nat.le_of_ble_eq_true rfl⟩)) (fun r_3 h_2 => ?_)
    replace h_2 : r_3 = (fs (pN σ.2.1 n) 16).map (fun j => gA g (13 + j)) := h_2
    rcases optc (fs (pN σ.2.1 n) 16) with f_4 | ⟨j_5, f_4⟩
    · skip
      obtain rfl : r_3 = none := by rw [h_2, f_4]; rfl
      refine lv_ifnonnullN hx hb dX2_refuseAsChoice_10 ?_
      obtain ⟨sa_6, hsa_6⟩ := hC.2.1.2.1 (RX2, 162, "there is no such entry") (by decide +kernel)
      refine vx_throwS (own := RX2) (cls := xIO) (text := "there is no such entry") (names := ["java/lang/RuntimeException", "java/lang/Exception"]) (ik := 151) (is := 162) (ic := 155) (sa := sa_6) (A := Az g) hx hb hfl hown (by decide +kernel) (by decide +kernel) (hts (.classLink RX2 151 "java/lang/IndexOutOfBoundsException") (by decide +kernel)) (hts (.initialized "java/lang/IndexOutOfBoundsException") (by decide +kernel)) hsa_6 (vx_hat (B := xwB xIO) (fun w h => hts w (hxw155 w h)) (by decide +kernel) (cast_w hC.2.1 (by decide +kernel))) (by decide +kernel) hC.2.2.1.1 hC.2.2.1.2 hS (hl.1.trans hml.symm) dX2_refuseAsChoice_13 dX2_refuseAsChoice_16 dX2_refuseAsChoice_17 dX2_refuseAsChoice_19 dX2_refuseAsChoice_22 (fun x h => (hxt x h).elim) (Nat.le_of_ble_eq_true rfl) (Nat.le_of_ble_eq_true rfl) (Nat.le_of_ble_eq_true rfl) (Nat.le_of_ble_eq_true rfl) hlocks (fun t9 hv9 hz9 hq9 => ⟨(), trivial, ⟨⟨rfl, by simp [okC, no1, c_1, f_4]⟩, Wd_up hW hz9 hq9⟩, va_F_up hS hz9 hq9⟩) hS.2.2 (Nat.le_of_ble_eq_true rfl) (Nat.le_of_ble_eq_true rfl)
    · skip
      obtain rfl : r_3 = some (gA g (13 + j_5)) := by rw [h_2, f_4]; rfl
      have hj_5 : j_5 < 16 := fs_16 f_4
      refine lv_ifnonnull (tgt := 23) hx hb dX2_refuseAsChoice_10 (by decide) ?_
      refine vx_ret (W.widen (k := 1) (n := 6) (Nat.le_of_ble_eq_true rfl) (Nat.le_of_ble_eq_true rfl) ?_)
      exact W.vret hx hb hr (fun t ht hW9 => ⟨⟨(), rfl, by simp [okC, no1, c_1, f_4], by dsimp only; rw [ht]; exact hW⟩, hS.F ht⟩) hS.2.2 dX2_refuseAsChoice_23
set_option maxHeartbeats 4000000 in
set_option maxRecDepth 100000 in
theorem mtX2_refuseIfLocked (l : Launch) (hfl : l.stackTraces = false) (g : Ge) (σ : Sg) (μ : Mg) (o : Nat → Int64)  : vx_Met l yX2_refuseIfLocked wsX2_refuseIfLocked ({ frames := 6, cells := 1, slots := 6, locals := 90 } : Room) (va_Pc [.ref (gA g 0)] (PW g σ μ o)) (va_Qv (S := Unit) (fun _ => σ.2.2.1 0 = 0) (fun _ t => Wd g σ μ o t.heap) (Az g)) (vx_X (S := Unit) (fun _ => True) (fun E _ t => (E = xIS ∧ ¬ σ.2.2.1 0 = 0) ∧ Wd g σ μ o t.heap) (Az g)) 1 6 (Az g) := by
  refine vx_ofW (cc := cX2_refuseIfLocked) (maxL := 1) (ret := none) (by decide) rfl ?_
  intro p e s m args below meth c s₁ B hml hxt hv
  obtain ⟨rfl, hC, hW⟩ := hv
  have hx := B.exec
  have hb := B.bytes
  have hr := B.returns
  have hts := atoms_spec (ws := wsX2_refuseIfLocked) B.pre
  have hown : s.vm.findClass RX2 = some m.cls := findClass_of_methodNamed B.named
  have hlocks := B.notSynchronized
  have hinX0 : ∀ w ∈ wsX00, w ∈ wsX2_refuseIfLocked := by decide +kernel
  have hinX2 : ∀ w ∈ wsX20, w ∈ wsX2_refuseIfLocked := by decide +kernel
  have hxw67 : ∀ w ∈ (vx_atS RX2 67 "java/lang/IllegalStateException" ["java/lang/RuntimeException", "java/lang/Exception"]).filter goodWord, w ∈ wsX2_refuseIfLocked := by decide +kernel
  have hS : va_S (Az g) s.heap s.heap [] := va_S.rf
  have hl := lv_entry ([.ref (gA g 0)]) (n := 1) (Nat.le_of_ble_eq_true rfl)
  rw [lg_entry_eq]
  generalize (lg_sl ([.ref (gA g 0)]) ++ List.replicate (1 - (lg_sl ([.ref (gA g 0)])).length) Slot.unset).toArray = ls at hl ⊢
  have hl : lv_has ls 1 [(0, .ref (gA g 0))] := hl
  refine lv_aload_n hx hb dX2_refuseIfLocked_0 rfl (lv_at hl 0 rfl) ?_
  refine gB (v := .ref (gA g 2)) hx hb hts hinX2 hown hC hW 1 (by decide) (by decide +kernel) rfl rfl dX2_refuseIfLocked_1 ?_
  refine gLn (v := .int (σ.2.2.1 0)) hx hb hts hinX0 hown hC hW 1 (by decide) (by decide +kernel) rfl rfl dX2_refuseIfLocked_4 ?_
  refine lv_if_eq (tgt := 20) hx hb dX2_refuseIfLocked_7 (by decide) (fun c_1 => ?_) (fun c_1 => ?_)
  · skip
    refine vx_ret (W.widen (k := 1) (n := 6) (Nat.le_of_ble_eq_true rfl) (Nat.le_of_ble_eq_true rfl) ?_)
    exact W.vret hx hb hr (fun t ht hW9 => ⟨⟨(), rfl, c_1, by dsimp only; rw [ht]; exact hW⟩, hS.F ht⟩) hS.2.2 dX2_refuseIfLocked_20
  · skip
    obtain ⟨sa_2, hsa_2⟩ := hC.2.1.2.1 (RX2, 164, "the chooser is locked") (by decide +kernel)
    refine vx_throwS (own := RX2) (cls := xIS) (text := "the chooser is locked") (names := ["java/lang/RuntimeException", "java/lang/Exception"]) (ik := 63) (is := 164) (ic := 67) (sa := sa_2) (A := Az g) hx hb hfl hown (by decide +kernel) (by decide +kernel) (hts (.classLink RX2 63 "java/lang/IllegalStateException") (by decide +kernel)) (hts (.initialized "java/lang/IllegalStateException") (by decide +kernel)) hsa_2 (vx_hat (B := xwB xIS) (fun w h => hts w (hxw67 w h)) (by decide +kernel) (cast_w hC.2.1 (by decide +kernel))) (by decide +kernel) hC.2.2.1.1 hC.2.2.1.2 hS (hl.1.trans hml.symm) dX2_refuseIfLocked_10 dX2_refuseIfLocked_13 dX2_refuseIfLocked_14 dX2_refuseIfLocked_16 dX2_refuseIfLocked_19 (fun x h => (hxt x h).elim) (Nat.le_of_ble_eq_true rfl) (Nat.le_of_ble_eq_true rfl) (Nat.le_of_ble_eq_true rfl) (Nat.le_of_ble_eq_true rfl) hlocks (fun t9 hv9 hz9 hq9 => ⟨(), trivial, ⟨⟨rfl, c_1⟩, Wd_up hW hz9 hq9⟩, va_F_up hS hz9 hq9⟩) hS.2.2 (Nat.le_of_ble_eq_true rfl) (Nat.le_of_ble_eq_true rfl)
end
section
set_option maxHeartbeats 4000000 in
set_option maxRecDepth 100000 in
theorem mtX2_remove (l : Launch) (hfl : l.stackTraces = false) (g : Ge) (σ : Sg) (μ : Mg) (o : Nat → Int64) (n : Int32) : vx_Met l yX2_remove wsX2_remove ({ frames := 7, cells := 1, slots := 6, locals := 112 } : Room) (va_Pc [.ref (gA g 0), .int n] (PW g σ μ o)) (va_Qi (S := Nat) (fun r u => kRem σ n = 0 ∧ fs (pN σ.2.1 n) 16 = some u ∧ r = nI (ct (thr (up2 σ.2.1 u (upd (σ.2.1 u) 0 0))) 16)) (fun u t => Wd g (σ.1, up2 σ.2.1 u (upd (σ.2.1 u) 0 0), σ.2.2) μ o t.heap) (Az g)) (vx_X (S := Unit) (fun _ => True) (fun E _ t => (E = xIO ∧ kRem σ n = 1) ∧ Wd g σ μ o t.heap) (Az g)) 1 6 (Az g) := by
  refine vx_ofW (cc := cX2_remove) (maxL := 2) (ret := (some .int)) (by decide) rfl ?_
  intro p e s m args below meth c s₁ B hml hxt hv
  obtain ⟨rfl, hC, hW⟩ := hv
  have hx := B.exec
  have hb := B.bytes
  have hr := B.returns
  have hts := atoms_spec (ws := wsX2_remove) B.pre
  have hown : s.vm.findClass RX2 = some m.cls := findClass_of_methodNamed B.named
  have hlocks := B.notSynchronized
  have hinX1 : ∀ w ∈ wsX10, w ∈ wsX2_remove := by decide +kernel
  have hS : va_S (Az g) s.heap s.heap [] := va_S.rf
  have hl := lv_entry ([.ref (gA g 0), .int n]) (n := 2) (Nat.le_of_ble_eq_true rfl)
  rw [lg_entry_eq]
  generalize (lg_sl ([.ref (gA g 0), .int n]) ++ List.replicate (2 - (lg_sl ([.ref (gA g 0), .int n])).length) Slot.unset).toArray = ls at hl ⊢
  have hl : lv_has ls 2 [(0, .ref (gA g 0)), (1, .int n)] := hl
  refine lv_aload_n hx hb dX2_remove_0 rfl (lv_at hl 0 rfl) ?_
  refine lv_iload_n hx hb dX2_remove_1 rfl (lv_at hl 1 rfl) ?_
  refine vx_callq (vx_runV (As := [.int n]) (rest := []) ⟨hx, hb, hml, hown, hts⟩ (mtX2_presentEntry l hfl g σ μ o n) (cwV 1 hts gX2_remove_X2_presentEntry rfl rfl rfl (by decide +kernel) ⟨Nat.le_of_ble_eq_true rfl, Nat.le_of_ble_eq_true rfl⟩) ⟨PW.blind, rcB hC hW, fun U hU hW9 => ⟨rfl, PW.at hC hS hW U hU hW9⟩⟩ rfl rfl hl.1 rfl (lv_room (Nat.le_of_ble_eq_true rfl)) dX2_remove_2 ⟨Nat.le_of_ble_eq_true rfl, Nat.le_of_ble_eq_true rfl⟩) hS (fun _ _ h => h) (fun _ h => h) (fun _ _ h => h) (fun E9 ce q9 u_3 t H locs ht hvm hpx hbx hz9 hk9 hS hce hcv hcl => ?_) (fun r_2 u_3 t H locs ht hvm h_1 hW hz9 hk9 hS => ?_)
  · skip
    obtain ⟨hbq, hbw⟩ := hbx
    try dsimp only at hbq
    replace hbw : Wd g σ μ o H := by rw [← ht]; exact hbw
    refine vx_out (fun x h => (hxt x h).elim) hlocks hce hcv hcl (fun t9 ht9 hv9 => ⟨(), trivial, ⟨⟨hbq.1, by have hq9 := hbq.2; simp [kRem, no1, hq9]⟩, by first | (rw [ht9]; exact hbw) | (dsimp only; rw [ht9]; exact hbw)⟩, hS.F ht9⟩) hS.2.2 (Nat.le_of_ble_eq_true rfl) (Nat.le_of_ble_eq_true rfl)
  · skip
    replace hW : Wd g σ μ o H := by rw [← ht]; exact hW
    try dsimp only at h_1
    obtain ⟨f_5, rfl⟩ := h_1
    have hj_6 : u_3 < 16 := fs_16 f_5
    refine lv_iconst (v := 0) hx hb dX2_remove_5 (by decide) ?_
    refine pEn (ty := .boolean) hx hb hts hinX1 hown hC hS hW hj_6 0 (by decide) (by decide +kernel) (by decide +kernel) (0) rfl rfl dX2_remove_6 (fun H locs hW hS => ?_)
    refine lv_aload_n hx hb dX2_remove_9 rfl (lv_at hl 0 rfl) ?_
    refine vp_callSi (va_Run.run (va_runV (As := []) (rest := []) ⟨hx, hb, hml, hown, hts⟩ (mtX2_countEntries l g ((σ.1, up2 σ.2.1 u_3 (upd (σ.2.1 u_3) 0 0), σ.2.2.1, σ.2.2.2)) μ o ) (cwV 0 hts gX2_remove_X2_countEntries rfl rfl rfl (by decide +kernel) ⟨Nat.le_of_ble_eq_true rfl, Nat.le_of_ble_eq_true rfl⟩) ⟨PW.blind, rcB hC hW, fun U hU hW9 => ⟨rfl, PW.at hC hS hW U hU hW9⟩⟩ rfl rfl hl.1 rfl (lv_room (Nat.le_of_ble_eq_true rfl)) dX2_remove_10 ⟨Nat.le_of_ble_eq_true rfl, Nat.le_of_ble_eq_true rfl⟩)) (fun r_8 h_7 => ?_)
    obtain rfl : r_8 = nI (ct (thr (up2 σ.2.1 u_3 (upd (σ.2.1 u_3) 0 0))) 16) := h_7
    refine vx_ret (W.widen (k := 1) (n := 6) (Nat.le_of_ble_eq_true rfl) (Nat.le_of_ble_eq_true rfl) ?_)
    exact W.iret (v := (nI (ct (thr (up2 σ.2.1 u_3 (upd (σ.2.1 u_3) 0 0))) 16))) hx hb hr (fun t ht hW9 => ⟨⟨_, u_3, rfl, ⟨by simp [kRem, no1, f_5], f_5, rfl⟩, by first | (rw [ht]; exact hW) | (dsimp only; rw [ht]; exact hW)⟩, hS.F ht⟩) hS.2.2 dX2_remove_13
set_option maxHeartbeats 4000000 in
set_option maxRecDepth 100000 in
theorem mtX2_edit (l : Launch) (hfl : l.stackTraces = false) (g : Ge) (σ : Sg) (μ : Mg) (o : Nat → Int64) (n opt : Int32) : vx_Met l yX2_edit wsX2_edit ({ frames := 7, cells := 3, slots := 18, locals := 112 } : Room) (va_Pc [.ref (gA g 0), .int n, .int opt] (PW g σ μ o)) (va_Qi (S := Nat) (fun r u => kEd σ n opt = 0 ∧ fs (pN σ.2.1 n) 16 = some u ∧ r = σ.2.1 u 6) (fun u t => Wd g (σ.1, up2 σ.2.1 u (upd (σ.2.1 u) 6 opt), σ.2.2) μ o t.heap) (Az g)) (vx_X (S := Unit) (fun _ => True) (fun E _ t => ((E = xIO ∧ kEd σ n opt = 1) ∨ (E = xIA ∧ kEd σ n opt = 2) ∨ (E = xIS ∧ kEd σ n opt = 3)) ∧ Wd g σ μ o t.heap) (Az g)) 3 18 (Az g) := by
  refine vx_ofW (cc := cX2_edit) (maxL := 5) (ret := (some .int)) (by decide) rfl ?_
  intro p e s m args below meth c s₁ B hml hxt hv
  obtain ⟨rfl, hC, hW⟩ := hv
  have hx := B.exec
  have hb := B.bytes
  have hr := B.returns
  have hts := atoms_spec (ws := wsX2_edit) B.pre
  have hown : s.vm.findClass RX2 = some m.cls := findClass_of_methodNamed B.named
  have hlocks := B.notSynchronized
  have hinX1 : ∀ w ∈ wsX10, w ∈ wsX2_edit := by decide +kernel
  have hxw54 : ∀ w ∈ (vx_atS RX2 54 "java/lang/IllegalArgumentException" ["java/lang/RuntimeException", "java/lang/Exception"]).filter goodWord, w ∈ wsX2_edit := by decide +kernel
  have hS : va_S (Az g) s.heap s.heap [] := va_S.rf
  have hl := lv_entry ([.ref (gA g 0), .int n, .int opt]) (n := 5) (Nat.le_of_ble_eq_true rfl)
  rw [lg_entry_eq]
  generalize (lg_sl ([.ref (gA g 0), .int n, .int opt]) ++ List.replicate (5 - (lg_sl ([.ref (gA g 0), .int n, .int opt])).length) Slot.unset).toArray = ls at hl ⊢
  have hl : lv_has ls 5 [(0, .ref (gA g 0)), (1, .int n), (2, .int opt)] := hl
  refine lv_aload_n hx hb dX2_edit_0 rfl (lv_at hl 0 rfl) ?_
  refine lv_iload_n hx hb dX2_edit_1 rfl (lv_at hl 1 rfl) ?_
  refine vx_callq (vx_runV (As := [.int n]) (rest := []) ⟨hx, hb, hml, hown, hts⟩ (mtX2_presentEntry l hfl g σ μ o n) (cwV 1 hts gX2_edit_X2_presentEntry rfl rfl rfl (by decide +kernel) ⟨Nat.le_of_ble_eq_true rfl, Nat.le_of_ble_eq_true rfl⟩) ⟨PW.blind, rcB hC hW, fun U hU hW9 => ⟨rfl, PW.at hC hS hW U hU hW9⟩⟩ rfl rfl hl.1 rfl (lv_room (Nat.le_of_ble_eq_true rfl)) dX2_edit_2 ⟨Nat.le_of_ble_eq_true rfl, Nat.le_of_ble_eq_true rfl⟩) hS (fun _ _ h => h) (fun _ h => h) (fun _ _ h => h) (fun E9 ce q9 u_3 t H locs ht hvm hpx hbx hz9 hk9 hS hce hcv hcl => ?_) (fun r_2 u_3 t H locs ht hvm h_1 hW hz9 hk9 hS => ?_)
  · skip
    obtain ⟨hbq, hbw⟩ := hbx
    try dsimp only at hbq
    replace hbw : Wd g σ μ o H := by rw [← ht]; exact hbw
    refine vx_out (fun x h => (hxt x h).elim) hlocks hce hcv hcl (fun t9 ht9 hv9 => ⟨(), trivial, ⟨Or.inl ⟨hbq.1, by have hq9 := hbq.2; simp [kEd, no1, hq9]⟩, by first | (rw [ht9]; exact hbw) | (dsimp only; rw [ht9]; exact hbw)⟩, hS.F ht9⟩) hS.2.2 (Nat.le_of_ble_eq_true rfl) (Nat.le_of_ble_eq_true rfl)
  · skip
    replace hW : Wd g σ μ o H := by rw [← ht]; exact hW
    try dsimp only at h_1
    obtain ⟨f_5, rfl⟩ := h_1
    have hj_6 : u_3 < 16 := fs_16 f_5
    refine lv_astore_n (lv' := [(3, .ref (gA g (13 + u_3))), (0, .ref (gA g 0)), (1, .int n), (2, .int opt)]) hx hb dX2_edit_5 rfl hl (by decide) rfl (fun ls hl => ?_)
    refine lv_iload_n hx hb dX2_edit_6 rfl (lv_at hl 3 rfl) ?_
    refine lv_iconst (v := 0) hx hb dX2_edit_7 (by decide) ?_
    refine lv_bipush (v := 99) hx hb dX2_edit_8 (by decide) ?_
    refine vp_callSi (va_Run.run (va_runS (As := [.int opt, .int 0, .int 99]) (rest := []) ⟨hx, hb, hml, hown, hts⟩ (mtX2_isWithin l opt 0 99) (va_cwS 3 hts gX2_edit_X2_isWithin rfl rfl rfl (by decide +kernel) ⟨Nat.le_of_ble_eq_true rfl, Nat.le_of_ble_eq_true rfl⟩) ⟨P0.blind, fun U hU hW9 => ⟨rfl, trivial⟩⟩ rfl rfl hl.1 rfl (lv_room (Nat.le_of_ble_eq_true rfl)) dX2_edit_10 ⟨Nat.le_of_ble_eq_true rfl, Nat.le_of_ble_eq_true rfl⟩)) (fun r_8 h_7 => ?_)
    obtain rfl : r_8 = bI (wi opt 0 99) := h_7
    refine lv_if_ne (tgt := 26) hx hb dX2_edit_13 (by decide) (fun c_9 => ?_) (fun c_9 => ?_)
    · skip
      replace c_9 := bI_n0.mp c_9
      refine lv_aload_n hx hb dX2_edit_26 rfl (lv_at hl 1 rfl) ?_
      refine vx_callv (vx_runV (As := []) (rest := []) ⟨hx, hb, hml, hown, hts⟩ (mtX2_refuseIfLocked l hfl g σ μ o ) (cwV 0 hts gX2_edit_X2_refuseIfLocked rfl rfl rfl (by decide +kernel) ⟨Nat.le_of_ble_eq_true rfl, Nat.le_of_ble_eq_true rfl⟩) ⟨PW.blind, rcB hC hW, fun U hU hW9 => ⟨rfl, PW.at hC hS hW U hU hW9⟩⟩ rfl rfl hl.1 rfl (lv_room (Nat.le_of_ble_eq_true rfl)) dX2_edit_27 ⟨Nat.le_of_ble_eq_true rfl, Nat.le_of_ble_eq_true rfl⟩) hS (fun _ _ h => h) (fun _ h => h) (fun _ _ h => h) (fun E9 ce q9 u_12 t H locs ht hvm hpx hbx hz9 hk9 hS hce hcv hcl => ?_) (fun u_12 t H locs ht hvm h_10 hW hz9 hk9 hS => ?_)
      · skip
        obtain ⟨hbq, hbw⟩ := hbx
        try dsimp only at hbq
        replace hbw : Wd g σ μ o H := by rw [← ht]; exact hbw
        refine vx_out (fun x h => (hxt x h).elim) hlocks hce hcv hcl (fun t9 ht9 hv9 => ⟨(), trivial, ⟨Or.inr (Or.inr ⟨hbq.1, by have hq9 := hbq.2; simp [kEd, no1, hq9, f_5, c_9]⟩), by first | (rw [ht9]; exact hbw) | (dsimp only; rw [ht9]; exact hbw)⟩, hS.F ht9⟩) hS.2.2 (Nat.le_of_ble_eq_true rfl) (Nat.le_of_ble_eq_true rfl)
      · skip
        replace hW : Wd g σ μ o H := by rw [← ht]; exact hW
        try dsimp only at h_10
        refine lv_aload_n hx hb dX2_edit_30 rfl (lv_at hl 0 rfl) ?_
        refine gEn (v := .int (σ.2.1 u_3 6)) hx hb hts hinX1 hown hC hW hj_6 6 (by decide) (by decide +kernel) rfl rfl dX2_edit_31 ?_
        refine lv_istore (lv' := [(4, .int (σ.2.1 u_3 6)), (3, .ref (gA g (13 + u_3))), (0, .ref (gA g 0)), (1, .int n), (2, .int opt)]) hx hb dX2_edit_34 hl (by decide) rfl (fun ls hl => ?_)
        refine lv_aload_n hx hb dX2_edit_36 rfl (lv_at hl 1 rfl) ?_
        refine lv_iload_n hx hb dX2_edit_37 rfl (lv_at hl 4 rfl) ?_
        refine pEn (ty := .int) hx hb hts hinX1 hown hC hS hW hj_6 6 (by decide) (by decide +kernel) (by decide +kernel) (opt) rfl rfl dX2_edit_38 (fun H locs hW hS => ?_)
        refine lv_iload hx hb dX2_edit_41 (lv_at hl 0 rfl) ?_
        refine vx_ret (W.widen (k := 3) (n := 18) (Nat.le_of_ble_eq_true rfl) (Nat.le_of_ble_eq_true rfl) ?_)
        exact W.iret (v := σ.2.1 u_3 6) hx hb hr (fun t ht hW9 => ⟨⟨_, u_3, rfl, ⟨by simp [kEd, no1, f_5, c_9, h_10], f_5, rfl⟩, by first | (rw [ht]; exact hW) | (dsimp only; rw [ht]; exact hW)⟩, hS.F ht⟩) hS.2.2 dX2_edit_43
    · skip
      replace c_9 := bI_0.mp c_9
      obtain ⟨sa_14, hsa_14⟩ := hC.2.1.2.1 (RX2, 87, "option is out of range") (by decide +kernel)
      refine vx_throwS (own := RX2) (cls := xIA) (text := "option is out of range") (names := ["java/lang/RuntimeException", "java/lang/Exception"]) (ik := 50) (is := 87) (ic := 54) (sa := sa_14) (A := Az g) hx hb hfl hown (by decide +kernel) (by decide +kernel) (hts (.classLink RX2 50 "java/lang/IllegalArgumentException") (by decide +kernel)) (hts (.initialized "java/lang/IllegalArgumentException") (by decide +kernel)) hsa_14 (vx_hat (B := xwB xIA) (fun w h => hts w (hxw54 w h)) (by decide +kernel) (cast_w hC.2.1 (by decide +kernel))) (by decide +kernel) hC.2.2.1.1 hC.2.2.1.2 hS (hl.1.trans hml.symm) dX2_edit_16 dX2_edit_19 dX2_edit_20 dX2_edit_22 dX2_edit_25 (fun x h => (hxt x h).elim) (Nat.le_of_ble_eq_true rfl) (Nat.le_of_ble_eq_true rfl) (Nat.le_of_ble_eq_true rfl) (Nat.le_of_ble_eq_true rfl) hlocks (fun t9 hv9 hz9 hq9 => ⟨(), trivial, ⟨Or.inr (Or.inl ⟨rfl, by simp [kEd, no1, f_5, c_9]⟩), Wd_up hW hz9 hq9⟩, va_F_up hS hz9 hq9⟩) hS.2.2 (Nat.le_of_ble_eq_true rfl) (Nat.le_of_ble_eq_true rfl)
set_option maxHeartbeats 4000000 in
set_option maxRecDepth 100000 in
theorem mtX2_choose (l : Launch) (hfl : l.stackTraces = false) (g : Ge) (σ : Sg) (μ : Mg) (o : Nat → Int64) (n : Int32) : vx_Met l yX2_choose wsX2_choose ({ frames := 7, cells := 2, slots := 12, locals := 111 } : Room) (va_Pc [.ref (gA g 0), .int n] (PW g σ μ o)) (va_Qi (S := Unit) (fun r _ => kCh σ n = 0 ∧ r = σ.1 1) (fun _ t => Wd g (upd σ.1 1 n, σ.2) μ o t.heap) (Az g)) (vx_X (S := Unit) (fun _ => True) (fun E _ t => ((E = xIO ∧ kCh σ n = 1) ∨ (E = xIS ∧ kCh σ n = 2)) ∧ Wd g σ μ o t.heap) (Az g)) 2 12 (Az g) := by
  refine vx_ofW (cc := cX2_choose) (maxL := 3) (ret := (some .int)) (by decide) rfl ?_
  intro p e s m args below meth c s₁ B hml hxt hv
  obtain ⟨rfl, hC, hW⟩ := hv
  have hx := B.exec
  have hb := B.bytes
  have hr := B.returns
  have hts := atoms_spec (ws := wsX2_choose) B.pre
  have hown : s.vm.findClass RX2 = some m.cls := findClass_of_methodNamed B.named
  have hlocks := B.notSynchronized
  have hinX2 : ∀ w ∈ wsX20, w ∈ wsX2_choose := by decide +kernel
  have hS : va_S (Az g) s.heap s.heap [] := va_S.rf
  have hl := lv_entry ([.ref (gA g 0), .int n]) (n := 3) (Nat.le_of_ble_eq_true rfl)
  rw [lg_entry_eq]
  generalize (lg_sl ([.ref (gA g 0), .int n]) ++ List.replicate (3 - (lg_sl ([.ref (gA g 0), .int n])).length) Slot.unset).toArray = ls at hl ⊢
  have hl : lv_has ls 3 [(0, .ref (gA g 0)), (1, .int n)] := hl
  refine lv_aload_n hx hb dX2_choose_0 rfl (lv_at hl 0 rfl) ?_
  refine lv_iload_n hx hb dX2_choose_1 rfl (lv_at hl 1 rfl) ?_
  refine vx_callv (vx_runV (As := [.int n]) (rest := []) ⟨hx, hb, hml, hown, hts⟩ (mtX2_refuseAsChoice l hfl g σ μ o n) (cwV 1 hts gX2_choose_X2_refuseAsChoice rfl rfl rfl (by decide +kernel) ⟨Nat.le_of_ble_eq_true rfl, Nat.le_of_ble_eq_true rfl⟩) ⟨PW.blind, rcB hC hW, fun U hU hW9 => ⟨rfl, PW.at hC hS hW U hU hW9⟩⟩ rfl rfl hl.1 rfl (lv_room (Nat.le_of_ble_eq_true rfl)) dX2_choose_2 ⟨Nat.le_of_ble_eq_true rfl, Nat.le_of_ble_eq_true rfl⟩) hS (fun _ _ h => h) (fun _ h => h) (fun _ _ h => h) (fun E9 ce q9 u_3 t H locs ht hvm hpx hbx hz9 hk9 hS hce hcv hcl => ?_) (fun u_3 t H locs ht hvm h_1 hW hz9 hk9 hS => ?_)
  · skip
    obtain ⟨hbq, hbw⟩ := hbx
    try dsimp only at hbq
    replace hbw : Wd g σ μ o H := by rw [← ht]; exact hbw
    refine vx_out (fun x h => (hxt x h).elim) hlocks hce hcv hcl (fun t9 ht9 hv9 => ⟨(), trivial, ⟨Or.inl ⟨hbq.1, by have hq9 := hbq.2; simp [kCh, hq9]⟩, by first | (rw [ht9]; exact hbw) | (dsimp only; rw [ht9]; exact hbw)⟩, hS.F ht9⟩) hS.2.2 (Nat.le_of_ble_eq_true rfl) (Nat.le_of_ble_eq_true rfl)
  · skip
    replace hW : Wd g σ μ o H := by rw [← ht]; exact hW
    try dsimp only at h_1
    refine lv_aload_n hx hb dX2_choose_5 rfl (lv_at hl 0 rfl) ?_
    refine vx_callv (vx_runV (As := []) (rest := []) ⟨hx, hb, hml, hown, hts⟩ (mtX2_refuseIfLocked l hfl g σ μ o ) (cwV 0 hts gX2_choose_X2_refuseIfLocked rfl rfl rfl (by decide +kernel) ⟨Nat.le_of_ble_eq_true rfl, Nat.le_of_ble_eq_true rfl⟩) ⟨PW.blind, rcB hC hW, fun U hU hW9 => ⟨rfl, PW.at hC hS hW U hU hW9⟩⟩ rfl rfl hl.1 rfl (lv_room (Nat.le_of_ble_eq_true rfl)) dX2_choose_6 ⟨Nat.le_of_ble_eq_true rfl, Nat.le_of_ble_eq_true rfl⟩) hS (fun _ _ h => h) (fun _ h => h) (fun _ _ h => h) (fun E9 ce q9 u_7 t H locs ht hvm hpx hbx hz9 hk9 hS hce hcv hcl => ?_) (fun u_7 t H locs ht hvm h_5 hW hz9 hk9 hS => ?_)
    · skip
      obtain ⟨hbq, hbw⟩ := hbx
      try dsimp only at hbq
      replace hbw : Wd g σ μ o H := by rw [← ht]; exact hbw
      refine vx_out (fun x h => (hxt x h).elim) hlocks hce hcv hcl (fun t9 ht9 hv9 => ⟨(), trivial, ⟨Or.inr ⟨hbq.1, by have hq9 := hbq.2; simp [kCh, hq9, h_1]⟩, by first | (rw [ht9]; exact hbw) | (dsimp only; rw [ht9]; exact hbw)⟩, hS.F ht9⟩) hS.2.2 (Nat.le_of_ble_eq_true rfl) (Nat.le_of_ble_eq_true rfl)
    · skip
      replace hW : Wd g σ μ o H := by rw [← ht]; exact hW
      try dsimp only at h_5
      refine lv_aload_n hx hb dX2_choose_9 rfl (lv_at hl 0 rfl) ?_
      refine gB (v := .int (σ.1 1)) hx hb hts hinX2 hown hC hW 3 (by decide) (by decide +kernel) rfl rfl dX2_choose_10 ?_
      refine lv_istore_n (lv' := [(2, .int (σ.1 1)), (0, .ref (gA g 0)), (1, .int n)]) hx hb dX2_choose_13 rfl hl (by decide) rfl (fun ls hl => ?_)
      refine lv_aload_n hx hb dX2_choose_14 rfl (lv_at hl 1 rfl) ?_
      refine lv_iload_n hx hb dX2_choose_15 rfl (lv_at hl 2 rfl) ?_
      refine pB hx hb hts hinX2 hown hC hS hW 1 (by decide) (by decide +kernel) (n) dX2_choose_16 (fun H locs hW hS => ?_)
      refine lv_iload_n hx hb dX2_choose_19 rfl (lv_at hl 0 rfl) ?_
      refine vx_ret (W.widen (k := 2) (n := 12) (Nat.le_of_ble_eq_true rfl) (Nat.le_of_ble_eq_true rfl) ?_)
      exact W.iret (v := σ.1 1) hx hb hr (fun t ht hW9 => ⟨⟨_, (), rfl, ⟨by simp [kCh, h_1, h_5], rfl⟩, by first | (rw [ht]; exact hW) | (dsimp only; rw [ht]; exact hW)⟩, hS.F ht⟩) hS.2.2 dX2_choose_20
set_option maxHeartbeats 4000000 in
set_option maxRecDepth 100000 in
theorem mtX2_chooseOnce (l : Launch) (hfl : l.stackTraces = false) (g : Ge) (σ : Sg) (μ : Mg) (o : Nat → Int64) (n : Int32) : vx_Met l yX2_chooseOnce wsX2_chooseOnce ({ frames := 7, cells := 1, slots := 6, locals := 111 } : Room) (va_Pc [.ref (gA g 0), .int n] (PW g σ μ o)) (va_Qi (S := Unit) (fun r _ => kCo σ n = 0 ∧ r = σ.1 2) (fun _ t => Wd g (upd σ.1 2 n, σ.2) μ o t.heap) (Az g)) (vx_X (S := Unit) (fun _ => True) (fun E _ t => (E = xIO ∧ kCo σ n = 1) ∧ Wd g σ μ o t.heap) (Az g)) 1 6 (Az g) := by
  refine vx_ofW (cc := cX2_chooseOnce) (maxL := 3) (ret := (some .int)) (by decide) rfl ?_
  intro p e s m args below meth c s₁ B hml hxt hv
  obtain ⟨rfl, hC, hW⟩ := hv
  have hx := B.exec
  have hb := B.bytes
  have hr := B.returns
  have hts := atoms_spec (ws := wsX2_chooseOnce) B.pre
  have hown : s.vm.findClass RX2 = some m.cls := findClass_of_methodNamed B.named
  have hlocks := B.notSynchronized
  have hinX2 : ∀ w ∈ wsX20, w ∈ wsX2_chooseOnce := by decide +kernel
  have hS : va_S (Az g) s.heap s.heap [] := va_S.rf
  have hl := lv_entry ([.ref (gA g 0), .int n]) (n := 3) (Nat.le_of_ble_eq_true rfl)
  rw [lg_entry_eq]
  generalize (lg_sl ([.ref (gA g 0), .int n]) ++ List.replicate (3 - (lg_sl ([.ref (gA g 0), .int n])).length) Slot.unset).toArray = ls at hl ⊢
  have hl : lv_has ls 3 [(0, .ref (gA g 0)), (1, .int n)] := hl
  refine lv_aload_n hx hb dX2_chooseOnce_0 rfl (lv_at hl 0 rfl) ?_
  refine lv_iload_n hx hb dX2_chooseOnce_1 rfl (lv_at hl 1 rfl) ?_
  refine vx_callv (vx_runV (As := [.int n]) (rest := []) ⟨hx, hb, hml, hown, hts⟩ (mtX2_refuseAsChoice l hfl g σ μ o n) (cwV 1 hts gX2_chooseOnce_X2_refuseAsChoice rfl rfl rfl (by decide +kernel) ⟨Nat.le_of_ble_eq_true rfl, Nat.le_of_ble_eq_true rfl⟩) ⟨PW.blind, rcB hC hW, fun U hU hW9 => ⟨rfl, PW.at hC hS hW U hU hW9⟩⟩ rfl rfl hl.1 rfl (lv_room (Nat.le_of_ble_eq_true rfl)) dX2_chooseOnce_2 ⟨Nat.le_of_ble_eq_true rfl, Nat.le_of_ble_eq_true rfl⟩) hS (fun _ _ h => h) (fun _ h => h) (fun _ _ h => h) (fun E9 ce q9 u_3 t H locs ht hvm hpx hbx hz9 hk9 hS hce hcv hcl => ?_) (fun u_3 t H locs ht hvm h_1 hW hz9 hk9 hS => ?_)
  · skip
    obtain ⟨hbq, hbw⟩ := hbx
    try dsimp only at hbq
    replace hbw : Wd g σ μ o H := by rw [← ht]; exact hbw
    refine vx_out (fun x h => (hxt x h).elim) hlocks hce hcv hcl (fun t9 ht9 hv9 => ⟨(), trivial, ⟨⟨hbq.1, by have hq9 := hbq.2; simp [kCo, hq9]⟩, by first | (rw [ht9]; exact hbw) | (dsimp only; rw [ht9]; exact hbw)⟩, hS.F ht9⟩) hS.2.2 (Nat.le_of_ble_eq_true rfl) (Nat.le_of_ble_eq_true rfl)
  · skip
    replace hW : Wd g σ μ o H := by rw [← ht]; exact hW
    try dsimp only at h_1
    refine lv_aload_n hx hb dX2_chooseOnce_5 rfl (lv_at hl 0 rfl) ?_
    refine gB (v := .int (σ.1 2)) hx hb hts hinX2 hown hC hW 4 (by decide) (by decide +kernel) rfl rfl dX2_chooseOnce_6 ?_
    refine lv_istore_n (lv' := [(2, .int (σ.1 2)), (0, .ref (gA g 0)), (1, .int n)]) hx hb dX2_chooseOnce_9 rfl hl (by decide) rfl (fun ls hl => ?_)
    refine lv_aload_n hx hb dX2_chooseOnce_10 rfl (lv_at hl 1 rfl) ?_
    refine lv_iload_n hx hb dX2_chooseOnce_11 rfl (lv_at hl 2 rfl) ?_
    refine pB hx hb hts hinX2 hown hC hS hW 2 (by decide) (by decide +kernel) (n) dX2_chooseOnce_12 (fun H locs hW hS => ?_)
    refine lv_iload_n hx hb dX2_chooseOnce_15 rfl (lv_at hl 0 rfl) ?_
    refine vx_ret (W.widen (k := 1) (n := 6) (Nat.le_of_ble_eq_true rfl) (Nat.le_of_ble_eq_true rfl) ?_)
    exact W.iret (v := σ.1 2) hx hb hr (fun t ht hW9 => ⟨⟨_, (), rfl, ⟨by simp [kCo, h_1], rfl⟩, by first | (rw [ht]; exact hW) | (dsimp only; rw [ht]; exact hW)⟩, hS.F ht⟩) hS.2.2 dX2_chooseOnce_16
set_option maxHeartbeats 4000000 in
set_option maxRecDepth 100000 in
theorem mtX2_setPattern (l : Launch) (hfl : l.stackTraces = false) (g : Ge) (σ : Sg) (μ : Mg) (o : Nat → Int64) (a b : Int32) : vx_Met l yX2_setPattern wsX2_setPattern ({ frames := 7, cells := 2, slots := 12, locals := 110 } : Room) (va_Pc [.ref (gA g 0), .int a, .int b] (PW g σ μ o)) (va_Qi (S := Unit) (fun r _ => kPa σ a b = 0 ∧ r = nI (ct (pF (upd (upd σ.1 3 a) 4 b, σ.2)) 16)) (fun _ t => Wd g (upd (upd σ.1 3 a) 4 b, σ.2) μ o t.heap) (Az g)) (vx_X (S := Unit) (fun _ => True) (fun E _ t => ((E = xIA ∧ kPa σ a b = 1) ∨ (E = xIS ∧ kPa σ a b = 2)) ∧ Wd g σ μ o t.heap) (Az g)) 2 12 (Az g) := by
  refine vx_ofW (cc := cX2_setPattern) (maxL := 3) (ret := (some .int)) (by decide) rfl ?_
  intro p e s m args below meth c s₁ B hml hxt hv
  obtain ⟨rfl, hC, hW⟩ := hv
  have hx := B.exec
  have hb := B.bytes
  have hr := B.returns
  have hts := atoms_spec (ws := wsX2_setPattern) B.pre
  have hown : s.vm.findClass RX2 = some m.cls := findClass_of_methodNamed B.named
  have hlocks := B.notSynchronized
  have hinX2 : ∀ w ∈ wsX20, w ∈ wsX2_setPattern := by decide +kernel
  have hxw54 : ∀ w ∈ (vx_atS RX2 54 "java/lang/IllegalArgumentException" ["java/lang/RuntimeException", "java/lang/Exception"]).filter goodWord, w ∈ wsX2_setPattern := by decide +kernel
  have hS : va_S (Az g) s.heap s.heap [] := va_S.rf
  have hl := lv_entry ([.ref (gA g 0), .int a, .int b]) (n := 3) (Nat.le_of_ble_eq_true rfl)
  rw [lg_entry_eq]
  generalize (lg_sl ([.ref (gA g 0), .int a, .int b]) ++ List.replicate (3 - (lg_sl ([.ref (gA g 0), .int a, .int b])).length) Slot.unset).toArray = ls at hl ⊢
  have hl : lv_has ls 3 [(0, .ref (gA g 0)), (1, .int a), (2, .int b)] := hl
  refine lv_iload_n hx hb dX2_setPattern_0 rfl (lv_at hl 1 rfl) ?_
  refine lv_iconst (v := 0) hx hb dX2_setPattern_1 (by decide) ?_
  refine lv_bipush (v := 99) hx hb dX2_setPattern_2 (by decide) ?_
  refine vp_callSi (va_Run.run (va_runS (As := [.int a, .int 0, .int 99]) (rest := []) ⟨hx, hb, hml, hown, hts⟩ (mtX2_isWithin l a 0 99) (va_cwS 3 hts gX2_setPattern_X2_isWithin rfl rfl rfl (by decide +kernel) ⟨Nat.le_of_ble_eq_true rfl, Nat.le_of_ble_eq_true rfl⟩) ⟨P0.blind, fun U hU hW9 => ⟨rfl, trivial⟩⟩ rfl rfl hl.1 rfl (lv_room (Nat.le_of_ble_eq_true rfl)) dX2_setPattern_4 ⟨Nat.le_of_ble_eq_true rfl, Nat.le_of_ble_eq_true rfl⟩)) (fun r_2 h_1 => ?_)
  obtain rfl : r_2 = bI (wi a 0 99) := h_1
  refine lv_if_eq (tgt := 20) hx hb dX2_setPattern_7 (by decide) (fun c_3 => ?_) (fun c_3 => ?_)
  · skip
    replace c_3 := bI_0.mp c_3
    obtain ⟨sa_4, hsa_4⟩ := hC.2.1.2.1 (RX2, 99, "from or to is out of range") (by decide +kernel)
    refine vx_throwS (own := RX2) (cls := xIA) (text := "from or to is out of range") (names := ["java/lang/RuntimeException", "java/lang/Exception"]) (ik := 50) (is := 99) (ic := 54) (sa := sa_4) (A := Az g) hx hb hfl hown (by decide +kernel) (by decide +kernel) (hts (.classLink RX2 50 "java/lang/IllegalArgumentException") (by decide +kernel)) (hts (.initialized "java/lang/IllegalArgumentException") (by decide +kernel)) hsa_4 (vx_hat (B := xwB xIA) (fun w h => hts w (hxw54 w h)) (by decide +kernel) (cast_w hC.2.1 (by decide +kernel))) (by decide +kernel) hC.2.2.1.1 hC.2.2.1.2 hS (hl.1.trans hml.symm) dX2_setPattern_20 dX2_setPattern_23 dX2_setPattern_24 dX2_setPattern_26 dX2_setPattern_29 (fun x h => (hxt x h).elim) (Nat.le_of_ble_eq_true rfl) (Nat.le_of_ble_eq_true rfl) (Nat.le_of_ble_eq_true rfl) (Nat.le_of_ble_eq_true rfl) hlocks (fun t9 hv9 hz9 hq9 => ⟨(), trivial, ⟨Or.inl ⟨rfl, by simp [kPa, c_3]⟩, Wd_up hW hz9 hq9⟩, va_F_up hS hz9 hq9⟩) hS.2.2 (Nat.le_of_ble_eq_true rfl) (Nat.le_of_ble_eq_true rfl)
  · skip
    replace c_3 := bI_n0.mp c_3
    refine lv_iload_n hx hb dX2_setPattern_10 rfl (lv_at hl 2 rfl) ?_
    refine lv_iload_n hx hb dX2_setPattern_11 rfl (lv_at hl 1 rfl) ?_
    refine lv_bipush (v := 99) hx hb dX2_setPattern_12 (by decide) ?_
    refine vp_callSi (va_Run.run (va_runS (As := [.int b, .int a, .int 99]) (rest := []) ⟨hx, hb, hml, hown, hts⟩ (mtX2_isWithin l b a 99) (va_cwS 3 hts gX2_setPattern_X2_isWithin rfl rfl rfl (by decide +kernel) ⟨Nat.le_of_ble_eq_true rfl, Nat.le_of_ble_eq_true rfl⟩) ⟨P0.blind, fun U hU hW9 => ⟨rfl, trivial⟩⟩ rfl rfl hl.1 rfl (lv_room (Nat.le_of_ble_eq_true rfl)) dX2_setPattern_14 ⟨Nat.le_of_ble_eq_true rfl, Nat.le_of_ble_eq_true rfl⟩)) (fun r_6 h_5 => ?_)
    obtain rfl : r_6 = bI (wi b a 99) := h_5
    refine lv_if_ne (tgt := 30) hx hb dX2_setPattern_17 (by decide) (fun c_7 => ?_) (fun c_7 => ?_)
    · skip
      replace c_7 := bI_n0.mp c_7
      refine lv_aload_n hx hb dX2_setPattern_30 rfl (lv_at hl 0 rfl) ?_
      refine vx_callv (vx_runV (As := []) (rest := []) ⟨hx, hb, hml, hown, hts⟩ (mtX2_refuseIfLocked l hfl g σ μ o ) (cwV 0 hts gX2_setPattern_X2_refuseIfLocked rfl rfl rfl (by decide +kernel) ⟨Nat.le_of_ble_eq_true rfl, Nat.le_of_ble_eq_true rfl⟩) ⟨PW.blind, rcB hC hW, fun U hU hW9 => ⟨rfl, PW.at hC hS hW U hU hW9⟩⟩ rfl rfl hl.1 rfl (lv_room (Nat.le_of_ble_eq_true rfl)) dX2_setPattern_31 ⟨Nat.le_of_ble_eq_true rfl, Nat.le_of_ble_eq_true rfl⟩) hS (fun _ _ h => h) (fun _ h => h) (fun _ _ h => h) (fun E9 ce q9 u_10 t H locs ht hvm hpx hbx hz9 hk9 hS hce hcv hcl => ?_) (fun u_10 t H locs ht hvm h_8 hW hz9 hk9 hS => ?_)
      · skip
        obtain ⟨hbq, hbw⟩ := hbx
        try dsimp only at hbq
        replace hbw : Wd g σ μ o H := by rw [← ht]; exact hbw
        refine vx_out (fun x h => (hxt x h).elim) hlocks hce hcv hcl (fun t9 ht9 hv9 => ⟨(), trivial, ⟨Or.inr ⟨hbq.1, by have hq9 := hbq.2; simp [kPa, hq9, c_3, c_7]⟩, by first | (rw [ht9]; exact hbw) | (dsimp only; rw [ht9]; exact hbw)⟩, hS.F ht9⟩) hS.2.2 (Nat.le_of_ble_eq_true rfl) (Nat.le_of_ble_eq_true rfl)
      · skip
        replace hW : Wd g σ μ o H := by rw [← ht]; exact hW
        try dsimp only at h_8
        refine lv_aload_n hx hb dX2_setPattern_34 rfl (lv_at hl 0 rfl) ?_
        refine lv_iload_n hx hb dX2_setPattern_35 rfl (lv_at hl 1 rfl) ?_
        refine pB hx hb hts hinX2 hown hC hS hW 3 (by decide) (by decide +kernel) (a) dX2_setPattern_36 (fun H locs hW hS => ?_)
        refine lv_aload_n hx hb dX2_setPattern_39 rfl (lv_at hl 0 rfl) ?_
        refine lv_iload_n hx hb dX2_setPattern_40 rfl (lv_at hl 2 rfl) ?_
        refine pB hx hb hts hinX2 hown hC hS hW 4 (by decide) (by decide +kernel) (b) dX2_setPattern_41 (fun H locs hW hS => ?_)
        refine lv_aload_n hx hb dX2_setPattern_44 rfl (lv_at hl 0 rfl) ?_
        refine vp_callSi (va_Run.run (va_runV (As := []) (rest := []) ⟨hx, hb, hml, hown, hts⟩ (mtX2_countFitting l g ((upd (upd σ.1 3 a) 4 b, σ.2.1, σ.2.2.1, σ.2.2.2)) μ o ) (cwV 0 hts gX2_setPattern_X2_countFitting rfl rfl rfl (by decide +kernel) ⟨Nat.le_of_ble_eq_true rfl, Nat.le_of_ble_eq_true rfl⟩) ⟨PW.blind, rcB hC hW, fun U hU hW9 => ⟨rfl, PW.at hC hS hW U hU hW9⟩⟩ rfl rfl hl.1 rfl (lv_room (Nat.le_of_ble_eq_true rfl)) dX2_setPattern_45 ⟨Nat.le_of_ble_eq_true rfl, Nat.le_of_ble_eq_true rfl⟩)) (fun r_13 h_12 => ?_)
        obtain rfl : r_13 = nI (ct (pF (upd (upd σ.1 3 a) 4 b, σ.2.1, σ.2.2.1, σ.2.2.2)) 16) := h_12
        refine vx_ret (W.widen (k := 2) (n := 12) (Nat.le_of_ble_eq_true rfl) (Nat.le_of_ble_eq_true rfl) ?_)
        exact W.iret (v := (nI (ct (pF (upd (upd σ.1 3 a) 4 b, σ.2.1, σ.2.2.1, σ.2.2.2)) 16))) hx hb hr (fun t ht hW9 => ⟨⟨_, (), rfl, ⟨by simp [kPa, c_3, c_7, h_8], rfl⟩, by first | (rw [ht]; exact hW) | (dsimp only; rw [ht]; exact hW)⟩, hS.F ht⟩) hS.2.2 dX2_setPattern_48
    · skip
      replace c_7 := bI_0.mp c_7
      obtain ⟨sa_14, hsa_14⟩ := hC.2.1.2.1 (RX2, 99, "from or to is out of range") (by decide +kernel)
      refine vx_throwS (own := RX2) (cls := xIA) (text := "from or to is out of range") (names := ["java/lang/RuntimeException", "java/lang/Exception"]) (ik := 50) (is := 99) (ic := 54) (sa := sa_14) (A := Az g) hx hb hfl hown (by decide +kernel) (by decide +kernel) (hts (.classLink RX2 50 "java/lang/IllegalArgumentException") (by decide +kernel)) (hts (.initialized "java/lang/IllegalArgumentException") (by decide +kernel)) hsa_14 (vx_hat (B := xwB xIA) (fun w h => hts w (hxw54 w h)) (by decide +kernel) (cast_w hC.2.1 (by decide +kernel))) (by decide +kernel) hC.2.2.1.1 hC.2.2.1.2 hS (hl.1.trans hml.symm) dX2_setPattern_20 dX2_setPattern_23 dX2_setPattern_24 dX2_setPattern_26 dX2_setPattern_29 (fun x h => (hxt x h).elim) (Nat.le_of_ble_eq_true rfl) (Nat.le_of_ble_eq_true rfl) (Nat.le_of_ble_eq_true rfl) (Nat.le_of_ble_eq_true rfl) hlocks (fun t9 hv9 hz9 hq9 => ⟨(), trivial, ⟨Or.inl ⟨rfl, by simp [kPa, c_3, c_7]⟩, Wd_up hW hz9 hq9⟩, va_F_up hS hz9 hq9⟩) hS.2.2 (Nat.le_of_ble_eq_true rfl) (Nat.le_of_ble_eq_true rfl)
end
section
set_option maxHeartbeats 4000000 in
set_option maxRecDepth 100000 in
theorem mtX1_useTry (l : Launch) (g : Ge) (σ : Sg) (μ : Mg) (o : Nat → Int64) (j : Nat) (hj : j < 16) : Met l yX1_useTry wsX1_useTry ({ frames := 0, cells := 0, slots := 0, locals := 0 } : Room) (va_Pc [.ref (gA g (13 + j))] (PW g σ μ o)) (va_Qv (S := Unit) (fun _ => True) (fun _ t => Wd g (σ.1, up2 σ.2.1 j (us1 (σ.2.1 j)), σ.2.2) μ o t.heap) (Az g)) 0 0 (Az g) := by
  refine Met.ofW (cc := cX1_useTry) (maxL := 1) (ret := none) (by decide) rfl ?_
  intro p e s m args below meth c s₁ B hml hv
  obtain ⟨rfl, hC, hW⟩ := hv
  have hx := B.exec
  have hb := B.bytes
  have hr := B.returns
  have hts := atoms_spec (ws := wsX1_useTry) B.pre
  have hown : s.vm.findClass RX1 = some m.cls := findClass_of_methodNamed B.named
  have hlocks := B.notSynchronized
  have hinX1 : ∀ w ∈ wsX10, w ∈ wsX1_useTry := by decide +kernel
  have hS : va_S (Az g) s.heap s.heap [] := va_S.rf
  have hl := lv_entry ([.ref (gA g (13 + j))]) (n := 1) (Nat.le_of_ble_eq_true rfl)
  rw [lg_entry_eq]
  generalize (lg_sl ([.ref (gA g (13 + j))]) ++ List.replicate (1 - (lg_sl ([.ref (gA g (13 + j))])).length) Slot.unset).toArray = ls at hl ⊢
  have hl : lv_has ls 1 [(0, .ref (gA g (13 + j)))] := hl
  refine lv_aload_n hx hb dX1_useTry_0 rfl (lv_at hl 0 rfl) ?_
  refine gE (v := .int (σ.2.1 j 7)) hx hb hts hinX1 hown hC hW hj 7 (by decide) (by decide +kernel) rfl rfl dX1_useTry_1 ?_
  refine lv_if_le (tgt := 17) hx hb dX1_useTry_4 (by decide) (fun c_1 => ?_) (fun c_1 => ?_)
  · skip
    exact W.vret hx hb hr (fun t ht hW9 => ⟨⟨(), rfl, trivial, by dsimp only; rw [ht, us1, if_pos c_1, up2_self]; exact hW⟩, hS.F ht⟩) hS.2.2 dX1_useTry_17
  · skip
    refine lv_aload_n hx hb dX1_useTry_7 rfl (lv_at hl 0 rfl) ?_
    refine lv_dup hx hb dX1_useTry_8 rfl ?_
    refine gE (v := .int (σ.2.1 j 7)) hx hb hts hinX1 hown hC hW hj 7 (by decide) (by decide +kernel) rfl rfl dX1_useTry_9 ?_
    refine lv_iconst (v := 1) hx hb dX1_useTry_12 (by decide) ?_
    refine lv_isub hx hb dX1_useTry_13 ?_
    refine pE (ty := .int) hx hb hts hinX1 hown hC hS hW hj 7 (by decide) (by decide +kernel) (by decide +kernel) ((σ.2.1 j 7 - 1)) rfl rfl dX1_useTry_14 (fun H locs hW hS => ?_)
    exact W.vret hx hb hr (fun t ht hW9 => ⟨⟨(), rfl, trivial, by dsimp only; rw [ht, us1, if_neg c_1]; exact hW⟩, hS.F ht⟩) hS.2.2 dX1_useTry_17
set_option maxHeartbeats 4000000 in
set_option maxRecDepth 100000 in
theorem mtX0_forgetDigits (l : Launch) (g : Ge) (σ : Sg) (μ : Mg) (o : Nat → Int64)  : Met l yX0_forgetDigits wsX0_forgetDigits ({ frames := 0, cells := 0, slots := 0, locals := 0 } : Room) (va_Pc [.ref (gA g 2)] (PW g σ μ o)) (va_Qv (S := Unit) (fun _ => True) (fun _ t => Wd g (σ.1, σ.2.1, upd σ.2.2.1 3 0, σ.2.2.2) μ o t.heap) (Az g)) 0 0 (Az g) := by
  refine Met.ofW (cc := cX0_forgetDigits) (maxL := 1) (ret := none) (by decide) rfl ?_
  intro p e s m args below meth c s₁ B hml hv
  obtain ⟨rfl, hC, hW⟩ := hv
  have hx := B.exec
  have hb := B.bytes
  have hr := B.returns
  have hts := atoms_spec (ws := wsX0_forgetDigits) B.pre
  have hown : s.vm.findClass RX0 = some m.cls := findClass_of_methodNamed B.named
  have hlocks := B.notSynchronized
  have hinX0 : ∀ w ∈ wsX00, w ∈ wsX0_forgetDigits := by decide +kernel
  have hS : va_S (Az g) s.heap s.heap [] := va_S.rf
  have hl := lv_entry ([.ref (gA g 2)]) (n := 1) (Nat.le_of_ble_eq_true rfl)
  rw [lg_entry_eq]
  generalize (lg_sl ([.ref (gA g 2)]) ++ List.replicate (1 - (lg_sl ([.ref (gA g 2)])).length) Slot.unset).toArray = ls at hl ⊢
  have hl : lv_has ls 1 [(0, .ref (gA g 2))] := hl
  refine lv_aload_n hx hb dX0_forgetDigits_0 rfl (lv_at hl 0 rfl) ?_
  refine lv_iconst (v := 0) hx hb dX0_forgetDigits_1 (by decide) ?_
  refine pL (ty := .int) hx hb hts hinX0 hown hC hS hW 3 (by decide) (by decide +kernel) (by decide +kernel) (0) rfl rfl dX0_forgetDigits_2 (fun H locs hW hS => ?_)
  exact W.vret hx hb hr (fun t ht hW9 => ⟨⟨(), rfl, trivial, by first | (rw [ht]; exact hW) | (dsimp only; rw [ht]; exact hW)⟩, hS.F ht⟩) hS.2.2 dX0_forgetDigits_5
set_option maxHeartbeats 4000000 in
set_option maxRecDepth 100000 in
theorem mtX0_close (l : Launch) (g : Ge) (σ : Sg) (μ : Mg) (o : Nat → Int64) (code many : Int32) : Met l yX0_close wsX0_close ({ frames := 1, cells := 0, slots := 0, locals := 20 } : Room) (va_Pc [.ref (gA g 2), .int code, .int many] (PW g σ μ o)) (va_Qv (S := Unit) (fun _ => True) (fun _ t => Wd g (σ.1, σ.2.1, upd (upd (upd (upd σ.2.2.1 0 1) 1 code) 2 many) 3 0, σ.2.2.2) μ o t.heap) (Az g)) 0 0 (Az g) := by
  refine Met.ofW (cc := cX0_close) (maxL := 3) (ret := none) (by decide) rfl ?_
  intro p e s m args below meth c s₁ B hml hv
  obtain ⟨rfl, hC, hW⟩ := hv
  have hx := B.exec
  have hb := B.bytes
  have hr := B.returns
  have hts := atoms_spec (ws := wsX0_close) B.pre
  have hown : s.vm.findClass RX0 = some m.cls := findClass_of_methodNamed B.named
  have hlocks := B.notSynchronized
  have hinX0 : ∀ w ∈ wsX00, w ∈ wsX0_close := by decide +kernel
  have hS : va_S (Az g) s.heap s.heap [] := va_S.rf
  have hl := lv_entry ([.ref (gA g 2), .int code, .int many]) (n := 3) (Nat.le_of_ble_eq_true rfl)
  rw [lg_entry_eq]
  generalize (lg_sl ([.ref (gA g 2), .int code, .int many]) ++ List.replicate (3 - (lg_sl ([.ref (gA g 2), .int code, .int many])).length) Slot.unset).toArray = ls at hl ⊢
  have hl : lv_has ls 3 [(0, .ref (gA g 2)), (1, .int code), (2, .int many)] := hl
  refine lv_aload_n hx hb dX0_close_0 rfl (lv_at hl 0 rfl) ?_
  refine lv_iconst (v := 1) hx hb dX0_close_1 (by decide) ?_
  refine pL (ty := .boolean) hx hb hts hinX0 hown hC hS hW 0 (by decide) (by decide +kernel) (by decide +kernel) (1) rfl rfl dX0_close_2 (fun H locs hW hS => ?_)
  refine lv_aload_n hx hb dX0_close_5 rfl (lv_at hl 0 rfl) ?_
  refine lv_iload_n hx hb dX0_close_6 rfl (lv_at hl 1 rfl) ?_
  refine pL (ty := .int) hx hb hts hinX0 hown hC hS hW 1 (by decide) (by decide +kernel) (by decide +kernel) (code) rfl rfl dX0_close_7 (fun H locs hW hS => ?_)
  refine lv_aload_n hx hb dX0_close_10 rfl (lv_at hl 0 rfl) ?_
  refine lv_iload_n hx hb dX0_close_11 rfl (lv_at hl 2 rfl) ?_
  refine pL (ty := .int) hx hb hts hinX0 hown hC hS hW 2 (by decide) (by decide +kernel) (by decide +kernel) (many) rfl rfl dX0_close_12 (fun H locs hW hS => ?_)
  refine lv_aload_n hx hb dX0_close_15 rfl (lv_at hl 0 rfl) ?_
  refine va_callv (va_runV (As := []) (rest := []) ⟨hx, hb, hml, hown, hts⟩ (mtX0_forgetDigits l g ((σ.1, σ.2.1, upd (upd (upd σ.2.2.1 0 1) 1 code) 2 many, σ.2.2.2)) μ o ) (cwV 0 hts gX0_close_X0_forgetDigits rfl rfl rfl (by decide +kernel) ⟨Nat.le_of_ble_eq_true rfl, Nat.le_of_ble_eq_true rfl⟩) ⟨PW.blind, rcL hC hW, fun U hU hW9 => ⟨rfl, PW.at hC hS hW U hU hW9⟩⟩ rfl rfl hl.1 rfl (lv_room (Nat.le_of_ble_eq_true rfl)) dX0_close_16 ⟨Nat.zero_le _, Nat.zero_le _⟩) hS (fun _ _ h => h) (fun _ h => h) (fun u_3 t H locs ht hvm h_1 hW hz9 hk9 hS => ?_)
  replace hW : Wd g ((σ.1, σ.2.1, upd (upd (upd (upd σ.2.2.1 0 1) 1 code) 2 many) 3 0, σ.2.2.2)) μ o H := by rw [← ht]; exact hW
  try dsimp only at h_1
  exact W.vret hx hb hr (fun t ht hW9 => ⟨⟨(), rfl, trivial, by first | (rw [ht]; exact hW) | (dsimp only; rw [ht]; exact hW)⟩, hS.F ht⟩) hS.2.2 dX0_close_19
set_option maxHeartbeats 4000000 in
set_option maxRecDepth 100000 in
theorem mtX1_fill (l : Launch) (g : Ge) (σ : Sg) (μ : Mg) (o : Nat → Int64) (j : Nat) (hj : j < 16) (nu kind name ver mark tr : Int32) : Met l yX1_fill wsX1_fill ({ frames := 0, cells := 0, slots := 0, locals := 0 } : Room) (va_Pc [.ref (gA g (13 + j)), .int nu, .int kind, .int name, .int ver, .int mark, .int tr] (PW g σ μ o)) (va_Qv (S := Unit) (fun _ => True) (fun _ t => Wd g (σ.1, up2 σ.2.1 j (flE (σ.2.1 j) nu kind name ver mark tr), σ.2.2) μ o t.heap) (Az g)) 0 0 (Az g) := by
  refine Met.ofW (cc := cX1_fill) (maxL := 7) (ret := none) (by decide) rfl ?_
  intro p e s m args below meth c s₁ B hml hv
  obtain ⟨rfl, hC, hW⟩ := hv
  have hx := B.exec
  have hb := B.bytes
  have hr := B.returns
  have hts := atoms_spec (ws := wsX1_fill) B.pre
  have hown : s.vm.findClass RX1 = some m.cls := findClass_of_methodNamed B.named
  have hlocks := B.notSynchronized
  have hinX1 : ∀ w ∈ wsX10, w ∈ wsX1_fill := by decide +kernel
  have hS : va_S (Az g) s.heap s.heap [] := va_S.rf
  have hl := lv_entry ([.ref (gA g (13 + j)), .int nu, .int kind, .int name, .int ver, .int mark, .int tr]) (n := 7) (Nat.le_of_ble_eq_true rfl)
  rw [lg_entry_eq]
  generalize (lg_sl ([.ref (gA g (13 + j)), .int nu, .int kind, .int name, .int ver, .int mark, .int tr]) ++ List.replicate (7 - (lg_sl ([.ref (gA g (13 + j)), .int nu, .int kind, .int name, .int ver, .int mark, .int tr])).length) Slot.unset).toArray = ls at hl ⊢
  have hl : lv_has ls 7 [(0, .ref (gA g (13 + j))), (1, .int nu), (2, .int kind), (3, .int name), (4, .int ver), (5, .int mark), (6, .int tr)] := hl
  refine lv_aload_n hx hb dX1_fill_0 rfl (lv_at hl 0 rfl) ?_
  refine lv_iconst (v := 1) hx hb dX1_fill_1 (by decide) ?_
  refine pE (ty := .boolean) hx hb hts hinX1 hown hC hS hW hj 0 (by decide) (by decide +kernel) (by decide +kernel) (1) rfl rfl dX1_fill_2 (fun H locs hW hS => ?_)
  refine lv_aload_n hx hb dX1_fill_5 rfl (lv_at hl 0 rfl) ?_
  refine lv_iload_n hx hb dX1_fill_6 rfl (lv_at hl 1 rfl) ?_
  refine pE (ty := .int) hx hb hts hinX1 hown hC hS hW hj 1 (by decide) (by decide +kernel) (by decide +kernel) (nu) rfl rfl dX1_fill_7 (fun H locs hW hS => ?_)
  refine lv_aload_n hx hb dX1_fill_10 rfl (lv_at hl 0 rfl) ?_
  refine lv_iload_n hx hb dX1_fill_11 rfl (lv_at hl 2 rfl) ?_
  refine pE (ty := .int) hx hb hts hinX1 hown hC hS hW hj 2 (by decide) (by decide +kernel) (by decide +kernel) (kind) rfl rfl dX1_fill_12 (fun H locs hW hS => ?_)
  refine lv_aload_n hx hb dX1_fill_15 rfl (lv_at hl 0 rfl) ?_
  refine lv_iload_n hx hb dX1_fill_16 rfl (lv_at hl 3 rfl) ?_
  refine pE (ty := .int) hx hb hts hinX1 hown hC hS hW hj 3 (by decide) (by decide +kernel) (by decide +kernel) (name) rfl rfl dX1_fill_17 (fun H locs hW hS => ?_)
  refine lv_aload_n hx hb dX1_fill_20 rfl (lv_at hl 0 rfl) ?_
  refine lv_iload hx hb dX1_fill_21 (lv_at hl 4 rfl) ?_
  refine pE (ty := .int) hx hb hts hinX1 hown hC hS hW hj 4 (by decide) (by decide +kernel) (by decide +kernel) (ver) rfl rfl dX1_fill_23 (fun H locs hW hS => ?_)
  refine lv_aload_n hx hb dX1_fill_26 rfl (lv_at hl 0 rfl) ?_
  refine lv_iload hx hb dX1_fill_27 (lv_at hl 5 rfl) ?_
  refine pE (ty := .int) hx hb hts hinX1 hown hC hS hW hj 5 (by decide) (by decide +kernel) (by decide +kernel) (mark) rfl rfl dX1_fill_29 (fun H locs hW hS => ?_)
  refine lv_aload_n hx hb dX1_fill_32 rfl (lv_at hl 0 rfl) ?_
  refine lv_iconst (v := 0) hx hb dX1_fill_33 (by decide) ?_
  refine pE (ty := .int) hx hb hts hinX1 hown hC hS hW hj 6 (by decide) (by decide +kernel) (by decide +kernel) (0) rfl rfl dX1_fill_34 (fun H locs hW hS => ?_)
  refine lv_aload_n hx hb dX1_fill_37 rfl (lv_at hl 0 rfl) ?_
  refine lv_iload hx hb dX1_fill_38 (lv_at hl 6 rfl) ?_
  refine pE (ty := .int) hx hb hts hinX1 hown hC hS hW hj 7 (by decide) (by decide +kernel) (by decide +kernel) (tr) rfl rfl dX1_fill_40 (fun H locs hW hS => ?_)
  exact W.vret hx hb hr (fun t ht hW9 => ⟨⟨(), rfl, trivial, by dsimp only; rw [ht]; simpa only [up2_s, up2_u, flE] using hW⟩, hS.F ht⟩) hS.2.2 dX1_fill_43
end
section
set_option maxHeartbeats 4000000 in
set_option maxRecDepth 100000 in
theorem mtX2_start (l : Launch) (hfl : l.stackTraces = false) (g : Ge) (σ : Sg) (μ : Mg) (o : Nat → Int64)  : vx_Met l yX2_start wsX2_start ({ frames := 6, cells := 1, slots := 6, locals := 138 } : Room) (va_Pc [.ref (gA g 0)] (PW g σ μ o)) (va_Qi (S := Nat) (fun r u => kSt σ = 0 ∧ nx σ = some u ∧ r = σ.2.1 u 1) (fun u t => Wd g (upd (upd (upd σ.1 6 (mz (σ.2.2.1 0) (σ.2.1 u))) 2 (-1)) 5 (σ.2.1 u 1), up2 σ.2.1 u (us1 (σ.2.1 u)), upd σ.2.2.1 3 0, σ.2.2.2) μ o t.heap) (Az g)) (vx_X (S := Unit) (fun _ => True) (fun E _ t => (E = xIS ∧ kSt σ = 1) ∧ Wd g σ μ o t.heap) (Az g)) 1 6 (Az g) := by
  refine vx_ofW (cc := cX2_start) (maxL := 2) (ret := (some .int)) (by decide) rfl ?_
  intro p e s m args below meth c s₁ B hml hxt hv
  obtain ⟨rfl, hC, hW⟩ := hv
  have hx := B.exec
  have hb := B.bytes
  have hr := B.returns
  have hts := atoms_spec (ws := wsX2_start) B.pre
  have hown : s.vm.findClass RX2 = some m.cls := findClass_of_methodNamed B.named
  have hlocks := B.notSynchronized
  have hinX1 : ∀ w ∈ wsX10, w ∈ wsX2_start := by decide +kernel
  have hinX2 : ∀ w ∈ wsX20, w ∈ wsX2_start := by decide +kernel
  have hxw67 : ∀ w ∈ (vx_atS RX2 67 "java/lang/IllegalStateException" ["java/lang/RuntimeException", "java/lang/Exception"]).filter goodWord, w ∈ wsX2_start := by decide +kernel
  have hS : va_S (Az g) s.heap s.heap [] := va_S.rf
  have hl := lv_entry ([.ref (gA g 0)]) (n := 2) (Nat.le_of_ble_eq_true rfl)
  rw [lg_entry_eq]
  generalize (lg_sl ([.ref (gA g 0)]) ++ List.replicate (2 - (lg_sl ([.ref (gA g 0)])).length) Slot.unset).toArray = ls at hl ⊢
  have hl : lv_has ls 2 [(0, .ref (gA g 0))] := hl
  refine lv_aload_n hx hb dX2_start_0 rfl (lv_at hl 0 rfl) ?_
  refine va_csq (va_Run.run (va_runV (As := []) (rest := []) ⟨hx, hb, hml, hown, hts⟩ (mtX2_nextEntry l g σ μ o ) (cwV 0 hts gX2_start_X2_nextEntry rfl rfl rfl (by decide +kernel) ⟨Nat.le_of_ble_eq_true rfl, Nat.le_of_ble_eq_true rfl⟩) ⟨PW.blind, rcB hC hW, fun U hU hW9 => ⟨rfl, PW.at hC hS hW U hU hW9⟩⟩ rfl rfl hl.1 rfl (lv_room (Nat.le_of_ble_eq_true rfl)) dX2_start_1 ⟨Nat.le_of_ble_eq_true rfl, Nat.le_of_ble_eq_true rfl⟩)) (fun r_2 h_1 => ?_)
  replace h_1 : r_2 = (nx σ).map (fun j => gA g (13 + j)) := h_1
  rcases optc (nx σ) with f_3 | ⟨j_4, f_3⟩
  · skip
    obtain rfl : r_2 = none := by rw [h_1, f_3]; rfl
    refine lv_astore_nN (lv' := [(1, .null), (0, .ref (gA g 0))]) hx hb dX2_start_4 rfl hl (by decide) rfl (fun ls hl => ?_)
    refine lv_aload_nN hx hb dX2_start_5 rfl (lv_at hl 0 rfl) ?_
    refine lv_ifnonnullN hx hb dX2_start_6 ?_
    obtain ⟨sa_5, hsa_5⟩ := hC.2.1.2.1 (RX2, 107, "there are no entries") (by decide +kernel)
    refine vx_throwS (own := RX2) (cls := xIS) (text := "there are no entries") (names := ["java/lang/RuntimeException", "java/lang/Exception"]) (ik := 63) (is := 107) (ic := 67) (sa := sa_5) (A := Az g) hx hb hfl hown (by decide +kernel) (by decide +kernel) (hts (.classLink RX2 63 "java/lang/IllegalStateException") (by decide +kernel)) (hts (.initialized "java/lang/IllegalStateException") (by decide +kernel)) hsa_5 (vx_hat (B := xwB xIS) (fun w h => hts w (hxw67 w h)) (by decide +kernel) (cast_w hC.2.1 (by decide +kernel))) (by decide +kernel) hC.2.2.1.1 hC.2.2.1.2 hS (hl.1.trans hml.symm) dX2_start_9 dX2_start_12 dX2_start_13 dX2_start_15 dX2_start_18 (fun x h => (hxt x h).elim) (Nat.le_of_ble_eq_true rfl) (Nat.le_of_ble_eq_true rfl) (Nat.le_of_ble_eq_true rfl) (Nat.le_of_ble_eq_true rfl) hlocks (fun t9 hv9 hz9 hq9 => ⟨(), trivial, ⟨⟨rfl, by simp [kSt, f_3]⟩, Wd_up hW hz9 hq9⟩, va_F_up hS hz9 hq9⟩) hS.2.2 (Nat.le_of_ble_eq_true rfl) (Nat.le_of_ble_eq_true rfl)
  · skip
    obtain rfl : r_2 = some (gA g (13 + j_4)) := by rw [h_1, f_3]; rfl
    have hj_4 : j_4 < 16 := nx_16 f_3
    refine lv_astore_n (lv' := [(1, .ref (gA g (13 + j_4))), (0, .ref (gA g 0))]) hx hb dX2_start_4 rfl hl (by decide) rfl (fun ls hl => ?_)
    refine lv_aload_n hx hb dX2_start_5 rfl (lv_at hl 0 rfl) ?_
    refine lv_ifnonnull (tgt := 19) hx hb dX2_start_6 (by decide) ?_
    refine lv_aload_n hx hb dX2_start_19 rfl (lv_at hl 1 rfl) ?_
    refine lv_aload_n hx hb dX2_start_20 rfl (lv_at hl 1 rfl) ?_
    refine lv_aload_n hx hb dX2_start_21 rfl (lv_at hl 0 rfl) ?_
    refine vp_callSi (va_Run.run (va_runV (As := [.ref (gA g (13 + j_4))]) (rest := [.ref (gA g 0)]) ⟨hx, hb, hml, hown, hts⟩ (mtX2_measure l g σ μ o j_4 hj_4) (cwV 1 hts gX2_start_X2_measure rfl rfl rfl (by decide +kernel) ⟨Nat.le_of_ble_eq_true rfl, Nat.le_of_ble_eq_true rfl⟩) ⟨PW.blind, rcB hC hW, fun U hU hW9 => ⟨rfl, PW.at hC hS hW U hU hW9⟩⟩ rfl rfl hl.1 rfl (lv_room (Nat.le_of_ble_eq_true rfl)) dX2_start_22 ⟨Nat.le_of_ble_eq_true rfl, Nat.le_of_ble_eq_true rfl⟩)) (fun r_7 h_6 => ?_)
    obtain rfl : r_7 = mz (σ.2.2.1 0) (σ.2.1 j_4) := h_6
    refine pB hx hb hts hinX2 hown hC hS hW 6 (by decide) (by decide +kernel) ((mz (σ.2.2.1 0) (σ.2.1 j_4))) dX2_start_25 (fun H locs hW hS => ?_)
    refine lv_aload_n hx hb dX2_start_28 rfl (lv_at hl 1 rfl) ?_
    refine lv_iconst (v := (-1)) hx hb dX2_start_29 (by decide) ?_
    refine pB hx hb hts hinX2 hown hC hS hW 2 (by decide) (by decide +kernel) ((-1)) dX2_start_30 (fun H locs hW hS => ?_)
    refine lv_aload_n hx hb dX2_start_33 rfl (lv_at hl 1 rfl) ?_
    refine lv_aload_n hx hb dX2_start_34 rfl (lv_at hl 0 rfl) ?_
    refine gEn (v := .int (σ.2.1 j_4 1)) hx hb hts hinX1 hown hC hW hj_4 1 (by decide) (by decide +kernel) rfl rfl dX2_start_35 ?_
    refine pB hx hb hts hinX2 hown hC hS hW 5 (by decide) (by decide +kernel) (σ.2.1 j_4 1) dX2_start_38 (fun H locs hW hS => ?_)
    refine lv_aload_n hx hb dX2_start_41 rfl (lv_at hl 0 rfl) ?_
    refine va_callv (va_runVN (As := []) (rest := []) ⟨hx, hb, hml, hown, hts⟩ (mtX1_useTry l g ((upd (upd (upd σ.1 6 ((mz (σ.2.2.1 0) (σ.2.1 j_4)))) 2 ((-1))) 5 (σ.2.1 j_4 1), σ.2.1, σ.2.2.1, σ.2.2.2)) μ o j_4 hj_4) ⟨(va_cnB (host := "BootChooser") 0 hts gX2_start_X1_useTry_n113 rfl rfl rfl (va_Nw.of (A := #[]) rfl (hC.2.1.nest (w := .methodLinkNest RX2 113 yX1_useTry "BootChooser") (by decide +kernel) rfl)) (hts (.initialized RX1) (by decide +kernel)) (by decide +kernel) ⟨Nat.le_of_ble_eq_true rfl, Nat.le_of_ble_eq_true rfl⟩), (hts (.instanceMethod yX1_useTry) (by decide +kernel)), (hts (.selects RX1 yX1_useTry yX1_useTry) (by decide +kernel))⟩ ⟨PW.blind, rcE hC hW hj_4, fun U hU hW9 => ⟨rfl, PW.at hC hS hW U hU hW9⟩⟩ rfl rfl hl.1 rfl (lv_room (Nat.le_of_ble_eq_true rfl)) dX2_start_42 ⟨Nat.le_of_ble_eq_true rfl, Nat.le_of_ble_eq_true rfl⟩) hS (fun _ _ h => h) (fun _ h => h) (fun u_10 t H locs ht hvm h_8 hW hz9 hk9 hS => ?_)
    replace hW : Wd g ((upd (upd (upd σ.1 6 ((mz (σ.2.2.1 0) (σ.2.1 j_4)))) 2 ((-1))) 5 (σ.2.1 j_4 1), up2 σ.2.1 j_4 (us1 (σ.2.1 j_4)), σ.2.2.1, σ.2.2.2)) μ o H := by rw [← ht]; exact hW
    try dsimp only at h_8
    refine lv_aload_n hx hb dX2_start_45 rfl (lv_at hl 1 rfl) ?_
    refine gB (v := .ref (gA g 2)) hx hb hts hinX2 hown hC hW 1 (by decide) (by decide +kernel) rfl rfl dX2_start_46 ?_
    refine va_callv (va_runVN (As := []) (rest := []) ⟨hx, hb, hml, hown, hts⟩ (mtX0_forgetDigits l g ((upd (upd (upd σ.1 6 ((mz (σ.2.2.1 0) (σ.2.1 j_4)))) 2 ((-1))) 5 (σ.2.1 j_4 1), up2 σ.2.1 j_4 (us1 (σ.2.1 j_4)), σ.2.2.1, σ.2.2.2)) μ o ) ⟨(va_cnB (host := "BootChooser") 0 hts gX2_start_X0_forgetDigits_n116 rfl rfl rfl (va_Nw.of (A := #[]) rfl (hC.2.1.nest (w := .methodLinkNest RX2 116 yX0_forgetDigits "BootChooser") (by decide +kernel) rfl)) (hts (.initialized RX0) (by decide +kernel)) (by decide +kernel) ⟨Nat.le_of_ble_eq_true rfl, Nat.le_of_ble_eq_true rfl⟩), (hts (.instanceMethod yX0_forgetDigits) (by decide +kernel)), (hts (.selects RX0 yX0_forgetDigits yX0_forgetDigits) (by decide +kernel))⟩ ⟨PW.blind, rcL hC hW, fun U hU hW9 => ⟨rfl, PW.at hC hS hW U hU hW9⟩⟩ rfl rfl hl.1 rfl (lv_room (Nat.le_of_ble_eq_true rfl)) dX2_start_49 ⟨Nat.le_of_ble_eq_true rfl, Nat.le_of_ble_eq_true rfl⟩) hS (fun _ _ h => h) (fun _ h => h) (fun u_14 t H locs ht hvm h_12 hW hz9 hk9 hS => ?_)
    replace hW : Wd g ((upd (upd (upd σ.1 6 ((mz (σ.2.2.1 0) (σ.2.1 j_4)))) 2 ((-1))) 5 (σ.2.1 j_4 1), up2 σ.2.1 j_4 (us1 (σ.2.1 j_4)), upd σ.2.2.1 3 0, σ.2.2.2)) μ o H := by rw [← ht]; exact hW
    try dsimp only at h_12
    refine lv_aload_n hx hb dX2_start_52 rfl (lv_at hl 0 rfl) ?_
    refine gEn (v := .int ((up2 σ.2.1 j_4 (us1 (σ.2.1 j_4))) j_4 1)) hx hb hts hinX1 hown hC hW hj_4 1 (by decide) (by decide +kernel) rfl rfl dX2_start_53 ?_
    refine vx_ret (W.widen (k := 1) (n := 6) (Nat.le_of_ble_eq_true rfl) (Nat.le_of_ble_eq_true rfl) ?_)
    exact W.iret (v := (up2 σ.2.1 j_4 (us1 (σ.2.1 j_4))) j_4 1) hx hb hr (fun t ht hW9 => ⟨⟨_, j_4, rfl, ⟨by simp [kSt, f_3], f_3, by rw [up2_s, us1_1]⟩, by first | (rw [ht]; exact hW) | (dsimp only; rw [ht]; exact hW)⟩, hS.F ht⟩) hS.2.2 dX2_start_56
set_option maxHeartbeats 4000000 in
set_option maxRecDepth 100000 in
theorem mtX2_good (l : Launch) (hfl : l.stackTraces = false) (g : Ge) (σ : Sg) (μ : Mg) (o : Nat → Int64)  : vx_Met l yX2_good wsX2_good ({ frames := 6, cells := 1, slots := 6, locals := 90 } : Room) (va_Pc [.ref (gA g 0)] (PW g σ μ o)) (va_Qi (S := Unit) (fun r _ => kGo σ = 0 ∧ r = goR σ) (fun _ t => Wd g (σ.1, goE σ, σ.2.2) μ o t.heap) (Az g)) (vx_X (S := Unit) (fun _ => True) (fun E _ t => (E = xIS ∧ kGo σ = 1) ∧ Wd g σ μ o t.heap) (Az g)) 1 6 (Az g) := by
  refine vx_ofW (cc := cX2_good) (maxL := 3) (ret := (some .int)) (by decide) rfl ?_
  intro p e s m args below meth c s₁ B hml hxt hv
  obtain ⟨rfl, hC, hW⟩ := hv
  have hx := B.exec
  have hb := B.bytes
  have hr := B.returns
  have hts := atoms_spec (ws := wsX2_good) B.pre
  have hown : s.vm.findClass RX2 = some m.cls := findClass_of_methodNamed B.named
  have hlocks := B.notSynchronized
  have hinX1 : ∀ w ∈ wsX10, w ∈ wsX2_good := by decide +kernel
  have hinX2 : ∀ w ∈ wsX20, w ∈ wsX2_good := by decide +kernel
  have hxw67 : ∀ w ∈ (vx_atS RX2 67 "java/lang/IllegalStateException" ["java/lang/RuntimeException", "java/lang/Exception"]).filter goodWord, w ∈ wsX2_good := by decide +kernel
  have hS : va_S (Az g) s.heap s.heap [] := va_S.rf
  have hl := lv_entry ([.ref (gA g 0)]) (n := 3) (Nat.le_of_ble_eq_true rfl)
  rw [lg_entry_eq]
  generalize (lg_sl ([.ref (gA g 0)]) ++ List.replicate (3 - (lg_sl ([.ref (gA g 0)])).length) Slot.unset).toArray = ls at hl ⊢
  have hl : lv_has ls 3 [(0, .ref (gA g 0))] := hl
  refine lv_aload_n hx hb dX2_good_0 rfl (lv_at hl 0 rfl) ?_
  refine gB (v := .int (σ.1 5)) hx hb hts hinX2 hown hC hW 7 (by decide) (by decide +kernel) rfl rfl dX2_good_1 ?_
  refine lv_iconst (v := (-1)) hx hb dX2_good_4 (by decide) ?_
  refine lv_icmp_ne (tgt := 18) hx hb dX2_good_5 (by decide) (fun c_1 => ?_) (fun c_1 => ?_)
  · skip
    refine lv_aload_n hx hb dX2_good_18 rfl (lv_at hl 0 rfl) ?_
    refine lv_aload_n hx hb dX2_good_19 rfl (lv_at hl 0 rfl) ?_
    refine gB (v := .int (σ.1 5)) hx hb hts hinX2 hown hC hW 7 (by decide) (by decide +kernel) rfl rfl dX2_good_20 ?_
    refine va_csq (va_Run.run (va_runV (As := [.int (σ.1 5)]) (rest := []) ⟨hx, hb, hml, hown, hts⟩ (mtX2_findEntry l g σ μ o (σ.1 5)) (cwV 1 hts gX2_good_X2_findEntry rfl rfl rfl (by decide +kernel) ⟨Nat.le_of_ble_eq_true rfl, Nat.le_of_ble_eq_true rfl⟩) ⟨PW.blind, rcB hC hW, fun U hU hW9 => ⟨rfl, PW.at hC hS hW U hU hW9⟩⟩ rfl rfl hl.1 rfl (lv_room (Nat.le_of_ble_eq_true rfl)) dX2_good_23 ⟨Nat.le_of_ble_eq_true rfl, Nat.le_of_ble_eq_true rfl⟩)) (fun r_3 h_2 => ?_)
    replace h_2 : r_3 = (fs (pN σ.2.1 (σ.1 5)) 16).map (fun j => gA g (13 + j)) := h_2
    rcases optc (fs (pN σ.2.1 (σ.1 5)) 16) with f_4 | ⟨j_5, f_4⟩
    · skip
      obtain rfl : r_3 = none := by rw [h_2, f_4]; rfl
      refine lv_astore_nN (lv' := [(1, .null), (0, .ref (gA g 0))]) hx hb dX2_good_26 rfl hl (by decide) rfl (fun ls hl => ?_)
      refine lv_aload_nN hx hb dX2_good_27 rfl (lv_at hl 0 rfl) ?_
      refine lv_ifnonnullN hx hb dX2_good_28 ?_
      refine lv_iconst (v := (-1)) hx hb dX2_good_31 (by decide) ?_
      refine vx_ret (W.widen (k := 1) (n := 6) (Nat.le_of_ble_eq_true rfl) (Nat.le_of_ble_eq_true rfl) ?_)
      exact W.iret (v := (-1)) hx hb hr (fun t ht hW9 => ⟨⟨_, (), rfl, ⟨by simp [kGo, c_1, f_4], by simp [goR, oel_s, oel_n, c_1, f_4]⟩, by dsimp only; rw [ht, show goE σ = σ.2.1 from by simp [goE, oel_s, oel_n, f_4]]; exact hW⟩, hS.F ht⟩) hS.2.2 dX2_good_32
    · skip
      obtain rfl : r_3 = some (gA g (13 + j_5)) := by rw [h_2, f_4]; rfl
      have hj_5 : j_5 < 16 := fs_16 f_4
      refine lv_astore_n (lv' := [(1, .ref (gA g (13 + j_5))), (0, .ref (gA g 0))]) hx hb dX2_good_26 rfl hl (by decide) rfl (fun ls hl => ?_)
      refine lv_aload_n hx hb dX2_good_27 rfl (lv_at hl 0 rfl) ?_
      refine lv_ifnonnull (tgt := 33) hx hb dX2_good_28 (by decide) ?_
      refine lv_aload_n hx hb dX2_good_33 rfl (lv_at hl 0 rfl) ?_
      refine gEn (v := .int (σ.2.1 j_5 7)) hx hb hts hinX1 hown hC hW hj_5 7 (by decide) (by decide +kernel) rfl rfl dX2_good_34 ?_
      refine lv_istore_n (lv' := [(2, .int (σ.2.1 j_5 7)), (1, .ref (gA g (13 + j_5))), (0, .ref (gA g 0))]) hx hb dX2_good_37 rfl hl (by decide) rfl (fun ls hl => ?_)
      refine lv_aload_n hx hb dX2_good_38 rfl (lv_at hl 1 rfl) ?_
      refine lv_iconst (v := (-1)) hx hb dX2_good_39 (by decide) ?_
      refine pEn (ty := .int) hx hb hts hinX1 hown hC hS hW hj_5 7 (by decide) (by decide +kernel) (by decide +kernel) ((-1)) rfl rfl dX2_good_40 (fun H locs hW hS => ?_)
      refine lv_iload_n hx hb dX2_good_43 rfl (lv_at hl 0 rfl) ?_
      refine vx_ret (W.widen (k := 1) (n := 6) (Nat.le_of_ble_eq_true rfl) (Nat.le_of_ble_eq_true rfl) ?_)
      exact W.iret (v := σ.2.1 j_5 7) hx hb hr (fun t ht hW9 => ⟨⟨_, (), rfl, ⟨by simp [kGo, c_1, f_4], by simp [goR, oel_s, oel_n, c_1, f_4]⟩, by dsimp only; rw [ht, show goE σ = up2 σ.2.1 j_5 (upd (σ.2.1 j_5) 7 ((-1))) from by simp [goE, oel_s, oel_n, f_4]]; exact hW⟩, hS.F ht⟩) hS.2.2 dX2_good_44
  · skip
    obtain ⟨sa_6, hsa_6⟩ := hC.2.1.2.1 (RX2, 119, "nothing runs") (by decide +kernel)
    refine vx_throwS (own := RX2) (cls := xIS) (text := "nothing runs") (names := ["java/lang/RuntimeException", "java/lang/Exception"]) (ik := 63) (is := 119) (ic := 67) (sa := sa_6) (A := Az g) hx hb hfl hown (by decide +kernel) (by decide +kernel) (hts (.classLink RX2 63 "java/lang/IllegalStateException") (by decide +kernel)) (hts (.initialized "java/lang/IllegalStateException") (by decide +kernel)) hsa_6 (vx_hat (B := xwB xIS) (fun w h => hts w (hxw67 w h)) (by decide +kernel) (cast_w hC.2.1 (by decide +kernel))) (by decide +kernel) hC.2.2.1.1 hC.2.2.1.2 hS (hl.1.trans hml.symm) dX2_good_8 dX2_good_11 dX2_good_12 dX2_good_14 dX2_good_17 (fun x h => (hxt x h).elim) (Nat.le_of_ble_eq_true rfl) (Nat.le_of_ble_eq_true rfl) (Nat.le_of_ble_eq_true rfl) (Nat.le_of_ble_eq_true rfl) hlocks (fun t9 hv9 hz9 hq9 => ⟨(), trivial, ⟨⟨rfl, by simp [kGo, c_1]⟩, Wd_up hW hz9 hq9⟩, va_F_up hS hz9 hq9⟩) hS.2.2 (Nat.le_of_ble_eq_true rfl) (Nat.le_of_ble_eq_true rfl)
set_option maxHeartbeats 4000000 in
set_option maxRecDepth 100000 in
theorem mtX2_running (l : Launch) (g : Ge) (σ : Sg) (μ : Mg) (o : Nat → Int64)  : Met l yX2_running wsX2_running ({ frames := 0, cells := 0, slots := 0, locals := 0 } : Room) (va_Pc [.ref (gA g 0)] (PW g σ μ o)) (vp_Si (fun r => r = σ.1 5)) 0 0 (fun _ => False) := by
  refine Met.ofW (cc := cX2_running) (maxL := 1) (ret := (some .int)) (by decide) rfl ?_
  intro p e s m args below meth c s₁ B hml hv
  obtain ⟨rfl, hC, hW⟩ := hv
  have hx := B.exec
  have hb := B.bytes
  have hr := B.returns
  have hts := atoms_spec (ws := wsX2_running) B.pre
  have hown : s.vm.findClass RX2 = some m.cls := findClass_of_methodNamed B.named
  have hlocks := B.notSynchronized
  have hinX2 : ∀ w ∈ wsX20, w ∈ wsX2_running := by decide +kernel
  have hS : va_S (Az g) s.heap s.heap [] := va_S.rf
  have hl := lv_entry ([.ref (gA g 0)]) (n := 1) (Nat.le_of_ble_eq_true rfl)
  rw [lg_entry_eq]
  generalize (lg_sl ([.ref (gA g 0)]) ++ List.replicate (1 - (lg_sl ([.ref (gA g 0)])).length) Slot.unset).toArray = ls at hl ⊢
  have hl : lv_has ls 1 [(0, .ref (gA g 0))] := hl
  refine lv_aload_n hx hb dX2_running_0 rfl (lv_at hl 0 rfl) ?_
  refine gB (v := .int (σ.1 5)) hx hb hts hinX2 hown hC hW 7 (by decide) (by decide +kernel) rfl rfl dX2_running_1 ?_
  exact W.iret (v := σ.1 5) hx hb hr (fun t ht hW9 => ⟨_, rfl, rfl, ht⟩) (fun q h => by cases h) dX2_running_4
set_option maxHeartbeats 4000000 in
set_option maxRecDepth 100000 in
theorem mtX2_register (l : Launch) (g : Ge) (σ : Sg) (μ : Mg) (o : Nat → Int64)  : Met l yX2_register wsX2_register ({ frames := 0, cells := 0, slots := 0, locals := 0 } : Room) (va_Pc [.ref (gA g 0)] (PW g σ μ o)) (vp_Si (fun r => r = σ.1 6)) 0 0 (fun _ => False) := by
  refine Met.ofW (cc := cX2_register) (maxL := 1) (ret := (some .int)) (by decide) rfl ?_
  intro p e s m args below meth c s₁ B hml hv
  obtain ⟨rfl, hC, hW⟩ := hv
  have hx := B.exec
  have hb := B.bytes
  have hr := B.returns
  have hts := atoms_spec (ws := wsX2_register) B.pre
  have hown : s.vm.findClass RX2 = some m.cls := findClass_of_methodNamed B.named
  have hlocks := B.notSynchronized
  have hinX2 : ∀ w ∈ wsX20, w ∈ wsX2_register := by decide +kernel
  have hS : va_S (Az g) s.heap s.heap [] := va_S.rf
  have hl := lv_entry ([.ref (gA g 0)]) (n := 1) (Nat.le_of_ble_eq_true rfl)
  rw [lg_entry_eq]
  generalize (lg_sl ([.ref (gA g 0)]) ++ List.replicate (1 - (lg_sl ([.ref (gA g 0)])).length) Slot.unset).toArray = ls at hl ⊢
  have hl : lv_has ls 1 [(0, .ref (gA g 0))] := hl
  refine lv_aload_n hx hb dX2_register_0 rfl (lv_at hl 0 rfl) ?_
  refine gB (v := .int (σ.1 6)) hx hb hts hinX2 hown hC hW 8 (by decide) (by decide +kernel) rfl rfl dX2_register_1 ?_
  exact W.iret (v := σ.1 6) hx hb hr (fun t ht hW9 => ⟨_, rfl, rfl, ht⟩) (fun q h => by cases h) dX2_register_4
set_option maxHeartbeats 4000000 in
set_option maxRecDepth 100000 in
theorem mtX2_entries (l : Launch) (g : Ge) (σ : Sg) (μ : Mg) (o : Nat → Int64)  : Met l yX2_entries wsX2_entries ({ frames := 1, cells := 0, slots := 0, locals := 25 } : Room) (va_Pc [.ref (gA g 0)] (PW g σ μ o)) (vp_Si (fun r => r = nI (ct (thr σ.2.1) 16))) 0 0 (fun _ => False) := by
  refine Met.ofW (cc := cX2_entries) (maxL := 1) (ret := (some .int)) (by decide) rfl ?_
  intro p e s m args below meth c s₁ B hml hv
  obtain ⟨rfl, hC, hW⟩ := hv
  have hx := B.exec
  have hb := B.bytes
  have hr := B.returns
  have hts := atoms_spec (ws := wsX2_entries) B.pre
  have hown : s.vm.findClass RX2 = some m.cls := findClass_of_methodNamed B.named
  have hlocks := B.notSynchronized
  have hS : va_S (Az g) s.heap s.heap [] := va_S.rf
  have hl := lv_entry ([.ref (gA g 0)]) (n := 1) (Nat.le_of_ble_eq_true rfl)
  rw [lg_entry_eq]
  generalize (lg_sl ([.ref (gA g 0)]) ++ List.replicate (1 - (lg_sl ([.ref (gA g 0)])).length) Slot.unset).toArray = ls at hl ⊢
  have hl : lv_has ls 1 [(0, .ref (gA g 0))] := hl
  refine lv_aload_n hx hb dX2_entries_0 rfl (lv_at hl 0 rfl) ?_
  refine vp_callSi (va_Run.run (va_runV (As := []) (rest := []) ⟨hx, hb, hml, hown, hts⟩ (mtX2_countEntries l g σ μ o ) (cwV 0 hts gX2_entries_X2_countEntries rfl rfl rfl (by decide +kernel) ⟨Nat.le_of_ble_eq_true rfl, Nat.le_of_ble_eq_true rfl⟩) ⟨PW.blind, rcB hC hW, fun U hU hW9 => ⟨rfl, PW.at hC hS hW U hU hW9⟩⟩ rfl rfl hl.1 rfl (lv_room (Nat.le_of_ble_eq_true rfl)) dX2_entries_1 ⟨Nat.zero_le _, Nat.zero_le _⟩)) (fun r_2 h_1 => ?_)
  obtain rfl : r_2 = nI (ct (thr σ.2.1) 16) := h_1
  exact W.iret (v := (nI (ct (thr σ.2.1) 16))) hx hb hr (fun t ht hW9 => ⟨_, rfl, rfl, ht⟩) (fun q h => by cases h) dX2_entries_4
set_option maxHeartbeats 4000000 in
set_option maxRecDepth 100000 in
theorem mtX2_next (l : Launch) (g : Ge) (σ : Sg) (μ : Mg) (o : Nat → Int64)  : Met l yX2_next wsX2_next ({ frames := 6, cells := 0, slots := 0, locals := 138 } : Room) (va_Pc [.ref (gA g 0)] (PW g σ μ o)) (vp_Si (fun r => r = nxR σ)) 0 0 (fun _ => False) := by
  refine Met.ofW (cc := cX2_next) (maxL := 2) (ret := (some .int)) (by decide) rfl ?_
  intro p e s m args below meth c s₁ B hml hv
  obtain ⟨rfl, hC, hW⟩ := hv
  have hx := B.exec
  have hb := B.bytes
  have hr := B.returns
  have hts := atoms_spec (ws := wsX2_next) B.pre
  have hown : s.vm.findClass RX2 = some m.cls := findClass_of_methodNamed B.named
  have hlocks := B.notSynchronized
  have hinX1 : ∀ w ∈ wsX10, w ∈ wsX2_next := by decide +kernel
  have hS : va_S (Az g) s.heap s.heap [] := va_S.rf
  have hl := lv_entry ([.ref (gA g 0)]) (n := 2) (Nat.le_of_ble_eq_true rfl)
  rw [lg_entry_eq]
  generalize (lg_sl ([.ref (gA g 0)]) ++ List.replicate (2 - (lg_sl ([.ref (gA g 0)])).length) Slot.unset).toArray = ls at hl ⊢
  have hl : lv_has ls 2 [(0, .ref (gA g 0))] := hl
  refine lv_aload_n hx hb dX2_next_0 rfl (lv_at hl 0 rfl) ?_
  refine va_csq (va_Run.run (va_runV (As := []) (rest := []) ⟨hx, hb, hml, hown, hts⟩ (mtX2_nextEntry l g σ μ o ) (cwV 0 hts gX2_next_X2_nextEntry rfl rfl rfl (by decide +kernel) ⟨Nat.le_of_ble_eq_true rfl, Nat.le_of_ble_eq_true rfl⟩) ⟨PW.blind, rcB hC hW, fun U hU hW9 => ⟨rfl, PW.at hC hS hW U hU hW9⟩⟩ rfl rfl hl.1 rfl (lv_room (Nat.le_of_ble_eq_true rfl)) dX2_next_1 ⟨Nat.zero_le _, Nat.zero_le _⟩)) (fun r_2 h_1 => ?_)
  replace h_1 : r_2 = (nx σ).map (fun j => gA g (13 + j)) := h_1
  rcases optc (nx σ) with f_3 | ⟨j_4, f_3⟩
  · skip
    obtain rfl : r_2 = none := by rw [h_1, f_3]; rfl
    refine lv_astore_nN (lv' := [(1, .null), (0, .ref (gA g 0))]) hx hb dX2_next_4 rfl hl (by decide) rfl (fun ls hl => ?_)
    refine lv_aload_nN hx hb dX2_next_5 rfl (lv_at hl 0 rfl) ?_
    refine lv_ifnonnullN hx hb dX2_next_6 ?_
    refine lv_iconst (v := (-1)) hx hb dX2_next_9 (by decide) ?_
    refine lv_goto (tgt := 17) hx hb dX2_next_10 (by decide) ?_
    exact W.iret (v := (-1)) hx hb hr (fun t ht hW9 => ⟨_, rfl, by simp [nxR, oel_s, oel_n, f_3], ht⟩) (fun q h => by cases h) dX2_next_17
  · skip
    obtain rfl : r_2 = some (gA g (13 + j_4)) := by rw [h_1, f_3]; rfl
    have hj_4 : j_4 < 16 := nx_16 f_3
    refine lv_astore_n (lv' := [(1, .ref (gA g (13 + j_4))), (0, .ref (gA g 0))]) hx hb dX2_next_4 rfl hl (by decide) rfl (fun ls hl => ?_)
    refine lv_aload_n hx hb dX2_next_5 rfl (lv_at hl 0 rfl) ?_
    refine lv_ifnonnull (tgt := 13) hx hb dX2_next_6 (by decide) ?_
    refine lv_aload_n hx hb dX2_next_13 rfl (lv_at hl 0 rfl) ?_
    refine gEn (v := .int (σ.2.1 j_4 1)) hx hb hts hinX1 hown hC hW hj_4 1 (by decide) (by decide +kernel) rfl rfl dX2_next_14 ?_
    exact W.iret (v := σ.2.1 j_4 1) hx hb hr (fun t ht hW9 => ⟨_, rfl, by simp [nxR, oel_s, oel_n, f_3], ht⟩) (fun q h => by cases h) dX2_next_17
set_option maxHeartbeats 4000000 in
set_option maxRecDepth 100000 in
theorem mtX2_isLocked (l : Launch) (g : Ge) (σ : Sg) (μ : Mg) (o : Nat → Int64) (hk0 : narrow .boolean (.int (σ.2.2.1 0)) = .int (σ.2.2.1 0)) : Met l yX2_isLocked wsX2_isLocked ({ frames := 0, cells := 0, slots := 0, locals := 0 } : Room) (va_Pc [.ref (gA g 0)] (PW g σ μ o)) (vp_Si (fun r => r = σ.2.2.1 0)) 0 0 (fun _ => False) := by
  refine Met.ofW (cc := cX2_isLocked) (maxL := 1) (ret := (some .boolean)) (by decide) rfl ?_
  intro p e s m args below meth c s₁ B hml hv
  obtain ⟨rfl, hC, hW⟩ := hv
  have hx := B.exec
  have hb := B.bytes
  have hr := B.returns
  have hts := atoms_spec (ws := wsX2_isLocked) B.pre
  have hown : s.vm.findClass RX2 = some m.cls := findClass_of_methodNamed B.named
  have hlocks := B.notSynchronized
  have hinX0 : ∀ w ∈ wsX00, w ∈ wsX2_isLocked := by decide +kernel
  have hinX2 : ∀ w ∈ wsX20, w ∈ wsX2_isLocked := by decide +kernel
  have hS : va_S (Az g) s.heap s.heap [] := va_S.rf
  have hl := lv_entry ([.ref (gA g 0)]) (n := 1) (Nat.le_of_ble_eq_true rfl)
  rw [lg_entry_eq]
  generalize (lg_sl ([.ref (gA g 0)]) ++ List.replicate (1 - (lg_sl ([.ref (gA g 0)])).length) Slot.unset).toArray = ls at hl ⊢
  have hl : lv_has ls 1 [(0, .ref (gA g 0))] := hl
  refine lv_aload_n hx hb dX2_isLocked_0 rfl (lv_at hl 0 rfl) ?_
  refine gB (v := .ref (gA g 2)) hx hb hts hinX2 hown hC hW 1 (by decide) (by decide +kernel) rfl rfl dX2_isLocked_1 ?_
  refine gLn (v := .int (σ.2.2.1 0)) hx hb hts hinX0 hown hC hW 1 (by decide) (by decide +kernel) rfl rfl dX2_isLocked_4 ?_
  exact W.zret (v := σ.2.2.1 0) (ty := .boolean) hx hb hr hk0 (fun t ht hW9 => ⟨_, rfl, rfl, ht⟩) (fun q h => by cases h) dX2_isLocked_7
end
section
set_option maxHeartbeats 4000000 in
set_option maxRecDepth 100000 in
theorem mtX2_tries (l : Launch) (hfl : l.stackTraces = false) (g : Ge) (σ : Sg) (μ : Mg) (o : Nat → Int64) (n : Int32) : vx_Met l yX2_tries wsX2_tries ({ frames := 7, cells := 1, slots := 6, locals := 112 } : Room) (va_Pc [.ref (gA g 0), .int n] (PW g σ μ o)) (va_Qi (S := Nat) (fun r u => kRem σ n = 0 ∧ fs (pN σ.2.1 n) 16 = some u ∧ r = σ.2.1 u 7) (fun _ t => Wd g σ μ o t.heap) (Az g)) (vx_X (S := Unit) (fun _ => True) (fun E _ t => (E = xIO ∧ kRem σ n = 1) ∧ Wd g σ μ o t.heap) (Az g)) 1 6 (Az g) := by
  refine vx_ofW (cc := cX2_tries) (maxL := 2) (ret := (some .int)) (by decide) rfl ?_
  intro p e s m args below meth c s₁ B hml hxt hv
  obtain ⟨rfl, hC, hW⟩ := hv
  have hx := B.exec
  have hb := B.bytes
  have hr := B.returns
  have hts := atoms_spec (ws := wsX2_tries) B.pre
  have hown : s.vm.findClass RX2 = some m.cls := findClass_of_methodNamed B.named
  have hlocks := B.notSynchronized
  have hinX1 : ∀ w ∈ wsX10, w ∈ wsX2_tries := by decide +kernel
  have hS : va_S (Az g) s.heap s.heap [] := va_S.rf
  have hl := lv_entry ([.ref (gA g 0), .int n]) (n := 2) (Nat.le_of_ble_eq_true rfl)
  rw [lg_entry_eq]
  generalize (lg_sl ([.ref (gA g 0), .int n]) ++ List.replicate (2 - (lg_sl ([.ref (gA g 0), .int n])).length) Slot.unset).toArray = ls at hl ⊢
  have hl : lv_has ls 2 [(0, .ref (gA g 0)), (1, .int n)] := hl
  refine lv_aload_n hx hb dX2_tries_0 rfl (lv_at hl 0 rfl) ?_
  refine lv_iload_n hx hb dX2_tries_1 rfl (lv_at hl 1 rfl) ?_
  refine vx_callq (vx_runV (As := [.int n]) (rest := []) ⟨hx, hb, hml, hown, hts⟩ (mtX2_presentEntry l hfl g σ μ o n) (cwV 1 hts gX2_tries_X2_presentEntry rfl rfl rfl (by decide +kernel) ⟨Nat.le_of_ble_eq_true rfl, Nat.le_of_ble_eq_true rfl⟩) ⟨PW.blind, rcB hC hW, fun U hU hW9 => ⟨rfl, PW.at hC hS hW U hU hW9⟩⟩ rfl rfl hl.1 rfl (lv_room (Nat.le_of_ble_eq_true rfl)) dX2_tries_2 ⟨Nat.le_of_ble_eq_true rfl, Nat.le_of_ble_eq_true rfl⟩) hS (fun _ _ h => h) (fun _ h => h) (fun _ _ h => h) (fun E9 ce q9 u_3 t H locs ht hvm hpx hbx hz9 hk9 hS hce hcv hcl => ?_) (fun r_2 u_3 t H locs ht hvm h_1 hW hz9 hk9 hS => ?_)
  · skip
    obtain ⟨hbq, hbw⟩ := hbx
    try dsimp only at hbq
    replace hbw : Wd g σ μ o H := by rw [← ht]; exact hbw
    refine vx_out (fun x h => (hxt x h).elim) hlocks hce hcv hcl (fun t9 ht9 hv9 => ⟨(), trivial, ⟨⟨hbq.1, by have hq9 := hbq.2; simp [kRem, no1, hq9]⟩, by first | (rw [ht9]; exact hbw) | (dsimp only; rw [ht9]; exact hbw)⟩, hS.F ht9⟩) hS.2.2 (Nat.le_of_ble_eq_true rfl) (Nat.le_of_ble_eq_true rfl)
  · skip
    replace hW : Wd g σ μ o H := by rw [← ht]; exact hW
    try dsimp only at h_1
    obtain ⟨f_5, rfl⟩ := h_1
    have hj_6 : u_3 < 16 := fs_16 f_5
    refine gEn (v := .int (σ.2.1 u_3 7)) hx hb hts hinX1 hown hC hW hj_6 7 (by decide) (by decide +kernel) rfl rfl dX2_tries_5 ?_
    refine vx_ret (W.widen (k := 1) (n := 6) (Nat.le_of_ble_eq_true rfl) (Nat.le_of_ble_eq_true rfl) ?_)
    exact W.iret (v := σ.2.1 u_3 7) hx hb hr (fun t ht hW9 => ⟨⟨_, u_3, rfl, ⟨by simp [kRem, no1, f_5], f_5, rfl⟩, by first | (rw [ht]; exact hW) | (dsimp only; rw [ht]; exact hW)⟩, hS.F ht⟩) hS.2.2 dX2_tries_8
set_option maxHeartbeats 4000000 in
set_option maxRecDepth 100000 in
theorem mtX2_placeOf (l : Launch) (hfl : l.stackTraces = false) (g : Ge) (σ : Sg) (μ : Mg) (o : Nat → Int64) (n : Int32) : vx_Met l yX2_placeOf wsX2_placeOf ({ frames := 7, cells := 1, slots := 6, locals := 112 } : Room) (va_Pc [.ref (gA g 0), .int n] (PW g σ μ o)) (va_Qi (S := Nat) (fun r u => kRem σ n = 0 ∧ fs (pN σ.2.1 n) 16 = some u ∧ r = nI (ct (pA σ.2.1 u) 16)) (fun _ t => Wd g σ μ o t.heap) (Az g)) (vx_X (S := Unit) (fun _ => True) (fun E _ t => (E = xIO ∧ kRem σ n = 1) ∧ Wd g σ μ o t.heap) (Az g)) 1 6 (Az g) := by
  refine vx_ofW (cc := cX2_placeOf) (maxL := 2) (ret := (some .int)) (by decide) rfl ?_
  intro p e s m args below meth c s₁ B hml hxt hv
  obtain ⟨rfl, hC, hW⟩ := hv
  have hx := B.exec
  have hb := B.bytes
  have hr := B.returns
  have hts := atoms_spec (ws := wsX2_placeOf) B.pre
  have hown : s.vm.findClass RX2 = some m.cls := findClass_of_methodNamed B.named
  have hlocks := B.notSynchronized
  have hS : va_S (Az g) s.heap s.heap [] := va_S.rf
  have hl := lv_entry ([.ref (gA g 0), .int n]) (n := 2) (Nat.le_of_ble_eq_true rfl)
  rw [lg_entry_eq]
  generalize (lg_sl ([.ref (gA g 0), .int n]) ++ List.replicate (2 - (lg_sl ([.ref (gA g 0), .int n])).length) Slot.unset).toArray = ls at hl ⊢
  have hl : lv_has ls 2 [(0, .ref (gA g 0)), (1, .int n)] := hl
  refine lv_aload_n hx hb dX2_placeOf_0 rfl (lv_at hl 0 rfl) ?_
  refine lv_aload_n hx hb dX2_placeOf_1 rfl (lv_at hl 0 rfl) ?_
  refine lv_iload_n hx hb dX2_placeOf_2 rfl (lv_at hl 1 rfl) ?_
  refine vx_callq (vx_runV (As := [.int n]) (rest := [.ref (gA g 0)]) ⟨hx, hb, hml, hown, hts⟩ (mtX2_presentEntry l hfl g σ μ o n) (cwV 1 hts gX2_placeOf_X2_presentEntry rfl rfl rfl (by decide +kernel) ⟨Nat.le_of_ble_eq_true rfl, Nat.le_of_ble_eq_true rfl⟩) ⟨PW.blind, rcB hC hW, fun U hU hW9 => ⟨rfl, PW.at hC hS hW U hU hW9⟩⟩ rfl rfl hl.1 rfl (lv_room (Nat.le_of_ble_eq_true rfl)) dX2_placeOf_3 ⟨Nat.le_of_ble_eq_true rfl, Nat.le_of_ble_eq_true rfl⟩) hS (fun _ _ h => h) (fun _ h => h) (fun _ _ h => h) (fun E9 ce q9 u_3 t H locs ht hvm hpx hbx hz9 hk9 hS hce hcv hcl => ?_) (fun r_2 u_3 t H locs ht hvm h_1 hW hz9 hk9 hS => ?_)
  · skip
    obtain ⟨hbq, hbw⟩ := hbx
    try dsimp only at hbq
    replace hbw : Wd g σ μ o H := by rw [← ht]; exact hbw
    refine vx_out (fun x h => (hxt x h).elim) hlocks hce hcv hcl (fun t9 ht9 hv9 => ⟨(), trivial, ⟨⟨hbq.1, by have hq9 := hbq.2; simp [kRem, no1, hq9]⟩, by first | (rw [ht9]; exact hbw) | (dsimp only; rw [ht9]; exact hbw)⟩, hS.F ht9⟩) hS.2.2 (Nat.le_of_ble_eq_true rfl) (Nat.le_of_ble_eq_true rfl)
  · skip
    replace hW : Wd g σ μ o H := by rw [← ht]; exact hW
    try dsimp only at h_1
    obtain ⟨f_5, rfl⟩ := h_1
    have hj_6 : u_3 < 16 := fs_16 f_5
    refine vp_callSi (va_Run.run (va_runV (As := [.ref (gA g (13 + u_3))]) (rest := []) ⟨hx, hb, hml, hown, hts⟩ (mtX2_countAhead l g σ μ o u_3 hj_6) (cwV 1 hts gX2_placeOf_X2_countAhead rfl rfl rfl (by decide +kernel) ⟨Nat.le_of_ble_eq_true rfl, Nat.le_of_ble_eq_true rfl⟩) ⟨PW.blind, rcB hC hW, fun U hU hW9 => ⟨rfl, PW.at hC hS hW U hU hW9⟩⟩ rfl rfl hl.1 rfl (lv_room (Nat.le_of_ble_eq_true rfl)) dX2_placeOf_6 ⟨Nat.le_of_ble_eq_true rfl, Nat.le_of_ble_eq_true rfl⟩)) (fun r_8 h_7 => ?_)
    obtain rfl : r_8 = nI (ct (pA σ.2.1 u_3) 16) := h_7
    refine vx_ret (W.widen (k := 1) (n := 6) (Nat.le_of_ble_eq_true rfl) (Nat.le_of_ble_eq_true rfl) ?_)
    exact W.iret (v := (nI (ct (pA σ.2.1 u_3) 16))) hx hb hr (fun t ht hW9 => ⟨⟨_, u_3, rfl, ⟨by simp [kRem, no1, f_5], f_5, rfl⟩, by first | (rw [ht]; exact hW) | (dsimp only; rw [ht]; exact hW)⟩, hS.F ht⟩) hS.2.2 dX2_placeOf_9
set_option maxHeartbeats 4000000 in
set_option maxRecDepth 100000 in
theorem mtX2_foretold (l : Launch) (hfl : l.stackTraces = false) (g : Ge) (σ : Sg) (μ : Mg) (o : Nat → Int64) (n : Int32) : vx_Met l yX2_foretold wsX2_foretold ({ frames := 7, cells := 1, slots := 6, locals := 112 } : Room) (va_Pc [.ref (gA g 0), .int n] (PW g σ μ o)) (va_Qi (S := Nat) (fun r u => kRem σ n = 0 ∧ fs (pN σ.2.1 n) 16 = some u ∧ r = mz (σ.2.2.1 0) (σ.2.1 u)) (fun _ t => Wd g σ μ o t.heap) (Az g)) (vx_X (S := Unit) (fun _ => True) (fun E _ t => (E = xIO ∧ kRem σ n = 1) ∧ Wd g σ μ o t.heap) (Az g)) 1 6 (Az g) := by
  refine vx_ofW (cc := cX2_foretold) (maxL := 2) (ret := (some .int)) (by decide) rfl ?_
  intro p e s m args below meth c s₁ B hml hxt hv
  obtain ⟨rfl, hC, hW⟩ := hv
  have hx := B.exec
  have hb := B.bytes
  have hr := B.returns
  have hts := atoms_spec (ws := wsX2_foretold) B.pre
  have hown : s.vm.findClass RX2 = some m.cls := findClass_of_methodNamed B.named
  have hlocks := B.notSynchronized
  have hS : va_S (Az g) s.heap s.heap [] := va_S.rf
  have hl := lv_entry ([.ref (gA g 0), .int n]) (n := 2) (Nat.le_of_ble_eq_true rfl)
  rw [lg_entry_eq]
  generalize (lg_sl ([.ref (gA g 0), .int n]) ++ List.replicate (2 - (lg_sl ([.ref (gA g 0), .int n])).length) Slot.unset).toArray = ls at hl ⊢
  have hl : lv_has ls 2 [(0, .ref (gA g 0)), (1, .int n)] := hl
  refine lv_aload_n hx hb dX2_foretold_0 rfl (lv_at hl 0 rfl) ?_
  refine lv_aload_n hx hb dX2_foretold_1 rfl (lv_at hl 0 rfl) ?_
  refine lv_iload_n hx hb dX2_foretold_2 rfl (lv_at hl 1 rfl) ?_
  refine vx_callq (vx_runV (As := [.int n]) (rest := [.ref (gA g 0)]) ⟨hx, hb, hml, hown, hts⟩ (mtX2_presentEntry l hfl g σ μ o n) (cwV 1 hts gX2_foretold_X2_presentEntry rfl rfl rfl (by decide +kernel) ⟨Nat.le_of_ble_eq_true rfl, Nat.le_of_ble_eq_true rfl⟩) ⟨PW.blind, rcB hC hW, fun U hU hW9 => ⟨rfl, PW.at hC hS hW U hU hW9⟩⟩ rfl rfl hl.1 rfl (lv_room (Nat.le_of_ble_eq_true rfl)) dX2_foretold_3 ⟨Nat.le_of_ble_eq_true rfl, Nat.le_of_ble_eq_true rfl⟩) hS (fun _ _ h => h) (fun _ h => h) (fun _ _ h => h) (fun E9 ce q9 u_3 t H locs ht hvm hpx hbx hz9 hk9 hS hce hcv hcl => ?_) (fun r_2 u_3 t H locs ht hvm h_1 hW hz9 hk9 hS => ?_)
  · skip
    obtain ⟨hbq, hbw⟩ := hbx
    try dsimp only at hbq
    replace hbw : Wd g σ μ o H := by rw [← ht]; exact hbw
    refine vx_out (fun x h => (hxt x h).elim) hlocks hce hcv hcl (fun t9 ht9 hv9 => ⟨(), trivial, ⟨⟨hbq.1, by have hq9 := hbq.2; simp [kRem, no1, hq9]⟩, by first | (rw [ht9]; exact hbw) | (dsimp only; rw [ht9]; exact hbw)⟩, hS.F ht9⟩) hS.2.2 (Nat.le_of_ble_eq_true rfl) (Nat.le_of_ble_eq_true rfl)
  · skip
    replace hW : Wd g σ μ o H := by rw [← ht]; exact hW
    try dsimp only at h_1
    obtain ⟨f_5, rfl⟩ := h_1
    have hj_6 : u_3 < 16 := fs_16 f_5
    refine vp_callSi (va_Run.run (va_runV (As := [.ref (gA g (13 + u_3))]) (rest := []) ⟨hx, hb, hml, hown, hts⟩ (mtX2_measure l g σ μ o u_3 hj_6) (cwV 1 hts gX2_foretold_X2_measure rfl rfl rfl (by decide +kernel) ⟨Nat.le_of_ble_eq_true rfl, Nat.le_of_ble_eq_true rfl⟩) ⟨PW.blind, rcB hC hW, fun U hU hW9 => ⟨rfl, PW.at hC hS hW U hU hW9⟩⟩ rfl rfl hl.1 rfl (lv_room (Nat.le_of_ble_eq_true rfl)) dX2_foretold_6 ⟨Nat.le_of_ble_eq_true rfl, Nat.le_of_ble_eq_true rfl⟩)) (fun r_8 h_7 => ?_)
    obtain rfl : r_8 = mz (σ.2.2.1 0) (σ.2.1 u_3) := h_7
    refine vx_ret (W.widen (k := 1) (n := 6) (Nat.le_of_ble_eq_true rfl) (Nat.le_of_ble_eq_true rfl) ?_)
    exact W.iret (v := (mz (σ.2.2.1 0) (σ.2.1 u_3))) hx hb hr (fun t ht hW9 => ⟨⟨_, u_3, rfl, ⟨by simp [kRem, no1, f_5], f_5, rfl⟩, by first | (rw [ht]; exact hW) | (dsimp only; rw [ht]; exact hW)⟩, hS.F ht⟩) hS.2.2 dX2_foretold_9
set_option maxHeartbeats 4000000 in
set_option maxRecDepth 100000 in
theorem mtX2_at (l : Launch) (hfl : l.stackTraces = false) (g : Ge) (σ : Sg) (μ : Mg) (o : Nat → Int64) (pl : Int32) : vx_Met l yX2_at wsX2_at ({ frames := 6, cells := 1, slots := 6, locals := 115 } : Room) (va_Pc [.ref (gA g 0), .int pl] (PW g σ μ o)) (va_Qi (S := Nat) (fun r u => kAt σ pl = 0 ∧ fs (pP σ.2.1 pl) 16 = some u ∧ r = σ.2.1 u 1) (fun _ t => Wd g σ μ o t.heap) (Az g)) (vx_X (S := Unit) (fun _ => True) (fun E _ t => (E = xIO ∧ kAt σ pl = 1) ∧ Wd g σ μ o t.heap) (Az g)) 1 6 (Az g) := by
  refine vx_ofW (cc := cX2_at) (maxL := 3) (ret := (some .int)) (by decide) rfl ?_
  intro p e s m args below meth c s₁ B hml hxt hv
  obtain ⟨rfl, hC, hW⟩ := hv
  have hx := B.exec
  have hb := B.bytes
  have hr := B.returns
  have hts := atoms_spec (ws := wsX2_at) B.pre
  have hown : s.vm.findClass RX2 = some m.cls := findClass_of_methodNamed B.named
  have hlocks := B.notSynchronized
  have hinX1 : ∀ w ∈ wsX10, w ∈ wsX2_at := by decide +kernel
  have hxw155 : ∀ w ∈ (vx_atS RX2 155 "java/lang/IndexOutOfBoundsException" ["java/lang/RuntimeException", "java/lang/Exception"]).filter goodWord, w ∈ wsX2_at := by decide +kernel
  have hS : va_S (Az g) s.heap s.heap [] := va_S.rf
  have hl := lv_entry ([.ref (gA g 0), .int pl]) (n := 3) (Nat.le_of_ble_eq_true rfl)
  rw [lg_entry_eq]
  generalize (lg_sl ([.ref (gA g 0), .int pl]) ++ List.replicate (3 - (lg_sl ([.ref (gA g 0), .int pl])).length) Slot.unset).toArray = ls at hl ⊢
  have hl : lv_has ls 3 [(0, .ref (gA g 0)), (1, .int pl)] := hl
  refine lv_aload_n hx hb dX2_at_0 rfl (lv_at hl 0 rfl) ?_
  refine lv_iload_n hx hb dX2_at_1 rfl (lv_at hl 1 rfl) ?_
  refine va_csq (va_Run.run (va_runV (As := [.int pl]) (rest := []) ⟨hx, hb, hml, hown, hts⟩ (mtX2_entryWithPlace l g σ μ o pl) (cwV 1 hts gX2_at_X2_entryWithPlace rfl rfl rfl (by decide +kernel) ⟨Nat.le_of_ble_eq_true rfl, Nat.le_of_ble_eq_true rfl⟩) ⟨PW.blind, rcB hC hW, fun U hU hW9 => ⟨rfl, PW.at hC hS hW U hU hW9⟩⟩ rfl rfl hl.1 rfl (lv_room (Nat.le_of_ble_eq_true rfl)) dX2_at_2 ⟨Nat.le_of_ble_eq_true rfl, Nat.le_of_ble_eq_true rfl⟩)) (fun r_2 h_1 => ?_)
  replace h_1 : r_2 = (fs (pP σ.2.1 pl) 16).map (fun j => gA g (13 + j)) := h_1
  rcases optc (fs (pP σ.2.1 pl) 16) with f_3 | ⟨j_4, f_3⟩
  · skip
    obtain rfl : r_2 = none := by rw [h_1, f_3]; rfl
    refine lv_astore_nN (lv' := [(2, .null), (0, .ref (gA g 0)), (1, .int pl)]) hx hb dX2_at_5 rfl hl (by decide) rfl (fun ls hl => ?_)
    refine lv_aload_nN hx hb dX2_at_6 rfl (lv_at hl 0 rfl) ?_
    refine lv_ifnonnullN hx hb dX2_at_7 ?_
    obtain ⟨sa_5, hsa_5⟩ := hC.2.1.2.1 (RX2, 153, "there are not so many entries") (by decide +kernel)
    refine vx_throwS (own := RX2) (cls := xIO) (text := "there are not so many entries") (names := ["java/lang/RuntimeException", "java/lang/Exception"]) (ik := 151) (is := 153) (ic := 155) (sa := sa_5) (A := Az g) hx hb hfl hown (by decide +kernel) (by decide +kernel) (hts (.classLink RX2 151 "java/lang/IndexOutOfBoundsException") (by decide +kernel)) (hts (.initialized "java/lang/IndexOutOfBoundsException") (by decide +kernel)) hsa_5 (vx_hat (B := xwB xIO) (fun w h => hts w (hxw155 w h)) (by decide +kernel) (cast_w hC.2.1 (by decide +kernel))) (by decide +kernel) hC.2.2.1.1 hC.2.2.1.2 hS (hl.1.trans hml.symm) dX2_at_10 dX2_at_13 dX2_at_14 dX2_at_16 dX2_at_19 (fun x h => (hxt x h).elim) (Nat.le_of_ble_eq_true rfl) (Nat.le_of_ble_eq_true rfl) (Nat.le_of_ble_eq_true rfl) (Nat.le_of_ble_eq_true rfl) hlocks (fun t9 hv9 hz9 hq9 => ⟨(), trivial, ⟨⟨rfl, by simp [kAt, f_3]⟩, Wd_up hW hz9 hq9⟩, va_F_up hS hz9 hq9⟩) hS.2.2 (Nat.le_of_ble_eq_true rfl) (Nat.le_of_ble_eq_true rfl)
  · skip
    obtain rfl : r_2 = some (gA g (13 + j_4)) := by rw [h_1, f_3]; rfl
    have hj_4 : j_4 < 16 := fs_16 f_3
    refine lv_astore_n (lv' := [(2, .ref (gA g (13 + j_4))), (0, .ref (gA g 0)), (1, .int pl)]) hx hb dX2_at_5 rfl hl (by decide) rfl (fun ls hl => ?_)
    refine lv_aload_n hx hb dX2_at_6 rfl (lv_at hl 0 rfl) ?_
    refine lv_ifnonnull (tgt := 20) hx hb dX2_at_7 (by decide) ?_
    refine lv_aload_n hx hb dX2_at_20 rfl (lv_at hl 0 rfl) ?_
    refine gEn (v := .int (σ.2.1 j_4 1)) hx hb hts hinX1 hown hC hW hj_4 1 (by decide) (by decide +kernel) rfl rfl dX2_at_21 ?_
    refine vx_ret (W.widen (k := 1) (n := 6) (Nat.le_of_ble_eq_true rfl) (Nat.le_of_ble_eq_true rfl) ?_)
    exact W.iret (v := σ.2.1 j_4 1) hx hb hr (fun t ht hW9 => ⟨⟨_, j_4, rfl, ⟨by simp [kAt, f_3], f_3, rfl⟩, by first | (rw [ht]; exact hW) | (dsimp only; rw [ht]; exact hW)⟩, hS.F ht⟩) hS.2.2 dX2_at_24
set_option maxHeartbeats 4000000 in
set_option maxRecDepth 100000 in
theorem mtX2_compare (l : Launch) (hfl : l.stackTraces = false) (g : Ge) (σ : Sg) (μ : Mg) (o : Nat → Int64) (a b : Int32) : vx_Met l yX2_compare wsX2_compare ({ frames := 7, cells := 2, slots := 12, locals := 112 } : Room) (va_Pc [.ref (gA g 0), .int a, .int b] (PW g σ μ o)) (va_Qi (S := Nat × Nat) (fun r u => kCm σ a b = 0 ∧ fs (pN σ.2.1 a) 16 = some u.1 ∧ fs (pN σ.2.1 b) 16 = some u.2 ∧ r = cv (σ.2.1 u.1) (σ.2.1 u.2)) (fun _ t => Wd g σ μ o t.heap) (Az g)) (vx_X (S := Unit) (fun _ => True) (fun E _ t => (E = xIO ∧ kCm σ a b = 1) ∧ Wd g σ μ o t.heap) (Az g)) 2 12 (Az g) := by
  refine vx_ofW (cc := cX2_compare) (maxL := 5) (ret := (some .int)) (by decide) rfl ?_
  intro p e s m args below meth c s₁ B hml hxt hv
  obtain ⟨rfl, hC, hW⟩ := hv
  have hx := B.exec
  have hb := B.bytes
  have hr := B.returns
  have hts := atoms_spec (ws := wsX2_compare) B.pre
  have hown : s.vm.findClass RX2 = some m.cls := findClass_of_methodNamed B.named
  have hlocks := B.notSynchronized
  have hS : va_S (Az g) s.heap s.heap [] := va_S.rf
  have hl := lv_entry ([.ref (gA g 0), .int a, .int b]) (n := 5) (Nat.le_of_ble_eq_true rfl)
  rw [lg_entry_eq]
  generalize (lg_sl ([.ref (gA g 0), .int a, .int b]) ++ List.replicate (5 - (lg_sl ([.ref (gA g 0), .int a, .int b])).length) Slot.unset).toArray = ls at hl ⊢
  have hl : lv_has ls 5 [(0, .ref (gA g 0)), (1, .int a), (2, .int b)] := hl
  refine lv_aload_n hx hb dX2_compare_0 rfl (lv_at hl 0 rfl) ?_
  refine lv_iload_n hx hb dX2_compare_1 rfl (lv_at hl 1 rfl) ?_
  refine vx_callq (vx_runV (As := [.int a]) (rest := []) ⟨hx, hb, hml, hown, hts⟩ (mtX2_presentEntry l hfl g σ μ o a) (cwV 1 hts gX2_compare_X2_presentEntry rfl rfl rfl (by decide +kernel) ⟨Nat.le_of_ble_eq_true rfl, Nat.le_of_ble_eq_true rfl⟩) ⟨PW.blind, rcB hC hW, fun U hU hW9 => ⟨rfl, PW.at hC hS hW U hU hW9⟩⟩ rfl rfl hl.1 rfl (lv_room (Nat.le_of_ble_eq_true rfl)) dX2_compare_2 ⟨Nat.le_of_ble_eq_true rfl, Nat.le_of_ble_eq_true rfl⟩) hS (fun _ _ h => h) (fun _ h => h) (fun _ _ h => h) (fun E9 ce q9 u_3 t H locs ht hvm hpx hbx hz9 hk9 hS hce hcv hcl => ?_) (fun r_2 u_3 t H locs ht hvm h_1 hW hz9 hk9 hS => ?_)
  · skip
    obtain ⟨hbq, hbw⟩ := hbx
    try dsimp only at hbq
    replace hbw : Wd g σ μ o H := by rw [← ht]; exact hbw
    refine vx_out (fun x h => (hxt x h).elim) hlocks hce hcv hcl (fun t9 ht9 hv9 => ⟨(), trivial, ⟨⟨hbq.1, by have hq9 := hbq.2; simp [kCm, no1, hq9]⟩, by first | (rw [ht9]; exact hbw) | (dsimp only; rw [ht9]; exact hbw)⟩, hS.F ht9⟩) hS.2.2 (Nat.le_of_ble_eq_true rfl) (Nat.le_of_ble_eq_true rfl)
  · skip
    replace hW : Wd g σ μ o H := by rw [← ht]; exact hW
    try dsimp only at h_1
    obtain ⟨f_5, rfl⟩ := h_1
    have hj_6 : u_3 < 16 := fs_16 f_5
    refine lv_astore_n (lv' := [(3, .ref (gA g (13 + u_3))), (0, .ref (gA g 0)), (1, .int a), (2, .int b)]) hx hb dX2_compare_5 rfl hl (by decide) rfl (fun ls hl => ?_)
    refine lv_aload_n hx hb dX2_compare_6 rfl (lv_at hl 1 rfl) ?_
    refine lv_iload_n hx hb dX2_compare_7 rfl (lv_at hl 3 rfl) ?_
    refine vx_callq (vx_runV (As := [.int b]) (rest := []) ⟨hx, hb, hml, hown, hts⟩ (mtX2_presentEntry l hfl g σ μ o b) (cwV 1 hts gX2_compare_X2_presentEntry rfl rfl rfl (by decide +kernel) ⟨Nat.le_of_ble_eq_true rfl, Nat.le_of_ble_eq_true rfl⟩) ⟨PW.blind, rcB hC hW, fun U hU hW9 => ⟨rfl, PW.at hC hS hW U hU hW9⟩⟩ rfl rfl hl.1 rfl (lv_room (Nat.le_of_ble_eq_true rfl)) dX2_compare_8 ⟨Nat.le_of_ble_eq_true rfl, Nat.le_of_ble_eq_true rfl⟩) hS (fun _ _ h => h) (fun _ h => h) (fun _ _ h => h) (fun E9 ce q9 u_9 t H locs ht hvm hpx hbx hz9 hk9 hS hce hcv hcl => ?_) (fun r_8 u_9 t H locs ht hvm h_7 hW hz9 hk9 hS => ?_)
    · skip
      obtain ⟨hbq, hbw⟩ := hbx
      try dsimp only at hbq
      replace hbw : Wd g σ μ o H := by rw [← ht]; exact hbw
      refine vx_out (fun x h => (hxt x h).elim) hlocks hce hcv hcl (fun t9 ht9 hv9 => ⟨(), trivial, ⟨⟨hbq.1, by have hq9 := hbq.2; simp [kCm, no1, hq9, f_5]⟩, by first | (rw [ht9]; exact hbw) | (dsimp only; rw [ht9]; exact hbw)⟩, hS.F ht9⟩) hS.2.2 (Nat.le_of_ble_eq_true rfl) (Nat.le_of_ble_eq_true rfl)
    · skip
      replace hW : Wd g σ μ o H := by rw [← ht]; exact hW
      try dsimp only at h_7
      obtain ⟨f_11, rfl⟩ := h_7
      have hj_12 : u_9 < 16 := fs_16 f_11
      refine lv_astore (lv' := [(4, .ref (gA g (13 + u_9))), (3, .ref (gA g (13 + u_3))), (0, .ref (gA g 0)), (1, .int a), (2, .int b)]) hx hb dX2_compare_11 hl (by decide) rfl (fun ls hl => ?_)
      refine lv_aload_n hx hb dX2_compare_13 rfl (lv_at hl 1 rfl) ?_
      refine lv_aload hx hb dX2_compare_14 (lv_at hl 0 rfl) ?_
      refine vp_callSi (va_Run.run (va_runVN (As := [.ref (gA g (13 + u_9))]) (rest := []) ⟨hx, hb, hml, hown, hts⟩ (mtX1_compareVersion l g σ μ o u_3 u_9 hj_6 hj_12) ⟨(va_cnB (host := "BootChooser") 1 hts gX2_compare_X1_compareVersion_n159 rfl rfl rfl (va_Nw.of (A := #[]) rfl (hC.2.1.nest (w := .methodLinkNest RX2 159 yX1_compareVersion "BootChooser") (by decide +kernel) rfl)) (hts (.initialized RX1) (by decide +kernel)) (by decide +kernel) ⟨Nat.le_of_ble_eq_true rfl, Nat.le_of_ble_eq_true rfl⟩), (hts (.instanceMethod yX1_compareVersion) (by decide +kernel)), (hts (.selects RX1 yX1_compareVersion yX1_compareVersion) (by decide +kernel))⟩ ⟨PW.blind, rcE hC hW hj_6, fun U hU hW9 => ⟨rfl, PW.at hC hS hW U hU hW9⟩⟩ rfl rfl hl.1 rfl (lv_room (Nat.le_of_ble_eq_true rfl)) dX2_compare_16 ⟨Nat.le_of_ble_eq_true rfl, Nat.le_of_ble_eq_true rfl⟩)) (fun r_14 h_13 => ?_)
      obtain rfl : r_14 = cv (σ.2.1 u_3) (σ.2.1 u_9) := h_13
      refine vx_ret (W.widen (k := 2) (n := 12) (Nat.le_of_ble_eq_true rfl) (Nat.le_of_ble_eq_true rfl) ?_)
      exact W.iret (v := (cv (σ.2.1 u_3) (σ.2.1 u_9))) hx hb hr (fun t ht hW9 => ⟨⟨_, (u_3, u_9), rfl, ⟨by simp [kCm, no1, f_5, f_11], f_5, f_11, rfl⟩, by first | (rw [ht]; exact hW) | (dsimp only; rw [ht]; exact hW)⟩, hS.F ht⟩) hS.2.2 dX2_compare_19
end
section
set_option maxHeartbeats 4000000 in
set_option maxRecDepth 100000 in
theorem mtX2_lock (l : Launch) (hfl : l.stackTraces = false) (g : Ge) (σ : Sg) (μ : Mg) (o : Nat → Int64) (code many : Int32) : vx_Met l yX2_lock wsX2_lock ({ frames := 7, cells := 2, slots := 12, locals := 110 } : Room) (va_Pc [.ref (gA g 0), .int code, .int many] (PW g σ μ o)) (va_Qv (S := Unit) (fun _ => kLo σ code many = 0) (fun _ t => Wd g (σ.1, σ.2.1, upd (upd (upd (upd σ.2.2.1 0 1) 1 code) 2 many) 3 0, σ.2.2.2) μ o t.heap) (Az g)) (vx_X (S := Unit) (fun _ => True) (fun E _ t => ((E = xIA ∧ kLo σ code many = 1) ∨ (E = xIS ∧ kLo σ code many = 2)) ∧ Wd g σ μ o t.heap) (Az g)) 2 12 (Az g) := by
  refine vx_ofW (cc := cX2_lock) (maxL := 3) (ret := none) (by decide) rfl ?_
  intro p e s m args below meth c s₁ B hml hxt hv
  obtain ⟨rfl, hC, hW⟩ := hv
  have hx := B.exec
  have hb := B.bytes
  have hr := B.returns
  have hts := atoms_spec (ws := wsX2_lock) B.pre
  have hown : s.vm.findClass RX2 = some m.cls := findClass_of_methodNamed B.named
  have hlocks := B.notSynchronized
  have hinX2 : ∀ w ∈ wsX20, w ∈ wsX2_lock := by decide +kernel
  have hxw54 : ∀ w ∈ (vx_atS RX2 54 "java/lang/IllegalArgumentException" ["java/lang/RuntimeException", "java/lang/Exception"]).filter goodWord, w ∈ wsX2_lock := by decide +kernel
  have hS : va_S (Az g) s.heap s.heap [] := va_S.rf
  have hl := lv_entry ([.ref (gA g 0), .int code, .int many]) (n := 3) (Nat.le_of_ble_eq_true rfl)
  rw [lg_entry_eq]
  generalize (lg_sl ([.ref (gA g 0), .int code, .int many]) ++ List.replicate (3 - (lg_sl ([.ref (gA g 0), .int code, .int many])).length) Slot.unset).toArray = ls at hl ⊢
  have hl : lv_has ls 3 [(0, .ref (gA g 0)), (1, .int code), (2, .int many)] := hl
  refine lv_iload_n hx hb dX2_lock_0 rfl (lv_at hl 2 rfl) ?_
  refine lv_iconst (v := 1) hx hb dX2_lock_1 (by decide) ?_
  refine lv_bipush (v := 6) hx hb dX2_lock_2 (by decide) ?_
  refine vp_callSi (va_Run.run (va_runS (As := [.int many, .int 1, .int 6]) (rest := []) ⟨hx, hb, hml, hown, hts⟩ (mtX2_isWithin l many 1 6) (va_cwS 3 hts gX2_lock_X2_isWithin rfl rfl rfl (by decide +kernel) ⟨Nat.le_of_ble_eq_true rfl, Nat.le_of_ble_eq_true rfl⟩) ⟨P0.blind, fun U hU hW9 => ⟨rfl, trivial⟩⟩ rfl rfl hl.1 rfl (lv_room (Nat.le_of_ble_eq_true rfl)) dX2_lock_4 ⟨Nat.le_of_ble_eq_true rfl, Nat.le_of_ble_eq_true rfl⟩)) (fun r_2 h_1 => ?_)
  obtain rfl : r_2 = bI (wi many 1 6) := h_1
  refine lv_if_ne (tgt := 20) hx hb dX2_lock_7 (by decide) (fun c_3 => ?_) (fun c_3 => ?_)
  · skip
    replace c_3 := bI_n0.mp c_3
    refine lv_iload_n hx hb dX2_lock_20 rfl (lv_at hl 1 rfl) ?_
    refine lv_iconst (v := 0) hx hb dX2_lock_21 (by decide) ?_
    refine lv_iload_n hx hb dX2_lock_22 rfl (lv_at hl 2 rfl) ?_
    refine vp_callSi (va_Run.run (va_runS (As := [.int many]) (rest := [.int 0, .int code]) ⟨hx, hb, hml, hown, hts⟩ (mtX2_highestCode l many (wi_n c_3)) (va_cwS 1 hts gX2_lock_X2_highestCode rfl rfl rfl (by decide +kernel) ⟨Nat.le_of_ble_eq_true rfl, Nat.le_of_ble_eq_true rfl⟩) ⟨P0.blind, fun U hU hW9 => ⟨rfl, trivial⟩⟩ rfl rfl hl.1 rfl (lv_room (Nat.le_of_ble_eq_true rfl)) dX2_lock_23 ⟨Nat.le_of_ble_eq_true rfl, Nat.le_of_ble_eq_true rfl⟩)) (fun r_5 h_4 => ?_)
    obtain rfl : r_5 = hc many := h_4
    refine vp_callSi (va_Run.run (va_runS (As := [.int code, .int 0, .int ((hc many))]) (rest := []) ⟨hx, hb, hml, hown, hts⟩ (mtX2_isWithin l code 0 (hc many)) (va_cwS 3 hts gX2_lock_X2_isWithin rfl rfl rfl (by decide +kernel) ⟨Nat.le_of_ble_eq_true rfl, Nat.le_of_ble_eq_true rfl⟩) ⟨P0.blind, fun U hU hW9 => ⟨rfl, trivial⟩⟩ rfl rfl hl.1 rfl (lv_room (Nat.le_of_ble_eq_true rfl)) dX2_lock_26 ⟨Nat.le_of_ble_eq_true rfl, Nat.le_of_ble_eq_true rfl⟩)) (fun r_7 h_6 => ?_)
    obtain rfl : r_7 = bI (wi code 0 (hc many)) := h_6
    refine lv_if_ne (tgt := 42) hx hb dX2_lock_29 (by decide) (fun c_8 => ?_) (fun c_8 => ?_)
    · skip
      replace c_8 := bI_n0.mp c_8
      refine lv_aload_n hx hb dX2_lock_42 rfl (lv_at hl 0 rfl) ?_
      refine vx_callv (vx_runV (As := []) (rest := []) ⟨hx, hb, hml, hown, hts⟩ (mtX2_refuseIfLocked l hfl g σ μ o ) (cwV 0 hts gX2_lock_X2_refuseIfLocked rfl rfl rfl (by decide +kernel) ⟨Nat.le_of_ble_eq_true rfl, Nat.le_of_ble_eq_true rfl⟩) ⟨PW.blind, rcB hC hW, fun U hU hW9 => ⟨rfl, PW.at hC hS hW U hU hW9⟩⟩ rfl rfl hl.1 rfl (lv_room (Nat.le_of_ble_eq_true rfl)) dX2_lock_43 ⟨Nat.le_of_ble_eq_true rfl, Nat.le_of_ble_eq_true rfl⟩) hS (fun _ _ h => h) (fun _ h => h) (fun _ _ h => h) (fun E9 ce q9 u_11 t H locs ht hvm hpx hbx hz9 hk9 hS hce hcv hcl => ?_) (fun u_11 t H locs ht hvm h_9 hW hz9 hk9 hS => ?_)
      · skip
        obtain ⟨hbq, hbw⟩ := hbx
        try dsimp only at hbq
        replace hbw : Wd g σ μ o H := by rw [← ht]; exact hbw
        refine vx_out (fun x h => (hxt x h).elim) hlocks hce hcv hcl (fun t9 ht9 hv9 => ⟨(), trivial, ⟨Or.inr ⟨hbq.1, by have hq9 := hbq.2; simp [kLo, hq9, c_3, c_8]⟩, by first | (rw [ht9]; exact hbw) | (dsimp only; rw [ht9]; exact hbw)⟩, hS.F ht9⟩) hS.2.2 (Nat.le_of_ble_eq_true rfl) (Nat.le_of_ble_eq_true rfl)
      · skip
        replace hW : Wd g σ μ o H := by rw [← ht]; exact hW
        try dsimp only at h_9
        refine lv_aload_n hx hb dX2_lock_46 rfl (lv_at hl 0 rfl) ?_
        refine gB (v := .ref (gA g 2)) hx hb hts hinX2 hown hC hW 1 (by decide) (by decide +kernel) rfl rfl dX2_lock_47 ?_
        refine lv_iload_n hx hb dX2_lock_50 rfl (lv_at hl 1 rfl) ?_
        refine lv_iload_n hx hb dX2_lock_51 rfl (lv_at hl 2 rfl) ?_
        refine va_callv (va_runVN (As := [.int code, .int many]) (rest := []) ⟨hx, hb, hml, hown, hts⟩ (mtX0_close l g σ μ o code many) ⟨(va_cnB (host := "BootChooser") 2 hts gX2_lock_X0_close_n135 rfl rfl rfl (va_Nw.of (A := #[]) rfl (hC.2.1.nest (w := .methodLinkNest RX2 135 yX0_close "BootChooser") (by decide +kernel) rfl)) (hts (.initialized RX0) (by decide +kernel)) (by decide +kernel) ⟨Nat.le_of_ble_eq_true rfl, Nat.le_of_ble_eq_true rfl⟩), (hts (.instanceMethod yX0_close) (by decide +kernel)), (hts (.selects RX0 yX0_close yX0_close) (by decide +kernel))⟩ ⟨PW.blind, rcL hC hW, fun U hU hW9 => ⟨rfl, PW.at hC hS hW U hU hW9⟩⟩ rfl rfl hl.1 rfl (lv_room (Nat.le_of_ble_eq_true rfl)) dX2_lock_52 ⟨Nat.le_of_ble_eq_true rfl, Nat.le_of_ble_eq_true rfl⟩) hS (fun _ _ h => h) (fun _ h => h) (fun u_15 t H locs ht hvm h_13 hW hz9 hk9 hS => ?_)
        replace hW : Wd g ((σ.1, σ.2.1, upd (upd (upd (upd σ.2.2.1 0 1) 1 code) 2 many) 3 0, σ.2.2.2)) μ o H := by rw [← ht]; exact hW
        try dsimp only at h_13
        refine vx_ret (W.widen (k := 2) (n := 12) (Nat.le_of_ble_eq_true rfl) (Nat.le_of_ble_eq_true rfl) ?_)
        exact W.vret hx hb hr (fun t ht hW9 => ⟨⟨(), rfl, by simp [kLo, c_3, c_8, h_9], by first | (rw [ht]; exact hW) | (dsimp only; rw [ht]; exact hW)⟩, hS.F ht⟩) hS.2.2 dX2_lock_55
    · skip
      replace c_8 := bI_0.mp c_8
      obtain ⟨sa_17, hsa_17⟩ := hC.2.1.2.1 (RX2, 133, "code is below 0 or has more digits") (by decide +kernel)
      refine vx_throwS (own := RX2) (cls := xIA) (text := "code is below 0 or has more digits") (names := ["java/lang/RuntimeException", "java/lang/Exception"]) (ik := 50) (is := 133) (ic := 54) (sa := sa_17) (A := Az g) hx hb hfl hown (by decide +kernel) (by decide +kernel) (hts (.classLink RX2 50 "java/lang/IllegalArgumentException") (by decide +kernel)) (hts (.initialized "java/lang/IllegalArgumentException") (by decide +kernel)) hsa_17 (vx_hat (B := xwB xIA) (fun w h => hts w (hxw54 w h)) (by decide +kernel) (cast_w hC.2.1 (by decide +kernel))) (by decide +kernel) hC.2.2.1.1 hC.2.2.1.2 hS (hl.1.trans hml.symm) dX2_lock_32 dX2_lock_35 dX2_lock_36 dX2_lock_38 dX2_lock_41 (fun x h => (hxt x h).elim) (Nat.le_of_ble_eq_true rfl) (Nat.le_of_ble_eq_true rfl) (Nat.le_of_ble_eq_true rfl) (Nat.le_of_ble_eq_true rfl) hlocks (fun t9 hv9 hz9 hq9 => ⟨(), trivial, ⟨Or.inl ⟨rfl, by simp [kLo, c_3, c_8]⟩, Wd_up hW hz9 hq9⟩, va_F_up hS hz9 hq9⟩) hS.2.2 (Nat.le_of_ble_eq_true rfl) (Nat.le_of_ble_eq_true rfl)
  · skip
    replace c_3 := bI_0.mp c_3
    obtain ⟨sa_18, hsa_18⟩ := hC.2.1.2.1 (RX2, 127, "many is out of range") (by decide +kernel)
    refine vx_throwS (own := RX2) (cls := xIA) (text := "many is out of range") (names := ["java/lang/RuntimeException", "java/lang/Exception"]) (ik := 50) (is := 127) (ic := 54) (sa := sa_18) (A := Az g) hx hb hfl hown (by decide +kernel) (by decide +kernel) (hts (.classLink RX2 50 "java/lang/IllegalArgumentException") (by decide +kernel)) (hts (.initialized "java/lang/IllegalArgumentException") (by decide +kernel)) hsa_18 (vx_hat (B := xwB xIA) (fun w h => hts w (hxw54 w h)) (by decide +kernel) (cast_w hC.2.1 (by decide +kernel))) (by decide +kernel) hC.2.2.1.1 hC.2.2.1.2 hS (hl.1.trans hml.symm) dX2_lock_10 dX2_lock_13 dX2_lock_14 dX2_lock_16 dX2_lock_19 (fun x h => (hxt x h).elim) (Nat.le_of_ble_eq_true rfl) (Nat.le_of_ble_eq_true rfl) (Nat.le_of_ble_eq_true rfl) (Nat.le_of_ble_eq_true rfl) hlocks (fun t9 hv9 hz9 hq9 => ⟨(), trivial, ⟨Or.inl ⟨rfl, by simp [kLo, c_3]⟩, Wd_up hW hz9 hq9⟩, va_F_up hS hz9 hq9⟩) hS.2.2 (Nat.le_of_ble_eq_true rfl) (Nat.le_of_ble_eq_true rfl)
end
section
set_option maxHeartbeats 4000000 in
set_option maxRecDepth 100000 in
theorem mtX2_add (l : Launch) (hfl : l.stackTraces = false) (g : Ge) (σ : Sg) (μ : Mg) (o : Nat → Int64) (kind name ver mark tr : Int32) : vx_Met l yX2_add wsX2_add ({ frames := 6, cells := 1, slots := 6, locals := 90 } : Room) (va_Pc [.ref (gA g 0), .int kind, .int name, .int ver, .int mark, .int tr] (PW g σ μ o)) (va_Qi (S := Nat) (fun r u => kAdd σ kind name ver mark tr = 0 ∧ fs (frP σ.2.1) 16 = some u ∧ r = σ.1 0) (fun u t => Wd g (upd σ.1 0 (σ.1 0 + 1), up2 σ.2.1 u (flE (σ.2.1 u) (σ.1 0) kind name ver mark tr), σ.2.2) μ o t.heap) (Az g)) (vx_X (S := Unit) (fun _ => True) (fun E _ t => ((E = xIA ∧ kAdd σ kind name ver mark tr = 1) ∨ (E = xIS ∧ kAdd σ kind name ver mark tr = 2)) ∧ Wd g σ μ o t.heap) (Az g)) 1 6 (Az g) := by
  refine vx_ofW (cc := cX2_add) (maxL := 7) (ret := (some .int)) (by decide) rfl ?_
  intro p e s m args below meth c s₁ B hml hxt hv
  obtain ⟨rfl, hC, hW⟩ := hv
  have hx := B.exec
  have hb := B.bytes
  have hr := B.returns
  have hts := atoms_spec (ws := wsX2_add) B.pre
  have hown : s.vm.findClass RX2 = some m.cls := findClass_of_methodNamed B.named
  have hlocks := B.notSynchronized
  have hinX1 : ∀ w ∈ wsX10, w ∈ wsX2_add := by decide +kernel
  have hinX2 : ∀ w ∈ wsX20, w ∈ wsX2_add := by decide +kernel
  have hxw67 : ∀ w ∈ (vx_atS RX2 67 "java/lang/IllegalStateException" ["java/lang/RuntimeException", "java/lang/Exception"]).filter goodWord, w ∈ wsX2_add := by decide +kernel
  have hxw54 : ∀ w ∈ (vx_atS RX2 54 "java/lang/IllegalArgumentException" ["java/lang/RuntimeException", "java/lang/Exception"]).filter goodWord, w ∈ wsX2_add := by decide +kernel
  have hS : va_S (Az g) s.heap s.heap [] := va_S.rf
  have hl := lv_entry ([.ref (gA g 0), .int kind, .int name, .int ver, .int mark, .int tr]) (n := 7) (Nat.le_of_ble_eq_true rfl)
  rw [lg_entry_eq]
  generalize (lg_sl ([.ref (gA g 0), .int kind, .int name, .int ver, .int mark, .int tr]) ++ List.replicate (7 - (lg_sl ([.ref (gA g 0), .int kind, .int name, .int ver, .int mark, .int tr])).length) Slot.unset).toArray = ls at hl ⊢
  have hl : lv_has ls 7 [(0, .ref (gA g 0)), (1, .int kind), (2, .int name), (3, .int ver), (4, .int mark), (5, .int tr)] := hl
  refine lv_iload_n hx hb dX2_add_0 rfl (lv_at hl 1 rfl) ?_
  refine lv_iconst (v := 0) hx hb dX2_add_1 (by decide) ?_
  refine lv_iconst (v := 2) hx hb dX2_add_2 (by decide) ?_
  refine vp_callSi (va_Run.run (va_runS (As := [.int kind, .int 0, .int 2]) (rest := []) ⟨hx, hb, hml, hown, hts⟩ (mtX2_isWithin l kind 0 2) (va_cwS 3 hts gX2_add_X2_isWithin rfl rfl rfl (by decide +kernel) ⟨Nat.le_of_ble_eq_true rfl, Nat.le_of_ble_eq_true rfl⟩) ⟨P0.blind, fun U hU hW9 => ⟨rfl, trivial⟩⟩ rfl rfl hl.1 rfl (lv_room (Nat.le_of_ble_eq_true rfl)) dX2_add_3 ⟨Nat.le_of_ble_eq_true rfl, Nat.le_of_ble_eq_true rfl⟩)) (fun r_2 h_1 => ?_)
  obtain rfl : r_2 = bI (wi kind 0 2) := h_1
  refine lv_if_eq (tgt := 39) hx hb dX2_add_6 (by decide) (fun c_3 => ?_) (fun c_3 => ?_)
  · skip
    replace c_3 := bI_0.mp c_3
    obtain ⟨sa_4, hsa_4⟩ := hC.2.1.2.1 (RX2, 52, "kind, name, version or mark is out of range") (by decide +kernel)
    refine vx_throwS (own := RX2) (cls := xIA) (text := "kind, name, version or mark is out of range") (names := ["java/lang/RuntimeException", "java/lang/Exception"]) (ik := 50) (is := 52) (ic := 54) (sa := sa_4) (A := Az g) hx hb hfl hown (by decide +kernel) (by decide +kernel) (hts (.classLink RX2 50 "java/lang/IllegalArgumentException") (by decide +kernel)) (hts (.initialized "java/lang/IllegalArgumentException") (by decide +kernel)) hsa_4 (vx_hat (B := xwB xIA) (fun w h => hts w (hxw54 w h)) (by decide +kernel) (cast_w hC.2.1 (by decide +kernel))) (by decide +kernel) hC.2.2.1.1 hC.2.2.1.2 hS (hl.1.trans hml.symm) dX2_add_39 dX2_add_42 dX2_add_43 dX2_add_45 dX2_add_48 (fun x h => (hxt x h).elim) (Nat.le_of_ble_eq_true rfl) (Nat.le_of_ble_eq_true rfl) (Nat.le_of_ble_eq_true rfl) (Nat.le_of_ble_eq_true rfl) hlocks (fun t9 hv9 hz9 hq9 => ⟨(), trivial, ⟨Or.inl ⟨rfl, by simp [kAdd, okA, c_3]⟩, Wd_up hW hz9 hq9⟩, va_F_up hS hz9 hq9⟩) hS.2.2 (Nat.le_of_ble_eq_true rfl) (Nat.le_of_ble_eq_true rfl)
  · skip
    replace c_3 := bI_n0.mp c_3
    refine lv_iload_n hx hb dX2_add_9 rfl (lv_at hl 2 rfl) ?_
    refine lv_iconst (v := 0) hx hb dX2_add_10 (by decide) ?_
    refine lv_bipush (v := 99) hx hb dX2_add_11 (by decide) ?_
    refine vp_callSi (va_Run.run (va_runS (As := [.int name, .int 0, .int 99]) (rest := []) ⟨hx, hb, hml, hown, hts⟩ (mtX2_isWithin l name 0 99) (va_cwS 3 hts gX2_add_X2_isWithin rfl rfl rfl (by decide +kernel) ⟨Nat.le_of_ble_eq_true rfl, Nat.le_of_ble_eq_true rfl⟩) ⟨P0.blind, fun U hU hW9 => ⟨rfl, trivial⟩⟩ rfl rfl hl.1 rfl (lv_room (Nat.le_of_ble_eq_true rfl)) dX2_add_13 ⟨Nat.le_of_ble_eq_true rfl, Nat.le_of_ble_eq_true rfl⟩)) (fun r_6 h_5 => ?_)
    obtain rfl : r_6 = bI (wi name 0 99) := h_5
    refine lv_if_eq (tgt := 39) hx hb dX2_add_16 (by decide) (fun c_7 => ?_) (fun c_7 => ?_)
    · skip
      replace c_7 := bI_0.mp c_7
      obtain ⟨sa_8, hsa_8⟩ := hC.2.1.2.1 (RX2, 52, "kind, name, version or mark is out of range") (by decide +kernel)
      refine vx_throwS (own := RX2) (cls := xIA) (text := "kind, name, version or mark is out of range") (names := ["java/lang/RuntimeException", "java/lang/Exception"]) (ik := 50) (is := 52) (ic := 54) (sa := sa_8) (A := Az g) hx hb hfl hown (by decide +kernel) (by decide +kernel) (hts (.classLink RX2 50 "java/lang/IllegalArgumentException") (by decide +kernel)) (hts (.initialized "java/lang/IllegalArgumentException") (by decide +kernel)) hsa_8 (vx_hat (B := xwB xIA) (fun w h => hts w (hxw54 w h)) (by decide +kernel) (cast_w hC.2.1 (by decide +kernel))) (by decide +kernel) hC.2.2.1.1 hC.2.2.1.2 hS (hl.1.trans hml.symm) dX2_add_39 dX2_add_42 dX2_add_43 dX2_add_45 dX2_add_48 (fun x h => (hxt x h).elim) (Nat.le_of_ble_eq_true rfl) (Nat.le_of_ble_eq_true rfl) (Nat.le_of_ble_eq_true rfl) (Nat.le_of_ble_eq_true rfl) hlocks (fun t9 hv9 hz9 hq9 => ⟨(), trivial, ⟨Or.inl ⟨rfl, by simp [kAdd, okA, c_3, c_7]⟩, Wd_up hW hz9 hq9⟩, va_F_up hS hz9 hq9⟩) hS.2.2 (Nat.le_of_ble_eq_true rfl) (Nat.le_of_ble_eq_true rfl)
    · skip
      replace c_7 := bI_n0.mp c_7
      refine lv_iload_n hx hb dX2_add_19 rfl (lv_at hl 3 rfl) ?_
      refine lv_iconst (v := 0) hx hb dX2_add_20 (by decide) ?_
      refine lv_ldc (v := 999999999) hx hb hown (hts (.constant RX2 49 (999999999)) (by decide +kernel)) dX2_add_21 ?_
      refine vp_callSi (va_Run.run (va_runS (As := [.int ver, .int 0, .int 999999999]) (rest := []) ⟨hx, hb, hml, hown, hts⟩ (mtX2_isWithin l ver 0 999999999) (va_cwS 3 hts gX2_add_X2_isWithin rfl rfl rfl (by decide +kernel) ⟨Nat.le_of_ble_eq_true rfl, Nat.le_of_ble_eq_true rfl⟩) ⟨P0.blind, fun U hU hW9 => ⟨rfl, trivial⟩⟩ rfl rfl hl.1 rfl (lv_room (Nat.le_of_ble_eq_true rfl)) dX2_add_23 ⟨Nat.le_of_ble_eq_true rfl, Nat.le_of_ble_eq_true rfl⟩)) (fun r_10 h_9 => ?_)
      obtain rfl : r_10 = bI (wi ver 0 999999999) := h_9
      refine lv_if_eq (tgt := 39) hx hb dX2_add_26 (by decide) (fun c_11 => ?_) (fun c_11 => ?_)
      · skip
        replace c_11 := bI_0.mp c_11
        obtain ⟨sa_12, hsa_12⟩ := hC.2.1.2.1 (RX2, 52, "kind, name, version or mark is out of range") (by decide +kernel)
        refine vx_throwS (own := RX2) (cls := xIA) (text := "kind, name, version or mark is out of range") (names := ["java/lang/RuntimeException", "java/lang/Exception"]) (ik := 50) (is := 52) (ic := 54) (sa := sa_12) (A := Az g) hx hb hfl hown (by decide +kernel) (by decide +kernel) (hts (.classLink RX2 50 "java/lang/IllegalArgumentException") (by decide +kernel)) (hts (.initialized "java/lang/IllegalArgumentException") (by decide +kernel)) hsa_12 (vx_hat (B := xwB xIA) (fun w h => hts w (hxw54 w h)) (by decide +kernel) (cast_w hC.2.1 (by decide +kernel))) (by decide +kernel) hC.2.2.1.1 hC.2.2.1.2 hS (hl.1.trans hml.symm) dX2_add_39 dX2_add_42 dX2_add_43 dX2_add_45 dX2_add_48 (fun x h => (hxt x h).elim) (Nat.le_of_ble_eq_true rfl) (Nat.le_of_ble_eq_true rfl) (Nat.le_of_ble_eq_true rfl) (Nat.le_of_ble_eq_true rfl) hlocks (fun t9 hv9 hz9 hq9 => ⟨(), trivial, ⟨Or.inl ⟨rfl, by simp [kAdd, okA, c_3, c_7, c_11]⟩, Wd_up hW hz9 hq9⟩, va_F_up hS hz9 hq9⟩) hS.2.2 (Nat.le_of_ble_eq_true rfl) (Nat.le_of_ble_eq_true rfl)
      · skip
        replace c_11 := bI_n0.mp c_11
        refine lv_iload hx hb dX2_add_29 (lv_at hl 4 rfl) ?_
        refine lv_iconst (v := 0) hx hb dX2_add_31 (by decide) ?_
        refine lv_iconst (v := 2) hx hb dX2_add_32 (by decide) ?_
        refine vp_callSi (va_Run.run (va_runS (As := [.int mark, .int 0, .int 2]) (rest := []) ⟨hx, hb, hml, hown, hts⟩ (mtX2_isWithin l mark 0 2) (va_cwS 3 hts gX2_add_X2_isWithin rfl rfl rfl (by decide +kernel) ⟨Nat.le_of_ble_eq_true rfl, Nat.le_of_ble_eq_true rfl⟩) ⟨P0.blind, fun U hU hW9 => ⟨rfl, trivial⟩⟩ rfl rfl hl.1 rfl (lv_room (Nat.le_of_ble_eq_true rfl)) dX2_add_33 ⟨Nat.le_of_ble_eq_true rfl, Nat.le_of_ble_eq_true rfl⟩)) (fun r_14 h_13 => ?_)
        obtain rfl : r_14 = bI (wi mark 0 2) := h_13
        refine lv_if_ne (tgt := 49) hx hb dX2_add_36 (by decide) (fun c_15 => ?_) (fun c_15 => ?_)
        · skip
          replace c_15 := bI_n0.mp c_15
          refine lv_iload hx hb dX2_add_49 (lv_at hl 5 rfl) ?_
          refine lv_iconst (v := (-1)) hx hb dX2_add_51 (by decide) ?_
          refine lv_icmp_eq (tgt := 76) hx hb dX2_add_52 (by decide) (fun c_16 => ?_) (fun c_16 => ?_)
          · skip
            refine lv_aload_n hx hb dX2_add_76 rfl (lv_at hl 0 rfl) ?_
            refine va_csq (va_Run.run (va_runV (As := []) (rest := []) ⟨hx, hb, hml, hown, hts⟩ (mtX2_freeRow l g σ μ o ) (cwV 0 hts gX2_add_X2_freeRow rfl rfl rfl (by decide +kernel) ⟨Nat.le_of_ble_eq_true rfl, Nat.le_of_ble_eq_true rfl⟩) ⟨PW.blind, rcB hC hW, fun U hU hW9 => ⟨rfl, PW.at hC hS hW U hU hW9⟩⟩ rfl rfl hl.1 rfl (lv_room (Nat.le_of_ble_eq_true rfl)) dX2_add_77 ⟨Nat.le_of_ble_eq_true rfl, Nat.le_of_ble_eq_true rfl⟩)) (fun r_18 h_17 => ?_)
            replace h_17 : r_18 = (fs (frP σ.2.1) 16).map (fun j => gA g (13 + j)) := h_17
            rcases optc (fs (frP σ.2.1) 16) with f_19 | ⟨j_20, f_19⟩
            · skip
              obtain rfl : r_18 = none := by rw [h_17, f_19]; rfl
              refine lv_astoreN (lv' := [(6, .null), (0, .ref (gA g 0)), (1, .int kind), (2, .int name), (3, .int ver), (4, .int mark), (5, .int tr)]) hx hb dX2_add_80 hl (by decide) rfl (fun ls hl => ?_)
              refine lv_aloadN hx hb dX2_add_82 (lv_at hl 0 rfl) ?_
              refine lv_ifnullN (tgt := 96) hx hb dX2_add_84 (by decide) ?_
              obtain ⟨sa_21, hsa_21⟩ := hC.2.1.2.1 (RX2, 65, "there is no room for an entry") (by decide +kernel)
              refine vx_throwS (own := RX2) (cls := xIS) (text := "there is no room for an entry") (names := ["java/lang/RuntimeException", "java/lang/Exception"]) (ik := 63) (is := 65) (ic := 67) (sa := sa_21) (A := Az g) hx hb hfl hown (by decide +kernel) (by decide +kernel) (hts (.classLink RX2 63 "java/lang/IllegalStateException") (by decide +kernel)) (hts (.initialized "java/lang/IllegalStateException") (by decide +kernel)) hsa_21 (vx_hat (B := xwB xIS) (fun w h => hts w (hxw67 w h)) (by decide +kernel) (cast_w hC.2.1 (by decide +kernel))) (by decide +kernel) hC.2.2.1.1 hC.2.2.1.2 hS (hl.1.trans hml.symm) dX2_add_96 dX2_add_99 dX2_add_100 dX2_add_102 dX2_add_105 (fun x h => (hxt x h).elim) (Nat.le_of_ble_eq_true rfl) (Nat.le_of_ble_eq_true rfl) (Nat.le_of_ble_eq_true rfl) (Nat.le_of_ble_eq_true rfl) hlocks (fun t9 hv9 hz9 hq9 => ⟨(), trivial, ⟨Or.inr ⟨rfl, by simp [kAdd, okA, c_3, c_7, c_11, c_15, c_16, f_19]⟩, Wd_up hW hz9 hq9⟩, va_F_up hS hz9 hq9⟩) hS.2.2 (Nat.le_of_ble_eq_true rfl) (Nat.le_of_ble_eq_true rfl)
            · skip
              obtain rfl : r_18 = some (gA g (13 + j_20)) := by rw [h_17, f_19]; rfl
              have hj_20 : j_20 < 16 := fs_16 f_19
              refine lv_astore (lv' := [(6, .ref (gA g (13 + j_20))), (0, .ref (gA g 0)), (1, .int kind), (2, .int name), (3, .int ver), (4, .int mark), (5, .int tr)]) hx hb dX2_add_80 hl (by decide) rfl (fun ls hl => ?_)
              refine lv_aload hx hb dX2_add_82 (lv_at hl 0 rfl) ?_
              refine lv_ifnull hx hb dX2_add_84 ?_
              refine lv_aload_n hx hb dX2_add_87 rfl (lv_at hl 1 rfl) ?_
              refine gB (v := .int (σ.1 0)) hx hb hts hinX2 hown hC hW 2 (by decide) (by decide +kernel) rfl rfl dX2_add_88 ?_
              refine lv_bipush (v := 60) hx hb dX2_add_91 (by decide) ?_
              refine lv_icmp_lt (tgt := 106) hx hb dX2_add_93 (by decide) (fun c_22 => ?_) (fun c_22 => ?_)
              · skip
                refine lv_aload hx hb dX2_add_106 (lv_at hl 0 rfl) ?_
                refine lv_aload_n hx hb dX2_add_108 rfl (lv_at hl 1 rfl) ?_
                refine gB (v := .int (σ.1 0)) hx hb hts hinX2 hown hC hW 2 (by decide) (by decide +kernel) rfl rfl dX2_add_109 ?_
                refine lv_iload_n hx hb dX2_add_112 rfl (lv_at hl 2 rfl) ?_
                refine lv_iload_n hx hb dX2_add_113 rfl (lv_at hl 3 rfl) ?_
                refine lv_iload_n hx hb dX2_add_114 rfl (lv_at hl 4 rfl) ?_
                refine lv_iload hx hb dX2_add_115 (lv_at hl 5 rfl) ?_
                refine lv_iload hx hb dX2_add_117 (lv_at hl 6 rfl) ?_
                refine va_callv (va_runVN (As := [.int (σ.1 0), .int kind, .int name, .int ver, .int mark, .int tr]) (rest := []) ⟨hx, hb, hml, hown, hts⟩ (mtX1_fill l g σ μ o j_20 hj_20 (σ.1 0) kind name ver mark tr) ⟨(va_cnB (host := "BootChooser") 6 hts gX2_add_X1_fill_n68 rfl rfl rfl (va_Nw.of (A := #[]) rfl (hC.2.1.nest (w := .methodLinkNest RX2 68 yX1_fill "BootChooser") (by decide +kernel) rfl)) (hts (.initialized RX1) (by decide +kernel)) (by decide +kernel) ⟨Nat.le_of_ble_eq_true rfl, Nat.le_of_ble_eq_true rfl⟩), (hts (.instanceMethod yX1_fill) (by decide +kernel)), (hts (.selects RX1 yX1_fill yX1_fill) (by decide +kernel))⟩ ⟨PW.blind, rcE hC hW hj_20, fun U hU hW9 => ⟨rfl, PW.at hC hS hW U hU hW9⟩⟩ rfl rfl hl.1 rfl (lv_room (Nat.le_of_ble_eq_true rfl)) dX2_add_119 ⟨Nat.le_of_ble_eq_true rfl, Nat.le_of_ble_eq_true rfl⟩) hS (fun _ _ h => h) (fun _ h => h) (fun u_25 t H locs ht hvm h_23 hW hz9 hk9 hS => ?_)
                replace hW : Wd g ((σ.1, up2 σ.2.1 j_20 (flE (σ.2.1 j_20) (σ.1 0) kind name ver mark tr), σ.2.2.1, σ.2.2.2)) μ o H := by rw [← ht]; exact hW
                try dsimp only at h_23
                refine lv_aload_n hx hb dX2_add_122 rfl (lv_at hl 1 rfl) ?_
                refine lv_dup hx hb dX2_add_123 rfl ?_
                refine gB (v := .int (σ.1 0)) hx hb hts hinX2 hown hC hW 2 (by decide) (by decide +kernel) rfl rfl dX2_add_124 ?_
                refine lv_iconst (v := 1) hx hb dX2_add_127 (by decide) ?_
                refine lv_iadd hx hb dX2_add_128 ?_
                refine pB hx hb hts hinX2 hown hC hS hW 0 (by decide) (by decide +kernel) ((σ.1 0 + 1)) dX2_add_129 (fun H locs hW hS => ?_)
                refine lv_aload hx hb dX2_add_132 (lv_at hl 0 rfl) ?_
                refine gEn (v := .int ((up2 σ.2.1 j_20 (flE (σ.2.1 j_20) (σ.1 0) kind name ver mark tr)) j_20 1)) hx hb hts hinX1 hown hC hW hj_20 1 (by decide) (by decide +kernel) rfl rfl dX2_add_134 ?_
                refine vx_ret (W.widen (k := 1) (n := 6) (Nat.le_of_ble_eq_true rfl) (Nat.le_of_ble_eq_true rfl) ?_)
                exact W.iret (v := (up2 σ.2.1 j_20 (flE (σ.2.1 j_20) (σ.1 0) kind name ver mark tr)) j_20 1) hx hb hr (fun t ht hW9 => ⟨⟨_, j_20, rfl, ⟨by simp [kAdd, okA, c_3, c_7, c_11, c_15, c_16, f_19, c_22, h_23], f_19, by rw [up2_s]; simp [flE, upd]⟩, by first | (rw [ht]; exact hW) | (dsimp only; rw [ht]; exact hW)⟩, hS.F ht⟩) hS.2.2 dX2_add_137
              · skip
                obtain ⟨sa_27, hsa_27⟩ := hC.2.1.2.1 (RX2, 65, "there is no room for an entry") (by decide +kernel)
                refine vx_throwS (own := RX2) (cls := xIS) (text := "there is no room for an entry") (names := ["java/lang/RuntimeException", "java/lang/Exception"]) (ik := 63) (is := 65) (ic := 67) (sa := sa_27) (A := Az g) hx hb hfl hown (by decide +kernel) (by decide +kernel) (hts (.classLink RX2 63 "java/lang/IllegalStateException") (by decide +kernel)) (hts (.initialized "java/lang/IllegalStateException") (by decide +kernel)) hsa_27 (vx_hat (B := xwB xIS) (fun w h => hts w (hxw67 w h)) (by decide +kernel) (cast_w hC.2.1 (by decide +kernel))) (by decide +kernel) hC.2.2.1.1 hC.2.2.1.2 hS (hl.1.trans hml.symm) dX2_add_96 dX2_add_99 dX2_add_100 dX2_add_102 dX2_add_105 (fun x h => (hxt x h).elim) (Nat.le_of_ble_eq_true rfl) (Nat.le_of_ble_eq_true rfl) (Nat.le_of_ble_eq_true rfl) (Nat.le_of_ble_eq_true rfl) hlocks (fun t9 hv9 hz9 hq9 => ⟨(), trivial, ⟨Or.inr ⟨rfl, by simp [kAdd, okA, c_3, c_7, c_11, c_15, c_16, f_19, c_22]⟩, Wd_up hW hz9 hq9⟩, va_F_up hS hz9 hq9⟩) hS.2.2 (Nat.le_of_ble_eq_true rfl) (Nat.le_of_ble_eq_true rfl)
          · skip
            refine lv_iload hx hb dX2_add_55 (lv_at hl 5 rfl) ?_
            refine lv_iconst (v := 0) hx hb dX2_add_57 (by decide) ?_
            refine lv_bipush (v := 9) hx hb dX2_add_58 (by decide) ?_
            refine vp_callSi (va_Run.run (va_runS (As := [.int tr, .int 0, .int 9]) (rest := []) ⟨hx, hb, hml, hown, hts⟩ (mtX2_isWithin l tr 0 9) (va_cwS 3 hts gX2_add_X2_isWithin rfl rfl rfl (by decide +kernel) ⟨Nat.le_of_ble_eq_true rfl, Nat.le_of_ble_eq_true rfl⟩) ⟨P0.blind, fun U hU hW9 => ⟨rfl, trivial⟩⟩ rfl rfl hl.1 rfl (lv_room (Nat.le_of_ble_eq_true rfl)) dX2_add_60 ⟨Nat.le_of_ble_eq_true rfl, Nat.le_of_ble_eq_true rfl⟩)) (fun r_29 h_28 => ?_)
            obtain rfl : r_29 = bI (wi tr 0 9) := h_28
            refine lv_if_ne (tgt := 76) hx hb dX2_add_63 (by decide) (fun c_30 => ?_) (fun c_30 => ?_)
            · skip
              replace c_30 := bI_n0.mp c_30
              refine lv_aload_n hx hb dX2_add_76 rfl (lv_at hl 0 rfl) ?_
              refine va_csq (va_Run.run (va_runV (As := []) (rest := []) ⟨hx, hb, hml, hown, hts⟩ (mtX2_freeRow l g σ μ o ) (cwV 0 hts gX2_add_X2_freeRow rfl rfl rfl (by decide +kernel) ⟨Nat.le_of_ble_eq_true rfl, Nat.le_of_ble_eq_true rfl⟩) ⟨PW.blind, rcB hC hW, fun U hU hW9 => ⟨rfl, PW.at hC hS hW U hU hW9⟩⟩ rfl rfl hl.1 rfl (lv_room (Nat.le_of_ble_eq_true rfl)) dX2_add_77 ⟨Nat.le_of_ble_eq_true rfl, Nat.le_of_ble_eq_true rfl⟩)) (fun r_32 h_31 => ?_)
              replace h_31 : r_32 = (fs (frP σ.2.1) 16).map (fun j => gA g (13 + j)) := h_31
              rcases optc (fs (frP σ.2.1) 16) with f_33 | ⟨j_34, f_33⟩
              · skip
                obtain rfl : r_32 = none := by rw [h_31, f_33]; rfl
                refine lv_astoreN (lv' := [(6, .null), (0, .ref (gA g 0)), (1, .int kind), (2, .int name), (3, .int ver), (4, .int mark), (5, .int tr)]) hx hb dX2_add_80 hl (by decide) rfl (fun ls hl => ?_)
                refine lv_aloadN hx hb dX2_add_82 (lv_at hl 0 rfl) ?_
                refine lv_ifnullN (tgt := 96) hx hb dX2_add_84 (by decide) ?_
                obtain ⟨sa_35, hsa_35⟩ := hC.2.1.2.1 (RX2, 65, "there is no room for an entry") (by decide +kernel)
                refine vx_throwS (own := RX2) (cls := xIS) (text := "there is no room for an entry") (names := ["java/lang/RuntimeException", "java/lang/Exception"]) (ik := 63) (is := 65) (ic := 67) (sa := sa_35) (A := Az g) hx hb hfl hown (by decide +kernel) (by decide +kernel) (hts (.classLink RX2 63 "java/lang/IllegalStateException") (by decide +kernel)) (hts (.initialized "java/lang/IllegalStateException") (by decide +kernel)) hsa_35 (vx_hat (B := xwB xIS) (fun w h => hts w (hxw67 w h)) (by decide +kernel) (cast_w hC.2.1 (by decide +kernel))) (by decide +kernel) hC.2.2.1.1 hC.2.2.1.2 hS (hl.1.trans hml.symm) dX2_add_96 dX2_add_99 dX2_add_100 dX2_add_102 dX2_add_105 (fun x h => (hxt x h).elim) (Nat.le_of_ble_eq_true rfl) (Nat.le_of_ble_eq_true rfl) (Nat.le_of_ble_eq_true rfl) (Nat.le_of_ble_eq_true rfl) hlocks (fun t9 hv9 hz9 hq9 => ⟨(), trivial, ⟨Or.inr ⟨rfl, by simp [kAdd, okA, c_3, c_7, c_11, c_15, c_16, c_30, f_33]⟩, Wd_up hW hz9 hq9⟩, va_F_up hS hz9 hq9⟩) hS.2.2 (Nat.le_of_ble_eq_true rfl) (Nat.le_of_ble_eq_true rfl)
              · skip
                obtain rfl : r_32 = some (gA g (13 + j_34)) := by rw [h_31, f_33]; rfl
                have hj_34 : j_34 < 16 := fs_16 f_33
                refine lv_astore (lv' := [(6, .ref (gA g (13 + j_34))), (0, .ref (gA g 0)), (1, .int kind), (2, .int name), (3, .int ver), (4, .int mark), (5, .int tr)]) hx hb dX2_add_80 hl (by decide) rfl (fun ls hl => ?_)
                refine lv_aload hx hb dX2_add_82 (lv_at hl 0 rfl) ?_
                refine lv_ifnull hx hb dX2_add_84 ?_
                refine lv_aload_n hx hb dX2_add_87 rfl (lv_at hl 1 rfl) ?_
                refine gB (v := .int (σ.1 0)) hx hb hts hinX2 hown hC hW 2 (by decide) (by decide +kernel) rfl rfl dX2_add_88 ?_
                refine lv_bipush (v := 60) hx hb dX2_add_91 (by decide) ?_
                refine lv_icmp_lt (tgt := 106) hx hb dX2_add_93 (by decide) (fun c_36 => ?_) (fun c_36 => ?_)
                · skip
                  refine lv_aload hx hb dX2_add_106 (lv_at hl 0 rfl) ?_
                  refine lv_aload_n hx hb dX2_add_108 rfl (lv_at hl 1 rfl) ?_
                  refine gB (v := .int (σ.1 0)) hx hb hts hinX2 hown hC hW 2 (by decide) (by decide +kernel) rfl rfl dX2_add_109 ?_
                  refine lv_iload_n hx hb dX2_add_112 rfl (lv_at hl 2 rfl) ?_
                  refine lv_iload_n hx hb dX2_add_113 rfl (lv_at hl 3 rfl) ?_
                  refine lv_iload_n hx hb dX2_add_114 rfl (lv_at hl 4 rfl) ?_
                  refine lv_iload hx hb dX2_add_115 (lv_at hl 5 rfl) ?_
                  refine lv_iload hx hb dX2_add_117 (lv_at hl 6 rfl) ?_
                  refine va_callv (va_runVN (As := [.int (σ.1 0), .int kind, .int name, .int ver, .int mark, .int tr]) (rest := []) ⟨hx, hb, hml, hown, hts⟩ (mtX1_fill l g σ μ o j_34 hj_34 (σ.1 0) kind name ver mark tr) ⟨(va_cnB (host := "BootChooser") 6 hts gX2_add_X1_fill_n68 rfl rfl rfl (va_Nw.of (A := #[]) rfl (hC.2.1.nest (w := .methodLinkNest RX2 68 yX1_fill "BootChooser") (by decide +kernel) rfl)) (hts (.initialized RX1) (by decide +kernel)) (by decide +kernel) ⟨Nat.le_of_ble_eq_true rfl, Nat.le_of_ble_eq_true rfl⟩), (hts (.instanceMethod yX1_fill) (by decide +kernel)), (hts (.selects RX1 yX1_fill yX1_fill) (by decide +kernel))⟩ ⟨PW.blind, rcE hC hW hj_34, fun U hU hW9 => ⟨rfl, PW.at hC hS hW U hU hW9⟩⟩ rfl rfl hl.1 rfl (lv_room (Nat.le_of_ble_eq_true rfl)) dX2_add_119 ⟨Nat.le_of_ble_eq_true rfl, Nat.le_of_ble_eq_true rfl⟩) hS (fun _ _ h => h) (fun _ h => h) (fun u_39 t H locs ht hvm h_37 hW hz9 hk9 hS => ?_)
                  replace hW : Wd g ((σ.1, up2 σ.2.1 j_34 (flE (σ.2.1 j_34) (σ.1 0) kind name ver mark tr), σ.2.2.1, σ.2.2.2)) μ o H := by rw [← ht]; exact hW
                  try dsimp only at h_37
                  refine lv_aload_n hx hb dX2_add_122 rfl (lv_at hl 1 rfl) ?_
                  refine lv_dup hx hb dX2_add_123 rfl ?_
                  refine gB (v := .int (σ.1 0)) hx hb hts hinX2 hown hC hW 2 (by decide) (by decide +kernel) rfl rfl dX2_add_124 ?_
                  refine lv_iconst (v := 1) hx hb dX2_add_127 (by decide) ?_
                  refine lv_iadd hx hb dX2_add_128 ?_
                  refine pB hx hb hts hinX2 hown hC hS hW 0 (by decide) (by decide +kernel) ((σ.1 0 + 1)) dX2_add_129 (fun H locs hW hS => ?_)
                  refine lv_aload hx hb dX2_add_132 (lv_at hl 0 rfl) ?_
                  refine gEn (v := .int ((up2 σ.2.1 j_34 (flE (σ.2.1 j_34) (σ.1 0) kind name ver mark tr)) j_34 1)) hx hb hts hinX1 hown hC hW hj_34 1 (by decide) (by decide +kernel) rfl rfl dX2_add_134 ?_
                  refine vx_ret (W.widen (k := 1) (n := 6) (Nat.le_of_ble_eq_true rfl) (Nat.le_of_ble_eq_true rfl) ?_)
                  exact W.iret (v := (up2 σ.2.1 j_34 (flE (σ.2.1 j_34) (σ.1 0) kind name ver mark tr)) j_34 1) hx hb hr (fun t ht hW9 => ⟨⟨_, j_34, rfl, ⟨by simp [kAdd, okA, c_3, c_7, c_11, c_15, c_16, c_30, f_33, c_36, h_37], f_33, by rw [up2_s]; simp [flE, upd]⟩, by first | (rw [ht]; exact hW) | (dsimp only; rw [ht]; exact hW)⟩, hS.F ht⟩) hS.2.2 dX2_add_137
                · skip
                  obtain ⟨sa_41, hsa_41⟩ := hC.2.1.2.1 (RX2, 65, "there is no room for an entry") (by decide +kernel)
                  refine vx_throwS (own := RX2) (cls := xIS) (text := "there is no room for an entry") (names := ["java/lang/RuntimeException", "java/lang/Exception"]) (ik := 63) (is := 65) (ic := 67) (sa := sa_41) (A := Az g) hx hb hfl hown (by decide +kernel) (by decide +kernel) (hts (.classLink RX2 63 "java/lang/IllegalStateException") (by decide +kernel)) (hts (.initialized "java/lang/IllegalStateException") (by decide +kernel)) hsa_41 (vx_hat (B := xwB xIS) (fun w h => hts w (hxw67 w h)) (by decide +kernel) (cast_w hC.2.1 (by decide +kernel))) (by decide +kernel) hC.2.2.1.1 hC.2.2.1.2 hS (hl.1.trans hml.symm) dX2_add_96 dX2_add_99 dX2_add_100 dX2_add_102 dX2_add_105 (fun x h => (hxt x h).elim) (Nat.le_of_ble_eq_true rfl) (Nat.le_of_ble_eq_true rfl) (Nat.le_of_ble_eq_true rfl) (Nat.le_of_ble_eq_true rfl) hlocks (fun t9 hv9 hz9 hq9 => ⟨(), trivial, ⟨Or.inr ⟨rfl, by simp [kAdd, okA, c_3, c_7, c_11, c_15, c_16, c_30, f_33, c_36]⟩, Wd_up hW hz9 hq9⟩, va_F_up hS hz9 hq9⟩) hS.2.2 (Nat.le_of_ble_eq_true rfl) (Nat.le_of_ble_eq_true rfl)
            · skip
              replace c_30 := bI_0.mp c_30
              obtain ⟨sa_42, hsa_42⟩ := hC.2.1.2.1 (RX2, 57, "tries is out of range") (by decide +kernel)
              refine vx_throwS (own := RX2) (cls := xIA) (text := "tries is out of range") (names := ["java/lang/RuntimeException", "java/lang/Exception"]) (ik := 50) (is := 57) (ic := 54) (sa := sa_42) (A := Az g) hx hb hfl hown (by decide +kernel) (by decide +kernel) (hts (.classLink RX2 50 "java/lang/IllegalArgumentException") (by decide +kernel)) (hts (.initialized "java/lang/IllegalArgumentException") (by decide +kernel)) hsa_42 (vx_hat (B := xwB xIA) (fun w h => hts w (hxw54 w h)) (by decide +kernel) (cast_w hC.2.1 (by decide +kernel))) (by decide +kernel) hC.2.2.1.1 hC.2.2.1.2 hS (hl.1.trans hml.symm) dX2_add_66 dX2_add_69 dX2_add_70 dX2_add_72 dX2_add_75 (fun x h => (hxt x h).elim) (Nat.le_of_ble_eq_true rfl) (Nat.le_of_ble_eq_true rfl) (Nat.le_of_ble_eq_true rfl) (Nat.le_of_ble_eq_true rfl) hlocks (fun t9 hv9 hz9 hq9 => ⟨(), trivial, ⟨Or.inl ⟨rfl, by simp [kAdd, okA, c_3, c_7, c_11, c_15, c_16, c_30]⟩, Wd_up hW hz9 hq9⟩, va_F_up hS hz9 hq9⟩) hS.2.2 (Nat.le_of_ble_eq_true rfl) (Nat.le_of_ble_eq_true rfl)
        · skip
          replace c_15 := bI_0.mp c_15
          obtain ⟨sa_43, hsa_43⟩ := hC.2.1.2.1 (RX2, 52, "kind, name, version or mark is out of range") (by decide +kernel)
          refine vx_throwS (own := RX2) (cls := xIA) (text := "kind, name, version or mark is out of range") (names := ["java/lang/RuntimeException", "java/lang/Exception"]) (ik := 50) (is := 52) (ic := 54) (sa := sa_43) (A := Az g) hx hb hfl hown (by decide +kernel) (by decide +kernel) (hts (.classLink RX2 50 "java/lang/IllegalArgumentException") (by decide +kernel)) (hts (.initialized "java/lang/IllegalArgumentException") (by decide +kernel)) hsa_43 (vx_hat (B := xwB xIA) (fun w h => hts w (hxw54 w h)) (by decide +kernel) (cast_w hC.2.1 (by decide +kernel))) (by decide +kernel) hC.2.2.1.1 hC.2.2.1.2 hS (hl.1.trans hml.symm) dX2_add_39 dX2_add_42 dX2_add_43 dX2_add_45 dX2_add_48 (fun x h => (hxt x h).elim) (Nat.le_of_ble_eq_true rfl) (Nat.le_of_ble_eq_true rfl) (Nat.le_of_ble_eq_true rfl) (Nat.le_of_ble_eq_true rfl) hlocks (fun t9 hv9 hz9 hq9 => ⟨(), trivial, ⟨Or.inl ⟨rfl, by simp [kAdd, okA, c_3, c_7, c_11, c_15]⟩, Wd_up hW hz9 hq9⟩, va_F_up hS hz9 hq9⟩) hS.2.2 (Nat.le_of_ble_eq_true rfl) (Nat.le_of_ble_eq_true rfl)
end
section
set_option maxHeartbeats 4000000 in
set_option maxRecDepth 100000 in
theorem mtX0_endsInCode (l : Launch) (g : Ge) (σ : Sg) (μ : Mg) (o : Nat → Int64) (en cl : Nat) (h1 : σ.2.2.1 3 = nI en) (h2 : σ.2.2.1 2 = nI cl) (h3 : en ≤ 12) (h4 : cl ≤ 12) : Met l yX0_endsInCode wsX0_endsInCode ({ frames := 0, cells := 0, slots := 0, locals := 0 } : Room) (va_Pc [.ref (gA g 2)] (PW g σ μ o)) (vp_Si (fun r => r = bI (ec σ.2.2.2 en cl (σ.2.2.1 1)))) 0 0 (fun _ => False) := by
  refine Met.ofW (cc := cX0_endsInCode) (maxL := 3) (ret := (some .boolean)) (by decide) rfl ?_
  intro p e s m args below meth c s₁ B hml hv
  obtain ⟨rfl, hC, hW⟩ := hv
  have hx := B.exec
  have hb := B.bytes
  have hr := B.returns
  have hts := atoms_spec (ws := wsX0_endsInCode) B.pre
  have hown : s.vm.findClass RX0 = some m.cls := findClass_of_methodNamed B.named
  have hlocks := B.notSynchronized
  have hinX0 : ∀ w ∈ wsX00, w ∈ wsX0_endsInCode := by decide +kernel
  have hS : va_S (Az g) s.heap s.heap [] := va_S.rf
  have hl := lv_entry ([.ref (gA g 2)]) (n := 3) (Nat.le_of_ble_eq_true rfl)
  rw [lg_entry_eq]
  generalize (lg_sl ([.ref (gA g 2)]) ++ List.replicate (3 - (lg_sl ([.ref (gA g 2)])).length) Slot.unset).toArray = ls at hl ⊢
  have hl : lv_has ls 3 [(0, .ref (gA g 2))] := hl
  refine lv_aload_n hx hb dX0_endsInCode_0 rfl (lv_at hl 0 rfl) ?_
  refine gL (v := .int (σ.2.2.1 3)) hx hb hts hinX0 hown hC hW 4 (by decide) (by decide +kernel) rfl rfl dX0_endsInCode_1 ?_
  refine lv_aload_n hx hb dX0_endsInCode_4 rfl (lv_at hl 0 rfl) ?_
  refine gL (v := .int (σ.2.2.1 2)) hx hb hts hinX0 hown hC hW 3 (by decide) (by decide +kernel) rfl rfl dX0_endsInCode_5 ?_
  refine lv_icmp_ge (tgt := 13) hx hb dX0_endsInCode_8 (by decide) (fun c_1 => ?_) (fun c_1 => ?_)
  · skip
    have hle : cl ≤ en := by rw [h1, h2, nI_leI (by omega) (by omega)] at c_1; exact c_1
    refine lv_iconst (v := 0) hx hb dX0_endsInCode_13 (by decide) ?_
    refine lv_istore_n (lv' := [(1, .int 0), (0, .ref (gA g 2))]) hx hb dX0_endsInCode_14 rfl hl (by decide) rfl (fun ls hl => ?_)
    refine lv_aload_n hx hb dX0_endsInCode_15 rfl (lv_at hl 1 rfl) ?_
    refine gL (v := .int (σ.2.2.1 3)) hx hb hts hinX0 hown hC hW 4 (by decide) (by decide +kernel) rfl rfl dX0_endsInCode_16 ?_
    refine lv_aload_n hx hb dX0_endsInCode_19 rfl (lv_at hl 1 rfl) ?_
    refine gL (v := .int (σ.2.2.1 2)) hx hb hts hinX0 hown hC hW 3 (by decide) (by decide +kernel) rfl rfl dX0_endsInCode_20 ?_
    refine lv_isub hx hb dX0_endsInCode_23 ?_
    refine lv_istore_n (lv' := [(2, .int ((σ.2.2.1 3 - σ.2.2.1 2))), (1, .int 0), (0, .ref (gA g 2))]) hx hb dX0_endsInCode_24 rfl hl (by decide) rfl (fun ls hl => ?_)
    have loop_1 : ∀ (n9 i : Nat), i ≤ cl → cl < i + n9 → ∀ (ls : Array Slot), lv_has ls 3 [(0, .ref (gA g 2)), (1, .int (vl σ.2.2.2 (en - cl) i)), (2, .int (nI (en - cl + i)))] → W p l e (headSpec wsX0_endsInCode ({ frames := 0, cells := 0, slots := 0, locals := 0 } : Room)).room s m ([.ref (gA g 2)] : List Value).toArray below meth c s.heap [] 0 0 (MQ below (vp_Si (fun r => r = bI (ec σ.2.2.2 en cl (σ.2.2.1 1)))) ([.ref (gA g 2)] : List Value).toArray s 0 0 (fun _ => False)) (F0 m 25 ls []) := by
      intro n9
      induction n9 with
      | zero =>
        intro i hi1 hi2
        exact absurd hi2 (by omega)
      | succ n9 ih =>
        intro i hi hin ls hl
        refine lv_iload_n hx hb dX0_endsInCode_25 rfl (lv_at hl 2 rfl) ?_
        refine lv_aload_n hx hb dX0_endsInCode_26 rfl (lv_at hl 0 rfl) ?_
        refine gL (v := .int (σ.2.2.1 3)) hx hb hts hinX0 hown hC hW 4 (by decide) (by decide +kernel) rfl rfl dX0_endsInCode_27 ?_
        refine lv_icmp_ge (tgt := 51) hx hb dX0_endsInCode_30 (by decide) (fun c_2 => ?_) (fun c_2 => ?_)
        · skip
          have hi16 : i = cl := by rw [h1, nI_leI (by omega) (by omega)] at c_2; omega
          refine lv_iload_n hx hb dX0_endsInCode_51 rfl (lv_at hl 1 rfl) ?_
          refine lv_aload_n hx hb dX0_endsInCode_52 rfl (lv_at hl 0 rfl) ?_
          refine gL (v := .int (σ.2.2.1 1)) hx hb hts hinX0 hown hC hW 2 (by decide) (by decide +kernel) rfl rfl dX0_endsInCode_53 ?_
          refine lv_icmp_ne (tgt := 63) hx hb dX0_endsInCode_56 (by decide) (fun c_3 => ?_) (fun c_3 => ?_)
          · skip
            refine lv_iconst (v := 0) hx hb dX0_endsInCode_63 (by decide) ?_
            exact W.zret (v := 0) (ty := .boolean) hx hb hr rfl (fun t ht hW9 => ⟨_, rfl, by rw [hi16] at c_3; simp [ec, hle, bI, c_3], ht⟩) (fun q h => by cases h) dX0_endsInCode_64
          · skip
            refine lv_iconst (v := 1) hx hb dX0_endsInCode_59 (by decide) ?_
            refine lv_goto (tgt := 64) hx hb dX0_endsInCode_60 (by decide) ?_
            exact W.zret (v := 1) (ty := .boolean) hx hb hr rfl (fun t ht hW9 => ⟨_, rfl, by rw [hi16] at c_3; simp [ec, hle, bI, c_3], ht⟩) (fun q h => by cases h) dX0_endsInCode_64
        · skip
          have hlt : i < cl := by rw [h1, nI_leI (by omega) (by omega)] at c_2; omega
          refine lv_iload_n hx hb dX0_endsInCode_33 rfl (lv_at hl 1 rfl) ?_
          refine lv_bipush (v := 10) hx hb dX0_endsInCode_34 (by decide) ?_
          refine lv_imul hx hb dX0_endsInCode_36 ?_
          refine lv_aload_n hx hb dX0_endsInCode_37 rfl (lv_at hl 0 rfl) ?_
          refine gL (v := .ref (gA g 3)) hx hb hts hinX0 hown hC hW 0 (by decide) (by decide +kernel) rfl rfl dX0_endsInCode_38 ?_
          refine lv_iload_n hx hb dX0_endsInCode_41 rfl (lv_at hl 2 rfl) ?_
          refine dLd hx hb hC hW (by omega : en - cl + i < 12) dX0_endsInCode_42 ?_
          refine lv_iadd hx hb dX0_endsInCode_43 ?_
          refine lv_istore_n (lv' := [(1, .int (((vl σ.2.2.2 (en - cl) i * 10) + σ.2.2.2 ((en - cl + i))))), (0, .ref (gA g 2)), (2, .int (nI (en - cl + i)))]) hx hb dX0_endsInCode_44 rfl hl (by decide) rfl (fun ls hl => ?_)
          refine lv_iinc (v := nI ((en - cl + i) + 1)) (lv' := [(2, .int (nI ((en - cl + i) + 1))), (1, .int (((vl σ.2.2.2 (en - cl) i * 10) + σ.2.2.2 ((en - cl + i))))), (0, .ref (gA g 2))]) hx hb dX0_endsInCode_45 hl (k := 2) rfl (nI_1 _) (by decide) rfl (fun ls hl => ?_)
          refine lv_goto (tgt := 25) hx hb dX0_endsInCode_48 (by decide) ?_
          exact ih (i + 1) (by omega) (by omega) ls (by exact lv_sub hl [2, 1, 0] rfl)
    exact loop_1 (cl + 1) 0 (Nat.zero_le _) (by omega) ls (by rw [show nI (en - cl + 0) = σ.2.2.1 3 - σ.2.2.1 2 from by rw [h1, h2]; exact (pk_sub hle).symm]; exact lv_sub hl [2, 1, 0] rfl)
  · skip
    have hle : ¬ cl ≤ en := by rw [h1, h2, nI_leI (by omega) (by omega)] at c_1; exact c_1
    refine lv_iconst (v := 0) hx hb dX0_endsInCode_11 (by decide) ?_
    exact W.zret (v := 0) (ty := .boolean) hx hb hr rfl (fun t ht hW9 => ⟨_, rfl, by simp [ec, hle, bI], ht⟩) (fun q h => by cases h) dX0_endsInCode_12
set_option maxHeartbeats 4000000 in
set_option maxRecDepth 100000 in
theorem mtX0_takeDigit (l : Launch) (hfl : l.stackTraces = false) (g : Ge) (σ : Sg) (μ : Mg) (o : Nat → Int64) (d : Int32) (en cl : Nat) (h1 : σ.2.2.1 3 = nI en) (h2 : σ.2.2.1 2 = nI cl) (h3 : en ≤ 12) (h4 : cl ≤ 12) : vx_Met l yX0_takeDigit wsX0_takeDigit ({ frames := 6, cells := 1, slots := 6, locals := 90 } : Room) (va_Pc [.ref (gA g 2), .int d] (PW g σ μ o)) (va_Qi (S := Unit) (fun r _ => ¬ σ.2.2.1 0 = 0 ∧ σ.2.2.1 3 < 12 ∧ r = bI (ec (upd σ.2.2.2 en d) (en + 1) cl (σ.2.2.1 1))) (fun _ t => Wd g (σ.1, σ.2.1, upd (upd σ.2.2.1 3 (σ.2.2.1 3 + 1)) 0 (bI (!ec (upd σ.2.2.2 en d) (en + 1) cl (σ.2.2.1 1))), upd σ.2.2.2 en d) μ o t.heap) (Az g)) (vx_X (S := Unit) (fun _ => True) (fun E _ t => (E = xIS ∧ (σ.2.2.1 0 = 0 ∨ ¬ σ.2.2.1 3 < 12)) ∧ Wd g σ μ o t.heap) (Az g)) 1 6 (Az g) := by
  refine vx_ofW (cc := cX0_takeDigit) (maxL := 2) (ret := (some .boolean)) (by decide) rfl ?_
  intro p e s m args below meth c s₁ B hml hxt hv
  obtain ⟨rfl, hC, hW⟩ := hv
  have hx := B.exec
  have hb := B.bytes
  have hr := B.returns
  have hts := atoms_spec (ws := wsX0_takeDigit) B.pre
  have hown : s.vm.findClass RX0 = some m.cls := findClass_of_methodNamed B.named
  have hlocks := B.notSynchronized
  have hinX0 : ∀ w ∈ wsX00, w ∈ wsX0_takeDigit := by decide +kernel
  have hxw36 : ∀ w ∈ (vx_atS RX0 36 "java/lang/IllegalStateException" ["java/lang/RuntimeException", "java/lang/Exception"]).filter goodWord, w ∈ wsX0_takeDigit := by decide +kernel
  have hS : va_S (Az g) s.heap s.heap [] := va_S.rf
  have hl := lv_entry ([.ref (gA g 2), .int d]) (n := 2) (Nat.le_of_ble_eq_true rfl)
  rw [lg_entry_eq]
  generalize (lg_sl ([.ref (gA g 2), .int d]) ++ List.replicate (2 - (lg_sl ([.ref (gA g 2), .int d])).length) Slot.unset).toArray = ls at hl ⊢
  have hl : lv_has ls 2 [(0, .ref (gA g 2)), (1, .int d)] := hl
  refine lv_aload_n hx hb dX0_takeDigit_0 rfl (lv_at hl 0 rfl) ?_
  refine gL (v := .int (σ.2.2.1 0)) hx hb hts hinX0 hown hC hW 1 (by decide) (by decide +kernel) rfl rfl dX0_takeDigit_1 ?_
  refine lv_if_eq (tgt := 19) hx hb dX0_takeDigit_4 (by decide) (fun c_1 => ?_) (fun c_1 => ?_)
  · skip
    obtain ⟨sa_2, hsa_2⟩ := hC.2.1.2.1 (RX0, 34, "it is not locked, or too many digits were entered") (by decide +kernel)
    refine vx_throwS (own := RX0) (cls := xIS) (text := "it is not locked, or too many digits were entered") (names := ["java/lang/RuntimeException", "java/lang/Exception"]) (ik := 32) (is := 34) (ic := 36) (sa := sa_2) (A := Az g) hx hb hfl hown (by decide +kernel) (by decide +kernel) (hts (.classLink RX0 32 "java/lang/IllegalStateException") (by decide +kernel)) (hts (.initialized "java/lang/IllegalStateException") (by decide +kernel)) hsa_2 (vx_hat (B := xwB xIS) (fun w h => hts w (hxw36 w h)) (by decide +kernel) (cast_w hC.2.1 (by decide +kernel))) (by decide +kernel) hC.2.2.1.1 hC.2.2.1.2 hS (hl.1.trans hml.symm) dX0_takeDigit_19 dX0_takeDigit_22 dX0_takeDigit_23 dX0_takeDigit_25 dX0_takeDigit_28 (fun x h => (hxt x h).elim) (Nat.le_of_ble_eq_true rfl) (Nat.le_of_ble_eq_true rfl) (Nat.le_of_ble_eq_true rfl) (Nat.le_of_ble_eq_true rfl) hlocks (fun t9 hv9 hz9 hq9 => ⟨(), trivial, ⟨⟨rfl, Or.inl c_1⟩, Wd_up hW hz9 hq9⟩, va_F_up hS hz9 hq9⟩) hS.2.2 (Nat.le_of_ble_eq_true rfl) (Nat.le_of_ble_eq_true rfl)
  · skip
    refine lv_aload_n hx hb dX0_takeDigit_7 rfl (lv_at hl 0 rfl) ?_
    refine gL (v := .int (σ.2.2.1 3)) hx hb hts hinX0 hown hC hW 4 (by decide) (by decide +kernel) rfl rfl dX0_takeDigit_8 ?_
    refine lv_aload_n hx hb dX0_takeDigit_11 rfl (lv_at hl 0 rfl) ?_
    refine gL (v := .ref (gA g 3)) hx hb hts hinX0 hown hC hW 0 (by decide) (by decide +kernel) rfl rfl dX0_takeDigit_12 ?_
    refine dLen hx hb hC hW dX0_takeDigit_15 ?_
    refine lv_icmp_lt (tgt := 29) hx hb dX0_takeDigit_16 (by decide) (fun c_3 => ?_) (fun c_3 => ?_)
    · skip
      refine lv_aload_n hx hb dX0_takeDigit_29 rfl (lv_at hl 0 rfl) ?_
      refine gL (v := .ref (gA g 3)) hx hb hts hinX0 hown hC hW 0 (by decide) (by decide +kernel) rfl rfl dX0_takeDigit_30 ?_
      refine lv_aload_n hx hb dX0_takeDigit_33 rfl (lv_at hl 0 rfl) ?_
      refine gL (v := .int (σ.2.2.1 3)) hx hb hts hinX0 hown hC hW 4 (by decide) (by decide +kernel) rfl rfl dX0_takeDigit_34 ?_
      refine lv_iload_n hx hb dX0_takeDigit_37 rfl (lv_at hl 1 rfl) ?_
      have hlt : en < 12 := by rw [h1, show (12 : Int32) = nI 12 from rfl, nI_ltI (by omega) (by omega)] at c_3; exact c_3
      refine dStI (j := en) h1 hx hb hC hS hW hlt (d) dX0_takeDigit_38 (fun H locs hW hS => ?_)
      refine lv_aload_n hx hb dX0_takeDigit_39 rfl (lv_at hl 0 rfl) ?_
      refine lv_dup hx hb dX0_takeDigit_40 rfl ?_
      refine gL (v := .int (σ.2.2.1 3)) hx hb hts hinX0 hown hC hW 4 (by decide) (by decide +kernel) rfl rfl dX0_takeDigit_41 ?_
      refine lv_iconst (v := 1) hx hb dX0_takeDigit_44 (by decide) ?_
      refine lv_iadd hx hb dX0_takeDigit_45 ?_
      refine pL (ty := .int) hx hb hts hinX0 hown hC hS hW 3 (by decide) (by decide +kernel) (by decide +kernel) ((σ.2.2.1 3 + 1)) rfl rfl dX0_takeDigit_46 (fun H locs hW hS => ?_)
      refine lv_aload_n hx hb dX0_takeDigit_49 rfl (lv_at hl 0 rfl) ?_
      refine lv_aload_n hx hb dX0_takeDigit_50 rfl (lv_at hl 0 rfl) ?_
      refine vp_callSi (va_Run.run (va_runV (As := []) (rest := [.ref (gA g 2)]) ⟨hx, hb, hml, hown, hts⟩ (mtX0_endsInCode l g ((σ.1, σ.2.1, upd σ.2.2.1 3 ((σ.2.2.1 3 + 1)), upd σ.2.2.2 en d)) μ o (en + 1) cl (by simp [upd, h1, nI_1]) (by simp [upd, h2]) (by omega) h4) (cwV 0 hts gX0_takeDigit_X0_endsInCode rfl rfl rfl (by decide +kernel) ⟨Nat.le_of_ble_eq_true rfl, Nat.le_of_ble_eq_true rfl⟩) ⟨PW.blind, rcL hC hW, fun U hU hW9 => ⟨rfl, PW.at hC hS hW U hU hW9⟩⟩ rfl rfl hl.1 rfl (lv_room (Nat.le_of_ble_eq_true rfl)) dX0_takeDigit_51 ⟨Nat.le_of_ble_eq_true rfl, Nat.le_of_ble_eq_true rfl⟩)) (fun r_5 h_4 => ?_)
      obtain rfl : r_5 = bI (ec (upd σ.2.2.2 en d) (en + 1) cl (σ.2.2.1 1)) := h_4
      refine lv_if_ne (tgt := 61) hx hb dX0_takeDigit_54 (by decide) (fun c_6 => ?_) (fun c_6 => ?_)
      · skip
        replace c_6 := bI_n0.mp c_6
        refine lv_iconst (v := 0) hx hb dX0_takeDigit_61 (by decide) ?_
        refine pL (ty := .boolean) hx hb hts hinX0 hown hC hS hW 0 (by decide) (by decide +kernel) (by decide +kernel) (0) rfl rfl dX0_takeDigit_62 (fun H locs hW hS => ?_)
        refine lv_aload_n hx hb dX0_takeDigit_65 rfl (lv_at hl 0 rfl) ?_
        refine gL (v := .int ((upd (upd σ.2.2.1 3 ((σ.2.2.1 3 + 1))) 0 0) 0)) hx hb hts hinX0 hown hC hW 1 (by decide) (by decide +kernel) rfl rfl dX0_takeDigit_66 ?_
        refine lv_if_ne (tgt := 76) hx hb dX0_takeDigit_69 (by decide) (fun c_7 => ?_) (fun c_7 => ?_)
        · skip
          exact absurd (by simp [upd]) c_7
        · skip
          refine lv_iconst (v := 1) hx hb dX0_takeDigit_72 (by decide) ?_
          refine lv_goto (tgt := 77) hx hb dX0_takeDigit_73 (by decide) ?_
          refine vx_ret (W.widen (k := 1) (n := 6) (Nat.le_of_ble_eq_true rfl) (Nat.le_of_ble_eq_true rfl) ?_)
          exact W.zret (v := 1) (ty := .boolean) hx hb hr rfl (fun t ht hW9 => ⟨⟨_, (), rfl, ⟨c_1, c_3, by simp [bI, c_6]⟩, by dsimp only; rw [ht, c_6]; exact hW⟩, hS.F ht⟩) hS.2.2 dX0_takeDigit_77
      · skip
        replace c_6 := bI_0.mp c_6
        refine lv_iconst (v := 1) hx hb dX0_takeDigit_57 (by decide) ?_
        refine lv_goto (tgt := 62) hx hb dX0_takeDigit_58 (by decide) ?_
        refine pL (ty := .boolean) hx hb hts hinX0 hown hC hS hW 0 (by decide) (by decide +kernel) (by decide +kernel) (1) rfl rfl dX0_takeDigit_62 (fun H locs hW hS => ?_)
        refine lv_aload_n hx hb dX0_takeDigit_65 rfl (lv_at hl 0 rfl) ?_
        refine gL (v := .int ((upd (upd σ.2.2.1 3 ((σ.2.2.1 3 + 1))) 0 1) 0)) hx hb hts hinX0 hown hC hW 1 (by decide) (by decide +kernel) rfl rfl dX0_takeDigit_66 ?_
        refine lv_if_ne (tgt := 76) hx hb dX0_takeDigit_69 (by decide) (fun c_8 => ?_) (fun c_8 => ?_)
        · skip
          refine lv_iconst (v := 0) hx hb dX0_takeDigit_76 (by decide) ?_
          refine vx_ret (W.widen (k := 1) (n := 6) (Nat.le_of_ble_eq_true rfl) (Nat.le_of_ble_eq_true rfl) ?_)
          exact W.zret (v := 0) (ty := .boolean) hx hb hr rfl (fun t ht hW9 => ⟨⟨_, (), rfl, ⟨c_1, c_3, by simp [bI, c_6]⟩, by dsimp only; rw [ht, c_6]; exact hW⟩, hS.F ht⟩) hS.2.2 dX0_takeDigit_77
        · skip
          exact absurd c_8 (by simp [upd])
    · skip
      obtain ⟨sa_9, hsa_9⟩ := hC.2.1.2.1 (RX0, 34, "it is not locked, or too many digits were entered") (by decide +kernel)
      refine vx_throwS (own := RX0) (cls := xIS) (text := "it is not locked, or too many digits were entered") (names := ["java/lang/RuntimeException", "java/lang/Exception"]) (ik := 32) (is := 34) (ic := 36) (sa := sa_9) (A := Az g) hx hb hfl hown (by decide +kernel) (by decide +kernel) (hts (.classLink RX0 32 "java/lang/IllegalStateException") (by decide +kernel)) (hts (.initialized "java/lang/IllegalStateException") (by decide +kernel)) hsa_9 (vx_hat (B := xwB xIS) (fun w h => hts w (hxw36 w h)) (by decide +kernel) (cast_w hC.2.1 (by decide +kernel))) (by decide +kernel) hC.2.2.1.1 hC.2.2.1.2 hS (hl.1.trans hml.symm) dX0_takeDigit_19 dX0_takeDigit_22 dX0_takeDigit_23 dX0_takeDigit_25 dX0_takeDigit_28 (fun x h => (hxt x h).elim) (Nat.le_of_ble_eq_true rfl) (Nat.le_of_ble_eq_true rfl) (Nat.le_of_ble_eq_true rfl) (Nat.le_of_ble_eq_true rfl) hlocks (fun t9 hv9 hz9 hq9 => ⟨(), trivial, ⟨⟨rfl, Or.inr c_3⟩, Wd_up hW hz9 hq9⟩, va_F_up hS hz9 hq9⟩) hS.2.2 (Nat.le_of_ble_eq_true rfl) (Nat.le_of_ble_eq_true rfl)
set_option maxHeartbeats 4000000 in
set_option maxRecDepth 100000 in
theorem mtX2_enter (l : Launch) (hfl : l.stackTraces = false) (g : Ge) (σ : Sg) (μ : Mg) (o : Nat → Int64) (d : Int32) (en cl : Nat) (h1 : σ.2.2.1 3 = nI en) (h2 : σ.2.2.1 2 = nI cl) (h3 : en ≤ 12) (h4 : cl ≤ 12) : vx_Met l yX2_enter wsX2_enter ({ frames := 7, cells := 2, slots := 12, locals := 111 } : Room) (va_Pc [.ref (gA g 0), .int d] (PW g σ μ o)) (va_Qi (S := Unit) (fun r _ => kEn σ d = 0 ∧ r = bI (ec (upd σ.2.2.2 en d) (en + 1) cl (σ.2.2.1 1))) (fun _ t => Wd g (σ.1, σ.2.1, upd (upd σ.2.2.1 3 (σ.2.2.1 3 + 1)) 0 (bI (!ec (upd σ.2.2.2 en d) (en + 1) cl (σ.2.2.1 1))), upd σ.2.2.2 en d) μ o t.heap) (Az g)) (vx_X (S := Unit) (fun _ => True) (fun E _ t => ((E = xIA ∧ kEn σ d = 1) ∨ (E = xIS ∧ kEn σ d = 2)) ∧ Wd g σ μ o t.heap) (Az g)) 2 12 (Az g) := by
  refine vx_ofW (cc := cX2_enter) (maxL := 2) (ret := (some .boolean)) (by decide) rfl ?_
  intro p e s m args below meth c s₁ B hml hxt hv
  obtain ⟨rfl, hC, hW⟩ := hv
  have hx := B.exec
  have hb := B.bytes
  have hr := B.returns
  have hts := atoms_spec (ws := wsX2_enter) B.pre
  have hown : s.vm.findClass RX2 = some m.cls := findClass_of_methodNamed B.named
  have hlocks := B.notSynchronized
  have hinX2 : ∀ w ∈ wsX20, w ∈ wsX2_enter := by decide +kernel
  have hxw54 : ∀ w ∈ (vx_atS RX2 54 "java/lang/IllegalArgumentException" ["java/lang/RuntimeException", "java/lang/Exception"]).filter goodWord, w ∈ wsX2_enter := by decide +kernel
  have hS : va_S (Az g) s.heap s.heap [] := va_S.rf
  have hl := lv_entry ([.ref (gA g 0), .int d]) (n := 2) (Nat.le_of_ble_eq_true rfl)
  rw [lg_entry_eq]
  generalize (lg_sl ([.ref (gA g 0), .int d]) ++ List.replicate (2 - (lg_sl ([.ref (gA g 0), .int d])).length) Slot.unset).toArray = ls at hl ⊢
  have hl : lv_has ls 2 [(0, .ref (gA g 0)), (1, .int d)] := hl
  refine lv_iload_n hx hb dX2_enter_0 rfl (lv_at hl 1 rfl) ?_
  refine lv_iconst (v := 0) hx hb dX2_enter_1 (by decide) ?_
  refine lv_bipush (v := 9) hx hb dX2_enter_2 (by decide) ?_
  refine vp_callSi (va_Run.run (va_runS (As := [.int d, .int 0, .int 9]) (rest := []) ⟨hx, hb, hml, hown, hts⟩ (mtX2_isWithin l d 0 9) (va_cwS 3 hts gX2_enter_X2_isWithin rfl rfl rfl (by decide +kernel) ⟨Nat.le_of_ble_eq_true rfl, Nat.le_of_ble_eq_true rfl⟩) ⟨P0.blind, fun U hU hW9 => ⟨rfl, trivial⟩⟩ rfl rfl hl.1 rfl (lv_room (Nat.le_of_ble_eq_true rfl)) dX2_enter_4 ⟨Nat.le_of_ble_eq_true rfl, Nat.le_of_ble_eq_true rfl⟩)) (fun r_2 h_1 => ?_)
  obtain rfl : r_2 = bI (wi d 0 9) := h_1
  refine lv_if_ne (tgt := 20) hx hb dX2_enter_7 (by decide) (fun c_3 => ?_) (fun c_3 => ?_)
  · skip
    replace c_3 := bI_n0.mp c_3
    refine lv_aload_n hx hb dX2_enter_20 rfl (lv_at hl 0 rfl) ?_
    refine gB (v := .ref (gA g 2)) hx hb hts hinX2 hown hC hW 1 (by decide) (by decide +kernel) rfl rfl dX2_enter_21 ?_
    refine lv_iload_n hx hb dX2_enter_24 rfl (lv_at hl 1 rfl) ?_
    refine vx_calli (vx_runVN (As := [.int d]) (rest := []) ⟨hx, hb, hml, hown, hts⟩ (mtX0_takeDigit l hfl g σ μ o d en cl h1 h2 h3 h4) ⟨(va_cnB (host := "BootChooser") 1 hts gX2_enter_X0_takeDigit_n141 rfl rfl rfl (va_Nw.of (A := #[]) rfl (hC.2.1.nest (w := .methodLinkNest RX2 141 yX0_takeDigit "BootChooser") (by decide +kernel) rfl)) (hts (.initialized RX0) (by decide +kernel)) (by decide +kernel) ⟨Nat.le_of_ble_eq_true rfl, Nat.le_of_ble_eq_true rfl⟩), (hts (.instanceMethod yX0_takeDigit) (by decide +kernel)), (hts (.selects RX0 yX0_takeDigit yX0_takeDigit) (by decide +kernel))⟩ ⟨PW.blind, rcL hC hW, fun U hU hW9 => ⟨rfl, PW.at hC hS hW U hU hW9⟩⟩ rfl rfl hl.1 rfl (lv_room (Nat.le_of_ble_eq_true rfl)) dX2_enter_25 ⟨Nat.le_of_ble_eq_true rfl, Nat.le_of_ble_eq_true rfl⟩) hS (fun _ _ h => h) (fun _ h => h) (fun _ _ h => h) (fun E9 ce q9 u_6 t H locs ht hvm hpx hbx hz9 hk9 hS hce hcv hcl => ?_) (fun r_5 u_6 t H locs ht hvm h_4 hW hz9 hk9 hS => ?_)
    · skip
      obtain ⟨hbq, hbw⟩ := hbx
      try dsimp only at hbq
      replace hbw : Wd g σ μ o H := by rw [← ht]; exact hbw
      refine vx_out (fun x h => (hxt x h).elim) hlocks hce hcv hcl (fun t9 ht9 hv9 => ⟨(), trivial, ⟨Or.inr ⟨hbq.1, by have hq9 := hbq.2; rcases hq9 with hq9 | hq9 <;> simp [kEn, hq9, c_3]⟩, by first | (rw [ht9]; exact hbw) | (dsimp only; rw [ht9]; exact hbw)⟩, hS.F ht9⟩) hS.2.2 (Nat.le_of_ble_eq_true rfl) (Nat.le_of_ble_eq_true rfl)
    · skip
      replace hW : Wd g ((σ.1, σ.2.1, upd (upd σ.2.2.1 3 (σ.2.2.1 3 + 1)) 0 (bI (!ec (upd σ.2.2.2 en d) (en + 1) cl (σ.2.2.1 1))), upd σ.2.2.2 en d)) μ o H := by rw [← ht]; exact hW
      try dsimp only at h_4
      obtain ⟨p_8, p_9, rfl⟩ := h_4
      refine vx_ret (W.widen (k := 2) (n := 12) (Nat.le_of_ble_eq_true rfl) (Nat.le_of_ble_eq_true rfl) ?_)
      exact W.zret (v := (bI (ec (upd σ.2.2.2 en d) (en + 1) cl (σ.2.2.1 1)))) (ty := .boolean) hx hb hr (bI_nar _) (fun t ht hW9 => ⟨⟨_, (), rfl, ⟨by simp [kEn, c_3, p_8, p_9], rfl⟩, by first | (rw [ht]; exact hW) | (dsimp only; rw [ht]; exact hW)⟩, hS.F ht⟩) hS.2.2 dX2_enter_28
  · skip
    replace c_3 := bI_0.mp c_3
    obtain ⟨sa_10, hsa_10⟩ := hC.2.1.2.1 (RX2, 139, "digit is out of range") (by decide +kernel)
    refine vx_throwS (own := RX2) (cls := xIA) (text := "digit is out of range") (names := ["java/lang/RuntimeException", "java/lang/Exception"]) (ik := 50) (is := 139) (ic := 54) (sa := sa_10) (A := Az g) hx hb hfl hown (by decide +kernel) (by decide +kernel) (hts (.classLink RX2 50 "java/lang/IllegalArgumentException") (by decide +kernel)) (hts (.initialized "java/lang/IllegalArgumentException") (by decide +kernel)) hsa_10 (vx_hat (B := xwB xIA) (fun w h => hts w (hxw54 w h)) (by decide +kernel) (cast_w hC.2.1 (by decide +kernel))) (by decide +kernel) hC.2.2.1.1 hC.2.2.1.2 hS (hl.1.trans hml.symm) dX2_enter_10 dX2_enter_13 dX2_enter_14 dX2_enter_16 dX2_enter_19 (fun x h => (hxt x h).elim) (Nat.le_of_ble_eq_true rfl) (Nat.le_of_ble_eq_true rfl) (Nat.le_of_ble_eq_true rfl) (Nat.le_of_ble_eq_true rfl) hlocks (fun t9 hv9 hz9 hq9 => ⟨(), trivial, ⟨Or.inl ⟨rfl, by simp [kEn, c_3]⟩, Wd_up hW hz9 hq9⟩, va_F_up hS hz9 hq9⟩) hS.2.2 (Nat.le_of_ble_eq_true rfl) (Nat.le_of_ble_eq_true rfl)
end
section
set_option maxHeartbeats 4000000 in
set_option maxRecDepth 100000 in
theorem mtL_act_0 (l : Launch) (g : Ge) (σ : Sg) (μ : Mg) (o : Nat → Int64) (hfl : l.stackTraces = false) (a b : Int32) (kk rr : Int32) (hk : kRem σ a = kk) (hrr : (kk = 1 ∧ rr = (-71))) : Met l yL_act wsL_act ({ frames := 8, cells := 1, slots := 6, locals := 133 } : Room) (va_Pc [.ref (gA g 0), .int 0, .int a, .int b] (PW g σ μ o)) (va_Qi (S := Unit) (fun r _ => r = rr) (fun _ t => Wd g σ μ o t.heap) (Az g)) 1 6 (Az g) := by
  refine va_MetW (cc := cL_act) (maxL := 5) (ret := (some .int)) (by decide) rfl ?_
  intro p e s m args below meth c s₁ B hml hv
  obtain ⟨rfl, hC, hW⟩ := hv
  have hx := B.exec
  have hb := B.bytes
  have hr := B.returns
  have hts := atoms_spec (ws := wsL_act) B.pre
  have hown : s.vm.findClass RL = some m.cls := findClass_of_methodNamed B.named
  have hlocks := B.notSynchronized
  have hS : va_S (Az g) s.heap s.heap [] := va_S.rf
  have hl := lv_entry ([.ref (gA g 0), .int 0, .int a, .int b]) (n := 5) (Nat.le_of_ble_eq_true rfl)
  rw [lg_entry_eq]
  generalize (lg_sl ([.ref (gA g 0), .int 0, .int a, .int b]) ++ List.replicate (5 - (lg_sl ([.ref (gA g 0), .int 0, .int a, .int b])).length) Slot.unset).toArray = ls at hl ⊢
  have hl : lv_has ls 5 [(0, .ref (gA g 0)), (1, .int 0), (2, .int a), (3, .int b)] := hl
  have htab := vx_table (x := yL_act) B (hts (.codeWith yL_act cL_act 5 (some .int) [(0, 175, 176, 60), (0, 175, 181, 13), (0, 175, 186, 15)] ) (by exact List.mem_cons_self))
  refine lv_iload_n hx hb dL_act_0 rfl (lv_at hl 1 rfl) ?_
  refine lv_if_ne (tgt := 12) hx hb dL_act_1 (by decide) (fun c_1 => absurd c_1 (by decide)) (fun c_1 => ?_)
  refine lv_aload_n hx hb dL_act_4 rfl (lv_at hl 0 rfl) ?_
  refine lv_iload_n hx hb dL_act_5 rfl (lv_at hl 2 rfl) ?_
  refine vx_calli (vx_runV (As := [.int a]) (rest := []) ⟨hx, hb, hml, hown, hts⟩ (mtX2_remove l hfl g σ μ o a) (cwV 1 hts gL_act_X2_remove rfl rfl rfl (by decide +kernel) ⟨Nat.le_of_ble_eq_true rfl, Nat.le_of_ble_eq_true rfl⟩) ⟨PW.blind, rcB hC hW, fun U hU hW9 => ⟨rfl, PW.at hC hS hW U hU hW9⟩⟩ rfl rfl hl.1 rfl (lv_room (Nat.le_of_ble_eq_true rfl)) dL_act_6 ⟨Nat.le_of_ble_eq_true rfl, Nat.le_of_ble_eq_true rfl⟩) hS (fun _ _ h => h) (fun _ h => h) (fun _ _ h => h) (fun E9 ce q9 u_4 t H locs ht hvm hpx hbx hz9 hk9 hS hce hcv hcl => ?_) (fun r_3 u_4 t H locs ht hvm h_2 hW hz9 hk9 hS => ?_)
  · skip
    obtain ⟨hbq, hbw⟩ := hbx
    try dsimp only at hbq
    replace hbw : Wd g σ μ o H := by rw [← ht]; exact hbw
    obtain ⟨rfl, hk9⟩ := hbq
    have e9 := hk.symm.trans hk9
    have hr9 : rr = (-71) := hrr.2
    refine vx_catch (own := RL) (name := "java/lang/IndexOutOfBoundsException") hown (tableOf []) ⟨0, 175, 176, 60⟩ (tableOf [(0, 175, 181, 13), (0, 175, 186, 15)]) (htab.trans rfl) (fun z hz => absurd hz List.not_mem_nil) (by decide) (by decide) (hts (.classLink RL 60 "java/lang/IndexOutOfBoundsException") (by decide +kernel)) (cast_w (E := xIO) hC.2.1 (by decide +kernel) (.castable xIO xIO) (by decide +kernel)) hce hcv hcl ?_
    have hW := hbw
    refine lv_astore (lv' := [(4, .ref q9), (0, .ref (gA g 0)), (1, .int 0), (2, .int a), (3, .int b)]) hx hb dL_act_176 hl (by decide) rfl (fun ls hl => ?_)
    refine lv_bipush (v := (-71)) hx hb dL_act_178 (by decide) ?_
    refine W.widen (k := 1) (n := 6) (Nat.le_of_ble_eq_true rfl) (Nat.le_of_ble_eq_true rfl) ?_
    exact W.iret (v := (-71)) hx hb hr (fun t ht hW9 => ⟨⟨_, (), rfl, hr9.symm, by first | (rw [ht]; exact hW) | (dsimp only; rw [ht]; exact hW)⟩, hS.F ht⟩) hS.2.2 dL_act_180
  · skip
    replace hW : Wd g ((σ.1, up2 σ.2.1 u_4 (upd (σ.2.1 u_4) 0 0), σ.2.2)) μ o H := by rw [← ht]; exact hW
    try dsimp only at h_2
    exact absurd (hk.symm.trans h_2.1) (by rw [hrr.1]; decide)
set_option maxHeartbeats 4000000 in
set_option maxRecDepth 100000 in
theorem mtL_act_1 (l : Launch) (g : Ge) (σ : Sg) (μ : Mg) (o : Nat → Int64) (hfl : l.stackTraces = false) (a b : Int32) (kk rr : Int32) (hk : kEd σ a b = kk) (hrr : (kk = 1 ∧ rr = (-71)) ∨ (kk = 2 ∧ rr = (-72)) ∨ (kk = 3 ∧ rr = (-73))) : Met l yL_act wsL_act ({ frames := 8, cells := 3, slots := 18, locals := 136 } : Room) (va_Pc [.ref (gA g 0), .int 1, .int a, .int b] (PW g σ μ o)) (va_Qi (S := Unit) (fun r _ => r = rr) (fun _ t => Wd g σ μ o t.heap) (Az g)) 3 18 (Az g) := by
  refine va_MetW (cc := cL_act) (maxL := 5) (ret := (some .int)) (by decide) rfl ?_
  intro p e s m args below meth c s₁ B hml hv
  obtain ⟨rfl, hC, hW⟩ := hv
  have hx := B.exec
  have hb := B.bytes
  have hr := B.returns
  have hts := atoms_spec (ws := wsL_act) B.pre
  have hown : s.vm.findClass RL = some m.cls := findClass_of_methodNamed B.named
  have hlocks := B.notSynchronized
  have hS : va_S (Az g) s.heap s.heap [] := va_S.rf
  have hl := lv_entry ([.ref (gA g 0), .int 1, .int a, .int b]) (n := 5) (Nat.le_of_ble_eq_true rfl)
  rw [lg_entry_eq]
  generalize (lg_sl ([.ref (gA g 0), .int 1, .int a, .int b]) ++ List.replicate (5 - (lg_sl ([.ref (gA g 0), .int 1, .int a, .int b])).length) Slot.unset).toArray = ls at hl ⊢
  have hl : lv_has ls 5 [(0, .ref (gA g 0)), (1, .int 1), (2, .int a), (3, .int b)] := hl
  have htab := vx_table (x := yL_act) B (hts (.codeWith yL_act cL_act 5 (some .int) [(0, 175, 176, 60), (0, 175, 181, 13), (0, 175, 186, 15)] ) (by exact List.mem_cons_self))
  refine lv_iload_n hx hb dL_act_0 rfl (lv_at hl 1 rfl) ?_
  refine lv_if_ne (tgt := 12) hx hb dL_act_1 (by decide) (fun c_1 => ?_) (fun c_1 => absurd c_1 (by decide))
  refine lv_iload_n hx hb dL_act_12 rfl (lv_at hl 1 rfl) ?_
  refine lv_iconst (v := 1) hx hb dL_act_13 (by decide) ?_
  refine lv_icmp_ne (tgt := 26) hx hb dL_act_14 (by decide) (fun c_2 => absurd c_2 (by decide)) (fun c_2 => ?_)
  refine lv_aload_n hx hb dL_act_17 rfl (lv_at hl 0 rfl) ?_
  refine lv_iload_n hx hb dL_act_18 rfl (lv_at hl 2 rfl) ?_
  refine lv_iload_n hx hb dL_act_19 rfl (lv_at hl 3 rfl) ?_
  refine vx_calli (vx_runV (As := [.int a, .int b]) (rest := []) ⟨hx, hb, hml, hown, hts⟩ (mtX2_edit l hfl g σ μ o a b) (cwV 2 hts gL_act_X2_edit rfl rfl rfl (by decide +kernel) ⟨Nat.le_of_ble_eq_true rfl, Nat.le_of_ble_eq_true rfl⟩) ⟨PW.blind, rcB hC hW, fun U hU hW9 => ⟨rfl, PW.at hC hS hW U hU hW9⟩⟩ rfl rfl hl.1 rfl (lv_room (Nat.le_of_ble_eq_true rfl)) dL_act_20 ⟨Nat.le_of_ble_eq_true rfl, Nat.le_of_ble_eq_true rfl⟩) hS (fun _ _ h => h) (fun _ h => h) (fun _ _ h => h) (fun E9 ce q9 u_5 t H locs ht hvm hpx hbx hz9 hk9 hS hce hcv hcl => ?_) (fun r_4 u_5 t H locs ht hvm h_3 hW hz9 hk9 hS => ?_)
  · skip
    obtain ⟨hbq, hbw⟩ := hbx
    try dsimp only at hbq
    replace hbw : Wd g σ μ o H := by rw [← ht]; exact hbw
    rcases hbq with hbq | hbq | hbq
    · skip
      obtain ⟨rfl, hk9⟩ := hbq
      have e9 := hk.symm.trans hk9
      have hr9 : rr = (-71) := by rcases hrr with ⟨h1, h2⟩ | ⟨h1, h2⟩ | ⟨h1, h2⟩ <;> first | exact h2 | exact absurd (h1.symm.trans e9) (by decide)
      refine vx_catch (own := RL) (name := "java/lang/IndexOutOfBoundsException") hown (tableOf []) ⟨0, 175, 176, 60⟩ (tableOf [(0, 175, 181, 13), (0, 175, 186, 15)]) (htab.trans rfl) (fun z hz => absurd hz List.not_mem_nil) (by decide) (by decide) (hts (.classLink RL 60 "java/lang/IndexOutOfBoundsException") (by decide +kernel)) (cast_w (E := xIO) hC.2.1 (by decide +kernel) (.castable xIO xIO) (by decide +kernel)) hce hcv hcl ?_
      have hW := hbw
      refine lv_astore (lv' := [(4, .ref q9), (0, .ref (gA g 0)), (1, .int 1), (2, .int a), (3, .int b)]) hx hb dL_act_176 hl (by decide) rfl (fun ls hl => ?_)
      refine lv_bipush (v := (-71)) hx hb dL_act_178 (by decide) ?_
      refine W.widen (k := 3) (n := 18) (Nat.le_of_ble_eq_true rfl) (Nat.le_of_ble_eq_true rfl) ?_
      exact W.iret (v := (-71)) hx hb hr (fun t ht hW9 => ⟨⟨_, (), rfl, hr9.symm, by first | (rw [ht]; exact hW) | (dsimp only; rw [ht]; exact hW)⟩, hS.F ht⟩) hS.2.2 dL_act_180
    · skip
      obtain ⟨rfl, hk9⟩ := hbq
      have e9 := hk.symm.trans hk9
      have hr9 : rr = (-72) := by rcases hrr with ⟨h1, h2⟩ | ⟨h1, h2⟩ | ⟨h1, h2⟩ <;> first | exact h2 | exact absurd (h1.symm.trans e9) (by decide)
      refine vx_catch (own := RL) (name := "java/lang/IllegalArgumentException") hown (tableOf [(0, 175, 176, 60)]) ⟨0, 175, 181, 13⟩ (tableOf [(0, 175, 186, 15)]) (htab.trans rfl) (List.forall_mem_cons.mpr ⟨Or.inr ⟨by decide, "java/lang/IndexOutOfBoundsException", hts (.classLink RL 60 "java/lang/IndexOutOfBoundsException") (by decide +kernel), hC.2.1.2.2.2 (xIA, xIO) (by decide +kernel)⟩, (fun z hz => absurd hz List.not_mem_nil)⟩) (by decide) (by decide) (hts (.classLink RL 13 "java/lang/IllegalArgumentException") (by decide +kernel)) (cast_w (E := xIA) hC.2.1 (by decide +kernel) (.castable xIA xIA) (by decide +kernel)) hce hcv hcl ?_
      have hW := hbw
      refine lv_astore (lv' := [(4, .ref q9), (0, .ref (gA g 0)), (1, .int 1), (2, .int a), (3, .int b)]) hx hb dL_act_181 hl (by decide) rfl (fun ls hl => ?_)
      refine lv_bipush (v := (-72)) hx hb dL_act_183 (by decide) ?_
      refine W.widen (k := 3) (n := 18) (Nat.le_of_ble_eq_true rfl) (Nat.le_of_ble_eq_true rfl) ?_
      exact W.iret (v := (-72)) hx hb hr (fun t ht hW9 => ⟨⟨_, (), rfl, hr9.symm, by first | (rw [ht]; exact hW) | (dsimp only; rw [ht]; exact hW)⟩, hS.F ht⟩) hS.2.2 dL_act_185
    · skip
      obtain ⟨rfl, hk9⟩ := hbq
      have e9 := hk.symm.trans hk9
      have hr9 : rr = (-73) := by rcases hrr with ⟨h1, h2⟩ | ⟨h1, h2⟩ | ⟨h1, h2⟩ <;> first | exact h2 | exact absurd (h1.symm.trans e9) (by decide)
      refine vx_catch (own := RL) (name := "java/lang/IllegalStateException") hown (tableOf [(0, 175, 176, 60), (0, 175, 181, 13)]) ⟨0, 175, 186, 15⟩ (tableOf []) (htab.trans rfl) (List.forall_mem_cons.mpr ⟨Or.inr ⟨by decide, "java/lang/IndexOutOfBoundsException", hts (.classLink RL 60 "java/lang/IndexOutOfBoundsException") (by decide +kernel), hC.2.1.2.2.2 (xIS, xIO) (by decide +kernel)⟩, (List.forall_mem_cons.mpr ⟨Or.inr ⟨by decide, "java/lang/IllegalArgumentException", hts (.classLink RL 13 "java/lang/IllegalArgumentException") (by decide +kernel), hC.2.1.2.2.2 (xIS, xIA) (by decide +kernel)⟩, (fun z hz => absurd hz List.not_mem_nil)⟩)⟩) (by decide) (by decide) (hts (.classLink RL 15 "java/lang/IllegalStateException") (by decide +kernel)) (cast_w (E := xIS) hC.2.1 (by decide +kernel) (.castable xIS xIS) (by decide +kernel)) hce hcv hcl ?_
      have hW := hbw
      refine lv_astore (lv' := [(4, .ref q9), (0, .ref (gA g 0)), (1, .int 1), (2, .int a), (3, .int b)]) hx hb dL_act_186 hl (by decide) rfl (fun ls hl => ?_)
      refine lv_bipush (v := (-73)) hx hb dL_act_188 (by decide) ?_
      refine W.widen (k := 3) (n := 18) (Nat.le_of_ble_eq_true rfl) (Nat.le_of_ble_eq_true rfl) ?_
      exact W.iret (v := (-73)) hx hb hr (fun t ht hW9 => ⟨⟨_, (), rfl, hr9.symm, by first | (rw [ht]; exact hW) | (dsimp only; rw [ht]; exact hW)⟩, hS.F ht⟩) hS.2.2 dL_act_190
  · skip
    replace hW : Wd g ((σ.1, up2 σ.2.1 u_5 (upd (σ.2.1 u_5) 6 b), σ.2.2)) μ o H := by rw [← ht]; exact hW
    try dsimp only at h_3
    exact absurd (hk.symm.trans h_3.1) (by rcases hrr with ⟨h1, h2⟩ | ⟨h1, h2⟩ | ⟨h1, h2⟩ <;> rw [h1] <;> decide)
set_option maxHeartbeats 4000000 in
set_option maxRecDepth 100000 in
theorem mtL_act_2 (l : Launch) (g : Ge) (σ : Sg) (μ : Mg) (o : Nat → Int64) (hfl : l.stackTraces = false) (a b : Int32) (kk rr : Int32) (hk : kCh σ a = kk) (hrr : (kk = 1 ∧ rr = (-71)) ∨ (kk = 2 ∧ rr = (-73))) : Met l yL_act wsL_act ({ frames := 8, cells := 2, slots := 12, locals := 133 } : Room) (va_Pc [.ref (gA g 0), .int 2, .int a, .int b] (PW g σ μ o)) (va_Qi (S := Unit) (fun r _ => r = rr) (fun _ t => Wd g σ μ o t.heap) (Az g)) 2 12 (Az g) := by
  refine va_MetW (cc := cL_act) (maxL := 5) (ret := (some .int)) (by decide) rfl ?_
  intro p e s m args below meth c s₁ B hml hv
  obtain ⟨rfl, hC, hW⟩ := hv
  have hx := B.exec
  have hb := B.bytes
  have hr := B.returns
  have hts := atoms_spec (ws := wsL_act) B.pre
  have hown : s.vm.findClass RL = some m.cls := findClass_of_methodNamed B.named
  have hlocks := B.notSynchronized
  have hS : va_S (Az g) s.heap s.heap [] := va_S.rf
  have hl := lv_entry ([.ref (gA g 0), .int 2, .int a, .int b]) (n := 5) (Nat.le_of_ble_eq_true rfl)
  rw [lg_entry_eq]
  generalize (lg_sl ([.ref (gA g 0), .int 2, .int a, .int b]) ++ List.replicate (5 - (lg_sl ([.ref (gA g 0), .int 2, .int a, .int b])).length) Slot.unset).toArray = ls at hl ⊢
  have hl : lv_has ls 5 [(0, .ref (gA g 0)), (1, .int 2), (2, .int a), (3, .int b)] := hl
  have htab := vx_table (x := yL_act) B (hts (.codeWith yL_act cL_act 5 (some .int) [(0, 175, 176, 60), (0, 175, 181, 13), (0, 175, 186, 15)] ) (by exact List.mem_cons_self))
  refine lv_iload_n hx hb dL_act_0 rfl (lv_at hl 1 rfl) ?_
  refine lv_if_ne (tgt := 12) hx hb dL_act_1 (by decide) (fun c_1 => ?_) (fun c_1 => absurd c_1 (by decide))
  refine lv_iload_n hx hb dL_act_12 rfl (lv_at hl 1 rfl) ?_
  refine lv_iconst (v := 1) hx hb dL_act_13 (by decide) ?_
  refine lv_icmp_ne (tgt := 26) hx hb dL_act_14 (by decide) (fun c_2 => ?_) (fun c_2 => absurd c_2 (by decide))
  refine lv_iload_n hx hb dL_act_26 rfl (lv_at hl 1 rfl) ?_
  refine lv_iconst (v := 2) hx hb dL_act_27 (by decide) ?_
  refine lv_icmp_ne (tgt := 39) hx hb dL_act_28 (by decide) (fun c_3 => absurd c_3 (by decide)) (fun c_3 => ?_)
  refine lv_aload_n hx hb dL_act_31 rfl (lv_at hl 0 rfl) ?_
  refine lv_iload_n hx hb dL_act_32 rfl (lv_at hl 2 rfl) ?_
  refine vx_calli (vx_runV (As := [.int a]) (rest := []) ⟨hx, hb, hml, hown, hts⟩ (mtX2_choose l hfl g σ μ o a) (cwV 1 hts gL_act_X2_choose rfl rfl rfl (by decide +kernel) ⟨Nat.le_of_ble_eq_true rfl, Nat.le_of_ble_eq_true rfl⟩) ⟨PW.blind, rcB hC hW, fun U hU hW9 => ⟨rfl, PW.at hC hS hW U hU hW9⟩⟩ rfl rfl hl.1 rfl (lv_room (Nat.le_of_ble_eq_true rfl)) dL_act_33 ⟨Nat.le_of_ble_eq_true rfl, Nat.le_of_ble_eq_true rfl⟩) hS (fun _ _ h => h) (fun _ h => h) (fun _ _ h => h) (fun E9 ce q9 u_6 t H locs ht hvm hpx hbx hz9 hk9 hS hce hcv hcl => ?_) (fun r_5 u_6 t H locs ht hvm h_4 hW hz9 hk9 hS => ?_)
  · skip
    obtain ⟨hbq, hbw⟩ := hbx
    try dsimp only at hbq
    replace hbw : Wd g σ μ o H := by rw [← ht]; exact hbw
    rcases hbq with hbq | hbq
    · skip
      obtain ⟨rfl, hk9⟩ := hbq
      have e9 := hk.symm.trans hk9
      have hr9 : rr = (-71) := by rcases hrr with ⟨h1, h2⟩ | ⟨h1, h2⟩ <;> first | exact h2 | exact absurd (h1.symm.trans e9) (by decide)
      refine vx_catch (own := RL) (name := "java/lang/IndexOutOfBoundsException") hown (tableOf []) ⟨0, 175, 176, 60⟩ (tableOf [(0, 175, 181, 13), (0, 175, 186, 15)]) (htab.trans rfl) (fun z hz => absurd hz List.not_mem_nil) (by decide) (by decide) (hts (.classLink RL 60 "java/lang/IndexOutOfBoundsException") (by decide +kernel)) (cast_w (E := xIO) hC.2.1 (by decide +kernel) (.castable xIO xIO) (by decide +kernel)) hce hcv hcl ?_
      have hW := hbw
      refine lv_astore (lv' := [(4, .ref q9), (0, .ref (gA g 0)), (1, .int 2), (2, .int a), (3, .int b)]) hx hb dL_act_176 hl (by decide) rfl (fun ls hl => ?_)
      refine lv_bipush (v := (-71)) hx hb dL_act_178 (by decide) ?_
      refine W.widen (k := 2) (n := 12) (Nat.le_of_ble_eq_true rfl) (Nat.le_of_ble_eq_true rfl) ?_
      exact W.iret (v := (-71)) hx hb hr (fun t ht hW9 => ⟨⟨_, (), rfl, hr9.symm, by first | (rw [ht]; exact hW) | (dsimp only; rw [ht]; exact hW)⟩, hS.F ht⟩) hS.2.2 dL_act_180
    · skip
      obtain ⟨rfl, hk9⟩ := hbq
      have e9 := hk.symm.trans hk9
      have hr9 : rr = (-73) := by rcases hrr with ⟨h1, h2⟩ | ⟨h1, h2⟩ <;> first | exact h2 | exact absurd (h1.symm.trans e9) (by decide)
      refine vx_catch (own := RL) (name := "java/lang/IllegalStateException") hown (tableOf [(0, 175, 176, 60), (0, 175, 181, 13)]) ⟨0, 175, 186, 15⟩ (tableOf []) (htab.trans rfl) (List.forall_mem_cons.mpr ⟨Or.inr ⟨by decide, "java/lang/IndexOutOfBoundsException", hts (.classLink RL 60 "java/lang/IndexOutOfBoundsException") (by decide +kernel), hC.2.1.2.2.2 (xIS, xIO) (by decide +kernel)⟩, (List.forall_mem_cons.mpr ⟨Or.inr ⟨by decide, "java/lang/IllegalArgumentException", hts (.classLink RL 13 "java/lang/IllegalArgumentException") (by decide +kernel), hC.2.1.2.2.2 (xIS, xIA) (by decide +kernel)⟩, (fun z hz => absurd hz List.not_mem_nil)⟩)⟩) (by decide) (by decide) (hts (.classLink RL 15 "java/lang/IllegalStateException") (by decide +kernel)) (cast_w (E := xIS) hC.2.1 (by decide +kernel) (.castable xIS xIS) (by decide +kernel)) hce hcv hcl ?_
      have hW := hbw
      refine lv_astore (lv' := [(4, .ref q9), (0, .ref (gA g 0)), (1, .int 2), (2, .int a), (3, .int b)]) hx hb dL_act_186 hl (by decide) rfl (fun ls hl => ?_)
      refine lv_bipush (v := (-73)) hx hb dL_act_188 (by decide) ?_
      refine W.widen (k := 2) (n := 12) (Nat.le_of_ble_eq_true rfl) (Nat.le_of_ble_eq_true rfl) ?_
      exact W.iret (v := (-73)) hx hb hr (fun t ht hW9 => ⟨⟨_, (), rfl, hr9.symm, by first | (rw [ht]; exact hW) | (dsimp only; rw [ht]; exact hW)⟩, hS.F ht⟩) hS.2.2 dL_act_190
  · skip
    replace hW : Wd g ((upd σ.1 1 a, σ.2)) μ o H := by rw [← ht]; exact hW
    try dsimp only at h_4
    exact absurd (hk.symm.trans h_4.1) (by rcases hrr with ⟨h1, h2⟩ | ⟨h1, h2⟩ <;> rw [h1] <;> decide)
set_option maxHeartbeats 4000000 in
set_option maxRecDepth 100000 in
theorem mtL_act_3 (l : Launch) (g : Ge) (σ : Sg) (μ : Mg) (o : Nat → Int64) (hfl : l.stackTraces = false) (a b : Int32) (kk rr : Int32) (hk : kCo σ a = kk) (hrr : (kk = 1 ∧ rr = (-71))) : Met l yL_act wsL_act ({ frames := 8, cells := 1, slots := 6, locals := 133 } : Room) (va_Pc [.ref (gA g 0), .int 3, .int a, .int b] (PW g σ μ o)) (va_Qi (S := Unit) (fun r _ => r = rr) (fun _ t => Wd g σ μ o t.heap) (Az g)) 1 6 (Az g) := by
  refine va_MetW (cc := cL_act) (maxL := 5) (ret := (some .int)) (by decide) rfl ?_
  intro p e s m args below meth c s₁ B hml hv
  obtain ⟨rfl, hC, hW⟩ := hv
  have hx := B.exec
  have hb := B.bytes
  have hr := B.returns
  have hts := atoms_spec (ws := wsL_act) B.pre
  have hown : s.vm.findClass RL = some m.cls := findClass_of_methodNamed B.named
  have hlocks := B.notSynchronized
  have hS : va_S (Az g) s.heap s.heap [] := va_S.rf
  have hl := lv_entry ([.ref (gA g 0), .int 3, .int a, .int b]) (n := 5) (Nat.le_of_ble_eq_true rfl)
  rw [lg_entry_eq]
  generalize (lg_sl ([.ref (gA g 0), .int 3, .int a, .int b]) ++ List.replicate (5 - (lg_sl ([.ref (gA g 0), .int 3, .int a, .int b])).length) Slot.unset).toArray = ls at hl ⊢
  have hl : lv_has ls 5 [(0, .ref (gA g 0)), (1, .int 3), (2, .int a), (3, .int b)] := hl
  have htab := vx_table (x := yL_act) B (hts (.codeWith yL_act cL_act 5 (some .int) [(0, 175, 176, 60), (0, 175, 181, 13), (0, 175, 186, 15)] ) (by exact List.mem_cons_self))
  refine lv_iload_n hx hb dL_act_0 rfl (lv_at hl 1 rfl) ?_
  refine lv_if_ne (tgt := 12) hx hb dL_act_1 (by decide) (fun c_1 => ?_) (fun c_1 => absurd c_1 (by decide))
  refine lv_iload_n hx hb dL_act_12 rfl (lv_at hl 1 rfl) ?_
  refine lv_iconst (v := 1) hx hb dL_act_13 (by decide) ?_
  refine lv_icmp_ne (tgt := 26) hx hb dL_act_14 (by decide) (fun c_2 => ?_) (fun c_2 => absurd c_2 (by decide))
  refine lv_iload_n hx hb dL_act_26 rfl (lv_at hl 1 rfl) ?_
  refine lv_iconst (v := 2) hx hb dL_act_27 (by decide) ?_
  refine lv_icmp_ne (tgt := 39) hx hb dL_act_28 (by decide) (fun c_3 => ?_) (fun c_3 => absurd c_3 (by decide))
  refine lv_iload_n hx hb dL_act_39 rfl (lv_at hl 1 rfl) ?_
  refine lv_iconst (v := 3) hx hb dL_act_40 (by decide) ?_
  refine lv_icmp_ne (tgt := 52) hx hb dL_act_41 (by decide) (fun c_4 => absurd c_4 (by decide)) (fun c_4 => ?_)
  refine lv_aload_n hx hb dL_act_44 rfl (lv_at hl 0 rfl) ?_
  refine lv_iload_n hx hb dL_act_45 rfl (lv_at hl 2 rfl) ?_
  refine vx_calli (vx_runV (As := [.int a]) (rest := []) ⟨hx, hb, hml, hown, hts⟩ (mtX2_chooseOnce l hfl g σ μ o a) (cwV 1 hts gL_act_X2_chooseOnce rfl rfl rfl (by decide +kernel) ⟨Nat.le_of_ble_eq_true rfl, Nat.le_of_ble_eq_true rfl⟩) ⟨PW.blind, rcB hC hW, fun U hU hW9 => ⟨rfl, PW.at hC hS hW U hU hW9⟩⟩ rfl rfl hl.1 rfl (lv_room (Nat.le_of_ble_eq_true rfl)) dL_act_46 ⟨Nat.le_of_ble_eq_true rfl, Nat.le_of_ble_eq_true rfl⟩) hS (fun _ _ h => h) (fun _ h => h) (fun _ _ h => h) (fun E9 ce q9 u_7 t H locs ht hvm hpx hbx hz9 hk9 hS hce hcv hcl => ?_) (fun r_6 u_7 t H locs ht hvm h_5 hW hz9 hk9 hS => ?_)
  · skip
    obtain ⟨hbq, hbw⟩ := hbx
    try dsimp only at hbq
    replace hbw : Wd g σ μ o H := by rw [← ht]; exact hbw
    obtain ⟨rfl, hk9⟩ := hbq
    have e9 := hk.symm.trans hk9
    have hr9 : rr = (-71) := hrr.2
    refine vx_catch (own := RL) (name := "java/lang/IndexOutOfBoundsException") hown (tableOf []) ⟨0, 175, 176, 60⟩ (tableOf [(0, 175, 181, 13), (0, 175, 186, 15)]) (htab.trans rfl) (fun z hz => absurd hz List.not_mem_nil) (by decide) (by decide) (hts (.classLink RL 60 "java/lang/IndexOutOfBoundsException") (by decide +kernel)) (cast_w (E := xIO) hC.2.1 (by decide +kernel) (.castable xIO xIO) (by decide +kernel)) hce hcv hcl ?_
    have hW := hbw
    refine lv_astore (lv' := [(4, .ref q9), (0, .ref (gA g 0)), (1, .int 3), (2, .int a), (3, .int b)]) hx hb dL_act_176 hl (by decide) rfl (fun ls hl => ?_)
    refine lv_bipush (v := (-71)) hx hb dL_act_178 (by decide) ?_
    refine W.widen (k := 1) (n := 6) (Nat.le_of_ble_eq_true rfl) (Nat.le_of_ble_eq_true rfl) ?_
    exact W.iret (v := (-71)) hx hb hr (fun t ht hW9 => ⟨⟨_, (), rfl, hr9.symm, by first | (rw [ht]; exact hW) | (dsimp only; rw [ht]; exact hW)⟩, hS.F ht⟩) hS.2.2 dL_act_180
  · skip
    replace hW : Wd g ((upd σ.1 2 a, σ.2)) μ o H := by rw [← ht]; exact hW
    try dsimp only at h_5
    exact absurd (hk.symm.trans h_5.1) (by rw [hrr.1]; decide)
set_option maxHeartbeats 4000000 in
set_option maxRecDepth 100000 in
theorem mtL_act_4 (l : Launch) (g : Ge) (σ : Sg) (μ : Mg) (o : Nat → Int64) (hfl : l.stackTraces = false) (a b : Int32) (kk rr : Int32) (hk : kPa σ a b = kk) (hrr : (kk = 1 ∧ rr = (-72)) ∨ (kk = 2 ∧ rr = (-73))) : Met l yL_act wsL_act ({ frames := 8, cells := 2, slots := 12, locals := 132 } : Room) (va_Pc [.ref (gA g 0), .int 4, .int a, .int b] (PW g σ μ o)) (va_Qi (S := Unit) (fun r _ => r = rr) (fun _ t => Wd g σ μ o t.heap) (Az g)) 2 12 (Az g) := by
  refine va_MetW (cc := cL_act) (maxL := 5) (ret := (some .int)) (by decide) rfl ?_
  intro p e s m args below meth c s₁ B hml hv
  obtain ⟨rfl, hC, hW⟩ := hv
  have hx := B.exec
  have hb := B.bytes
  have hr := B.returns
  have hts := atoms_spec (ws := wsL_act) B.pre
  have hown : s.vm.findClass RL = some m.cls := findClass_of_methodNamed B.named
  have hlocks := B.notSynchronized
  have hS : va_S (Az g) s.heap s.heap [] := va_S.rf
  have hl := lv_entry ([.ref (gA g 0), .int 4, .int a, .int b]) (n := 5) (Nat.le_of_ble_eq_true rfl)
  rw [lg_entry_eq]
  generalize (lg_sl ([.ref (gA g 0), .int 4, .int a, .int b]) ++ List.replicate (5 - (lg_sl ([.ref (gA g 0), .int 4, .int a, .int b])).length) Slot.unset).toArray = ls at hl ⊢
  have hl : lv_has ls 5 [(0, .ref (gA g 0)), (1, .int 4), (2, .int a), (3, .int b)] := hl
  have htab := vx_table (x := yL_act) B (hts (.codeWith yL_act cL_act 5 (some .int) [(0, 175, 176, 60), (0, 175, 181, 13), (0, 175, 186, 15)] ) (by exact List.mem_cons_self))
  refine lv_iload_n hx hb dL_act_0 rfl (lv_at hl 1 rfl) ?_
  refine lv_if_ne (tgt := 12) hx hb dL_act_1 (by decide) (fun c_1 => ?_) (fun c_1 => absurd c_1 (by decide))
  refine lv_iload_n hx hb dL_act_12 rfl (lv_at hl 1 rfl) ?_
  refine lv_iconst (v := 1) hx hb dL_act_13 (by decide) ?_
  refine lv_icmp_ne (tgt := 26) hx hb dL_act_14 (by decide) (fun c_2 => ?_) (fun c_2 => absurd c_2 (by decide))
  refine lv_iload_n hx hb dL_act_26 rfl (lv_at hl 1 rfl) ?_
  refine lv_iconst (v := 2) hx hb dL_act_27 (by decide) ?_
  refine lv_icmp_ne (tgt := 39) hx hb dL_act_28 (by decide) (fun c_3 => ?_) (fun c_3 => absurd c_3 (by decide))
  refine lv_iload_n hx hb dL_act_39 rfl (lv_at hl 1 rfl) ?_
  refine lv_iconst (v := 3) hx hb dL_act_40 (by decide) ?_
  refine lv_icmp_ne (tgt := 52) hx hb dL_act_41 (by decide) (fun c_4 => ?_) (fun c_4 => absurd c_4 (by decide))
  refine lv_iload_n hx hb dL_act_52 rfl (lv_at hl 1 rfl) ?_
  refine lv_iconst (v := 4) hx hb dL_act_53 (by decide) ?_
  refine lv_icmp_ne (tgt := 66) hx hb dL_act_54 (by decide) (fun c_5 => absurd c_5 (by decide)) (fun c_5 => ?_)
  refine lv_aload_n hx hb dL_act_57 rfl (lv_at hl 0 rfl) ?_
  refine lv_iload_n hx hb dL_act_58 rfl (lv_at hl 2 rfl) ?_
  refine lv_iload_n hx hb dL_act_59 rfl (lv_at hl 3 rfl) ?_
  refine vx_calli (vx_runV (As := [.int a, .int b]) (rest := []) ⟨hx, hb, hml, hown, hts⟩ (mtX2_setPattern l hfl g σ μ o a b) (cwV 2 hts gL_act_X2_setPattern rfl rfl rfl (by decide +kernel) ⟨Nat.le_of_ble_eq_true rfl, Nat.le_of_ble_eq_true rfl⟩) ⟨PW.blind, rcB hC hW, fun U hU hW9 => ⟨rfl, PW.at hC hS hW U hU hW9⟩⟩ rfl rfl hl.1 rfl (lv_room (Nat.le_of_ble_eq_true rfl)) dL_act_60 ⟨Nat.le_of_ble_eq_true rfl, Nat.le_of_ble_eq_true rfl⟩) hS (fun _ _ h => h) (fun _ h => h) (fun _ _ h => h) (fun E9 ce q9 u_8 t H locs ht hvm hpx hbx hz9 hk9 hS hce hcv hcl => ?_) (fun r_7 u_8 t H locs ht hvm h_6 hW hz9 hk9 hS => ?_)
  · skip
    obtain ⟨hbq, hbw⟩ := hbx
    try dsimp only at hbq
    replace hbw : Wd g σ μ o H := by rw [← ht]; exact hbw
    rcases hbq with hbq | hbq
    · skip
      obtain ⟨rfl, hk9⟩ := hbq
      have e9 := hk.symm.trans hk9
      have hr9 : rr = (-72) := by rcases hrr with ⟨h1, h2⟩ | ⟨h1, h2⟩ <;> first | exact h2 | exact absurd (h1.symm.trans e9) (by decide)
      refine vx_catch (own := RL) (name := "java/lang/IllegalArgumentException") hown (tableOf [(0, 175, 176, 60)]) ⟨0, 175, 181, 13⟩ (tableOf [(0, 175, 186, 15)]) (htab.trans rfl) (List.forall_mem_cons.mpr ⟨Or.inr ⟨by decide, "java/lang/IndexOutOfBoundsException", hts (.classLink RL 60 "java/lang/IndexOutOfBoundsException") (by decide +kernel), hC.2.1.2.2.2 (xIA, xIO) (by decide +kernel)⟩, (fun z hz => absurd hz List.not_mem_nil)⟩) (by decide) (by decide) (hts (.classLink RL 13 "java/lang/IllegalArgumentException") (by decide +kernel)) (cast_w (E := xIA) hC.2.1 (by decide +kernel) (.castable xIA xIA) (by decide +kernel)) hce hcv hcl ?_
      have hW := hbw
      refine lv_astore (lv' := [(4, .ref q9), (0, .ref (gA g 0)), (1, .int 4), (2, .int a), (3, .int b)]) hx hb dL_act_181 hl (by decide) rfl (fun ls hl => ?_)
      refine lv_bipush (v := (-72)) hx hb dL_act_183 (by decide) ?_
      refine W.widen (k := 2) (n := 12) (Nat.le_of_ble_eq_true rfl) (Nat.le_of_ble_eq_true rfl) ?_
      exact W.iret (v := (-72)) hx hb hr (fun t ht hW9 => ⟨⟨_, (), rfl, hr9.symm, by first | (rw [ht]; exact hW) | (dsimp only; rw [ht]; exact hW)⟩, hS.F ht⟩) hS.2.2 dL_act_185
    · skip
      obtain ⟨rfl, hk9⟩ := hbq
      have e9 := hk.symm.trans hk9
      have hr9 : rr = (-73) := by rcases hrr with ⟨h1, h2⟩ | ⟨h1, h2⟩ <;> first | exact h2 | exact absurd (h1.symm.trans e9) (by decide)
      refine vx_catch (own := RL) (name := "java/lang/IllegalStateException") hown (tableOf [(0, 175, 176, 60), (0, 175, 181, 13)]) ⟨0, 175, 186, 15⟩ (tableOf []) (htab.trans rfl) (List.forall_mem_cons.mpr ⟨Or.inr ⟨by decide, "java/lang/IndexOutOfBoundsException", hts (.classLink RL 60 "java/lang/IndexOutOfBoundsException") (by decide +kernel), hC.2.1.2.2.2 (xIS, xIO) (by decide +kernel)⟩, (List.forall_mem_cons.mpr ⟨Or.inr ⟨by decide, "java/lang/IllegalArgumentException", hts (.classLink RL 13 "java/lang/IllegalArgumentException") (by decide +kernel), hC.2.1.2.2.2 (xIS, xIA) (by decide +kernel)⟩, (fun z hz => absurd hz List.not_mem_nil)⟩)⟩) (by decide) (by decide) (hts (.classLink RL 15 "java/lang/IllegalStateException") (by decide +kernel)) (cast_w (E := xIS) hC.2.1 (by decide +kernel) (.castable xIS xIS) (by decide +kernel)) hce hcv hcl ?_
      have hW := hbw
      refine lv_astore (lv' := [(4, .ref q9), (0, .ref (gA g 0)), (1, .int 4), (2, .int a), (3, .int b)]) hx hb dL_act_186 hl (by decide) rfl (fun ls hl => ?_)
      refine lv_bipush (v := (-73)) hx hb dL_act_188 (by decide) ?_
      refine W.widen (k := 2) (n := 12) (Nat.le_of_ble_eq_true rfl) (Nat.le_of_ble_eq_true rfl) ?_
      exact W.iret (v := (-73)) hx hb hr (fun t ht hW9 => ⟨⟨_, (), rfl, hr9.symm, by first | (rw [ht]; exact hW) | (dsimp only; rw [ht]; exact hW)⟩, hS.F ht⟩) hS.2.2 dL_act_190
  · skip
    replace hW : Wd g ((upd (upd σ.1 3 a) 4 b, σ.2)) μ o H := by rw [← ht]; exact hW
    try dsimp only at h_6
    exact absurd (hk.symm.trans h_6.1) (by rcases hrr with ⟨h1, h2⟩ | ⟨h1, h2⟩ <;> rw [h1] <;> decide)
set_option maxHeartbeats 4000000 in
set_option maxRecDepth 100000 in
theorem mtL_act_5 (l : Launch) (g : Ge) (σ : Sg) (μ : Mg) (o : Nat → Int64) (hfl : l.stackTraces = false) (a b : Int32) (kk rr : Int32) (hk : kSt σ = kk) (hrr : (kk = 1 ∧ rr = (-73))) : Met l yL_act wsL_act ({ frames := 7, cells := 1, slots := 6, locals := 159 } : Room) (va_Pc [.ref (gA g 0), .int 5, .int a, .int b] (PW g σ μ o)) (va_Qi (S := Unit) (fun r _ => r = rr) (fun _ t => Wd g σ μ o t.heap) (Az g)) 1 6 (Az g) := by
  refine va_MetW (cc := cL_act) (maxL := 5) (ret := (some .int)) (by decide) rfl ?_
  intro p e s m args below meth c s₁ B hml hv
  obtain ⟨rfl, hC, hW⟩ := hv
  have hx := B.exec
  have hb := B.bytes
  have hr := B.returns
  have hts := atoms_spec (ws := wsL_act) B.pre
  have hown : s.vm.findClass RL = some m.cls := findClass_of_methodNamed B.named
  have hlocks := B.notSynchronized
  have hS : va_S (Az g) s.heap s.heap [] := va_S.rf
  have hl := lv_entry ([.ref (gA g 0), .int 5, .int a, .int b]) (n := 5) (Nat.le_of_ble_eq_true rfl)
  rw [lg_entry_eq]
  generalize (lg_sl ([.ref (gA g 0), .int 5, .int a, .int b]) ++ List.replicate (5 - (lg_sl ([.ref (gA g 0), .int 5, .int a, .int b])).length) Slot.unset).toArray = ls at hl ⊢
  have hl : lv_has ls 5 [(0, .ref (gA g 0)), (1, .int 5), (2, .int a), (3, .int b)] := hl
  have htab := vx_table (x := yL_act) B (hts (.codeWith yL_act cL_act 5 (some .int) [(0, 175, 176, 60), (0, 175, 181, 13), (0, 175, 186, 15)] ) (by exact List.mem_cons_self))
  refine lv_iload_n hx hb dL_act_0 rfl (lv_at hl 1 rfl) ?_
  refine lv_if_ne (tgt := 12) hx hb dL_act_1 (by decide) (fun c_1 => ?_) (fun c_1 => absurd c_1 (by decide))
  refine lv_iload_n hx hb dL_act_12 rfl (lv_at hl 1 rfl) ?_
  refine lv_iconst (v := 1) hx hb dL_act_13 (by decide) ?_
  refine lv_icmp_ne (tgt := 26) hx hb dL_act_14 (by decide) (fun c_2 => ?_) (fun c_2 => absurd c_2 (by decide))
  refine lv_iload_n hx hb dL_act_26 rfl (lv_at hl 1 rfl) ?_
  refine lv_iconst (v := 2) hx hb dL_act_27 (by decide) ?_
  refine lv_icmp_ne (tgt := 39) hx hb dL_act_28 (by decide) (fun c_3 => ?_) (fun c_3 => absurd c_3 (by decide))
  refine lv_iload_n hx hb dL_act_39 rfl (lv_at hl 1 rfl) ?_
  refine lv_iconst (v := 3) hx hb dL_act_40 (by decide) ?_
  refine lv_icmp_ne (tgt := 52) hx hb dL_act_41 (by decide) (fun c_4 => ?_) (fun c_4 => absurd c_4 (by decide))
  refine lv_iload_n hx hb dL_act_52 rfl (lv_at hl 1 rfl) ?_
  refine lv_iconst (v := 4) hx hb dL_act_53 (by decide) ?_
  refine lv_icmp_ne (tgt := 66) hx hb dL_act_54 (by decide) (fun c_5 => ?_) (fun c_5 => absurd c_5 (by decide))
  refine lv_iload_n hx hb dL_act_66 rfl (lv_at hl 1 rfl) ?_
  refine lv_iconst (v := 5) hx hb dL_act_67 (by decide) ?_
  refine lv_icmp_ne (tgt := 78) hx hb dL_act_68 (by decide) (fun c_6 => absurd c_6 (by decide)) (fun c_6 => ?_)
  refine lv_aload_n hx hb dL_act_71 rfl (lv_at hl 0 rfl) ?_
  refine vx_calli (vx_runV (As := []) (rest := []) ⟨hx, hb, hml, hown, hts⟩ (mtX2_start l hfl g σ μ o ) (cwV 0 hts gL_act_X2_start rfl rfl rfl (by decide +kernel) ⟨Nat.le_of_ble_eq_true rfl, Nat.le_of_ble_eq_true rfl⟩) ⟨PW.blind, rcB hC hW, fun U hU hW9 => ⟨rfl, PW.at hC hS hW U hU hW9⟩⟩ rfl rfl hl.1 rfl (lv_room (Nat.le_of_ble_eq_true rfl)) dL_act_72 ⟨Nat.le_of_ble_eq_true rfl, Nat.le_of_ble_eq_true rfl⟩) hS (fun _ _ h => h) (fun _ h => h) (fun _ _ h => h) (fun E9 ce q9 u_9 t H locs ht hvm hpx hbx hz9 hk9 hS hce hcv hcl => ?_) (fun r_8 u_9 t H locs ht hvm h_7 hW hz9 hk9 hS => ?_)
  · skip
    obtain ⟨hbq, hbw⟩ := hbx
    try dsimp only at hbq
    replace hbw : Wd g σ μ o H := by rw [← ht]; exact hbw
    obtain ⟨rfl, hk9⟩ := hbq
    have e9 := hk.symm.trans hk9
    have hr9 : rr = (-73) := hrr.2
    refine vx_catch (own := RL) (name := "java/lang/IllegalStateException") hown (tableOf [(0, 175, 176, 60), (0, 175, 181, 13)]) ⟨0, 175, 186, 15⟩ (tableOf []) (htab.trans rfl) (List.forall_mem_cons.mpr ⟨Or.inr ⟨by decide, "java/lang/IndexOutOfBoundsException", hts (.classLink RL 60 "java/lang/IndexOutOfBoundsException") (by decide +kernel), hC.2.1.2.2.2 (xIS, xIO) (by decide +kernel)⟩, (List.forall_mem_cons.mpr ⟨Or.inr ⟨by decide, "java/lang/IllegalArgumentException", hts (.classLink RL 13 "java/lang/IllegalArgumentException") (by decide +kernel), hC.2.1.2.2.2 (xIS, xIA) (by decide +kernel)⟩, (fun z hz => absurd hz List.not_mem_nil)⟩)⟩) (by decide) (by decide) (hts (.classLink RL 15 "java/lang/IllegalStateException") (by decide +kernel)) (cast_w (E := xIS) hC.2.1 (by decide +kernel) (.castable xIS xIS) (by decide +kernel)) hce hcv hcl ?_
    have hW := hbw
    refine lv_astore (lv' := [(4, .ref q9), (0, .ref (gA g 0)), (1, .int 5), (2, .int a), (3, .int b)]) hx hb dL_act_186 hl (by decide) rfl (fun ls hl => ?_)
    refine lv_bipush (v := (-73)) hx hb dL_act_188 (by decide) ?_
    refine W.widen (k := 1) (n := 6) (Nat.le_of_ble_eq_true rfl) (Nat.le_of_ble_eq_true rfl) ?_
    exact W.iret (v := (-73)) hx hb hr (fun t ht hW9 => ⟨⟨_, (), rfl, hr9.symm, by first | (rw [ht]; exact hW) | (dsimp only; rw [ht]; exact hW)⟩, hS.F ht⟩) hS.2.2 dL_act_190
  · skip
    replace hW : Wd g ((upd (upd (upd σ.1 6 (mz (σ.2.2.1 0) (σ.2.1 u_9))) 2 (-1)) 5 (σ.2.1 u_9 1), up2 σ.2.1 u_9 (us1 (σ.2.1 u_9)), upd σ.2.2.1 3 0, σ.2.2.2)) μ o H := by rw [← ht]; exact hW
    try dsimp only at h_7
    exact absurd (hk.symm.trans h_7.1) (by rw [hrr.1]; decide)
set_option maxHeartbeats 4000000 in
set_option maxRecDepth 100000 in
theorem mtL_act_6 (l : Launch) (g : Ge) (σ : Sg) (μ : Mg) (o : Nat → Int64) (hfl : l.stackTraces = false) (a b : Int32) (kk rr : Int32) (hk : kGo σ = kk) (hrr : (kk = 1 ∧ rr = (-73))) : Met l yL_act wsL_act ({ frames := 7, cells := 1, slots := 6, locals := 112 } : Room) (va_Pc [.ref (gA g 0), .int 6, .int a, .int b] (PW g σ μ o)) (va_Qi (S := Unit) (fun r _ => r = rr) (fun _ t => Wd g σ μ o t.heap) (Az g)) 1 6 (Az g) := by
  refine va_MetW (cc := cL_act) (maxL := 5) (ret := (some .int)) (by decide) rfl ?_
  intro p e s m args below meth c s₁ B hml hv
  obtain ⟨rfl, hC, hW⟩ := hv
  have hx := B.exec
  have hb := B.bytes
  have hr := B.returns
  have hts := atoms_spec (ws := wsL_act) B.pre
  have hown : s.vm.findClass RL = some m.cls := findClass_of_methodNamed B.named
  have hlocks := B.notSynchronized
  have hS : va_S (Az g) s.heap s.heap [] := va_S.rf
  have hl := lv_entry ([.ref (gA g 0), .int 6, .int a, .int b]) (n := 5) (Nat.le_of_ble_eq_true rfl)
  rw [lg_entry_eq]
  generalize (lg_sl ([.ref (gA g 0), .int 6, .int a, .int b]) ++ List.replicate (5 - (lg_sl ([.ref (gA g 0), .int 6, .int a, .int b])).length) Slot.unset).toArray = ls at hl ⊢
  have hl : lv_has ls 5 [(0, .ref (gA g 0)), (1, .int 6), (2, .int a), (3, .int b)] := hl
  have htab := vx_table (x := yL_act) B (hts (.codeWith yL_act cL_act 5 (some .int) [(0, 175, 176, 60), (0, 175, 181, 13), (0, 175, 186, 15)] ) (by exact List.mem_cons_self))
  refine lv_iload_n hx hb dL_act_0 rfl (lv_at hl 1 rfl) ?_
  refine lv_if_ne (tgt := 12) hx hb dL_act_1 (by decide) (fun c_1 => ?_) (fun c_1 => absurd c_1 (by decide))
  refine lv_iload_n hx hb dL_act_12 rfl (lv_at hl 1 rfl) ?_
  refine lv_iconst (v := 1) hx hb dL_act_13 (by decide) ?_
  refine lv_icmp_ne (tgt := 26) hx hb dL_act_14 (by decide) (fun c_2 => ?_) (fun c_2 => absurd c_2 (by decide))
  refine lv_iload_n hx hb dL_act_26 rfl (lv_at hl 1 rfl) ?_
  refine lv_iconst (v := 2) hx hb dL_act_27 (by decide) ?_
  refine lv_icmp_ne (tgt := 39) hx hb dL_act_28 (by decide) (fun c_3 => ?_) (fun c_3 => absurd c_3 (by decide))
  refine lv_iload_n hx hb dL_act_39 rfl (lv_at hl 1 rfl) ?_
  refine lv_iconst (v := 3) hx hb dL_act_40 (by decide) ?_
  refine lv_icmp_ne (tgt := 52) hx hb dL_act_41 (by decide) (fun c_4 => ?_) (fun c_4 => absurd c_4 (by decide))
  refine lv_iload_n hx hb dL_act_52 rfl (lv_at hl 1 rfl) ?_
  refine lv_iconst (v := 4) hx hb dL_act_53 (by decide) ?_
  refine lv_icmp_ne (tgt := 66) hx hb dL_act_54 (by decide) (fun c_5 => ?_) (fun c_5 => absurd c_5 (by decide))
  refine lv_iload_n hx hb dL_act_66 rfl (lv_at hl 1 rfl) ?_
  refine lv_iconst (v := 5) hx hb dL_act_67 (by decide) ?_
  refine lv_icmp_ne (tgt := 78) hx hb dL_act_68 (by decide) (fun c_6 => ?_) (fun c_6 => absurd c_6 (by decide))
  refine lv_iload_n hx hb dL_act_78 rfl (lv_at hl 1 rfl) ?_
  refine lv_bipush (v := 6) hx hb dL_act_79 (by decide) ?_
  refine lv_icmp_ne (tgt := 91) hx hb dL_act_81 (by decide) (fun c_7 => absurd c_7 (by decide)) (fun c_7 => ?_)
  refine lv_aload_n hx hb dL_act_84 rfl (lv_at hl 0 rfl) ?_
  refine vx_calli (vx_runV (As := []) (rest := []) ⟨hx, hb, hml, hown, hts⟩ (mtX2_good l hfl g σ μ o ) (cwV 0 hts gL_act_X2_good rfl rfl rfl (by decide +kernel) ⟨Nat.le_of_ble_eq_true rfl, Nat.le_of_ble_eq_true rfl⟩) ⟨PW.blind, rcB hC hW, fun U hU hW9 => ⟨rfl, PW.at hC hS hW U hU hW9⟩⟩ rfl rfl hl.1 rfl (lv_room (Nat.le_of_ble_eq_true rfl)) dL_act_85 ⟨Nat.le_of_ble_eq_true rfl, Nat.le_of_ble_eq_true rfl⟩) hS (fun _ _ h => h) (fun _ h => h) (fun _ _ h => h) (fun E9 ce q9 u_10 t H locs ht hvm hpx hbx hz9 hk9 hS hce hcv hcl => ?_) (fun r_9 u_10 t H locs ht hvm h_8 hW hz9 hk9 hS => ?_)
  · skip
    obtain ⟨hbq, hbw⟩ := hbx
    try dsimp only at hbq
    replace hbw : Wd g σ μ o H := by rw [← ht]; exact hbw
    obtain ⟨rfl, hk9⟩ := hbq
    have e9 := hk.symm.trans hk9
    have hr9 : rr = (-73) := hrr.2
    refine vx_catch (own := RL) (name := "java/lang/IllegalStateException") hown (tableOf [(0, 175, 176, 60), (0, 175, 181, 13)]) ⟨0, 175, 186, 15⟩ (tableOf []) (htab.trans rfl) (List.forall_mem_cons.mpr ⟨Or.inr ⟨by decide, "java/lang/IndexOutOfBoundsException", hts (.classLink RL 60 "java/lang/IndexOutOfBoundsException") (by decide +kernel), hC.2.1.2.2.2 (xIS, xIO) (by decide +kernel)⟩, (List.forall_mem_cons.mpr ⟨Or.inr ⟨by decide, "java/lang/IllegalArgumentException", hts (.classLink RL 13 "java/lang/IllegalArgumentException") (by decide +kernel), hC.2.1.2.2.2 (xIS, xIA) (by decide +kernel)⟩, (fun z hz => absurd hz List.not_mem_nil)⟩)⟩) (by decide) (by decide) (hts (.classLink RL 15 "java/lang/IllegalStateException") (by decide +kernel)) (cast_w (E := xIS) hC.2.1 (by decide +kernel) (.castable xIS xIS) (by decide +kernel)) hce hcv hcl ?_
    have hW := hbw
    refine lv_astore (lv' := [(4, .ref q9), (0, .ref (gA g 0)), (1, .int 6), (2, .int a), (3, .int b)]) hx hb dL_act_186 hl (by decide) rfl (fun ls hl => ?_)
    refine lv_bipush (v := (-73)) hx hb dL_act_188 (by decide) ?_
    refine W.widen (k := 1) (n := 6) (Nat.le_of_ble_eq_true rfl) (Nat.le_of_ble_eq_true rfl) ?_
    exact W.iret (v := (-73)) hx hb hr (fun t ht hW9 => ⟨⟨_, (), rfl, hr9.symm, by first | (rw [ht]; exact hW) | (dsimp only; rw [ht]; exact hW)⟩, hS.F ht⟩) hS.2.2 dL_act_190
  · skip
    replace hW : Wd g ((σ.1, goE σ, σ.2.2)) μ o H := by rw [← ht]; exact hW
    try dsimp only at h_8
    exact absurd (hk.symm.trans h_8.1) (by rw [hrr.1]; decide)
end
section
set_option maxHeartbeats 4000000 in
set_option maxRecDepth 100000 in
theorem mtL_act_7 (l : Launch) (g : Ge) (σ : Sg) (μ : Mg) (o : Nat → Int64) (hfl : l.stackTraces = false) (a b : Int32) (en cl : Nat) (h1 : σ.2.2.1 3 = nI en) (h2 : σ.2.2.1 2 = nI cl) (h3 : en ≤ 12) (h4 : cl ≤ 12) (kk rr : Int32) (hk : kEn σ a = kk) (hrr : (kk = 1 ∧ rr = (-72)) ∨ (kk = 2 ∧ rr = (-73))) : Met l yL_act wsL_act ({ frames := 8, cells := 2, slots := 12, locals := 132 } : Room) (va_Pc [.ref (gA g 0), .int 7, .int a, .int b] (PW g σ μ o)) (va_Qi (S := Unit) (fun r _ => r = rr) (fun _ t => Wd g σ μ o t.heap) (Az g)) 2 12 (Az g) := by
  refine va_MetW (cc := cL_act) (maxL := 5) (ret := (some .int)) (by decide) rfl ?_
  intro p e s m args below meth c s₁ B hml hv
  obtain ⟨rfl, hC, hW⟩ := hv
  have hx := B.exec
  have hb := B.bytes
  have hr := B.returns
  have hts := atoms_spec (ws := wsL_act) B.pre
  have hown : s.vm.findClass RL = some m.cls := findClass_of_methodNamed B.named
  have hlocks := B.notSynchronized
  have hS : va_S (Az g) s.heap s.heap [] := va_S.rf
  have hl := lv_entry ([.ref (gA g 0), .int 7, .int a, .int b]) (n := 5) (Nat.le_of_ble_eq_true rfl)
  rw [lg_entry_eq]
  generalize (lg_sl ([.ref (gA g 0), .int 7, .int a, .int b]) ++ List.replicate (5 - (lg_sl ([.ref (gA g 0), .int 7, .int a, .int b])).length) Slot.unset).toArray = ls at hl ⊢
  have hl : lv_has ls 5 [(0, .ref (gA g 0)), (1, .int 7), (2, .int a), (3, .int b)] := hl
  have htab := vx_table (x := yL_act) B (hts (.codeWith yL_act cL_act 5 (some .int) [(0, 175, 176, 60), (0, 175, 181, 13), (0, 175, 186, 15)] ) (by exact List.mem_cons_self))
  refine lv_iload_n hx hb dL_act_0 rfl (lv_at hl 1 rfl) ?_
  refine lv_if_ne (tgt := 12) hx hb dL_act_1 (by decide) (fun c_1 => ?_) (fun c_1 => absurd c_1 (by decide))
  refine lv_iload_n hx hb dL_act_12 rfl (lv_at hl 1 rfl) ?_
  refine lv_iconst (v := 1) hx hb dL_act_13 (by decide) ?_
  refine lv_icmp_ne (tgt := 26) hx hb dL_act_14 (by decide) (fun c_2 => ?_) (fun c_2 => absurd c_2 (by decide))
  refine lv_iload_n hx hb dL_act_26 rfl (lv_at hl 1 rfl) ?_
  refine lv_iconst (v := 2) hx hb dL_act_27 (by decide) ?_
  refine lv_icmp_ne (tgt := 39) hx hb dL_act_28 (by decide) (fun c_3 => ?_) (fun c_3 => absurd c_3 (by decide))
  refine lv_iload_n hx hb dL_act_39 rfl (lv_at hl 1 rfl) ?_
  refine lv_iconst (v := 3) hx hb dL_act_40 (by decide) ?_
  refine lv_icmp_ne (tgt := 52) hx hb dL_act_41 (by decide) (fun c_4 => ?_) (fun c_4 => absurd c_4 (by decide))
  refine lv_iload_n hx hb dL_act_52 rfl (lv_at hl 1 rfl) ?_
  refine lv_iconst (v := 4) hx hb dL_act_53 (by decide) ?_
  refine lv_icmp_ne (tgt := 66) hx hb dL_act_54 (by decide) (fun c_5 => ?_) (fun c_5 => absurd c_5 (by decide))
  refine lv_iload_n hx hb dL_act_66 rfl (lv_at hl 1 rfl) ?_
  refine lv_iconst (v := 5) hx hb dL_act_67 (by decide) ?_
  refine lv_icmp_ne (tgt := 78) hx hb dL_act_68 (by decide) (fun c_6 => ?_) (fun c_6 => absurd c_6 (by decide))
  refine lv_iload_n hx hb dL_act_78 rfl (lv_at hl 1 rfl) ?_
  refine lv_bipush (v := 6) hx hb dL_act_79 (by decide) ?_
  refine lv_icmp_ne (tgt := 91) hx hb dL_act_81 (by decide) (fun c_7 => ?_) (fun c_7 => absurd c_7 (by decide))
  refine lv_iload_n hx hb dL_act_91 rfl (lv_at hl 1 rfl) ?_
  refine lv_bipush (v := 7) hx hb dL_act_92 (by decide) ?_
  refine lv_icmp_ne (tgt := 113) hx hb dL_act_94 (by decide) (fun c_8 => absurd c_8 (by decide)) (fun c_8 => ?_)
  refine lv_aload_n hx hb dL_act_97 rfl (lv_at hl 0 rfl) ?_
  refine lv_iload_n hx hb dL_act_98 rfl (lv_at hl 2 rfl) ?_
  refine vx_calli (vx_runV (As := [.int a]) (rest := []) ⟨hx, hb, hml, hown, hts⟩ (mtX2_enter l hfl g σ μ o a en cl h1 h2 h3 h4) (cwV 1 hts gL_act_X2_enter rfl rfl rfl (by decide +kernel) ⟨Nat.le_of_ble_eq_true rfl, Nat.le_of_ble_eq_true rfl⟩) ⟨PW.blind, rcB hC hW, fun U hU hW9 => ⟨rfl, PW.at hC hS hW U hU hW9⟩⟩ rfl rfl hl.1 rfl (lv_room (Nat.le_of_ble_eq_true rfl)) dL_act_99 ⟨Nat.le_of_ble_eq_true rfl, Nat.le_of_ble_eq_true rfl⟩) hS (fun _ _ h => h) (fun _ h => h) (fun _ _ h => h) (fun E9 ce q9 u_11 t H locs ht hvm hpx hbx hz9 hk9 hS hce hcv hcl => ?_) (fun r_10 u_11 t H locs ht hvm h_9 hW hz9 hk9 hS => ?_)
  · skip
    obtain ⟨hbq, hbw⟩ := hbx
    try dsimp only at hbq
    replace hbw : Wd g σ μ o H := by rw [← ht]; exact hbw
    rcases hbq with hbq | hbq
    · skip
      obtain ⟨rfl, hk9⟩ := hbq
      have e9 := hk.symm.trans hk9
      have hr9 : rr = (-72) := by rcases hrr with ⟨h1, h2⟩ | ⟨h1, h2⟩ <;> first | exact h2 | exact absurd (h1.symm.trans e9) (by decide)
      refine vx_catch (own := RL) (name := "java/lang/IllegalArgumentException") hown (tableOf [(0, 175, 176, 60)]) ⟨0, 175, 181, 13⟩ (tableOf [(0, 175, 186, 15)]) (htab.trans rfl) (List.forall_mem_cons.mpr ⟨Or.inr ⟨by decide, "java/lang/IndexOutOfBoundsException", hts (.classLink RL 60 "java/lang/IndexOutOfBoundsException") (by decide +kernel), hC.2.1.2.2.2 (xIA, xIO) (by decide +kernel)⟩, (fun z hz => absurd hz List.not_mem_nil)⟩) (by decide) (by decide) (hts (.classLink RL 13 "java/lang/IllegalArgumentException") (by decide +kernel)) (cast_w (E := xIA) hC.2.1 (by decide +kernel) (.castable xIA xIA) (by decide +kernel)) hce hcv hcl ?_
      have hW := hbw
      refine lv_astore (lv' := [(4, .ref q9), (0, .ref (gA g 0)), (1, .int 7), (2, .int a), (3, .int b)]) hx hb dL_act_181 hl (by decide) rfl (fun ls hl => ?_)
      refine lv_bipush (v := (-72)) hx hb dL_act_183 (by decide) ?_
      refine W.widen (k := 2) (n := 12) (Nat.le_of_ble_eq_true rfl) (Nat.le_of_ble_eq_true rfl) ?_
      exact W.iret (v := (-72)) hx hb hr (fun t ht hW9 => ⟨⟨_, (), rfl, hr9.symm, by first | (rw [ht]; exact hW) | (dsimp only; rw [ht]; exact hW)⟩, hS.F ht⟩) hS.2.2 dL_act_185
    · skip
      obtain ⟨rfl, hk9⟩ := hbq
      have e9 := hk.symm.trans hk9
      have hr9 : rr = (-73) := by rcases hrr with ⟨h1, h2⟩ | ⟨h1, h2⟩ <;> first | exact h2 | exact absurd (h1.symm.trans e9) (by decide)
      refine vx_catch (own := RL) (name := "java/lang/IllegalStateException") hown (tableOf [(0, 175, 176, 60), (0, 175, 181, 13)]) ⟨0, 175, 186, 15⟩ (tableOf []) (htab.trans rfl) (List.forall_mem_cons.mpr ⟨Or.inr ⟨by decide, "java/lang/IndexOutOfBoundsException", hts (.classLink RL 60 "java/lang/IndexOutOfBoundsException") (by decide +kernel), hC.2.1.2.2.2 (xIS, xIO) (by decide +kernel)⟩, (List.forall_mem_cons.mpr ⟨Or.inr ⟨by decide, "java/lang/IllegalArgumentException", hts (.classLink RL 13 "java/lang/IllegalArgumentException") (by decide +kernel), hC.2.1.2.2.2 (xIS, xIA) (by decide +kernel)⟩, (fun z hz => absurd hz List.not_mem_nil)⟩)⟩) (by decide) (by decide) (hts (.classLink RL 15 "java/lang/IllegalStateException") (by decide +kernel)) (cast_w (E := xIS) hC.2.1 (by decide +kernel) (.castable xIS xIS) (by decide +kernel)) hce hcv hcl ?_
      have hW := hbw
      refine lv_astore (lv' := [(4, .ref q9), (0, .ref (gA g 0)), (1, .int 7), (2, .int a), (3, .int b)]) hx hb dL_act_186 hl (by decide) rfl (fun ls hl => ?_)
      refine lv_bipush (v := (-73)) hx hb dL_act_188 (by decide) ?_
      refine W.widen (k := 2) (n := 12) (Nat.le_of_ble_eq_true rfl) (Nat.le_of_ble_eq_true rfl) ?_
      exact W.iret (v := (-73)) hx hb hr (fun t ht hW9 => ⟨⟨_, (), rfl, hr9.symm, by first | (rw [ht]; exact hW) | (dsimp only; rw [ht]; exact hW)⟩, hS.F ht⟩) hS.2.2 dL_act_190
  · skip
    replace hW : Wd g ((σ.1, σ.2.1, upd (upd σ.2.2.1 3 (σ.2.2.1 3 + 1)) 0 (bI (!ec (upd σ.2.2.2 en a) (en + 1) cl (σ.2.2.1 1))), upd σ.2.2.2 en a)) μ o H := by rw [← ht]; exact hW
    try dsimp only at h_9
    exact absurd (hk.symm.trans h_9.1) (by rcases hrr with ⟨h1, h2⟩ | ⟨h1, h2⟩ <;> rw [h1] <;> decide)
set_option maxHeartbeats 4000000 in
set_option maxRecDepth 100000 in
theorem mtL_act_8 (l : Launch) (g : Ge) (σ : Sg) (μ : Mg) (o : Nat → Int64) (hfl : l.stackTraces = false) (a b : Int32) (kk rr : Int32) (hk : kAt σ a = kk) (hrr : (kk = 1 ∧ rr = (-71))) : Met l yL_act wsL_act ({ frames := 7, cells := 1, slots := 6, locals := 137 } : Room) (va_Pc [.ref (gA g 0), .int 8, .int a, .int b] (PW g σ μ o)) (va_Qi (S := Unit) (fun r _ => r = rr) (fun _ t => Wd g σ μ o t.heap) (Az g)) 1 6 (Az g) := by
  refine va_MetW (cc := cL_act) (maxL := 5) (ret := (some .int)) (by decide) rfl ?_
  intro p e s m args below meth c s₁ B hml hv
  obtain ⟨rfl, hC, hW⟩ := hv
  have hx := B.exec
  have hb := B.bytes
  have hr := B.returns
  have hts := atoms_spec (ws := wsL_act) B.pre
  have hown : s.vm.findClass RL = some m.cls := findClass_of_methodNamed B.named
  have hlocks := B.notSynchronized
  have hS : va_S (Az g) s.heap s.heap [] := va_S.rf
  have hl := lv_entry ([.ref (gA g 0), .int 8, .int a, .int b]) (n := 5) (Nat.le_of_ble_eq_true rfl)
  rw [lg_entry_eq]
  generalize (lg_sl ([.ref (gA g 0), .int 8, .int a, .int b]) ++ List.replicate (5 - (lg_sl ([.ref (gA g 0), .int 8, .int a, .int b])).length) Slot.unset).toArray = ls at hl ⊢
  have hl : lv_has ls 5 [(0, .ref (gA g 0)), (1, .int 8), (2, .int a), (3, .int b)] := hl
  have htab := vx_table (x := yL_act) B (hts (.codeWith yL_act cL_act 5 (some .int) [(0, 175, 176, 60), (0, 175, 181, 13), (0, 175, 186, 15)] ) (by exact List.mem_cons_self))
  refine lv_iload_n hx hb dL_act_0 rfl (lv_at hl 1 rfl) ?_
  refine lv_if_ne (tgt := 12) hx hb dL_act_1 (by decide) (fun c_1 => ?_) (fun c_1 => absurd c_1 (by decide))
  refine lv_iload_n hx hb dL_act_12 rfl (lv_at hl 1 rfl) ?_
  refine lv_iconst (v := 1) hx hb dL_act_13 (by decide) ?_
  refine lv_icmp_ne (tgt := 26) hx hb dL_act_14 (by decide) (fun c_2 => ?_) (fun c_2 => absurd c_2 (by decide))
  refine lv_iload_n hx hb dL_act_26 rfl (lv_at hl 1 rfl) ?_
  refine lv_iconst (v := 2) hx hb dL_act_27 (by decide) ?_
  refine lv_icmp_ne (tgt := 39) hx hb dL_act_28 (by decide) (fun c_3 => ?_) (fun c_3 => absurd c_3 (by decide))
  refine lv_iload_n hx hb dL_act_39 rfl (lv_at hl 1 rfl) ?_
  refine lv_iconst (v := 3) hx hb dL_act_40 (by decide) ?_
  refine lv_icmp_ne (tgt := 52) hx hb dL_act_41 (by decide) (fun c_4 => ?_) (fun c_4 => absurd c_4 (by decide))
  refine lv_iload_n hx hb dL_act_52 rfl (lv_at hl 1 rfl) ?_
  refine lv_iconst (v := 4) hx hb dL_act_53 (by decide) ?_
  refine lv_icmp_ne (tgt := 66) hx hb dL_act_54 (by decide) (fun c_5 => ?_) (fun c_5 => absurd c_5 (by decide))
  refine lv_iload_n hx hb dL_act_66 rfl (lv_at hl 1 rfl) ?_
  refine lv_iconst (v := 5) hx hb dL_act_67 (by decide) ?_
  refine lv_icmp_ne (tgt := 78) hx hb dL_act_68 (by decide) (fun c_6 => ?_) (fun c_6 => absurd c_6 (by decide))
  refine lv_iload_n hx hb dL_act_78 rfl (lv_at hl 1 rfl) ?_
  refine lv_bipush (v := 6) hx hb dL_act_79 (by decide) ?_
  refine lv_icmp_ne (tgt := 91) hx hb dL_act_81 (by decide) (fun c_7 => ?_) (fun c_7 => absurd c_7 (by decide))
  refine lv_iload_n hx hb dL_act_91 rfl (lv_at hl 1 rfl) ?_
  refine lv_bipush (v := 7) hx hb dL_act_92 (by decide) ?_
  refine lv_icmp_ne (tgt := 113) hx hb dL_act_94 (by decide) (fun c_8 => ?_) (fun c_8 => absurd c_8 (by decide))
  refine lv_iload_n hx hb dL_act_113 rfl (lv_at hl 1 rfl) ?_
  refine lv_bipush (v := 8) hx hb dL_act_114 (by decide) ?_
  refine lv_icmp_ne (tgt := 127) hx hb dL_act_116 (by decide) (fun c_9 => absurd c_9 (by decide)) (fun c_9 => ?_)
  refine lv_aload_n hx hb dL_act_119 rfl (lv_at hl 0 rfl) ?_
  refine lv_iload_n hx hb dL_act_120 rfl (lv_at hl 2 rfl) ?_
  refine vx_calli (vx_runV (As := [.int a]) (rest := []) ⟨hx, hb, hml, hown, hts⟩ (mtX2_at l hfl g σ μ o a) (cwV 1 hts gL_act_X2_at rfl rfl rfl (by decide +kernel) ⟨Nat.le_of_ble_eq_true rfl, Nat.le_of_ble_eq_true rfl⟩) ⟨PW.blind, rcB hC hW, fun U hU hW9 => ⟨rfl, PW.at hC hS hW U hU hW9⟩⟩ rfl rfl hl.1 rfl (lv_room (Nat.le_of_ble_eq_true rfl)) dL_act_121 ⟨Nat.le_of_ble_eq_true rfl, Nat.le_of_ble_eq_true rfl⟩) hS (fun _ _ h => h) (fun _ h => h) (fun _ _ h => h) (fun E9 ce q9 u_12 t H locs ht hvm hpx hbx hz9 hk9 hS hce hcv hcl => ?_) (fun r_11 u_12 t H locs ht hvm h_10 hW hz9 hk9 hS => ?_)
  · skip
    obtain ⟨hbq, hbw⟩ := hbx
    try dsimp only at hbq
    replace hbw : Wd g σ μ o H := by rw [← ht]; exact hbw
    obtain ⟨rfl, hk9⟩ := hbq
    have e9 := hk.symm.trans hk9
    have hr9 : rr = (-71) := hrr.2
    refine vx_catch (own := RL) (name := "java/lang/IndexOutOfBoundsException") hown (tableOf []) ⟨0, 175, 176, 60⟩ (tableOf [(0, 175, 181, 13), (0, 175, 186, 15)]) (htab.trans rfl) (fun z hz => absurd hz List.not_mem_nil) (by decide) (by decide) (hts (.classLink RL 60 "java/lang/IndexOutOfBoundsException") (by decide +kernel)) (cast_w (E := xIO) hC.2.1 (by decide +kernel) (.castable xIO xIO) (by decide +kernel)) hce hcv hcl ?_
    have hW := hbw
    refine lv_astore (lv' := [(4, .ref q9), (0, .ref (gA g 0)), (1, .int 8), (2, .int a), (3, .int b)]) hx hb dL_act_176 hl (by decide) rfl (fun ls hl => ?_)
    refine lv_bipush (v := (-71)) hx hb dL_act_178 (by decide) ?_
    refine W.widen (k := 1) (n := 6) (Nat.le_of_ble_eq_true rfl) (Nat.le_of_ble_eq_true rfl) ?_
    exact W.iret (v := (-71)) hx hb hr (fun t ht hW9 => ⟨⟨_, (), rfl, hr9.symm, by first | (rw [ht]; exact hW) | (dsimp only; rw [ht]; exact hW)⟩, hS.F ht⟩) hS.2.2 dL_act_180
  · skip
    replace hW : Wd g σ μ o H := by rw [← ht]; exact hW
    try dsimp only at h_10
    exact absurd (hk.symm.trans h_10.1) (by rw [hrr.1]; decide)
set_option maxHeartbeats 4000000 in
set_option maxRecDepth 100000 in
theorem mtL_act_9 (l : Launch) (g : Ge) (σ : Sg) (μ : Mg) (o : Nat → Int64) (hfl : l.stackTraces = false) (a b : Int32) (kk rr : Int32) (hk : kRem σ a = kk) (hrr : (kk = 1 ∧ rr = (-71))) : Met l yL_act wsL_act ({ frames := 8, cells := 1, slots := 6, locals := 133 } : Room) (va_Pc [.ref (gA g 0), .int 9, .int a, .int b] (PW g σ μ o)) (va_Qi (S := Unit) (fun r _ => r = rr) (fun _ t => Wd g σ μ o t.heap) (Az g)) 1 6 (Az g) := by
  refine va_MetW (cc := cL_act) (maxL := 5) (ret := (some .int)) (by decide) rfl ?_
  intro p e s m args below meth c s₁ B hml hv
  obtain ⟨rfl, hC, hW⟩ := hv
  have hx := B.exec
  have hb := B.bytes
  have hr := B.returns
  have hts := atoms_spec (ws := wsL_act) B.pre
  have hown : s.vm.findClass RL = some m.cls := findClass_of_methodNamed B.named
  have hlocks := B.notSynchronized
  have hS : va_S (Az g) s.heap s.heap [] := va_S.rf
  have hl := lv_entry ([.ref (gA g 0), .int 9, .int a, .int b]) (n := 5) (Nat.le_of_ble_eq_true rfl)
  rw [lg_entry_eq]
  generalize (lg_sl ([.ref (gA g 0), .int 9, .int a, .int b]) ++ List.replicate (5 - (lg_sl ([.ref (gA g 0), .int 9, .int a, .int b])).length) Slot.unset).toArray = ls at hl ⊢
  have hl : lv_has ls 5 [(0, .ref (gA g 0)), (1, .int 9), (2, .int a), (3, .int b)] := hl
  have htab := vx_table (x := yL_act) B (hts (.codeWith yL_act cL_act 5 (some .int) [(0, 175, 176, 60), (0, 175, 181, 13), (0, 175, 186, 15)] ) (by exact List.mem_cons_self))
  refine lv_iload_n hx hb dL_act_0 rfl (lv_at hl 1 rfl) ?_
  refine lv_if_ne (tgt := 12) hx hb dL_act_1 (by decide) (fun c_1 => ?_) (fun c_1 => absurd c_1 (by decide))
  refine lv_iload_n hx hb dL_act_12 rfl (lv_at hl 1 rfl) ?_
  refine lv_iconst (v := 1) hx hb dL_act_13 (by decide) ?_
  refine lv_icmp_ne (tgt := 26) hx hb dL_act_14 (by decide) (fun c_2 => ?_) (fun c_2 => absurd c_2 (by decide))
  refine lv_iload_n hx hb dL_act_26 rfl (lv_at hl 1 rfl) ?_
  refine lv_iconst (v := 2) hx hb dL_act_27 (by decide) ?_
  refine lv_icmp_ne (tgt := 39) hx hb dL_act_28 (by decide) (fun c_3 => ?_) (fun c_3 => absurd c_3 (by decide))
  refine lv_iload_n hx hb dL_act_39 rfl (lv_at hl 1 rfl) ?_
  refine lv_iconst (v := 3) hx hb dL_act_40 (by decide) ?_
  refine lv_icmp_ne (tgt := 52) hx hb dL_act_41 (by decide) (fun c_4 => ?_) (fun c_4 => absurd c_4 (by decide))
  refine lv_iload_n hx hb dL_act_52 rfl (lv_at hl 1 rfl) ?_
  refine lv_iconst (v := 4) hx hb dL_act_53 (by decide) ?_
  refine lv_icmp_ne (tgt := 66) hx hb dL_act_54 (by decide) (fun c_5 => ?_) (fun c_5 => absurd c_5 (by decide))
  refine lv_iload_n hx hb dL_act_66 rfl (lv_at hl 1 rfl) ?_
  refine lv_iconst (v := 5) hx hb dL_act_67 (by decide) ?_
  refine lv_icmp_ne (tgt := 78) hx hb dL_act_68 (by decide) (fun c_6 => ?_) (fun c_6 => absurd c_6 (by decide))
  refine lv_iload_n hx hb dL_act_78 rfl (lv_at hl 1 rfl) ?_
  refine lv_bipush (v := 6) hx hb dL_act_79 (by decide) ?_
  refine lv_icmp_ne (tgt := 91) hx hb dL_act_81 (by decide) (fun c_7 => ?_) (fun c_7 => absurd c_7 (by decide))
  refine lv_iload_n hx hb dL_act_91 rfl (lv_at hl 1 rfl) ?_
  refine lv_bipush (v := 7) hx hb dL_act_92 (by decide) ?_
  refine lv_icmp_ne (tgt := 113) hx hb dL_act_94 (by decide) (fun c_8 => ?_) (fun c_8 => absurd c_8 (by decide))
  refine lv_iload_n hx hb dL_act_113 rfl (lv_at hl 1 rfl) ?_
  refine lv_bipush (v := 8) hx hb dL_act_114 (by decide) ?_
  refine lv_icmp_ne (tgt := 127) hx hb dL_act_116 (by decide) (fun c_9 => ?_) (fun c_9 => absurd c_9 (by decide))
  refine lv_iload_n hx hb dL_act_127 rfl (lv_at hl 1 rfl) ?_
  refine lv_bipush (v := 9) hx hb dL_act_128 (by decide) ?_
  refine lv_icmp_ne (tgt := 141) hx hb dL_act_130 (by decide) (fun c_10 => absurd c_10 (by decide)) (fun c_10 => ?_)
  refine lv_aload_n hx hb dL_act_133 rfl (lv_at hl 0 rfl) ?_
  refine lv_iload_n hx hb dL_act_134 rfl (lv_at hl 2 rfl) ?_
  refine vx_calli (vx_runV (As := [.int a]) (rest := []) ⟨hx, hb, hml, hown, hts⟩ (mtX2_placeOf l hfl g σ μ o a) (cwV 1 hts gL_act_X2_placeOf rfl rfl rfl (by decide +kernel) ⟨Nat.le_of_ble_eq_true rfl, Nat.le_of_ble_eq_true rfl⟩) ⟨PW.blind, rcB hC hW, fun U hU hW9 => ⟨rfl, PW.at hC hS hW U hU hW9⟩⟩ rfl rfl hl.1 rfl (lv_room (Nat.le_of_ble_eq_true rfl)) dL_act_135 ⟨Nat.le_of_ble_eq_true rfl, Nat.le_of_ble_eq_true rfl⟩) hS (fun _ _ h => h) (fun _ h => h) (fun _ _ h => h) (fun E9 ce q9 u_13 t H locs ht hvm hpx hbx hz9 hk9 hS hce hcv hcl => ?_) (fun r_12 u_13 t H locs ht hvm h_11 hW hz9 hk9 hS => ?_)
  · skip
    obtain ⟨hbq, hbw⟩ := hbx
    try dsimp only at hbq
    replace hbw : Wd g σ μ o H := by rw [← ht]; exact hbw
    obtain ⟨rfl, hk9⟩ := hbq
    have e9 := hk.symm.trans hk9
    have hr9 : rr = (-71) := hrr.2
    refine vx_catch (own := RL) (name := "java/lang/IndexOutOfBoundsException") hown (tableOf []) ⟨0, 175, 176, 60⟩ (tableOf [(0, 175, 181, 13), (0, 175, 186, 15)]) (htab.trans rfl) (fun z hz => absurd hz List.not_mem_nil) (by decide) (by decide) (hts (.classLink RL 60 "java/lang/IndexOutOfBoundsException") (by decide +kernel)) (cast_w (E := xIO) hC.2.1 (by decide +kernel) (.castable xIO xIO) (by decide +kernel)) hce hcv hcl ?_
    have hW := hbw
    refine lv_astore (lv' := [(4, .ref q9), (0, .ref (gA g 0)), (1, .int 9), (2, .int a), (3, .int b)]) hx hb dL_act_176 hl (by decide) rfl (fun ls hl => ?_)
    refine lv_bipush (v := (-71)) hx hb dL_act_178 (by decide) ?_
    refine W.widen (k := 1) (n := 6) (Nat.le_of_ble_eq_true rfl) (Nat.le_of_ble_eq_true rfl) ?_
    exact W.iret (v := (-71)) hx hb hr (fun t ht hW9 => ⟨⟨_, (), rfl, hr9.symm, by first | (rw [ht]; exact hW) | (dsimp only; rw [ht]; exact hW)⟩, hS.F ht⟩) hS.2.2 dL_act_180
  · skip
    replace hW : Wd g σ μ o H := by rw [← ht]; exact hW
    try dsimp only at h_11
    exact absurd (hk.symm.trans h_11.1) (by rw [hrr.1]; decide)
set_option maxHeartbeats 4000000 in
set_option maxRecDepth 100000 in
theorem mtL_act_10 (l : Launch) (g : Ge) (σ : Sg) (μ : Mg) (o : Nat → Int64) (hfl : l.stackTraces = false) (a b : Int32) (kk rr : Int32) (hk : kRem σ a = kk) (hrr : (kk = 1 ∧ rr = (-71))) : Met l yL_act wsL_act ({ frames := 8, cells := 1, slots := 6, locals := 133 } : Room) (va_Pc [.ref (gA g 0), .int 10, .int a, .int b] (PW g σ μ o)) (va_Qi (S := Unit) (fun r _ => r = rr) (fun _ t => Wd g σ μ o t.heap) (Az g)) 1 6 (Az g) := by
  refine va_MetW (cc := cL_act) (maxL := 5) (ret := (some .int)) (by decide) rfl ?_
  intro p e s m args below meth c s₁ B hml hv
  obtain ⟨rfl, hC, hW⟩ := hv
  have hx := B.exec
  have hb := B.bytes
  have hr := B.returns
  have hts := atoms_spec (ws := wsL_act) B.pre
  have hown : s.vm.findClass RL = some m.cls := findClass_of_methodNamed B.named
  have hlocks := B.notSynchronized
  have hS : va_S (Az g) s.heap s.heap [] := va_S.rf
  have hl := lv_entry ([.ref (gA g 0), .int 10, .int a, .int b]) (n := 5) (Nat.le_of_ble_eq_true rfl)
  rw [lg_entry_eq]
  generalize (lg_sl ([.ref (gA g 0), .int 10, .int a, .int b]) ++ List.replicate (5 - (lg_sl ([.ref (gA g 0), .int 10, .int a, .int b])).length) Slot.unset).toArray = ls at hl ⊢
  have hl : lv_has ls 5 [(0, .ref (gA g 0)), (1, .int 10), (2, .int a), (3, .int b)] := hl
  have htab := vx_table (x := yL_act) B (hts (.codeWith yL_act cL_act 5 (some .int) [(0, 175, 176, 60), (0, 175, 181, 13), (0, 175, 186, 15)] ) (by exact List.mem_cons_self))
  refine lv_iload_n hx hb dL_act_0 rfl (lv_at hl 1 rfl) ?_
  refine lv_if_ne (tgt := 12) hx hb dL_act_1 (by decide) (fun c_1 => ?_) (fun c_1 => absurd c_1 (by decide))
  refine lv_iload_n hx hb dL_act_12 rfl (lv_at hl 1 rfl) ?_
  refine lv_iconst (v := 1) hx hb dL_act_13 (by decide) ?_
  refine lv_icmp_ne (tgt := 26) hx hb dL_act_14 (by decide) (fun c_2 => ?_) (fun c_2 => absurd c_2 (by decide))
  refine lv_iload_n hx hb dL_act_26 rfl (lv_at hl 1 rfl) ?_
  refine lv_iconst (v := 2) hx hb dL_act_27 (by decide) ?_
  refine lv_icmp_ne (tgt := 39) hx hb dL_act_28 (by decide) (fun c_3 => ?_) (fun c_3 => absurd c_3 (by decide))
  refine lv_iload_n hx hb dL_act_39 rfl (lv_at hl 1 rfl) ?_
  refine lv_iconst (v := 3) hx hb dL_act_40 (by decide) ?_
  refine lv_icmp_ne (tgt := 52) hx hb dL_act_41 (by decide) (fun c_4 => ?_) (fun c_4 => absurd c_4 (by decide))
  refine lv_iload_n hx hb dL_act_52 rfl (lv_at hl 1 rfl) ?_
  refine lv_iconst (v := 4) hx hb dL_act_53 (by decide) ?_
  refine lv_icmp_ne (tgt := 66) hx hb dL_act_54 (by decide) (fun c_5 => ?_) (fun c_5 => absurd c_5 (by decide))
  refine lv_iload_n hx hb dL_act_66 rfl (lv_at hl 1 rfl) ?_
  refine lv_iconst (v := 5) hx hb dL_act_67 (by decide) ?_
  refine lv_icmp_ne (tgt := 78) hx hb dL_act_68 (by decide) (fun c_6 => ?_) (fun c_6 => absurd c_6 (by decide))
  refine lv_iload_n hx hb dL_act_78 rfl (lv_at hl 1 rfl) ?_
  refine lv_bipush (v := 6) hx hb dL_act_79 (by decide) ?_
  refine lv_icmp_ne (tgt := 91) hx hb dL_act_81 (by decide) (fun c_7 => ?_) (fun c_7 => absurd c_7 (by decide))
  refine lv_iload_n hx hb dL_act_91 rfl (lv_at hl 1 rfl) ?_
  refine lv_bipush (v := 7) hx hb dL_act_92 (by decide) ?_
  refine lv_icmp_ne (tgt := 113) hx hb dL_act_94 (by decide) (fun c_8 => ?_) (fun c_8 => absurd c_8 (by decide))
  refine lv_iload_n hx hb dL_act_113 rfl (lv_at hl 1 rfl) ?_
  refine lv_bipush (v := 8) hx hb dL_act_114 (by decide) ?_
  refine lv_icmp_ne (tgt := 127) hx hb dL_act_116 (by decide) (fun c_9 => ?_) (fun c_9 => absurd c_9 (by decide))
  refine lv_iload_n hx hb dL_act_127 rfl (lv_at hl 1 rfl) ?_
  refine lv_bipush (v := 9) hx hb dL_act_128 (by decide) ?_
  refine lv_icmp_ne (tgt := 141) hx hb dL_act_130 (by decide) (fun c_10 => ?_) (fun c_10 => absurd c_10 (by decide))
  refine lv_iload_n hx hb dL_act_141 rfl (lv_at hl 1 rfl) ?_
  refine lv_bipush (v := 10) hx hb dL_act_142 (by decide) ?_
  refine lv_icmp_ne (tgt := 155) hx hb dL_act_144 (by decide) (fun c_11 => absurd c_11 (by decide)) (fun c_11 => ?_)
  refine lv_aload_n hx hb dL_act_147 rfl (lv_at hl 0 rfl) ?_
  refine lv_iload_n hx hb dL_act_148 rfl (lv_at hl 2 rfl) ?_
  refine vx_calli (vx_runV (As := [.int a]) (rest := []) ⟨hx, hb, hml, hown, hts⟩ (mtX2_tries l hfl g σ μ o a) (cwV 1 hts gL_act_X2_tries rfl rfl rfl (by decide +kernel) ⟨Nat.le_of_ble_eq_true rfl, Nat.le_of_ble_eq_true rfl⟩) ⟨PW.blind, rcB hC hW, fun U hU hW9 => ⟨rfl, PW.at hC hS hW U hU hW9⟩⟩ rfl rfl hl.1 rfl (lv_room (Nat.le_of_ble_eq_true rfl)) dL_act_149 ⟨Nat.le_of_ble_eq_true rfl, Nat.le_of_ble_eq_true rfl⟩) hS (fun _ _ h => h) (fun _ h => h) (fun _ _ h => h) (fun E9 ce q9 u_14 t H locs ht hvm hpx hbx hz9 hk9 hS hce hcv hcl => ?_) (fun r_13 u_14 t H locs ht hvm h_12 hW hz9 hk9 hS => ?_)
  · skip
    obtain ⟨hbq, hbw⟩ := hbx
    try dsimp only at hbq
    replace hbw : Wd g σ μ o H := by rw [← ht]; exact hbw
    obtain ⟨rfl, hk9⟩ := hbq
    have e9 := hk.symm.trans hk9
    have hr9 : rr = (-71) := hrr.2
    refine vx_catch (own := RL) (name := "java/lang/IndexOutOfBoundsException") hown (tableOf []) ⟨0, 175, 176, 60⟩ (tableOf [(0, 175, 181, 13), (0, 175, 186, 15)]) (htab.trans rfl) (fun z hz => absurd hz List.not_mem_nil) (by decide) (by decide) (hts (.classLink RL 60 "java/lang/IndexOutOfBoundsException") (by decide +kernel)) (cast_w (E := xIO) hC.2.1 (by decide +kernel) (.castable xIO xIO) (by decide +kernel)) hce hcv hcl ?_
    have hW := hbw
    refine lv_astore (lv' := [(4, .ref q9), (0, .ref (gA g 0)), (1, .int 10), (2, .int a), (3, .int b)]) hx hb dL_act_176 hl (by decide) rfl (fun ls hl => ?_)
    refine lv_bipush (v := (-71)) hx hb dL_act_178 (by decide) ?_
    refine W.widen (k := 1) (n := 6) (Nat.le_of_ble_eq_true rfl) (Nat.le_of_ble_eq_true rfl) ?_
    exact W.iret (v := (-71)) hx hb hr (fun t ht hW9 => ⟨⟨_, (), rfl, hr9.symm, by first | (rw [ht]; exact hW) | (dsimp only; rw [ht]; exact hW)⟩, hS.F ht⟩) hS.2.2 dL_act_180
  · skip
    replace hW : Wd g σ μ o H := by rw [← ht]; exact hW
    try dsimp only at h_12
    exact absurd (hk.symm.trans h_12.1) (by rw [hrr.1]; decide)
set_option maxHeartbeats 4000000 in
set_option maxRecDepth 100000 in
theorem mtL_act_11 (l : Launch) (g : Ge) (σ : Sg) (μ : Mg) (o : Nat → Int64) (hfl : l.stackTraces = false) (a b : Int32) (kk rr : Int32) (hk : kCm σ a b = kk) (hrr : (kk = 1 ∧ rr = (-71))) : Met l yL_act wsL_act ({ frames := 8, cells := 2, slots := 12, locals := 136 } : Room) (va_Pc [.ref (gA g 0), .int 11, .int a, .int b] (PW g σ μ o)) (va_Qi (S := Unit) (fun r _ => r = rr) (fun _ t => Wd g σ μ o t.heap) (Az g)) 2 12 (Az g) := by
  refine va_MetW (cc := cL_act) (maxL := 5) (ret := (some .int)) (by decide) rfl ?_
  intro p e s m args below meth c s₁ B hml hv
  obtain ⟨rfl, hC, hW⟩ := hv
  have hx := B.exec
  have hb := B.bytes
  have hr := B.returns
  have hts := atoms_spec (ws := wsL_act) B.pre
  have hown : s.vm.findClass RL = some m.cls := findClass_of_methodNamed B.named
  have hlocks := B.notSynchronized
  have hS : va_S (Az g) s.heap s.heap [] := va_S.rf
  have hl := lv_entry ([.ref (gA g 0), .int 11, .int a, .int b]) (n := 5) (Nat.le_of_ble_eq_true rfl)
  rw [lg_entry_eq]
  generalize (lg_sl ([.ref (gA g 0), .int 11, .int a, .int b]) ++ List.replicate (5 - (lg_sl ([.ref (gA g 0), .int 11, .int a, .int b])).length) Slot.unset).toArray = ls at hl ⊢
  have hl : lv_has ls 5 [(0, .ref (gA g 0)), (1, .int 11), (2, .int a), (3, .int b)] := hl
  have htab := vx_table (x := yL_act) B (hts (.codeWith yL_act cL_act 5 (some .int) [(0, 175, 176, 60), (0, 175, 181, 13), (0, 175, 186, 15)] ) (by exact List.mem_cons_self))
  refine lv_iload_n hx hb dL_act_0 rfl (lv_at hl 1 rfl) ?_
  refine lv_if_ne (tgt := 12) hx hb dL_act_1 (by decide) (fun c_1 => ?_) (fun c_1 => absurd c_1 (by decide))
  refine lv_iload_n hx hb dL_act_12 rfl (lv_at hl 1 rfl) ?_
  refine lv_iconst (v := 1) hx hb dL_act_13 (by decide) ?_
  refine lv_icmp_ne (tgt := 26) hx hb dL_act_14 (by decide) (fun c_2 => ?_) (fun c_2 => absurd c_2 (by decide))
  refine lv_iload_n hx hb dL_act_26 rfl (lv_at hl 1 rfl) ?_
  refine lv_iconst (v := 2) hx hb dL_act_27 (by decide) ?_
  refine lv_icmp_ne (tgt := 39) hx hb dL_act_28 (by decide) (fun c_3 => ?_) (fun c_3 => absurd c_3 (by decide))
  refine lv_iload_n hx hb dL_act_39 rfl (lv_at hl 1 rfl) ?_
  refine lv_iconst (v := 3) hx hb dL_act_40 (by decide) ?_
  refine lv_icmp_ne (tgt := 52) hx hb dL_act_41 (by decide) (fun c_4 => ?_) (fun c_4 => absurd c_4 (by decide))
  refine lv_iload_n hx hb dL_act_52 rfl (lv_at hl 1 rfl) ?_
  refine lv_iconst (v := 4) hx hb dL_act_53 (by decide) ?_
  refine lv_icmp_ne (tgt := 66) hx hb dL_act_54 (by decide) (fun c_5 => ?_) (fun c_5 => absurd c_5 (by decide))
  refine lv_iload_n hx hb dL_act_66 rfl (lv_at hl 1 rfl) ?_
  refine lv_iconst (v := 5) hx hb dL_act_67 (by decide) ?_
  refine lv_icmp_ne (tgt := 78) hx hb dL_act_68 (by decide) (fun c_6 => ?_) (fun c_6 => absurd c_6 (by decide))
  refine lv_iload_n hx hb dL_act_78 rfl (lv_at hl 1 rfl) ?_
  refine lv_bipush (v := 6) hx hb dL_act_79 (by decide) ?_
  refine lv_icmp_ne (tgt := 91) hx hb dL_act_81 (by decide) (fun c_7 => ?_) (fun c_7 => absurd c_7 (by decide))
  refine lv_iload_n hx hb dL_act_91 rfl (lv_at hl 1 rfl) ?_
  refine lv_bipush (v := 7) hx hb dL_act_92 (by decide) ?_
  refine lv_icmp_ne (tgt := 113) hx hb dL_act_94 (by decide) (fun c_8 => ?_) (fun c_8 => absurd c_8 (by decide))
  refine lv_iload_n hx hb dL_act_113 rfl (lv_at hl 1 rfl) ?_
  refine lv_bipush (v := 8) hx hb dL_act_114 (by decide) ?_
  refine lv_icmp_ne (tgt := 127) hx hb dL_act_116 (by decide) (fun c_9 => ?_) (fun c_9 => absurd c_9 (by decide))
  refine lv_iload_n hx hb dL_act_127 rfl (lv_at hl 1 rfl) ?_
  refine lv_bipush (v := 9) hx hb dL_act_128 (by decide) ?_
  refine lv_icmp_ne (tgt := 141) hx hb dL_act_130 (by decide) (fun c_10 => ?_) (fun c_10 => absurd c_10 (by decide))
  refine lv_iload_n hx hb dL_act_141 rfl (lv_at hl 1 rfl) ?_
  refine lv_bipush (v := 10) hx hb dL_act_142 (by decide) ?_
  refine lv_icmp_ne (tgt := 155) hx hb dL_act_144 (by decide) (fun c_11 => ?_) (fun c_11 => absurd c_11 (by decide))
  refine lv_iload_n hx hb dL_act_155 rfl (lv_at hl 1 rfl) ?_
  refine lv_bipush (v := 11) hx hb dL_act_156 (by decide) ?_
  refine lv_icmp_ne (tgt := 170) hx hb dL_act_158 (by decide) (fun c_12 => absurd c_12 (by decide)) (fun c_12 => ?_)
  refine lv_aload_n hx hb dL_act_161 rfl (lv_at hl 0 rfl) ?_
  refine lv_iload_n hx hb dL_act_162 rfl (lv_at hl 2 rfl) ?_
  refine lv_iload_n hx hb dL_act_163 rfl (lv_at hl 3 rfl) ?_
  refine vx_calli (vx_runV (As := [.int a, .int b]) (rest := []) ⟨hx, hb, hml, hown, hts⟩ (mtX2_compare l hfl g σ μ o a b) (cwV 2 hts gL_act_X2_compare rfl rfl rfl (by decide +kernel) ⟨Nat.le_of_ble_eq_true rfl, Nat.le_of_ble_eq_true rfl⟩) ⟨PW.blind, rcB hC hW, fun U hU hW9 => ⟨rfl, PW.at hC hS hW U hU hW9⟩⟩ rfl rfl hl.1 rfl (lv_room (Nat.le_of_ble_eq_true rfl)) dL_act_164 ⟨Nat.le_of_ble_eq_true rfl, Nat.le_of_ble_eq_true rfl⟩) hS (fun _ _ h => h) (fun _ h => h) (fun _ _ h => h) (fun E9 ce q9 u_15 t H locs ht hvm hpx hbx hz9 hk9 hS hce hcv hcl => ?_) (fun r_14 u_15 t H locs ht hvm h_13 hW hz9 hk9 hS => ?_)
  · skip
    obtain ⟨hbq, hbw⟩ := hbx
    try dsimp only at hbq
    replace hbw : Wd g σ μ o H := by rw [← ht]; exact hbw
    obtain ⟨rfl, hk9⟩ := hbq
    have e9 := hk.symm.trans hk9
    have hr9 : rr = (-71) := hrr.2
    refine vx_catch (own := RL) (name := "java/lang/IndexOutOfBoundsException") hown (tableOf []) ⟨0, 175, 176, 60⟩ (tableOf [(0, 175, 181, 13), (0, 175, 186, 15)]) (htab.trans rfl) (fun z hz => absurd hz List.not_mem_nil) (by decide) (by decide) (hts (.classLink RL 60 "java/lang/IndexOutOfBoundsException") (by decide +kernel)) (cast_w (E := xIO) hC.2.1 (by decide +kernel) (.castable xIO xIO) (by decide +kernel)) hce hcv hcl ?_
    have hW := hbw
    refine lv_astore (lv' := [(4, .ref q9), (0, .ref (gA g 0)), (1, .int 11), (2, .int a), (3, .int b)]) hx hb dL_act_176 hl (by decide) rfl (fun ls hl => ?_)
    refine lv_bipush (v := (-71)) hx hb dL_act_178 (by decide) ?_
    refine W.widen (k := 2) (n := 12) (Nat.le_of_ble_eq_true rfl) (Nat.le_of_ble_eq_true rfl) ?_
    exact W.iret (v := (-71)) hx hb hr (fun t ht hW9 => ⟨⟨_, (), rfl, hr9.symm, by first | (rw [ht]; exact hW) | (dsimp only; rw [ht]; exact hW)⟩, hS.F ht⟩) hS.2.2 dL_act_180
  · skip
    replace hW : Wd g σ μ o H := by rw [← ht]; exact hW
    try dsimp only at h_13
    exact absurd (hk.symm.trans h_13.1) (by rw [hrr.1]; decide)
set_option maxHeartbeats 4000000 in
set_option maxRecDepth 100000 in
theorem mtL_act_12 (l : Launch) (g : Ge) (σ : Sg) (μ : Mg) (o : Nat → Int64) (hfl : l.stackTraces = false) (a b : Int32) (kk rr : Int32) (hk : kRem σ a = kk) (hrr : (kk = 1 ∧ rr = (-71))) : Met l yL_act wsL_act ({ frames := 8, cells := 1, slots := 6, locals := 133 } : Room) (va_Pc [.ref (gA g 0), .int 12, .int a, .int b] (PW g σ μ o)) (va_Qi (S := Unit) (fun r _ => r = rr) (fun _ t => Wd g σ μ o t.heap) (Az g)) 1 6 (Az g) := by
  refine va_MetW (cc := cL_act) (maxL := 5) (ret := (some .int)) (by decide) rfl ?_
  intro p e s m args below meth c s₁ B hml hv
  obtain ⟨rfl, hC, hW⟩ := hv
  have hx := B.exec
  have hb := B.bytes
  have hr := B.returns
  have hts := atoms_spec (ws := wsL_act) B.pre
  have hown : s.vm.findClass RL = some m.cls := findClass_of_methodNamed B.named
  have hlocks := B.notSynchronized
  have hS : va_S (Az g) s.heap s.heap [] := va_S.rf
  have hl := lv_entry ([.ref (gA g 0), .int 12, .int a, .int b]) (n := 5) (Nat.le_of_ble_eq_true rfl)
  rw [lg_entry_eq]
  generalize (lg_sl ([.ref (gA g 0), .int 12, .int a, .int b]) ++ List.replicate (5 - (lg_sl ([.ref (gA g 0), .int 12, .int a, .int b])).length) Slot.unset).toArray = ls at hl ⊢
  have hl : lv_has ls 5 [(0, .ref (gA g 0)), (1, .int 12), (2, .int a), (3, .int b)] := hl
  have htab := vx_table (x := yL_act) B (hts (.codeWith yL_act cL_act 5 (some .int) [(0, 175, 176, 60), (0, 175, 181, 13), (0, 175, 186, 15)] ) (by exact List.mem_cons_self))
  refine lv_iload_n hx hb dL_act_0 rfl (lv_at hl 1 rfl) ?_
  refine lv_if_ne (tgt := 12) hx hb dL_act_1 (by decide) (fun c_1 => ?_) (fun c_1 => absurd c_1 (by decide))
  refine lv_iload_n hx hb dL_act_12 rfl (lv_at hl 1 rfl) ?_
  refine lv_iconst (v := 1) hx hb dL_act_13 (by decide) ?_
  refine lv_icmp_ne (tgt := 26) hx hb dL_act_14 (by decide) (fun c_2 => ?_) (fun c_2 => absurd c_2 (by decide))
  refine lv_iload_n hx hb dL_act_26 rfl (lv_at hl 1 rfl) ?_
  refine lv_iconst (v := 2) hx hb dL_act_27 (by decide) ?_
  refine lv_icmp_ne (tgt := 39) hx hb dL_act_28 (by decide) (fun c_3 => ?_) (fun c_3 => absurd c_3 (by decide))
  refine lv_iload_n hx hb dL_act_39 rfl (lv_at hl 1 rfl) ?_
  refine lv_iconst (v := 3) hx hb dL_act_40 (by decide) ?_
  refine lv_icmp_ne (tgt := 52) hx hb dL_act_41 (by decide) (fun c_4 => ?_) (fun c_4 => absurd c_4 (by decide))
  refine lv_iload_n hx hb dL_act_52 rfl (lv_at hl 1 rfl) ?_
  refine lv_iconst (v := 4) hx hb dL_act_53 (by decide) ?_
  refine lv_icmp_ne (tgt := 66) hx hb dL_act_54 (by decide) (fun c_5 => ?_) (fun c_5 => absurd c_5 (by decide))
  refine lv_iload_n hx hb dL_act_66 rfl (lv_at hl 1 rfl) ?_
  refine lv_iconst (v := 5) hx hb dL_act_67 (by decide) ?_
  refine lv_icmp_ne (tgt := 78) hx hb dL_act_68 (by decide) (fun c_6 => ?_) (fun c_6 => absurd c_6 (by decide))
  refine lv_iload_n hx hb dL_act_78 rfl (lv_at hl 1 rfl) ?_
  refine lv_bipush (v := 6) hx hb dL_act_79 (by decide) ?_
  refine lv_icmp_ne (tgt := 91) hx hb dL_act_81 (by decide) (fun c_7 => ?_) (fun c_7 => absurd c_7 (by decide))
  refine lv_iload_n hx hb dL_act_91 rfl (lv_at hl 1 rfl) ?_
  refine lv_bipush (v := 7) hx hb dL_act_92 (by decide) ?_
  refine lv_icmp_ne (tgt := 113) hx hb dL_act_94 (by decide) (fun c_8 => ?_) (fun c_8 => absurd c_8 (by decide))
  refine lv_iload_n hx hb dL_act_113 rfl (lv_at hl 1 rfl) ?_
  refine lv_bipush (v := 8) hx hb dL_act_114 (by decide) ?_
  refine lv_icmp_ne (tgt := 127) hx hb dL_act_116 (by decide) (fun c_9 => ?_) (fun c_9 => absurd c_9 (by decide))
  refine lv_iload_n hx hb dL_act_127 rfl (lv_at hl 1 rfl) ?_
  refine lv_bipush (v := 9) hx hb dL_act_128 (by decide) ?_
  refine lv_icmp_ne (tgt := 141) hx hb dL_act_130 (by decide) (fun c_10 => ?_) (fun c_10 => absurd c_10 (by decide))
  refine lv_iload_n hx hb dL_act_141 rfl (lv_at hl 1 rfl) ?_
  refine lv_bipush (v := 10) hx hb dL_act_142 (by decide) ?_
  refine lv_icmp_ne (tgt := 155) hx hb dL_act_144 (by decide) (fun c_11 => ?_) (fun c_11 => absurd c_11 (by decide))
  refine lv_iload_n hx hb dL_act_155 rfl (lv_at hl 1 rfl) ?_
  refine lv_bipush (v := 11) hx hb dL_act_156 (by decide) ?_
  refine lv_icmp_ne (tgt := 170) hx hb dL_act_158 (by decide) (fun c_12 => ?_) (fun c_12 => absurd c_12 (by decide))
  refine lv_aload_n hx hb dL_act_170 rfl (lv_at hl 0 rfl) ?_
  refine lv_iload_n hx hb dL_act_171 rfl (lv_at hl 2 rfl) ?_
  refine vx_calli (vx_runV (As := [.int a]) (rest := []) ⟨hx, hb, hml, hown, hts⟩ (mtX2_foretold l hfl g σ μ o a) (cwV 1 hts gL_act_X2_foretold rfl rfl rfl (by decide +kernel) ⟨Nat.le_of_ble_eq_true rfl, Nat.le_of_ble_eq_true rfl⟩) ⟨PW.blind, rcB hC hW, fun U hU hW9 => ⟨rfl, PW.at hC hS hW U hU hW9⟩⟩ rfl rfl hl.1 rfl (lv_room (Nat.le_of_ble_eq_true rfl)) dL_act_172 ⟨Nat.le_of_ble_eq_true rfl, Nat.le_of_ble_eq_true rfl⟩) hS (fun _ _ h => h) (fun _ h => h) (fun _ _ h => h) (fun E9 ce q9 u_15 t H locs ht hvm hpx hbx hz9 hk9 hS hce hcv hcl => ?_) (fun r_14 u_15 t H locs ht hvm h_13 hW hz9 hk9 hS => ?_)
  · skip
    obtain ⟨hbq, hbw⟩ := hbx
    try dsimp only at hbq
    replace hbw : Wd g σ μ o H := by rw [← ht]; exact hbw
    obtain ⟨rfl, hk9⟩ := hbq
    have e9 := hk.symm.trans hk9
    have hr9 : rr = (-71) := hrr.2
    refine vx_catch (own := RL) (name := "java/lang/IndexOutOfBoundsException") hown (tableOf []) ⟨0, 175, 176, 60⟩ (tableOf [(0, 175, 181, 13), (0, 175, 186, 15)]) (htab.trans rfl) (fun z hz => absurd hz List.not_mem_nil) (by decide) (by decide) (hts (.classLink RL 60 "java/lang/IndexOutOfBoundsException") (by decide +kernel)) (cast_w (E := xIO) hC.2.1 (by decide +kernel) (.castable xIO xIO) (by decide +kernel)) hce hcv hcl ?_
    have hW := hbw
    refine lv_astore (lv' := [(4, .ref q9), (0, .ref (gA g 0)), (1, .int 12), (2, .int a), (3, .int b)]) hx hb dL_act_176 hl (by decide) rfl (fun ls hl => ?_)
    refine lv_bipush (v := (-71)) hx hb dL_act_178 (by decide) ?_
    refine W.widen (k := 1) (n := 6) (Nat.le_of_ble_eq_true rfl) (Nat.le_of_ble_eq_true rfl) ?_
    exact W.iret (v := (-71)) hx hb hr (fun t ht hW9 => ⟨⟨_, (), rfl, hr9.symm, by first | (rw [ht]; exact hW) | (dsimp only; rw [ht]; exact hW)⟩, hS.F ht⟩) hS.2.2 dL_act_180
  · skip
    replace hW : Wd g σ μ o H := by rw [← ht]; exact hW
    try dsimp only at h_13
    exact absurd (hk.symm.trans h_13.1) (by rw [hrr.1]; decide)
end
section
set_option maxHeartbeats 4000000 in
set_option maxRecDepth 100000 in
theorem mtL_lockR (l : Launch) (g : Ge) (σ : Sg) (μ : Mg) (o : Nat → Int64) (hfl : l.stackTraces = false) (code many : Int32) (kk rr : Int32) (hk : kLo σ code many = kk) (hrr : (kk = 1 ∧ rr = (-72)) ∨ (kk = 2 ∧ rr = (-73))) : Met l yL_lock wsL_lock ({ frames := 8, cells := 2, slots := 12, locals := 132 } : Room) (va_Pc [.ref (gA g 0), .int code, .int many] (PW g σ μ o)) (va_Qi (S := Unit) (fun r _ => r = rr) (fun _ t => Wd g σ μ o t.heap) (Az g)) 2 12 (Az g) := by
  refine va_MetW (cc := cL_lock) (maxL := 4) (ret := (some .int)) (by decide) rfl ?_
  intro p e s m args below meth c s₁ B hml hv
  obtain ⟨rfl, hC, hW⟩ := hv
  have hx := B.exec
  have hb := B.bytes
  have hr := B.returns
  have hts := atoms_spec (ws := wsL_lock) B.pre
  have hown : s.vm.findClass RL = some m.cls := findClass_of_methodNamed B.named
  have hlocks := B.notSynchronized
  have hS : va_S (Az g) s.heap s.heap [] := va_S.rf
  have hl := lv_entry ([.ref (gA g 0), .int code, .int many]) (n := 4) (Nat.le_of_ble_eq_true rfl)
  rw [lg_entry_eq]
  generalize (lg_sl ([.ref (gA g 0), .int code, .int many]) ++ List.replicate (4 - (lg_sl ([.ref (gA g 0), .int code, .int many])).length) Slot.unset).toArray = ls at hl ⊢
  have hl : lv_has ls 4 [(0, .ref (gA g 0)), (1, .int code), (2, .int many)] := hl
  have htab := vx_table (x := yL_lock) B (hts (.codeWith yL_lock cL_lock 4 (some .int) [(0, 7, 8, 13), (0, 7, 12, 15)] ) (by exact List.mem_cons_self))
  refine lv_aload_n hx hb dL_lock_0 rfl (lv_at hl 0 rfl) ?_
  refine lv_iload_n hx hb dL_lock_1 rfl (lv_at hl 1 rfl) ?_
  refine lv_iload_n hx hb dL_lock_2 rfl (lv_at hl 2 rfl) ?_
  refine vx_callv (vx_runV (As := [.int code, .int many]) (rest := []) ⟨hx, hb, hml, hown, hts⟩ (mtX2_lock l hfl g σ μ o code many) (cwV 2 hts gL_lock_X2_lock rfl rfl rfl (by decide +kernel) ⟨Nat.le_of_ble_eq_true rfl, Nat.le_of_ble_eq_true rfl⟩) ⟨PW.blind, rcB hC hW, fun U hU hW9 => ⟨rfl, PW.at hC hS hW U hU hW9⟩⟩ rfl rfl hl.1 rfl (lv_room (Nat.le_of_ble_eq_true rfl)) dL_lock_3 ⟨Nat.le_of_ble_eq_true rfl, Nat.le_of_ble_eq_true rfl⟩) hS (fun _ _ h => h) (fun _ h => h) (fun _ _ h => h) (fun E9 ce q9 u_3 t H locs ht hvm hpx hbx hz9 hk9 hS hce hcv hcl => ?_) (fun u_3 t H locs ht hvm h_1 hW hz9 hk9 hS => ?_)
  · skip
    obtain ⟨hbq, hbw⟩ := hbx
    try dsimp only at hbq
    replace hbw : Wd g σ μ o H := by rw [← ht]; exact hbw
    rcases hbq with hbq | hbq
    · skip
      obtain ⟨rfl, hk9⟩ := hbq
      have e9 := hk.symm.trans hk9
      have hr9 : rr = (-72) := by rcases hrr with ⟨h1, h2⟩ | ⟨h1, h2⟩ <;> first | exact h2 | exact absurd (h1.symm.trans e9) (by decide)
      refine vx_catch (own := RL) (name := "java/lang/IllegalArgumentException") hown (tableOf []) ⟨0, 7, 8, 13⟩ (tableOf [(0, 7, 12, 15)]) (htab.trans rfl) (fun z hz => absurd hz List.not_mem_nil) (by decide) (by decide) (hts (.classLink RL 13 "java/lang/IllegalArgumentException") (by decide +kernel)) (cast_w (E := xIA) hC.2.1 (by decide +kernel) (.castable xIA xIA) (by decide +kernel)) hce hcv hcl ?_
      have hW := hbw
      refine lv_astore_n (lv' := [(3, .ref q9), (0, .ref (gA g 0)), (1, .int code), (2, .int many)]) hx hb dL_lock_8 rfl hl (by decide) rfl (fun ls hl => ?_)
      refine lv_bipush (v := (-72)) hx hb dL_lock_9 (by decide) ?_
      refine W.widen (k := 2) (n := 12) (Nat.le_of_ble_eq_true rfl) (Nat.le_of_ble_eq_true rfl) ?_
      exact W.iret (v := (-72)) hx hb hr (fun t ht hW9 => ⟨⟨_, (), rfl, hr9.symm, by first | (rw [ht]; exact hW) | (dsimp only; rw [ht]; exact hW)⟩, hS.F ht⟩) hS.2.2 dL_lock_11
    · skip
      obtain ⟨rfl, hk9⟩ := hbq
      have e9 := hk.symm.trans hk9
      have hr9 : rr = (-73) := by rcases hrr with ⟨h1, h2⟩ | ⟨h1, h2⟩ <;> first | exact h2 | exact absurd (h1.symm.trans e9) (by decide)
      refine vx_catch (own := RL) (name := "java/lang/IllegalStateException") hown (tableOf [(0, 7, 8, 13)]) ⟨0, 7, 12, 15⟩ (tableOf []) (htab.trans rfl) (List.forall_mem_cons.mpr ⟨Or.inr ⟨by decide, "java/lang/IllegalArgumentException", hts (.classLink RL 13 "java/lang/IllegalArgumentException") (by decide +kernel), hC.2.1.2.2.2 (xIS, xIA) (by decide +kernel)⟩, (fun z hz => absurd hz List.not_mem_nil)⟩) (by decide) (by decide) (hts (.classLink RL 15 "java/lang/IllegalStateException") (by decide +kernel)) (cast_w (E := xIS) hC.2.1 (by decide +kernel) (.castable xIS xIS) (by decide +kernel)) hce hcv hcl ?_
      have hW := hbw
      refine lv_astore_n (lv' := [(3, .ref q9), (0, .ref (gA g 0)), (1, .int code), (2, .int many)]) hx hb dL_lock_12 rfl hl (by decide) rfl (fun ls hl => ?_)
      refine lv_bipush (v := (-73)) hx hb dL_lock_13 (by decide) ?_
      refine W.widen (k := 2) (n := 12) (Nat.le_of_ble_eq_true rfl) (Nat.le_of_ble_eq_true rfl) ?_
      exact W.iret (v := (-73)) hx hb hr (fun t ht hW9 => ⟨⟨_, (), rfl, hr9.symm, by first | (rw [ht]; exact hW) | (dsimp only; rw [ht]; exact hW)⟩, hS.F ht⟩) hS.2.2 dL_lock_15
  · skip
    replace hW : Wd g ((σ.1, σ.2.1, upd (upd (upd (upd σ.2.2.1 0 1) 1 code) 2 many) 3 0, σ.2.2.2)) μ o H := by rw [← ht]; exact hW
    try dsimp only at h_1
    exact absurd (hk.symm.trans h_1) (by rcases hrr with ⟨h1, h2⟩ | ⟨h1, h2⟩ <;> rw [h1] <;> decide)
set_option maxHeartbeats 4000000 in
set_option maxRecDepth 100000 in
theorem mtL_lockS (l : Launch) (g : Ge) (σ : Sg) (μ : Mg) (o : Nat → Int64) (hfl : l.stackTraces = false) (code many : Int32) (hk : kLo σ code many = 0)  : Met l yL_lock wsL_lock ({ frames := 8, cells := 2, slots := 12, locals := 132 } : Room) (va_Pc [.ref (gA g 0), .int code, .int many] (PW g σ μ o)) (va_Qi (S := Unit) (fun r _ => r = 0) (fun _ t => Wd g (σ.1, σ.2.1, upd (upd (upd (upd σ.2.2.1 0 1) 1 code) 2 many) 3 0, σ.2.2.2) μ o t.heap) (Az g)) 2 12 (Az g) := by
  refine va_MetW (cc := cL_lock) (maxL := 4) (ret := (some .int)) (by decide) rfl ?_
  intro p e s m args below meth c s₁ B hml hv
  obtain ⟨rfl, hC, hW⟩ := hv
  have hx := B.exec
  have hb := B.bytes
  have hr := B.returns
  have hts := atoms_spec (ws := wsL_lock) B.pre
  have hown : s.vm.findClass RL = some m.cls := findClass_of_methodNamed B.named
  have hlocks := B.notSynchronized
  have hS : va_S (Az g) s.heap s.heap [] := va_S.rf
  have hl := lv_entry ([.ref (gA g 0), .int code, .int many]) (n := 4) (Nat.le_of_ble_eq_true rfl)
  rw [lg_entry_eq]
  generalize (lg_sl ([.ref (gA g 0), .int code, .int many]) ++ List.replicate (4 - (lg_sl ([.ref (gA g 0), .int code, .int many])).length) Slot.unset).toArray = ls at hl ⊢
  have hl : lv_has ls 4 [(0, .ref (gA g 0)), (1, .int code), (2, .int many)] := hl
  have htab := vx_table (x := yL_lock) B (hts (.codeWith yL_lock cL_lock 4 (some .int) [(0, 7, 8, 13), (0, 7, 12, 15)] ) (by exact List.mem_cons_self))
  refine lv_aload_n hx hb dL_lock_0 rfl (lv_at hl 0 rfl) ?_
  refine lv_iload_n hx hb dL_lock_1 rfl (lv_at hl 1 rfl) ?_
  refine lv_iload_n hx hb dL_lock_2 rfl (lv_at hl 2 rfl) ?_
  refine vx_callv (vx_runV (As := [.int code, .int many]) (rest := []) ⟨hx, hb, hml, hown, hts⟩ (mtX2_lock l hfl g σ μ o code many) (cwV 2 hts gL_lock_X2_lock rfl rfl rfl (by decide +kernel) ⟨Nat.le_of_ble_eq_true rfl, Nat.le_of_ble_eq_true rfl⟩) ⟨PW.blind, rcB hC hW, fun U hU hW9 => ⟨rfl, PW.at hC hS hW U hU hW9⟩⟩ rfl rfl hl.1 rfl (lv_room (Nat.le_of_ble_eq_true rfl)) dL_lock_3 ⟨Nat.le_of_ble_eq_true rfl, Nat.le_of_ble_eq_true rfl⟩) hS (fun _ _ h => h) (fun _ h => h) (fun _ _ h => h) (fun E9 ce q9 u_3 t H locs ht hvm hpx hbx hz9 hk9 hS hce hcv hcl => ?_) (fun u_3 t H locs ht hvm h_1 hW hz9 hk9 hS => ?_)
  · skip
    obtain ⟨hbq, hbw⟩ := hbx
    try dsimp only at hbq
    replace hbw : Wd g σ μ o H := by rw [← ht]; exact hbw
    rcases hbq with hbq | hbq
    · skip
      obtain ⟨rfl, hk9⟩ := hbq
      exact absurd (hk.symm.trans hk9) (by decide)
    · skip
      obtain ⟨rfl, hk9⟩ := hbq
      exact absurd (hk.symm.trans hk9) (by decide)
  · skip
    replace hW : Wd g ((σ.1, σ.2.1, upd (upd (upd (upd σ.2.2.1 0 1) 1 code) 2 many) 3 0, σ.2.2.2)) μ o H := by rw [← ht]; exact hW
    try dsimp only at h_1
    refine lv_iconst (v := 0) hx hb dL_lock_6 (by decide) ?_
    refine W.widen (k := 2) (n := 12) (Nat.le_of_ble_eq_true rfl) (Nat.le_of_ble_eq_true rfl) ?_
    exact W.iret (v := 0) hx hb hr (fun t ht hW9 => ⟨⟨_, (), rfl, rfl, by first | (rw [ht]; exact hW) | (dsimp only; rw [ht]; exact hW)⟩, hS.F ht⟩) hS.2.2 dL_lock_7
set_option maxHeartbeats 4000000 in
set_option maxRecDepth 100000 in
theorem mtL_addR (l : Launch) (g : Ge) (σ : Sg) (μ : Mg) (o : Nat → Int64) (hfl : l.stackTraces = false) (kind name ver mark tr : Int32) (kk rr : Int32) (hk : kAdd σ kind name ver mark tr = kk) (hrr : (kk = 1 ∧ rr = (-72)) ∨ (kk = 2 ∧ rr = (-73))) : Met l yL_add wsL_add ({ frames := 7, cells := 1, slots := 6, locals := 116 } : Room) (va_Pc [.ref (gA g 0), .int kind, .int name, .int ver, .int mark, .int tr] (PW g σ μ o)) (va_Qi (S := Unit) (fun r _ => r = rr) (fun _ t => Wd g σ μ o t.heap) (Az g)) 1 6 (Az g) := by
  refine va_MetW (cc := cL_add) (maxL := 7) (ret := (some .int)) (by decide) rfl ?_
  intro p e s m args below meth c s₁ B hml hv
  obtain ⟨rfl, hC, hW⟩ := hv
  have hx := B.exec
  have hb := B.bytes
  have hr := B.returns
  have hts := atoms_spec (ws := wsL_add) B.pre
  have hown : s.vm.findClass RL = some m.cls := findClass_of_methodNamed B.named
  have hlocks := B.notSynchronized
  have hS : va_S (Az g) s.heap s.heap [] := va_S.rf
  have hl := lv_entry ([.ref (gA g 0), .int kind, .int name, .int ver, .int mark, .int tr]) (n := 7) (Nat.le_of_ble_eq_true rfl)
  rw [lg_entry_eq]
  generalize (lg_sl ([.ref (gA g 0), .int kind, .int name, .int ver, .int mark, .int tr]) ++ List.replicate (7 - (lg_sl ([.ref (gA g 0), .int kind, .int name, .int ver, .int mark, .int tr])).length) Slot.unset).toArray = ls at hl ⊢
  have hl : lv_has ls 7 [(0, .ref (gA g 0)), (1, .int kind), (2, .int name), (3, .int ver), (4, .int mark), (5, .int tr)] := hl
  have htab := vx_table (x := yL_add) B (hts (.codeWith yL_add cL_add 7 (some .int) [(0, 11, 12, 13), (0, 11, 17, 15)] ) (by exact List.mem_cons_self))
  refine lv_aload_n hx hb dL_add_0 rfl (lv_at hl 0 rfl) ?_
  refine lv_iload_n hx hb dL_add_1 rfl (lv_at hl 1 rfl) ?_
  refine lv_iload_n hx hb dL_add_2 rfl (lv_at hl 2 rfl) ?_
  refine lv_iload_n hx hb dL_add_3 rfl (lv_at hl 3 rfl) ?_
  refine lv_iload hx hb dL_add_4 (lv_at hl 4 rfl) ?_
  refine lv_iload hx hb dL_add_6 (lv_at hl 5 rfl) ?_
  refine vx_calli (vx_runV (As := [.int kind, .int name, .int ver, .int mark, .int tr]) (rest := []) ⟨hx, hb, hml, hown, hts⟩ (mtX2_add l hfl g σ μ o kind name ver mark tr) (cwV 5 hts gL_add_X2_add rfl rfl rfl (by decide +kernel) ⟨Nat.le_of_ble_eq_true rfl, Nat.le_of_ble_eq_true rfl⟩) ⟨PW.blind, rcB hC hW, fun U hU hW9 => ⟨rfl, PW.at hC hS hW U hU hW9⟩⟩ rfl rfl hl.1 rfl (lv_room (Nat.le_of_ble_eq_true rfl)) dL_add_8 ⟨Nat.le_of_ble_eq_true rfl, Nat.le_of_ble_eq_true rfl⟩) hS (fun _ _ h => h) (fun _ h => h) (fun _ _ h => h) (fun E9 ce q9 u_3 t H locs ht hvm hpx hbx hz9 hk9 hS hce hcv hcl => ?_) (fun r_2 u_3 t H locs ht hvm h_1 hW hz9 hk9 hS => ?_)
  · skip
    obtain ⟨hbq, hbw⟩ := hbx
    try dsimp only at hbq
    replace hbw : Wd g σ μ o H := by rw [← ht]; exact hbw
    rcases hbq with hbq | hbq
    · skip
      obtain ⟨rfl, hk9⟩ := hbq
      have e9 := hk.symm.trans hk9
      have hr9 : rr = (-72) := by rcases hrr with ⟨h1, h2⟩ | ⟨h1, h2⟩ <;> first | exact h2 | exact absurd (h1.symm.trans e9) (by decide)
      refine vx_catch (own := RL) (name := "java/lang/IllegalArgumentException") hown (tableOf []) ⟨0, 11, 12, 13⟩ (tableOf [(0, 11, 17, 15)]) (htab.trans rfl) (fun z hz => absurd hz List.not_mem_nil) (by decide) (by decide) (hts (.classLink RL 13 "java/lang/IllegalArgumentException") (by decide +kernel)) (cast_w (E := xIA) hC.2.1 (by decide +kernel) (.castable xIA xIA) (by decide +kernel)) hce hcv hcl ?_
      have hW := hbw
      refine lv_astore (lv' := [(6, .ref q9), (0, .ref (gA g 0)), (1, .int kind), (2, .int name), (3, .int ver), (4, .int mark), (5, .int tr)]) hx hb dL_add_12 hl (by decide) rfl (fun ls hl => ?_)
      refine lv_bipush (v := (-72)) hx hb dL_add_14 (by decide) ?_
      refine W.widen (k := 1) (n := 6) (Nat.le_of_ble_eq_true rfl) (Nat.le_of_ble_eq_true rfl) ?_
      exact W.iret (v := (-72)) hx hb hr (fun t ht hW9 => ⟨⟨_, (), rfl, hr9.symm, by first | (rw [ht]; exact hW) | (dsimp only; rw [ht]; exact hW)⟩, hS.F ht⟩) hS.2.2 dL_add_16
    · skip
      obtain ⟨rfl, hk9⟩ := hbq
      have e9 := hk.symm.trans hk9
      have hr9 : rr = (-73) := by rcases hrr with ⟨h1, h2⟩ | ⟨h1, h2⟩ <;> first | exact h2 | exact absurd (h1.symm.trans e9) (by decide)
      refine vx_catch (own := RL) (name := "java/lang/IllegalStateException") hown (tableOf [(0, 11, 12, 13)]) ⟨0, 11, 17, 15⟩ (tableOf []) (htab.trans rfl) (List.forall_mem_cons.mpr ⟨Or.inr ⟨by decide, "java/lang/IllegalArgumentException", hts (.classLink RL 13 "java/lang/IllegalArgumentException") (by decide +kernel), hC.2.1.2.2.2 (xIS, xIA) (by decide +kernel)⟩, (fun z hz => absurd hz List.not_mem_nil)⟩) (by decide) (by decide) (hts (.classLink RL 15 "java/lang/IllegalStateException") (by decide +kernel)) (cast_w (E := xIS) hC.2.1 (by decide +kernel) (.castable xIS xIS) (by decide +kernel)) hce hcv hcl ?_
      have hW := hbw
      refine lv_astore (lv' := [(6, .ref q9), (0, .ref (gA g 0)), (1, .int kind), (2, .int name), (3, .int ver), (4, .int mark), (5, .int tr)]) hx hb dL_add_17 hl (by decide) rfl (fun ls hl => ?_)
      refine lv_bipush (v := (-73)) hx hb dL_add_19 (by decide) ?_
      refine W.widen (k := 1) (n := 6) (Nat.le_of_ble_eq_true rfl) (Nat.le_of_ble_eq_true rfl) ?_
      exact W.iret (v := (-73)) hx hb hr (fun t ht hW9 => ⟨⟨_, (), rfl, hr9.symm, by first | (rw [ht]; exact hW) | (dsimp only; rw [ht]; exact hW)⟩, hS.F ht⟩) hS.2.2 dL_add_21
  · skip
    replace hW : Wd g ((upd σ.1 0 (σ.1 0 + 1), up2 σ.2.1 u_3 (flE (σ.2.1 u_3) (σ.1 0) kind name ver mark tr), σ.2.2)) μ o H := by rw [← ht]; exact hW
    try dsimp only at h_1
    exact absurd (hk.symm.trans h_1.1) (by rcases hrr with ⟨h1, h2⟩ | ⟨h1, h2⟩ <;> rw [h1] <;> decide)
set_option maxHeartbeats 4000000 in
set_option maxRecDepth 100000 in
theorem mtL_addS (l : Launch) (g : Ge) (σ : Sg) (μ : Mg) (o : Nat → Int64) (hfl : l.stackTraces = false) (kind name ver mark tr : Int32) (hk : kAdd σ kind name ver mark tr = 0) (u0 : Nat) (hu : fs (frP σ.2.1) 16 = some u0) : Met l yL_add wsL_add ({ frames := 7, cells := 1, slots := 6, locals := 116 } : Room) (va_Pc [.ref (gA g 0), .int kind, .int name, .int ver, .int mark, .int tr] (PW g σ μ o)) (va_Qi (S := Unit) (fun r _ => r = σ.1 0) (fun _ t => Wd g (upd σ.1 0 (σ.1 0 + 1), up2 σ.2.1 u0 (flE (σ.2.1 u0) (σ.1 0) kind name ver mark tr), σ.2.2) μ o t.heap) (Az g)) 1 6 (Az g) := by
  refine va_MetW (cc := cL_add) (maxL := 7) (ret := (some .int)) (by decide) rfl ?_
  intro p e s m args below meth c s₁ B hml hv
  obtain ⟨rfl, hC, hW⟩ := hv
  have hx := B.exec
  have hb := B.bytes
  have hr := B.returns
  have hts := atoms_spec (ws := wsL_add) B.pre
  have hown : s.vm.findClass RL = some m.cls := findClass_of_methodNamed B.named
  have hlocks := B.notSynchronized
  have hS : va_S (Az g) s.heap s.heap [] := va_S.rf
  have hl := lv_entry ([.ref (gA g 0), .int kind, .int name, .int ver, .int mark, .int tr]) (n := 7) (Nat.le_of_ble_eq_true rfl)
  rw [lg_entry_eq]
  generalize (lg_sl ([.ref (gA g 0), .int kind, .int name, .int ver, .int mark, .int tr]) ++ List.replicate (7 - (lg_sl ([.ref (gA g 0), .int kind, .int name, .int ver, .int mark, .int tr])).length) Slot.unset).toArray = ls at hl ⊢
  have hl : lv_has ls 7 [(0, .ref (gA g 0)), (1, .int kind), (2, .int name), (3, .int ver), (4, .int mark), (5, .int tr)] := hl
  have htab := vx_table (x := yL_add) B (hts (.codeWith yL_add cL_add 7 (some .int) [(0, 11, 12, 13), (0, 11, 17, 15)] ) (by exact List.mem_cons_self))
  refine lv_aload_n hx hb dL_add_0 rfl (lv_at hl 0 rfl) ?_
  refine lv_iload_n hx hb dL_add_1 rfl (lv_at hl 1 rfl) ?_
  refine lv_iload_n hx hb dL_add_2 rfl (lv_at hl 2 rfl) ?_
  refine lv_iload_n hx hb dL_add_3 rfl (lv_at hl 3 rfl) ?_
  refine lv_iload hx hb dL_add_4 (lv_at hl 4 rfl) ?_
  refine lv_iload hx hb dL_add_6 (lv_at hl 5 rfl) ?_
  refine vx_calli (vx_runV (As := [.int kind, .int name, .int ver, .int mark, .int tr]) (rest := []) ⟨hx, hb, hml, hown, hts⟩ (mtX2_add l hfl g σ μ o kind name ver mark tr) (cwV 5 hts gL_add_X2_add rfl rfl rfl (by decide +kernel) ⟨Nat.le_of_ble_eq_true rfl, Nat.le_of_ble_eq_true rfl⟩) ⟨PW.blind, rcB hC hW, fun U hU hW9 => ⟨rfl, PW.at hC hS hW U hU hW9⟩⟩ rfl rfl hl.1 rfl (lv_room (Nat.le_of_ble_eq_true rfl)) dL_add_8 ⟨Nat.le_of_ble_eq_true rfl, Nat.le_of_ble_eq_true rfl⟩) hS (fun _ _ h => h) (fun _ h => h) (fun _ _ h => h) (fun E9 ce q9 u_3 t H locs ht hvm hpx hbx hz9 hk9 hS hce hcv hcl => ?_) (fun r_2 u_3 t H locs ht hvm h_1 hW hz9 hk9 hS => ?_)
  · skip
    obtain ⟨hbq, hbw⟩ := hbx
    try dsimp only at hbq
    replace hbw : Wd g σ μ o H := by rw [← ht]; exact hbw
    rcases hbq with hbq | hbq
    · skip
      obtain ⟨rfl, hk9⟩ := hbq
      exact absurd (hk.symm.trans hk9) (by decide)
    · skip
      obtain ⟨rfl, hk9⟩ := hbq
      exact absurd (hk.symm.trans hk9) (by decide)
  · skip
    replace hW : Wd g ((upd σ.1 0 (σ.1 0 + 1), up2 σ.2.1 u_3 (flE (σ.2.1 u_3) (σ.1 0) kind name ver mark tr), σ.2.2)) μ o H := by rw [← ht]; exact hW
    try dsimp only at h_1
    obtain rfl : u_3 = u0 := Option.some.inj (h_1.2.1.symm.trans hu)
    refine W.widen (k := 1) (n := 6) (Nat.le_of_ble_eq_true rfl) (Nat.le_of_ble_eq_true rfl) ?_
    exact W.iret (v := r_2) hx hb hr (fun t ht hW9 => ⟨⟨_, (), rfl, h_1.2.2, by first | (rw [ht]; exact hW) | (dsimp only; rw [ht]; exact hW)⟩, hS.F ht⟩) hS.2.2 dL_add_11
end
section
/-! THE CONSTRUCTORS. A world that ends with the object that is made; z: where the law's own part of the heap begins -/
def Zf (z : Nat) : Nat → Prop := fun q => z ≤ q
section
variable {α : Type} {ws tl : List α} {x y : α}
theorem cg : (ws ++ x :: tl)[ws.length]? = some x := by simp
theorem cst : (ws ++ x :: tl).set ws.length y = ws ++ y :: tl := by simp
end
def e0 : Nat → Int32 := fun k => if k = 1 then -1 else if k = 5 then 1 else if k = 7 then -1 else 0
theorem ctor_blind {av : List Value} {D : va_G} {tys : List (ClassId × FieldType)} {w : va_W} {z : Nat} : FrameBlind (va_Pc av (fun U => va_K D vwCl tys U ∧ va_P D vwCl w U.heap ∧ va_D (Zf z) w ∧ z ≤ U.heap.size)) := fun a U g mk q => by obtain ⟨q0, qK, qP, qD, qz⟩ := q; exact ⟨q0, va_K.moved (u := U) (U := U.calling g mk a) (Vm.Alike.refl U.vm) qK, qP, qD, qz⟩
set_option maxHeartbeats 400000 in
set_option maxRecDepth 100000 in
theorem mtX1_init (l : Launch) (D : va_G) (z h0 : Nat) (ws : va_W) (tys : List (ClassId × FieldType)) : Met l yX1_init wsX1_init ({ frames := 1, cells := 0, slots := 0, locals := 12 } : Room) (va_Pc [.ref h0] (fun U => va_K D vwCl tys U ∧ va_P D vwCl (ws ++ (h0, .inr (1, [.int 0, .int 0, .int 0, .int 0, .int 0, .int 0, .int 0, .int 0])) :: []) U.heap ∧ va_D (Zf z) (ws ++ (h0, .inr (1, [.int 0, .int 0, .int 0, .int 0, .int 0, .int 0, .int 0, .int 0])) :: []) ∧ z ≤ U.heap.size)) (va_Qv (S := Unit) (fun _ => True) (fun _ t => va_P D vwCl (ws ++ (h0, .inr (1, fE e0)) :: []) t.heap ∧ va_D (Zf z) (ws ++ (h0, .inr (1, fE e0)) :: [])) (Zf z)) 0 0 (Zf z) := by
  refine Met.ofW (cc := cX1_init) (maxL := 1) (ret := none) (by decide) rfl ?_
  intro p e s m args below meth c s₁ B hml hv
  obtain ⟨rfl, hK, hP, hD, hz⟩ := hv
  have hx := B.exec
  have hb := B.bytes
  have hr := B.returns
  have hts := atoms_spec (ws := wsX1_init) B.pre
  have hown : s.vm.findClass RX1 = some m.cls := findClass_of_methodNamed B.named
  have hin : meth.name = "<init>" := (name_of_methodNamed B.named B.method).1
  have hA : ∀ q : Nat, s.heap.size ≤ q → Zf z q := fun q h => Nat.le_trans hz h
  have hS : va_S (Zf z) s.heap s.heap [] := va_S.rf
  have hinX1 : ∀ w ∈ wsX10, w ∈ wsX1_init := by decide +kernel
  have hl := lv_entry ([.ref h0]) (n := 1) (Nat.le_of_ble_eq_true rfl)
  rw [lg_entry_eq]
  generalize (lg_sl ([.ref h0]) ++ List.replicate (1 - (lg_sl ([.ref h0])).length) Slot.unset).toArray = ls at hl ⊢
  have hl : lv_has ls 1 [(0, .ref h0)] := hl
  refine lv_aload_n hx hb dX1_init_0 rfl (lv_at hl 0 rfl) ?_
  refine W.objInit hx hb hown (hts (.methodLink RX1 3 objectInit) (by decide +kernel)) (hts (.instanceMethod objectInit) (by decide +kernel)) (hts (.code objectInit ⟨#[0xb1]⟩ 1 none) (by decide +kernel)) rfl (by rw [hml]; exact hl.1) rfl dX1_init_1 (Nat.le_of_ble_eq_true rfl) (Nat.le_of_ble_eq_true rfl) ?_
  refine W.eq (g2 := F0 m 4 ls []) rfl ?_
  refine lv_aload_n hx hb dX1_init_4 rfl (lv_at hl 0 rfl) ?_
  refine lv_iconst (v := 0) hx hb dX1_init_5 (by decide) ?_
  refine va_put (D := D) (ci := 1) (v := .int 0) (ty := .boolean) (C := RX1) (T := TX1) (N := 8) hx hb hts hinX1 tyX1 tyX1_ok nmX1 hown hK hP hD hS (List.length ws) cg rfl 0 (by decide) (hts (.fieldLink RX1 9 "BootChooser$Entry" "isThere" "Z") (by decide +kernel)) (fun _ h9 => h9) rfl (by decide +kernel) rfl rfl (Nat.le_of_ble_eq_true rfl) dX1_init_6 (fun H locs hP hD hS => ?_)
  rw [cst] at hP hD
  have hP : va_P D vwCl (ws ++ (h0, .inr (1, [.int 0, .int 0, .int 0, .int 0, .int 0, .int 0, .int 0, .int 0])) :: []) H := hP
  have hD : va_D (Zf z) (ws ++ (h0, .inr (1, [.int 0, .int 0, .int 0, .int 0, .int 0, .int 0, .int 0, .int 0])) :: []) := hD
  refine lv_aload_n hx hb dX1_init_9 rfl (lv_at hl 0 rfl) ?_
  refine lv_iconst (v := (-1)) hx hb dX1_init_10 (by decide) ?_
  refine va_put (D := D) (ci := 1) (v := .int (-1)) (ty := .int) (C := RX1) (T := TX1) (N := 8) hx hb hts hinX1 tyX1 tyX1_ok nmX1 hown hK hP hD hS (List.length ws) cg rfl 1 (by decide) (hts (.fieldLink RX1 15 "BootChooser$Entry" "number" "I") (by decide +kernel)) (fun _ h9 => h9) rfl (by decide +kernel) rfl rfl (Nat.le_of_ble_eq_true rfl) dX1_init_11 (fun H locs hP hD hS => ?_)
  rw [cst] at hP hD
  have hP : va_P D vwCl (ws ++ (h0, .inr (1, [.int 0, .int (-1), .int 0, .int 0, .int 0, .int 0, .int 0, .int 0])) :: []) H := hP
  have hD : va_D (Zf z) (ws ++ (h0, .inr (1, [.int 0, .int (-1), .int 0, .int 0, .int 0, .int 0, .int 0, .int 0])) :: []) := hD
  refine lv_aload_n hx hb dX1_init_14 rfl (lv_at hl 0 rfl) ?_
  refine lv_iconst (v := 0) hx hb dX1_init_15 (by decide) ?_
  refine va_put (D := D) (ci := 1) (v := .int 0) (ty := .int) (C := RX1) (T := TX1) (N := 8) hx hb hts hinX1 tyX1 tyX1_ok nmX1 hown hK hP hD hS (List.length ws) cg rfl 2 (by decide) (hts (.fieldLink RX1 19 "BootChooser$Entry" "kind" "I") (by decide +kernel)) (fun _ h9 => h9) rfl (by decide +kernel) rfl rfl (Nat.le_of_ble_eq_true rfl) dX1_init_16 (fun H locs hP hD hS => ?_)
  rw [cst] at hP hD
  have hP : va_P D vwCl (ws ++ (h0, .inr (1, [.int 0, .int (-1), .int 0, .int 0, .int 0, .int 0, .int 0, .int 0])) :: []) H := hP
  have hD : va_D (Zf z) (ws ++ (h0, .inr (1, [.int 0, .int (-1), .int 0, .int 0, .int 0, .int 0, .int 0, .int 0])) :: []) := hD
  refine lv_aload_n hx hb dX1_init_19 rfl (lv_at hl 0 rfl) ?_
  refine lv_iconst (v := 0) hx hb dX1_init_20 (by decide) ?_
  refine va_put (D := D) (ci := 1) (v := .int 0) (ty := .int) (C := RX1) (T := TX1) (N := 8) hx hb hts hinX1 tyX1 tyX1_ok nmX1 hown hK hP hD hS (List.length ws) cg rfl 3 (by decide) (hts (.fieldLink RX1 22 "BootChooser$Entry" "name" "I") (by decide +kernel)) (fun _ h9 => h9) rfl (by decide +kernel) rfl rfl (Nat.le_of_ble_eq_true rfl) dX1_init_21 (fun H locs hP hD hS => ?_)
  rw [cst] at hP hD
  have hP : va_P D vwCl (ws ++ (h0, .inr (1, [.int 0, .int (-1), .int 0, .int 0, .int 0, .int 0, .int 0, .int 0])) :: []) H := hP
  have hD : va_D (Zf z) (ws ++ (h0, .inr (1, [.int 0, .int (-1), .int 0, .int 0, .int 0, .int 0, .int 0, .int 0])) :: []) := hD
  refine lv_aload_n hx hb dX1_init_24 rfl (lv_at hl 0 rfl) ?_
  refine lv_iconst (v := 0) hx hb dX1_init_25 (by decide) ?_
  refine va_put (D := D) (ci := 1) (v := .int 0) (ty := .int) (C := RX1) (T := TX1) (N := 8) hx hb hts hinX1 tyX1 tyX1_ok nmX1 hown hK hP hD hS (List.length ws) cg rfl 4 (by decide) (hts (.fieldLink RX1 25 "BootChooser$Entry" "version" "I") (by decide +kernel)) (fun _ h9 => h9) rfl (by decide +kernel) rfl rfl (Nat.le_of_ble_eq_true rfl) dX1_init_26 (fun H locs hP hD hS => ?_)
  rw [cst] at hP hD
  have hP : va_P D vwCl (ws ++ (h0, .inr (1, [.int 0, .int (-1), .int 0, .int 0, .int 0, .int 0, .int 0, .int 0])) :: []) H := hP
  have hD : va_D (Zf z) (ws ++ (h0, .inr (1, [.int 0, .int (-1), .int 0, .int 0, .int 0, .int 0, .int 0, .int 0])) :: []) := hD
  refine lv_aload_n hx hb dX1_init_29 rfl (lv_at hl 0 rfl) ?_
  refine lv_iconst (v := 1) hx hb dX1_init_30 (by decide) ?_
  refine va_put (D := D) (ci := 1) (v := .int 1) (ty := .int) (C := RX1) (T := TX1) (N := 8) hx hb hts hinX1 tyX1 tyX1_ok nmX1 hown hK hP hD hS (List.length ws) cg rfl 5 (by decide) (hts (.fieldLink RX1 28 "BootChooser$Entry" "mark" "I") (by decide +kernel)) (fun _ h9 => h9) rfl (by decide +kernel) rfl rfl (Nat.le_of_ble_eq_true rfl) dX1_init_31 (fun H locs hP hD hS => ?_)
  rw [cst] at hP hD
  have hP : va_P D vwCl (ws ++ (h0, .inr (1, [.int 0, .int (-1), .int 0, .int 0, .int 0, .int 1, .int 0, .int 0])) :: []) H := hP
  have hD : va_D (Zf z) (ws ++ (h0, .inr (1, [.int 0, .int (-1), .int 0, .int 0, .int 0, .int 1, .int 0, .int 0])) :: []) := hD
  refine lv_aload_n hx hb dX1_init_34 rfl (lv_at hl 0 rfl) ?_
  refine lv_iconst (v := 0) hx hb dX1_init_35 (by decide) ?_
  refine va_put (D := D) (ci := 1) (v := .int 0) (ty := .int) (C := RX1) (T := TX1) (N := 8) hx hb hts hinX1 tyX1 tyX1_ok nmX1 hown hK hP hD hS (List.length ws) cg rfl 6 (by decide) (hts (.fieldLink RX1 31 "BootChooser$Entry" "option" "I") (by decide +kernel)) (fun _ h9 => h9) rfl (by decide +kernel) rfl rfl (Nat.le_of_ble_eq_true rfl) dX1_init_36 (fun H locs hP hD hS => ?_)
  rw [cst] at hP hD
  have hP : va_P D vwCl (ws ++ (h0, .inr (1, [.int 0, .int (-1), .int 0, .int 0, .int 0, .int 1, .int 0, .int 0])) :: []) H := hP
  have hD : va_D (Zf z) (ws ++ (h0, .inr (1, [.int 0, .int (-1), .int 0, .int 0, .int 0, .int 1, .int 0, .int 0])) :: []) := hD
  refine lv_aload_n hx hb dX1_init_39 rfl (lv_at hl 0 rfl) ?_
  refine lv_iconst (v := (-1)) hx hb dX1_init_40 (by decide) ?_
  refine va_put (D := D) (ci := 1) (v := .int (-1)) (ty := .int) (C := RX1) (T := TX1) (N := 8) hx hb hts hinX1 tyX1 tyX1_ok nmX1 hown hK hP hD hS (List.length ws) cg rfl 7 (by decide) (hts (.fieldLink RX1 34 "BootChooser$Entry" "triesLeft" "I") (by decide +kernel)) (fun _ h9 => h9) rfl (by decide +kernel) rfl rfl (Nat.le_of_ble_eq_true rfl) dX1_init_41 (fun H locs hP hD hS => ?_)
  rw [cst] at hP hD
  have hP : va_P D vwCl (ws ++ (h0, .inr (1, [.int 0, .int (-1), .int 0, .int 0, .int 0, .int 1, .int 0, .int (-1)])) :: []) H := hP
  have hD : va_D (Zf z) (ws ++ (h0, .inr (1, [.int 0, .int (-1), .int 0, .int 0, .int 0, .int 1, .int 0, .int (-1)])) :: []) := hD
  exact W.vret hx hb hr (fun t ht hW9 => ⟨⟨(), rfl, trivial, by rw [ht]; exact hP, hD⟩, hS.F ht⟩) hS.2.2 dX1_init_44
set_option maxHeartbeats 400000 in
set_option maxRecDepth 100000 in
theorem mtX0_init (l : Launch) (D : va_G) (z h0 : Nat) (ws : va_W) (tys : List (ClassId × FieldType)) : Met l yX0_init wsX0_init ({ frames := 1, cells := 1, slots := 12, locals := 12 } : Room) (va_Pc [.ref h0] (fun U => va_K D vwCl tys U ∧ va_P D vwCl (ws ++ (h0, .inr (0, [.null, .int 0, .int 0, .int 0, .int 0])) :: []) U.heap ∧ va_D (Zf z) (ws ++ (h0, .inr (0, [.null, .int 0, .int 0, .int 0, .int 0])) :: []) ∧ z ≤ U.heap.size)) (va_Qv (S := Unit) (fun _ => True) (fun _ t => ∃ (q : Nat) (cA : ClassId), va_K D vwCl (tys ++ [(cA, .int)]) t ∧ va_P D vwCl (ws ++ (h0, .inr (0, [.ref q, .int 0, .int 0, .int 1, .int 0])) :: [(q, .inl (cA, 12, .inl (fun _ => 0)))]) t.heap ∧ va_D (Zf z) (ws ++ (h0, .inr (0, [.ref q, .int 0, .int 0, .int 1, .int 0])) :: [(q, .inl (cA, 12, .inl (fun _ => 0)))])) (Zf z)) 1 12 (Zf z) := by
  refine Met.ofW (cc := cX0_init) (maxL := 1) (ret := none) (by decide) rfl ?_
  intro p e s m args below meth c s₁ B hml hv
  obtain ⟨rfl, hK, hP, hD, hz⟩ := hv
  have hx := B.exec
  have hb := B.bytes
  have hr := B.returns
  have hts := atoms_spec (ws := wsX0_init) B.pre
  have hown : s.vm.findClass RX0 = some m.cls := findClass_of_methodNamed B.named
  have hin : meth.name = "<init>" := (name_of_methodNamed B.named B.method).1
  have hA : ∀ q : Nat, s.heap.size ≤ q → Zf z q := fun q h => Nat.le_trans hz h
  have hS : va_S (Zf z) s.heap s.heap [] := va_S.rf
  have hinX0 : ∀ w ∈ wsX00, w ∈ wsX0_init := by decide +kernel
  have hl := lv_entry ([.ref h0]) (n := 1) (Nat.le_of_ble_eq_true rfl)
  rw [lg_entry_eq]
  generalize (lg_sl ([.ref h0]) ++ List.replicate (1 - (lg_sl ([.ref h0])).length) Slot.unset).toArray = ls at hl ⊢
  have hl : lv_has ls 1 [(0, .ref h0)] := hl
  refine lv_aload_n hx hb dX0_init_0 rfl (lv_at hl 0 rfl) ?_
  refine W.objInit hx hb hown (hts (.methodLink RX0 3 objectInit) (by decide +kernel)) (hts (.instanceMethod objectInit) (by decide +kernel)) (hts (.code objectInit ⟨#[0xb1]⟩ 1 none) (by decide +kernel)) rfl (by rw [hml]; exact hl.1) rfl dX0_init_1 (Nat.le_of_ble_eq_true rfl) (Nat.le_of_ble_eq_true rfl) ?_
  refine W.eq (g2 := F0 m 4 ls []) rfl ?_
  refine lv_aload_n hx hb dX0_init_4 rfl (lv_at hl 0 rfl) ?_
  refine lv_bipush (v := 12) hx hb dX0_init_5 (by decide) ?_
  refine va_newa (atype := .int) (ty := .int) (N' := 12) (a0 := (12, .inl (fun _ => 0))) hx hb (hts (.arrayClass .int) (by decide +kernel)) rfl hK hP hD hS hA (fun _ => rfl) (by decide) rfl (Nat.le_of_ble_eq_true rfl) (Nat.le_of_ble_eq_true rfl) (Nat.le_of_ble_eq_true rfl) dX0_init_7 (fun q cA H hK hP hD hS => ?_)
  rw [List.append_assoc, List.cons_append, List.nil_append] at hP hD
  refine va_putF (D := D) (ci := 0) (v := .ref q) (ty := .array .int) (C := RX0) (T := TX0) (N := 5) hx hb hts hinX0 tyX0 tyX0_ok nmX0 hown hK hP hD hS (List.length ws) cg rfl 0 (by decide) (hts (.fieldLink RX0 9 "BootChooser$CodeLock" "digits" "[I") (by decide +kernel)) (fun _ h9 => h9) rfl hin rfl (by decide +kernel) rfl rfl (Nat.le_of_ble_eq_true rfl) dX0_init_9 (fun H locs hP hD hS => ?_)
  rw [cst] at hP hD
  have hP : va_P D vwCl (ws ++ (h0, .inr (0, [.ref q, .int 0, .int 0, .int 0, .int 0])) :: [(q, .inl (cA, 12, .inl (fun _ => 0)))]) H := hP
  have hD : va_D (Zf z) (ws ++ (h0, .inr (0, [.ref q, .int 0, .int 0, .int 0, .int 0])) :: [(q, .inl (cA, 12, .inl (fun _ => 0)))]) := hD
  refine lv_aload_n hx hb dX0_init_12 rfl (lv_at hl 0 rfl) ?_
  refine lv_iconst (v := 0) hx hb dX0_init_13 (by decide) ?_
  refine va_put (D := D) (ci := 0) (v := .int 0) (ty := .boolean) (C := RX0) (T := TX0) (N := 5) hx hb hts hinX0 tyX0 tyX0_ok nmX0 hown hK hP hD hS (List.length ws) cg rfl 1 (by decide) (hts (.fieldLink RX0 15 "BootChooser$CodeLock" "isClosed" "Z") (by decide +kernel)) (fun _ h9 => h9) rfl (by decide +kernel) rfl rfl (Nat.le_of_ble_eq_true rfl) dX0_init_14 (fun H locs hP hD hS => ?_)
  rw [cst] at hP hD
  have hP : va_P D vwCl (ws ++ (h0, .inr (0, [.ref q, .int 0, .int 0, .int 0, .int 0])) :: [(q, .inl (cA, 12, .inl (fun _ => 0)))]) H := hP
  have hD : va_D (Zf z) (ws ++ (h0, .inr (0, [.ref q, .int 0, .int 0, .int 0, .int 0])) :: [(q, .inl (cA, 12, .inl (fun _ => 0)))]) := hD
  refine lv_aload_n hx hb dX0_init_17 rfl (lv_at hl 0 rfl) ?_
  refine lv_iconst (v := 0) hx hb dX0_init_18 (by decide) ?_
  refine va_put (D := D) (ci := 0) (v := .int 0) (ty := .int) (C := RX0) (T := TX0) (N := 5) hx hb hts hinX0 tyX0 tyX0_ok nmX0 hown hK hP hD hS (List.length ws) cg rfl 2 (by decide) (hts (.fieldLink RX0 19 "BootChooser$CodeLock" "codeValue" "I") (by decide +kernel)) (fun _ h9 => h9) rfl (by decide +kernel) rfl rfl (Nat.le_of_ble_eq_true rfl) dX0_init_19 (fun H locs hP hD hS => ?_)
  rw [cst] at hP hD
  have hP : va_P D vwCl (ws ++ (h0, .inr (0, [.ref q, .int 0, .int 0, .int 0, .int 0])) :: [(q, .inl (cA, 12, .inl (fun _ => 0)))]) H := hP
  have hD : va_D (Zf z) (ws ++ (h0, .inr (0, [.ref q, .int 0, .int 0, .int 0, .int 0])) :: [(q, .inl (cA, 12, .inl (fun _ => 0)))]) := hD
  refine lv_aload_n hx hb dX0_init_22 rfl (lv_at hl 0 rfl) ?_
  refine lv_iconst (v := 1) hx hb dX0_init_23 (by decide) ?_
  refine va_put (D := D) (ci := 0) (v := .int 1) (ty := .int) (C := RX0) (T := TX0) (N := 5) hx hb hts hinX0 tyX0 tyX0_ok nmX0 hown hK hP hD hS (List.length ws) cg rfl 3 (by decide) (hts (.fieldLink RX0 23 "BootChooser$CodeLock" "codeLength" "I") (by decide +kernel)) (fun _ h9 => h9) rfl (by decide +kernel) rfl rfl (Nat.le_of_ble_eq_true rfl) dX0_init_24 (fun H locs hP hD hS => ?_)
  rw [cst] at hP hD
  have hP : va_P D vwCl (ws ++ (h0, .inr (0, [.ref q, .int 0, .int 0, .int 1, .int 0])) :: [(q, .inl (cA, 12, .inl (fun _ => 0)))]) H := hP
  have hD : va_D (Zf z) (ws ++ (h0, .inr (0, [.ref q, .int 0, .int 0, .int 1, .int 0])) :: [(q, .inl (cA, 12, .inl (fun _ => 0)))]) := hD
  refine lv_aload_n hx hb dX0_init_27 rfl (lv_at hl 0 rfl) ?_
  refine lv_iconst (v := 0) hx hb dX0_init_28 (by decide) ?_
  refine va_put (D := D) (ci := 0) (v := .int 0) (ty := .int) (C := RX0) (T := TX0) (N := 5) hx hb hts hinX0 tyX0 tyX0_ok nmX0 hown hK hP hD hS (List.length ws) cg rfl 4 (by decide) (hts (.fieldLink RX0 26 "BootChooser$CodeLock" "entered" "I") (by decide +kernel)) (fun _ h9 => h9) rfl (by decide +kernel) rfl rfl (Nat.le_of_ble_eq_true rfl) dX0_init_29 (fun H locs hP hD hS => ?_)
  rw [cst] at hP hD
  have hP : va_P D vwCl (ws ++ (h0, .inr (0, [.ref q, .int 0, .int 0, .int 1, .int 0])) :: [(q, .inl (cA, 12, .inl (fun _ => 0)))]) H := hP
  have hD : va_D (Zf z) (ws ++ (h0, .inr (0, [.ref q, .int 0, .int 0, .int 1, .int 0])) :: [(q, .inl (cA, 12, .inl (fun _ => 0)))]) := hD
  exact W.vret hx hb hr (fun t ht hW9 => ⟨⟨(), rfl, trivial, q, cA, va_K.moved hW9.alike hK, by rw [ht]; exact hP, hD⟩, hS.F ht⟩) hS.2.2 dX0_init_32
end
section
abbrev w4 (h0 q1 q2 q3 : Nat) (cA cD : ClassId) (f : Nat → Option Nat) (fs : List Value) : va_W := [(h0, .inr (2, fs)), (q1, .inl (cA, 16, .inr (.inr (.inr (.inr f))))), (q2, .inr (0, [.ref q3, .int 0, .int 0, .int 1, .int 0])), (q3, .inl (cD, 12, .inl (fun _ => 0)))]
def wE (ad : Nat → Nat) (i : Nat) : va_W := (List.range i).map (fun j => (ad j, .inr (1, fE e0)))
def adO (ad : Nat → Nat) (i : Nat) : Nat → Option Nat := fun j => if j < i then some (ad j) else none
def adS (ad : Nat → Nat) (i q : Nat) : Nat → Nat := fun j => if j = i then q else ad j
theorem wE_S {ad : Nat → Nat} {i q : Nat} : wE (adS ad i q) (i + 1) = wE ad i ++ [(q, .inr (1, fE e0))] := by
  unfold wE
  rw [List.range_succ, List.map_append]
  have h1 : (List.range i).map (fun j => ((adS ad i q j, .inr (1, fE e0)) : Nat × va_E)) = (List.range i).map (fun j => (ad j, .inr (1, fE e0))) := by
    apply List.map_congr_left
    intro j hj
    have hne : j ≠ i := by have := List.mem_range.mp hj; omega
    simp only [adS, hne, if_false]
  have h2 : [i].map (fun j => ((adS ad i q j, .inr (1, fE e0)) : Nat × va_E)) = [(q, .inr (1, fE e0))] := by simp only [List.map, adS, if_true]
  rw [h1, h2]
theorem adO_S {ad : Nat → Nat} {i q : Nat} : va_up (adO ad i) i (some q) = adO (adS ad i q) (i + 1) := by
  funext j
  unfold va_up adO adS
  by_cases h : j = i
  · subst h; rw [if_pos rfl, if_pos (by omega), if_pos rfl]
  · rw [if_neg h, if_neg h]
    by_cases h2 : j < i
    · rw [if_pos h2, if_pos (by omega)]
    · rw [if_neg h2, if_neg (by omega)]
theorem adO_0 {ad : Nat → Nat} : adO ad 0 = fun _ => none := by funext j; simp [adO]
theorem wE_len {ad : Nat → Nat} {i : Nat} : (wE ad i).length = i := by simp [wE]
theorem w4_at {h0 q1 q2 q3 : Nat} {cA cD : ClassId} {f : Nat → Option Nat} {fs : List Value} {ad : Nat → Nat} {i : Nat} {x : Nat × va_E} : ((w4 h0 q1 q2 q3 cA cD f fs ++ wE ad i) ++ x :: [])[4 + i]? = some x := by
  have h : (w4 h0 q1 q2 q3 cA cD f fs ++ wE ad i).length = 4 + i := by rw [List.length_append, wE_len]; rfl
  rw [← h]; exact cg
def fsB (q1 q2 : Nat) : List Value := [.ref q1, .ref q2, .int 0, .int (-1), .int (-1), .int 0, .int 99, .int (-1), .int 0]
theorem w4_S {h0 q1 q2 q3 : Nat} {cA cD : ClassId} {fs : List Value} {ad : Nat → Nat} {i q : Nat} : ((w4 h0 q1 q2 q3 cA cD (adO ad i) fs ++ wE ad i) ++ ((q, .inr (1, fE e0)) : Nat × va_E) :: []).set 1 (q1, .inl (cA, 16, .inr (.inr (.inr (.inr (va_up (adO ad i) i (some q))))))) = w4 h0 q1 q2 q3 cA cD (adO (adS ad i q) (i + 1)) fs ++ wE (adS ad i q) (i + 1) := by
  rw [adO_S, wE_S]
  simp [w4]
def bornB (D : va_G) (z h0 : Nat) (t : State) : Prop := ∃ (q1 q2 q3 : Nat) (ad : Nat → Nat) (cA cD : ClassId), va_K D vwCl [(cA, .object "BootChooser$Entry"), (cD, .int)] t ∧ va_P D vwCl (w4 h0 q1 q2 q3 cA cD (adO ad 16) (fsB q1 q2) ++ wE ad 16) t.heap ∧ va_D (Zf z) (w4 h0 q1 q2 q3 cA cD (adO ad 16) (fsB q1 q2) ++ wE ad 16)
set_option maxHeartbeats 400000 in
set_option maxRecDepth 100000 in
theorem mtX2_init (l : Launch) (D : va_G) (z h0 : Nat)  : Met l yX2_init wsX2_init ({ frames := 2, cells := 19, slots := 161, locals := 32 } : Room) (va_Pc [.ref h0] (fun U => va_K D vwCl [] U ∧ va_P D vwCl ([] ++ (h0, .inr (2, [.null, .null, .int 0, .int 0, .int 0, .int 0, .int 0, .int 0, .int 0])) :: []) U.heap ∧ va_D (Zf z) ([] ++ (h0, .inr (2, [.null, .null, .int 0, .int 0, .int 0, .int 0, .int 0, .int 0, .int 0])) :: []) ∧ z ≤ U.heap.size ∧ (va_AO "BootChooser$Entry" U ∧ va_Nw (.methodLinkNest RX2 17 yX0_init "BootChooser") U ∧ va_Nw (.methodLinkNest RX2 44 yX1_init "BootChooser") U))) (va_Qv (S := Unit) (fun _ => True) (fun _ t => bornB D z h0 t) (Zf z)) 19 161 (Zf z) := by
  refine Met.ofW (cc := cX2_init) (maxL := 2) (ret := none) (by decide) rfl ?_
  intro p e s m args below meth c s₁ B hml hv
  obtain ⟨rfl, hK, hP, hD, hz, hpre⟩ := hv
  have hx := B.exec
  have hb := B.bytes
  have hr := B.returns
  have hts := atoms_spec (ws := wsX2_init) B.pre
  have hown : s.vm.findClass RX2 = some m.cls := findClass_of_methodNamed B.named
  have hin : meth.name = "<init>" := (name_of_methodNamed B.named B.method).1
  have hA : ∀ q : Nat, s.heap.size ≤ q → Zf z q := fun q h => Nat.le_trans hz h
  have hS : va_S (Zf z) s.heap s.heap [] := va_S.rf
  have hinX2 : ∀ w ∈ wsX20, w ∈ wsX2_init := by decide +kernel
  have hl := lv_entry ([.ref h0]) (n := 2) (Nat.le_of_ble_eq_true rfl)
  rw [lg_entry_eq]
  generalize (lg_sl ([.ref h0]) ++ List.replicate (2 - (lg_sl ([.ref h0])).length) Slot.unset).toArray = ls at hl ⊢
  have hl : lv_has ls 2 [(0, .ref h0)] := hl
  obtain ⟨hAO, hN0, hN1⟩ := hpre
  have hinX0 : ∀ w ∈ wsX00, w ∈ wsX2_init := by decide +kernel
  have hinX1 : ∀ w ∈ wsX10, w ∈ wsX2_init := by decide +kernel
  refine lv_aload_n hx hb dX2_init_0 rfl (lv_at hl 0 rfl) ?_
  refine W.objInit hx hb hown (hts (.methodLink RX2 1 objectInit) (by decide +kernel)) (hts (.instanceMethod objectInit) (by decide +kernel)) (hts (.code objectInit ⟨#[0xb1]⟩ 1 none) (by decide +kernel)) rfl (by rw [hml]; exact hl.1) rfl dX2_init_1 (Nat.le_of_ble_eq_true rfl) (Nat.le_of_ble_eq_true rfl) ?_
  refine W.eq (g2 := F0 m 4 ls []) rfl ?_
  refine lv_aload_n hx hb dX2_init_4 rfl (lv_at hl 0 rfl) ?_
  refine lv_bipush (v := 16) hx hb dX2_init_5 (by decide) ?_
  refine va_newq (C := "BootChooser$Entry") (N' := 16) hx hb hown (hts (.classLink RX2 9 RX1) (by decide +kernel)) hAO hK hP hD hS hA (by decide) rfl (Nat.le_of_ble_eq_true rfl) (Nat.le_of_ble_eq_true rfl) (Nat.le_of_ble_eq_true rfl) dX2_init_7 (fun q1 cA H hK hP hD hS => ?_)
  have hP : va_P D vwCl (([] : va_W) ++ (h0, .inr (2, [.null, .null, .int 0, .int 0, .int 0, .int 0, .int 0, .int 0, .int 0])) :: [(q1, .inl (cA, 16, .inr (.inr (.inr (.inr (fun _ => none))))))]) H := hP
  have hD : va_D (Zf z) (([] : va_W) ++ (h0, .inr (2, [.null, .null, .int 0, .int 0, .int 0, .int 0, .int 0, .int 0, .int 0])) :: [(q1, .inl (cA, 16, .inr (.inr (.inr (.inr (fun _ => none))))))]) := hD
  refine va_putF (D := D) (ci := 2) (v := .ref q1) (ty := .array (.object "BootChooser$Entry")) (C := RX2) (T := TX2) (N := 9) hx hb hts hinX2 tyX2 tyX2_ok nmX2 hown hK hP hD hS (List.length ([] : va_W)) cg rfl 0 (by decide) (hts (.fieldLink RX2 11 "BootChooser" "rows" "[LBootChooser$Entry;") (by decide +kernel)) (fun _ h9 => h9) rfl hin rfl (by decide +kernel) rfl rfl (Nat.le_of_ble_eq_true rfl) dX2_init_10 (fun H locs hP hD hS => ?_)
  rw [cst] at hP hD
  have hP : va_P D vwCl (([] : va_W) ++ (h0, .inr (2, [.ref q1, .null, .int 0, .int 0, .int 0, .int 0, .int 0, .int 0, .int 0])) :: [(q1, .inl (cA, 16, .inr (.inr (.inr (.inr (fun _ => none))))))]) H := hP
  have hD : va_D (Zf z) (([] : va_W) ++ (h0, .inr (2, [.ref q1, .null, .int 0, .int 0, .int 0, .int 0, .int 0, .int 0, .int 0])) :: [(q1, .inl (cA, 16, .inr (.inr (.inr (.inr (fun _ => none))))))]) := hD
  refine lv_aload_n hx hb dX2_init_13 rfl (lv_at hl 0 rfl) ?_
  refine va_new (ci := 0) (fs := [.null, .int 0, .int 0, .int 0, .int 0]) (C := RX0) (T := TX0) (N := 5) hx hb hts hinX0 tyX0 tyX0_ok hown (hts (.classLink RX2 15 RX0) (by decide +kernel)) (hts (.instantiable RX0 5) (by decide +kernel)) (hts (.initialized RX0) (by decide +kernel)) hK hP hD hS hA rfl (fun j hj => by rcases (show j = 0 ∨ j = 1 ∨ j = 2 ∨ j = 3 ∨ j = 4 by omega) with rfl | rfl | rfl | rfl | rfl <;> rfl) (Nat.le_of_ble_eq_true rfl) (Nat.le_of_ble_eq_true rfl) dX2_init_14 (fun q2 H hP hD hS => ?_)
  refine lv_dup hx hb dX2_init_17 rfl ?_
  refine va_callv (va_runIN (As := []) (rest := [.ref q2, .ref h0]) ⟨hx, hb, hml, hown, hts⟩ (mtX0_init l D z q2 _ _) ⟨va_cnB (host := "BootChooser") 0 hts gX2_init_X0_init_n17 rfl rfl rfl hN0 (hts (.initialized RX0) (by decide +kernel)) (by decide +kernel) ⟨Nat.le_of_ble_eq_true rfl, Nat.le_of_ble_eq_true rfl⟩, rfl, hts (.instanceMethod yX0_init) (by decide +kernel)⟩ ⟨ctor_blind, fun U hU hW9 => ⟨rfl, va_K.moved hW9.alike hK, by rw [hU]; exact hP, hD, by rw [hU]; exact Nat.le_trans hz hS.1⟩⟩ rfl rfl hl.1 rfl (lv_room (Nat.le_of_ble_eq_true rfl)) dX2_init_18 ⟨Nat.le_of_ble_eq_true rfl, Nat.le_of_ble_eq_true rfl⟩) hS (fun _ _ h => h) (fun _ h => h) (fun u t H locs ht hvm _ hB hz1 hk1 hS => ?_)
  obtain ⟨q3, cD, hK1, hP, hD⟩ := hB
  rw [ht] at hP
  have hK := va_K.moved hvm.symm hK1
  have hP : va_P D vwCl (([] : va_W) ++ (h0, .inr (2, [.ref q1, .null, .int 0, .int 0, .int 0, .int 0, .int 0, .int 0, .int 0])) :: [(q1, .inl (cA, 16, .inr (.inr (.inr (.inr (fun _ => none)))))), (q2, .inr (0, [.ref q3, .int 0, .int 0, .int 1, .int 0])), (q3, .inl (cD, 12, .inl (fun _ => 0)))]) H := hP
  have hD : va_D (Zf z) (([] : va_W) ++ (h0, .inr (2, [.ref q1, .null, .int 0, .int 0, .int 0, .int 0, .int 0, .int 0, .int 0])) :: [(q1, .inl (cA, 16, .inr (.inr (.inr (.inr (fun _ => none)))))), (q2, .inr (0, [.ref q3, .int 0, .int 0, .int 1, .int 0])), (q3, .inl (cD, 12, .inl (fun _ => 0)))]) := hD
  refine va_putF (D := D) (ci := 2) (v := .ref q2) (ty := .object "BootChooser$CodeLock") (C := RX2) (T := TX2) (N := 9) hx hb hts hinX2 tyX2 tyX2_ok nmX2 hown hK hP hD hS (List.length ([] : va_W)) cg rfl 1 (by decide) (hts (.fieldLink RX2 18 "BootChooser" "codeLock" "LBootChooser$CodeLock;") (by decide +kernel)) (fun _ h9 => h9) rfl hin rfl (by decide +kernel) rfl rfl (Nat.le_of_ble_eq_true rfl) dX2_init_21 (fun H locs hP hD hS => ?_)
  rw [cst] at hP hD
  have hP : va_P D vwCl (([] : va_W) ++ (h0, .inr (2, [.ref q1, .ref q2, .int 0, .int 0, .int 0, .int 0, .int 0, .int 0, .int 0])) :: [(q1, .inl (cA, 16, .inr (.inr (.inr (.inr (fun _ => none)))))), (q2, .inr (0, [.ref q3, .int 0, .int 0, .int 1, .int 0])), (q3, .inl (cD, 12, .inl (fun _ => 0)))]) H := hP
  have hD : va_D (Zf z) (([] : va_W) ++ (h0, .inr (2, [.ref q1, .ref q2, .int 0, .int 0, .int 0, .int 0, .int 0, .int 0, .int 0])) :: [(q1, .inl (cA, 16, .inr (.inr (.inr (.inr (fun _ => none)))))), (q2, .inr (0, [.ref q3, .int 0, .int 0, .int 1, .int 0])), (q3, .inl (cD, 12, .inl (fun _ => 0)))]) := hD
  refine lv_aload_n hx hb dX2_init_24 rfl (lv_at hl 0 rfl) ?_
  refine lv_iconst (v := 0) hx hb dX2_init_25 (by decide) ?_
  refine va_put (D := D) (ci := 2) (v := .int 0) (ty := .int) (C := RX2) (T := TX2) (N := 9) hx hb hts hinX2 tyX2 tyX2_ok nmX2 hown hK hP hD hS (List.length ([] : va_W)) cg rfl 2 (by decide) (hts (.fieldLink RX2 22 "BootChooser" "entriesEver" "I") (by decide +kernel)) (fun _ h9 => h9) rfl (by decide +kernel) rfl rfl (Nat.le_of_ble_eq_true rfl) dX2_init_26 (fun H locs hP hD hS => ?_)
  rw [cst] at hP hD
  have hP : va_P D vwCl (([] : va_W) ++ (h0, .inr (2, [.ref q1, .ref q2, .int 0, .int 0, .int 0, .int 0, .int 0, .int 0, .int 0])) :: [(q1, .inl (cA, 16, .inr (.inr (.inr (.inr (fun _ => none)))))), (q2, .inr (0, [.ref q3, .int 0, .int 0, .int 1, .int 0])), (q3, .inl (cD, 12, .inl (fun _ => 0)))]) H := hP
  have hD : va_D (Zf z) (([] : va_W) ++ (h0, .inr (2, [.ref q1, .ref q2, .int 0, .int 0, .int 0, .int 0, .int 0, .int 0, .int 0])) :: [(q1, .inl (cA, 16, .inr (.inr (.inr (.inr (fun _ => none)))))), (q2, .inr (0, [.ref q3, .int 0, .int 0, .int 1, .int 0])), (q3, .inl (cD, 12, .inl (fun _ => 0)))]) := hD
  refine lv_aload_n hx hb dX2_init_29 rfl (lv_at hl 0 rfl) ?_
  refine lv_iconst (v := (-1)) hx hb dX2_init_30 (by decide) ?_
  refine va_put (D := D) (ci := 2) (v := .int (-1)) (ty := .int) (C := RX2) (T := TX2) (N := 9) hx hb hts hinX2 tyX2 tyX2_ok nmX2 hown hK hP hD hS (List.length ([] : va_W)) cg rfl 3 (by decide) (hts (.fieldLink RX2 26 "BootChooser" "stayingChoice" "I") (by decide +kernel)) (fun _ h9 => h9) rfl (by decide +kernel) rfl rfl (Nat.le_of_ble_eq_true rfl) dX2_init_31 (fun H locs hP hD hS => ?_)
  rw [cst] at hP hD
  have hP : va_P D vwCl (([] : va_W) ++ (h0, .inr (2, [.ref q1, .ref q2, .int 0, .int (-1), .int 0, .int 0, .int 0, .int 0, .int 0])) :: [(q1, .inl (cA, 16, .inr (.inr (.inr (.inr (fun _ => none)))))), (q2, .inr (0, [.ref q3, .int 0, .int 0, .int 1, .int 0])), (q3, .inl (cD, 12, .inl (fun _ => 0)))]) H := hP
  have hD : va_D (Zf z) (([] : va_W) ++ (h0, .inr (2, [.ref q1, .ref q2, .int 0, .int (-1), .int 0, .int 0, .int 0, .int 0, .int 0])) :: [(q1, .inl (cA, 16, .inr (.inr (.inr (.inr (fun _ => none)))))), (q2, .inr (0, [.ref q3, .int 0, .int 0, .int 1, .int 0])), (q3, .inl (cD, 12, .inl (fun _ => 0)))]) := hD
  refine lv_aload_n hx hb dX2_init_34 rfl (lv_at hl 0 rfl) ?_
  refine lv_iconst (v := (-1)) hx hb dX2_init_35 (by decide) ?_
  refine va_put (D := D) (ci := 2) (v := .int (-1)) (ty := .int) (C := RX2) (T := TX2) (N := 9) hx hb hts hinX2 tyX2 tyX2_ok nmX2 hown hK hP hD hS (List.length ([] : va_W)) cg rfl 4 (by decide) (hts (.fieldLink RX2 29 "BootChooser" "onceChoice" "I") (by decide +kernel)) (fun _ h9 => h9) rfl (by decide +kernel) rfl rfl (Nat.le_of_ble_eq_true rfl) dX2_init_36 (fun H locs hP hD hS => ?_)
  rw [cst] at hP hD
  have hP : va_P D vwCl (([] : va_W) ++ (h0, .inr (2, [.ref q1, .ref q2, .int 0, .int (-1), .int (-1), .int 0, .int 0, .int 0, .int 0])) :: [(q1, .inl (cA, 16, .inr (.inr (.inr (.inr (fun _ => none)))))), (q2, .inr (0, [.ref q3, .int 0, .int 0, .int 1, .int 0])), (q3, .inl (cD, 12, .inl (fun _ => 0)))]) H := hP
  have hD : va_D (Zf z) (([] : va_W) ++ (h0, .inr (2, [.ref q1, .ref q2, .int 0, .int (-1), .int (-1), .int 0, .int 0, .int 0, .int 0])) :: [(q1, .inl (cA, 16, .inr (.inr (.inr (.inr (fun _ => none)))))), (q2, .inr (0, [.ref q3, .int 0, .int 0, .int 1, .int 0])), (q3, .inl (cD, 12, .inl (fun _ => 0)))]) := hD
  refine lv_aload_n hx hb dX2_init_39 rfl (lv_at hl 0 rfl) ?_
  refine lv_iconst (v := 0) hx hb dX2_init_40 (by decide) ?_
  refine va_put (D := D) (ci := 2) (v := .int 0) (ty := .int) (C := RX2) (T := TX2) (N := 9) hx hb hts hinX2 tyX2 tyX2_ok nmX2 hown hK hP hD hS (List.length ([] : va_W)) cg rfl 5 (by decide) (hts (.fieldLink RX2 32 "BootChooser" "patternFrom" "I") (by decide +kernel)) (fun _ h9 => h9) rfl (by decide +kernel) rfl rfl (Nat.le_of_ble_eq_true rfl) dX2_init_41 (fun H locs hP hD hS => ?_)
  rw [cst] at hP hD
  have hP : va_P D vwCl (([] : va_W) ++ (h0, .inr (2, [.ref q1, .ref q2, .int 0, .int (-1), .int (-1), .int 0, .int 0, .int 0, .int 0])) :: [(q1, .inl (cA, 16, .inr (.inr (.inr (.inr (fun _ => none)))))), (q2, .inr (0, [.ref q3, .int 0, .int 0, .int 1, .int 0])), (q3, .inl (cD, 12, .inl (fun _ => 0)))]) H := hP
  have hD : va_D (Zf z) (([] : va_W) ++ (h0, .inr (2, [.ref q1, .ref q2, .int 0, .int (-1), .int (-1), .int 0, .int 0, .int 0, .int 0])) :: [(q1, .inl (cA, 16, .inr (.inr (.inr (.inr (fun _ => none)))))), (q2, .inr (0, [.ref q3, .int 0, .int 0, .int 1, .int 0])), (q3, .inl (cD, 12, .inl (fun _ => 0)))]) := hD
  refine lv_aload_n hx hb dX2_init_44 rfl (lv_at hl 0 rfl) ?_
  refine lv_bipush (v := 99) hx hb dX2_init_45 (by decide) ?_
  refine va_put (D := D) (ci := 2) (v := .int 99) (ty := .int) (C := RX2) (T := TX2) (N := 9) hx hb hts hinX2 tyX2 tyX2_ok nmX2 hown hK hP hD hS (List.length ([] : va_W)) cg rfl 6 (by decide) (hts (.fieldLink RX2 35 "BootChooser" "patternTo" "I") (by decide +kernel)) (fun _ h9 => h9) rfl (by decide +kernel) rfl rfl (Nat.le_of_ble_eq_true rfl) dX2_init_47 (fun H locs hP hD hS => ?_)
  rw [cst] at hP hD
  have hP : va_P D vwCl (([] : va_W) ++ (h0, .inr (2, [.ref q1, .ref q2, .int 0, .int (-1), .int (-1), .int 0, .int 99, .int 0, .int 0])) :: [(q1, .inl (cA, 16, .inr (.inr (.inr (.inr (fun _ => none)))))), (q2, .inr (0, [.ref q3, .int 0, .int 0, .int 1, .int 0])), (q3, .inl (cD, 12, .inl (fun _ => 0)))]) H := hP
  have hD : va_D (Zf z) (([] : va_W) ++ (h0, .inr (2, [.ref q1, .ref q2, .int 0, .int (-1), .int (-1), .int 0, .int 99, .int 0, .int 0])) :: [(q1, .inl (cA, 16, .inr (.inr (.inr (.inr (fun _ => none)))))), (q2, .inr (0, [.ref q3, .int 0, .int 0, .int 1, .int 0])), (q3, .inl (cD, 12, .inl (fun _ => 0)))]) := hD
  refine lv_aload_n hx hb dX2_init_50 rfl (lv_at hl 0 rfl) ?_
  refine lv_iconst (v := (-1)) hx hb dX2_init_51 (by decide) ?_
  refine va_put (D := D) (ci := 2) (v := .int (-1)) (ty := .int) (C := RX2) (T := TX2) (N := 9) hx hb hts hinX2 tyX2 tyX2_ok nmX2 hown hK hP hD hS (List.length ([] : va_W)) cg rfl 7 (by decide) (hts (.fieldLink RX2 38 "BootChooser" "runningEntry" "I") (by decide +kernel)) (fun _ h9 => h9) rfl (by decide +kernel) rfl rfl (Nat.le_of_ble_eq_true rfl) dX2_init_52 (fun H locs hP hD hS => ?_)
  rw [cst] at hP hD
  have hP : va_P D vwCl (([] : va_W) ++ (h0, .inr (2, [.ref q1, .ref q2, .int 0, .int (-1), .int (-1), .int 0, .int 99, .int (-1), .int 0])) :: [(q1, .inl (cA, 16, .inr (.inr (.inr (.inr (fun _ => none)))))), (q2, .inr (0, [.ref q3, .int 0, .int 0, .int 1, .int 0])), (q3, .inl (cD, 12, .inl (fun _ => 0)))]) H := hP
  have hD : va_D (Zf z) (([] : va_W) ++ (h0, .inr (2, [.ref q1, .ref q2, .int 0, .int (-1), .int (-1), .int 0, .int 99, .int (-1), .int 0])) :: [(q1, .inl (cA, 16, .inr (.inr (.inr (.inr (fun _ => none)))))), (q2, .inr (0, [.ref q3, .int 0, .int 0, .int 1, .int 0])), (q3, .inl (cD, 12, .inl (fun _ => 0)))]) := hD
  refine lv_aload_n hx hb dX2_init_55 rfl (lv_at hl 0 rfl) ?_
  refine lv_iconst (v := 0) hx hb dX2_init_56 (by decide) ?_
  refine va_put (D := D) (ci := 2) (v := .int 0) (ty := .int) (C := RX2) (T := TX2) (N := 9) hx hb hts hinX2 tyX2 tyX2_ok nmX2 hown hK hP hD hS (List.length ([] : va_W)) cg rfl 8 (by decide) (hts (.fieldLink RX2 41 "BootChooser" "measured" "I") (by decide +kernel)) (fun _ h9 => h9) rfl (by decide +kernel) rfl rfl (Nat.le_of_ble_eq_true rfl) dX2_init_57 (fun H locs hP hD hS => ?_)
  rw [cst] at hP hD
  have hP : va_P D vwCl (([] : va_W) ++ (h0, .inr (2, [.ref q1, .ref q2, .int 0, .int (-1), .int (-1), .int 0, .int 99, .int (-1), .int 0])) :: [(q1, .inl (cA, 16, .inr (.inr (.inr (.inr (fun _ => none)))))), (q2, .inr (0, [.ref q3, .int 0, .int 0, .int 1, .int 0])), (q3, .inl (cD, 12, .inl (fun _ => 0)))]) H := hP
  have hD : va_D (Zf z) (([] : va_W) ++ (h0, .inr (2, [.ref q1, .ref q2, .int 0, .int (-1), .int (-1), .int 0, .int 99, .int (-1), .int 0])) :: [(q1, .inl (cA, 16, .inr (.inr (.inr (.inr (fun _ => none)))))), (q2, .inr (0, [.ref q3, .int 0, .int 0, .int 1, .int 0])), (q3, .inl (cD, 12, .inl (fun _ => 0)))]) := hD
  refine lv_iconst (v := 0) hx hb dX2_init_60 (by decide) ?_
  refine lv_istore_n (lv' := [(1, .int 0), (0, .ref h0)]) hx hb dX2_init_61 rfl hl (by decide) rfl (fun ls hl => ?_)
  have hloop : ∀ (n9 i : Nat) (ad : Nat → Nat) (H : Heap) (locs : List Loc), i ≤ 16 → 16 < i + n9 → va_P D vwCl (w4 h0 q1 q2 q3 cA cD (adO ad i) (fsB q1 q2) ++ wE ad i) H → va_D (Zf z) (w4 h0 q1 q2 q3 cA cD (adO ad i) (fsB q1 q2) ++ wE ad i) → va_S (Zf z) s.heap H locs → ∀ ls : Array Slot, lv_has ls 2 [(1, .int (nI i)), (0, .ref h0)] → W p l e (headSpec wsX2_init ({ frames := 2, cells := 19, slots := 161, locals := 32 } : Room)).room s m ([.ref h0] : List Value).toArray below meth c H locs (3 + i) (33 + 8 * i) (MQ below (va_Qv (S := Unit) (fun _ => True) (fun _ t => bornB D z h0 t) (Zf z)) ([.ref h0] : List Value).toArray s 19 161 (Zf z)) (F0 m 62 ls []) := by
    intro n9
    induction n9 with
    | zero =>
      intro i ad H locs h1 h2
      exact absurd h2 (by omega)
    | succ n9 ih =>
      intro i ad H locs hi hlim hP hD hS ls hl
      refine lv_iload_n hx hb dX2_init_62 rfl (lv_at hl 0 rfl) ?_
      refine lv_aload_n hx hb dX2_init_63 rfl (lv_at hl 1 rfl) ?_
      refine va_get (D := D) (ci := 2) (v := .ref q1) (C := RX2) (T := TX2) (N := 9) hx hb hts hinX2 hown hK hP 0 rfl rfl 0 (by decide) (hts (.fieldLink RX2 11 "BootChooser" "rows" "[LBootChooser$Entry;") (by decide +kernel)) (fun _ h9 => h9) rfl dX2_init_64 ?_
      refine va_alen hx hb hK hP 1 0 rfl rfl (v := 16) rfl dX2_init_67 ?_
      refine lv_icmp_ge (tgt := 90) hx hb dX2_init_68 (by decide) (fun c1 => ?_) (fun c1 => ?_)
      · obtain rfl : i = 16 := (nI16_le hi).mp c1
        exact W.vret hx hb hr (fun t ht hW9 => ⟨⟨(), rfl, trivial, q1, q2, q3, ad, cA, cD, va_K.moved hW9.alike hK, by rw [ht]; exact hP, hD⟩, hS.F ht⟩) hS.2.2 dX2_init_90
      · have hlt : i < 16 := (nI16_le_n hi).mp c1
        refine lv_aload_n hx hb dX2_init_71 rfl (lv_at hl 1 rfl) ?_
        refine va_get (D := D) (ci := 2) (v := .ref q1) (C := RX2) (T := TX2) (N := 9) hx hb hts hinX2 hown hK hP 0 rfl rfl 0 (by decide) (hts (.fieldLink RX2 11 "BootChooser" "rows" "[LBootChooser$Entry;") (by decide +kernel)) (fun _ h9 => h9) rfl dX2_init_72 ?_
        refine lv_iload_n hx hb dX2_init_75 rfl (lv_at hl 0 rfl) ?_
        refine va_new (ci := 1) (fs := [.int 0, .int 0, .int 0, .int 0, .int 0, .int 0, .int 0, .int 0]) (C := RX1) (T := TX1) (N := 8) hx hb hts hinX1 tyX1 tyX1_ok hown (hts (.classLink RX2 9 RX1) (by decide +kernel)) (hts (.instantiable RX1 8) (by decide +kernel)) (hts (.initialized RX1) (by decide +kernel)) hK hP hD hS hA rfl (fun j hj => by rcases (show j = 0 ∨ j = 1 ∨ j = 2 ∨ j = 3 ∨ j = 4 ∨ j = 5 ∨ j = 6 ∨ j = 7 by omega) with rfl | rfl | rfl | rfl | rfl | rfl | rfl | rfl <;> rfl) (show 3 + i + 1 ≤ 19 by omega) (show 33 + 8 * i + 8 ≤ 161 by omega) dX2_init_76 (fun q H hP hD hS => ?_)
        refine lv_dup hx hb dX2_init_79 rfl ?_
        refine va_callv (va_runIN (As := []) (rest := [.ref q, .int (nI i), .ref q1]) ⟨hx, hb, hml, hown, hts⟩ (mtX1_init l D z q _ _) ⟨va_cnB (host := "BootChooser") 0 hts gX2_init_X1_init_n44 rfl rfl rfl hN1 (hts (.initialized RX1) (by decide +kernel)) (by decide +kernel) ⟨Nat.le_of_ble_eq_true rfl, Nat.le_of_ble_eq_true rfl⟩, rfl, hts (.instanceMethod yX1_init) (by decide +kernel)⟩ ⟨ctor_blind, fun U hU hW9 => ⟨rfl, va_K.moved hW9.alike hK, by rw [hU]; exact hP, hD, by rw [hU]; exact Nat.le_trans hz hS.1⟩⟩ rfl rfl hl.1 rfl (lv_room (Nat.le_of_ble_eq_true rfl)) dX2_init_80 ⟨show 3 + i + 1 + 0 ≤ 19 by omega, show 33 + 8 * i + 8 + 0 ≤ 161 by omega⟩) hS (fun _ _ h => h) (fun _ h => h) (fun u t H locs ht hvm _ hB hz1 hk1 hS => ?_)
        obtain ⟨hP, hD⟩ := hB
        rw [ht] at hP
        refine va_astq hx hb hK hP hD hS 1 0 (4 + i) 1 rfl rfl w4_at rfl (vp_in_nI hlt (by omega)) dX2_init_83 (fun H locs hP hD hS => ?_)
        rw [nI_clamp (by omega), w4_S] at hP hD
        refine lv_iinc (v := nI (i + 1)) (lv' := [(1, .int (nI (i + 1))), (0, .ref h0)]) hx hb dX2_init_84 hl (k := 0) rfl (nI_1 _) (by decide) rfl (fun ls hl => ?_)
        refine lv_goto (tgt := 62) hx hb dX2_init_87 (by decide) ?_
        refine W.widen (k := 3 + (i + 1)) (n := 33 + 8 * (i + 1)) (by omega) (by omega) ?_
        exact ih (i + 1) _ H locs (by omega) (by omega) hP hD hS ls hl
  refine W.widen (k := 3 + 0) (n := 33 + 8 * 0) (Nat.le_of_ble_eq_true rfl) (Nat.le_of_ble_eq_true rfl) ?_
  exact hloop 17 0 (fun _ => 0) H locs (Nat.zero_le _) (by omega) (by rw [adO_0]; exact hP) (by rw [adO_0]; exact hD) hS ls hl
end
