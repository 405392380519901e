section
-- ===== PART A: goes FIRST, ahead of the names: the tables' words, and 'selects' of the private methods out of them =====
/-- a private method of a class that the tables say can be made, by its rows of tables_1 -/
def lw_okq (q : MethodName × Nat) : Prop := (q.1.cls ≠ "java/lang/invoke/MethodHandle" ∧ q.1.cls ≠ "java/lang/invoke/VarHandle") ∧ Cond.instantiable q.1.cls q.2 ∈ tables_1 ∧ Cond.privateMethod q.1 ∈ tables_1 ∧ Cond.instanceMethod q.1 ∈ tables_1
theorem lw_p0 : lw_okq (⟨"java/lang/Throwable", "fillInStackTrace", "(I)Ljava/lang/Throwable;"⟩, 6) := ⟨⟨by decide +kernel, by decide +kernel⟩, List.mem_of_getElem? (i := 137) (by decide +kernel), List.mem_of_getElem? (i := 135) (by decide +kernel), List.mem_of_getElem? (i := 136) (by decide +kernel)⟩
theorem lw_p1 : lw_okq (⟨"Cascadecourt$Row", "settle", "()V"⟩, 7) := ⟨⟨by decide +kernel, by decide +kernel⟩, List.mem_of_getElem? (i := 182) (by decide +kernel), List.mem_of_getElem? (i := 191) (by decide +kernel), List.mem_of_getElem? (i := 192) (by decide +kernel)⟩
theorem lw_p2 : lw_okq (⟨"Cascadecourt$Row", "turnFrom", "(I)I"⟩, 7) := ⟨⟨by decide +kernel, by decide +kernel⟩, List.mem_of_getElem? (i := 182) (by decide +kernel), List.mem_of_getElem? (i := 211) (by decide +kernel), List.mem_of_getElem? (i := 212) (by decide +kernel)⟩
theorem lw_p3 : lw_okq (⟨"Cascadecourt$Row", "stateBefore", "(I)I"⟩, 7) := ⟨⟨by decide +kernel, by decide +kernel⟩, List.mem_of_getElem? (i := 182) (by decide +kernel), List.mem_of_getElem? (i := 215) (by decide +kernel), List.mem_of_getElem? (i := 216) (by decide +kernel)⟩
theorem lw_p4 : lw_okq (⟨"Cascadecourt$Juggler", "beatsTillLanding", "(I)I"⟩, 8) := ⟨⟨by decide +kernel, by decide +kernel⟩, List.mem_of_getElem? (i := 25) (by decide +kernel), List.mem_of_getElem? (i := 259) (by decide +kernel), List.mem_of_getElem? (i := 260) (by decide +kernel)⟩
theorem lw_p5 : lw_okq (⟨"Cascadecourt$Juggler", "slip", "(I)V"⟩, 8) := ⟨⟨by decide +kernel, by decide +kernel⟩, List.mem_of_getElem? (i := 25) (by decide +kernel), List.mem_of_getElem? (i := 280) (by decide +kernel), List.mem_of_getElem? (i := 281) (by decide +kernel)⟩
theorem lw_p6 : lw_okq (⟨"Cascadecourt$Juggler", "dropProp", "(I)V"⟩, 8) := ⟨⟨by decide +kernel, by decide +kernel⟩, List.mem_of_getElem? (i := 25) (by decide +kernel), List.mem_of_getElem? (i := 288) (by decide +kernel), List.mem_of_getElem? (i := 289) (by decide +kernel)⟩
theorem lw_p7 : lw_okq (⟨"Cascadecourt$Juggler", "sendUp", "(II)V"⟩, 8) := ⟨⟨by decide +kernel, by decide +kernel⟩, List.mem_of_getElem? (i := 25) (by decide +kernel), List.mem_of_getElem? (i := 292) (by decide +kernel), List.mem_of_getElem? (i := 293) (by decide +kernel)⟩
theorem lw_p8 : lw_okq (⟨"Cascadecourt$Juggler", "tire", "(II)V"⟩, 8) := ⟨⟨by decide +kernel, by decide +kernel⟩, List.mem_of_getElem? (i := 25) (by decide +kernel), List.mem_of_getElem? (i := 296) (by decide +kernel), List.mem_of_getElem? (i := 297) (by decide +kernel)⟩
theorem lw_p9 : lw_okq (⟨"Cascadecourt$Juggler", "isDropped", "(I)Z"⟩, 8) := ⟨⟨by decide +kernel, by decide +kernel⟩, List.mem_of_getElem? (i := 25) (by decide +kernel), List.mem_of_getElem? (i := 310) (by decide +kernel), List.mem_of_getElem? (i := 311) (by decide +kernel)⟩
theorem lw_p10 : lw_okq (⟨"Cascadecourt", "rowNumbered", "(I)LCascadecourt$Row;"⟩, 4) := ⟨⟨by decide +kernel, by decide +kernel⟩, List.mem_of_getElem? (i := 15) (by decide +kernel), List.mem_of_getElem? (i := 318) (by decide +kernel), List.mem_of_getElem? (i := 319) (by decide +kernel)⟩
theorem lw_p11 : lw_okq (⟨"Cascadecourt$Row", "crossingThrows", "()I"⟩, 7) := ⟨⟨by decide +kernel, by decide +kernel⟩, List.mem_of_getElem? (i := 182) (by decide +kernel), List.mem_of_getElem? (i := 358) (by decide +kernel), List.mem_of_getElem? (i := 359) (by decide +kernel)⟩
theorem lw_p12 : lw_okq (⟨"Cascadecourt$Row", "orbits", "()I"⟩, 7) := ⟨⟨by decide +kernel, by decide +kernel⟩, List.mem_of_getElem? (i := 182) (by decide +kernel), List.mem_of_getElem? (i := 362) (by decide +kernel), List.mem_of_getElem? (i := 363) (by decide +kernel)⟩
theorem lw_p13 : lw_okq (⟨"Cascadecourt$Row", "isFirstOfOrbit", "(I)Z"⟩, 7) := ⟨⟨by decide +kernel, by decide +kernel⟩, List.mem_of_getElem? (i := 182) (by decide +kernel), List.mem_of_getElem? (i := 366) (by decide +kernel), List.mem_of_getElem? (i := 367) (by decide +kernel)⟩
theorem lw_p14 : lw_okq (⟨"Cascadecourt$Row", "oneIfPrime", "()I"⟩, 7) := ⟨⟨by decide +kernel, by decide +kernel⟩, List.mem_of_getElem? (i := 182) (by decide +kernel), List.mem_of_getElem? (i := 370) (by decide +kernel), List.mem_of_getElem? (i := 371) (by decide +kernel)⟩
theorem lw_p15 : lw_okq (⟨"Cascadecourt$Row", "oneIfGround", "()I"⟩, 7) := ⟨⟨by decide +kernel, by decide +kernel⟩, List.mem_of_getElem? (i := 182) (by decide +kernel), List.mem_of_getElem? (i := 378) (by decide +kernel), List.mem_of_getElem? (i := 379) (by decide +kernel)⟩
def lw_privs_1 : List (MethodName × Nat) := [(⟨"java/lang/Throwable", "fillInStackTrace", "(I)Ljava/lang/Throwable;"⟩, 6), (⟨"Cascadecourt$Row", "settle", "()V"⟩, 7), (⟨"Cascadecourt$Row", "turnFrom", "(I)I"⟩, 7), (⟨"Cascadecourt$Row", "stateBefore", "(I)I"⟩, 7), (⟨"Cascadecourt$Juggler", "beatsTillLanding", "(I)I"⟩, 8), (⟨"Cascadecourt$Juggler", "slip", "(I)V"⟩, 8), (⟨"Cascadecourt$Juggler", "dropProp", "(I)V"⟩, 8), (⟨"Cascadecourt$Juggler", "sendUp", "(II)V"⟩, 8), (⟨"Cascadecourt$Juggler", "tire", "(II)V"⟩, 8), (⟨"Cascadecourt$Juggler", "isDropped", "(I)Z"⟩, 8), (⟨"Cascadecourt", "rowNumbered", "(I)LCascadecourt$Row;"⟩, 4), (⟨"Cascadecourt$Row", "crossingThrows", "()I"⟩, 7), (⟨"Cascadecourt$Row", "orbits", "()I"⟩, 7), (⟨"Cascadecourt$Row", "isFirstOfOrbit", "(I)Z"⟩, 7), (⟨"Cascadecourt$Row", "oneIfPrime", "()I"⟩, 7), (⟨"Cascadecourt$Row", "oneIfGround", "()I"⟩, 7)]
theorem lw_r1 : ∀ q ∈ lw_privs_1, lw_okq q := List.forall_mem_cons.mpr ⟨lw_p0, List.forall_mem_cons.mpr ⟨lw_p1, List.forall_mem_cons.mpr ⟨lw_p2, List.forall_mem_cons.mpr ⟨lw_p3, List.forall_mem_cons.mpr ⟨lw_p4, List.forall_mem_cons.mpr ⟨lw_p5, List.forall_mem_cons.mpr ⟨lw_p6, List.forall_mem_cons.mpr ⟨lw_p7, List.forall_mem_cons.mpr ⟨lw_p8, List.forall_mem_cons.mpr ⟨lw_p9, List.forall_mem_cons.mpr ⟨lw_p10, List.forall_mem_cons.mpr ⟨lw_p11, List.forall_mem_cons.mpr ⟨lw_p12, List.forall_mem_cons.mpr ⟨lw_p13, List.forall_mem_cons.mpr ⟨lw_p14, List.forall_mem_cons.mpr ⟨lw_p15, fun _ h => absurd h List.not_mem_nil⟩⟩⟩⟩⟩⟩⟩⟩⟩⟩⟩⟩⟩⟩⟩⟩
theorem lw_p16 : lw_okq (⟨"Cascadecourt$Row", "period", "()I"⟩, 7) := ⟨⟨by decide +kernel, by decide +kernel⟩, List.mem_of_getElem? (i := 182) (by decide +kernel), List.mem_of_getElem? (i := 382) (by decide +kernel), List.mem_of_getElem? (i := 383) (by decide +kernel)⟩
theorem lw_p17 : lw_okq (⟨"Cascadecourt$Row", "greatestTurn", "()I"⟩, 7) := ⟨⟨by decide +kernel, by decide +kernel⟩, List.mem_of_getElem? (i := 182) (by decide +kernel), List.mem_of_getElem? (i := 390) (by decide +kernel), List.mem_of_getElem? (i := 391) (by decide +kernel)⟩
theorem lw_p18 : lw_okq (⟨"Cascadecourt", "howMany", "(I)I"⟩, 4) := ⟨⟨by decide +kernel, by decide +kernel⟩, List.mem_of_getElem? (i := 15) (by decide +kernel), List.mem_of_getElem? (i := 398) (by decide +kernel), List.mem_of_getElem? (i := 399) (by decide +kernel)⟩
theorem lw_p19 : lw_okq (⟨"Cascadecourt", "soundRows", "()I"⟩, 4) := ⟨⟨by decide +kernel, by decide +kernel⟩, List.mem_of_getElem? (i := 15) (by decide +kernel), List.mem_of_getElem? (i := 422) (by decide +kernel), List.mem_of_getElem? (i := 423) (by decide +kernel)⟩
theorem lw_p20 : lw_okq (⟨"Cascadecourt", "stepsInto", "(LCascadecourt$Row;)I"⟩, 4) := ⟨⟨by decide +kernel, by decide +kernel⟩, List.mem_of_getElem? (i := 15) (by decide +kernel), List.mem_of_getElem? (i := 468) (by decide +kernel), List.mem_of_getElem? (i := 469) (by decide +kernel)⟩
theorem lw_p21 : lw_okq (⟨"Cascadecourt$Ways", "lookOnFrom", "(II)I"⟩, 4) := ⟨⟨by decide +kernel, by decide +kernel⟩, List.mem_of_getElem? (i := 57) (by decide +kernel), List.mem_of_getElem? (i := 483) (by decide +kernel), List.mem_of_getElem? (i := 484) (by decide +kernel)⟩
theorem lw_p22 : lw_okq (⟨"Cascadecourt", "firstThrowInto", "(LCascadecourt$Row;)I"⟩, 4) := ⟨⟨by decide +kernel, by decide +kernel⟩, List.mem_of_getElem? (i := 15) (by decide +kernel), List.mem_of_getElem? (i := 501) (by decide +kernel), List.mem_of_getElem? (i := 502) (by decide +kernel)⟩
theorem lw_p23 : lw_okq (⟨"Cascadecourt", "addRow", "(JLCascadecourt$Row;)J"⟩, 4) := ⟨⟨by decide +kernel, by decide +kernel⟩, List.mem_of_getElem? (i := 15) (by decide +kernel), List.mem_of_getElem? (i := 528) (by decide +kernel), List.mem_of_getElem? (i := 529) (by decide +kernel)⟩
theorem lw_p24 : lw_okq (⟨"Cascadecourt$Juggler", "handOf", "(I)I"⟩, 8) := ⟨⟨by decide +kernel, by decide +kernel⟩, List.mem_of_getElem? (i := 25) (by decide +kernel), List.mem_of_getElem? (i := 540) (by decide +kernel), List.mem_of_getElem? (i := 541) (by decide +kernel)⟩
def lw_privs_2 : List (MethodName × Nat) := [(⟨"Cascadecourt$Row", "period", "()I"⟩, 7), (⟨"Cascadecourt$Row", "greatestTurn", "()I"⟩, 7), (⟨"Cascadecourt", "howMany", "(I)I"⟩, 4), (⟨"Cascadecourt", "soundRows", "()I"⟩, 4), (⟨"Cascadecourt", "stepsInto", "(LCascadecourt$Row;)I"⟩, 4), (⟨"Cascadecourt$Ways", "lookOnFrom", "(II)I"⟩, 4), (⟨"Cascadecourt", "firstThrowInto", "(LCascadecourt$Row;)I"⟩, 4), (⟨"Cascadecourt", "addRow", "(JLCascadecourt$Row;)J"⟩, 4), (⟨"Cascadecourt$Juggler", "handOf", "(I)I"⟩, 8)]
theorem lw_r2 : ∀ q ∈ lw_privs_2, lw_okq q := List.forall_mem_cons.mpr ⟨lw_p16, List.forall_mem_cons.mpr ⟨lw_p17, List.forall_mem_cons.mpr ⟨lw_p18, List.forall_mem_cons.mpr ⟨lw_p19, List.forall_mem_cons.mpr ⟨lw_p20, List.forall_mem_cons.mpr ⟨lw_p21, List.forall_mem_cons.mpr ⟨lw_p22, List.forall_mem_cons.mpr ⟨lw_p23, List.forall_mem_cons.mpr ⟨lw_p24, fun _ h => absurd h List.not_mem_nil⟩⟩⟩⟩⟩⟩⟩⟩⟩
def lw_privs : List (MethodName × Nat) := lw_privs_1 ++ (lw_privs_2)
def lw_tbl : List Cond := k2_sels lw_privs ++ tables_1
theorem lw_privs_ok : ∀ q ∈ lw_privs, lw_okq q := by
  show ∀ q ∈ lw_privs_1 ++ (lw_privs_2), lw_okq q
  exact List.forall_mem_append.mpr ⟨lw_r1, lw_r2⟩
/-- the streams that the claim lets the run draw from -/
abbrev lw_cs : List Choice := [Jvm.Choice.named "NaN.bits"]
theorem lw_bits : nanBits ∈ lw_cs := by first | decide | exact List.mem_cons_self | simp [lw_cs, nanBits]
/-! ===== BEGIN words of one list among another's, by their places ===== -/
theorem goodIn_r {big : List Cond} (ws : List Cond) (ps : List Nat) (hp : ws = ps.filterMap (fun i => big[i]?)) (h : ws.all goodWord = true) : GoodIn big ws := by
  intro w hw
  have h1 := List.all_eq_true.mp h w hw
  rw [hp] at hw
  obtain ⟨i, -, hi⟩ := List.mem_filterMap.mp hw
  have hm : w ∈ big := by first | exact List.mem_of_getElem? hi | exact List.getElem?_mem hi
  exact ⟨hm, good_of_word h1⟩
theorem goodIn_app {big a b : List Cond} (ha : GoodIn big a) (hb : GoodIn big b) : GoodIn big (a ++ b) := fun w h => (List.mem_append.mp h).elim (ha w) (hb w)
theorem goodIn_ca {big a b : List Cond} {c : Cond} (ha : GoodIn big (c :: a)) (hb : GoodIn big b) : GoodIn big (c :: (a ++ b)) := fun w h => (List.mem_cons.mp h).elim (fun e => ha w (List.mem_cons.mpr (Or.inl e))) (fun h => (List.mem_append.mp h).elim (fun h => ha w (List.mem_cons.mpr (Or.inr h))) (hb w))
theorem goodIn_sub {big ws : List Cond} (hm : ∀ w ∈ ws, w ∈ big) (h : ws.all goodWord = true) : GoodIn big ws := fun w hw => ⟨hm w hw, good_of_word (List.all_eq_true.mp h w hw)⟩
/-! ===== END ===== -/

/-! ===== BEGIN exceptions that leave a method, and their catching by the caller (launches without stack traces) ===== -/
section VXA
/-! The laws vx_back, vx_callV, vx_callS, vx_callSW, vx_throw0, vx_throwS follow proofs of the library, with one case more: JvmDerived/Free/Laws.lean (Back.of_free), Shelf42/LK1.lean (callV, callS), Shelf/KitTraced.lean (throwNew0V, throwNewS). -/
/-- where a method has thrown q: the class by its name, the cell, what was written, the world -/
def vx_T (XC : String → State → State → Prop) (st : State) (q : Addr) (t : State) (mc ms : Nat) (free : Addr → Prop) : Prop :=
  ∃ (E : String) (ce : Cell) (L : List Loc), XC E st t ∧ t.heap[q]? = some ce ∧ ce.vm = .none ∧ st.vm.findClass E = some ce.cls ∧ st.WarmedH t.vm ∧ st.sameButNew ({ t with vm := st.vm } : State) L mc ms ∧ ∀ z ∈ L, free z.base
def vx_Q (Qc : Array Value → State → Outcome → State → Prop) (XC : String → State → State → Prop) (mc ms : Nat) (free : Addr → Prop) : Array Value → State → Outcome → State → Prop := fun a st o t =>
  (Qc a st o t ∧ ∃ L, FrameEnd st o t L mc ms ∧ ∀ q ∈ L, free q.base) ∨ ∃ q, o = .threw q ∧ vx_T XC st q t mc ms free
/-- a callee that returns or throws -/
def vx_Met (l : Launch) (y : MethodName) (ws : List Cond) (rm : Room) (Pc : Array Value → State → Prop) (Qc : Array Value → State → Outcome → State → Prop) (XC : String → State → State → Prop) (mc ms : Nat) (free : Addr → Prop) : Prop :=
  MetFree l y (headSpec ws rm) Pc (fun _ _ _ _ _ => True) (vx_Q Qc XC mc ms free)
def vx_Post (XC : String → State → State → Prop) (mc ms : Nat) (free : Addr → Prop) : Pt → Array Value → Addr → Pt → Prop := fun A a q B =>
  ∃ (g : JFrame) (mk : MethodId) (t : State) (L : List Loc) (E : String) (ce : Cell), B.U.heap = t.heap ∧ B.U.vm = t.vm ∧ XC E (A.U.calling g mk a) t ∧ t.heap[q]? = some ce ∧ ce.vm = .none ∧ A.U.vm.findClass E = some ce.cls ∧ B.locs = A.locs ++ L ∧ (∀ z ∈ L, free z.base) ∧ B.cells = A.cells + mc ∧ B.slots = A.slots + ms
def vx_Back (l : Launch) (R : Room) (p : Program) (e : Env) (below : List Frame) (s : State) (sargs : Array Value) (y : MethodName) (len W9 : Nat)
    (Pre : Pt → Array Value → Prop) (Post : Pt → Array Value → Option Value → Pt → Prop) (PostX : Pt → Array Value → Addr → Pt → Prop) : Prop :=
  ∀ (m : MethodId) (meth : Method) (c : Code) (A : Pt) (g : JFrame) (ig : Instr) (mk : MethodId) (a : Array Value),
    Stand p l e R s m sargs below meth c A.U A.locs A.cells A.slots → g.method = m → g.locals.size = c.maxLocals → decode c.code g.pc = .ok (ig, len) →
    2 * g.monitorRoom + (g.stack.map fun v => v.category).sum ≤ W9 → A.U.methodNamed? y = some mk → Pre A a →
    (∃ (v : Option Value) (B : Pt), Stand p l e R s m sargs below meth c B.U B.locs B.cells B.slots ∧ Post A a v B ∧
      Steps p.tables e below (doInvoke e (A.U.setTop g) [] mk a).1 (B.U.setTop { g with pc := g.pc + len, stack := v.toList ++ g.stack })) ∨
    (∃ (q : Addr) (B : Pt), Stand p l e R s m sargs below meth c B.U B.locs B.cells B.slots ∧ PostX A a q B ∧
      Steps p.tables e below (doInvoke e (A.U.setTop g) [] mk a).1 ((B.U.setTop g).pushFrame (.throwing q)))
section Payer
variable {l : Launch} {R : Room} {p : Program} {e : Env} {below : List Frame} {s : State} {sargs : Array Value} {y : MethodName} {len W9 : Nat}
theorem vx_back {ws : List Cond} {rm : Room} {Pc : Array Value → State → Prop} {Qc : Array Value → State → Outcome → State → Prop} {XC : String → State → State → Prop} {mc ms : Nat} {free : Addr → Prop} {bytes : ByteArray} {maxL : Nat} {ret : Option FieldType}
    (hM : vx_Met l y ws rm Pc Qc XC mc ms free) (hblind : FrameBlind Pc) (hrc : rm.cells = mc) (hrs : rm.slots = ms)
    (hframes : rm.frames + 1 ≤ R.frames) (hlocals : W9 + (maxL + 11) + rm.locals ≤ R.locals)
    (hws : ∀ w ∈ ws, ∀ a' U, s.WarmedH U.vm → w.before a' U = true) (hcode : Cond.code y bytes maxL ret ∈ ws) (hinit : ∀ a' U, s.WarmedH U.vm → (Cond.initialized y.cls).before a' U = true) :
    vx_Back l R p e below s sargs y len W9 (PreOf R mc ms Pc) (PostOf Qc mc ms free) (vx_Post XC mc ms free) := by
  intro m meth c A g ig mk a X hg hsize hdg hW hn hp
  have h1 : (headSpec ws rm).pre.before a A.U = true := atoms_intro fun w hw => hws w hw _ _ X.warmed
  have h2 : (Cond.code y bytes maxL ret).before a A.U = true := hws _ hcode _ _ X.warmed
  have h3 : (Cond.initialized y.cls).before a A.U = true := hinit _ _ X.warmed
  have h4 : A.cells + (headSpec ws rm).room.cells ≤ R.cells := by rw [show (headSpec ws rm).room.cells = mc from hrc]; exact hp.1
  have h5 : A.slots + (headSpec ws rm).room.slots ≤ R.slots := by rw [show (headSpec ws rm).room.slots = ms from hrs]; exact hp.2.1
  have hPc : Pc a (A.U.calling g mk a) := hblind _ _ _ _ hp.2.2
  obtain ⟨U, Ls, c0, s0⟩ := A
  dsimp only [Pt.U, Pt.locs, Pt.cells, Pt.slots] at h1 h2 h3 h4 h5 X hn hPc ⊢
  obtain ⟨methY, cY, hmY, hcY, -, hlY, -, -, -, -⟩ := Cond.code_spec hn h2
  obtain ⟨kY, hkY, -⟩ := className_of_methodNamed hn
  have hinitY : kY.init = .initialized := Cond.initialized_spec (findClass_of_methodNamed hn) hkY h3
  have h : At U g.method c below := by rw [hg]; exact X.here
  have hlocals9 : W9 + (maxL + 11) + (headSpec ws rm).room.locals ≤ R.locals := hlocals
  have happ : (headSpec ws rm).appliesLoose y e.platform (U.calling g mk a) = true :=
    Spec.appliesLoose_calling (g := g) h hdg hn hkY hinitY
      (X.room_calling (g := g) (R' := (headSpec ws rm).room) hsize hmY hcY hframes (by rw [hlY]; omega) h4 h5) h1
  obtain ⟨mid, hmid⟩ := h.above
  have hfr : (U.setTop g).frames = (.java g :: mid) ++ below := by rw [State.frames_setTop' g h.top, hmid]; rfl
  obtain ⟨o, s₂, hsteps, -, hend, hq⟩ := Steps.callFree hM p X.admits X.cas X.clock (acts := []) hfr happ hPc trivial
  have hq' : vx_Q Qc XC mc ms free a (U.calling g mk a) o s₂ := hq
  rw [State.frames_setTop' g h.top] at hend
  obtain ⟨g₀, hg0⟩ := Option.isSome_iff_exists.mp h.top
  obtain ⟨r, hr⟩ := State.topJava?_eq_some.mp hg0
  have hr' : (({ U with heap := s₂.heap, slotsUsed := s₂.slotsUsed } : State).setVm s₂.vm).frames = .java g₀ :: r := hr
  rcases hq' with ⟨hqc, L, hfe, hL⟩ | ⟨q, rfl, E, ce, L, hx, hce, hcv, hcl, hW₂, hsm, hL⟩
  · obtain ⟨⟨v, rfl⟩, hW₂, e2, q2, q3, q4, q5, q6⟩ := id hfe
    have e3 : s₂ = ({ (U.calling g mk a).setFrames s₂.frames with heap := s₂.heap, slotsUsed := s₂.slotsUsed } : State).setVm s₂.vm := by
      have : s₂ = ({ s₂ with vm := (U.calling g mk a).vm } : State).setVm s₂.vm := rfl
      rw [e2] at this
      exact this
    obtain ⟨c₂, i₂, len₂, hc₂, hd₂, hf₂⟩ := hend
    have hW' : U.WarmedH s₂.vm := hW₂
    have hcc : c₂ = c := by
      have h1 : s₂.code? g.method = U.code? g.method := by
        rw [State.code?_eq, State.code?_eq, hW'.alike.method?]
      exact Option.some.inj (hc₂.symm.trans (h1.trans h.code))
    subst hcc
    have hlen : len₂ = len := by rw [hdg] at hd₂; cases hd₂; rfl
    subst hlen
    have hs₂ : s₂ = (({ U with heap := s₂.heap, slotsUsed := s₂.slotsUsed } : State).setVm s₂.vm).setTop { g with pc := g.pc + len₂, stack := v.toList ++ g.stack } := by
      refine e3.trans ?_
      rw [hf₂, State.calling_eq h.top, State.setFrames_setFrames, State.setTop_of_frames _ hr', hr]
      rfl
    have hsame : U.sameButNew ({ U with heap := s₂.heap, slotsUsed := s₂.slotsUsed } : State) L mc ms := by
      refine ⟨?_, q2, q3, q4, q5, q6⟩
      obtain ⟨t, ht, -⟩ := State.frames_cons hr
      show ({ U with heap := s₂.heap, slotsUsed := s₂.slotsUsed } : State) = { U.setFrames U.frames with heap := s₂.heap, slotsUsed := s₂.slotsUsed }
      rw [State.setFrames_self ht]
    subst hg
    refine Or.inl ⟨v, ⟨(({ U with heap := s₂.heap, slotsUsed := s₂.slotsUsed } : State).setVm s₂.vm), Ls ++ L, c0 + mc, s0 + ms⟩,
      ⟨X.admits, X.cas, X.clock, X.frames, X.room, X.hears, X.method, X.code, (X.here.setHeapUsed s₂.heap s₂.slotsUsed).setVm hW'.alike, X.tail, State.WarmedH.trans X.warmed hW', X.limits, X.bytes, X.same.trans (hsame.setVm s.vm)⟩,
      ⟨g, mk, s₂, L, rfl, rfl, hqc, rfl, hL, rfl, rfl⟩, ?_⟩
    show Steps p.tables e below _ ((({ U with heap := s₂.heap, slotsUsed := s₂.slotsUsed } : State).setVm s₂.vm).setTop { g with pc := g.pc + len₂, stack := v.toList ++ g.stack })
    rw [← hs₂]
    exact hsteps
  · obtain ⟨e2, q2, q3, q4, q5, q6⟩ := id hsm
    have e3 : s₂ = ({ (U.calling g mk a).setFrames s₂.frames with heap := s₂.heap, slotsUsed := s₂.slotsUsed } : State).setVm s₂.vm := by
      have : s₂ = ({ s₂ with vm := (U.calling g mk a).vm } : State).setVm s₂.vm := rfl
      rw [e2] at this
      exact this
    have hf₂ : s₂.frames = .throwing q :: .java g :: U.frames.tail := hend
    have hW' : U.WarmedH s₂.vm := hW₂
    have hs₂ : s₂ = ((({ U with heap := s₂.heap, slotsUsed := s₂.slotsUsed } : State).setVm s₂.vm).setTop g).pushFrame (.throwing q) := by
      refine e3.trans ?_
      rw [hf₂, State.calling_eq h.top, State.setFrames_setFrames, State.pushFrame, State.frames_setTop _ hr', State.setTop_of_frames _ hr', State.setFrames_setFrames, hr]
      rfl
    have hsame : U.sameButNew ({ U with heap := s₂.heap, slotsUsed := s₂.slotsUsed } : State) L mc ms := by
      refine ⟨?_, q2, q3, q4, q5, q6⟩
      obtain ⟨t, ht, -⟩ := State.frames_cons hr
      show ({ U with heap := s₂.heap, slotsUsed := s₂.slotsUsed } : State) = { U.setFrames U.frames with heap := s₂.heap, slotsUsed := s₂.slotsUsed }
      rw [State.setFrames_self ht]
    subst hg
    refine Or.inr ⟨q, ⟨(({ U with heap := s₂.heap, slotsUsed := s₂.slotsUsed } : State).setVm s₂.vm), Ls ++ L, c0 + mc, s0 + ms⟩,
      ⟨X.admits, X.cas, X.clock, X.frames, X.room, X.hears, X.method, X.code, (X.here.setHeapUsed s₂.heap s₂.slotsUsed).setVm hW'.alike, X.tail, State.WarmedH.trans X.warmed hW', X.limits, X.bytes, X.same.trans (hsame.setVm s.vm)⟩,
      ⟨g, mk, s₂, L, E, ce, rfl, rfl, hx, hce, hcv, hcl, rfl, hL, rfl, rfl⟩, ?_⟩
    show Steps p.tables e below _ (((({ U with heap := s₂.heap, slotsUsed := s₂.slotsUsed } : State).setVm s₂.vm).setTop g).pushFrame (.throwing q))
    rw [← hs₂]
    exact hsteps
end Payer
section Calls
variable {p : Program} {l : Launch} {e : Env} {R : Room} {s : State} {m : MethodId} {args : Array Value} {below : List Frame} {meth : Method} {c : Code} {T : State} {locs : List Loc} {cells slots : Nat}
theorem vx_callV (X : Stand p l e R s m args below meth c T locs cells slots) (hexec : p.tables.exec = Jvm.exec) {own C : String} {index : Nat} {y : MethodName} {bytes : ByteArray} {maxL : Nat} {ret : Option FieldType}
    (hown : s.vm.findClass own = some m.cls) (hlink : (Cond.methodLink own index y).before args s = true) (hinst : (Cond.instanceMethod y).before args s = true) (hsel : (Cond.selects C y y).before args s = true)
    (hcode : (Cond.code y bytes maxL ret).before args s = true) (hy : y.cls ≠ "java/lang/invoke/MethodHandle" ∧ y.cls ≠ "java/lang/invoke/VarHandle")
    {W9 : Nat} {Pre : Pt → Array Value → Prop} {Post : Pt → Array Value → Option Value → Pt → Prop} {PostX : Pt → Array Value → Addr → Pt → Prop} (hK : vx_Back l R p e below s args y 3 W9 Pre Post PostX)
    {b : Addr} {cellB : Cell} (hcell : T.heap[b]? = some cellB) (hobj : cellB.vm.isStatics = false) (hcls : s.vm.findClass C = some cellB.cls)
    {g : JFrame} (hg : g.method = m) (hsize : g.locals.size = c.maxLocals) {argsL rest : List Value} (hlen : ∀ sig, parseMethodDescriptor y.desc = some sig → argsL.length = sig.parameters.length)
    (hstack : g.stack = argsL.reverse ++ .ref b :: rest) (hW : 2 * g.monitorRoom + (rest.map fun v => v.category).sum ≤ W9) (hdg : decode c.code g.pc = .ok (.invokevirtual index, 3))
    (hpre : ∀ vm₁, s.WarmedH vm₁ → Pre ⟨T.setVm vm₁, locs, cells, slots⟩ (Value.ref b :: argsL).toArray) :
    (∃ (v : Option Value) (vm₁ : Vm) (B : Pt), s.WarmedH vm₁ ∧ Stand p l e R s m args below meth c B.U B.locs B.cells B.slots ∧ Post ⟨T.setVm vm₁, locs, cells, slots⟩ (Value.ref b :: argsL).toArray v B ∧
      ∀ target, Steps p.tables e below (B.U.setTop { g with pc := g.pc + 3, stack := v.toList ++ rest }) target → Steps p.tables e below (T.setTop g) target) ∨
    (∃ (q : Addr) (vm₁ : Vm) (B : Pt), s.WarmedH vm₁ ∧ Stand p l e R s m args below meth c B.U B.locs B.cells B.slots ∧ PostX ⟨T.setVm vm₁, locs, cells, slots⟩ (Value.ref b :: argsL).toArray q B ∧
      Steps p.tables e below (T.setTop g) ((B.U.setTop { g with stack := rest }).pushFrame (.throwing q))) := by
  obtain ⟨mk, methM, hnamed, hmethM, hstM, habM⟩ := Cond.instanceMethod_spec hinst
  obtain ⟨methM', cM, hmethM', -, -, -, -, -, -, hsigM⟩ := Cond.code_spec hnamed hcode
  cases hmethM.symm.trans hmethM'
  obtain ⟨c2, r2, m2, q1, q2, q3, q4, kP, hkP, hkPi⟩ := Cond.selects_spec hsel
  cases hcls.symm.trans q1
  cases (State.methodFound?_of_named hnamed hy).symm.trans q2
  cases hnamed.symm.trans q3
  have hselP : selectMethod e.platform s.vm cellB.cls mk = .method mk := by rw [Launch.admits_selectMethod X.admits]; exact q4
  obtain ⟨vm₁, X₁, hstep₁⟩ := X.invokevirtual hexec hown hlink hnamed hmethM hstM hkP hkPi hy (a := b) (cell := cellB) hcell
    (fun z h => by rw [h] at hobj; cases hobj) hselP hmethM habM hkP hkPi (g := g) hg (argsL := argsL) (rest := rest) (hlen _ hsigM) hstack hdg
  rcases hK m meth c ⟨T.setVm vm₁, locs, cells, slots⟩ { g with stack := rest } (.invokevirtual index) mk (Value.ref b :: argsL).toArray X₁ hg hsize hdg hW (X₁.named hnamed) (hpre vm₁ X₁.warmed) with ⟨v, B, X', hpost, hsteps⟩ | ⟨q, B, X', hpost, hsteps⟩
  · exact Or.inl ⟨v, vm₁, B, X₁.warmed, X', hpost, fun target h => hstep₁ _ fun acts => by rw [doInvoke_state]; exact hsteps.trans h⟩
  · exact Or.inr ⟨q, vm₁, B, X₁.warmed, X', hpost, hstep₁ _ fun acts => by rw [doInvoke_state]; exact hsteps⟩
theorem vx_callS (X : Stand p l e R s m args below meth c T locs cells slots) (hexec : p.tables.exec = Jvm.exec) {own : String} {index : Nat} {y : MethodName} {bytes : ByteArray} {maxL : Nat} {ret : Option FieldType}
    (hown : s.vm.findClass own = some m.cls) (hlink : (Cond.methodLink own index y).before args s = true) (hstat : (Cond.static y).before args s = true) (hinit : (Cond.initialized y.cls).before args s = true)
    (hcode : (Cond.code y bytes maxL ret).before args s = true) (hy : y.cls ≠ "java/lang/invoke/MethodHandle" ∧ y.cls ≠ "java/lang/invoke/VarHandle")
    {W9 : Nat} {Pre : Pt → Array Value → Prop} {Post : Pt → Array Value → Option Value → Pt → Prop} {PostX : Pt → Array Value → Addr → Pt → Prop} (hK : vx_Back l R p e below s args y 3 W9 Pre Post PostX)
    {g : JFrame} (hg : g.method = m) (hsize : g.locals.size = c.maxLocals) {argsL rest : List Value} (hlen : ∀ sig, parseMethodDescriptor y.desc = some sig → argsL.length = sig.parameters.length)
    (hstack : g.stack = argsL.reverse ++ rest) (hW : 2 * g.monitorRoom + (rest.map fun v => v.category).sum ≤ W9) (hdg : decode c.code g.pc = .ok (.invokestatic index, 3))
    (hpre : ∀ vm₁, s.WarmedH vm₁ → Pre ⟨T.setVm vm₁, locs, cells, slots⟩ argsL.toArray) :
    (∃ (v : Option Value) (vm₁ : Vm) (B : Pt), s.WarmedH vm₁ ∧ Stand p l e R s m args below meth c B.U B.locs B.cells B.slots ∧ Post ⟨T.setVm vm₁, locs, cells, slots⟩ argsL.toArray v B ∧
      ∀ target, Steps p.tables e below (B.U.setTop { g with pc := g.pc + 3, stack := v.toList ++ rest }) target → Steps p.tables e below (T.setTop g) target) ∨
    (∃ (q : Addr) (vm₁ : Vm) (B : Pt), s.WarmedH vm₁ ∧ Stand p l e R s m args below meth c B.U B.locs B.cells B.slots ∧ PostX ⟨T.setVm vm₁, locs, cells, slots⟩ argsL.toArray q B ∧
      Steps p.tables e below (T.setTop g) ((B.U.setTop { g with stack := rest }).pushFrame (.throwing q))) := by
  obtain ⟨mk, hnamed⟩ := Cond.code_named hcode
  obtain ⟨methM, cM, hmethM, -, -, -, -, -, -, hsigM⟩ := Cond.code_spec hnamed hcode
  have hstatic : methM.isStatic = true := Cond.static_spec hnamed hmethM hstat
  obtain ⟨kP, hkP, -⟩ := className_of_methodNamed hnamed
  have hinitP : kP.init = .initialized := Cond.initialized_spec (findClass_of_methodNamed hnamed) hkP hinit
  obtain ⟨vm₁, X₁, hstep₁⟩ := X.invokestatic hexec hown hlink hnamed hmethM hstatic hkP hinitP hy (g := g) hg (argsL := argsL) (rest := rest) (hlen _ hsigM) hstack hdg
  rcases hK m meth c ⟨T.setVm vm₁, locs, cells, slots⟩ { g with stack := rest } (.invokestatic index) mk argsL.toArray X₁ hg hsize hdg hW (X₁.named hnamed) (hpre vm₁ X₁.warmed) with ⟨v, B, X', hpost, hsteps⟩ | ⟨q, B, X', hpost, hsteps⟩
  · exact Or.inl ⟨v, vm₁, B, X₁.warmed, X', hpost, fun target h => hstep₁ _ fun acts => by rw [doInvoke_state]; exact hsteps.trans h⟩
  · exact Or.inr ⟨q, vm₁, B, X₁.warmed, X', hpost, hstep₁ _ fun acts => by rw [doInvoke_state]; exact hsteps⟩
end Calls
theorem vx_cls {s : State} {T : State} {vm₁ : Vm} {E : String} {k : ClassId} (hW : s.WarmedH vm₁) (h : (T.setVm vm₁).vm.findClass E = some k) : s.vm.findClass E = some k := by
  have h1 : vm₁.findClass E = some k := h
  rw [hW.alike.findClass] at h1
  exact h1
/-- the method's frame g, with q thrown over it -/
def vx_W (p : Program) (l : Launch) (e : Env) (R : Room) (s : State) (m : MethodId) (args : Array Value) (below : List Frame) (meth : Method) (c : Code) (H : Heap) (locs : List Loc) (cells slots : Nat) (Q : State → Prop) (g : JFrame) (q : Addr) : Prop :=
  ∀ T : State, T.heap = H → Stand p l e R s m args below meth c T locs cells slots → ∃ t, Steps p.tables e below ((T.setTop g).pushFrame (.throwing q)) t ∧ Q t
def vx_Run (p : Program) (l : Launch) (e : Env) (R : Room) (s : State) (m : MethodId) (args : Array Value) (below : List Frame) (meth : Method) (c : Code) (H : Heap) (locs : List Loc) (cells slots mc ms : Nat) (g : JFrame) (rest : List Value) (Qa : State → Outcome → State → Prop) (XC : String → State → State → Prop) (free : Addr → Prop) : Prop :=
  ∀ T : State, T.heap = H → Stand p l e R s m args below meth c T locs cells slots →
    (∃ (v : Option Value) (st₀ t T' : State) (L : List Loc), st₀.heap = H ∧ Stand p l e R s m args below meth c T' (locs ++ L) (cells + mc) (slots + ms) ∧ (∀ q ∈ L, free q.base) ∧ T'.heap = t.heap ∧ T'.vm = t.vm ∧ Qa st₀ (.returned v) t ∧
      Goes p e below T g T' { g with pc := g.pc + 3, stack := v.toList ++ rest }) ∨
    (∃ (q : Addr) (st₀ t T' : State) (L : List Loc) (E : String) (ce : Cell), st₀.heap = H ∧ Stand p l e R s m args below meth c T' (locs ++ L) (cells + mc) (slots + ms) ∧ (∀ z ∈ L, free z.base) ∧ T'.heap = t.heap ∧ T'.vm = t.vm ∧ XC E st₀ t ∧ t.heap[q]? = some ce ∧ ce.vm = .none ∧ s.vm.findClass E = some ce.cls ∧
      Steps p.tables e below (T.setTop g) ((T'.setTop { g with stack := rest }).pushFrame (.throwing q)))
def vx_X {S : Type} (px : S → Prop) (B : String → S → State → Prop) (A : Nat → Prop) : String → State → State → Prop := fun E st t => ∃ u : S, px u ∧ B E u t ∧ va_F A st t
section Runs
variable {p : Program} {l : Launch} {e : Env} {R : Room} {s : State} {m : MethodId} {args : Array Value} {below : List Frame} {meth : Method} {c : Code} {H : Heap} {locs : List Loc} {cells slots : Nat}
variable {y : MethodName} {bytes cc : ByteArray} {maxL nL mc ms n index : Nat} {ret : Option FieldType} {ws : List Cond} {rm : Room} {Pc : Array Value → State → Prop} {Qc : Array Value → State → Outcome → State → Prop} {XC : String → State → State → Prop} {free : Addr → Prop} {Ts : List Cond} {own C : String} {b : Addr} {As rest : List Value} {g : JFrame}
theorem vx_callBack (cb : CallB R s args own index y bytes maxL ret ws rm mc ms n) (hM : vx_Met l y ws rm Pc Qc XC mc ms free) (hbl : FrameBlind Pc) : vx_Back l R p e below s args y 3 8 (PreOf R mc ms Pc) (PostOf Qc mc ms free) (vx_Post XC mc ms free) := by
  obtain ⟨hrc, hrs, hfr, hlo, hws, hcw, -, hini, -⟩ := cb
  exact vx_back (bytes := bytes) (maxL := maxL) (ret := ret) hM hbl hrc hrs hfr hlo hws hcw (fun a' U hW => word_at hW (Or.inl (by first | rfl | simp [Cond.onTables, Cond.keeps, Cond.steady])) hini)
theorem vx_runV (S : CallFix p m c cc nL s args Ts own) (hM : vx_Met l y ws rm Pc Qc XC mc ms free) (cw : CallW R s args own C index y bytes maxL ret ws rm mc ms n) (hp : PreV s H C b Pc As)
    (hg : g.method = m) (hn : As.length = n) (hsize : g.locals.size = nL) (hstack : g.stack = As.reverse ++ .ref b :: rest) (hW : 2 * g.monitorRoom + (rest.map fun v => v.category).sum ≤ 8) (hdg : decode cc g.pc = .ok (.invokevirtual index, 3)) (hf : cells + mc ≤ R.cells ∧ slots + ms ≤ R.slots) :
    vx_Run p l e R s m args below meth c H locs cells slots mc ms g rest (Qc (Value.ref b :: As).toArray) XC free := by
  have hK : vx_Back l R p e below s args y 3 8 (PreOf R mc ms Pc) (PostOf Qc mc ms free) (vx_Post XC mc ms free) := vx_callBack cw.1 hM hp.1
  obtain ⟨⟨-, -, -, -, -, -, hcode, -, hy, hlen, hl⟩, hin, hse⟩ := cw
  obtain ⟨hx, hb, hml, ho, -⟩ := S
  obtain ⟨-, ⟨cellB, hcB, hoB, hclB⟩, hPc⟩ := hp
  intro T hT X
  rcases vx_callV X hx (C := C) (bytes := bytes) (maxL := maxL) (ret := ret) ho hl hin hse hcode hy hK (by rw [hT]; exact hcB) hoB hclB hg (hsize.trans hml.symm) (argsL := As) (rest := rest) (fun sig h => hn.trans (hlen sig h)) hstack hW (by rw [hb]; exact hdg)
    (fun vm₁ hW₁ => ⟨hf.1, hf.2, hPc (T.setVm vm₁) hT hW₁⟩) with ⟨v, vm₁, ⟨U', l2, c2, s2⟩, hW₁, X', ⟨g', mk, t, L, e1, e2, hq, h1, hL, h2, h3⟩, st⟩ | ⟨q, vm₁, ⟨U', l2, c2, s2⟩, hW₁, X', ⟨g', mk, t, L, E, ce, e1, e2, hq, hce, hcv, hcl, h1, hL, h2, h3⟩, st⟩
  · dsimp only [Pt.U, Pt.locs, Pt.cells, Pt.slots] at X' e1 e2 h1 h2 h3 st
    subst h1; subst h2; subst h3
    exact Or.inl ⟨v, (T.setVm vm₁).calling g' mk (Value.ref b :: As).toArray, t, U', L, hT, X', hL, e1, e2, hq, st⟩
  · dsimp only [Pt.U, Pt.locs, Pt.cells, Pt.slots] at X' e1 e2 h1 h2 h3 st hcl
    subst h1; subst h2; subst h3
    exact Or.inr ⟨q, (T.setVm vm₁).calling g' mk (Value.ref b :: As).toArray, t, U', L, E, ce, hT, X', hL, e1, e2, hq, hce, hcv, vx_cls hW₁ hcl, st⟩
theorem vx_runS (S : CallFix p m c cc nL s args Ts own) (hM : vx_Met l y ws rm Pc Qc XC mc ms free) (cw : CallB R s args own index y bytes maxL ret ws rm mc ms n ∧ (Cond.static y).before args s = true) (hp : PreS s H Pc As)
    (hg : g.method = m) (hn : As.length = n) (hsize : g.locals.size = nL) (hstack : g.stack = As.reverse ++ rest) (hW : 2 * g.monitorRoom + (rest.map fun v => v.category).sum ≤ 8) (hdg : decode cc g.pc = .ok (.invokestatic index, 3)) (hf : cells + mc ≤ R.cells ∧ slots + ms ≤ R.slots) :
    vx_Run p l e R s m args below meth c H locs cells slots mc ms g rest (Qc As.toArray) XC free := by
  have hK : vx_Back l R p e below s args y 3 8 (PreOf R mc ms Pc) (PostOf Qc mc ms free) (vx_Post XC mc ms free) := vx_callBack cw.1 hM hp.1
  obtain ⟨⟨-, -, -, -, -, -, hcode, hini, hy, hlen, hl⟩, hstt⟩ := cw
  obtain ⟨hx, hb, hml, ho, -⟩ := S
  intro T hT X
  rcases vx_callS X hx (bytes := bytes) (maxL := maxL) (ret := ret) ho hl hstt hini hcode hy hK hg (hsize.trans hml.symm) (argsL := As) (rest := rest) (fun sig h => hn.trans (hlen sig h)) hstack hW (by rw [hb]; exact hdg)
    (fun vm₁ hW₁ => ⟨hf.1, hf.2, hp.2 (T.setVm vm₁) hT hW₁⟩) with ⟨v, vm₁, ⟨U', l2, c2, s2⟩, hW₁, X', ⟨g', mk, t, L, e1, e2, hq, h1, hL, h2, h3⟩, st⟩ | ⟨q, vm₁, ⟨U', l2, c2, s2⟩, hW₁, X', ⟨g', mk, t, L, E, ce, e1, e2, hq, hce, hcv, hcl, h1, hL, h2, h3⟩, st⟩
  · dsimp only [Pt.U, Pt.locs, Pt.cells, Pt.slots] at X' e1 e2 h1 h2 h3 st
    subst h1; subst h2; subst h3
    exact Or.inl ⟨v, (T.setVm vm₁).calling g' mk As.toArray, t, U', L, hT, X', hL, e1, e2, hq, st⟩
  · dsimp only [Pt.U, Pt.locs, Pt.cells, Pt.slots] at X' e1 e2 h1 h2 h3 st hcl
    subst h1; subst h2; subst h3
    exact Or.inr ⟨q, (T.setVm vm₁).calling g' mk As.toArray, t, U', L, E, ce, hT, X', hL, e1, e2, hq, hce, hcv, vx_cls hW₁ hcl, st⟩
end Runs
section Rows
variable {p : Program} {l : Launch} {e : Env} {R : Room} {s : State} {m : MethodId} {args : Array Value} {below : List Frame} {meth : Method} {c : Code} {H : Heap} {locs : List Loc} {cells slots : Nat} {Q : State → Prop}
variable {mc ms : Nat} {free : Addr → Prop} {A0 A1 : Nat → Prop} {H0 : Heap} {a : Array Value} {pc : Nat} {ls : Array Slot} {st0 rest : List Value}
theorem vx_keep {st₀ t T' : State} {L : List Loc} (h0 : st₀.heap = H) (e1 : T'.heap = t.heap) (hS : va_S A0 H0 H locs) (hA : ∀ q, q < H.size → A1 q → A0 q) (hf : ∀ q, free q → A0 q) (hL : ∀ q ∈ L, free q.base) (hF : va_F A1 st₀ t) :
    H.size ≤ T'.heap.size ∧ (∀ q : Nat, q < H.size → ¬ A1 q → T'.heap[q]? = H[q]?) ∧ va_S A0 H0 T'.heap (locs ++ L) := by
  obtain ⟨hz, hk⟩ := hF
  rw [h0] at hz hk
  exact ⟨by rw [e1]; exact hz, fun q h1 h2 => by rw [e1]; exact hk q h1 h2,
    ⟨Nat.le_trans hS.1 (by rw [e1]; exact hz), fun q h1 h2 => by rw [e1, hk q (Nat.lt_of_lt_of_le h1 hS.1) (fun z => h2 (hA q (Nat.lt_of_lt_of_le h1 hS.1) z))]; exact hS.2.1 q h1 h2, fun q hq => by
      rcases List.mem_append.mp hq with h | h
      · exact hS.2.2 q h
      · exact hf _ (hL q h)⟩⟩
theorem vx_calli {S SX : Type} {post : Int32 → S → Prop} {px : SX → Prop} {B : S → State → Prop} {BX : String → SX → State → Prop} {AX : Nat → Prop} (hr : vx_Run p l e R s m args below meth c H locs cells slots mc ms (F0 m pc ls st0) rest (va_Qi post B A1 a) (vx_X px BX AX) free) (hS : va_S A0 H0 H locs) (hA : ∀ q, q < H.size → A1 q → A0 q) (hf : ∀ q, free q → A0 q) (hAX : ∀ q, q < H.size → AX q → A0 q)
    (kx : ∀ (E : String) (ce : Cell) (q9 : Addr) (u : SX) (t : State) (H1 : Heap) (locs1 : List Loc), t.heap = H1 → s.vm.Alike t.vm → px u → BX E u t → H.size ≤ H1.size → (∀ q : Nat, q < H.size → ¬ AX q → H1[q]? = H[q]?) → va_S A0 H0 H1 locs1 → H1[q9]? = some ce → ce.vm = .none → s.vm.findClass E = some ce.cls → vx_W p l e R s m args below meth c H1 locs1 (cells + mc) (slots + ms) Q (F0 m pc ls rest) q9)
    (kk : ∀ (r : Int32) (u : S) (t : State) (H1 : Heap) (locs1 : List Loc), t.heap = H1 → s.vm.Alike t.vm → post r u → B u t → H.size ≤ H1.size → (∀ q : Nat, q < H.size → ¬ A1 q → H1[q]? = H[q]?) → va_S A0 H0 H1 locs1 → W p l e R s m args below meth c H1 locs1 (cells + mc) (slots + ms) Q (F0 m (pc + 3) ls (.int r :: rest))) : W p l e R s m args below meth c H locs cells slots Q (F0 m pc ls st0) := by
  intro T hT X
  rcases hr T hT X with ⟨v, st₀, t, T', L, h0, X', hL, e1, e2, ⟨⟨r, u, hv, hp, hb⟩, hF⟩, st⟩ | ⟨q, st₀, t, T', L, E, ce, h0, X', hL, e1, e2, ⟨u, hp, hb, hF⟩, hce, hcv, hcl, st⟩
  · cases hv
    obtain ⟨k1, k2, k3⟩ := vx_keep h0 e1 hS hA hf hL hF
    obtain ⟨t2, a1, b1⟩ := kk r u t T'.heap (locs ++ L) e1.symm (by rw [← e2]; exact X'.warmed.alike) hp hb k1 k2 k3 T' rfl X'
    exact ⟨t2, st t2 a1, b1⟩
  · obtain ⟨k1, k2, k3⟩ := vx_keep h0 e1 hS hAX hf hL hF
    obtain ⟨t2, a1, b1⟩ := kx E ce q u t T'.heap (locs ++ L) e1.symm (by rw [← e2]; exact X'.warmed.alike) hp hb k1 k2 k3 (by rw [e1]; exact hce) hcv hcl T' rfl X'
    exact ⟨t2, st.trans a1, b1⟩
theorem vx_calll {S SX : Type} {post : Int64 → S → Prop} {px : SX → Prop} {B : S → State → Prop} {BX : String → SX → State → Prop} {AX : Nat → Prop} (hr : vx_Run p l e R s m args below meth c H locs cells slots mc ms (F0 m pc ls st0) rest (va_Ql post B A1 a) (vx_X px BX AX) free) (hS : va_S A0 H0 H locs) (hA : ∀ q, q < H.size → A1 q → A0 q) (hf : ∀ q, free q → A0 q) (hAX : ∀ q, q < H.size → AX q → A0 q)
    (kx : ∀ (E : String) (ce : Cell) (q9 : Addr) (u : SX) (t : State) (H1 : Heap) (locs1 : List Loc), t.heap = H1 → s.vm.Alike t.vm → px u → BX E u t → H.size ≤ H1.size → (∀ q : Nat, q < H.size → ¬ AX q → H1[q]? = H[q]?) → va_S A0 H0 H1 locs1 → H1[q9]? = some ce → ce.vm = .none → s.vm.findClass E = some ce.cls → vx_W p l e R s m args below meth c H1 locs1 (cells + mc) (slots + ms) Q (F0 m pc ls rest) q9)
    (kk : ∀ (r : Int64) (u : S) (t : State) (H1 : Heap) (locs1 : List Loc), t.heap = H1 → s.vm.Alike t.vm → post r u → B u t → H.size ≤ H1.size → (∀ q : Nat, q < H.size → ¬ A1 q → H1[q]? = H[q]?) → va_S A0 H0 H1 locs1 → W p l e R s m args below meth c H1 locs1 (cells + mc) (slots + ms) Q (F0 m (pc + 3) ls (.long r :: rest))) : W p l e R s m args below meth c H locs cells slots Q (F0 m pc ls st0) := by
  intro T hT X
  rcases hr T hT X with ⟨v, st₀, t, T', L, h0, X', hL, e1, e2, ⟨⟨r, u, hv, hp, hb⟩, hF⟩, st⟩ | ⟨q, st₀, t, T', L, E, ce, h0, X', hL, e1, e2, ⟨u, hp, hb, hF⟩, hce, hcv, hcl, st⟩
  · cases hv
    obtain ⟨k1, k2, k3⟩ := vx_keep h0 e1 hS hA hf hL hF
    obtain ⟨t2, a1, b1⟩ := kk r u t T'.heap (locs ++ L) e1.symm (by rw [← e2]; exact X'.warmed.alike) hp hb k1 k2 k3 T' rfl X'
    exact ⟨t2, st t2 a1, b1⟩
  · obtain ⟨k1, k2, k3⟩ := vx_keep h0 e1 hS hAX hf hL hF
    obtain ⟨t2, a1, b1⟩ := kx E ce q u t T'.heap (locs ++ L) e1.symm (by rw [← e2]; exact X'.warmed.alike) hp hb k1 k2 k3 (by rw [e1]; exact hce) hcv hcl T' rfl X'
    exact ⟨t2, st.trans a1, b1⟩
theorem vx_callf {S SX : Type} {post : UInt32 → S → Prop} {px : SX → Prop} {B : S → State → Prop} {BX : String → SX → State → Prop} {AX : Nat → Prop} (hr : vx_Run p l e R s m args below meth c H locs cells slots mc ms (F0 m pc ls st0) rest (va_Qf post B A1 a) (vx_X px BX AX) free) (hS : va_S A0 H0 H locs) (hA : ∀ q, q < H.size → A1 q → A0 q) (hf : ∀ q, free q → A0 q) (hAX : ∀ q, q < H.size → AX q → A0 q)
    (kx : ∀ (E : String) (ce : Cell) (q9 : Addr) (u : SX) (t : State) (H1 : Heap) (locs1 : List Loc), t.heap = H1 → s.vm.Alike t.vm → px u → BX E u t → H.size ≤ H1.size → (∀ q : Nat, q < H.size → ¬ AX q → H1[q]? = H[q]?) → va_S A0 H0 H1 locs1 → H1[q9]? = some ce → ce.vm = .none → s.vm.findClass E = some ce.cls → vx_W p l e R s m args below meth c H1 locs1 (cells + mc) (slots + ms) Q (F0 m pc ls rest) q9)
    (kk : ∀ (r : UInt32) (u : S) (t : State) (H1 : Heap) (locs1 : List Loc), t.heap = H1 → s.vm.Alike t.vm → post r u → B u t → H.size ≤ H1.size → (∀ q : Nat, q < H.size → ¬ A1 q → H1[q]? = H[q]?) → va_S A0 H0 H1 locs1 → W p l e R s m args below meth c H1 locs1 (cells + mc) (slots + ms) Q (F0 m (pc + 3) ls (.float r :: rest))) : W p l e R s m args below meth c H locs cells slots Q (F0 m pc ls st0) := by
  intro T hT X
  rcases hr T hT X with ⟨v, st₀, t, T', L, h0, X', hL, e1, e2, ⟨⟨r, u, hv, hp, hb⟩, hF⟩, st⟩ | ⟨q, st₀, t, T', L, E, ce, h0, X', hL, e1, e2, ⟨u, hp, hb, hF⟩, hce, hcv, hcl, st⟩
  · cases hv
    obtain ⟨k1, k2, k3⟩ := vx_keep h0 e1 hS hA hf hL hF
    obtain ⟨t2, a1, b1⟩ := kk r u t T'.heap (locs ++ L) e1.symm (by rw [← e2]; exact X'.warmed.alike) hp hb k1 k2 k3 T' rfl X'
    exact ⟨t2, st t2 a1, b1⟩
  · obtain ⟨k1, k2, k3⟩ := vx_keep h0 e1 hS hAX hf hL hF
    obtain ⟨t2, a1, b1⟩ := kx E ce q u t T'.heap (locs ++ L) e1.symm (by rw [← e2]; exact X'.warmed.alike) hp hb k1 k2 k3 (by rw [e1]; exact hce) hcv hcl T' rfl X'
    exact ⟨t2, st.trans a1, b1⟩
theorem vx_calld {S SX : Type} {post : UInt64 → S → Prop} {px : SX → Prop} {B : S → State → Prop} {BX : String → SX → State → Prop} {AX : Nat → Prop} (hr : vx_Run p l e R s m args below meth c H locs cells slots mc ms (F0 m pc ls st0) rest (va_Qd post B A1 a) (vx_X px BX AX) free) (hS : va_S A0 H0 H locs) (hA : ∀ q, q < H.size → A1 q → A0 q) (hf : ∀ q, free q → A0 q) (hAX : ∀ q, q < H.size → AX q → A0 q)
    (kx : ∀ (E : String) (ce : Cell) (q9 : Addr) (u : SX) (t : State) (H1 : Heap) (locs1 : List Loc), t.heap = H1 → s.vm.Alike t.vm → px u → BX E u t → H.size ≤ H1.size → (∀ q : Nat, q < H.size → ¬ AX q → H1[q]? = H[q]?) → va_S A0 H0 H1 locs1 → H1[q9]? = some ce → ce.vm = .none → s.vm.findClass E = some ce.cls → vx_W p l e R s m args below meth c H1 locs1 (cells + mc) (slots + ms) Q (F0 m pc ls rest) q9)
    (kk : ∀ (r : UInt64) (u : S) (t : State) (H1 : Heap) (locs1 : List Loc), t.heap = H1 → s.vm.Alike t.vm → post r u → B u t → H.size ≤ H1.size → (∀ q : Nat, q < H.size → ¬ A1 q → H1[q]? = H[q]?) → va_S A0 H0 H1 locs1 → W p l e R s m args below meth c H1 locs1 (cells + mc) (slots + ms) Q (F0 m (pc + 3) ls (.double r :: rest))) : W p l e R s m args below meth c H locs cells slots Q (F0 m pc ls st0) := by
  intro T hT X
  rcases hr T hT X with ⟨v, st₀, t, T', L, h0, X', hL, e1, e2, ⟨⟨r, u, hv, hp, hb⟩, hF⟩, st⟩ | ⟨q, st₀, t, T', L, E, ce, h0, X', hL, e1, e2, ⟨u, hp, hb, hF⟩, hce, hcv, hcl, st⟩
  · cases hv
    obtain ⟨k1, k2, k3⟩ := vx_keep h0 e1 hS hA hf hL hF
    obtain ⟨t2, a1, b1⟩ := kk r u t T'.heap (locs ++ L) e1.symm (by rw [← e2]; exact X'.warmed.alike) hp hb k1 k2 k3 T' rfl X'
    exact ⟨t2, st t2 a1, b1⟩
  · obtain ⟨k1, k2, k3⟩ := vx_keep h0 e1 hS hAX hf hL hF
    obtain ⟨t2, a1, b1⟩ := kx E ce q u t T'.heap (locs ++ L) e1.symm (by rw [← e2]; exact X'.warmed.alike) hp hb k1 k2 k3 (by rw [e1]; exact hce) hcv hcl T' rfl X'
    exact ⟨t2, st.trans a1, b1⟩
theorem vx_callv {S SX : Type} {post : S → Prop} {px : SX → Prop} {B : S → State → Prop} {BX : String → SX → State → Prop} {AX : Nat → Prop} (hr : vx_Run p l e R s m args below meth c H locs cells slots mc ms (F0 m pc ls st0) rest (va_Qv post B A1 a) (vx_X px BX AX) free) (hS : va_S A0 H0 H locs) (hA : ∀ q, q < H.size → A1 q → A0 q) (hf : ∀ q, free q → A0 q) (hAX : ∀ q, q < H.size → AX q → A0 q)
    (kx : ∀ (E : String) (ce : Cell) (q9 : Addr) (u : SX) (t : State) (H1 : Heap) (locs1 : List Loc), t.heap = H1 → s.vm.Alike t.vm → px u → BX E u t → H.size ≤ H1.size → (∀ q : Nat, q < H.size → ¬ AX q → H1[q]? = H[q]?) → va_S A0 H0 H1 locs1 → H1[q9]? = some ce → ce.vm = .none → s.vm.findClass E = some ce.cls → vx_W p l e R s m args below meth c H1 locs1 (cells + mc) (slots + ms) Q (F0 m pc ls rest) q9)
    (kk : ∀ (u : S) (t : State) (H1 : Heap) (locs1 : List Loc), t.heap = H1 → s.vm.Alike t.vm → post u → B u t → H.size ≤ H1.size → (∀ q : Nat, q < H.size → ¬ A1 q → H1[q]? = H[q]?) → va_S A0 H0 H1 locs1 → W p l e R s m args below meth c H1 locs1 (cells + mc) (slots + ms) Q (F0 m (pc + 3) ls (rest))) : W p l e R s m args below meth c H locs cells slots Q (F0 m pc ls st0) := by
  intro T hT X
  rcases hr T hT X with ⟨v, st₀, t, T', L, h0, X', hL, e1, e2, ⟨⟨u, hv, hp, hb⟩, hF⟩, st⟩ | ⟨q, st₀, t, T', L, E, ce, h0, X', hL, e1, e2, ⟨u, hp, hb, hF⟩, hce, hcv, hcl, st⟩
  · cases hv
    obtain ⟨k1, k2, k3⟩ := vx_keep h0 e1 hS hA hf hL hF
    obtain ⟨t2, a1, b1⟩ := kk u t T'.heap (locs ++ L) e1.symm (by rw [← e2]; exact X'.warmed.alike) hp hb k1 k2 k3 T' rfl X'
    exact ⟨t2, st t2 a1, b1⟩
  · obtain ⟨k1, k2, k3⟩ := vx_keep h0 e1 hS hAX hf hL hF
    obtain ⟨t2, a1, b1⟩ := kx E ce q u t T'.heap (locs ++ L) e1.symm (by rw [← e2]; exact X'.warmed.alike) hp hb k1 k2 k3 (by rw [e1]; exact hce) hcv hcl T' rfl X'
    exact ⟨t2, st.trans a1, b1⟩
/-- caught by the row x of this method's table; the rows ahead don't take it -/
theorem vx_catch {own name : String} {E : String} {ce : Cell} {q : Addr} (hown : s.vm.findClass own = some m.cls) (pre : List ExceptionTableEntry) (x : ExceptionTableEntry) (suf : List ExceptionTableEntry) (hsplit : c.exceptionTable.toList = pre ++ x :: suf)
    (hpass : ∀ z ∈ pre, covers z pc = false ∨ (z.catchType ≠ 0 ∧ ∃ nm : String, (Cond.classLink own z.catchType nm).before args s = true ∧ va_Nc E nm s)) (hx : covers x pc = true) (h0 : x.catchType ≠ 0)
    (hlink : (Cond.classLink own x.catchType name).before args s = true) (hcast : (Cond.castable E name).before args s = true) (hcell : H[q]? = some ce) (hv : ce.vm = .none) (hcl : s.vm.findClass E = some ce.cls)
    (kk : W p l e R s m args below meth c H locs cells slots Q (F0 m x.handlerPc ls [.ref q])) : vx_W p l e R s m args below meth c H locs cells slots Q (F0 m pc ls rest) q := by
  intro T hT X
  have hpl : e.platform.magicAccessors = ({} : Platform).magicAccessors := by rw [X.admits.platform]
  obtain ⟨c3, c4, hc3, hc4, hasg⟩ := Cond.castable_spec hcast
  cases Option.some.inj (hc3.symm.trans hcl)
  obtain ⟨c5, hc5, hcl5⟩ := Cond.classLink_spec hown hlink e.platform hpl
  cases Option.some.inj (hc4.symm.trans hc5)
  obtain ⟨vm', X', st⟩ := X.thenCaughtThrough q (g := F0 m pc ls rest) rfl (Steps.refl _) (by rw [hT]; exact hcell) (by rw [hv]; rfl) (by obtain ⟨k9, h9, -⟩ := Vm.findClass_spec hcl; exact ⟨k9, h9⟩) pre x suf hsplit
    (fun z hz => by
      rcases hpass z hz with h | ⟨hz0, nm, hl1, hn1⟩
      · exact Or.inl h
      · obtain ⟨c6, hc6, hcl6⟩ := Cond.classLink_spec hown hl1 e.platform hpl
        obtain ⟨a8, b8, h1, h2, h3⟩ := hn1
        cases Option.some.inj (h1.symm.trans hcl)
        cases Option.some.inj (h2.symm.trans hc6)
        exact Or.inr ⟨hz0, _, hcl6, h3⟩) hx (Or.inr ⟨h0, c4, hcl5, hasg⟩)
  obtain ⟨t, a1, b1⟩ := kk (T.setVm vm') hT X'
  exact ⟨t, st.trans a1, b1⟩
end Rows
section Ends
variable {p : Program} {l : Launch} {e : Env} {R : Room} {s : State} {m : MethodId} {args : Array Value} {below : List Frame} {meth : Method} {c : Code} {H : Heap} {locs : List Loc} {cells slots : Nat} {Q : State → Prop}
variable {mc ms : Nat} {free : Addr → Prop} {A0 A1 : Nat → Prop} {H0 : Heap} {a : Array Value} {ls : Array Slot} {st0 rest : List Value}
variable {Qc : Array Value → State → Outcome → State → Prop} {XC : String → State → State → Prop}
/-- what a body that may throw owes at its end -/
def vx_MQ (below : List Frame) (Qc : Array Value → State → Outcome → State → Prop) (XC : String → State → State → Prop) (a : Array Value) (s : State) (mc ms : Nat) (free : Addr → Prop) : State → Prop := fun t =>
  ∃ o, t.status = .running ∧ Ended t below o ∧ vx_Q Qc XC mc ms free a s o t
theorem vx_ret {g : JFrame} {mc ms : Nat} (k : W p l e R s m args below meth c H locs cells slots (MQ below Qc args s mc ms free) g) : W p l e R s m args below meth c H locs cells slots (vx_MQ below Qc XC args s mc ms free) g := by
  intro T hT X
  obtain ⟨t, a1, o, b1, b2, b3, b4⟩ := k T hT X
  exact ⟨t, a1, o, b1, b2, Or.inl ⟨b3, b4⟩⟩
/-- not caught here: it goes on to the caller -/
theorem vx_widen {g : JFrame} {q : Addr} {k n : Nat} (h1 : cells ≤ k) (h2 : slots ≤ n) (kk : vx_W p l e R s m args below meth c H locs k n Q g q) : vx_W p l e R s m args below meth c H locs cells slots Q g q := fun T hT X => kk T hT (stand_widen X h1 h2)
theorem vx_out {pc : Nat} {E : String} {ce : Cell} {q : Addr} {mc ms : Nat} (hout : ∀ x ∈ c.exceptionTable.toList, covers x pc = false) (hlocks : meth.locks = false) (hcell : H[q]? = some ce) (hv : ce.vm = .none) (hcl : s.vm.findClass E = some ce.cls)
    (hx : ∀ t : State, t.heap = H → s.vm.Alike t.vm → XC E s t) (hf : ∀ z ∈ locs, free z.base) (hc : cells ≤ mc) (hs : slots ≤ ms) :
    vx_W p l e R s m args below meth c H locs cells slots (vx_MQ below Qc XC args s mc ms free) (F0 m pc ls rest) q := by
  intro T hT X
  obtain ⟨st1, hrun, hend, hW, hsm⟩ := X.leaveThrown q (g := F0 m pc ls rest) rfl rfl rfl hout hlocks
  have hcell9 : (T.setFrames (.throwing q :: below)).heap[q]? = some ce := by
    show T.heap[q]? = some ce
    rw [hT]; exact hcell
  exact ⟨_, st1, .threw q, hrun, hend, Or.inr ⟨q, rfl, E, ce, locs, hx _ hT hW.alike, hcell9, hv, hcl, hW, hsm.mono hc hs, hf⟩⟩
theorem vx_frame {U : State} {k n : Nat} (h : s.sameButNew ({ U with vm := s.vm } : State) locs k n) : s.heap.size ≤ U.heap.size ∧ ∀ q : Nat, q < s.heap.size → (∀ z ∈ locs, z.base ≠ q) → U.heap[q]? = s.heap[q]? := by
  obtain ⟨-, h2, -, -, -, h6⟩ := h
  refine ⟨h2, fun q hq hz => ?_⟩
  obtain ⟨c9, e1, e2, e3, e4⟩ := h6 q _ (Array.getElem?_eq_getElem hq)
  have hs : c9.slots = (s.heap[q]).slots := Array.ext_getElem? fun i => e4 i fun hm => hz _ hm rfl
  have h9 : c9 = s.heap[q] := by
    rw [hs] at e2
    exact e2
  have e5 : U.heap[q]? = some c9 := e1
  rw [e5, h9, Array.getElem?_eq_getElem hq]
/-- the words of a throw but the four that speak of the heap -/
def vx_no (w : Cond) : Bool := decide (w ≠ .isRef (.static Bundle.tN "UNASSIGNED_STACK" Bundle.steD)) && decide (w ≠ .isRef (.static Bundle.tN "SUPPRESSED_SENTINEL" Bundle.listD)) && decide (w ≠ .laysStatic Bundle.tN "UNASSIGNED_STACK" Bundle.steD) && decide (w ≠ .laysStatic Bundle.tN "SUPPRESSED_SENTINEL" Bundle.listD)
def vx_at0 (own : String) (ic : Nat) (X : String) (names : List String) : List Cond := (Bundle.ownAtoms0 own ic X names).filter vx_no
def vx_atS (own : String) (ic : Nat) (X : String) (names : List String) : List Cond := (Bundle.ownAtoms own ic X names).filter vx_no
/-- a word that the tables alone decide, or a good one -/
def vx_ot (w : Cond) : Bool := w.onTables || goodWord w
theorem vx_ot_at {args a' : Array Value} {s U : State} {w : Cond} (hW : s.WarmedH U.vm) (hvm : s.vm = U.vm) (hg : vx_ot w = true) (h : w.before args s = true) : w.before a' U = true := by
  simp only [vx_ot, Bool.or_eq_true] at hg
  rcases hg with hg | hg
  · exact va_tabs hg hvm h
  · exact word_at hW (good_of_word hg) h
/-- a list's words: the good ones out of the method's own list, the others by premises of their own -/
theorem vx_hat {args : Array Value} {s : State} {L B : List Cond} (h1 : ∀ w ∈ L.filter goodWord, w.before args s = true) (h2 : ∀ w ∈ L.filter (fun w => !goodWord w), w ∈ B) (h3 : ∀ w ∈ B, w.before args s = true) : ∀ w ∈ L, w.before args s = true := by
  intro w hw
  by_cases g : goodWord w = true
  · exact h1 w (List.mem_filter.mpr ⟨hw, g⟩)
  · refine h3 w (h2 w (List.mem_filter.mpr ⟨hw, ?_⟩))
    show (!goodWord w) = true
    cases hgw : goodWord w
    · rfl
    · exact absurd hgw g
theorem vx_c {args : Array Value} {s : State} {w : Cond} {B : List Cond} (h : w.before args s = true) (t : ∀ w ∈ B, w.before args s = true) : ∀ w' ∈ w :: B, w'.before args s = true := fun w' h' => (List.mem_cons.mp h').elim (fun e => by rw [e]; exact h) (t w')
theorem vx_n {args : Array Value} {s : State} : ∀ w ∈ ([] : List Cond), w.before args s = true := fun _ h => nomatch h
theorem vx_own {args : Array Value} {s : State} {L : List Cond} (h1 : ∀ w ∈ L.filter vx_no, w.before args s = true)
    (hU : (Cond.isRef (.static Bundle.tN "UNASSIGNED_STACK" Bundle.steD)).before args s = true) (hN : (Cond.isRef (.static Bundle.tN "SUPPRESSED_SENTINEL" Bundle.listD)).before args s = true)
    (lU : (Cond.laysStatic Bundle.tN "UNASSIGNED_STACK" Bundle.steD).before args s = true) (lN : (Cond.laysStatic Bundle.tN "SUPPRESSED_SENTINEL" Bundle.listD).before args s = true) : ∀ w ∈ L, w.before args s = true := by
  intro w hw
  by_cases e1 : w = .isRef (.static Bundle.tN "UNASSIGNED_STACK" Bundle.steD)
  · rw [e1]; exact hU
  · by_cases e2 : w = .isRef (.static Bundle.tN "SUPPRESSED_SENTINEL" Bundle.listD)
    · rw [e2]; exact hN
    · by_cases e3 : w = .laysStatic Bundle.tN "UNASSIGNED_STACK" Bundle.steD
      · rw [e3]; exact lU
      · by_cases e4 : w = .laysStatic Bundle.tN "SUPPRESSED_SENTINEL" Bundle.listD
        · rw [e4]; exact lN
        · exact h1 w (List.mem_filter.mpr ⟨hw, by unfold vx_no; rw [decide_eq_true e1, decide_eq_true e2, decide_eq_true e3, decide_eq_true e4]; rfl⟩)
/-- where a static field lies, its class's statics cell in H -/
def vx_L (C n d : String) (A : Nat → Prop) (U : State) (H : Heap) : Prop := ∃ (c : ClassId) (k : Class) (i : Nat) (f : Field) (a : Nat) (cell : Cell), U.vm.findClass C = some c ∧ U.fieldFound? C n d = some (c, k, i, f) ∧ f.isStatic = true ∧ k.statics = some a ∧ H[a]? = some cell ∧ cell.vm.isStatics = true ∧ cell.cls = c ∧ f.slot < cell.slots.size ∧ k.staticTypes[f.slot]? = some f.type ∧ ¬ A a
theorem vx_L.moved {C n d : String} {A : Nat → Prop} {u U : State} {H : Heap} (hvm : u.vm.Alike U.vm) (h : vx_L C n d A u H) : vx_L C n d A U H := by
  obtain ⟨c, k, i, f, a, cell, h1, h2, h3, h4, h5, h6, h7, h8, h9, h10⟩ := h
  obtain ⟨k', hi', he⟩ := State.fieldFound?_setVm hvm h2
  exact ⟨c, k', i, f, a, cell, by rw [hvm.findClass]; exact h1, hi', h3, by rw [he]; exact h4, h5, h6, h7, h8, by rw [he]; exact h9, h10⟩
theorem vx_L.kept {C n d : String} {A : Nat → Prop} {U : State} {H H1 : Heap} (h : vx_L C n d A U H) (hq : ∀ a : Nat, a < H.size → ¬ A a → H1[a]? = H[a]?) : vx_L C n d A U H1 := by
  obtain ⟨c, k, i, f, a, cell, h1, h2, h3, h4, h5, h6, h7, h8, h9, h10⟩ := h
  exact ⟨c, k, i, f, a, cell, h1, h2, h3, h4, by rw [hq a (Array.getElem?_eq_some_iff.mp h5).1 h10]; exact h5, h6, h7, h8, h9, h10⟩
theorem vx_L.narrow {C n d : String} {A B : Nat → Prop} {U : State} {H : Heap} (h : vx_L C n d A U H) (hAB : ∀ q, B q → A q) : vx_L C n d B U H := by
  obtain ⟨c, k, i, f, a, cell, h1, h2, h3, h4, h5, h6, h7, h8, h9, h10⟩ := h
  exact ⟨c, k, i, f, a, cell, h1, h2, h3, h4, h5, h6, h7, h8, h9, fun z => h10 (hAB _ z)⟩
theorem vx_L.word {C n d : String} {A : Nat → Prop} {s : State} {args : Array Value} (h : vx_L C n d A s s.heap) : (Cond.laysStatic C n d).before args s = true := by
  obtain ⟨c, k, i, f, a, cell, h1, h2, h3, h4, h5, h6, h7, h8, h9, -⟩ := h
  show (Cond.laysStatic C n d).holds args s none s [] = true
  exact Cond.laysStatic_of h1 h2 h3 h4 h5 h6 h7 h8 h9
/-- .. and what it holds: null or some reference -/
def vx_Zq (C n d : String) (A : Nat → Prop) (U : State) (H : Heap) : Prop := va_Zq C n d A U H ∧ vx_L C n d A U H
theorem vx_Zq.moved {C n d : String} {A : Nat → Prop} {u U : State} {H : Heap} (hvm : u.vm.Alike U.vm) (h : vx_Zq C n d A u H) : vx_Zq C n d A U H := ⟨va_Zq.moved hvm h.1, vx_L.moved hvm h.2⟩
theorem vx_Zq.kept {C n d : String} {A : Nat → Prop} {U : State} {H H1 : Heap} (h : vx_Zq C n d A U H) (hq : ∀ a : Nat, a < H.size → ¬ A a → H1[a]? = H[a]?) : vx_Zq C n d A U H1 := ⟨va_Zq.kept h.1 hq, vx_L.kept h.2 hq⟩
theorem vx_Zq.narrow {C n d : String} {A B : Nat → Prop} {U : State} {H : Heap} (h : vx_Zq C n d A U H) (hAB : ∀ q, B q → A q) : vx_Zq C n d B U H := ⟨va_Zq.narrow h.1 hAB, vx_L.narrow h.2 hAB⟩
theorem vx_Zqof {args : Array Value} {s : State} {C n d : String} {A : Nat → Prop} (hl : (Cond.laysStatic C n d).before args s = true) (hini : (Cond.initialized C).before args s = true) (h : (Cond.isRef (.static C n d)).before args s = true) (hA : ∀ a : Nat, a < s.heap.size → ¬ A a) : vx_Zq C n d A s s.heap := by
  refine ⟨va_Zqof hl hini h hA, ?_⟩
  obtain ⟨c, k, i, f, a, cell, h1, h2, h3, h4, h5, h6, h7, h8, h9⟩ := Cond.laysStatic_spec hl
  exact ⟨c, k, i, f, a, cell, h1, h2, h3, h4, h5, h6, h7, h8, h9, hA a (Array.getElem?_eq_some_iff.mp h5).1⟩
theorem vx_isRef {C n d : String} {v : Value} {A : Nat → Prop} {s : State} {args : Array Value} (h : va_Z C n d v A s s.heap) (hv : v.isRef = true) : (Cond.isRef (.static C n d)).before args s = true := by
  obtain ⟨cf, kf, fi, f, a, cell, h1, h2, h3, h4, h5, h6, h7, -⟩ := h
  have he : (Term.static C n d).eval args s none [] s = some v := by
    simp [Term.eval, State.fieldNamed?, h1, h2, h4, h5, h6, h7]
  simp only [Cond.before, Cond.holds, Cond.value, he]
  cases v <;> simp_all [Value.isRef]
theorem vx_isRefq {C n d : String} {A : Nat → Prop} {s : State} {args : Array Value} (h : va_Zq C n d A s s.heap) : (Cond.isRef (.static C n d)).before args s = true := by
  rcases h with h | ⟨t, h⟩
  · exact vx_isRef h rfl
  · exact vx_isRef h rfl
/-- the same frame, seen from here: as if the method were called anew in this heap -/
theorem vx_rebase {T : State} (X : Stand p l e R s m args below meth c T locs cells slots) {R' : Room} (hf : R'.frames ≤ R.frames) (hl : R'.locals ≤ R.locals) (hc : cells + R'.cells ≤ R.cells) (hs : slots + R'.slots ≤ R.slots) :
    Stand p l e R' ((T.setVm s.vm).setFrames (.invoking m args :: below)) m args below meth c T [] 0 0 := by
  have htop : (T.setVm s.vm).topJava?.isSome := X.here.top
  have hF : ((T.setVm s.vm).setFrames (.invoking m args :: below)).frames = .invoking m args :: below := State.frames_setFrames _ (State.cur_lt_of_top htop)
  obtain ⟨g₀, hg0⟩ := Option.isSome_iff_exists.mp htop
  obtain ⟨r, hr⟩ := State.topJava?_eq_some.mp hg0
  have hl9 : e.platform.stackLimits (T.setVm s.vm).me = e.platform.stackLimits s.me := X.limits
  have hb9 : (T.setVm s.vm).me.stackBytes = s.me.stackBytes := X.bytes
  refine ⟨X.admits, X.cas, X.clock, hF, ?_, X.hears, X.method, X.code, X.here, X.tail, X.warmed, ?_, ?_, ?_⟩
  · have h := X.room
    have hU : ((T.setVm s.vm).setFrames (.invoking m args :: below)).localsInUse = s.localsInUse := by
      rw [State.localsInUse_invoking hF (meth := meth) (c := c) X.method X.code, State.localsInUse_invoking X.frames X.method X.code]
    simp only [State.hasRoom, Bool.and_eq_true, decide_eq_true_eq] at h ⊢
    obtain ⟨⟨⟨⟨h1, h2, h3, h4, h5, h6⟩, h7⟩, h8⟩, h9⟩ := h
    rw [X.frames, List.length_cons] at h2 h3
    have q1 := X.heapSize
    have q2 := X.used
    simp only [hF, hU, List.length_cons, State.stackLimits_setFrames, State.stackBytes_setFrames, hl9, hb9]
    refine ⟨⟨⟨⟨by omega, by omega, by omega, by omega, by omega, h6⟩, ?_⟩, ?_⟩, X.book⟩
    · show T.heap.size + R'.cells ≤ e.platform.maxCells
      omega
    · show T.slotsUsed + R'.slots ≤ e.platform.maxSlots
      omega
  · rw [State.stackLimits_setFrames]; rfl
  · rw [State.stackBytes_setFrames]; rfl
  · refine ⟨?_, Nat.le_refl _, Nat.le_refl _, ?_, ?_, fun a c9 h9 => ⟨c9, h9, rfl, rfl, fun _ _ => rfl⟩⟩
    · obtain ⟨t, ht, -⟩ := State.frames_cons hr
      show T.setVm s.vm = { ((T.setVm s.vm).setFrames (.invoking m args :: below)).setFrames (T.setVm s.vm).frames with heap := T.heap, slotsUsed := T.slotsUsed }
      rw [State.setFrames_setFrames, State.setFrames_self ht]
      rfl
    · show T.slotsUsed = T.slotsUsed + ((T.heap.toList.drop T.heap.size).map (·.slots.size)).sum
      rw [List.drop_eq_nil_of_le (Nat.le_of_eq Array.length_toList)]
      rfl
    · show ((T.heap.toList.drop T.heap.size).map (·.slots.size)).sum ≤ 0
      rw [List.drop_eq_nil_of_le (Nat.le_of_eq Array.length_toList)]
      exact Nat.le_refl _
/-- 'throw new E()': new; dup; invokespecial; athrow -/
theorem vx_throw0 {cc : ByteArray} {pc : Nat} (hexec : p.tables.exec = Jvm.exec) (hb : c.code = cc) (hl : l.stackTraces = false) {own cls : String} {names : List String} {ik ic mc ms : Nat} {A : Nat → Prop}
    (hown : s.vm.findClass own = some m.cls) (hcls : Bundle.fit cls = true) (hnames : ∀ n ∈ names, Bundle.fit n = true)
    (hk : (Cond.classLink own ik cls).before args s = true) (hini : (Cond.initialized cls).before args s = true) (hat : ∀ w ∈ vx_at0 own ic cls names, w.before args s = true)
    (hgood : ∀ w ∈ Cond.classLink own ik cls :: Cond.initialized cls :: vx_at0 own ic cls names, vx_ot w = true)
    (hU : vx_Zq Bundle.tN "UNASSIGNED_STACK" Bundle.steD A s s.heap) (hN : vx_Zq Bundle.tN "SUPPRESSED_SENTINEL" Bundle.listD A s s.heap) (hS : va_S A s.heap H locs) (hsize : ls.size = c.maxLocals)
    (d0 : decode cc pc = .ok (.new ik, 3)) (d3 : decode cc (pc + 3) = .ok (.dup, 1)) (d4 : decode cc (pc + 4) = .ok (.invokespecial ic, 3)) (d7 : decode cc (pc + 7) = .ok (.athrow, 1))
    (hout : ∀ x ∈ c.exceptionTable.toList, covers x (pc + 7) = false)
    (hRframes : names.length + 3 < R.frames) (hRlocals : (rest.map fun v => v.category).sum + (13 * (names.length + 1) + 42) ≤ R.locals) (hRcells : cells + 1 ≤ R.cells) (hRslots : slots + 6 ≤ R.slots) (hlocks : meth.locks = false)
    (hx : ∀ t : State, s.vm.Alike t.vm → H.size ≤ t.heap.size → (∀ q : Nat, q < H.size → t.heap[q]? = H[q]?) → XC cls s t)
    (hf : ∀ z ∈ locs, free z.base) (hc : cells + 1 ≤ mc) (hs : slots + 6 ≤ ms) :
    W p l e R s m args below meth c H locs cells slots (vx_MQ below Qc XC args s mc ms free) (F0 m pc ls rest) := by
  intro T hT X
  have htr : e.platform.stackTraces = false := (show e.platform.stackTraces = l.stackTraces by rw [X.admits.platform]).trans hl
  have Y := vx_rebase X (R' := { frames := R.frames, locals := R.locals, cells := 1, slots := 6 }) (Nat.le_refl _) (Nat.le_refl _) hRcells hRslots
  obtain ⟨s', hA⟩ : ∃ z, z = (T.setVm s.vm).setFrames (.invoking m args :: below) := ⟨_, rfl⟩
  rw [← hA] at Y
  have hvm : s'.vm = s.vm := by rw [hA]; rfl
  have hhp : s'.heap = H := by rw [hA]; exact hT
  have hW0 : s.WarmedH s'.vm := by rw [hvm]; exact State.WarmedH.refl s
  have hat' : ∀ w ∈ vx_at0 own ic cls names, w.before args s' = true := fun w hw => vx_ot_at hW0 hvm.symm (hgood w (List.mem_cons_of_mem _ (List.mem_cons_of_mem _ hw))) (hat w hw)
  have hk' : (Cond.classLink own ik cls).before args s' = true := vx_ot_at hW0 hvm.symm (hgood _ List.mem_cons_self) hk
  have hini' : (Cond.initialized cls).before args s' = true := vx_ot_at hW0 hvm.symm (hgood _ (List.mem_cons_of_mem _ List.mem_cons_self)) hini
  have hU' : vx_Zq Bundle.tN "UNASSIGNED_STACK" Bundle.steD A s' s'.heap := by rw [hhp]; exact vx_Zq.moved hW0.alike (hU.kept hS.2.1)
  have hN' : vx_Zq Bundle.tN "SUPPRESSED_SENTINEL" Bundle.listD A s' s'.heap := by rw [hhp]; exact vx_Zq.moved hW0.alike (hN.kept hS.2.1)
  have h : ∀ w ∈ Bundle.ownAtoms0 own ic cls names, w.before args s' = true := vx_own hat' (vx_isRefq hU'.1) (vx_isRefq hN'.1) hU'.2.word hN'.2.word
  have hown' : s'.vm.findClass own = some m.cls := by rw [hvm]; exact hown
  have hins : (Cond.instantiable cls 6).before args s' = true := h _ (by simp [Bundle.ownAtoms0])
  obtain ⟨vm₁, cX, kX, hfX, hkX, -, -, X₁, st1⟩ := Y.newCold hexec (own := own) (C := cls) (index := ik) (n := 6) hown' hk' hins hini'
    (g := F0 m pc ls rest) rfl (by rw [hb]; exact d0) (Nat.le_refl _) (Nat.le_refl _)
  generalize hT1 : (T.setVm vm₁).pushCell { cls := cX, slots := kX.instanceTypes.map defaultValue, vm := .none } = T1 at X₁ st1
  have hcat : (Value.ref T.heap.size).category = 1 := rfl
  have hcellA : T1.heap[T.heap.size]? = some (freshCell cX kX) := by rw [← hT1]; exact State.heap_pushCell_size _ _
  have d3' : decode c.code (pc + 3) = .ok (.dup, 1) := by rw [hb]; exact d3
  obtain ⟨U, hsteps, hrun, hend, hW, hsame, ce, hce, hO⟩ := X₁.ctorThrow0 hexec htr (own := own) (cls := cls) (names := names) (ic := ic) hown' hcls hnames h (fun x hx => nomatch hx) hfX hkX hcellA (by rw [hhp, hT]; exact Nat.le_refl _)
    (g := { method := m, pc := pc + 4, locals := ls, stack := .ref T.heap.size :: .ref T.heap.size :: rest, locked := none }) rfl hsize rfl rfl (rest := rest) rfl
    (by rw [hb]; exact d4) (by rw [hb]; exact d7) hout hRframes (by simp only [List.map_cons, List.sum_cons, hcat]; omega) hlocks
  obtain ⟨f1, f2⟩ := vx_frame hsame
  rw [hhp] at f1 f2
  have hWs : s.WarmedH U.vm := State.WarmedH.trans hW0 hW
  have hcl : s.vm.findClass cls = some ce.cls := by
    have h9 := hO.cls
    rw [hvm] at h9
    exact h9
  have hall : s.sameButNew ({ U with vm := s.vm } : State) locs mc ms := by
    subst hA
    obtain ⟨e1, e2⟩ := hsame
    rw [State.setFrames_setFrames] at e1
    have h2 : (T.setVm s.vm).sameButNew ({ U with vm := s.vm } : State) [] (0 + 1) (0 + 6) := ⟨e1, e2⟩
    have h3 := X.same.trans h2
    rw [List.append_nil] at h3
    exact h3.mono hc hs
  refine ⟨U, ?_, .threw T.heap.size, hrun, hend, Or.inr ⟨T.heap.size, rfl, cls, ce, locs, hx U hWs.alike f1 (fun q hq => f2 q hq (fun z hz => nomatch hz)), hce, hO.vm, hcl, hWs, hall, hf⟩⟩
  refine st1 _ ?_
  show Steps p.tables e below (T1.setTop { method := m, pc := pc + 3, locals := ls, stack := .ref T.heap.size :: rest, locked := none }) _
  jvm_step X₁.here [X₁.here.top, hexec, d3', Value.category]
  exact hsteps
/-- 'throw new E("text")': new; dup; ldc; invokespecial; athrow -/
theorem vx_throwS {cc : ByteArray} {pc : Nat} (hexec : p.tables.exec = Jvm.exec) (hb : c.code = cc) (hl : l.stackTraces = false) {own cls text : String} {names : List String} {ik is ic mc ms sa : Nat} {A : Nat → Prop}
    (hown : s.vm.findClass own = some m.cls) (hcls : Bundle.fit cls = true) (hnames : ∀ n ∈ names, Bundle.fit n = true)
    (hk : (Cond.classLink own ik cls).before args s = true) (hini : (Cond.initialized cls).before args s = true) (hstr : vk_R own is text sa s) (hat : ∀ w ∈ vx_atS own ic cls names, w.before args s = true)
    (hgood : ∀ w ∈ Cond.classLink own ik cls :: Cond.initialized cls :: vx_atS own ic cls names, vx_ot w = true)
    (hU : vx_Zq Bundle.tN "UNASSIGNED_STACK" Bundle.steD A s s.heap) (hN : vx_Zq Bundle.tN "SUPPRESSED_SENTINEL" Bundle.listD A s s.heap) (hS : va_S A s.heap H locs) (hsize : ls.size = c.maxLocals)
    (d0 : decode cc pc = .ok (.new ik, 3)) (d3 : decode cc (pc + 3) = .ok (.dup, 1)) (d4 : decode cc (pc + 4) = .ok (.ldc is, 2)) (d6 : decode cc (pc + 6) = .ok (.invokespecial ic, 3)) (d9 : decode cc (pc + 9) = .ok (.athrow, 1))
    (hout : ∀ x ∈ c.exceptionTable.toList, covers x (pc + 9) = false)
    (hRframes : names.length + 3 < R.frames) (hRlocals : (rest.map fun v => v.category).sum + (13 * (names.length + 1) + 43) ≤ R.locals) (hRcells : cells + 1 ≤ R.cells) (hRslots : slots + 6 ≤ R.slots) (hlocks : meth.locks = false)
    (hx : ∀ t : State, s.vm.Alike t.vm → H.size ≤ t.heap.size → (∀ q : Nat, q < H.size → t.heap[q]? = H[q]?) → XC cls s t)
    (hf : ∀ z ∈ locs, free z.base) (hc : cells + 1 ≤ mc) (hs : slots + 6 ≤ ms) :
    W p l e R s m args below meth c H locs cells slots (vx_MQ below Qc XC args s mc ms free) (F0 m pc ls rest) := by
  intro T hT X
  have htr : e.platform.stackTraces = false := (show e.platform.stackTraces = l.stackTraces by rw [X.admits.platform]).trans hl
  have Y := vx_rebase X (R' := { frames := R.frames, locals := R.locals, cells := 1, slots := 6 }) (Nat.le_refl _) (Nat.le_refl _) hRcells hRslots
  obtain ⟨s', hA⟩ : ∃ z, z = (T.setVm s.vm).setFrames (.invoking m args :: below) := ⟨_, rfl⟩
  rw [← hA] at Y
  have hvm : s'.vm = s.vm := by rw [hA]; rfl
  have hhp : s'.heap = H := by rw [hA]; exact hT
  have hW0 : s.WarmedH s'.vm := by rw [hvm]; exact State.WarmedH.refl s
  have hat' : ∀ w ∈ vx_atS own ic cls names, w.before args s' = true := fun w hw => vx_ot_at hW0 hvm.symm (hgood w (List.mem_cons_of_mem _ (List.mem_cons_of_mem _ hw))) (hat w hw)
  have hk' : (Cond.classLink own ik cls).before args s' = true := vx_ot_at hW0 hvm.symm (hgood _ List.mem_cons_self) hk
  have hini' : (Cond.initialized cls).before args s' = true := vx_ot_at hW0 hvm.symm (hgood _ (List.mem_cons_of_mem _ List.mem_cons_self)) hini
  have hU' : vx_Zq Bundle.tN "UNASSIGNED_STACK" Bundle.steD A s' s'.heap := by rw [hhp]; exact vx_Zq.moved hW0.alike (hU.kept hS.2.1)
  have hN' : vx_Zq Bundle.tN "SUPPRESSED_SENTINEL" Bundle.listD A s' s'.heap := by rw [hhp]; exact vx_Zq.moved hW0.alike (hN.kept hS.2.1)
  have h : ∀ w ∈ Bundle.ownAtoms own ic cls names, w.before args s' = true := vx_own hat' (vx_isRefq hU'.1) (vx_isRefq hN'.1) hU'.2.word hN'.2.word
  have hown' : s'.vm.findClass own = some m.cls := by rw [hvm]; exact hown
  have hins : (Cond.instantiable cls 6).before args s' = true := h _ (by simp [Bundle.ownAtoms])
  obtain ⟨vm₁, cX, kX, hfX, hkX, -, -, X₁, st1⟩ := Y.newCold hexec (own := own) (C := cls) (index := ik) (n := 6) hown' hk' hins hini'
    (g := F0 m pc ls rest) rfl (by rw [hb]; exact d0) (Nat.le_refl _) (Nat.le_refl _)
  generalize hT1 : (T.setVm vm₁).pushCell { cls := cX, slots := kX.instanceTypes.map defaultValue, vm := .none } = T1 at X₁ st1
  have hcat : (Value.ref T.heap.size).category = 1 := rfl
  have hcellA : T1.heap[T.heap.size]? = some (freshCell cX kX) := by rw [← hT1]; exact State.heap_pushCell_size _ _
  have d3' : decode c.code (pc + 3) = .ok (.dup, 1) := by rw [hb]; exact d3
  have d4' : decode c.code (pc + 4) = .ok (.ldc is, 2) := by rw [hb]; exact d4
  have hstr' : vk_R own is text sa s' := vk_R.warm hW0 hstr
  obtain ⟨U, hsteps, hrun, hend, hW, hsame, ce, hce, hO⟩ := X₁.ctorThrowS hexec htr (own := own) (cls := cls) (names := names) (ic := ic) hown' hcls hnames h (fun x hx => nomatch hx) hfX hkX hcellA (by rw [hhp, hT]; exact Nat.le_refl _) (msg := .ref sa) rfl
    (g := { method := m, pc := pc + 6, locals := ls, stack := .ref sa :: .ref T.heap.size :: .ref T.heap.size :: rest, locked := none }) rfl hsize rfl rfl (rest := rest) rfl
    (by rw [hb]; exact d6) (by rw [hb]; exact d9) hout hRframes (by simp only [List.map_cons, List.sum_cons, hcat]; omega) hlocks
  obtain ⟨f1, f2⟩ := vx_frame hsame
  rw [hhp] at f1 f2
  have hWs : s.WarmedH U.vm := State.WarmedH.trans hW0 hW
  have hcl : s.vm.findClass cls = some ce.cls := by
    have h9 := hO.cls
    rw [hvm] at h9
    exact h9
  have hall : s.sameButNew ({ U with vm := s.vm } : State) locs mc ms := by
    subst hA
    obtain ⟨e1, e2⟩ := hsame
    rw [State.setFrames_setFrames] at e1
    have h2 : (T.setVm s.vm).sameButNew ({ U with vm := s.vm } : State) [] (0 + 1) (0 + 6) := ⟨e1, e2⟩
    have h3 := X.same.trans h2
    rw [List.append_nil] at h3
    exact h3.mono hc hs
  refine ⟨U, ?_, .threw T.heap.size, hrun, hend, Or.inr ⟨T.heap.size, rfl, cls, ce, locs, hx U hWs.alike f1 (fun q hq => f2 q hq (fun z hz => nomatch hz)), hce, hO.vm, hcl, hWs, hall, hf⟩⟩
  refine st1 _ ?_
  show Steps p.tables e below (T1.setTop { method := m, pc := pc + 3, locals := ls, stack := .ref T.heap.size :: rest, locked := none }) _
  jvm_step X₁.here [X₁.here.top, hexec, d3', Value.category]
  exact X₁.ldcString hexec (own := own) (text := text) (index := is) (a := sa) hown' hstr'.1 hstr'.2
    (g := { method := m, pc := pc + 4, locals := ls, stack := .ref T.heap.size :: .ref T.heap.size :: rest, locked := none }) rfl d4' _ hsteps
/-- 'throw new E("text")', the text by a wide index -/
theorem vx_throwSW {cc : ByteArray} {pc : Nat} (hexec : p.tables.exec = Jvm.exec) (hb : c.code = cc) (hl : l.stackTraces = false) {own cls text : String} {names : List String} {ik is ic mc ms sa : Nat} {A : Nat → Prop}
    (hown : s.vm.findClass own = some m.cls) (hcls : Bundle.fit cls = true) (hnames : ∀ n ∈ names, Bundle.fit n = true)
    (hk : (Cond.classLink own ik cls).before args s = true) (hini : (Cond.initialized cls).before args s = true) (hstr : vk_R own is text sa s) (hat : ∀ w ∈ vx_atS own ic cls names, w.before args s = true)
    (hgood : ∀ w ∈ Cond.classLink own ik cls :: Cond.initialized cls :: vx_atS own ic cls names, vx_ot w = true)
    (hU : vx_Zq Bundle.tN "UNASSIGNED_STACK" Bundle.steD A s s.heap) (hN : vx_Zq Bundle.tN "SUPPRESSED_SENTINEL" Bundle.listD A s s.heap) (hS : va_S A s.heap H locs) (hsize : ls.size = c.maxLocals)
    (d0 : decode cc pc = .ok (.new ik, 3)) (d3 : decode cc (pc + 3) = .ok (.dup, 1)) (d4 : decode cc (pc + 4) = .ok (.ldc_w is, 3)) (d7 : decode cc (pc + 7) = .ok (.invokespecial ic, 3)) (d10 : decode cc (pc + 10) = .ok (.athrow, 1))
    (hout : ∀ x ∈ c.exceptionTable.toList, covers x (pc + 10) = false)
    (hRframes : names.length + 3 < R.frames) (hRlocals : (rest.map fun v => v.category).sum + (13 * (names.length + 1) + 43) ≤ R.locals) (hRcells : cells + 1 ≤ R.cells) (hRslots : slots + 6 ≤ R.slots) (hlocks : meth.locks = false)
    (hx : ∀ t : State, s.vm.Alike t.vm → H.size ≤ t.heap.size → (∀ q : Nat, q < H.size → t.heap[q]? = H[q]?) → XC cls s t)
    (hf : ∀ z ∈ locs, free z.base) (hc : cells + 1 ≤ mc) (hs : slots + 6 ≤ ms) :
    W p l e R s m args below meth c H locs cells slots (vx_MQ below Qc XC args s mc ms free) (F0 m pc ls rest) := by
  intro T hT X
  have htr : e.platform.stackTraces = false := (show e.platform.stackTraces = l.stackTraces by rw [X.admits.platform]).trans hl
  have Y := vx_rebase X (R' := { frames := R.frames, locals := R.locals, cells := 1, slots := 6 }) (Nat.le_refl _) (Nat.le_refl _) hRcells hRslots
  obtain ⟨s', hA⟩ : ∃ z, z = (T.setVm s.vm).setFrames (.invoking m args :: below) := ⟨_, rfl⟩
  rw [← hA] at Y
  have hvm : s'.vm = s.vm := by rw [hA]; rfl
  have hhp : s'.heap = H := by rw [hA]; exact hT
  have hW0 : s.WarmedH s'.vm := by rw [hvm]; exact State.WarmedH.refl s
  have hat' : ∀ w ∈ vx_atS own ic cls names, w.before args s' = true := fun w hw => vx_ot_at hW0 hvm.symm (hgood w (List.mem_cons_of_mem _ (List.mem_cons_of_mem _ hw))) (hat w hw)
  have hk' : (Cond.classLink own ik cls).before args s' = true := vx_ot_at hW0 hvm.symm (hgood _ List.mem_cons_self) hk
  have hini' : (Cond.initialized cls).before args s' = true := vx_ot_at hW0 hvm.symm (hgood _ (List.mem_cons_of_mem _ List.mem_cons_self)) hini
  have hU' : vx_Zq Bundle.tN "UNASSIGNED_STACK" Bundle.steD A s' s'.heap := by rw [hhp]; exact vx_Zq.moved hW0.alike (hU.kept hS.2.1)
  have hN' : vx_Zq Bundle.tN "SUPPRESSED_SENTINEL" Bundle.listD A s' s'.heap := by rw [hhp]; exact vx_Zq.moved hW0.alike (hN.kept hS.2.1)
  have h : ∀ w ∈ Bundle.ownAtoms own ic cls names, w.before args s' = true := vx_own hat' (vx_isRefq hU'.1) (vx_isRefq hN'.1) hU'.2.word hN'.2.word
  have hown' : s'.vm.findClass own = some m.cls := by rw [hvm]; exact hown
  have hins : (Cond.instantiable cls 6).before args s' = true := h _ (by simp [Bundle.ownAtoms])
  obtain ⟨vm₁, cX, kX, hfX, hkX, -, -, X₁, st1⟩ := Y.newCold hexec (own := own) (C := cls) (index := ik) (n := 6) hown' hk' hins hini'
    (g := F0 m pc ls rest) rfl (by rw [hb]; exact d0) (Nat.le_refl _) (Nat.le_refl _)
  generalize hT1 : (T.setVm vm₁).pushCell { cls := cX, slots := kX.instanceTypes.map defaultValue, vm := .none } = T1 at X₁ st1
  have hcat : (Value.ref T.heap.size).category = 1 := rfl
  have hcellA : T1.heap[T.heap.size]? = some (freshCell cX kX) := by rw [← hT1]; exact State.heap_pushCell_size _ _
  have d3' : decode c.code (pc + 3) = .ok (.dup, 1) := by rw [hb]; exact d3
  have d4' : decode c.code (pc + 4) = .ok (.ldc_w is, 3) := by rw [hb]; exact d4
  have hstr' : vk_R own is text sa s' := vk_R.warm hW0 hstr
  obtain ⟨U, hsteps, hrun, hend, hW, hsame, ce, hce, hO⟩ := X₁.ctorThrowS hexec htr (own := own) (cls := cls) (names := names) (ic := ic) hown' hcls hnames h (fun x hx => nomatch hx) hfX hkX hcellA (by rw [hhp, hT]; exact Nat.le_refl _) (msg := .ref sa) rfl
    (g := { method := m, pc := pc + 7, locals := ls, stack := .ref sa :: .ref T.heap.size :: .ref T.heap.size :: rest, locked := none }) rfl hsize rfl rfl (rest := rest) rfl
    (by rw [hb]; exact d7) (by rw [hb]; exact d10) hout hRframes (by simp only [List.map_cons, List.sum_cons, hcat]; omega) hlocks
  obtain ⟨f1, f2⟩ := vx_frame hsame
  rw [hhp] at f1 f2
  have hWs : s.WarmedH U.vm := State.WarmedH.trans hW0 hW
  have hcl : s.vm.findClass cls = some ce.cls := by
    have h9 := hO.cls
    rw [hvm] at h9
    exact h9
  have hall : s.sameButNew ({ U with vm := s.vm } : State) locs mc ms := by
    subst hA
    obtain ⟨e1, e2⟩ := hsame
    rw [State.setFrames_setFrames] at e1
    have h2 : (T.setVm s.vm).sameButNew ({ U with vm := s.vm } : State) [] (0 + 1) (0 + 6) := ⟨e1, e2⟩
    have h3 := X.same.trans h2
    rw [List.append_nil] at h3
    exact h3.mono hc hs
  refine ⟨U, ?_, .threw T.heap.size, hrun, hend, Or.inr ⟨T.heap.size, rfl, cls, ce, locs, hx U hWs.alike f1 (fun q hq => f2 q hq (fun z hz => nomatch hz)), hce, hO.vm, hcl, hWs, hall, hf⟩⟩
  refine st1 _ ?_
  show Steps p.tables e below (T1.setTop { method := m, pc := pc + 3, locals := ls, stack := .ref T.heap.size :: rest, locked := none }) _
  jvm_step X₁.here [X₁.here.top, hexec, d3', Value.category]
  exact X₁.ldcStringW hexec (own := own) (text := text) (index := is) (a := sa) hown' hstr'.1 hstr'.2
    (g := { method := m, pc := pc + 4, locals := ls, stack := .ref T.heap.size :: .ref T.heap.size :: rest, locked := none }) rfl d4' _ hsteps
end Ends
section Bodies
variable {l : Launch}
theorem vx_ofW {y : MethodName} {ws ws' : List Cond} {rm : Room} {Pc : Array Value → State → Prop} {Qc : Array Value → State → Outcome → State → Prop} {XC : String → State → State → Prop} {mc ms : Nat} {free : Addr → Prop} {cc : ByteArray} {maxL : Nat} {ret : Option FieldType}
    (hy : plainName y.cls = true) (hw : ws = Cond.code y cc maxL ret :: ws')
    (body : ∀ p e s m args below meth c s₁, BodyLoose p l y (headSpec ws rm) cc maxL ret e s m args below meth c s₁ → c.maxLocals = maxL → (∀ x ∈ c.exceptionTable.toList, False) → Pc args s →
      W p l e (headSpec ws rm).room s m args below meth c s.heap [] 0 0 (vx_MQ below Qc XC args s mc ms free) (entryFrame m args maxL)) : vx_Met l y ws rm Pc Qc XC mc ms free := by
  refine MetFree.of_bodyS (code := cc) (maxLocals := maxL) (ret := ret) hy ?_ ?_
  · intro args s m h hn
    obtain ⟨meth, c, h1, h2, h3, h4, h5, h6, -, -⟩ := Cond.code_spec hn (atoms_spec (ws := ws) h _ (by rw [hw]; exact List.mem_cons_self))
    exact ⟨meth, c, h1, h2, h3, h4, h5, h6⟩
  · intro p e s m args below meth c s₁ B hml hP _
    have hh0 : s₁.heap = s.heap := by rw [B.state]; rfl
    have ht : ∀ x ∈ c.exceptionTable.toList, False := by
      obtain ⟨meth9, c9, h1, h2, -, -, -, -, h7, -⟩ := Cond.code_spec B.named (atoms_spec (ws := ws) B.pre _ (by rw [hw]; exact List.mem_cons_self))
      cases Option.some.inj (h1.symm.trans B.method)
      cases Option.some.inj (h2.symm.trans (Stand.of_body B).code)
      intro x hx
      rw [Array.isEmpty_iff.mp h7] at hx
      cases hx
    obtain ⟨t, a1, o, b1, b2, b3⟩ := body p e s m args below meth c s₁ B hml ht hP s₁ hh0 (Stand.of_body B)
    exact ⟨t, o, a1, b1, b2, b3⟩
/-- the table of a body with handlers -/
theorem vx_table {p : Program} {x y : MethodName} {S : Spec} {cc bytes : ByteArray} {maxL maxL' : Nat} {ret ret' : Option FieldType} {e : Env} {s s₁ : State} {m : MethodId} {args : Array Value} {below : List Frame} {meth : Method} {c : Code} {hh : List (Nat × Nat × Nat × Nat)}
    (B : BodyLoose p l y S cc maxL ret e s m args below meth c s₁) (h : (Cond.codeWith y bytes maxL' ret' hh).before args s = true) : c.exceptionTable.toList = tableOf hh := by
  obtain ⟨m9, meth9, c9, hn9, h1, h2, -, -, h6, -⟩ := Cond.codeWith_spec h
  cases Option.some.inj (hn9.symm.trans B.named)
  cases Option.some.inj (h1.symm.trans B.method)
  cases Option.some.inj (h2.symm.trans (Stand.of_body B).code)
  rw [← h6, table_eq]
end Bodies
end VXA
/-! ===== END ===== -/
/-! ===== BEGIN a static call of a method with an exception table ===== -/
section VXS
variable {p : Program} {l : Launch} {e : Env} {R : Room} {s : State} {m : MethodId} {args : Array Value} {below : List Frame} {meth : Method} {c : Code} {T : State} {H : Heap} {locs : List Loc} {cells slots : Nat}
abbrev vx_CSW (R : Room) (s : State) (args : Array Value) (own : String) (index : Nat) (y : MethodName) (bytes : ByteArray) (maxL : Nat) (ret : Option FieldType) (hh : List (Nat × Nat × Nat × Nat)) (ws : List Cond) (rm : Room) (mc ms n : Nat) : Prop :=
  (rm.cells = mc ∧ rm.slots = ms ∧ rm.frames + 1 ≤ R.frames ∧ 8 + (maxL + 11) + rm.locals ≤ R.locals ∧ (∀ w ∈ ws, ∀ (a' : Array Value) (U : State), s.WarmedH U.vm → w.before a' U = true) ∧ Cond.codeWith y bytes maxL ret hh ∈ ws) ∧
  (Cond.codeWith y bytes maxL ret hh).before args s = true ∧ (Cond.initialized y.cls).before args s = true ∧ (y.cls ≠ "java/lang/invoke/MethodHandle" ∧ y.cls ≠ "java/lang/invoke/VarHandle") ∧
  (∀ sig, parseMethodDescriptor y.desc = some sig → n = sig.parameters.length) ∧ (Cond.methodLink own index y).before args s = true ∧ (Cond.static y).before args s = true
theorem vx_cwSW {own : String} {index maxL mc ms : Nat} {y : MethodName} {bytes : ByteArray} {ret : Option FieldType} {hh : List (Nat × Nat × Nat × Nat)} {Ts ws ws' : List Cond} {rm : Room} (n : Nat) (ht : ∀ w ∈ Ts, w.before args s = true) (hT : GoodIn Ts (va_wsS own index y ws)) (hw : ws = Cond.codeWith y bytes maxL ret hh :: ws') (hrc : rm.cells = mc) (hrs : rm.slots = ms)
    (hd : y.cls ≠ "java/lang/invoke/MethodHandle" ∧ y.cls ≠ "java/lang/invoke/VarHandle" ∧ (parseMethodDescriptor y.desc).map (fun d => d.parameters.length) = some n) (hR : rm.frames + 1 ≤ R.frames ∧ 8 + (maxL + 11) + rm.locals ≤ R.locals) :
    vx_CSW R s args own index y bytes maxL ret hh ws rm mc ms n := by
  have ok : ∀ w ∈ va_wsS own index y ws, w.before args s = true := fun w h => ht w (hT w h).1
  have hG : GoodIn Ts ws := fun w h => hT w (by unfold va_wsS; exact List.mem_append_right _ h)
  have hc : Cond.codeWith y bytes maxL ret hh ∈ ws := by rw [hw]; exact List.mem_cons_self
  refine ⟨⟨hrc, hrs, hR.1, hR.2, pay_in ht hG, hc⟩, ht _ (hG _ hc).1, ok _ (by simp [va_wsS]), ⟨hd.1, hd.2.1⟩, fun sig h => ?_, ok _ (by simp [va_wsS]), ok _ (by simp [va_wsS])⟩
  have h2 := hd.2.2
  rw [h] at h2
  exact (Option.some.inj h2).symm
theorem vx_callSW (X : Stand p l e R s m args below meth c T locs cells slots) (hexec : p.tables.exec = Jvm.exec) {own : String} {index : Nat} {y : MethodName} {bytes : ByteArray} {maxL : Nat} {ret : Option FieldType} {hh : List (Nat × Nat × Nat × Nat)}
    (hown : s.vm.findClass own = some m.cls) (hlink : (Cond.methodLink own index y).before args s = true) (hstat : (Cond.static y).before args s = true) (hinit : (Cond.initialized y.cls).before args s = true)
    (hcode : (Cond.codeWith y bytes maxL ret hh).before args s = true) (hy : y.cls ≠ "java/lang/invoke/MethodHandle" ∧ y.cls ≠ "java/lang/invoke/VarHandle")
    {W9 : Nat} {Pre : Pt → Array Value → Prop} {Post : Pt → Array Value → Option Value → Pt → Prop} (hK : Back l R p e below s args y 3 W9 Pre Post)
    {g : JFrame} (hg : g.method = m) (hsize : g.locals.size = c.maxLocals) {argsL rest : List Value} (hlen : ∀ sig, parseMethodDescriptor y.desc = some sig → argsL.length = sig.parameters.length)
    (hstack : g.stack = argsL.reverse ++ rest) (hW : 2 * g.monitorRoom + (rest.map fun v => v.category).sum ≤ W9) (hdg : decode c.code g.pc = .ok (.invokestatic index, 3))
    (hpre : ∀ vm₁, s.WarmedH vm₁ → Pre ⟨T.setVm vm₁, locs, cells, slots⟩ argsL.toArray) :
    ∃ (v : Option Value) (vm₁ : Vm) (B : Pt), s.WarmedH vm₁ ∧ Stand p l e R s m args below meth c B.U B.locs B.cells B.slots ∧ Post ⟨T.setVm vm₁, locs, cells, slots⟩ argsL.toArray v B ∧
      ∀ target, Steps p.tables e below (B.U.setTop { g with pc := g.pc + 3, stack := v.toList ++ rest }) target → Steps p.tables e below (T.setTop g) target := by
  obtain ⟨mk, methM, cM, hnamed, hmethM, -, -, -, -, -, -, hsigM⟩ := Cond.codeWith_spec hcode
  have hstatic : methM.isStatic = true := Cond.static_spec hnamed hmethM hstat
  obtain ⟨kP, hkP, -⟩ := className_of_methodNamed hnamed
  have hinitP : kP.init = .initialized := Cond.initialized_spec (findClass_of_methodNamed hnamed) hkP hinit
  obtain ⟨vm₁, X₁, hstep₁⟩ := X.invokestatic hexec hown hlink hnamed hmethM hstatic hkP hinitP hy (g := g) hg (argsL := argsL) (rest := rest) (hlen _ hsigM) hstack hdg
  obtain ⟨v, B, X', hpost, hsteps⟩ := hK m meth c ⟨T.setVm vm₁, locs, cells, slots⟩ { g with stack := rest } (.invokestatic index) mk argsL.toArray X₁ hg hsize hdg hW (X₁.named hnamed) (hpre vm₁ X₁.warmed)
  exact ⟨v, vm₁, B, X₁.warmed, X', hpost, fun target h => hstep₁ _ fun acts => by rw [doInvoke_state]; exact hsteps.trans h⟩
theorem vx_runSW {y : MethodName} {bytes cc : ByteArray} {maxL nL mc ms n index : Nat} {ret : Option FieldType} {hh : List (Nat × Nat × Nat × Nat)} {ws : List Cond} {rm : Room} {Pc : Array Value → State → Prop} {Qc : Array Value → State → Outcome → State → Prop} {free : Addr → Prop} {Ts : List Cond} {own : String} {As rest : List Value} {g : JFrame}
    (S : CallFix p m c cc nL s args Ts own) (hM : Met l y ws rm Pc Qc mc ms free) (cw : vx_CSW R s args own index y bytes maxL ret hh ws rm mc ms n) (hp : PreS s H Pc As)
    (hg : g.method = m) (hn : As.length = n) (hsize : g.locals.size = nL) (hstack : g.stack = As.reverse ++ rest) (hW : 2 * g.monitorRoom + (rest.map fun v => v.category).sum ≤ 8) (hdg : decode cc g.pc = .ok (.invokestatic index, 3)) (hf : cells + mc ≤ R.cells ∧ slots + ms ≤ R.slots) :
    va_Run p l e R s m args below meth c H locs cells slots mc ms g rest (Qc As.toArray) (free) := by
  obtain ⟨⟨hrc, hrs, hfr, hlo, hws, hcw⟩, hcode, hini, hy, hlen, hl, hstt⟩ := cw
  have hK : Back l R p e below s args y 3 8 (PreOf R mc ms Pc) (PostOf Qc mc ms free) := va_backW (hh := hh) (bytes := bytes) (maxL := maxL) (ret := ret) hM hp.1 hrc hrs hfr hlo hws hcw (fun a' U hW => word_at hW (Or.inl (by first | rfl | simp [Cond.onTables, Cond.keeps, Cond.steady])) hini)
  obtain ⟨hx, hb, hml, ho, -⟩ := S
  intro T hT X
  obtain ⟨v, vm₁, ⟨U', l2, c2, s2⟩, hW₁, X', ⟨g', mk, t, L, e1, e2, hq, h1, hL, h2, h3⟩, st⟩ := vx_callSW X hx (hh := hh) (bytes := bytes) (maxL := maxL) (ret := ret) ho hl hstt hini hcode hy hK hg (hsize.trans hml.symm) (argsL := As) (rest := rest) (fun sig h => hn.trans (hlen sig h)) hstack hW (by rw [hb]; exact hdg)
    (fun vm₁ hW₁ => ⟨hf.1, hf.2, hp.2 (T.setVm vm₁) hT hW₁⟩)
  dsimp only [Pt.U, Pt.locs, Pt.cells, Pt.slots] at X' e1 e2 h1 h2 h3 st
  subst h1; subst h2; subst h3
  exact ⟨v, (T.setVm vm₁).calling g' mk As.toArray, t, U', L, hT, X', hL, e1, e2, hq, st⟩
/-- not caught here, past rows that name other classes: it goes on to the caller -/
theorem vx_outP {p : Program} {l : Launch} {e : Env} {R : Room} {s : State} {m : MethodId} {args : Array Value} {below : List Frame} {meth : Method} {c : Code} {H : Heap} {locs : List Loc} {cells slots : Nat} {free : Addr → Prop} {ls : Array Slot} {rest : List Value} {Qc : Array Value → State → Outcome → State → Prop} {XC : String → State → State → Prop}
    {pc : Nat} {own E : String} {ce : Cell} {q : Addr} {mc ms : Nat} (hown : s.vm.findClass own = some m.cls) (hlocks : meth.locks = false)
    (hpass : ∀ z ∈ c.exceptionTable.toList, covers z pc = false ∨ (z.catchType ≠ 0 ∧ ∃ nm : String, (Cond.classLink own z.catchType nm).before args s = true ∧ va_Nc E nm s)) (hcell : H[q]? = some ce) (hv : ce.vm = .none) (hcl : s.vm.findClass E = some ce.cls)
    (hx : ∀ t : State, t.heap = H → s.vm.Alike t.vm → XC E s t) (hf : ∀ z ∈ locs, free z.base) (hc : cells ≤ mc) (hs : slots ≤ ms) :
    vx_W p l e R s m args below meth c H locs cells slots (vx_MQ below Qc XC args s mc ms free) (F0 m pc ls rest) q := by
  intro T hT X
  have hpl : e.platform.magicAccessors = ({} : Platform).magicAccessors := by rw [X.admits.platform]
  obtain ⟨vm', hW', X', st⟩ := X.outThrough hlocks q (g := F0 m pc ls rest) rfl rfl rfl (cell := ce) (by rw [hT]; exact hcell) (by rw [hv]; rfl)
    (by obtain ⟨k9, h9, -⟩ := Vm.findClass_spec hcl; exact ⟨k9, h9⟩) (fun z hz => by
      rcases hpass z hz with h | ⟨hz0, nm, hl1, hn1⟩
      · exact Or.inl h
      · obtain ⟨c6, hc6, hcl6⟩ := Cond.classLink_spec hown hl1 e.platform hpl
        obtain ⟨a8, b8, h1, h2, h3⟩ := hn1
        cases Option.some.inj (h1.symm.trans hcl)
        cases Option.some.inj (h2.symm.trans hc6)
        exact Or.inr ⟨hz0, _, hcl6, h3⟩)
  obtain ⟨g₀, hfr⟩ := X'.frames_eq
  have hcell9 : ((T.setVm vm').setFrames (.throwing q :: below)).heap[q]? = some ce := by
    show T.heap[q]? = some ce
    rw [hT]; exact hcell
  have hend : Ended ((T.setVm vm').setFrames (.throwing q :: below)) below (.threw q) := State.frames_setFrames _ (State.cur_lt_of_frames hfr)
  refine ⟨(T.setVm vm').setFrames (.throwing q :: below), ?_, .threw q, X'.here.running, hend, Or.inr ⟨q, rfl, E, ce, locs, hx _ hT (X'.ends _).1.alike, hcell9, hv, hcl, (X'.ends _).1, (X'.ends _).2.mono hc hs, hf⟩⟩
  rw [X.pushThrowing_eq]
  exact st
/-- a thing of a world lies in the heap -/
theorem vx_lt {D : va_G} {cl : List vw_C} {ws : va_W} {H1 : Heap} (h : va_P D cl ws H1) {k : Nat} {q : Nat × va_E} (hk : ws[k]? = some q) : q.1 < H1.size := (h k q hk).lt
end VXS
/-! ===== END ===== -/
/-! ===== BEGIN methods with a table of their own: called by a name, returning or throwing ===== -/
section VXH
/-! vx_backW, vx_callVX, vx_callSX, vx_callVW, vx_runVW, vx_runVX, vx_runSX, vx_ofWH follow the same proofs as their sisters above (Free/Laws.lean, Shelf42/LK1.lean); vx_outP calls Shelf42/NT130.lean (outThrough). -/
section
variable {l : Launch} {R : Room} {p : Program} {e : Env} {below : List Frame} {s : State} {sargs : Array Value} {y : MethodName} {len W9 : Nat}
theorem vx_backW {ws : List Cond} {rm : Room} {Pc : Array Value → State → Prop} {Qc : Array Value → State → Outcome → State → Prop} {XC : String → State → State → Prop} {mc ms : Nat} {free : Addr → Prop} {bytes : ByteArray} {maxL : Nat} {ret : Option FieldType} {hh : List (Nat × Nat × Nat × Nat)}
    (hM : vx_Met l y ws rm Pc Qc XC mc ms free) (hblind : FrameBlind Pc) (hrc : rm.cells = mc) (hrs : rm.slots = ms)
    (hframes : rm.frames + 1 ≤ R.frames) (hlocals : W9 + (maxL + 11) + rm.locals ≤ R.locals)
    (hws : ∀ w ∈ ws, ∀ a' U, s.WarmedH U.vm → w.before a' U = true) (hcode : Cond.codeWith y bytes maxL ret hh ∈ ws) (hinit : ∀ a' U, s.WarmedH U.vm → (Cond.initialized y.cls).before a' U = true) :
    vx_Back l R p e below s sargs y len W9 (PreOf R mc ms Pc) (PostOf Qc mc ms free) (vx_Post XC mc ms free) := by
  intro m meth c A g ig mk a X hg hsize hdg hW hn hp
  have h1 : (headSpec ws rm).pre.before a A.U = true := atoms_intro fun w hw => hws w hw _ _ X.warmed
  have h2 : (Cond.codeWith y bytes maxL ret hh).before a A.U = true := hws _ hcode _ _ X.warmed
  have h3 : (Cond.initialized y.cls).before a A.U = true := hinit _ _ X.warmed
  have h4 : A.cells + (headSpec ws rm).room.cells ≤ R.cells := by rw [show (headSpec ws rm).room.cells = mc from hrc]; exact hp.1
  have h5 : A.slots + (headSpec ws rm).room.slots ≤ R.slots := by rw [show (headSpec ws rm).room.slots = ms from hrs]; exact hp.2.1
  have hPc : Pc a (A.U.calling g mk a) := hblind _ _ _ _ hp.2.2
  obtain ⟨U, Ls, c0, s0⟩ := A
  dsimp only [Pt.U, Pt.locs, Pt.cells, Pt.slots] at h1 h2 h3 h4 h5 X hn hPc ⊢
  obtain ⟨m9, methY, cY, hn9, hmY, hcY, -, hlY, -⟩ := Cond.codeWith_spec h2
  cases Option.some.inj (hn9.symm.trans hn)
  obtain ⟨kY, hkY, -⟩ := className_of_methodNamed hn
  have hinitY : kY.init = .initialized := Cond.initialized_spec (findClass_of_methodNamed hn) hkY h3
  have h : At U g.method c below := by rw [hg]; exact X.here
  have hlocals9 : W9 + (maxL + 11) + (headSpec ws rm).room.locals ≤ R.locals := hlocals
  have happ : (headSpec ws rm).appliesLoose y e.platform (U.calling g mk a) = true :=
    Spec.appliesLoose_calling (g := g) h hdg hn hkY hinitY
      (X.room_calling (g := g) (R' := (headSpec ws rm).room) hsize hmY hcY hframes (by rw [hlY]; omega) h4 h5) h1
  obtain ⟨mid, hmid⟩ := h.above
  have hfr : (U.setTop g).frames = (.java g :: mid) ++ below := by rw [State.frames_setTop' g h.top, hmid]; rfl
  obtain ⟨o, s₂, hsteps, -, hend, hq⟩ := Steps.callFree hM p X.admits X.cas X.clock (acts := []) hfr happ hPc trivial
  have hq' : vx_Q Qc XC mc ms free a (U.calling g mk a) o s₂ := hq
  rw [State.frames_setTop' g h.top] at hend
  obtain ⟨g₀, hg0⟩ := Option.isSome_iff_exists.mp h.top
  obtain ⟨r, hr⟩ := State.topJava?_eq_some.mp hg0
  have hr' : (({ U with heap := s₂.heap, slotsUsed := s₂.slotsUsed } : State).setVm s₂.vm).frames = .java g₀ :: r := hr
  rcases hq' with ⟨hqc, L, hfe, hL⟩ | ⟨q, rfl, E, ce, L, hx, hce, hcv, hcl, hW₂, hsm, hL⟩
  · obtain ⟨⟨v, rfl⟩, hW₂, e2, q2, q3, q4, q5, q6⟩ := id hfe
    have e3 : s₂ = ({ (U.calling g mk a).setFrames s₂.frames with heap := s₂.heap, slotsUsed := s₂.slotsUsed } : State).setVm s₂.vm := by
      have : s₂ = ({ s₂ with vm := (U.calling g mk a).vm } : State).setVm s₂.vm := rfl
      rw [e2] at this
      exact this
    obtain ⟨c₂, i₂, len₂, hc₂, hd₂, hf₂⟩ := hend
    have hW' : U.WarmedH s₂.vm := hW₂
    have hcc : c₂ = c := by
      have h1 : s₂.code? g.method = U.code? g.method := by
        rw [State.code?_eq, State.code?_eq, hW'.alike.method?]
      exact Option.some.inj (hc₂.symm.trans (h1.trans h.code))
    subst hcc
    have hlen : len₂ = len := by rw [hdg] at hd₂; cases hd₂; rfl
    subst hlen
    have hs₂ : s₂ = (({ U with heap := s₂.heap, slotsUsed := s₂.slotsUsed } : State).setVm s₂.vm).setTop { g with pc := g.pc + len₂, stack := v.toList ++ g.stack } := by
      refine e3.trans ?_
      rw [hf₂, State.calling_eq h.top, State.setFrames_setFrames, State.setTop_of_frames _ hr', hr]
      rfl
    have hsame : U.sameButNew ({ U with heap := s₂.heap, slotsUsed := s₂.slotsUsed } : State) L mc ms := by
      refine ⟨?_, q2, q3, q4, q5, q6⟩
      obtain ⟨t, ht, -⟩ := State.frames_cons hr
      show ({ U with heap := s₂.heap, slotsUsed := s₂.slotsUsed } : State) = { U.setFrames U.frames with heap := s₂.heap, slotsUsed := s₂.slotsUsed }
      rw [State.setFrames_self ht]
    subst hg
    refine Or.inl ⟨v, ⟨(({ U with heap := s₂.heap, slotsUsed := s₂.slotsUsed } : State).setVm s₂.vm), Ls ++ L, c0 + mc, s0 + ms⟩,
      ⟨X.admits, X.cas, X.clock, X.frames, X.room, X.hears, X.method, X.code, (X.here.setHeapUsed s₂.heap s₂.slotsUsed).setVm hW'.alike, X.tail, State.WarmedH.trans X.warmed hW', X.limits, X.bytes, X.same.trans (hsame.setVm s.vm)⟩,
      ⟨g, mk, s₂, L, rfl, rfl, hqc, rfl, hL, rfl, rfl⟩, ?_⟩
    show Steps p.tables e below _ ((({ U with heap := s₂.heap, slotsUsed := s₂.slotsUsed } : State).setVm s₂.vm).setTop { g with pc := g.pc + len₂, stack := v.toList ++ g.stack })
    rw [← hs₂]
    exact hsteps
  · obtain ⟨e2, q2, q3, q4, q5, q6⟩ := id hsm
    have e3 : s₂ = ({ (U.calling g mk a).setFrames s₂.frames with heap := s₂.heap, slotsUsed := s₂.slotsUsed } : State).setVm s₂.vm := by
      have : s₂ = ({ s₂ with vm := (U.calling g mk a).vm } : State).setVm s₂.vm := rfl
      rw [e2] at this
      exact this
    have hf₂ : s₂.frames = .throwing q :: .java g :: U.frames.tail := hend
    have hW' : U.WarmedH s₂.vm := hW₂
    have hs₂ : s₂ = ((({ U with heap := s₂.heap, slotsUsed := s₂.slotsUsed } : State).setVm s₂.vm).setTop g).pushFrame (.throwing q) := by
      refine e3.trans ?_
      rw [hf₂, State.calling_eq h.top, State.setFrames_setFrames, State.pushFrame, State.frames_setTop _ hr', State.setTop_of_frames _ hr', State.setFrames_setFrames, hr]
      rfl
    have hsame : U.sameButNew ({ U with heap := s₂.heap, slotsUsed := s₂.slotsUsed } : State) L mc ms := by
      refine ⟨?_, q2, q3, q4, q5, q6⟩
      obtain ⟨t, ht, -⟩ := State.frames_cons hr
      show ({ U with heap := s₂.heap, slotsUsed := s₂.slotsUsed } : State) = { U.setFrames U.frames with heap := s₂.heap, slotsUsed := s₂.slotsUsed }
      rw [State.setFrames_self ht]
    subst hg
    refine Or.inr ⟨q, ⟨(({ U with heap := s₂.heap, slotsUsed := s₂.slotsUsed } : State).setVm s₂.vm), Ls ++ L, c0 + mc, s0 + ms⟩,
      ⟨X.admits, X.cas, X.clock, X.frames, X.room, X.hears, X.method, X.code, (X.here.setHeapUsed s₂.heap s₂.slotsUsed).setVm hW'.alike, X.tail, State.WarmedH.trans X.warmed hW', X.limits, X.bytes, X.same.trans (hsame.setVm s.vm)⟩,
      ⟨g, mk, s₂, L, E, ce, rfl, rfl, hx, hce, hcv, hcl, rfl, hL, rfl, rfl⟩, ?_⟩
    show Steps p.tables e below _ (((({ U with heap := s₂.heap, slotsUsed := s₂.slotsUsed } : State).setVm s₂.vm).setTop g).pushFrame (.throwing q))
    rw [← hs₂]
    exact hsteps
end
variable {p : Program} {l : Launch} {e : Env} {R : Room} {s : State} {m : MethodId} {args : Array Value} {below : List Frame} {meth : Method} {c : Code} {T : State} {H : Heap} {locs : List Loc} {cells slots : Nat}
theorem vx_callVX (X : Stand p l e R s m args below meth c T locs cells slots) (hexec : p.tables.exec = Jvm.exec) {own C : String} {index : Nat} {y : MethodName} {bytes : ByteArray} {maxL : Nat} {ret : Option FieldType} {hh : List (Nat × Nat × Nat × Nat)}
    (hown : s.vm.findClass own = some m.cls) (hlink : (Cond.methodLink own index y).before args s = true) (hinst : (Cond.instanceMethod y).before args s = true) (hsel : (Cond.selects C y y).before args s = true)
    (hcode : (Cond.codeWith y bytes maxL ret hh).before args s = true) (hy : y.cls ≠ "java/lang/invoke/MethodHandle" ∧ y.cls ≠ "java/lang/invoke/VarHandle")
    {W9 : Nat} {Pre : Pt → Array Value → Prop} {Post : Pt → Array Value → Option Value → Pt → Prop} {PostX : Pt → Array Value → Addr → Pt → Prop} (hK : vx_Back l R p e below s args y 3 W9 Pre Post PostX)
    {b : Addr} {cellB : Cell} (hcell : T.heap[b]? = some cellB) (hobj : cellB.vm.isStatics = false) (hcls : s.vm.findClass C = some cellB.cls)
    {g : JFrame} (hg : g.method = m) (hsize : g.locals.size = c.maxLocals) {argsL rest : List Value} (hlen : ∀ sig, parseMethodDescriptor y.desc = some sig → argsL.length = sig.parameters.length)
    (hstack : g.stack = argsL.reverse ++ .ref b :: rest) (hW : 2 * g.monitorRoom + (rest.map fun v => v.category).sum ≤ W9) (hdg : decode c.code g.pc = .ok (.invokevirtual index, 3))
    (hpre : ∀ vm₁, s.WarmedH vm₁ → Pre ⟨T.setVm vm₁, locs, cells, slots⟩ (Value.ref b :: argsL).toArray) :
    (∃ (v : Option Value) (vm₁ : Vm) (B : Pt), s.WarmedH vm₁ ∧ Stand p l e R s m args below meth c B.U B.locs B.cells B.slots ∧ Post ⟨T.setVm vm₁, locs, cells, slots⟩ (Value.ref b :: argsL).toArray v B ∧
      ∀ target, Steps p.tables e below (B.U.setTop { g with pc := g.pc + 3, stack := v.toList ++ rest }) target → Steps p.tables e below (T.setTop g) target) ∨
    (∃ (q : Addr) (vm₁ : Vm) (B : Pt), s.WarmedH vm₁ ∧ Stand p l e R s m args below meth c B.U B.locs B.cells B.slots ∧ PostX ⟨T.setVm vm₁, locs, cells, slots⟩ (Value.ref b :: argsL).toArray q B ∧
      Steps p.tables e below (T.setTop g) ((B.U.setTop { g with stack := rest }).pushFrame (.throwing q))) := by
  obtain ⟨mk, methM, hnamed, hmethM, hstM, habM⟩ := Cond.instanceMethod_spec hinst
  obtain ⟨m8, methM', cM, hn8, hmethM', -, -, -, -, -, -, hsigM⟩ := Cond.codeWith_spec hcode
  cases Option.some.inj (hn8.symm.trans hnamed)
  cases hmethM.symm.trans hmethM'
  obtain ⟨c2, r2, m2, q1, q2, q3, q4, kP, hkP, hkPi⟩ := Cond.selects_spec hsel
  cases hcls.symm.trans q1
  cases (State.methodFound?_of_named hnamed hy).symm.trans q2
  cases hnamed.symm.trans q3
  have hselP : selectMethod e.platform s.vm cellB.cls mk = .method mk := by rw [Launch.admits_selectMethod X.admits]; exact q4
  obtain ⟨vm₁, X₁, hstep₁⟩ := X.invokevirtual hexec hown hlink hnamed hmethM hstM hkP hkPi hy (a := b) (cell := cellB) hcell
    (fun z h => by rw [h] at hobj; cases hobj) hselP hmethM habM hkP hkPi (g := g) hg (argsL := argsL) (rest := rest) (hlen _ hsigM) hstack hdg
  rcases hK m meth c ⟨T.setVm vm₁, locs, cells, slots⟩ { g with stack := rest } (.invokevirtual index) mk (Value.ref b :: argsL).toArray X₁ hg hsize hdg hW (X₁.named hnamed) (hpre vm₁ X₁.warmed) with ⟨v, B, X', hpost, hsteps⟩ | ⟨q, B, X', hpost, hsteps⟩
  · exact Or.inl ⟨v, vm₁, B, X₁.warmed, X', hpost, fun target h => hstep₁ _ fun acts => by rw [doInvoke_state]; exact hsteps.trans h⟩
  · exact Or.inr ⟨q, vm₁, B, X₁.warmed, X', hpost, hstep₁ _ fun acts => by rw [doInvoke_state]; exact hsteps⟩
theorem vx_callSX (X : Stand p l e R s m args below meth c T locs cells slots) (hexec : p.tables.exec = Jvm.exec) {own : String} {index : Nat} {y : MethodName} {bytes : ByteArray} {maxL : Nat} {ret : Option FieldType} {hh : List (Nat × Nat × Nat × Nat)}
    (hown : s.vm.findClass own = some m.cls) (hlink : (Cond.methodLink own index y).before args s = true) (hstat : (Cond.static y).before args s = true) (hinit : (Cond.initialized y.cls).before args s = true)
    (hcode : (Cond.codeWith y bytes maxL ret hh).before args s = true) (hy : y.cls ≠ "java/lang/invoke/MethodHandle" ∧ y.cls ≠ "java/lang/invoke/VarHandle")
    {W9 : Nat} {Pre : Pt → Array Value → Prop} {Post : Pt → Array Value → Option Value → Pt → Prop} {PostX : Pt → Array Value → Addr → Pt → Prop} (hK : vx_Back l R p e below s args y 3 W9 Pre Post PostX)
    {g : JFrame} (hg : g.method = m) (hsize : g.locals.size = c.maxLocals) {argsL rest : List Value} (hlen : ∀ sig, parseMethodDescriptor y.desc = some sig → argsL.length = sig.parameters.length)
    (hstack : g.stack = argsL.reverse ++ rest) (hW : 2 * g.monitorRoom + (rest.map fun v => v.category).sum ≤ W9) (hdg : decode c.code g.pc = .ok (.invokestatic index, 3))
    (hpre : ∀ vm₁, s.WarmedH vm₁ → Pre ⟨T.setVm vm₁, locs, cells, slots⟩ argsL.toArray) :
    (∃ (v : Option Value) (vm₁ : Vm) (B : Pt), s.WarmedH vm₁ ∧ Stand p l e R s m args below meth c B.U B.locs B.cells B.slots ∧ Post ⟨T.setVm vm₁, locs, cells, slots⟩ argsL.toArray v B ∧
      ∀ target, Steps p.tables e below (B.U.setTop { g with pc := g.pc + 3, stack := v.toList ++ rest }) target → Steps p.tables e below (T.setTop g) target) ∨
    (∃ (q : Addr) (vm₁ : Vm) (B : Pt), s.WarmedH vm₁ ∧ Stand p l e R s m args below meth c B.U B.locs B.cells B.slots ∧ PostX ⟨T.setVm vm₁, locs, cells, slots⟩ argsL.toArray q B ∧
      Steps p.tables e below (T.setTop g) ((B.U.setTop { g with stack := rest }).pushFrame (.throwing q))) := by
  obtain ⟨mk, methM, cM, hnamed, hmethM, -, -, -, -, -, -, hsigM⟩ := Cond.codeWith_spec hcode
  have hstatic : methM.isStatic = true := Cond.static_spec hnamed hmethM hstat
  obtain ⟨kP, hkP, -⟩ := className_of_methodNamed hnamed
  have hinitP : kP.init = .initialized := Cond.initialized_spec (findClass_of_methodNamed hnamed) hkP hinit
  obtain ⟨vm₁, X₁, hstep₁⟩ := X.invokestatic hexec hown hlink hnamed hmethM hstatic hkP hinitP hy (g := g) hg (argsL := argsL) (rest := rest) (hlen _ hsigM) hstack hdg
  rcases hK m meth c ⟨T.setVm vm₁, locs, cells, slots⟩ { g with stack := rest } (.invokestatic index) mk argsL.toArray X₁ hg hsize hdg hW (X₁.named hnamed) (hpre vm₁ X₁.warmed) with ⟨v, B, X', hpost, hsteps⟩ | ⟨q, B, X', hpost, hsteps⟩
  · exact Or.inl ⟨v, vm₁, B, X₁.warmed, X', hpost, fun target h => hstep₁ _ fun acts => by rw [doInvoke_state]; exact hsteps.trans h⟩
  · exact Or.inr ⟨q, vm₁, B, X₁.warmed, X', hpost, hstep₁ _ fun acts => by rw [doInvoke_state]; exact hsteps⟩
theorem vx_callVW (X : Stand p l e R s m args below meth c T locs cells slots) (hexec : p.tables.exec = Jvm.exec) {own C : String} {index : Nat} {y : MethodName} {bytes : ByteArray} {maxL : Nat} {ret : Option FieldType} {hh : List (Nat × Nat × Nat × Nat)}
    (hown : s.vm.findClass own = some m.cls) (hlink : (Cond.methodLink own index y).before args s = true) (hinst : (Cond.instanceMethod y).before args s = true) (hsel : (Cond.selects C y y).before args s = true)
    (hcode : (Cond.codeWith y bytes maxL ret hh).before args s = true) (hy : y.cls ≠ "java/lang/invoke/MethodHandle" ∧ y.cls ≠ "java/lang/invoke/VarHandle")
    {W9 : Nat} {Pre : Pt → Array Value → Prop} {Post : Pt → Array Value → Option Value → Pt → Prop} (hK : Back l R p e below s args y 3 W9 Pre Post)
    {b : Addr} {cellB : Cell} (hcell : T.heap[b]? = some cellB) (hobj : cellB.vm.isStatics = false) (hcls : s.vm.findClass C = some cellB.cls)
    {g : JFrame} (hg : g.method = m) (hsize : g.locals.size = c.maxLocals) {argsL rest : List Value} (hlen : ∀ sig, parseMethodDescriptor y.desc = some sig → argsL.length = sig.parameters.length)
    (hstack : g.stack = argsL.reverse ++ .ref b :: rest) (hW : 2 * g.monitorRoom + (rest.map fun v => v.category).sum ≤ W9) (hdg : decode c.code g.pc = .ok (.invokevirtual index, 3))
    (hpre : ∀ vm₁, s.WarmedH vm₁ → Pre ⟨T.setVm vm₁, locs, cells, slots⟩ (Value.ref b :: argsL).toArray) :
    ∃ (v : Option Value) (vm₁ : Vm) (B : Pt), s.WarmedH vm₁ ∧ Stand p l e R s m args below meth c B.U B.locs B.cells B.slots ∧ Post ⟨T.setVm vm₁, locs, cells, slots⟩ (Value.ref b :: argsL).toArray v B ∧
      ∀ target, Steps p.tables e below (B.U.setTop { g with pc := g.pc + 3, stack := v.toList ++ rest }) target → Steps p.tables e below (T.setTop g) target := by
  obtain ⟨mk, methM, hnamed, hmethM, hstM, habM⟩ := Cond.instanceMethod_spec hinst
  obtain ⟨m8, methM', cM, hn8, hmethM', -, -, -, -, -, -, hsigM⟩ := Cond.codeWith_spec hcode
  cases Option.some.inj (hn8.symm.trans hnamed)
  cases hmethM.symm.trans hmethM'
  obtain ⟨c2, r2, m2, q1, q2, q3, q4, kP, hkP, hkPi⟩ := Cond.selects_spec hsel
  cases hcls.symm.trans q1
  cases (State.methodFound?_of_named hnamed hy).symm.trans q2
  cases hnamed.symm.trans q3
  have hselP : selectMethod e.platform s.vm cellB.cls mk = .method mk := by rw [Launch.admits_selectMethod X.admits]; exact q4
  obtain ⟨vm₁, X₁, hstep₁⟩ := X.invokevirtual hexec hown hlink hnamed hmethM hstM hkP hkPi hy (a := b) (cell := cellB) hcell
    (fun z h => by rw [h] at hobj; cases hobj) hselP hmethM habM hkP hkPi (g := g) hg (argsL := argsL) (rest := rest) (hlen _ hsigM) hstack hdg
  obtain ⟨v, B, X', hpost, hsteps⟩ := hK m meth c ⟨T.setVm vm₁, locs, cells, slots⟩ { g with stack := rest } (.invokevirtual index) mk (Value.ref b :: argsL).toArray X₁ hg hsize hdg hW (X₁.named hnamed) (hpre vm₁ X₁.warmed)
  exact ⟨v, vm₁, B, X₁.warmed, X', hpost, fun target h => hstep₁ _ fun acts => by rw [doInvoke_state]; exact hsteps.trans h⟩
abbrev vx_CVW (R : Room) (s : State) (args : Array Value) (own C : String) (index : Nat) (y : MethodName) (bytes : ByteArray) (maxL : Nat) (ret : Option FieldType) (hh : List (Nat × Nat × Nat × Nat)) (ws : List Cond) (rm : Room) (mc ms n : Nat) : Prop :=
  (rm.cells = mc ∧ rm.slots = ms ∧ rm.frames + 1 ≤ R.frames ∧ 8 + (maxL + 11) + rm.locals ≤ R.locals ∧ (∀ w ∈ ws, ∀ (a' : Array Value) (U : State), s.WarmedH U.vm → w.before a' U = true) ∧ Cond.codeWith y bytes maxL ret hh ∈ ws) ∧
  (Cond.codeWith y bytes maxL ret hh).before args s = true ∧ (Cond.initialized y.cls).before args s = true ∧ (y.cls ≠ "java/lang/invoke/MethodHandle" ∧ y.cls ≠ "java/lang/invoke/VarHandle") ∧
  (∀ sig, parseMethodDescriptor y.desc = some sig → n = sig.parameters.length) ∧ (Cond.methodLink own index y).before args s = true ∧ (Cond.instanceMethod y).before args s = true ∧ (Cond.selects C y y).before args s = true
theorem vx_cwVW {own C : String} {index maxL mc ms : Nat} {y : MethodName} {bytes : ByteArray} {ret : Option FieldType} {hh : List (Nat × Nat × Nat × Nat)} {Ts ws ws' : List Cond} {rm : Room} (n : Nat) (ht : ∀ w ∈ Ts, w.before args s = true) (hT : GoodIn Ts (wsV own index C y ws)) (hw : ws = Cond.codeWith y bytes maxL ret hh :: ws') (hrc : rm.cells = mc) (hrs : rm.slots = ms)
    (hd : y.cls = C ∧ y.cls ≠ "java/lang/invoke/MethodHandle" ∧ y.cls ≠ "java/lang/invoke/VarHandle" ∧ (parseMethodDescriptor y.desc).map (fun d => d.parameters.length) = some n) (hR : rm.frames + 1 ≤ R.frames ∧ 8 + (maxL + 11) + rm.locals ≤ R.locals) :
    vx_CVW R s args own C index y bytes maxL ret hh ws rm mc ms n := by
  obtain ⟨hC, hd⟩ := hd
  subst hC
  have ok : ∀ w ∈ wsV own index y.cls y ws, w.before args s = true := fun w h => ht w (hT w h).1
  have hG : GoodIn Ts ws := fun w h => hT w (by unfold wsV; exact List.mem_append_right _ h)
  have hc : Cond.codeWith y bytes maxL ret hh ∈ ws := by rw [hw]; exact List.mem_cons_self
  refine ⟨⟨hrc, hrs, hR.1, hR.2, pay_in ht hG, hc⟩, ht _ (hG _ hc).1, ok _ (by simp [wsV]), ⟨hd.1, hd.2.1⟩, fun sig h => ?_, ok _ (by simp [wsV]), ok _ (by simp [wsV]), ok _ (by simp [wsV])⟩
  have h2 := hd.2.2
  rw [h] at h2
  exact (Option.some.inj h2).symm
theorem vx_runVW {y : MethodName} {bytes cc : ByteArray} {maxL nL mc ms n index : Nat} {ret : Option FieldType} {hh : List (Nat × Nat × Nat × Nat)} {ws : List Cond} {rm : Room} {Pc : Array Value → State → Prop} {Qc : Array Value → State → Outcome → State → Prop} {free : Addr → Prop} {Ts : List Cond} {own C : String} {b : Addr} {As rest : List Value} {g : JFrame}
    (S : CallFix p m c cc nL s args Ts own) (hM : Met l y ws rm Pc Qc mc ms free) (cw : vx_CVW R s args own C index y bytes maxL ret hh ws rm mc ms n) (hp : PreV s H C b Pc As)
    (hg : g.method = m) (hn : As.length = n) (hsize : g.locals.size = nL) (hstack : g.stack = As.reverse ++ .ref b :: rest) (hW : 2 * g.monitorRoom + (rest.map fun v => v.category).sum ≤ 8) (hdg : decode cc g.pc = .ok (.invokevirtual index, 3)) (hf : cells + mc ≤ R.cells ∧ slots + ms ≤ R.slots) :
    va_Run p l e R s m args below meth c H locs cells slots mc ms g rest (Qc (Value.ref b :: As).toArray) free := by
  obtain ⟨⟨hrc, hrs, hfr, hlo, hws, hcw⟩, hcode, hini, hy, hlen, hl, hin, hse⟩ := cw
  have hK : Back l R p e below s args y 3 8 (PreOf R mc ms Pc) (PostOf Qc mc ms free) := va_backW (hh := hh) (bytes := bytes) (maxL := maxL) (ret := ret) hM hp.1 hrc hrs hfr hlo hws hcw (fun a' U hW => word_at hW (Or.inl (by first | rfl | simp [Cond.onTables, Cond.keeps, Cond.steady])) hini)
  obtain ⟨hx, hb, hml, ho, -⟩ := S
  obtain ⟨-, ⟨cellB, hcB, hoB, hclB⟩, hPc⟩ := hp
  intro T hT X
  obtain ⟨v, vm₁, ⟨U', l2, c2, s2⟩, hW₁, X', ⟨g', mk, t, L, e1, e2, hq, h1, hL, h2, h3⟩, st⟩ := vx_callVW X hx (C := C) (hh := hh) (bytes := bytes) (maxL := maxL) (ret := ret) ho hl hin hse hcode hy hK (by rw [hT]; exact hcB) hoB hclB hg (hsize.trans hml.symm) (argsL := As) (rest := rest) (fun sig h => hn.trans (hlen sig h)) hstack hW (by rw [hb]; exact hdg)
    (fun vm₁ hW₁ => ⟨hf.1, hf.2, hPc (T.setVm vm₁) hT hW₁⟩)
  dsimp only [Pt.U, Pt.locs, Pt.cells, Pt.slots] at X' e1 e2 h1 h2 h3 st
  subst h1; subst h2; subst h3
  exact ⟨v, (T.setVm vm₁).calling g' mk (Value.ref b :: As).toArray, t, U', L, hT, X', hL, e1, e2, hq, st⟩
section
variable {y : MethodName} {bytes cc : ByteArray} {maxL nL mc ms n index : Nat} {ret : Option FieldType} {ws : List Cond} {rm : Room} {Pc : Array Value → State → Prop} {Qc : Array Value → State → Outcome → State → Prop} {XC : String → State → State → Prop} {free : Addr → Prop} {Ts : List Cond} {own C : String} {b : Addr} {As rest : List Value} {g : JFrame}
theorem vx_runVX {hh : List (Nat × Nat × Nat × Nat)} (S : CallFix p m c cc nL s args Ts own) (hM : vx_Met l y ws rm Pc Qc XC mc ms free) (cw : vx_CVW R s args own C index y bytes maxL ret hh ws rm mc ms n) (hp : PreV s H C b Pc As)
    (hg : g.method = m) (hn : As.length = n) (hsize : g.locals.size = nL) (hstack : g.stack = As.reverse ++ .ref b :: rest) (hW : 2 * g.monitorRoom + (rest.map fun v => v.category).sum ≤ 8) (hdg : decode cc g.pc = .ok (.invokevirtual index, 3)) (hf : cells + mc ≤ R.cells ∧ slots + ms ≤ R.slots) :
    vx_Run p l e R s m args below meth c H locs cells slots mc ms g rest (Qc (Value.ref b :: As).toArray) XC free := by
  obtain ⟨⟨hrc, hrs, hfr, hlo, hws, hcw⟩, hcode, hini, hy, hlen, hl, hin, hse⟩ := cw
  have hK : vx_Back l R p e below s args y 3 8 (PreOf R mc ms Pc) (PostOf Qc mc ms free) (vx_Post XC mc ms free) := vx_backW (hh := hh) (bytes := bytes) (maxL := maxL) (ret := ret) hM hp.1 hrc hrs hfr hlo hws hcw (fun a' U hW => word_at hW (Or.inl (by first | rfl | simp [Cond.onTables, Cond.keeps, Cond.steady])) hini)
  obtain ⟨hx, hb, hml, ho, -⟩ := S
  obtain ⟨-, ⟨cellB, hcB, hoB, hclB⟩, hPc⟩ := hp
  intro T hT X
  rcases vx_callVX X hx (C := C) (hh := hh) (bytes := bytes) (maxL := maxL) (ret := ret) ho hl hin hse hcode hy hK (by rw [hT]; exact hcB) hoB hclB hg (hsize.trans hml.symm) (argsL := As) (rest := rest) (fun sig h => hn.trans (hlen sig h)) hstack hW (by rw [hb]; exact hdg)
    (fun vm₁ hW₁ => ⟨hf.1, hf.2, hPc (T.setVm vm₁) hT hW₁⟩) with ⟨v, vm₁, ⟨U', l2, c2, s2⟩, hW₁, X', ⟨g', mk, t, L, e1, e2, hq, h1, hL, h2, h3⟩, st⟩ | ⟨q, vm₁, ⟨U', l2, c2, s2⟩, hW₁, X', ⟨g', mk, t, L, E, ce, e1, e2, hq, hce, hcv, hcl, h1, hL, h2, h3⟩, st⟩
  · dsimp only [Pt.U, Pt.locs, Pt.cells, Pt.slots] at X' e1 e2 h1 h2 h3 st
    subst h1; subst h2; subst h3
    exact Or.inl ⟨v, (T.setVm vm₁).calling g' mk (Value.ref b :: As).toArray, t, U', L, hT, X', hL, e1, e2, hq, st⟩
  · dsimp only [Pt.U, Pt.locs, Pt.cells, Pt.slots] at X' e1 e2 h1 h2 h3 st hcl
    subst h1; subst h2; subst h3
    exact Or.inr ⟨q, (T.setVm vm₁).calling g' mk (Value.ref b :: As).toArray, t, U', L, E, ce, hT, X', hL, e1, e2, hq, hce, hcv, vx_cls hW₁ hcl, st⟩
theorem vx_runSX {hh : List (Nat × Nat × Nat × Nat)} (S : CallFix p m c cc nL s args Ts own) (hM : vx_Met l y ws rm Pc Qc XC mc ms free) (cw : vx_CSW R s args own index y bytes maxL ret hh ws rm mc ms n) (hp : PreS s H Pc As)
    (hg : g.method = m) (hn : As.length = n) (hsize : g.locals.size = nL) (hstack : g.stack = As.reverse ++ rest) (hW : 2 * g.monitorRoom + (rest.map fun v => v.category).sum ≤ 8) (hdg : decode cc g.pc = .ok (.invokestatic index, 3)) (hf : cells + mc ≤ R.cells ∧ slots + ms ≤ R.slots) :
    vx_Run p l e R s m args below meth c H locs cells slots mc ms g rest (Qc As.toArray) XC free := by
  obtain ⟨⟨hrc, hrs, hfr, hlo, hws, hcw⟩, hcode, hini, hy, hlen, hl, hstt⟩ := cw
  have hK : vx_Back l R p e below s args y 3 8 (PreOf R mc ms Pc) (PostOf Qc mc ms free) (vx_Post XC mc ms free) := vx_backW (hh := hh) (bytes := bytes) (maxL := maxL) (ret := ret) hM hp.1 hrc hrs hfr hlo hws hcw (fun a' U hW => word_at hW (Or.inl (by first | rfl | simp [Cond.onTables, Cond.keeps, Cond.steady])) hini)
  obtain ⟨hx, hb, hml, ho, -⟩ := S
  intro T hT X
  rcases vx_callSX X hx (hh := hh) (bytes := bytes) (maxL := maxL) (ret := ret) ho hl hstt hini hcode hy hK hg (hsize.trans hml.symm) (argsL := As) (rest := rest) (fun sig h => hn.trans (hlen sig h)) hstack hW (by rw [hb]; exact hdg)
    (fun vm₁ hW₁ => ⟨hf.1, hf.2, hp.2 (T.setVm vm₁) hT hW₁⟩) with ⟨v, vm₁, ⟨U', l2, c2, s2⟩, hW₁, X', ⟨g', mk, t, L, e1, e2, hq, h1, hL, h2, h3⟩, st⟩ | ⟨q, vm₁, ⟨U', l2, c2, s2⟩, hW₁, X', ⟨g', mk, t, L, E, ce, e1, e2, hq, hce, hcv, hcl, h1, hL, h2, h3⟩, st⟩
  · dsimp only [Pt.U, Pt.locs, Pt.cells, Pt.slots] at X' e1 e2 h1 h2 h3 st
    subst h1; subst h2; subst h3
    exact Or.inl ⟨v, (T.setVm vm₁).calling g' mk As.toArray, t, U', L, hT, X', hL, e1, e2, hq, st⟩
  · dsimp only [Pt.U, Pt.locs, Pt.cells, Pt.slots] at X' e1 e2 h1 h2 h3 st hcl
    subst h1; subst h2; subst h3
    exact Or.inr ⟨q, (T.setVm vm₁).calling g' mk As.toArray, t, U', L, E, ce, hT, X', hL, e1, e2, hq, hce, hcv, vx_cls hW₁ hcl, st⟩
end
end VXH
theorem vx_ofWH {l : Launch} {y : MethodName} {ws ws' : List Cond} {rm : Room} {Pc : Array Value → State → Prop} {Qc : Array Value → State → Outcome → State → Prop} {XC : String → State → State → Prop} {mc ms : Nat} {free : Addr → Prop} {cc : ByteArray} {maxL : Nat} {ret : Option FieldType} {hh : List (Nat × Nat × Nat × Nat)}
    (hy : plainName y.cls = true) (hw : ws = Cond.codeWith y cc maxL ret hh :: ws')
    (body : ∀ p e s m args below meth c s₁, BodyLoose p l y (headSpec ws rm) cc maxL ret e s m args below meth c s₁ → c.maxLocals = maxL → Pc args s →
      W p l e (headSpec ws rm).room s m args below meth c s.heap [] 0 0 (vx_MQ below Qc XC args s mc ms free) (entryFrame m args maxL)) : vx_Met l y ws rm Pc Qc XC mc ms free := by
  refine MetFree.of_bodyS (code := cc) (maxLocals := maxL) (ret := ret) hy ?_ ?_
  · intro args s m h hn
    obtain ⟨m9, meth, c, hn9, h1, h2, h3, h4, -, h5, h6, -⟩ := Cond.codeWith_spec (atoms_spec (ws := ws) h _ (by rw [hw]; exact List.mem_cons_self))
    cases hn.symm.trans hn9
    exact ⟨meth, c, h1, h2, h3, h4, h5, h6⟩
  · intro p e s m args below meth c s₁ B hml hP _
    have hh0 : s₁.heap = s.heap := by rw [B.state]; rfl
    obtain ⟨t, a1, o, b1, b2, b3⟩ := body p e s m args below meth c s₁ B hml hP s₁ hh0 (Stand.of_body B)
    exact ⟨t, o, a1, b1, b2, b3⟩
/-! ===== END ===== -/

/-! ===== BEGIN printed: names, fields, word lists, decode rows ===== -/
def RX0 : String := "Cascadecourt$Juggler"
def TX0 : u_T := fun k => match k with
  | 0 => ("Cascadecourt$Juggler", "landsAt", "[I", true)
  | 1 => ("Cascadecourt$Juggler", "flights", "[I", true)
  | 2 => ("Cascadecourt$Juggler", "drops", "[I", true)
  | 3 => ("Cascadecourt$Juggler", "props", "I", false)
  | 4 => ("Cascadecourt$Juggler", "beat", "I", false)
  | 5 => ("Cascadecourt$Juggler", "slipsEver", "I", false)
  | 6 => ("Cascadecourt$Juggler", "beatsEver", "I", false)
  | _ => ("Cascadecourt$Juggler", "tiredness", "D", false)
def tyX0 : Nat → FieldType := fun k => match k with
  | 0 => .array .int
  | 1 => .array .int
  | 2 => .array .int
  | 3 => .int
  | 4 => .int
  | 5 => .int
  | 6 => .int
  | _ => .double
abbrev wsX00 : List Cond := u_ws RX0 TX0 8
theorem nmX0 : ∀ a, a < 8 → ∀ b, b < 8 → a ≠ b → (TX0 a).2.1 ≠ (TX0 b).2.1 := by decide +kernel
theorem tyX0_ok : ∀ k, k < 8 → parseFieldDescriptor (TX0 k).2.2.1 = some (tyX0 k) := by decide +kernel
abbrev cX0_init : ByteArray := prog_2_method_1_code
def yX0_init : MethodName := ⟨RX0, "<init>", "()V"⟩
abbrev cX0_startWith : ByteArray := prog_2_method_2_code
def yX0_startWith : MethodName := ⟨RX0, "startWith", "(I)V"⟩
abbrev cX0_props : ByteArray := prog_2_method_3_code
def yX0_props : MethodName := ⟨RX0, "props", "()I"⟩
abbrev cX0_beat : ByteArray := prog_2_method_5_code
def yX0_beat : MethodName := ⟨RX0, "beat", "()I"⟩
abbrev cX0_slipsEver : ByteArray := prog_2_method_6_code
def yX0_slipsEver : MethodName := ⟨RX0, "slipsEver", "()I"⟩
abbrev cX0_beatsEver : ByteArray := prog_2_method_7_code
def yX0_beatsEver : MethodName := ⟨RX0, "beatsEver", "()I"⟩
abbrev cX0_tiredness : ByteArray := prog_2_method_8_code
def yX0_tiredness : MethodName := ⟨RX0, "tiredness", "()D"⟩
abbrev cX0_isDropped : ByteArray := prog_2_method_9_code
def yX0_isDropped : MethodName := ⟨RX0, "isDropped", "(I)Z"⟩
abbrev cX0_beatsTillLanding : ByteArray := prog_2_method_10_code
def yX0_beatsTillLanding : MethodName := ⟨RX0, "beatsTillLanding", "(I)I"⟩
abbrev cX0_handOf : ByteArray := prog_2_method_11_code
def yX0_handOf : MethodName := ⟨RX0, "handOf", "(I)I"⟩
abbrev cX0_state : ByteArray := prog_2_method_12_code
def yX0_state : MethodName := ⟨RX0, "state", "()I"⟩
abbrev cX0_propLandingIn : ByteArray := prog_2_method_13_code
def yX0_propLandingIn : MethodName := ⟨RX0, "propLandingIn", "(I)I"⟩
abbrev cX0_droppedProps : ByteArray := prog_2_method_14_code
def yX0_droppedProps : MethodName := ⟨RX0, "droppedProps", "()I"⟩
abbrev cX0_flightsOfAll : ByteArray := prog_2_method_15_code
def yX0_flightsOfAll : MethodName := ⟨RX0, "flightsOfAll", "()I"⟩
abbrev cX0_answerOf : ByteArray := prog_2_method_16_code
def yX0_answerOf : MethodName := ⟨RX0, "answerOf", "(II)I"⟩
abbrev cX0_throwNow : ByteArray := prog_2_method_17_code
def yX0_throwNow : MethodName := ⟨RX0, "throwNow", "(I)I"⟩
abbrev cX0_sendUp : ByteArray := prog_2_method_18_code
def yX0_sendUp : MethodName := ⟨RX0, "sendUp", "(II)V"⟩
abbrev cX0_slip : ByteArray := prog_2_method_19_code
def yX0_slip : MethodName := ⟨RX0, "slip", "(I)V"⟩
abbrev cX0_dropProp : ByteArray := prog_2_method_20_code
def yX0_dropProp : MethodName := ⟨RX0, "dropProp", "(I)V"⟩
abbrev cX0_tire : ByteArray := prog_2_method_21_code
def yX0_tire : MethodName := ⟨RX0, "tire", "(II)V"⟩
abbrev cX0_pickUp : ByteArray := prog_2_method_22_code
def yX0_pickUp : MethodName := ⟨RX0, "pickUp", "()I"⟩
def RX1 : String := "Cascadecourt$Row"
def TX1 : u_T := fun k => match k with
  | 0 => ("Cascadecourt$Row", "heights", "[I", true)
  | 1 => ("Cascadecourt$Row", "work", "[I", true)
  | 2 => ("Cascadecourt$Row", "landings", "[I", true)
  | 3 => ("Cascadecourt$Row", "turns", "[I", true)
  | 4 => ("Cascadecourt$Row", "states", "[I", true)
  | 5 => ("Cascadecourt$Row", "length", "I", false)
  | _ => ("Cascadecourt$Row", "sound", "Z", false)
def tyX1 : Nat → FieldType := fun k => match k with
  | 0 => .array .int
  | 1 => .array .int
  | 2 => .array .int
  | 3 => .array .int
  | 4 => .array .int
  | 5 => .int
  | _ => .boolean
abbrev wsX10 : List Cond := u_ws RX1 TX1 7
theorem nmX1 : ∀ a, a < 7 → ∀ b, b < 7 → a ≠ b → (TX1 a).2.1 ≠ (TX1 b).2.1 := by decide +kernel
theorem tyX1_ok : ∀ k, k < 7 → parseFieldDescriptor (TX1 k).2.2.1 = some (tyX1 k) := by decide +kernel
abbrev cX1_init : ByteArray := prog_3_method_1_code
def yX1_init : MethodName := ⟨RX1, "<init>", "(II)V"⟩
abbrev cX1_length : ByteArray := prog_3_method_2_code
def yX1_length : MethodName := ⟨RX1, "length", "()I"⟩
abbrev cX1_hasSite : ByteArray := prog_3_method_3_code
def yX1_hasSite : MethodName := ⟨RX1, "hasSite", "(I)Z"⟩
abbrev cX1_isSound : ByteArray := prog_3_method_4_code
def yX1_isSound : MethodName := ⟨RX1, "isSound", "()Z"⟩
abbrev cX1_siteOf : ByteArray := prog_3_method_5_code
def yX1_siteOf : MethodName := ⟨RX1, "siteOf", "(I)I"⟩
abbrev cX1_throwAt : ByteArray := prog_3_method_6_code
def yX1_throwAt : MethodName := ⟨RX1, "throwAt", "(I)I"⟩
abbrev cX1_stateAt : ByteArray := prog_3_method_7_code
def yX1_stateAt : MethodName := ⟨RX1, "stateAt", "(I)I"⟩
abbrev cX1_settle : ByteArray := prog_3_method_14_code
def yX1_settle : MethodName := ⟨RX1, "settle", "()V"⟩
abbrev cX1_turnFrom : ByteArray := prog_3_method_15_code
def yX1_turnFrom : MethodName := ⟨RX1, "turnFrom", "(I)I"⟩
abbrev cX1_stateBefore : ByteArray := prog_3_method_16_code
def yX1_stateBefore : MethodName := ⟨RX1, "stateBefore", "(I)I"⟩
abbrev cX1_answer : ByteArray := prog_3_method_17_code
def yX1_answer : MethodName := ⟨RX1, "answer", "(I)I"⟩
abbrev cX1_answerAt : ByteArray := prog_3_method_18_code
def yX1_answerAt : MethodName := ⟨RX1, "answerAt", "(II)I"⟩
abbrev cX1_props : ByteArray := prog_3_method_19_code
def yX1_props : MethodName := ⟨RX1, "props", "()I"⟩
abbrev cX1_sumOfThrows : ByteArray := prog_3_method_20_code
def yX1_sumOfThrows : MethodName := ⟨RX1, "sumOfThrows", "()I"⟩
abbrev cX1_highestThrow : ByteArray := prog_3_method_21_code
def yX1_highestThrow : MethodName := ⟨RX1, "highestThrow", "()I"⟩
abbrev cX1_crossingThrows : ByteArray := prog_3_method_23_code
def yX1_crossingThrows : MethodName := ⟨RX1, "crossingThrows", "()I"⟩
abbrev cX1_period : ByteArray := prog_3_method_24_code
def yX1_period : MethodName := ⟨RX1, "period", "()I"⟩
abbrev cX1_isShiftedTo : ByteArray := prog_3_method_25_code
def yX1_isShiftedTo : MethodName := ⟨RX1, "isShiftedTo", "(LCascadecourt$Row;I)Z"⟩
abbrev cX1_orbits : ByteArray := prog_3_method_26_code
def yX1_orbits : MethodName := ⟨RX1, "orbits", "()I"⟩
abbrev cX1_isFirstOfOrbit : ByteArray := prog_3_method_27_code
def yX1_isFirstOfOrbit : MethodName := ⟨RX1, "isFirstOfOrbit", "(I)Z"⟩
abbrev cX1_greatestTurn : ByteArray := prog_3_method_28_code
def yX1_greatestTurn : MethodName := ⟨RX1, "greatestTurn", "()I"⟩
abbrev cX1_oneIfPrime : ByteArray := prog_3_method_29_code
def yX1_oneIfPrime : MethodName := ⟨RX1, "oneIfPrime", "()I"⟩
abbrev cX1_oneIfGround : ByteArray := prog_3_method_30_code
def yX1_oneIfGround : MethodName := ⟨RX1, "oneIfGround", "()I"⟩
def RX2 : String := "Cascadecourt$Ways"
def TX2 : u_T := fun k => match k with
  | 0 => ("Cascadecourt$Ways", "steps", "[I", true)
  | 1 => ("Cascadecourt$Ways", "firstThrows", "[I", true)
  | 2 => ("Cascadecourt$Ways", "waiting", "[I", true)
  | _ => ("Cascadecourt$Ways", "start", "I", false)
def tyX2 : Nat → FieldType := fun k => match k with
  | 0 => .array .int
  | 1 => .array .int
  | 2 => .array .int
  | _ => .int
abbrev wsX20 : List Cond := u_ws RX2 TX2 4
theorem nmX2 : ∀ a, a < 4 → ∀ b, b < 4 → a ≠ b → (TX2 a).2.1 ≠ (TX2 b).2.1 := by decide +kernel
theorem tyX2_ok : ∀ k, k < 4 → parseFieldDescriptor (TX2 k).2.2.1 = some (tyX2 k) := by decide +kernel
abbrev cX2_init : ByteArray := prog_4_method_1_code
def yX2_init : MethodName := ⟨RX2, "<init>", "()V"⟩
abbrev cX2_stepsTo : ByteArray := prog_4_method_2_code
def yX2_stepsTo : MethodName := ⟨RX2, "stepsTo", "(I)I"⟩
abbrev cX2_firstThrowTo : ByteArray := prog_4_method_3_code
def yX2_firstThrowTo : MethodName := ⟨RX2, "firstThrowTo", "(I)I"⟩
abbrev cX2_lookFrom : ByteArray := prog_4_method_4_code
def yX2_lookFrom : MethodName := ⟨RX2, "lookFrom", "(I)V"⟩
abbrev cX2_lookOnFrom : ByteArray := prog_4_method_5_code
def yX2_lookOnFrom : MethodName := ⟨RX2, "lookOnFrom", "(II)I"⟩
def RX3 : String := "Cascadecourt"
def TX3 : u_T := fun k => match k with
  | 0 => ("Cascadecourt", "rows", "[LCascadecourt$Row;", true)
  | 1 => ("Cascadecourt", "juggler", "LCascadecourt$Juggler;", true)
  | 2 => ("Cascadecourt", "ways", "LCascadecourt$Ways;", true)
  | _ => ("Cascadecourt", "rowsTold", "I", false)
def tyX3 : Nat → FieldType := fun k => match k with
  | 0 => .array (.object "Cascadecourt$Row")
  | 1 => .object "Cascadecourt$Juggler"
  | 2 => .object "Cascadecourt$Ways"
  | _ => .int
abbrev wsX30 : List Cond := u_ws RX3 TX3 4
theorem nmX3 : ∀ a, a < 4 → ∀ b, b < 4 → a ≠ b → (TX3 a).2.1 ≠ (TX3 b).2.1 := by decide +kernel
theorem tyX3_ok : ∀ k, k < 4 → parseFieldDescriptor (TX3 k).2.2.1 = some (tyX3 k) := by decide +kernel
abbrev cX3_init : ByteArray := prog_1_method_1_code
def yX3_init : MethodName := ⟨RX3, "<init>", "()V"⟩
abbrev cX3_tell : ByteArray := prog_1_method_2_code
def yX3_tell : MethodName := ⟨RX3, "tell", "(II)I"⟩
abbrev cX3_take : ByteArray := prog_1_method_8_code
def yX3_take : MethodName := ⟨RX3, "take", "(I)I"⟩
abbrev cX3_toss : ByteArray := prog_1_method_9_code
def yX3_toss : MethodName := ⟨RX3, "toss", "(I)I"⟩
abbrev cX3_pick : ByteArray := prog_1_method_11_code
def yX3_pick : MethodName := ⟨RX3, "pick", "()I"⟩
abbrev cX3_ofRow : ByteArray := prog_1_method_12_code
def yX3_ofRow : MethodName := ⟨RX3, "ofRow", "(II)I"⟩
abbrev cX3_ofSite : ByteArray := prog_1_method_13_code
def yX3_ofSite : MethodName := ⟨RX3, "ofSite", "(III)I"⟩
abbrev cX3_many : ByteArray := prog_1_method_16_code
def yX3_many : MethodName := ⟨RX3, "many", "(I)I"⟩
abbrev cX3_tired : ByteArray := prog_1_method_17_code
def yX3_tired : MethodName := ⟨RX3, "tired", "()D"⟩
abbrev cX3_high : ByteArray := prog_1_method_18_code
def yX3_high : MethodName := ⟨RX3, "high", "(I)D"⟩
abbrev cX3_would : ByteArray := prog_1_method_19_code
def yX3_would : MethodName := ⟨RX3, "would", "(I)I"⟩
abbrev cX3_way : ByteArray := prog_1_method_20_code
def yX3_way : MethodName := ⟨RX3, "way", "(I)I"⟩
abbrev cX3_first : ByteArray := prog_1_method_21_code
def yX3_first : MethodName := ⟨RX3, "first", "(I)I"⟩
abbrev cX3_count : ByteArray := prog_1_method_22_code
def yX3_count : MethodName := ⟨RX3, "count", "(II)I"⟩
abbrev cX3_alike : ByteArray := prog_1_method_23_code
def yX3_alike : MethodName := ⟨RX3, "alike", "(II)I"⟩
abbrev cX3_digest : ByteArray := prog_1_method_24_code
def yX3_digest : MethodName := ⟨RX3, "digest", "()J"⟩
abbrev cX3_isWithin : ByteArray := prog_1_method_25_code
def yX3_isWithin : MethodName := ⟨RX3, "isWithin", "(III)Z"⟩
abbrev cX3_isThrow : ByteArray := prog_1_method_26_code
def yX3_isThrow : MethodName := ⟨RX3, "isThrow", "(I)Z"⟩
abbrev cX3_firstNumberLongerThan : ByteArray := prog_1_method_27_code
def yX3_firstNumberLongerThan : MethodName := ⟨RX3, "firstNumberLongerThan", "(I)I"⟩
abbrev cX3_cell : ByteArray := prog_1_method_28_code
def yX3_cell : MethodName := ⟨RX3, "cell", "([II)I"⟩
abbrev cX3_setCell : ByteArray := prog_1_method_29_code
def yX3_setCell : MethodName := ⟨RX3, "setCell", "([III)V"⟩
abbrev cX3_rowNumbered : ByteArray := prog_1_method_30_code
def yX3_rowNumbered : MethodName := ⟨RX3, "rowNumbered", "(I)LCascadecourt$Row;"⟩
abbrev cX3_howMany : ByteArray := prog_1_method_31_code
def yX3_howMany : MethodName := ⟨RX3, "howMany", "(I)I"⟩
abbrev cX3_soundRows : ByteArray := prog_1_method_32_code
def yX3_soundRows : MethodName := ⟨RX3, "soundRows", "()I"⟩
abbrev cX3_addRow : ByteArray := prog_1_method_33_code
def yX3_addRow : MethodName := ⟨RX3, "addRow", "(JLCascadecourt$Row;)J"⟩
abbrev cX3_metresOf : ByteArray := prog_1_method_34_code
def yX3_metresOf : MethodName := ⟨RX3, "metresOf", "(I)D"⟩
abbrev cX3_nearestWhole : ByteArray := prog_1_method_35_code
def yX3_nearestWhole : MethodName := ⟨RX3, "nearestWhole", "(D)D"⟩
abbrev cX3_stateBehind : ByteArray := prog_1_method_36_code
def yX3_stateBehind : MethodName := ⟨RX3, "stateBehind", "(II)I"⟩
abbrev cX3_stepsInto : ByteArray := prog_1_method_37_code
def yX3_stepsInto : MethodName := ⟨RX3, "stepsInto", "(LCascadecourt$Row;)I"⟩
abbrev cX3_firstThrowInto : ByteArray := prog_1_method_38_code
def yX3_firstThrowInto : MethodName := ⟨RX3, "firstThrowInto", "(LCascadecourt$Row;)I"⟩
abbrev cX3_soundRowsFrom : ByteArray := prog_1_method_39_code
def yX3_soundRowsFrom : MethodName := ⟨RX3, "soundRowsFrom", "(IIII)I"⟩
def RX4 : String := "CascadecourtModel"
def TX4 : u_T := fun k => match k with
  | _ => ("", "", "", false)
def tyX4 : Nat → FieldType := fun k => match k with
  | _ => .int
abbrev wsX40 : List Cond := u_ws RX4 TX4 0
theorem nmX4 : ∀ a, a < 0 → ∀ b, b < 0 → a ≠ b → (TX4 a).2.1 ≠ (TX4 b).2.1 := by decide +kernel
theorem tyX4_ok : ∀ k, k < 0 → parseFieldDescriptor (TX4 k).2.2.1 = some (tyX4 k) := by decide +kernel
def RJx145de : String := "java/io/Serializable"
def TJx145de : u_T := fun k => match k with
  | _ => ("", "", "", false)
def tyJx145de : Nat → FieldType := fun k => match k with
  | _ => .int
abbrev wsJx145de0 : List Cond := u_ws RJx145de TJx145de 0
theorem nmJx145de : ∀ a, a < 0 → ∀ b, b < 0 → a ≠ b → (TJx145de a).2.1 ≠ (TJx145de b).2.1 := by decide +kernel
theorem tyJx145de_ok : ∀ k, k < 0 → parseFieldDescriptor (TJx145de k).2.2.1 = some (tyJx145de k) := by decide +kernel
def RJ6 : String := "java/lang/Integer"
def TJ6 : u_T := fun k => match k with
  | _ => ("", "", "", false)
def tyJ6 : Nat → FieldType := fun k => match k with
  | _ => .int
abbrev wsJ60 : List Cond := u_ws RJ6 TJ6 0
theorem nmJ6 : ∀ a, a < 0 → ∀ b, b < 0 → a ≠ b → (TJ6 a).2.1 ≠ (TJ6 b).2.1 := by decide +kernel
theorem tyJ6_ok : ∀ k, k < 0 → parseFieldDescriptor (TJ6 k).2.2.1 = some (tyJ6 k) := by decide +kernel
abbrev cJ6_bitCount_0f7a4 : ByteArray := prog_11_method_49_code
def yJ6_bitCount_0f7a4 : MethodName := ⟨RJ6, "bitCount", "(I)I"⟩
def RJ9 : String := "java/lang/Math"
def TJ9 : u_T := fun k => match k with
  | _ => ("", "", "", false)
def tyJ9 : Nat → FieldType := fun k => match k with
  | _ => .int
abbrev wsJ90 : List Cond := u_ws RJ9 TJ9 0
theorem nmJ9 : ∀ a, a < 0 → ∀ b, b < 0 → a ≠ b → (TJ9 a).2.1 ≠ (TJ9 b).2.1 := by decide +kernel
theorem tyJ9_ok : ∀ k, k < 0 → parseFieldDescriptor (TJ9 k).2.2.1 = some (tyJ9 k) := by decide +kernel
abbrev cJ9_floorMod_7cf53 : ByteArray := prog_12_method_50_code
def yJ9_floorMod_7cf53 : MethodName := ⟨RJ9, "floorMod", "(II)I"⟩
abbrev cJ9_max_7cf53 : ByteArray := prog_12_method_65_code
def yJ9_max_7cf53 : MethodName := ⟨RJ9, "max", "(II)I"⟩
def RJ0 : String := "java/lang/String"
def TJ0 : u_T := fun k => match k with
  | _ => ("", "", "", false)
def tyJ0 : Nat → FieldType := fun k => match k with
  | _ => .int
abbrev wsJ00 : List Cond := u_ws RJ0 TJ0 0
theorem nmJ0 : ∀ a, a < 0 → ∀ b, b < 0 → a ≠ b → (TJ0 a).2.1 ≠ (TJ0 b).2.1 := by decide +kernel
theorem tyJ0_ok : ∀ k, k < 0 → parseFieldDescriptor (TJ0 k).2.2.1 = some (tyJ0 k) := by decide +kernel
def RJ7 : String := "java/util/Arrays"
def TJ7 : u_T := fun k => match k with
  | _ => ("", "", "", false)
def tyJ7 : Nat → FieldType := fun k => match k with
  | _ => .int
abbrev wsJ70 : List Cond := u_ws RJ7 TJ7 0
theorem nmJ7 : ∀ a, a < 0 → ∀ b, b < 0 → a ≠ b → (TJ7 a).2.1 ≠ (TJ7 b).2.1 := by decide +kernel
theorem tyJ7_ok : ∀ k, k < 0 → parseFieldDescriptor (TJ7 k).2.2.1 = some (tyJ7 k) := by decide +kernel
abbrev cJ7_fill_53178 : ByteArray := prog_16_method_103_code
def yJ7_fill_53178 : MethodName := ⟨RJ7, "fill", "([II)V"⟩
def RL : String := "CascadecourtLaw"
abbrev cL_below : ByteArray := method_2_code
def yL_below : MethodName := ⟨RL, "below", "(II)I"⟩
abbrev cL_cell : ByteArray := method_3_code
def yL_cell : MethodName := ⟨RL, "cell", "([II)I"⟩
abbrev cL_row : ByteArray := method_4_code
def yL_row : MethodName := ⟨RL, "row", "([II)[I"⟩
abbrev cL_number : ByteArray := method_5_code
def yL_number : MethodName := ⟨RL, "number", "([I)I"⟩
abbrev cL_law : ByteArray := code
def yL_law : MethodName := ⟨RL, "law", "([I)Z"⟩
abbrev cL_isShared : ByteArray := method_8_code
def yL_isShared : MethodName := ⟨RL, "isShared", "(LCascadecourt;I)Z"⟩
def wsX0_init : List Cond := .code yX0_init cX0_init 1 none :: ([.methodLink RX0 3 objectInit, .instanceMethod objectInit, .code objectInit ⟨#[0xb1]⟩ 1 none, .arrayClass .int, .fieldLink RX0 9 "Cascadecourt$Juggler" "landsAt" "[I", .fieldLink RX0 15 "Cascadecourt$Juggler" "flights" "[I", .fieldLink RX0 18 "Cascadecourt$Juggler" "drops" "[I"] ++ wsX00)
def wsX3_setCell : List Cond := .code yX3_setCell cX3_setCell 3 none :: ([])
def wsX0_startWith : List Cond := .code yX0_startWith cX0_startWith 3 none :: ([.fieldLink RX0 21 "Cascadecourt$Juggler" "props" "I", .fieldLink RX0 25 "Cascadecourt$Juggler" "beat" "I", .fieldLink RX0 28 "Cascadecourt$Juggler" "tiredness" "D", .fieldLink RX0 9 "Cascadecourt$Juggler" "landsAt" "[I", .fieldLink RX0 15 "Cascadecourt$Juggler" "flights" "[I", .fieldLink RX0 18 "Cascadecourt$Juggler" "drops" "[I", .static yX3_setCell, .initialized RX3, .code yX3_setCell cX3_setCell 3 none] ++ wsX00)
def wsX0_props : List Cond := .code yX0_props cX0_props 1 (some .int) :: ([.fieldLink RX0 21 "Cascadecourt$Juggler" "props" "I"] ++ wsX00)
def wsX0_beat : List Cond := .code yX0_beat cX0_beat 1 (some .int) :: ([.fieldLink RX0 25 "Cascadecourt$Juggler" "beat" "I"] ++ wsX00)
def wsX0_slipsEver : List Cond := .code yX0_slipsEver cX0_slipsEver 1 (some .int) :: ([.fieldLink RX0 36 "Cascadecourt$Juggler" "slipsEver" "I"] ++ wsX00)
def wsX0_beatsEver : List Cond := .code yX0_beatsEver cX0_beatsEver 1 (some .int) :: ([.fieldLink RX0 39 "Cascadecourt$Juggler" "beatsEver" "I"] ++ wsX00)
def wsX0_tiredness : List Cond := .code yX0_tiredness cX0_tiredness 1 (some .double) :: ([.fieldLink RX0 28 "Cascadecourt$Juggler" "tiredness" "D"] ++ wsX00)
def wsX3_cell : List Cond := .code yX3_cell cX3_cell 2 (some .int) :: ([])
def wsX0_isDropped : List Cond := .code yX0_isDropped cX0_isDropped 2 (some .boolean) :: ([.fieldLink RX0 9 "Cascadecourt$Juggler" "landsAt" "[I", .static yX3_cell, .initialized RX3, .code yX3_cell cX3_cell 2 (some .int)] ++ wsX00)
def wsX0_beatsTillLanding : List Cond := .code yX0_beatsTillLanding cX0_beatsTillLanding 3 (some .int) :: ([.fieldLink RX0 9 "Cascadecourt$Juggler" "landsAt" "[I", .fieldLink RX0 25 "Cascadecourt$Juggler" "beat" "I", .static yX3_cell, .initialized RX3, .code yX3_cell cX3_cell 2 (some .int)] ++ wsX00)
def wsX0_handOf : List Cond := .code yX0_handOf cX0_handOf 2 (some .int) :: ([.fieldLink RX0 9 "Cascadecourt$Juggler" "landsAt" "[I", .methodLink RX0 46 yX0_isDropped, .instanceMethod yX0_isDropped, .selects RX0 yX0_isDropped yX0_isDropped, .initialized RX0, .code yX0_isDropped cX0_isDropped 2 (some .boolean), .static yX3_cell, .initialized RX3, .code yX3_cell cX3_cell 2 (some .int)] ++ wsX00)
def wsX0_state : List Cond := .code yX0_state cX0_state 4 (some .int) :: ([.fieldLink RX0 21 "Cascadecourt$Juggler" "props" "I", .methodLink RX0 50 yX0_beatsTillLanding, .instanceMethod yX0_beatsTillLanding, .selects RX0 yX0_beatsTillLanding yX0_beatsTillLanding, .initialized RX0, .code yX0_beatsTillLanding cX0_beatsTillLanding 3 (some .int), .fieldLink RX0 9 "Cascadecourt$Juggler" "landsAt" "[I", .fieldLink RX0 25 "Cascadecourt$Juggler" "beat" "I", .static yX3_cell, .initialized RX3, .code yX3_cell cX3_cell 2 (some .int)] ++ wsX00)
def wsX0_propLandingIn : List Cond := .code yX0_propLandingIn cX0_propLandingIn 3 (some .int) :: ([.fieldLink RX0 21 "Cascadecourt$Juggler" "props" "I", .methodLink RX0 50 yX0_beatsTillLanding, .instanceMethod yX0_beatsTillLanding, .selects RX0 yX0_beatsTillLanding yX0_beatsTillLanding, .initialized RX0, .code yX0_beatsTillLanding cX0_beatsTillLanding 3 (some .int), .fieldLink RX0 9 "Cascadecourt$Juggler" "landsAt" "[I", .fieldLink RX0 25 "Cascadecourt$Juggler" "beat" "I", .static yX3_cell, .initialized RX3, .code yX3_cell cX3_cell 2 (some .int)] ++ wsX00)
def wsX0_droppedProps : List Cond := .code yX0_droppedProps cX0_droppedProps 3 (some .int) :: ([.fieldLink RX0 21 "Cascadecourt$Juggler" "props" "I", .methodLink RX0 46 yX0_isDropped, .instanceMethod yX0_isDropped, .selects RX0 yX0_isDropped yX0_isDropped, .initialized RX0, .code yX0_isDropped cX0_isDropped 2 (some .boolean), .fieldLink RX0 9 "Cascadecourt$Juggler" "landsAt" "[I", .static yX3_cell, .initialized RX3, .code yX3_cell cX3_cell 2 (some .int)] ++ wsX00)
def wsX0_flightsOfAll : List Cond := .code yX0_flightsOfAll cX0_flightsOfAll 3 (some .int) :: ([.fieldLink RX0 21 "Cascadecourt$Juggler" "props" "I", .fieldLink RX0 15 "Cascadecourt$Juggler" "flights" "[I", .static yX3_cell, .initialized RX3, .code yX3_cell cX3_cell 2 (some .int)] ++ wsX00)
def wsX0_answerOf : List Cond := .code yX0_answerOf cX0_answerOf 3 (some .int) :: ([.fieldLink RX0 15 "Cascadecourt$Juggler" "flights" "[I", .fieldLink RX0 18 "Cascadecourt$Juggler" "drops" "[I", .methodLink RX0 50 yX0_beatsTillLanding, .instanceMethod yX0_beatsTillLanding, .selects RX0 yX0_beatsTillLanding yX0_beatsTillLanding, .initialized RX0, .code yX0_beatsTillLanding cX0_beatsTillLanding 3 (some .int), .fieldLink RX0 9 "Cascadecourt$Juggler" "landsAt" "[I", .fieldLink RX0 25 "Cascadecourt$Juggler" "beat" "I", .static yX3_cell, .initialized RX3, .code yX3_cell cX3_cell 2 (some .int), .methodLink RX0 54 yX0_handOf, .instanceMethod yX0_handOf, .selects RX0 yX0_handOf yX0_handOf, .code yX0_handOf cX0_handOf 2 (some .int), .methodLink RX0 46 yX0_isDropped, .instanceMethod yX0_isDropped, .selects RX0 yX0_isDropped yX0_isDropped, .code yX0_isDropped cX0_isDropped 2 (some .boolean)] ++ wsX00)
def wsX3_stateBehind : List Cond := .code yX3_stateBehind cX3_stateBehind 4 (some .int) :: ([])
def wsX0_dropProp : List Cond := .code yX0_dropProp cX0_dropProp 2 none :: ([.fieldLink RX0 9 "Cascadecourt$Juggler" "landsAt" "[I", .fieldLink RX0 18 "Cascadecourt$Juggler" "drops" "[I", .static yX3_setCell, .initialized RX3, .code yX3_setCell cX3_setCell 3 none, .static yX3_cell, .code yX3_cell cX3_cell 2 (some .int)] ++ wsX00)
def wsX0_slip : List Cond := .code yX0_slip cX0_slip 4 none :: ([.fieldLink RX0 36 "Cascadecourt$Juggler" "slipsEver" "I", .methodLink RX0 69 yX0_propLandingIn, .instanceMethod yX0_propLandingIn, .selects RX0 yX0_propLandingIn yX0_propLandingIn, .initialized RX0, .code yX0_propLandingIn cX0_propLandingIn 3 (some .int), .fieldLink RX0 21 "Cascadecourt$Juggler" "props" "I", .methodLink RX0 50 yX0_beatsTillLanding, .instanceMethod yX0_beatsTillLanding, .selects RX0 yX0_beatsTillLanding yX0_beatsTillLanding, .code yX0_beatsTillLanding cX0_beatsTillLanding 3 (some .int), .fieldLink RX0 9 "Cascadecourt$Juggler" "landsAt" "[I", .fieldLink RX0 25 "Cascadecourt$Juggler" "beat" "I", .static yX3_cell, .initialized RX3, .code yX3_cell cX3_cell 2 (some .int), .methodLink RX0 79 yX0_dropProp, .instanceMethod yX0_dropProp, .selects RX0 yX0_dropProp yX0_dropProp, .code yX0_dropProp cX0_dropProp 2 none, .fieldLink RX0 18 "Cascadecourt$Juggler" "drops" "[I", .static yX3_setCell, .code yX3_setCell cX3_setCell 3 none] ++ wsX00)
def wsX0_sendUp : List Cond := .code yX0_sendUp cX0_sendUp 3 none :: ([.fieldLink RX0 9 "Cascadecourt$Juggler" "landsAt" "[I", .fieldLink RX0 25 "Cascadecourt$Juggler" "beat" "I", .fieldLink RX0 15 "Cascadecourt$Juggler" "flights" "[I", .static yX3_setCell, .initialized RX3, .code yX3_setCell cX3_setCell 3 none, .static yX3_cell, .code yX3_cell cX3_cell 2 (some .int)] ++ wsX00)
def wsX0_tire : List Cond := .code yX0_tire cX0_tire 5 none :: ([.fieldLink RX0 28 "Cascadecourt$Juggler" "tiredness" "D", .constantDouble RX0 82 (4598175219545276416), .constantDouble RX0 84 (4593671619917905920)] ++ wsX00)
def wsX0_throwNow_r1 : List Cond := [Cond.fieldLink RX0 25 "Cascadecourt$Juggler" "beat" "I", Cond.fieldLink RX0 39 "Cascadecourt$Juggler" "beatsEver" "I", Cond.methodLink RX0 57 yX0_state, Cond.instanceMethod yX0_state, Cond.selects RX0 yX0_state yX0_state, Cond.initialized RX0, Cond.code yX0_state cX0_state 4 (some .int), Cond.fieldLink RX0 21 "Cascadecourt$Juggler" "props" "I", Cond.methodLink RX0 50 yX0_beatsTillLanding, Cond.instanceMethod yX0_beatsTillLanding, Cond.selects RX0 yX0_beatsTillLanding yX0_beatsTillLanding, Cond.code yX0_beatsTillLanding cX0_beatsTillLanding 3 (some .int), Cond.fieldLink RX0 9 "Cascadecourt$Juggler" "landsAt" "[I", Cond.static yX3_cell, Cond.initialized RX3, Cond.code yX3_cell cX3_cell 2 (some .int), Cond.static yX3_stateBehind, Cond.code yX3_stateBehind cX3_stateBehind 4 (some .int), Cond.methodLink RX0 65 yX0_slip, Cond.instanceMethod yX0_slip, Cond.selects RX0 yX0_slip yX0_slip, Cond.code yX0_slip cX0_slip 4 none, Cond.fieldLink RX0 36 "Cascadecourt$Juggler" "slipsEver" "I", Cond.methodLink RX0 69 yX0_propLandingIn]
def wsX0_throwNow_r2 : List Cond := [Cond.instanceMethod yX0_propLandingIn, Cond.selects RX0 yX0_propLandingIn yX0_propLandingIn, Cond.code yX0_propLandingIn cX0_propLandingIn 3 (some .int), Cond.methodLink RX0 79 yX0_dropProp, Cond.instanceMethod yX0_dropProp, Cond.selects RX0 yX0_dropProp yX0_dropProp, Cond.code yX0_dropProp cX0_dropProp 2 none, Cond.fieldLink RX0 18 "Cascadecourt$Juggler" "drops" "[I", Cond.static yX3_setCell, Cond.code yX3_setCell cX3_setCell 3 none, Cond.methodLink RX0 72 yX0_sendUp, Cond.instanceMethod yX0_sendUp, Cond.selects RX0 yX0_sendUp yX0_sendUp, Cond.code yX0_sendUp cX0_sendUp 3 none, Cond.fieldLink RX0 15 "Cascadecourt$Juggler" "flights" "[I", Cond.methodLink RX0 76 yX0_tire, Cond.instanceMethod yX0_tire, Cond.selects RX0 yX0_tire yX0_tire, Cond.code yX0_tire cX0_tire 5 none, Cond.fieldLink RX0 28 "Cascadecourt$Juggler" "tiredness" "D", Cond.constantDouble RX0 82 (4598175219545276416), Cond.constantDouble RX0 84 (4593671619917905920)]
def wsX0_throwNow : List Cond := .code yX0_throwNow cX0_throwNow 3 (some .int) :: ((wsX0_throwNow_r1 ++ wsX0_throwNow_r2) ++ wsX00)
def wsX0_pickUp : List Cond := .code yX0_pickUp cX0_pickUp 2 (some .int) :: ([.fieldLink RX0 21 "Cascadecourt$Juggler" "props" "I", .fieldLink RX0 9 "Cascadecourt$Juggler" "landsAt" "[I", .fieldLink RX0 25 "Cascadecourt$Juggler" "beat" "I", .methodLink RX0 69 yX0_propLandingIn, .instanceMethod yX0_propLandingIn, .selects RX0 yX0_propLandingIn yX0_propLandingIn, .initialized RX0, .code yX0_propLandingIn cX0_propLandingIn 3 (some .int), .methodLink RX0 50 yX0_beatsTillLanding, .instanceMethod yX0_beatsTillLanding, .selects RX0 yX0_beatsTillLanding yX0_beatsTillLanding, .code yX0_beatsTillLanding cX0_beatsTillLanding 3 (some .int), .static yX3_cell, .initialized RX3, .code yX3_cell cX3_cell 2 (some .int), .methodLink RX0 46 yX0_isDropped, .instanceMethod yX0_isDropped, .selects RX0 yX0_isDropped yX0_isDropped, .code yX0_isDropped cX0_isDropped 2 (some .boolean), .static yX3_setCell, .code yX3_setCell cX3_setCell 3 none] ++ wsX00)
def wsJ9_floorMod_7cf53 : List Cond := .code yJ9_floorMod_7cf53 cJ9_floorMod_7cf53 3 (some .int) :: ([])
def wsX1_siteOf : List Cond := .code yX1_siteOf cX1_siteOf 2 (some .int) :: ([.fieldLink RX1 27 "Cascadecourt$Row" "length" "I", .methodLink RX1 42 yJ9_floorMod_7cf53, .static yJ9_floorMod_7cf53, .initialized RJ9, .code yJ9_floorMod_7cf53 cJ9_floorMod_7cf53 3 (some .int)] ++ wsX10)
def wsJ6_bitCount_0f7a4 : List Cond := .code yJ6_bitCount_0f7a4 cJ6_bitCount_0f7a4 1 (some .int) :: ([.constant RJ6 265 (1431655765), .constant RJ6 266 (858993459), .constant RJ6 267 (252645135)])
def wsX1_turnFrom : List Cond := .code yX1_turnFrom cX1_turnFrom 5 (some .int) :: ([.fieldLink RX1 27 "Cascadecourt$Row" "length" "I", .fieldLink RX1 9 "Cascadecourt$Row" "heights" "[I", .fieldLink RX1 18 "Cascadecourt$Row" "landings" "[I", .static yX3_cell, .initialized RX3, .code yX3_cell cX3_cell 2 (some .int)] ++ wsX10)
def wsX1_throwAt : List Cond := .code yX1_throwAt cX1_throwAt 2 (some .int) :: ([.fieldLink RX1 9 "Cascadecourt$Row" "heights" "[I", .methodLink RX1 48 yX1_siteOf, .instanceMethod yX1_siteOf, .selects RX1 yX1_siteOf yX1_siteOf, .initialized RX1, .code yX1_siteOf cX1_siteOf 2 (some .int), .fieldLink RX1 27 "Cascadecourt$Row" "length" "I", .methodLink RX1 42 yJ9_floorMod_7cf53, .static yJ9_floorMod_7cf53, .initialized RJ9, .code yJ9_floorMod_7cf53 cJ9_floorMod_7cf53 3 (some .int), .static yX3_cell, .initialized RX3, .code yX3_cell cX3_cell 2 (some .int)] ++ wsX10)
def wsX1_stateBefore : List Cond := .code yX1_stateBefore cX1_stateBefore 5 (some .int) :: ([.methodLink RX1 56 yX1_throwAt, .instanceMethod yX1_throwAt, .selects RX1 yX1_throwAt yX1_throwAt, .initialized RX1, .code yX1_throwAt cX1_throwAt 2 (some .int), .fieldLink RX1 9 "Cascadecourt$Row" "heights" "[I", .methodLink RX1 48 yX1_siteOf, .instanceMethod yX1_siteOf, .selects RX1 yX1_siteOf yX1_siteOf, .code yX1_siteOf cX1_siteOf 2 (some .int), .fieldLink RX1 27 "Cascadecourt$Row" "length" "I", .methodLink RX1 42 yJ9_floorMod_7cf53, .static yJ9_floorMod_7cf53, .initialized RJ9, .code yJ9_floorMod_7cf53 cJ9_floorMod_7cf53 3 (some .int), .static yX3_cell, .initialized RX3, .code yX3_cell cX3_cell 2 (some .int)] ++ wsX10)
def wsX1_settle_r1 : List Cond := [Cond.fieldLink RX1 27 "Cascadecourt$Row" "length" "I", Cond.fieldLink RX1 9 "Cascadecourt$Row" "heights" "[I", Cond.fieldLink RX1 18 "Cascadecourt$Row" "landings" "[I", Cond.fieldLink RX1 38 "Cascadecourt$Row" "sound" "Z", Cond.fieldLink RX1 21 "Cascadecourt$Row" "turns" "[I", Cond.fieldLink RX1 24 "Cascadecourt$Row" "states" "[I", Cond.static yX3_cell, Cond.initialized RX3, Cond.code yX3_cell cX3_cell 2 (some .int), Cond.methodLink RX1 48 yX1_siteOf, Cond.instanceMethod yX1_siteOf, Cond.selects RX1 yX1_siteOf yX1_siteOf, Cond.initialized RX1, Cond.code yX1_siteOf cX1_siteOf 2 (some .int), Cond.methodLink RX1 42 yJ9_floorMod_7cf53, Cond.static yJ9_floorMod_7cf53, Cond.initialized RJ9, Cond.code yJ9_floorMod_7cf53 cJ9_floorMod_7cf53 3 (some .int), Cond.static yX3_setCell, Cond.code yX3_setCell cX3_setCell 3 none, Cond.methodLink RX1 63 yJ6_bitCount_0f7a4, Cond.static yJ6_bitCount_0f7a4, Cond.initialized RJ6, Cond.code yJ6_bitCount_0f7a4 cJ6_bitCount_0f7a4 1 (some .int)]
def wsX1_settle_r2 : List Cond := [Cond.constant RJ6 265 (1431655765), Cond.constant RJ6 266 (858993459), Cond.constant RJ6 267 (252645135), Cond.methodLink RX1 68 yX1_turnFrom, Cond.instanceMethod yX1_turnFrom, Cond.selects RX1 yX1_turnFrom yX1_turnFrom, Cond.code yX1_turnFrom cX1_turnFrom 5 (some .int), Cond.methodLink RX1 71 yX1_stateBefore, Cond.instanceMethod yX1_stateBefore, Cond.selects RX1 yX1_stateBefore yX1_stateBefore, Cond.code yX1_stateBefore cX1_stateBefore 5 (some .int), Cond.methodLink RX1 56 yX1_throwAt, Cond.instanceMethod yX1_throwAt, Cond.selects RX1 yX1_throwAt yX1_throwAt, Cond.code yX1_throwAt cX1_throwAt 2 (some .int)]
def wsX1_settle : List Cond := .code yX1_settle cX1_settle 4 none :: ((wsX1_settle_r1 ++ wsX1_settle_r2) ++ wsX10)
def wsX1_init_r1 : List Cond := [Cond.methodLink RX1 3 objectInit, Cond.instanceMethod objectInit, Cond.code objectInit ⟨#[0xb1]⟩ 1 none, Cond.arrayClass .int, Cond.fieldLink RX1 9 "Cascadecourt$Row" "heights" "[I", Cond.fieldLink RX1 15 "Cascadecourt$Row" "work" "[I", Cond.fieldLink RX1 18 "Cascadecourt$Row" "landings" "[I", Cond.fieldLink RX1 21 "Cascadecourt$Row" "turns" "[I", Cond.fieldLink RX1 24 "Cascadecourt$Row" "states" "[I", Cond.fieldLink RX1 27 "Cascadecourt$Row" "length" "I", Cond.static yX3_setCell, Cond.initialized RX3, Cond.code yX3_setCell cX3_setCell 3 none, Cond.methodLink RX1 35 yX1_settle, Cond.instanceMethod yX1_settle, Cond.selects RX1 yX1_settle yX1_settle, Cond.initialized RX1, Cond.code yX1_settle cX1_settle 4 none, Cond.fieldLink RX1 38 "Cascadecourt$Row" "sound" "Z", Cond.static yX3_cell, Cond.code yX3_cell cX3_cell 2 (some .int), Cond.methodLink RX1 48 yX1_siteOf, Cond.instanceMethod yX1_siteOf, Cond.selects RX1 yX1_siteOf yX1_siteOf]
def wsX1_init_r2 : List Cond := [Cond.code yX1_siteOf cX1_siteOf 2 (some .int), Cond.methodLink RX1 42 yJ9_floorMod_7cf53, Cond.static yJ9_floorMod_7cf53, Cond.initialized RJ9, Cond.code yJ9_floorMod_7cf53 cJ9_floorMod_7cf53 3 (some .int), Cond.methodLink RX1 63 yJ6_bitCount_0f7a4, Cond.static yJ6_bitCount_0f7a4, Cond.initialized RJ6, Cond.code yJ6_bitCount_0f7a4 cJ6_bitCount_0f7a4 1 (some .int), Cond.constant RJ6 265 (1431655765), Cond.constant RJ6 266 (858993459), Cond.constant RJ6 267 (252645135), Cond.methodLink RX1 68 yX1_turnFrom, Cond.instanceMethod yX1_turnFrom, Cond.selects RX1 yX1_turnFrom yX1_turnFrom, Cond.code yX1_turnFrom cX1_turnFrom 5 (some .int), Cond.methodLink RX1 71 yX1_stateBefore, Cond.instanceMethod yX1_stateBefore, Cond.selects RX1 yX1_stateBefore yX1_stateBefore, Cond.code yX1_stateBefore cX1_stateBefore 5 (some .int), Cond.methodLink RX1 56 yX1_throwAt, Cond.instanceMethod yX1_throwAt, Cond.selects RX1 yX1_throwAt yX1_throwAt, Cond.code yX1_throwAt cX1_throwAt 2 (some .int)]
def wsX1_init : List Cond := .code yX1_init cX1_init 5 none :: ((wsX1_init_r1 ++ wsX1_init_r2) ++ wsX10)
def wsX1_length : List Cond := .code yX1_length cX1_length 1 (some .int) :: ([.fieldLink RX1 27 "Cascadecourt$Row" "length" "I"] ++ wsX10)
def wsX1_hasSite : List Cond := .code yX1_hasSite cX1_hasSite 2 (some .boolean) :: ([.fieldLink RX1 27 "Cascadecourt$Row" "length" "I"] ++ wsX10)
def wsX1_isSound : List Cond := .code yX1_isSound cX1_isSound 1 (some .boolean) :: ([.fieldLink RX1 38 "Cascadecourt$Row" "sound" "Z"] ++ wsX10)
def wsX1_stateAt : List Cond := .code yX1_stateAt cX1_stateAt 2 (some .int) :: ([.fieldLink RX1 24 "Cascadecourt$Row" "states" "[I", .static yX3_cell, .initialized RX3, .code yX3_cell cX3_cell 2 (some .int)] ++ wsX10)
def wsX1_sumOfThrows : List Cond := .code yX1_sumOfThrows cX1_sumOfThrows 3 (some .int) :: ([.fieldLink RX1 27 "Cascadecourt$Row" "length" "I", .fieldLink RX1 9 "Cascadecourt$Row" "heights" "[I", .static yX3_cell, .initialized RX3, .code yX3_cell cX3_cell 2 (some .int)] ++ wsX10)
def wsX1_props : List Cond := .code yX1_props cX1_props 1 (some .int) :: ([.fieldLink RX1 38 "Cascadecourt$Row" "sound" "Z", .fieldLink RX1 27 "Cascadecourt$Row" "length" "I", .methodLink RX1 102 yX1_sumOfThrows, .instanceMethod yX1_sumOfThrows, .selects RX1 yX1_sumOfThrows yX1_sumOfThrows, .initialized RX1, .code yX1_sumOfThrows cX1_sumOfThrows 3 (some .int), .fieldLink RX1 9 "Cascadecourt$Row" "heights" "[I", .static yX3_cell, .initialized RX3, .code yX3_cell cX3_cell 2 (some .int)] ++ wsX10)
def wsX1_highestThrow : List Cond := .code yX1_highestThrow cX1_highestThrow 3 (some .int) :: ([.fieldLink RX1 27 "Cascadecourt$Row" "length" "I", .fieldLink RX1 9 "Cascadecourt$Row" "heights" "[I", .methodLink RX1 105 Lib.Math.max.name, .static Lib.Math.max.name, .initialized "java/lang/Math", .code Lib.Math.max.name Lib.Math.max.code 2 (some .int), .static yX3_cell, .initialized RX3, .code yX3_cell cX3_cell 2 (some .int)] ++ wsX10)
def wsX1_crossingThrows : List Cond := .code yX1_crossingThrows cX1_crossingThrows 3 (some .int) :: ([.fieldLink RX1 27 "Cascadecourt$Row" "length" "I", .fieldLink RX1 9 "Cascadecourt$Row" "heights" "[I", .static yX3_cell, .initialized RX3, .code yX3_cell cX3_cell 2 (some .int)] ++ wsX10)
def wsX1_isFirstOfOrbit : List Cond := .code yX1_isFirstOfOrbit cX1_isFirstOfOrbit 4 (some .boolean) :: ([.fieldLink RX1 27 "Cascadecourt$Row" "length" "I", .fieldLink RX1 18 "Cascadecourt$Row" "landings" "[I", .static yX3_cell, .initialized RX3, .code yX3_cell cX3_cell 2 (some .int)] ++ wsX10)
def wsX1_orbits : List Cond := .code yX1_orbits cX1_orbits 3 (some .int) :: ([.fieldLink RX1 27 "Cascadecourt$Row" "length" "I", .fieldLink RX1 9 "Cascadecourt$Row" "heights" "[I", .static yX3_cell, .initialized RX3, .code yX3_cell cX3_cell 2 (some .int), .methodLink RX1 115 yX1_isFirstOfOrbit, .instanceMethod yX1_isFirstOfOrbit, .selects RX1 yX1_isFirstOfOrbit yX1_isFirstOfOrbit, .initialized RX1, .code yX1_isFirstOfOrbit cX1_isFirstOfOrbit 4 (some .boolean), .fieldLink RX1 18 "Cascadecourt$Row" "landings" "[I"] ++ wsX10)
def wsX1_oneIfPrime : List Cond := .code yX1_oneIfPrime cX1_oneIfPrime 3 (some .int) :: ([.fieldLink RX1 27 "Cascadecourt$Row" "length" "I", .methodLink RX1 99 yX1_stateAt, .instanceMethod yX1_stateAt, .selects RX1 yX1_stateAt yX1_stateAt, .initialized RX1, .code yX1_stateAt cX1_stateAt 2 (some .int), .fieldLink RX1 24 "Cascadecourt$Row" "states" "[I", .static yX3_cell, .initialized RX3, .code yX3_cell cX3_cell 2 (some .int)] ++ wsX10)
def wsX1_oneIfGround : List Cond := .code yX1_oneIfGround cX1_oneIfGround 3 (some .int) :: ([.fieldLink RX1 27 "Cascadecourt$Row" "length" "I", .methodLink RX1 74 yX1_props, .instanceMethod yX1_props, .selects RX1 yX1_props yX1_props, .initialized RX1, .code yX1_props cX1_props 1 (some .int), .fieldLink RX1 38 "Cascadecourt$Row" "sound" "Z", .methodLink RX1 102 yX1_sumOfThrows, .instanceMethod yX1_sumOfThrows, .selects RX1 yX1_sumOfThrows yX1_sumOfThrows, .code yX1_sumOfThrows cX1_sumOfThrows 3 (some .int), .fieldLink RX1 9 "Cascadecourt$Row" "heights" "[I", .static yX3_cell, .initialized RX3, .code yX3_cell cX3_cell 2 (some .int), .methodLink RX1 99 yX1_stateAt, .instanceMethod yX1_stateAt, .selects RX1 yX1_stateAt yX1_stateAt, .code yX1_stateAt cX1_stateAt 2 (some .int), .fieldLink RX1 24 "Cascadecourt$Row" "states" "[I"] ++ wsX10)
def wsX1_isShiftedTo : List Cond := .code yX1_isShiftedTo cX1_isShiftedTo 4 (some .boolean) :: ([.fieldLink RX1 27 "Cascadecourt$Row" "length" "I", .fieldLink RX1 9 "Cascadecourt$Row" "heights" "[I", .methodLink RX1 56 yX1_throwAt, .instanceMethod yX1_throwAt, .selects RX1 yX1_throwAt yX1_throwAt, .initialized RX1, .code yX1_throwAt cX1_throwAt 2 (some .int), .methodLink RX1 48 yX1_siteOf, .instanceMethod yX1_siteOf, .selects RX1 yX1_siteOf yX1_siteOf, .code yX1_siteOf cX1_siteOf 2 (some .int), .methodLink RX1 42 yJ9_floorMod_7cf53, .static yJ9_floorMod_7cf53, .initialized RJ9, .code yJ9_floorMod_7cf53 cJ9_floorMod_7cf53 3 (some .int), .static yX3_cell, .initialized RX3, .code yX3_cell cX3_cell 2 (some .int)] ++ wsX10)
def wsX1_period : List Cond := .code yX1_period cX1_period 2 (some .int) :: ([.fieldLink RX1 27 "Cascadecourt$Row" "length" "I", .methodLink RX1 111 yX1_isShiftedTo, .instanceMethod yX1_isShiftedTo, .selects RX1 yX1_isShiftedTo yX1_isShiftedTo, .initialized RX1, .code yX1_isShiftedTo cX1_isShiftedTo 4 (some .boolean), .fieldLink RX1 9 "Cascadecourt$Row" "heights" "[I", .methodLink RX1 56 yX1_throwAt, .instanceMethod yX1_throwAt, .selects RX1 yX1_throwAt yX1_throwAt, .code yX1_throwAt cX1_throwAt 2 (some .int), .methodLink RX1 48 yX1_siteOf, .instanceMethod yX1_siteOf, .selects RX1 yX1_siteOf yX1_siteOf, .code yX1_siteOf cX1_siteOf 2 (some .int), .methodLink RX1 42 yJ9_floorMod_7cf53, .static yJ9_floorMod_7cf53, .initialized RJ9, .code yJ9_floorMod_7cf53 cJ9_floorMod_7cf53 3 (some .int), .static yX3_cell, .initialized RX3, .code yX3_cell cX3_cell 2 (some .int)] ++ wsX10)
def wsX1_greatestTurn : List Cond := .code yX1_greatestTurn cX1_greatestTurn 3 (some .int) :: ([.fieldLink RX1 27 "Cascadecourt$Row" "length" "I", .fieldLink RX1 21 "Cascadecourt$Row" "turns" "[I", .methodLink RX1 105 Lib.Math.max.name, .static Lib.Math.max.name, .initialized "java/lang/Math", .code Lib.Math.max.name Lib.Math.max.code 2 (some .int), .static yX3_cell, .initialized RX3, .code yX3_cell cX3_cell 2 (some .int)] ++ wsX10)
def wsX1_answer_r1 : List Cond := [Cond.fieldLink RX1 27 "Cascadecourt$Row" "length" "I", Cond.fieldLink RX1 38 "Cascadecourt$Row" "sound" "Z", Cond.methodLink RX1 74 yX1_props, Cond.instanceMethod yX1_props, Cond.selects RX1 yX1_props yX1_props, Cond.initialized RX1, Cond.code yX1_props cX1_props 1 (some .int), Cond.methodLink RX1 102 yX1_sumOfThrows, Cond.instanceMethod yX1_sumOfThrows, Cond.selects RX1 yX1_sumOfThrows yX1_sumOfThrows, Cond.code yX1_sumOfThrows cX1_sumOfThrows 3 (some .int), Cond.fieldLink RX1 9 "Cascadecourt$Row" "heights" "[I", Cond.static yX3_cell, Cond.initialized RX3, Cond.code yX3_cell cX3_cell 2 (some .int), Cond.methodLink RX1 78 yX1_highestThrow, Cond.instanceMethod yX1_highestThrow, Cond.selects RX1 yX1_highestThrow yX1_highestThrow, Cond.code yX1_highestThrow cX1_highestThrow 3 (some .int), Cond.methodLink RX1 105 Lib.Math.max.name, Cond.static Lib.Math.max.name, Cond.initialized "java/lang/Math", Cond.code Lib.Math.max.name Lib.Math.max.code 2 (some .int), Cond.methodLink RX1 81 yX1_crossingThrows]
def wsX1_answer_r2 : List Cond := [Cond.instanceMethod yX1_crossingThrows, Cond.selects RX1 yX1_crossingThrows yX1_crossingThrows, Cond.code yX1_crossingThrows cX1_crossingThrows 3 (some .int), Cond.methodLink RX1 84 yX1_orbits, Cond.instanceMethod yX1_orbits, Cond.selects RX1 yX1_orbits yX1_orbits, Cond.code yX1_orbits cX1_orbits 3 (some .int), Cond.methodLink RX1 115 yX1_isFirstOfOrbit, Cond.instanceMethod yX1_isFirstOfOrbit, Cond.selects RX1 yX1_isFirstOfOrbit yX1_isFirstOfOrbit, Cond.code yX1_isFirstOfOrbit cX1_isFirstOfOrbit 4 (some .boolean), Cond.fieldLink RX1 18 "Cascadecourt$Row" "landings" "[I", Cond.methodLink RX1 87 yX1_oneIfPrime, Cond.instanceMethod yX1_oneIfPrime, Cond.selects RX1 yX1_oneIfPrime yX1_oneIfPrime, Cond.code yX1_oneIfPrime cX1_oneIfPrime 3 (some .int), Cond.methodLink RX1 99 yX1_stateAt, Cond.instanceMethod yX1_stateAt, Cond.selects RX1 yX1_stateAt yX1_stateAt, Cond.code yX1_stateAt cX1_stateAt 2 (some .int), Cond.fieldLink RX1 24 "Cascadecourt$Row" "states" "[I", Cond.methodLink RX1 90 yX1_oneIfGround, Cond.instanceMethod yX1_oneIfGround, Cond.selects RX1 yX1_oneIfGround yX1_oneIfGround]
def wsX1_answer_r3 : List Cond := [Cond.code yX1_oneIfGround cX1_oneIfGround 3 (some .int), Cond.methodLink RX1 93 yX1_period, Cond.instanceMethod yX1_period, Cond.selects RX1 yX1_period yX1_period, Cond.code yX1_period cX1_period 2 (some .int), Cond.methodLink RX1 111 yX1_isShiftedTo, Cond.instanceMethod yX1_isShiftedTo, Cond.selects RX1 yX1_isShiftedTo yX1_isShiftedTo, Cond.code yX1_isShiftedTo cX1_isShiftedTo 4 (some .boolean), Cond.methodLink RX1 56 yX1_throwAt, Cond.instanceMethod yX1_throwAt, Cond.selects RX1 yX1_throwAt yX1_throwAt, Cond.code yX1_throwAt cX1_throwAt 2 (some .int), Cond.methodLink RX1 48 yX1_siteOf, Cond.instanceMethod yX1_siteOf, Cond.selects RX1 yX1_siteOf yX1_siteOf, Cond.code yX1_siteOf cX1_siteOf 2 (some .int), Cond.methodLink RX1 42 yJ9_floorMod_7cf53, Cond.static yJ9_floorMod_7cf53, Cond.initialized RJ9, Cond.code yJ9_floorMod_7cf53 cJ9_floorMod_7cf53 3 (some .int), Cond.methodLink RX1 96 yX1_greatestTurn, Cond.instanceMethod yX1_greatestTurn, Cond.selects RX1 yX1_greatestTurn yX1_greatestTurn]
def wsX1_answer_r4 : List Cond := [Cond.code yX1_greatestTurn cX1_greatestTurn 3 (some .int), Cond.fieldLink RX1 21 "Cascadecourt$Row" "turns" "[I"]
def wsX1_answer : List Cond := .code yX1_answer cX1_answer 2 (some .int) :: ((wsX1_answer_r1 ++ (wsX1_answer_r2 ++ (wsX1_answer_r3 ++ wsX1_answer_r4))) ++ wsX10)
def wsX1_answerAt : List Cond := .code yX1_answerAt cX1_answerAt 3 (some .int) :: ([.fieldLink RX1 9 "Cascadecourt$Row" "heights" "[I", .fieldLink RX1 18 "Cascadecourt$Row" "landings" "[I", .fieldLink RX1 38 "Cascadecourt$Row" "sound" "Z", .fieldLink RX1 21 "Cascadecourt$Row" "turns" "[I", .fieldLink RX1 27 "Cascadecourt$Row" "length" "I", .static yX3_cell, .initialized RX3, .code yX3_cell cX3_cell 2 (some .int), .methodLink RX1 99 yX1_stateAt, .instanceMethod yX1_stateAt, .selects RX1 yX1_stateAt yX1_stateAt, .initialized RX1, .code yX1_stateAt cX1_stateAt 2 (some .int), .fieldLink RX1 24 "Cascadecourt$Row" "states" "[I"] ++ wsX10)
def wsX2_init : List Cond := .code yX2_init cX2_init 1 none :: ([.methodLink RX2 3 objectInit, .instanceMethod objectInit, .code objectInit ⟨#[0xb1]⟩ 1 none, .arrayClass .int, .fieldLink RX2 9 "Cascadecourt$Ways" "steps" "[I", .fieldLink RX2 15 "Cascadecourt$Ways" "firstThrows" "[I", .fieldLink RX2 18 "Cascadecourt$Ways" "waiting" "[I", .fieldLink RX2 21 "Cascadecourt$Ways" "start" "I"] ++ wsX20)
def wsX2_stepsTo : List Cond := .code yX2_stepsTo cX2_stepsTo 2 (some .int) :: ([.fieldLink RX2 9 "Cascadecourt$Ways" "steps" "[I", .static yX3_cell, .initialized RX3, .code yX3_cell cX3_cell 2 (some .int)] ++ wsX20)
def wsX2_firstThrowTo : List Cond := .code yX2_firstThrowTo cX2_firstThrowTo 2 (some .int) :: ([.fieldLink RX2 15 "Cascadecourt$Ways" "firstThrows" "[I", .static yX3_cell, .initialized RX3, .code yX3_cell cX3_cell 2 (some .int)] ++ wsX20)
def wsJ7_fill_53178 : List Cond := .code yJ7_fill_53178 cJ7_fill_53178 4 none :: ([])
def wsX2_lookOnFrom : List Cond := .code yX2_lookOnFrom cX2_lookOnFrom 6 (some .int) :: ([.fieldLink RX2 9 "Cascadecourt$Ways" "steps" "[I", .fieldLink RX2 15 "Cascadecourt$Ways" "firstThrows" "[I", .fieldLink RX2 21 "Cascadecourt$Ways" "start" "I", .fieldLink RX2 18 "Cascadecourt$Ways" "waiting" "[I", .static yX3_stateBehind, .initialized RX3, .code yX3_stateBehind cX3_stateBehind 4 (some .int), .static yX3_cell, .code yX3_cell cX3_cell 2 (some .int), .static yX3_setCell, .code yX3_setCell cX3_setCell 3 none] ++ wsX20)
def wsX2_lookFrom : List Cond := .code yX2_lookFrom cX2_lookFrom 4 none :: ([.fieldLink RX2 21 "Cascadecourt$Ways" "start" "I", .fieldLink RX2 9 "Cascadecourt$Ways" "steps" "[I", .fieldLink RX2 15 "Cascadecourt$Ways" "firstThrows" "[I", .fieldLink RX2 18 "Cascadecourt$Ways" "waiting" "[I", .methodLink RX2 29 yJ7_fill_53178, .static yJ7_fill_53178, .initialized RJ7, .code yJ7_fill_53178 cJ7_fill_53178 4 none, .static yX3_setCell, .initialized RX3, .code yX3_setCell cX3_setCell 3 none, .static yX3_cell, .code yX3_cell cX3_cell 2 (some .int), .methodLink RX2 39 yX2_lookOnFrom, .instanceMethod yX2_lookOnFrom, .selects RX2 yX2_lookOnFrom yX2_lookOnFrom, .initialized RX2, .code yX2_lookOnFrom cX2_lookOnFrom 6 (some .int), .static yX3_stateBehind, .code yX3_stateBehind cX3_stateBehind 4 (some .int)] ++ wsX20)
def wsX3_init_r1 : List Cond := [Cond.methodLink RX3 1 objectInit, Cond.instanceMethod objectInit, Cond.code objectInit ⟨#[0xb1]⟩ 1 none, Cond.classLink RX3 9 RX1, Cond.fieldLink RX3 11 "Cascadecourt" "rows" "[LCascadecourt$Row;", Cond.classLink RX3 15 RX0, Cond.instantiable RX0 8, Cond.initialized RX0, Cond.fieldLink RX3 18 "Cascadecourt" "juggler" "LCascadecourt$Juggler;", Cond.classLink RX3 22 RX2, Cond.instantiable RX2 4, Cond.initialized RX2, Cond.fieldLink RX3 25 "Cascadecourt" "ways" "LCascadecourt$Ways;", Cond.fieldLink RX3 29 "Cascadecourt" "rowsTold" "I", Cond.instanceMethod yX0_init, Cond.code yX0_init cX0_init 1 none, Cond.methodLink RX0 3 objectInit, Cond.arrayClass .int, Cond.fieldLink RX0 9 "Cascadecourt$Juggler" "landsAt" "[I", Cond.fieldLink RX0 15 "Cascadecourt$Juggler" "flights" "[I", Cond.fieldLink RX0 18 "Cascadecourt$Juggler" "drops" "[I", Cond.instanceMethod yX2_init, Cond.code yX2_init cX2_init 1 none, Cond.methodLink RX2 3 objectInit]
def wsX3_init_r2 : List Cond := [Cond.fieldLink RX2 9 "Cascadecourt$Ways" "steps" "[I", Cond.fieldLink RX2 15 "Cascadecourt$Ways" "firstThrows" "[I", Cond.fieldLink RX2 18 "Cascadecourt$Ways" "waiting" "[I", Cond.fieldLink RX2 21 "Cascadecourt$Ways" "start" "I"]
def wsX3_init : List Cond := .code yX3_init cX3_init 1 none :: ((wsX3_init_r1 ++ wsX3_init_r2) ++ wsX30 ++ wsX00 ++ wsX20)
def wsX3_isWithin : List Cond := .code yX3_isWithin cX3_isWithin 3 (some .boolean) :: ([])
def wsX3_firstNumberLongerThan : List Cond := .code yX3_firstNumberLongerThan cX3_firstNumberLongerThan 3 (some .int) :: ([])
def wsX3_tell_r1 : List Cond := [Cond.classLink RX3 41 "java/lang/IllegalArgumentException", Cond.initialized "java/lang/IllegalArgumentException", Cond.classLink RX3 48 "java/lang/IllegalStateException", Cond.initialized "java/lang/IllegalStateException", Cond.fieldLink RX3 29 "Cascadecourt" "rowsTold" "I", Cond.fieldLink RX3 11 "Cascadecourt" "rows" "[LCascadecourt$Row;", Cond.classLink RX3 9 RX1, Cond.instantiable RX1 7, Cond.initialized RX1, Cond.methodLink RX3 33 yX3_isWithin, Cond.static yX3_isWithin, Cond.initialized RX3, Cond.code yX3_isWithin cX3_isWithin 3 (some .boolean), Cond.methodLink RX3 37 yX3_firstNumberLongerThan, Cond.static yX3_firstNumberLongerThan, Cond.code yX3_firstNumberLongerThan cX3_firstNumberLongerThan 3 (some .int), Cond.methodLink RX3 53 yX1_init, Cond.instanceMethod yX1_init, Cond.code yX1_init cX1_init 5 none, Cond.methodLink RX1 3 objectInit, Cond.instanceMethod objectInit, Cond.code objectInit ⟨#[0xb1]⟩ 1 none, Cond.arrayClass .int, Cond.fieldLink RX1 9 "Cascadecourt$Row" "heights" "[I"]
def wsX3_tell_r2 : List Cond := [Cond.fieldLink RX1 15 "Cascadecourt$Row" "work" "[I", Cond.fieldLink RX1 18 "Cascadecourt$Row" "landings" "[I", Cond.fieldLink RX1 21 "Cascadecourt$Row" "turns" "[I", Cond.fieldLink RX1 24 "Cascadecourt$Row" "states" "[I", Cond.fieldLink RX1 27 "Cascadecourt$Row" "length" "I", Cond.static yX3_setCell, Cond.code yX3_setCell cX3_setCell 3 none, Cond.methodLink RX1 35 yX1_settle, Cond.instanceMethod yX1_settle, Cond.selects RX1 yX1_settle yX1_settle, Cond.code yX1_settle cX1_settle 4 none, Cond.fieldLink RX1 38 "Cascadecourt$Row" "sound" "Z", Cond.static yX3_cell, Cond.code yX3_cell cX3_cell 2 (some .int), Cond.methodLink RX1 48 yX1_siteOf, Cond.instanceMethod yX1_siteOf, Cond.selects RX1 yX1_siteOf yX1_siteOf, Cond.code yX1_siteOf cX1_siteOf 2 (some .int), Cond.methodLink RX1 42 yJ9_floorMod_7cf53, Cond.static yJ9_floorMod_7cf53, Cond.initialized RJ9, Cond.code yJ9_floorMod_7cf53 cJ9_floorMod_7cf53 3 (some .int), Cond.methodLink RX1 63 yJ6_bitCount_0f7a4, Cond.static yJ6_bitCount_0f7a4]
def wsX3_tell_r3 : List Cond := [Cond.initialized RJ6, Cond.code yJ6_bitCount_0f7a4 cJ6_bitCount_0f7a4 1 (some .int), Cond.constant RJ6 265 (1431655765), Cond.constant RJ6 266 (858993459), Cond.constant RJ6 267 (252645135), Cond.methodLink RX1 68 yX1_turnFrom, Cond.instanceMethod yX1_turnFrom, Cond.selects RX1 yX1_turnFrom yX1_turnFrom, Cond.code yX1_turnFrom cX1_turnFrom 5 (some .int), Cond.methodLink RX1 71 yX1_stateBefore, Cond.instanceMethod yX1_stateBefore, Cond.selects RX1 yX1_stateBefore yX1_stateBefore, Cond.code yX1_stateBefore cX1_stateBefore 5 (some .int), Cond.methodLink RX1 56 yX1_throwAt, Cond.instanceMethod yX1_throwAt, Cond.selects RX1 yX1_throwAt yX1_throwAt, Cond.code yX1_throwAt cX1_throwAt 2 (some .int)]
def wsX3_tell : List Cond := .code yX3_tell cX3_tell 4 (some .int) :: ((wsX3_tell_r1 ++ (wsX3_tell_r2 ++ wsX3_tell_r3)) ++ wsX30 ++ wsX10 ++ (vx_atS RX3 45 "java/lang/IllegalArgumentException" ["java/lang/RuntimeException", "java/lang/Exception"]).filter goodWord ++ (vx_atS RX3 52 "java/lang/IllegalStateException" ["java/lang/RuntimeException", "java/lang/Exception"]).filter goodWord)
def wsX3_take_r1 : List Cond := [Cond.classLink RX3 41 "java/lang/IllegalArgumentException", Cond.initialized "java/lang/IllegalArgumentException", Cond.fieldLink RX3 18 "Cascadecourt" "juggler" "LCascadecourt$Juggler;", Cond.methodLink RX3 33 yX3_isWithin, Cond.static yX3_isWithin, Cond.initialized RX3, Cond.code yX3_isWithin cX3_isWithin 3 (some .boolean), Cond.methodLink RX3 135 yX0_startWith, Cond.instanceMethod yX0_startWith, Cond.selects RX0 yX0_startWith yX0_startWith, Cond.initialized RX0, Cond.code yX0_startWith cX0_startWith 3 none, Cond.fieldLink RX0 21 "Cascadecourt$Juggler" "props" "I", Cond.fieldLink RX0 25 "Cascadecourt$Juggler" "beat" "I", Cond.fieldLink RX0 28 "Cascadecourt$Juggler" "tiredness" "D", Cond.fieldLink RX0 9 "Cascadecourt$Juggler" "landsAt" "[I", Cond.fieldLink RX0 15 "Cascadecourt$Juggler" "flights" "[I", Cond.fieldLink RX0 18 "Cascadecourt$Juggler" "drops" "[I", Cond.static yX3_setCell, Cond.code yX3_setCell cX3_setCell 3 none, Cond.methodLink RX3 138 yX0_state, Cond.instanceMethod yX0_state, Cond.selects RX0 yX0_state yX0_state, Cond.code yX0_state cX0_state 4 (some .int)]
def wsX3_take_r2 : List Cond := [Cond.methodLink RX0 50 yX0_beatsTillLanding, Cond.instanceMethod yX0_beatsTillLanding, Cond.selects RX0 yX0_beatsTillLanding yX0_beatsTillLanding, Cond.code yX0_beatsTillLanding cX0_beatsTillLanding 3 (some .int), Cond.static yX3_cell, Cond.code yX3_cell cX3_cell 2 (some .int)]
def wsX3_take : List Cond := .code yX3_take cX3_take 2 (some .int) :: ((wsX3_take_r1 ++ wsX3_take_r2) ++ wsX30 ++ wsX00 ++ (vx_atS RX3 45 "java/lang/IllegalArgumentException" ["java/lang/RuntimeException", "java/lang/Exception"]).filter goodWord)
def wsX3_isThrow : List Cond := .code yX3_isThrow cX3_isThrow 1 (some .boolean) :: ([.methodLink RX3 33 yX3_isWithin, .static yX3_isWithin, .initialized RX3, .code yX3_isWithin cX3_isWithin 3 (some .boolean)])
def wsX3_toss_r1 : List Cond := [Cond.classLink RX3 41 "java/lang/IllegalArgumentException", Cond.initialized "java/lang/IllegalArgumentException", Cond.fieldLink RX3 18 "Cascadecourt" "juggler" "LCascadecourt$Juggler;", Cond.methodLink RX3 90 yX3_isThrow, Cond.static yX3_isThrow, Cond.initialized RX3, Cond.code yX3_isThrow cX3_isThrow 1 (some .boolean), Cond.methodLink RX3 33 yX3_isWithin, Cond.static yX3_isWithin, Cond.code yX3_isWithin cX3_isWithin 3 (some .boolean), Cond.methodLink RX3 143 yX0_throwNow, Cond.instanceMethod yX0_throwNow, Cond.selects RX0 yX0_throwNow yX0_throwNow, Cond.initialized RX0, Cond.code yX0_throwNow cX0_throwNow 3 (some .int), Cond.fieldLink RX0 25 "Cascadecourt$Juggler" "beat" "I", Cond.fieldLink RX0 39 "Cascadecourt$Juggler" "beatsEver" "I", Cond.methodLink RX0 57 yX0_state, Cond.instanceMethod yX0_state, Cond.selects RX0 yX0_state yX0_state, Cond.code yX0_state cX0_state 4 (some .int), Cond.fieldLink RX0 21 "Cascadecourt$Juggler" "props" "I", Cond.methodLink RX0 50 yX0_beatsTillLanding, Cond.instanceMethod yX0_beatsTillLanding]
def wsX3_toss_r2 : List Cond := [Cond.selects RX0 yX0_beatsTillLanding yX0_beatsTillLanding, Cond.code yX0_beatsTillLanding cX0_beatsTillLanding 3 (some .int), Cond.fieldLink RX0 9 "Cascadecourt$Juggler" "landsAt" "[I", Cond.static yX3_cell, Cond.code yX3_cell cX3_cell 2 (some .int), Cond.static yX3_stateBehind, Cond.code yX3_stateBehind cX3_stateBehind 4 (some .int), Cond.methodLink RX0 65 yX0_slip, Cond.instanceMethod yX0_slip, Cond.selects RX0 yX0_slip yX0_slip, Cond.code yX0_slip cX0_slip 4 none, Cond.fieldLink RX0 36 "Cascadecourt$Juggler" "slipsEver" "I", Cond.methodLink RX0 69 yX0_propLandingIn, Cond.instanceMethod yX0_propLandingIn, Cond.selects RX0 yX0_propLandingIn yX0_propLandingIn, Cond.code yX0_propLandingIn cX0_propLandingIn 3 (some .int), Cond.methodLink RX0 79 yX0_dropProp, Cond.instanceMethod yX0_dropProp, Cond.selects RX0 yX0_dropProp yX0_dropProp, Cond.code yX0_dropProp cX0_dropProp 2 none, Cond.fieldLink RX0 18 "Cascadecourt$Juggler" "drops" "[I", Cond.static yX3_setCell, Cond.code yX3_setCell cX3_setCell 3 none, Cond.methodLink RX0 72 yX0_sendUp]
def wsX3_toss_r3 : List Cond := [Cond.instanceMethod yX0_sendUp, Cond.selects RX0 yX0_sendUp yX0_sendUp, Cond.code yX0_sendUp cX0_sendUp 3 none, Cond.fieldLink RX0 15 "Cascadecourt$Juggler" "flights" "[I", Cond.methodLink RX0 76 yX0_tire, Cond.instanceMethod yX0_tire, Cond.selects RX0 yX0_tire yX0_tire, Cond.code yX0_tire cX0_tire 5 none, Cond.fieldLink RX0 28 "Cascadecourt$Juggler" "tiredness" "D", Cond.constantDouble RX0 82 (4598175219545276416), Cond.constantDouble RX0 84 (4593671619917905920)]
def wsX3_toss : List Cond := .code yX3_toss cX3_toss 2 (some .int) :: ((wsX3_toss_r1 ++ (wsX3_toss_r2 ++ wsX3_toss_r3)) ++ wsX30 ++ wsX00 ++ (vx_atS RX3 45 "java/lang/IllegalArgumentException" ["java/lang/RuntimeException", "java/lang/Exception"]).filter goodWord)
def wsX3_pick_r1 : List Cond := [Cond.fieldLink RX3 18 "Cascadecourt" "juggler" "LCascadecourt$Juggler;", Cond.methodLink RX3 151 yX0_pickUp, Cond.instanceMethod yX0_pickUp, Cond.selects RX0 yX0_pickUp yX0_pickUp, Cond.initialized RX0, Cond.code yX0_pickUp cX0_pickUp 2 (some .int), Cond.fieldLink RX0 21 "Cascadecourt$Juggler" "props" "I", Cond.fieldLink RX0 9 "Cascadecourt$Juggler" "landsAt" "[I", Cond.fieldLink RX0 25 "Cascadecourt$Juggler" "beat" "I", Cond.methodLink RX0 69 yX0_propLandingIn, Cond.instanceMethod yX0_propLandingIn, Cond.selects RX0 yX0_propLandingIn yX0_propLandingIn, Cond.code yX0_propLandingIn cX0_propLandingIn 3 (some .int), Cond.methodLink RX0 50 yX0_beatsTillLanding, Cond.instanceMethod yX0_beatsTillLanding, Cond.selects RX0 yX0_beatsTillLanding yX0_beatsTillLanding, Cond.code yX0_beatsTillLanding cX0_beatsTillLanding 3 (some .int), Cond.static yX3_cell, Cond.initialized RX3, Cond.code yX3_cell cX3_cell 2 (some .int), Cond.methodLink RX0 46 yX0_isDropped, Cond.instanceMethod yX0_isDropped, Cond.selects RX0 yX0_isDropped yX0_isDropped, Cond.code yX0_isDropped cX0_isDropped 2 (some .boolean)]
def wsX3_pick_r2 : List Cond := [Cond.static yX3_setCell, Cond.code yX3_setCell cX3_setCell 3 none]
def wsX3_pick : List Cond := .code yX3_pick cX3_pick 1 (some .int) :: ((wsX3_pick_r1 ++ wsX3_pick_r2) ++ wsX30 ++ wsX00)
def wsX3_rowNumbered : List Cond := .code yX3_rowNumbered cX3_rowNumbered 2 (some (.object "Cascadecourt$Row")) :: ([.fieldLink RX3 29 "Cascadecourt" "rowsTold" "I", .fieldLink RX3 11 "Cascadecourt" "rows" "[LCascadecourt$Row;"] ++ wsX30)
def wsX3_ofRow_r1 : List Cond := [Cond.classLink RX3 60 "java/lang/IndexOutOfBoundsException", Cond.initialized "java/lang/IndexOutOfBoundsException", Cond.classLink RX3 41 "java/lang/IllegalArgumentException", Cond.initialized "java/lang/IllegalArgumentException", Cond.methodLink RX3 56 yX3_rowNumbered, Cond.instanceMethod yX3_rowNumbered, Cond.selects RX3 yX3_rowNumbered yX3_rowNumbered, Cond.initialized RX3, Cond.code yX3_rowNumbered cX3_rowNumbered 2 (some (.object "Cascadecourt$Row")), Cond.fieldLink RX3 29 "Cascadecourt" "rowsTold" "I", Cond.fieldLink RX3 11 "Cascadecourt" "rows" "[LCascadecourt$Row;", Cond.methodLink RX3 33 yX3_isWithin, Cond.static yX3_isWithin, Cond.code yX3_isWithin cX3_isWithin 3 (some .boolean), Cond.methodLink RX3 156 yX1_answer, Cond.instanceMethod yX1_answer, Cond.selects RX1 yX1_answer yX1_answer, Cond.initialized RX1, Cond.code yX1_answer cX1_answer 2 (some .int), Cond.fieldLink RX1 27 "Cascadecourt$Row" "length" "I", Cond.fieldLink RX1 38 "Cascadecourt$Row" "sound" "Z", Cond.methodLink RX1 74 yX1_props, Cond.instanceMethod yX1_props, Cond.selects RX1 yX1_props yX1_props]
def wsX3_ofRow_r2 : List Cond := [Cond.code yX1_props cX1_props 1 (some .int), Cond.methodLink RX1 102 yX1_sumOfThrows, Cond.instanceMethod yX1_sumOfThrows, Cond.selects RX1 yX1_sumOfThrows yX1_sumOfThrows, Cond.code yX1_sumOfThrows cX1_sumOfThrows 3 (some .int), Cond.fieldLink RX1 9 "Cascadecourt$Row" "heights" "[I", Cond.static yX3_cell, Cond.code yX3_cell cX3_cell 2 (some .int), Cond.methodLink RX1 78 yX1_highestThrow, Cond.instanceMethod yX1_highestThrow, Cond.selects RX1 yX1_highestThrow yX1_highestThrow, Cond.code yX1_highestThrow cX1_highestThrow 3 (some .int), Cond.methodLink RX1 105 Lib.Math.max.name, Cond.static Lib.Math.max.name, Cond.initialized "java/lang/Math", Cond.code Lib.Math.max.name Lib.Math.max.code 2 (some .int), Cond.methodLink RX1 81 yX1_crossingThrows, Cond.instanceMethod yX1_crossingThrows, Cond.selects RX1 yX1_crossingThrows yX1_crossingThrows, Cond.code yX1_crossingThrows cX1_crossingThrows 3 (some .int), Cond.methodLink RX1 84 yX1_orbits, Cond.instanceMethod yX1_orbits, Cond.selects RX1 yX1_orbits yX1_orbits, Cond.code yX1_orbits cX1_orbits 3 (some .int)]
def wsX3_ofRow_r3 : List Cond := [Cond.methodLink RX1 115 yX1_isFirstOfOrbit, Cond.instanceMethod yX1_isFirstOfOrbit, Cond.selects RX1 yX1_isFirstOfOrbit yX1_isFirstOfOrbit, Cond.code yX1_isFirstOfOrbit cX1_isFirstOfOrbit 4 (some .boolean), Cond.fieldLink RX1 18 "Cascadecourt$Row" "landings" "[I", Cond.methodLink RX1 87 yX1_oneIfPrime, Cond.instanceMethod yX1_oneIfPrime, Cond.selects RX1 yX1_oneIfPrime yX1_oneIfPrime, Cond.code yX1_oneIfPrime cX1_oneIfPrime 3 (some .int), Cond.methodLink RX1 99 yX1_stateAt, Cond.instanceMethod yX1_stateAt, Cond.selects RX1 yX1_stateAt yX1_stateAt, Cond.code yX1_stateAt cX1_stateAt 2 (some .int), Cond.fieldLink RX1 24 "Cascadecourt$Row" "states" "[I", Cond.methodLink RX1 90 yX1_oneIfGround, Cond.instanceMethod yX1_oneIfGround, Cond.selects RX1 yX1_oneIfGround yX1_oneIfGround, Cond.code yX1_oneIfGround cX1_oneIfGround 3 (some .int), Cond.methodLink RX1 93 yX1_period, Cond.instanceMethod yX1_period, Cond.selects RX1 yX1_period yX1_period, Cond.code yX1_period cX1_period 2 (some .int), Cond.methodLink RX1 111 yX1_isShiftedTo, Cond.instanceMethod yX1_isShiftedTo]
def wsX3_ofRow_r4 : List Cond := [Cond.selects RX1 yX1_isShiftedTo yX1_isShiftedTo, Cond.code yX1_isShiftedTo cX1_isShiftedTo 4 (some .boolean), Cond.methodLink RX1 56 yX1_throwAt, Cond.instanceMethod yX1_throwAt, Cond.selects RX1 yX1_throwAt yX1_throwAt, Cond.code yX1_throwAt cX1_throwAt 2 (some .int), Cond.methodLink RX1 48 yX1_siteOf, Cond.instanceMethod yX1_siteOf, Cond.selects RX1 yX1_siteOf yX1_siteOf, Cond.code yX1_siteOf cX1_siteOf 2 (some .int), Cond.methodLink RX1 42 yJ9_floorMod_7cf53, Cond.static yJ9_floorMod_7cf53, Cond.initialized RJ9, Cond.code yJ9_floorMod_7cf53 cJ9_floorMod_7cf53 3 (some .int), Cond.methodLink RX1 96 yX1_greatestTurn, Cond.instanceMethod yX1_greatestTurn, Cond.selects RX1 yX1_greatestTurn yX1_greatestTurn, Cond.code yX1_greatestTurn cX1_greatestTurn 3 (some .int), Cond.fieldLink RX1 21 "Cascadecourt$Row" "turns" "[I"]
def wsX3_ofRow : List Cond := .code yX3_ofRow cX3_ofRow 4 (some .int) :: ((wsX3_ofRow_r1 ++ (wsX3_ofRow_r2 ++ (wsX3_ofRow_r3 ++ wsX3_ofRow_r4))) ++ wsX30 ++ wsX10 ++ (vx_atS RX3 64 "java/lang/IndexOutOfBoundsException" ["java/lang/RuntimeException", "java/lang/Exception"]).filter goodWord ++ (vx_atS RX3 45 "java/lang/IllegalArgumentException" ["java/lang/RuntimeException", "java/lang/Exception"]).filter goodWord)
def wsX3_ofSite_r1 : List Cond := [Cond.classLink RX3 60 "java/lang/IndexOutOfBoundsException", Cond.initialized "java/lang/IndexOutOfBoundsException", Cond.classLink RX3 41 "java/lang/IllegalArgumentException", Cond.initialized "java/lang/IllegalArgumentException", Cond.methodLink RX3 56 yX3_rowNumbered, Cond.instanceMethod yX3_rowNumbered, Cond.selects RX3 yX3_rowNumbered yX3_rowNumbered, Cond.initialized RX3, Cond.code yX3_rowNumbered cX3_rowNumbered 2 (some (.object "Cascadecourt$Row")), Cond.fieldLink RX3 29 "Cascadecourt" "rowsTold" "I", Cond.fieldLink RX3 11 "Cascadecourt" "rows" "[LCascadecourt$Row;", Cond.methodLink RX3 71 yX1_hasSite, Cond.instanceMethod yX1_hasSite, Cond.selects RX1 yX1_hasSite yX1_hasSite, Cond.initialized RX1, Cond.code yX1_hasSite cX1_hasSite 2 (some .boolean), Cond.fieldLink RX1 27 "Cascadecourt$Row" "length" "I", Cond.methodLink RX3 33 yX3_isWithin, Cond.static yX3_isWithin, Cond.code yX3_isWithin cX3_isWithin 3 (some .boolean), Cond.methodLink RX3 159 yX1_answerAt, Cond.instanceMethod yX1_answerAt, Cond.selects RX1 yX1_answerAt yX1_answerAt, Cond.code yX1_answerAt cX1_answerAt 3 (some .int)]
def wsX3_ofSite_r2 : List Cond := [Cond.fieldLink RX1 9 "Cascadecourt$Row" "heights" "[I", Cond.fieldLink RX1 18 "Cascadecourt$Row" "landings" "[I", Cond.fieldLink RX1 38 "Cascadecourt$Row" "sound" "Z", Cond.fieldLink RX1 21 "Cascadecourt$Row" "turns" "[I", Cond.static yX3_cell, Cond.code yX3_cell cX3_cell 2 (some .int), Cond.methodLink RX1 99 yX1_stateAt, Cond.instanceMethod yX1_stateAt, Cond.selects RX1 yX1_stateAt yX1_stateAt, Cond.code yX1_stateAt cX1_stateAt 2 (some .int), Cond.fieldLink RX1 24 "Cascadecourt$Row" "states" "[I"]
def wsX3_ofSite : List Cond := .code yX3_ofSite cX3_ofSite 5 (some .int) :: ((wsX3_ofSite_r1 ++ wsX3_ofSite_r2) ++ wsX30 ++ wsX10 ++ (vx_atS RX3 64 "java/lang/IndexOutOfBoundsException" ["java/lang/RuntimeException", "java/lang/Exception"]).filter goodWord ++ (vx_atS RX3 45 "java/lang/IllegalArgumentException" ["java/lang/RuntimeException", "java/lang/Exception"]).filter goodWord)
def wsX3_soundRows : List Cond := .code yX3_soundRows cX3_soundRows 4 (some .int) :: ([.fieldLink RX3 29 "Cascadecourt" "rowsTold" "I", .methodLink RX3 56 yX3_rowNumbered, .instanceMethod yX3_rowNumbered, .selects RX3 yX3_rowNumbered yX3_rowNumbered, .initialized RX3, .code yX3_rowNumbered cX3_rowNumbered 2 (some (.object "Cascadecourt$Row")), .fieldLink RX3 11 "Cascadecourt" "rows" "[LCascadecourt$Row;", .methodLink RX3 115 yX1_isSound, .instanceMethod yX1_isSound, .selects RX1 yX1_isSound yX1_isSound, .initialized RX1, .code yX1_isSound cX1_isSound 1 (some .boolean), .fieldLink RX1 38 "Cascadecourt$Row" "sound" "Z"] ++ wsX30 ++ wsX10)
def wsX3_howMany_r1 : List Cond := [Cond.fieldLink RX3 29 "Cascadecourt" "rowsTold" "I", Cond.fieldLink RX3 18 "Cascadecourt" "juggler" "LCascadecourt$Juggler;", Cond.methodLink RX3 213 yX0_props, Cond.instanceMethod yX0_props, Cond.selects RX0 yX0_props yX0_props, Cond.initialized RX0, Cond.code yX0_props cX0_props 1 (some .int), Cond.fieldLink RX0 21 "Cascadecourt$Juggler" "props" "I", Cond.methodLink RX3 138 yX0_state, Cond.instanceMethod yX0_state, Cond.selects RX0 yX0_state yX0_state, Cond.code yX0_state cX0_state 4 (some .int), Cond.methodLink RX0 50 yX0_beatsTillLanding, Cond.instanceMethod yX0_beatsTillLanding, Cond.selects RX0 yX0_beatsTillLanding yX0_beatsTillLanding, Cond.code yX0_beatsTillLanding cX0_beatsTillLanding 3 (some .int), Cond.fieldLink RX0 9 "Cascadecourt$Juggler" "landsAt" "[I", Cond.fieldLink RX0 25 "Cascadecourt$Juggler" "beat" "I", Cond.static yX3_cell, Cond.initialized RX3, Cond.code yX3_cell cX3_cell 2 (some .int), Cond.methodLink RX3 218 yX0_beat, Cond.instanceMethod yX0_beat, Cond.selects RX0 yX0_beat yX0_beat]
def wsX3_howMany_r2 : List Cond := [Cond.code yX0_beat cX0_beat 1 (some .int), Cond.methodLink RX3 148 yX0_slipsEver, Cond.instanceMethod yX0_slipsEver, Cond.selects RX0 yX0_slipsEver yX0_slipsEver, Cond.code yX0_slipsEver cX0_slipsEver 1 (some .int), Cond.fieldLink RX0 36 "Cascadecourt$Juggler" "slipsEver" "I", Cond.methodLink RX3 221 yX0_droppedProps, Cond.instanceMethod yX0_droppedProps, Cond.selects RX0 yX0_droppedProps yX0_droppedProps, Cond.code yX0_droppedProps cX0_droppedProps 3 (some .int), Cond.methodLink RX0 46 yX0_isDropped, Cond.instanceMethod yX0_isDropped, Cond.selects RX0 yX0_isDropped yX0_isDropped, Cond.code yX0_isDropped cX0_isDropped 2 (some .boolean), Cond.methodLink RX3 224 yX0_flightsOfAll, Cond.instanceMethod yX0_flightsOfAll, Cond.selects RX0 yX0_flightsOfAll yX0_flightsOfAll, Cond.code yX0_flightsOfAll cX0_flightsOfAll 3 (some .int), Cond.fieldLink RX0 15 "Cascadecourt$Juggler" "flights" "[I", Cond.methodLink RX3 227 yX3_soundRows, Cond.instanceMethod yX3_soundRows, Cond.selects RX3 yX3_soundRows yX3_soundRows, Cond.code yX3_soundRows cX3_soundRows 4 (some .int), Cond.methodLink RX3 56 yX3_rowNumbered]
def wsX3_howMany_r3 : List Cond := [Cond.instanceMethod yX3_rowNumbered, Cond.selects RX3 yX3_rowNumbered yX3_rowNumbered, Cond.code yX3_rowNumbered cX3_rowNumbered 2 (some (.object "Cascadecourt$Row")), Cond.fieldLink RX3 11 "Cascadecourt" "rows" "[LCascadecourt$Row;", Cond.methodLink RX3 115 yX1_isSound, Cond.instanceMethod yX1_isSound, Cond.selects RX1 yX1_isSound yX1_isSound, Cond.initialized RX1, Cond.code yX1_isSound cX1_isSound 1 (some .boolean), Cond.fieldLink RX1 38 "Cascadecourt$Row" "sound" "Z", Cond.methodLink RX3 230 yX0_propLandingIn, Cond.instanceMethod yX0_propLandingIn, Cond.selects RX0 yX0_propLandingIn yX0_propLandingIn, Cond.code yX0_propLandingIn cX0_propLandingIn 3 (some .int), Cond.methodLink RX3 233 yX0_beatsEver, Cond.instanceMethod yX0_beatsEver, Cond.selects RX0 yX0_beatsEver yX0_beatsEver, Cond.code yX0_beatsEver cX0_beatsEver 1 (some .int), Cond.fieldLink RX0 39 "Cascadecourt$Juggler" "beatsEver" "I"]
def wsX3_howMany : List Cond := .code yX3_howMany cX3_howMany 2 (some .int) :: ((wsX3_howMany_r1 ++ (wsX3_howMany_r2 ++ wsX3_howMany_r3)) ++ wsX30 ++ wsX00 ++ wsX10)
def wsX3_many_r1 : List Cond := [Cond.classLink RX3 41 "java/lang/IllegalArgumentException", Cond.initialized "java/lang/IllegalArgumentException", Cond.methodLink RX3 33 yX3_isWithin, Cond.static yX3_isWithin, Cond.initialized RX3, Cond.code yX3_isWithin cX3_isWithin 3 (some .boolean), Cond.methodLink RX3 174 yX3_howMany, Cond.instanceMethod yX3_howMany, Cond.selects RX3 yX3_howMany yX3_howMany, Cond.code yX3_howMany cX3_howMany 2 (some .int), Cond.fieldLink RX3 29 "Cascadecourt" "rowsTold" "I", Cond.fieldLink RX3 18 "Cascadecourt" "juggler" "LCascadecourt$Juggler;", Cond.methodLink RX3 213 yX0_props, Cond.instanceMethod yX0_props, Cond.selects RX0 yX0_props yX0_props, Cond.initialized RX0, Cond.code yX0_props cX0_props 1 (some .int), Cond.fieldLink RX0 21 "Cascadecourt$Juggler" "props" "I", Cond.methodLink RX3 138 yX0_state, Cond.instanceMethod yX0_state, Cond.selects RX0 yX0_state yX0_state, Cond.code yX0_state cX0_state 4 (some .int), Cond.methodLink RX0 50 yX0_beatsTillLanding, Cond.instanceMethod yX0_beatsTillLanding]
def wsX3_many_r2 : List Cond := [Cond.selects RX0 yX0_beatsTillLanding yX0_beatsTillLanding, Cond.code yX0_beatsTillLanding cX0_beatsTillLanding 3 (some .int), Cond.fieldLink RX0 9 "Cascadecourt$Juggler" "landsAt" "[I", Cond.fieldLink RX0 25 "Cascadecourt$Juggler" "beat" "I", Cond.static yX3_cell, Cond.code yX3_cell cX3_cell 2 (some .int), Cond.methodLink RX3 218 yX0_beat, Cond.instanceMethod yX0_beat, Cond.selects RX0 yX0_beat yX0_beat, Cond.code yX0_beat cX0_beat 1 (some .int), Cond.methodLink RX3 148 yX0_slipsEver, Cond.instanceMethod yX0_slipsEver, Cond.selects RX0 yX0_slipsEver yX0_slipsEver, Cond.code yX0_slipsEver cX0_slipsEver 1 (some .int), Cond.fieldLink RX0 36 "Cascadecourt$Juggler" "slipsEver" "I", Cond.methodLink RX3 221 yX0_droppedProps, Cond.instanceMethod yX0_droppedProps, Cond.selects RX0 yX0_droppedProps yX0_droppedProps, Cond.code yX0_droppedProps cX0_droppedProps 3 (some .int), Cond.methodLink RX0 46 yX0_isDropped, Cond.instanceMethod yX0_isDropped, Cond.selects RX0 yX0_isDropped yX0_isDropped, Cond.code yX0_isDropped cX0_isDropped 2 (some .boolean), Cond.methodLink RX3 224 yX0_flightsOfAll]
def wsX3_many_r3 : List Cond := [Cond.instanceMethod yX0_flightsOfAll, Cond.selects RX0 yX0_flightsOfAll yX0_flightsOfAll, Cond.code yX0_flightsOfAll cX0_flightsOfAll 3 (some .int), Cond.fieldLink RX0 15 "Cascadecourt$Juggler" "flights" "[I", Cond.methodLink RX3 227 yX3_soundRows, Cond.instanceMethod yX3_soundRows, Cond.selects RX3 yX3_soundRows yX3_soundRows, Cond.code yX3_soundRows cX3_soundRows 4 (some .int), Cond.methodLink RX3 56 yX3_rowNumbered, Cond.instanceMethod yX3_rowNumbered, Cond.selects RX3 yX3_rowNumbered yX3_rowNumbered, Cond.code yX3_rowNumbered cX3_rowNumbered 2 (some (.object "Cascadecourt$Row")), Cond.fieldLink RX3 11 "Cascadecourt" "rows" "[LCascadecourt$Row;", Cond.methodLink RX3 115 yX1_isSound, Cond.instanceMethod yX1_isSound, Cond.selects RX1 yX1_isSound yX1_isSound, Cond.initialized RX1, Cond.code yX1_isSound cX1_isSound 1 (some .boolean), Cond.fieldLink RX1 38 "Cascadecourt$Row" "sound" "Z", Cond.methodLink RX3 230 yX0_propLandingIn, Cond.instanceMethod yX0_propLandingIn, Cond.selects RX0 yX0_propLandingIn yX0_propLandingIn, Cond.code yX0_propLandingIn cX0_propLandingIn 3 (some .int), Cond.methodLink RX3 233 yX0_beatsEver]
def wsX3_many_r4 : List Cond := [Cond.instanceMethod yX0_beatsEver, Cond.selects RX0 yX0_beatsEver yX0_beatsEver, Cond.code yX0_beatsEver cX0_beatsEver 1 (some .int), Cond.fieldLink RX0 39 "Cascadecourt$Juggler" "beatsEver" "I"]
def wsX3_many : List Cond := .code yX3_many cX3_many 2 (some .int) :: ((wsX3_many_r1 ++ (wsX3_many_r2 ++ (wsX3_many_r3 ++ wsX3_many_r4))) ++ wsX30 ++ wsX00 ++ wsX10 ++ (vx_atS RX3 45 "java/lang/IllegalArgumentException" ["java/lang/RuntimeException", "java/lang/Exception"]).filter goodWord)
def wsX3_tired : List Cond := .code yX3_tired cX3_tired 1 (some .double) :: ([.fieldLink RX3 18 "Cascadecourt" "juggler" "LCascadecourt$Juggler;", .methodLink RX3 177 yX0_tiredness, .instanceMethod yX0_tiredness, .selects RX0 yX0_tiredness yX0_tiredness, .initialized RX0, .code yX0_tiredness cX0_tiredness 1 (some .double), .fieldLink RX0 28 "Cascadecourt$Juggler" "tiredness" "D"] ++ wsX30 ++ wsX00)
def wsX3_nearestWhole : List Cond := .code yX3_nearestWhole cX3_nearestWhole 7 (some .double) :: ([.constantDouble RX3 246 (4602678819172646912), .constantLong RX3 248 (2)])
def wsX3_metresOf : List Cond := .code yX3_metresOf cX3_metresOf 3 (some .double) :: ([.constantDouble RX3 236 (4608195728716175770), .constantDouble RX3 238 (4598175219545276416), .constantDouble RX3 240 (4616189618054758400), .methodLink RX3 242 yX3_nearestWhole, .static yX3_nearestWhole, .initialized RX3, .code yX3_nearestWhole cX3_nearestWhole 7 (some .double), .constantDouble RX3 246 (4602678819172646912), .constantLong RX3 248 (2)])
def wsX3_high_r1 : List Cond := [Cond.classLink RX3 60 "java/lang/IndexOutOfBoundsException", Cond.initialized "java/lang/IndexOutOfBoundsException", Cond.methodLink RX3 56 yX3_rowNumbered, Cond.instanceMethod yX3_rowNumbered, Cond.selects RX3 yX3_rowNumbered yX3_rowNumbered, Cond.initialized RX3, Cond.code yX3_rowNumbered cX3_rowNumbered 2 (some (.object "Cascadecourt$Row")), Cond.fieldLink RX3 29 "Cascadecourt" "rowsTold" "I", Cond.fieldLink RX3 11 "Cascadecourt" "rows" "[LCascadecourt$Row;", Cond.methodLink RX3 105 yX1_highestThrow, Cond.instanceMethod yX1_highestThrow, Cond.selects RX1 yX1_highestThrow yX1_highestThrow, Cond.initialized RX1, Cond.code yX1_highestThrow cX1_highestThrow 3 (some .int), Cond.fieldLink RX1 27 "Cascadecourt$Row" "length" "I", Cond.fieldLink RX1 9 "Cascadecourt$Row" "heights" "[I", Cond.methodLink RX1 105 Lib.Math.max.name, Cond.static Lib.Math.max.name, Cond.initialized "java/lang/Math", Cond.code Lib.Math.max.name Lib.Math.max.code 2 (some .int), Cond.static yX3_cell, Cond.code yX3_cell cX3_cell 2 (some .int), Cond.methodLink RX3 181 yX3_metresOf, Cond.static yX3_metresOf]
def wsX3_high_r2 : List Cond := [Cond.code yX3_metresOf cX3_metresOf 3 (some .double), Cond.constantDouble RX3 236 (4608195728716175770), Cond.constantDouble RX3 238 (4598175219545276416), Cond.constantDouble RX3 240 (4616189618054758400), Cond.methodLink RX3 242 yX3_nearestWhole, Cond.static yX3_nearestWhole, Cond.code yX3_nearestWhole cX3_nearestWhole 7 (some .double), Cond.constantDouble RX3 246 (4602678819172646912), Cond.constantLong RX3 248 (2)]
def wsX3_high : List Cond := .code yX3_high cX3_high 3 (some .double) :: ((wsX3_high_r1 ++ wsX3_high_r2) ++ wsX30 ++ wsX10 ++ (vx_atS RX3 64 "java/lang/IndexOutOfBoundsException" ["java/lang/RuntimeException", "java/lang/Exception"]).filter goodWord)
def wsX3_would_r1 : List Cond := [Cond.classLink RX3 41 "java/lang/IllegalArgumentException", Cond.initialized "java/lang/IllegalArgumentException", Cond.fieldLink RX3 18 "Cascadecourt" "juggler" "LCascadecourt$Juggler;", Cond.methodLink RX3 90 yX3_isThrow, Cond.static yX3_isThrow, Cond.initialized RX3, Cond.code yX3_isThrow cX3_isThrow 1 (some .boolean), Cond.methodLink RX3 33 yX3_isWithin, Cond.static yX3_isWithin, Cond.code yX3_isWithin cX3_isWithin 3 (some .boolean), Cond.methodLink RX3 138 yX0_state, Cond.instanceMethod yX0_state, Cond.selects RX0 yX0_state yX0_state, Cond.initialized RX0, Cond.code yX0_state cX0_state 4 (some .int), Cond.fieldLink RX0 21 "Cascadecourt$Juggler" "props" "I", Cond.methodLink RX0 50 yX0_beatsTillLanding, Cond.instanceMethod yX0_beatsTillLanding, Cond.selects RX0 yX0_beatsTillLanding yX0_beatsTillLanding, Cond.code yX0_beatsTillLanding cX0_beatsTillLanding 3 (some .int), Cond.fieldLink RX0 9 "Cascadecourt$Juggler" "landsAt" "[I", Cond.fieldLink RX0 25 "Cascadecourt$Juggler" "beat" "I", Cond.static yX3_cell, Cond.code yX3_cell cX3_cell 2 (some .int)]
def wsX3_would_r2 : List Cond := [Cond.methodLink RX3 185 yX3_stateBehind, Cond.static yX3_stateBehind, Cond.code yX3_stateBehind cX3_stateBehind 4 (some .int)]
def wsX3_would : List Cond := .code yX3_would cX3_would 2 (some .int) :: ((wsX3_would_r1 ++ wsX3_would_r2) ++ wsX30 ++ wsX00 ++ (vx_atS RX3 45 "java/lang/IllegalArgumentException" ["java/lang/RuntimeException", "java/lang/Exception"]).filter goodWord)
def wsX3_stepsInto_r1 : List Cond := [Cond.fieldLink RX3 18 "Cascadecourt" "juggler" "LCascadecourt$Juggler;", Cond.fieldLink RX3 25 "Cascadecourt" "ways" "LCascadecourt$Ways;", Cond.methodLink RX3 138 yX0_state, Cond.instanceMethod yX0_state, Cond.selects RX0 yX0_state yX0_state, Cond.initialized RX0, Cond.code yX0_state cX0_state 4 (some .int), Cond.fieldLink RX0 21 "Cascadecourt$Juggler" "props" "I", Cond.methodLink RX0 50 yX0_beatsTillLanding, Cond.instanceMethod yX0_beatsTillLanding, Cond.selects RX0 yX0_beatsTillLanding yX0_beatsTillLanding, Cond.code yX0_beatsTillLanding cX0_beatsTillLanding 3 (some .int), Cond.fieldLink RX0 9 "Cascadecourt$Juggler" "landsAt" "[I", Cond.fieldLink RX0 25 "Cascadecourt$Juggler" "beat" "I", Cond.static yX3_cell, Cond.initialized RX3, Cond.code yX3_cell cX3_cell 2 (some .int), Cond.methodLink RX3 250 yX1_props, Cond.instanceMethod yX1_props, Cond.selects RX1 yX1_props yX1_props, Cond.initialized RX1, Cond.code yX1_props cX1_props 1 (some .int), Cond.fieldLink RX1 38 "Cascadecourt$Row" "sound" "Z", Cond.fieldLink RX1 27 "Cascadecourt$Row" "length" "I"]
def wsX3_stepsInto_r2 : List Cond := [Cond.methodLink RX1 102 yX1_sumOfThrows, Cond.instanceMethod yX1_sumOfThrows, Cond.selects RX1 yX1_sumOfThrows yX1_sumOfThrows, Cond.code yX1_sumOfThrows cX1_sumOfThrows 3 (some .int), Cond.fieldLink RX1 9 "Cascadecourt$Row" "heights" "[I", Cond.methodLink RX3 251 yJ6_bitCount_0f7a4, Cond.static yJ6_bitCount_0f7a4, Cond.initialized RJ6, Cond.code yJ6_bitCount_0f7a4 cJ6_bitCount_0f7a4 1 (some .int), Cond.constant RJ6 265 (1431655765), Cond.constant RJ6 266 (858993459), Cond.constant RJ6 267 (252645135), Cond.methodLink RX3 256 yX2_lookFrom, Cond.instanceMethod yX2_lookFrom, Cond.selects RX2 yX2_lookFrom yX2_lookFrom, Cond.initialized RX2, Cond.code yX2_lookFrom cX2_lookFrom 4 none, Cond.fieldLink RX2 21 "Cascadecourt$Ways" "start" "I", Cond.fieldLink RX2 9 "Cascadecourt$Ways" "steps" "[I", Cond.fieldLink RX2 15 "Cascadecourt$Ways" "firstThrows" "[I", Cond.fieldLink RX2 18 "Cascadecourt$Ways" "waiting" "[I", Cond.methodLink RX2 29 yJ7_fill_53178, Cond.static yJ7_fill_53178, Cond.initialized RJ7]
def wsX3_stepsInto_r3 : List Cond := [Cond.code yJ7_fill_53178 cJ7_fill_53178 4 none, Cond.static yX3_setCell, Cond.code yX3_setCell cX3_setCell 3 none, Cond.methodLink RX2 39 yX2_lookOnFrom, Cond.instanceMethod yX2_lookOnFrom, Cond.selects RX2 yX2_lookOnFrom yX2_lookOnFrom, Cond.code yX2_lookOnFrom cX2_lookOnFrom 6 (some .int), Cond.static yX3_stateBehind, Cond.code yX3_stateBehind cX3_stateBehind 4 (some .int), Cond.methodLink RX3 124 yX1_length, Cond.instanceMethod yX1_length, Cond.selects RX1 yX1_length yX1_length, Cond.code yX1_length cX1_length 1 (some .int), Cond.methodLink RX3 259 yX1_stateAt, Cond.instanceMethod yX1_stateAt, Cond.selects RX1 yX1_stateAt yX1_stateAt, Cond.code yX1_stateAt cX1_stateAt 2 (some .int), Cond.fieldLink RX1 24 "Cascadecourt$Row" "states" "[I", Cond.methodLink RX3 262 yX2_stepsTo, Cond.instanceMethod yX2_stepsTo, Cond.selects RX2 yX2_stepsTo yX2_stepsTo, Cond.code yX2_stepsTo cX2_stepsTo 2 (some .int)]
def wsX3_stepsInto : List Cond := .code yX3_stepsInto cX3_stepsInto 6 (some .int) :: ((wsX3_stepsInto_r1 ++ (wsX3_stepsInto_r2 ++ wsX3_stepsInto_r3)) ++ wsX30 ++ wsX00 ++ wsX10 ++ wsX20)
def wsX3_way_r1 : List Cond := [Cond.classLink RX3 60 "java/lang/IndexOutOfBoundsException", Cond.initialized "java/lang/IndexOutOfBoundsException", Cond.methodLink RX3 56 yX3_rowNumbered, Cond.instanceMethod yX3_rowNumbered, Cond.selects RX3 yX3_rowNumbered yX3_rowNumbered, Cond.initialized RX3, Cond.code yX3_rowNumbered cX3_rowNumbered 2 (some (.object "Cascadecourt$Row")), Cond.fieldLink RX3 29 "Cascadecourt" "rowsTold" "I", Cond.fieldLink RX3 11 "Cascadecourt" "rows" "[LCascadecourt$Row;", Cond.methodLink RX3 188 yX3_stepsInto, Cond.instanceMethod yX3_stepsInto, Cond.selects RX3 yX3_stepsInto yX3_stepsInto, Cond.code yX3_stepsInto cX3_stepsInto 6 (some .int), Cond.fieldLink RX3 18 "Cascadecourt" "juggler" "LCascadecourt$Juggler;", Cond.fieldLink RX3 25 "Cascadecourt" "ways" "LCascadecourt$Ways;", Cond.methodLink RX3 138 yX0_state, Cond.instanceMethod yX0_state, Cond.selects RX0 yX0_state yX0_state, Cond.initialized RX0, Cond.code yX0_state cX0_state 4 (some .int), Cond.fieldLink RX0 21 "Cascadecourt$Juggler" "props" "I", Cond.methodLink RX0 50 yX0_beatsTillLanding, Cond.instanceMethod yX0_beatsTillLanding, Cond.selects RX0 yX0_beatsTillLanding yX0_beatsTillLanding]
def wsX3_way_r2 : List Cond := [Cond.code yX0_beatsTillLanding cX0_beatsTillLanding 3 (some .int), Cond.fieldLink RX0 9 "Cascadecourt$Juggler" "landsAt" "[I", Cond.fieldLink RX0 25 "Cascadecourt$Juggler" "beat" "I", Cond.static yX3_cell, Cond.code yX3_cell cX3_cell 2 (some .int), Cond.methodLink RX3 250 yX1_props, Cond.instanceMethod yX1_props, Cond.selects RX1 yX1_props yX1_props, Cond.initialized RX1, Cond.code yX1_props cX1_props 1 (some .int), Cond.fieldLink RX1 38 "Cascadecourt$Row" "sound" "Z", Cond.fieldLink RX1 27 "Cascadecourt$Row" "length" "I", Cond.methodLink RX1 102 yX1_sumOfThrows, Cond.instanceMethod yX1_sumOfThrows, Cond.selects RX1 yX1_sumOfThrows yX1_sumOfThrows, Cond.code yX1_sumOfThrows cX1_sumOfThrows 3 (some .int), Cond.fieldLink RX1 9 "Cascadecourt$Row" "heights" "[I", Cond.methodLink RX3 251 yJ6_bitCount_0f7a4, Cond.static yJ6_bitCount_0f7a4, Cond.initialized RJ6, Cond.code yJ6_bitCount_0f7a4 cJ6_bitCount_0f7a4 1 (some .int), Cond.constant RJ6 265 (1431655765), Cond.constant RJ6 266 (858993459), Cond.constant RJ6 267 (252645135)]
def wsX3_way_r3 : List Cond := [Cond.methodLink RX3 256 yX2_lookFrom, Cond.instanceMethod yX2_lookFrom, Cond.selects RX2 yX2_lookFrom yX2_lookFrom, Cond.initialized RX2, Cond.code yX2_lookFrom cX2_lookFrom 4 none, Cond.fieldLink RX2 21 "Cascadecourt$Ways" "start" "I", Cond.fieldLink RX2 9 "Cascadecourt$Ways" "steps" "[I", Cond.fieldLink RX2 15 "Cascadecourt$Ways" "firstThrows" "[I", Cond.fieldLink RX2 18 "Cascadecourt$Ways" "waiting" "[I", Cond.methodLink RX2 29 yJ7_fill_53178, Cond.static yJ7_fill_53178, Cond.initialized RJ7, Cond.code yJ7_fill_53178 cJ7_fill_53178 4 none, Cond.static yX3_setCell, Cond.code yX3_setCell cX3_setCell 3 none, Cond.methodLink RX2 39 yX2_lookOnFrom, Cond.instanceMethod yX2_lookOnFrom, Cond.selects RX2 yX2_lookOnFrom yX2_lookOnFrom, Cond.code yX2_lookOnFrom cX2_lookOnFrom 6 (some .int), Cond.static yX3_stateBehind, Cond.code yX3_stateBehind cX3_stateBehind 4 (some .int), Cond.methodLink RX3 124 yX1_length, Cond.instanceMethod yX1_length, Cond.selects RX1 yX1_length yX1_length]
def wsX3_way_r4 : List Cond := [Cond.code yX1_length cX1_length 1 (some .int), Cond.methodLink RX3 259 yX1_stateAt, Cond.instanceMethod yX1_stateAt, Cond.selects RX1 yX1_stateAt yX1_stateAt, Cond.code yX1_stateAt cX1_stateAt 2 (some .int), Cond.fieldLink RX1 24 "Cascadecourt$Row" "states" "[I", Cond.methodLink RX3 262 yX2_stepsTo, Cond.instanceMethod yX2_stepsTo, Cond.selects RX2 yX2_stepsTo yX2_stepsTo, Cond.code yX2_stepsTo cX2_stepsTo 2 (some .int)]
def wsX3_way : List Cond := .code yX3_way cX3_way 3 (some .int) :: ((wsX3_way_r1 ++ (wsX3_way_r2 ++ (wsX3_way_r3 ++ wsX3_way_r4))) ++ wsX30 ++ wsX00 ++ wsX10 ++ wsX20 ++ (vx_atS RX3 64 "java/lang/IndexOutOfBoundsException" ["java/lang/RuntimeException", "java/lang/Exception"]).filter goodWord)
def wsX3_firstThrowInto_r1 : List Cond := [Cond.fieldLink RX3 25 "Cascadecourt" "ways" "LCascadecourt$Ways;", Cond.methodLink RX3 188 yX3_stepsInto, Cond.instanceMethod yX3_stepsInto, Cond.selects RX3 yX3_stepsInto yX3_stepsInto, Cond.initialized RX3, Cond.code yX3_stepsInto cX3_stepsInto 6 (some .int), Cond.fieldLink RX3 18 "Cascadecourt" "juggler" "LCascadecourt$Juggler;", Cond.methodLink RX3 138 yX0_state, Cond.instanceMethod yX0_state, Cond.selects RX0 yX0_state yX0_state, Cond.initialized RX0, Cond.code yX0_state cX0_state 4 (some .int), Cond.fieldLink RX0 21 "Cascadecourt$Juggler" "props" "I", Cond.methodLink RX0 50 yX0_beatsTillLanding, Cond.instanceMethod yX0_beatsTillLanding, Cond.selects RX0 yX0_beatsTillLanding yX0_beatsTillLanding, Cond.code yX0_beatsTillLanding cX0_beatsTillLanding 3 (some .int), Cond.fieldLink RX0 9 "Cascadecourt$Juggler" "landsAt" "[I", Cond.fieldLink RX0 25 "Cascadecourt$Juggler" "beat" "I", Cond.static yX3_cell, Cond.code yX3_cell cX3_cell 2 (some .int), Cond.methodLink RX3 250 yX1_props, Cond.instanceMethod yX1_props, Cond.selects RX1 yX1_props yX1_props]
def wsX3_firstThrowInto_r2 : List Cond := [Cond.initialized RX1, Cond.code yX1_props cX1_props 1 (some .int), Cond.fieldLink RX1 38 "Cascadecourt$Row" "sound" "Z", Cond.fieldLink RX1 27 "Cascadecourt$Row" "length" "I", Cond.methodLink RX1 102 yX1_sumOfThrows, Cond.instanceMethod yX1_sumOfThrows, Cond.selects RX1 yX1_sumOfThrows yX1_sumOfThrows, Cond.code yX1_sumOfThrows cX1_sumOfThrows 3 (some .int), Cond.fieldLink RX1 9 "Cascadecourt$Row" "heights" "[I", Cond.methodLink RX3 251 yJ6_bitCount_0f7a4, Cond.static yJ6_bitCount_0f7a4, Cond.initialized RJ6, Cond.code yJ6_bitCount_0f7a4 cJ6_bitCount_0f7a4 1 (some .int), Cond.constant RJ6 265 (1431655765), Cond.constant RJ6 266 (858993459), Cond.constant RJ6 267 (252645135), Cond.methodLink RX3 256 yX2_lookFrom, Cond.instanceMethod yX2_lookFrom, Cond.selects RX2 yX2_lookFrom yX2_lookFrom, Cond.initialized RX2, Cond.code yX2_lookFrom cX2_lookFrom 4 none, Cond.fieldLink RX2 21 "Cascadecourt$Ways" "start" "I", Cond.fieldLink RX2 9 "Cascadecourt$Ways" "steps" "[I", Cond.fieldLink RX2 15 "Cascadecourt$Ways" "firstThrows" "[I"]
def wsX3_firstThrowInto_r3 : List Cond := [Cond.fieldLink RX2 18 "Cascadecourt$Ways" "waiting" "[I", Cond.methodLink RX2 29 yJ7_fill_53178, Cond.static yJ7_fill_53178, Cond.initialized RJ7, Cond.code yJ7_fill_53178 cJ7_fill_53178 4 none, Cond.static yX3_setCell, Cond.code yX3_setCell cX3_setCell 3 none, Cond.methodLink RX2 39 yX2_lookOnFrom, Cond.instanceMethod yX2_lookOnFrom, Cond.selects RX2 yX2_lookOnFrom yX2_lookOnFrom, Cond.code yX2_lookOnFrom cX2_lookOnFrom 6 (some .int), Cond.static yX3_stateBehind, Cond.code yX3_stateBehind cX3_stateBehind 4 (some .int), Cond.methodLink RX3 124 yX1_length, Cond.instanceMethod yX1_length, Cond.selects RX1 yX1_length yX1_length, Cond.code yX1_length cX1_length 1 (some .int), Cond.methodLink RX3 259 yX1_stateAt, Cond.instanceMethod yX1_stateAt, Cond.selects RX1 yX1_stateAt yX1_stateAt, Cond.code yX1_stateAt cX1_stateAt 2 (some .int), Cond.fieldLink RX1 24 "Cascadecourt$Row" "states" "[I", Cond.methodLink RX3 262 yX2_stepsTo, Cond.instanceMethod yX2_stepsTo]
def wsX3_firstThrowInto_r4 : List Cond := [Cond.selects RX2 yX2_stepsTo yX2_stepsTo, Cond.code yX2_stepsTo cX2_stepsTo 2 (some .int), Cond.methodLink RX3 265 yX2_firstThrowTo, Cond.instanceMethod yX2_firstThrowTo, Cond.selects RX2 yX2_firstThrowTo yX2_firstThrowTo, Cond.code yX2_firstThrowTo cX2_firstThrowTo 2 (some .int)]
def wsX3_firstThrowInto : List Cond := .code yX3_firstThrowInto cX3_firstThrowInto 6 (some .int) :: ((wsX3_firstThrowInto_r1 ++ (wsX3_firstThrowInto_r2 ++ (wsX3_firstThrowInto_r3 ++ wsX3_firstThrowInto_r4))) ++ wsX30 ++ wsX00 ++ wsX10 ++ wsX20)
def wsX3_first_r1 : List Cond := [Cond.classLink RX3 60 "java/lang/IndexOutOfBoundsException", Cond.initialized "java/lang/IndexOutOfBoundsException", Cond.methodLink RX3 56 yX3_rowNumbered, Cond.instanceMethod yX3_rowNumbered, Cond.selects RX3 yX3_rowNumbered yX3_rowNumbered, Cond.initialized RX3, Cond.code yX3_rowNumbered cX3_rowNumbered 2 (some (.object "Cascadecourt$Row")), Cond.fieldLink RX3 29 "Cascadecourt" "rowsTold" "I", Cond.fieldLink RX3 11 "Cascadecourt" "rows" "[LCascadecourt$Row;", Cond.methodLink RX3 192 yX3_firstThrowInto, Cond.instanceMethod yX3_firstThrowInto, Cond.selects RX3 yX3_firstThrowInto yX3_firstThrowInto, Cond.code yX3_firstThrowInto cX3_firstThrowInto 6 (some .int), Cond.fieldLink RX3 25 "Cascadecourt" "ways" "LCascadecourt$Ways;", Cond.methodLink RX3 188 yX3_stepsInto, Cond.instanceMethod yX3_stepsInto, Cond.selects RX3 yX3_stepsInto yX3_stepsInto, Cond.code yX3_stepsInto cX3_stepsInto 6 (some .int), Cond.fieldLink RX3 18 "Cascadecourt" "juggler" "LCascadecourt$Juggler;", Cond.methodLink RX3 138 yX0_state, Cond.instanceMethod yX0_state, Cond.selects RX0 yX0_state yX0_state, Cond.initialized RX0, Cond.code yX0_state cX0_state 4 (some .int)]
def wsX3_first_r2 : List Cond := [Cond.fieldLink RX0 21 "Cascadecourt$Juggler" "props" "I", Cond.methodLink RX0 50 yX0_beatsTillLanding, Cond.instanceMethod yX0_beatsTillLanding, Cond.selects RX0 yX0_beatsTillLanding yX0_beatsTillLanding, Cond.code yX0_beatsTillLanding cX0_beatsTillLanding 3 (some .int), Cond.fieldLink RX0 9 "Cascadecourt$Juggler" "landsAt" "[I", Cond.fieldLink RX0 25 "Cascadecourt$Juggler" "beat" "I", Cond.static yX3_cell, Cond.code yX3_cell cX3_cell 2 (some .int), Cond.methodLink RX3 250 yX1_props, Cond.instanceMethod yX1_props, Cond.selects RX1 yX1_props yX1_props, Cond.initialized RX1, Cond.code yX1_props cX1_props 1 (some .int), Cond.fieldLink RX1 38 "Cascadecourt$Row" "sound" "Z", Cond.fieldLink RX1 27 "Cascadecourt$Row" "length" "I", Cond.methodLink RX1 102 yX1_sumOfThrows, Cond.instanceMethod yX1_sumOfThrows, Cond.selects RX1 yX1_sumOfThrows yX1_sumOfThrows, Cond.code yX1_sumOfThrows cX1_sumOfThrows 3 (some .int), Cond.fieldLink RX1 9 "Cascadecourt$Row" "heights" "[I", Cond.methodLink RX3 251 yJ6_bitCount_0f7a4, Cond.static yJ6_bitCount_0f7a4, Cond.initialized RJ6]
def wsX3_first_r3 : List Cond := [Cond.code yJ6_bitCount_0f7a4 cJ6_bitCount_0f7a4 1 (some .int), Cond.constant RJ6 265 (1431655765), Cond.constant RJ6 266 (858993459), Cond.constant RJ6 267 (252645135), Cond.methodLink RX3 256 yX2_lookFrom, Cond.instanceMethod yX2_lookFrom, Cond.selects RX2 yX2_lookFrom yX2_lookFrom, Cond.initialized RX2, Cond.code yX2_lookFrom cX2_lookFrom 4 none, Cond.fieldLink RX2 21 "Cascadecourt$Ways" "start" "I", Cond.fieldLink RX2 9 "Cascadecourt$Ways" "steps" "[I", Cond.fieldLink RX2 15 "Cascadecourt$Ways" "firstThrows" "[I", Cond.fieldLink RX2 18 "Cascadecourt$Ways" "waiting" "[I", Cond.methodLink RX2 29 yJ7_fill_53178, Cond.static yJ7_fill_53178, Cond.initialized RJ7, Cond.code yJ7_fill_53178 cJ7_fill_53178 4 none, Cond.static yX3_setCell, Cond.code yX3_setCell cX3_setCell 3 none, Cond.methodLink RX2 39 yX2_lookOnFrom, Cond.instanceMethod yX2_lookOnFrom, Cond.selects RX2 yX2_lookOnFrom yX2_lookOnFrom, Cond.code yX2_lookOnFrom cX2_lookOnFrom 6 (some .int), Cond.static yX3_stateBehind]
def wsX3_first_r4 : List Cond := [Cond.code yX3_stateBehind cX3_stateBehind 4 (some .int), Cond.methodLink RX3 124 yX1_length, Cond.instanceMethod yX1_length, Cond.selects RX1 yX1_length yX1_length, Cond.code yX1_length cX1_length 1 (some .int), Cond.methodLink RX3 259 yX1_stateAt, Cond.instanceMethod yX1_stateAt, Cond.selects RX1 yX1_stateAt yX1_stateAt, Cond.code yX1_stateAt cX1_stateAt 2 (some .int), Cond.fieldLink RX1 24 "Cascadecourt$Row" "states" "[I", Cond.methodLink RX3 262 yX2_stepsTo, Cond.instanceMethod yX2_stepsTo, Cond.selects RX2 yX2_stepsTo yX2_stepsTo, Cond.code yX2_stepsTo cX2_stepsTo 2 (some .int), Cond.methodLink RX3 265 yX2_firstThrowTo, Cond.instanceMethod yX2_firstThrowTo, Cond.selects RX2 yX2_firstThrowTo yX2_firstThrowTo, Cond.code yX2_firstThrowTo cX2_firstThrowTo 2 (some .int)]
def wsX3_first : List Cond := .code yX3_first cX3_first 3 (some .int) :: ((wsX3_first_r1 ++ (wsX3_first_r2 ++ (wsX3_first_r3 ++ wsX3_first_r4))) ++ wsX30 ++ wsX00 ++ wsX10 ++ wsX20 ++ (vx_atS RX3 64 "java/lang/IndexOutOfBoundsException" ["java/lang/RuntimeException", "java/lang/Exception"]).filter goodWord)
def wsX3_soundRowsFrom : List Cond := .code yX3_soundRowsFrom cX3_soundRowsFrom 7 (some .int) :: ([.methodLink RX3 197 yX3_soundRowsFrom, .static yX3_soundRowsFrom, .initialized RX3])
def wsX3_count : List Cond := .code yX3_count cX3_count 3 (some .int) :: ([.classLink RX3 41 "java/lang/IllegalArgumentException", .initialized "java/lang/IllegalArgumentException", .methodLink RX3 33 yX3_isWithin, .static yX3_isWithin, .initialized RX3, .code yX3_isWithin cX3_isWithin 3 (some .boolean), .methodLink RX3 197 yX3_soundRowsFrom, .static yX3_soundRowsFrom, .code yX3_soundRowsFrom cX3_soundRowsFrom 7 (some .int)] ++ (vx_atS RX3 45 "java/lang/IllegalArgumentException" ["java/lang/RuntimeException", "java/lang/Exception"]).filter goodWord)
def wsX3_alike_r1 : List Cond := [Cond.classLink RX3 60 "java/lang/IndexOutOfBoundsException", Cond.initialized "java/lang/IndexOutOfBoundsException", Cond.methodLink RX3 56 yX3_rowNumbered, Cond.instanceMethod yX3_rowNumbered, Cond.selects RX3 yX3_rowNumbered yX3_rowNumbered, Cond.initialized RX3, Cond.code yX3_rowNumbered cX3_rowNumbered 2 (some (.object "Cascadecourt$Row")), Cond.fieldLink RX3 29 "Cascadecourt" "rowsTold" "I", Cond.fieldLink RX3 11 "Cascadecourt" "rows" "[LCascadecourt$Row;", Cond.methodLink RX3 201 yX1_isShiftedTo, Cond.instanceMethod yX1_isShiftedTo, Cond.selects RX1 yX1_isShiftedTo yX1_isShiftedTo, Cond.initialized RX1, Cond.code yX1_isShiftedTo cX1_isShiftedTo 4 (some .boolean), Cond.fieldLink RX1 27 "Cascadecourt$Row" "length" "I", Cond.fieldLink RX1 9 "Cascadecourt$Row" "heights" "[I", Cond.methodLink RX1 56 yX1_throwAt, Cond.instanceMethod yX1_throwAt, Cond.selects RX1 yX1_throwAt yX1_throwAt, Cond.code yX1_throwAt cX1_throwAt 2 (some .int), Cond.methodLink RX1 48 yX1_siteOf, Cond.instanceMethod yX1_siteOf, Cond.selects RX1 yX1_siteOf yX1_siteOf, Cond.code yX1_siteOf cX1_siteOf 2 (some .int)]
def wsX3_alike_r2 : List Cond := [Cond.methodLink RX1 42 yJ9_floorMod_7cf53, Cond.static yJ9_floorMod_7cf53, Cond.initialized RJ9, Cond.code yJ9_floorMod_7cf53 cJ9_floorMod_7cf53 3 (some .int), Cond.static yX3_cell, Cond.code yX3_cell cX3_cell 2 (some .int)]
def wsX3_alike : List Cond := .code yX3_alike cX3_alike 6 (some .int) :: ((wsX3_alike_r1 ++ wsX3_alike_r2) ++ wsX30 ++ wsX10 ++ (vx_atS RX3 64 "java/lang/IndexOutOfBoundsException" ["java/lang/RuntimeException", "java/lang/Exception"]).filter goodWord)
def wsX3_addRow_r1 : List Cond := [Cond.constantLong RX3 207 (31), Cond.methodLink RX3 156 yX1_answer, Cond.instanceMethod yX1_answer, Cond.selects RX1 yX1_answer yX1_answer, Cond.initialized RX1, Cond.code yX1_answer cX1_answer 2 (some .int), Cond.fieldLink RX1 27 "Cascadecourt$Row" "length" "I", Cond.fieldLink RX1 38 "Cascadecourt$Row" "sound" "Z", Cond.methodLink RX1 74 yX1_props, Cond.instanceMethod yX1_props, Cond.selects RX1 yX1_props yX1_props, Cond.code yX1_props cX1_props 1 (some .int), Cond.methodLink RX1 102 yX1_sumOfThrows, Cond.instanceMethod yX1_sumOfThrows, Cond.selects RX1 yX1_sumOfThrows yX1_sumOfThrows, Cond.code yX1_sumOfThrows cX1_sumOfThrows 3 (some .int), Cond.fieldLink RX1 9 "Cascadecourt$Row" "heights" "[I", Cond.static yX3_cell, Cond.initialized RX3, Cond.code yX3_cell cX3_cell 2 (some .int), Cond.methodLink RX1 78 yX1_highestThrow, Cond.instanceMethod yX1_highestThrow, Cond.selects RX1 yX1_highestThrow yX1_highestThrow, Cond.code yX1_highestThrow cX1_highestThrow 3 (some .int)]
def wsX3_addRow_r2 : List Cond := [Cond.methodLink RX1 105 Lib.Math.max.name, Cond.static Lib.Math.max.name, Cond.initialized "java/lang/Math", Cond.code Lib.Math.max.name Lib.Math.max.code 2 (some .int), Cond.methodLink RX1 81 yX1_crossingThrows, Cond.instanceMethod yX1_crossingThrows, Cond.selects RX1 yX1_crossingThrows yX1_crossingThrows, Cond.code yX1_crossingThrows cX1_crossingThrows 3 (some .int), Cond.methodLink RX1 84 yX1_orbits, Cond.instanceMethod yX1_orbits, Cond.selects RX1 yX1_orbits yX1_orbits, Cond.code yX1_orbits cX1_orbits 3 (some .int), Cond.methodLink RX1 115 yX1_isFirstOfOrbit, Cond.instanceMethod yX1_isFirstOfOrbit, Cond.selects RX1 yX1_isFirstOfOrbit yX1_isFirstOfOrbit, Cond.code yX1_isFirstOfOrbit cX1_isFirstOfOrbit 4 (some .boolean), Cond.fieldLink RX1 18 "Cascadecourt$Row" "landings" "[I", Cond.methodLink RX1 87 yX1_oneIfPrime, Cond.instanceMethod yX1_oneIfPrime, Cond.selects RX1 yX1_oneIfPrime yX1_oneIfPrime, Cond.code yX1_oneIfPrime cX1_oneIfPrime 3 (some .int), Cond.methodLink RX1 99 yX1_stateAt, Cond.instanceMethod yX1_stateAt, Cond.selects RX1 yX1_stateAt yX1_stateAt]
def wsX3_addRow_r3 : List Cond := [Cond.code yX1_stateAt cX1_stateAt 2 (some .int), Cond.fieldLink RX1 24 "Cascadecourt$Row" "states" "[I", Cond.methodLink RX1 90 yX1_oneIfGround, Cond.instanceMethod yX1_oneIfGround, Cond.selects RX1 yX1_oneIfGround yX1_oneIfGround, Cond.code yX1_oneIfGround cX1_oneIfGround 3 (some .int), Cond.methodLink RX1 93 yX1_period, Cond.instanceMethod yX1_period, Cond.selects RX1 yX1_period yX1_period, Cond.code yX1_period cX1_period 2 (some .int), Cond.methodLink RX1 111 yX1_isShiftedTo, Cond.instanceMethod yX1_isShiftedTo, Cond.selects RX1 yX1_isShiftedTo yX1_isShiftedTo, Cond.code yX1_isShiftedTo cX1_isShiftedTo 4 (some .boolean), Cond.methodLink RX1 56 yX1_throwAt, Cond.instanceMethod yX1_throwAt, Cond.selects RX1 yX1_throwAt yX1_throwAt, Cond.code yX1_throwAt cX1_throwAt 2 (some .int), Cond.methodLink RX1 48 yX1_siteOf, Cond.instanceMethod yX1_siteOf, Cond.selects RX1 yX1_siteOf yX1_siteOf, Cond.code yX1_siteOf cX1_siteOf 2 (some .int), Cond.methodLink RX1 42 yJ9_floorMod_7cf53, Cond.static yJ9_floorMod_7cf53]
def wsX3_addRow_r4 : List Cond := [Cond.initialized RJ9, Cond.code yJ9_floorMod_7cf53 cJ9_floorMod_7cf53 3 (some .int), Cond.methodLink RX1 96 yX1_greatestTurn, Cond.instanceMethod yX1_greatestTurn, Cond.selects RX1 yX1_greatestTurn yX1_greatestTurn, Cond.code yX1_greatestTurn cX1_greatestTurn 3 (some .int), Cond.fieldLink RX1 21 "Cascadecourt$Row" "turns" "[I", Cond.methodLink RX3 124 yX1_length, Cond.instanceMethod yX1_length, Cond.selects RX1 yX1_length yX1_length, Cond.code yX1_length cX1_length 1 (some .int), Cond.methodLink RX3 159 yX1_answerAt, Cond.instanceMethod yX1_answerAt, Cond.selects RX1 yX1_answerAt yX1_answerAt, Cond.code yX1_answerAt cX1_answerAt 3 (some .int), Cond.methodLink RX3 188 yX3_stepsInto, Cond.instanceMethod yX3_stepsInto, Cond.selects RX3 yX3_stepsInto yX3_stepsInto, Cond.code yX3_stepsInto cX3_stepsInto 6 (some .int), Cond.fieldLink RX3 18 "Cascadecourt" "juggler" "LCascadecourt$Juggler;", Cond.fieldLink RX3 25 "Cascadecourt" "ways" "LCascadecourt$Ways;", Cond.methodLink RX3 138 yX0_state, Cond.instanceMethod yX0_state, Cond.selects RX0 yX0_state yX0_state]
def wsX3_addRow_r5 : List Cond := [Cond.initialized RX0, Cond.code yX0_state cX0_state 4 (some .int), Cond.fieldLink RX0 21 "Cascadecourt$Juggler" "props" "I", Cond.methodLink RX0 50 yX0_beatsTillLanding, Cond.instanceMethod yX0_beatsTillLanding, Cond.selects RX0 yX0_beatsTillLanding yX0_beatsTillLanding, Cond.code yX0_beatsTillLanding cX0_beatsTillLanding 3 (some .int), Cond.fieldLink RX0 9 "Cascadecourt$Juggler" "landsAt" "[I", Cond.fieldLink RX0 25 "Cascadecourt$Juggler" "beat" "I", Cond.methodLink RX3 250 yX1_props, Cond.methodLink RX3 251 yJ6_bitCount_0f7a4, Cond.static yJ6_bitCount_0f7a4, Cond.initialized RJ6, Cond.code yJ6_bitCount_0f7a4 cJ6_bitCount_0f7a4 1 (some .int), Cond.constant RJ6 265 (1431655765), Cond.constant RJ6 266 (858993459), Cond.constant RJ6 267 (252645135), Cond.methodLink RX3 256 yX2_lookFrom, Cond.instanceMethod yX2_lookFrom, Cond.selects RX2 yX2_lookFrom yX2_lookFrom, Cond.initialized RX2, Cond.code yX2_lookFrom cX2_lookFrom 4 none, Cond.fieldLink RX2 21 "Cascadecourt$Ways" "start" "I", Cond.fieldLink RX2 9 "Cascadecourt$Ways" "steps" "[I"]
def wsX3_addRow_r6 : List Cond := [Cond.fieldLink RX2 15 "Cascadecourt$Ways" "firstThrows" "[I", Cond.fieldLink RX2 18 "Cascadecourt$Ways" "waiting" "[I", Cond.methodLink RX2 29 yJ7_fill_53178, Cond.static yJ7_fill_53178, Cond.initialized RJ7, Cond.code yJ7_fill_53178 cJ7_fill_53178 4 none, Cond.static yX3_setCell, Cond.code yX3_setCell cX3_setCell 3 none, Cond.methodLink RX2 39 yX2_lookOnFrom, Cond.instanceMethod yX2_lookOnFrom, Cond.selects RX2 yX2_lookOnFrom yX2_lookOnFrom, Cond.code yX2_lookOnFrom cX2_lookOnFrom 6 (some .int), Cond.static yX3_stateBehind, Cond.code yX3_stateBehind cX3_stateBehind 4 (some .int), Cond.methodLink RX3 259 yX1_stateAt, Cond.methodLink RX3 262 yX2_stepsTo, Cond.instanceMethod yX2_stepsTo, Cond.selects RX2 yX2_stepsTo yX2_stepsTo, Cond.code yX2_stepsTo cX2_stepsTo 2 (some .int), Cond.methodLink RX3 192 yX3_firstThrowInto, Cond.instanceMethod yX3_firstThrowInto, Cond.selects RX3 yX3_firstThrowInto yX3_firstThrowInto, Cond.code yX3_firstThrowInto cX3_firstThrowInto 6 (some .int), Cond.methodLink RX3 265 yX2_firstThrowTo]
def wsX3_addRow_r7 : List Cond := [Cond.instanceMethod yX2_firstThrowTo, Cond.selects RX2 yX2_firstThrowTo yX2_firstThrowTo, Cond.code yX2_firstThrowTo cX2_firstThrowTo 2 (some .int)]
def wsX3_addRow : List Cond := .code yX3_addRow cX3_addRow 8 (some .long) :: ((wsX3_addRow_r1 ++ (wsX3_addRow_r2 ++ (wsX3_addRow_r3 ++ (wsX3_addRow_r4 ++ (wsX3_addRow_r5 ++ (wsX3_addRow_r6 ++ wsX3_addRow_r7)))))) ++ wsX10 ++ wsX30 ++ wsX00 ++ wsX20)
def wsX3_digest_r1 : List Cond := [Cond.constantLong RX3 205 (58305), Cond.constantLong RX3 207 (31), Cond.fieldLink RX3 29 "Cascadecourt" "rowsTold" "I", Cond.fieldLink RX3 18 "Cascadecourt" "juggler" "LCascadecourt$Juggler;", Cond.constantDouble RX3 216 (4620693217682128896), Cond.methodLink RX3 174 yX3_howMany, Cond.instanceMethod yX3_howMany, Cond.selects RX3 yX3_howMany yX3_howMany, Cond.initialized RX3, Cond.code yX3_howMany cX3_howMany 2 (some .int), Cond.methodLink RX3 213 yX0_props, Cond.instanceMethod yX0_props, Cond.selects RX0 yX0_props yX0_props, Cond.initialized RX0, Cond.code yX0_props cX0_props 1 (some .int), Cond.fieldLink RX0 21 "Cascadecourt$Juggler" "props" "I", Cond.methodLink RX3 138 yX0_state, Cond.instanceMethod yX0_state, Cond.selects RX0 yX0_state yX0_state, Cond.code yX0_state cX0_state 4 (some .int), Cond.methodLink RX0 50 yX0_beatsTillLanding, Cond.instanceMethod yX0_beatsTillLanding, Cond.selects RX0 yX0_beatsTillLanding yX0_beatsTillLanding, Cond.code yX0_beatsTillLanding cX0_beatsTillLanding 3 (some .int)]
def wsX3_digest_r2 : List Cond := [Cond.fieldLink RX0 9 "Cascadecourt$Juggler" "landsAt" "[I", Cond.fieldLink RX0 25 "Cascadecourt$Juggler" "beat" "I", Cond.static yX3_cell, Cond.code yX3_cell cX3_cell 2 (some .int), Cond.methodLink RX3 218 yX0_beat, Cond.instanceMethod yX0_beat, Cond.selects RX0 yX0_beat yX0_beat, Cond.code yX0_beat cX0_beat 1 (some .int), Cond.methodLink RX3 148 yX0_slipsEver, Cond.instanceMethod yX0_slipsEver, Cond.selects RX0 yX0_slipsEver yX0_slipsEver, Cond.code yX0_slipsEver cX0_slipsEver 1 (some .int), Cond.fieldLink RX0 36 "Cascadecourt$Juggler" "slipsEver" "I", Cond.methodLink RX3 221 yX0_droppedProps, Cond.instanceMethod yX0_droppedProps, Cond.selects RX0 yX0_droppedProps yX0_droppedProps, Cond.code yX0_droppedProps cX0_droppedProps 3 (some .int), Cond.methodLink RX0 46 yX0_isDropped, Cond.instanceMethod yX0_isDropped, Cond.selects RX0 yX0_isDropped yX0_isDropped, Cond.code yX0_isDropped cX0_isDropped 2 (some .boolean), Cond.methodLink RX3 224 yX0_flightsOfAll, Cond.instanceMethod yX0_flightsOfAll, Cond.selects RX0 yX0_flightsOfAll yX0_flightsOfAll]
def wsX3_digest_r3 : List Cond := [Cond.code yX0_flightsOfAll cX0_flightsOfAll 3 (some .int), Cond.fieldLink RX0 15 "Cascadecourt$Juggler" "flights" "[I", Cond.methodLink RX3 227 yX3_soundRows, Cond.instanceMethod yX3_soundRows, Cond.selects RX3 yX3_soundRows yX3_soundRows, Cond.code yX3_soundRows cX3_soundRows 4 (some .int), Cond.methodLink RX3 56 yX3_rowNumbered, Cond.instanceMethod yX3_rowNumbered, Cond.selects RX3 yX3_rowNumbered yX3_rowNumbered, Cond.code yX3_rowNumbered cX3_rowNumbered 2 (some (.object "Cascadecourt$Row")), Cond.fieldLink RX3 11 "Cascadecourt" "rows" "[LCascadecourt$Row;", Cond.methodLink RX3 115 yX1_isSound, Cond.instanceMethod yX1_isSound, Cond.selects RX1 yX1_isSound yX1_isSound, Cond.initialized RX1, Cond.code yX1_isSound cX1_isSound 1 (some .boolean), Cond.fieldLink RX1 38 "Cascadecourt$Row" "sound" "Z", Cond.methodLink RX3 230 yX0_propLandingIn, Cond.instanceMethod yX0_propLandingIn, Cond.selects RX0 yX0_propLandingIn yX0_propLandingIn, Cond.code yX0_propLandingIn cX0_propLandingIn 3 (some .int), Cond.methodLink RX3 233 yX0_beatsEver, Cond.instanceMethod yX0_beatsEver, Cond.selects RX0 yX0_beatsEver yX0_beatsEver]
def wsX3_digest_r4 : List Cond := [Cond.code yX0_beatsEver cX0_beatsEver 1 (some .int), Cond.fieldLink RX0 39 "Cascadecourt$Juggler" "beatsEver" "I", Cond.methodLink RX3 209 yX3_addRow, Cond.instanceMethod yX3_addRow, Cond.selects RX3 yX3_addRow yX3_addRow, Cond.code yX3_addRow cX3_addRow 8 (some .long), Cond.methodLink RX3 156 yX1_answer, Cond.instanceMethod yX1_answer, Cond.selects RX1 yX1_answer yX1_answer, Cond.code yX1_answer cX1_answer 2 (some .int), Cond.fieldLink RX1 27 "Cascadecourt$Row" "length" "I", Cond.methodLink RX1 74 yX1_props, Cond.instanceMethod yX1_props, Cond.selects RX1 yX1_props yX1_props, Cond.code yX1_props cX1_props 1 (some .int), Cond.methodLink RX1 102 yX1_sumOfThrows, Cond.instanceMethod yX1_sumOfThrows, Cond.selects RX1 yX1_sumOfThrows yX1_sumOfThrows, Cond.code yX1_sumOfThrows cX1_sumOfThrows 3 (some .int), Cond.fieldLink RX1 9 "Cascadecourt$Row" "heights" "[I", Cond.methodLink RX1 78 yX1_highestThrow, Cond.instanceMethod yX1_highestThrow, Cond.selects RX1 yX1_highestThrow yX1_highestThrow, Cond.code yX1_highestThrow cX1_highestThrow 3 (some .int)]
def wsX3_digest_r5 : List Cond := [Cond.methodLink RX1 105 Lib.Math.max.name, Cond.static Lib.Math.max.name, Cond.initialized "java/lang/Math", Cond.code Lib.Math.max.name Lib.Math.max.code 2 (some .int), Cond.methodLink RX1 81 yX1_crossingThrows, Cond.instanceMethod yX1_crossingThrows, Cond.selects RX1 yX1_crossingThrows yX1_crossingThrows, Cond.code yX1_crossingThrows cX1_crossingThrows 3 (some .int), Cond.methodLink RX1 84 yX1_orbits, Cond.instanceMethod yX1_orbits, Cond.selects RX1 yX1_orbits yX1_orbits, Cond.code yX1_orbits cX1_orbits 3 (some .int), Cond.methodLink RX1 115 yX1_isFirstOfOrbit, Cond.instanceMethod yX1_isFirstOfOrbit, Cond.selects RX1 yX1_isFirstOfOrbit yX1_isFirstOfOrbit, Cond.code yX1_isFirstOfOrbit cX1_isFirstOfOrbit 4 (some .boolean), Cond.fieldLink RX1 18 "Cascadecourt$Row" "landings" "[I", Cond.methodLink RX1 87 yX1_oneIfPrime, Cond.instanceMethod yX1_oneIfPrime, Cond.selects RX1 yX1_oneIfPrime yX1_oneIfPrime, Cond.code yX1_oneIfPrime cX1_oneIfPrime 3 (some .int), Cond.methodLink RX1 99 yX1_stateAt, Cond.instanceMethod yX1_stateAt, Cond.selects RX1 yX1_stateAt yX1_stateAt]
def wsX3_digest_r6 : List Cond := [Cond.code yX1_stateAt cX1_stateAt 2 (some .int), Cond.fieldLink RX1 24 "Cascadecourt$Row" "states" "[I", Cond.methodLink RX1 90 yX1_oneIfGround, Cond.instanceMethod yX1_oneIfGround, Cond.selects RX1 yX1_oneIfGround yX1_oneIfGround, Cond.code yX1_oneIfGround cX1_oneIfGround 3 (some .int), Cond.methodLink RX1 93 yX1_period, Cond.instanceMethod yX1_period, Cond.selects RX1 yX1_period yX1_period, Cond.code yX1_period cX1_period 2 (some .int), Cond.methodLink RX1 111 yX1_isShiftedTo, Cond.instanceMethod yX1_isShiftedTo, Cond.selects RX1 yX1_isShiftedTo yX1_isShiftedTo, Cond.code yX1_isShiftedTo cX1_isShiftedTo 4 (some .boolean), Cond.methodLink RX1 56 yX1_throwAt, Cond.instanceMethod yX1_throwAt, Cond.selects RX1 yX1_throwAt yX1_throwAt, Cond.code yX1_throwAt cX1_throwAt 2 (some .int), Cond.methodLink RX1 48 yX1_siteOf, Cond.instanceMethod yX1_siteOf, Cond.selects RX1 yX1_siteOf yX1_siteOf, Cond.code yX1_siteOf cX1_siteOf 2 (some .int), Cond.methodLink RX1 42 yJ9_floorMod_7cf53, Cond.static yJ9_floorMod_7cf53]
def wsX3_digest_r7 : List Cond := [Cond.initialized RJ9, Cond.code yJ9_floorMod_7cf53 cJ9_floorMod_7cf53 3 (some .int), Cond.methodLink RX1 96 yX1_greatestTurn, Cond.instanceMethod yX1_greatestTurn, Cond.selects RX1 yX1_greatestTurn yX1_greatestTurn, Cond.code yX1_greatestTurn cX1_greatestTurn 3 (some .int), Cond.fieldLink RX1 21 "Cascadecourt$Row" "turns" "[I", Cond.methodLink RX3 124 yX1_length, Cond.instanceMethod yX1_length, Cond.selects RX1 yX1_length yX1_length, Cond.code yX1_length cX1_length 1 (some .int), Cond.methodLink RX3 159 yX1_answerAt, Cond.instanceMethod yX1_answerAt, Cond.selects RX1 yX1_answerAt yX1_answerAt, Cond.code yX1_answerAt cX1_answerAt 3 (some .int), Cond.methodLink RX3 188 yX3_stepsInto, Cond.instanceMethod yX3_stepsInto, Cond.selects RX3 yX3_stepsInto yX3_stepsInto, Cond.code yX3_stepsInto cX3_stepsInto 6 (some .int), Cond.fieldLink RX3 25 "Cascadecourt" "ways" "LCascadecourt$Ways;", Cond.methodLink RX3 250 yX1_props, Cond.methodLink RX3 251 yJ6_bitCount_0f7a4, Cond.static yJ6_bitCount_0f7a4, Cond.initialized RJ6]
def wsX3_digest_r8 : List Cond := [Cond.code yJ6_bitCount_0f7a4 cJ6_bitCount_0f7a4 1 (some .int), Cond.constant RJ6 265 (1431655765), Cond.constant RJ6 266 (858993459), Cond.constant RJ6 267 (252645135), Cond.methodLink RX3 256 yX2_lookFrom, Cond.instanceMethod yX2_lookFrom, Cond.selects RX2 yX2_lookFrom yX2_lookFrom, Cond.initialized RX2, Cond.code yX2_lookFrom cX2_lookFrom 4 none, Cond.fieldLink RX2 21 "Cascadecourt$Ways" "start" "I", Cond.fieldLink RX2 9 "Cascadecourt$Ways" "steps" "[I", Cond.fieldLink RX2 15 "Cascadecourt$Ways" "firstThrows" "[I", Cond.fieldLink RX2 18 "Cascadecourt$Ways" "waiting" "[I", Cond.methodLink RX2 29 yJ7_fill_53178, Cond.static yJ7_fill_53178, Cond.initialized RJ7, Cond.code yJ7_fill_53178 cJ7_fill_53178 4 none, Cond.static yX3_setCell, Cond.code yX3_setCell cX3_setCell 3 none, Cond.methodLink RX2 39 yX2_lookOnFrom, Cond.instanceMethod yX2_lookOnFrom, Cond.selects RX2 yX2_lookOnFrom yX2_lookOnFrom, Cond.code yX2_lookOnFrom cX2_lookOnFrom 6 (some .int), Cond.static yX3_stateBehind]
def wsX3_digest_r9 : List Cond := [Cond.code yX3_stateBehind cX3_stateBehind 4 (some .int), Cond.methodLink RX3 259 yX1_stateAt, Cond.methodLink RX3 262 yX2_stepsTo, Cond.instanceMethod yX2_stepsTo, Cond.selects RX2 yX2_stepsTo yX2_stepsTo, Cond.code yX2_stepsTo cX2_stepsTo 2 (some .int), Cond.methodLink RX3 192 yX3_firstThrowInto, Cond.instanceMethod yX3_firstThrowInto, Cond.selects RX3 yX3_firstThrowInto yX3_firstThrowInto, Cond.code yX3_firstThrowInto cX3_firstThrowInto 6 (some .int), Cond.methodLink RX3 265 yX2_firstThrowTo, Cond.instanceMethod yX2_firstThrowTo, Cond.selects RX2 yX2_firstThrowTo yX2_firstThrowTo, Cond.code yX2_firstThrowTo cX2_firstThrowTo 2 (some .int), Cond.methodLink RX3 171 yX0_answerOf, Cond.instanceMethod yX0_answerOf, Cond.selects RX0 yX0_answerOf yX0_answerOf, Cond.code yX0_answerOf cX0_answerOf 3 (some .int), Cond.fieldLink RX0 18 "Cascadecourt$Juggler" "drops" "[I", Cond.methodLink RX0 54 yX0_handOf, Cond.instanceMethod yX0_handOf, Cond.selects RX0 yX0_handOf yX0_handOf, Cond.code yX0_handOf cX0_handOf 2 (some .int), Cond.methodLink RX3 185 yX3_stateBehind]
def wsX3_digest_r10 : List Cond := [Cond.methodLink RX3 177 yX0_tiredness, Cond.instanceMethod yX0_tiredness, Cond.selects RX0 yX0_tiredness yX0_tiredness, Cond.code yX0_tiredness cX0_tiredness 1 (some .double), Cond.fieldLink RX0 28 "Cascadecourt$Juggler" "tiredness" "D"]
def wsX3_digest : List Cond := .code yX3_digest cX3_digest 5 (some .long) :: ((wsX3_digest_r1 ++ (wsX3_digest_r2 ++ (wsX3_digest_r3 ++ (wsX3_digest_r4 ++ (wsX3_digest_r5 ++ (wsX3_digest_r6 ++ (wsX3_digest_r7 ++ (wsX3_digest_r8 ++ (wsX3_digest_r9 ++ wsX3_digest_r10))))))))) ++ wsX30 ++ wsX00 ++ wsX10 ++ wsX20)
def wsJ9_max_7cf53 : List Cond := .code yJ9_max_7cf53 cJ9_max_7cf53 2 (some .int) :: ([])
def wsL_below : List Cond := .code yL_below cL_below 2 (some .int) :: ([.constant RL 7 (2147483647)])
def wsL_cell : List Cond := .code yL_cell cL_cell 2 (some .int) :: ([.constant RL 8 (790386105)])
def wsL_row : List Cond := .code yL_row cL_row 8 (some (.array .int)) :: ([.arrayClass .int, .arrayClass .boolean, .methodLink RL 9 yL_cell, .static yL_cell, .initialized RL, .code yL_cell cL_cell 2 (some .int), .constant RL 8 (790386105), .methodLink RL 15 yL_below, .static yL_below, .code yL_below cL_below 2 (some .int), .constant RL 7 (2147483647), .methodLink RL 19 yJ9_floorMod_7cf53, .static yJ9_floorMod_7cf53, .initialized RJ9, .code yJ9_floorMod_7cf53 cJ9_floorMod_7cf53 3 (some .int)])
def wsL_number : List Cond := .code yL_number cL_number 6 (some .int) :: ([])
def wsL_isShared_r1 : List Cond := [Cond.methodLink RL 95 Lib.Math.max.name, Cond.static Lib.Math.max.name, Cond.initialized "java/lang/Math", Cond.code Lib.Math.max.name Lib.Math.max.code 2 (some .int), Cond.methodLink RL 38 yX3_ofRow, Cond.instanceMethod yX3_ofRow, Cond.selects RX3 yX3_ofRow yX3_ofRow, Cond.initialized RX3, Cond.code yX3_ofRow cX3_ofRow 4 (some .int), Cond.classLink RX3 60 "java/lang/IndexOutOfBoundsException", Cond.initialized "java/lang/IndexOutOfBoundsException", Cond.classLink RX3 41 "java/lang/IllegalArgumentException", Cond.initialized "java/lang/IllegalArgumentException", Cond.methodLink RX3 56 yX3_rowNumbered, Cond.instanceMethod yX3_rowNumbered, Cond.selects RX3 yX3_rowNumbered yX3_rowNumbered, Cond.code yX3_rowNumbered cX3_rowNumbered 2 (some (.object "Cascadecourt$Row")), Cond.fieldLink RX3 29 "Cascadecourt" "rowsTold" "I", Cond.fieldLink RX3 11 "Cascadecourt" "rows" "[LCascadecourt$Row;", Cond.methodLink RX3 33 yX3_isWithin, Cond.static yX3_isWithin, Cond.code yX3_isWithin cX3_isWithin 3 (some .boolean), Cond.methodLink RX3 156 yX1_answer, Cond.instanceMethod yX1_answer]
def wsL_isShared_r2 : List Cond := [Cond.selects RX1 yX1_answer yX1_answer, Cond.initialized RX1, Cond.code yX1_answer cX1_answer 2 (some .int), Cond.fieldLink RX1 27 "Cascadecourt$Row" "length" "I", Cond.fieldLink RX1 38 "Cascadecourt$Row" "sound" "Z", Cond.methodLink RX1 74 yX1_props, Cond.instanceMethod yX1_props, Cond.selects RX1 yX1_props yX1_props, Cond.code yX1_props cX1_props 1 (some .int), Cond.methodLink RX1 102 yX1_sumOfThrows, Cond.instanceMethod yX1_sumOfThrows, Cond.selects RX1 yX1_sumOfThrows yX1_sumOfThrows, Cond.code yX1_sumOfThrows cX1_sumOfThrows 3 (some .int), Cond.fieldLink RX1 9 "Cascadecourt$Row" "heights" "[I", Cond.static yX3_cell, Cond.code yX3_cell cX3_cell 2 (some .int), Cond.methodLink RX1 78 yX1_highestThrow, Cond.instanceMethod yX1_highestThrow, Cond.selects RX1 yX1_highestThrow yX1_highestThrow, Cond.code yX1_highestThrow cX1_highestThrow 3 (some .int), Cond.methodLink RX1 105 Lib.Math.max.name, Cond.methodLink RX1 81 yX1_crossingThrows, Cond.instanceMethod yX1_crossingThrows, Cond.selects RX1 yX1_crossingThrows yX1_crossingThrows]
def wsL_isShared_r3 : List Cond := [Cond.code yX1_crossingThrows cX1_crossingThrows 3 (some .int), Cond.methodLink RX1 84 yX1_orbits, Cond.instanceMethod yX1_orbits, Cond.selects RX1 yX1_orbits yX1_orbits, Cond.code yX1_orbits cX1_orbits 3 (some .int), Cond.methodLink RX1 115 yX1_isFirstOfOrbit, Cond.instanceMethod yX1_isFirstOfOrbit, Cond.selects RX1 yX1_isFirstOfOrbit yX1_isFirstOfOrbit, Cond.code yX1_isFirstOfOrbit cX1_isFirstOfOrbit 4 (some .boolean), Cond.fieldLink RX1 18 "Cascadecourt$Row" "landings" "[I", Cond.methodLink RX1 87 yX1_oneIfPrime, Cond.instanceMethod yX1_oneIfPrime, Cond.selects RX1 yX1_oneIfPrime yX1_oneIfPrime, Cond.code yX1_oneIfPrime cX1_oneIfPrime 3 (some .int), Cond.methodLink RX1 99 yX1_stateAt, Cond.instanceMethod yX1_stateAt, Cond.selects RX1 yX1_stateAt yX1_stateAt, Cond.code yX1_stateAt cX1_stateAt 2 (some .int), Cond.fieldLink RX1 24 "Cascadecourt$Row" "states" "[I", Cond.methodLink RX1 90 yX1_oneIfGround, Cond.instanceMethod yX1_oneIfGround, Cond.selects RX1 yX1_oneIfGround yX1_oneIfGround, Cond.code yX1_oneIfGround cX1_oneIfGround 3 (some .int), Cond.methodLink RX1 93 yX1_period]
def wsL_isShared_r4 : List Cond := [Cond.instanceMethod yX1_period, Cond.selects RX1 yX1_period yX1_period, Cond.code yX1_period cX1_period 2 (some .int), Cond.methodLink RX1 111 yX1_isShiftedTo, Cond.instanceMethod yX1_isShiftedTo, Cond.selects RX1 yX1_isShiftedTo yX1_isShiftedTo, Cond.code yX1_isShiftedTo cX1_isShiftedTo 4 (some .boolean), Cond.methodLink RX1 56 yX1_throwAt, Cond.instanceMethod yX1_throwAt, Cond.selects RX1 yX1_throwAt yX1_throwAt, Cond.code yX1_throwAt cX1_throwAt 2 (some .int), Cond.methodLink RX1 48 yX1_siteOf, Cond.instanceMethod yX1_siteOf, Cond.selects RX1 yX1_siteOf yX1_siteOf, Cond.code yX1_siteOf cX1_siteOf 2 (some .int), Cond.methodLink RX1 42 yJ9_floorMod_7cf53, Cond.static yJ9_floorMod_7cf53, Cond.initialized RJ9, Cond.code yJ9_floorMod_7cf53 cJ9_floorMod_7cf53 3 (some .int), Cond.methodLink RX1 96 yX1_greatestTurn, Cond.instanceMethod yX1_greatestTurn, Cond.selects RX1 yX1_greatestTurn yX1_greatestTurn, Cond.code yX1_greatestTurn cX1_greatestTurn 3 (some .int), Cond.fieldLink RX1 21 "Cascadecourt$Row" "turns" "[I"]
def wsL_isShared_r5 : List Cond := [Cond.methodLink RL 91 yX3_ofSite, Cond.instanceMethod yX3_ofSite, Cond.selects RX3 yX3_ofSite yX3_ofSite, Cond.code yX3_ofSite cX3_ofSite 5 (some .int), Cond.methodLink RX3 71 yX1_hasSite, Cond.instanceMethod yX1_hasSite, Cond.selects RX1 yX1_hasSite yX1_hasSite, Cond.code yX1_hasSite cX1_hasSite 2 (some .boolean), Cond.methodLink RX3 159 yX1_answerAt, Cond.instanceMethod yX1_answerAt, Cond.selects RX1 yX1_answerAt yX1_answerAt, Cond.code yX1_answerAt cX1_answerAt 3 (some .int), Cond.methodLink RL 58 yJ6_bitCount_0f7a4, Cond.static yJ6_bitCount_0f7a4, Cond.initialized RJ6, Cond.code yJ6_bitCount_0f7a4 cJ6_bitCount_0f7a4 1 (some .int), Cond.constant RJ6 265 (1431655765), Cond.constant RJ6 266 (858993459), Cond.constant RJ6 267 (252645135)]
def wsL_isShared : List Cond := .code yL_isShared cL_isShared 6 (some .boolean) :: ((wsL_isShared_r1 ++ (wsL_isShared_r2 ++ (wsL_isShared_r3 ++ (wsL_isShared_r4 ++ wsL_isShared_r5)))) ++ wsX30 ++ wsX10 ++ (vx_atS RX3 64 "java/lang/IndexOutOfBoundsException" ["java/lang/RuntimeException", "java/lang/Exception"]).filter goodWord ++ (vx_atS RX3 45 "java/lang/IllegalArgumentException" ["java/lang/RuntimeException", "java/lang/Exception"]).filter goodWord)
def wsL_law0_r1 : List Cond := [Cond.classLink RL 24 RX3, Cond.instantiable RX3 4, Cond.initialized RX3, Cond.methodLink RL 26 yX3_init, Cond.instanceMethod yX3_init, Cond.code yX3_init cX3_init 1 none, Cond.methodLink RX3 1 objectInit, Cond.instanceMethod objectInit, Cond.code objectInit ⟨#[0xb1]⟩ 1 none, Cond.classLink RX3 9 RX1, Cond.fieldLink RX3 11 "Cascadecourt" "rows" "[LCascadecourt$Row;", Cond.classLink RX3 15 RX0, Cond.instantiable RX0 8, Cond.initialized RX0, Cond.fieldLink RX3 18 "Cascadecourt" "juggler" "LCascadecourt$Juggler;", Cond.classLink RX3 22 RX2, Cond.instantiable RX2 4, Cond.initialized RX2, Cond.fieldLink RX3 25 "Cascadecourt" "ways" "LCascadecourt$Ways;", Cond.fieldLink RX3 29 "Cascadecourt" "rowsTold" "I", Cond.instanceMethod yX0_init, Cond.code yX0_init cX0_init 1 none, Cond.methodLink RX0 3 objectInit, Cond.arrayClass .int]
def wsL_law0_r2 : List Cond := [Cond.fieldLink RX0 9 "Cascadecourt$Juggler" "landsAt" "[I", Cond.fieldLink RX0 15 "Cascadecourt$Juggler" "flights" "[I", Cond.fieldLink RX0 18 "Cascadecourt$Juggler" "drops" "[I", Cond.instanceMethod yX2_init, Cond.code yX2_init cX2_init 1 none, Cond.methodLink RX2 3 objectInit, Cond.fieldLink RX2 9 "Cascadecourt$Ways" "steps" "[I", Cond.fieldLink RX2 15 "Cascadecourt$Ways" "firstThrows" "[I", Cond.fieldLink RX2 18 "Cascadecourt$Ways" "waiting" "[I", Cond.fieldLink RX2 21 "Cascadecourt$Ways" "start" "I", Cond.methodLink RL 27 yL_row, Cond.static yL_row, Cond.initialized RL, Cond.code yL_row cL_row 8 (some (.array .int)), Cond.arrayClass .boolean, Cond.methodLink RL 9 yL_cell, Cond.static yL_cell, Cond.code yL_cell cL_cell 2 (some .int), Cond.constant RL 8 (790386105), Cond.methodLink RL 15 yL_below, Cond.static yL_below, Cond.code yL_below cL_below 2 (some .int), Cond.constant RL 7 (2147483647), Cond.methodLink RL 19 yJ9_floorMod_7cf53]
def wsL_law0_r3 : List Cond := [Cond.static yJ9_floorMod_7cf53, Cond.initialized RJ9, Cond.code yJ9_floorMod_7cf53 cJ9_floorMod_7cf53 3 (some .int), Cond.methodLink RL 31 yL_number, Cond.static yL_number, Cond.code yL_number cL_number 6 (some .int), Cond.methodLink RL 35 yX3_tell, Cond.instanceMethod yX3_tell, Cond.selects RX3 yX3_tell yX3_tell, Cond.code yX3_tell cX3_tell 4 (some .int), Cond.classLink RX3 41 "java/lang/IllegalArgumentException", Cond.initialized "java/lang/IllegalArgumentException", Cond.classLink RX3 48 "java/lang/IllegalStateException", Cond.initialized "java/lang/IllegalStateException", Cond.instantiable RX1 7, Cond.initialized RX1, Cond.methodLink RX3 33 yX3_isWithin, Cond.static yX3_isWithin, Cond.code yX3_isWithin cX3_isWithin 3 (some .boolean), Cond.methodLink RX3 37 yX3_firstNumberLongerThan, Cond.static yX3_firstNumberLongerThan, Cond.code yX3_firstNumberLongerThan cX3_firstNumberLongerThan 3 (some .int), Cond.methodLink RX3 53 yX1_init, Cond.instanceMethod yX1_init]
def wsL_law0_r4 : List Cond := [Cond.code yX1_init cX1_init 5 none, Cond.methodLink RX1 3 objectInit, Cond.fieldLink RX1 9 "Cascadecourt$Row" "heights" "[I", Cond.fieldLink RX1 15 "Cascadecourt$Row" "work" "[I", Cond.fieldLink RX1 18 "Cascadecourt$Row" "landings" "[I", Cond.fieldLink RX1 21 "Cascadecourt$Row" "turns" "[I", Cond.fieldLink RX1 24 "Cascadecourt$Row" "states" "[I", Cond.fieldLink RX1 27 "Cascadecourt$Row" "length" "I", Cond.static yX3_setCell, Cond.code yX3_setCell cX3_setCell 3 none, Cond.methodLink RX1 35 yX1_settle, Cond.instanceMethod yX1_settle, Cond.selects RX1 yX1_settle yX1_settle, Cond.code yX1_settle cX1_settle 4 none, Cond.fieldLink RX1 38 "Cascadecourt$Row" "sound" "Z", Cond.static yX3_cell, Cond.code yX3_cell cX3_cell 2 (some .int), Cond.methodLink RX1 48 yX1_siteOf, Cond.instanceMethod yX1_siteOf, Cond.selects RX1 yX1_siteOf yX1_siteOf, Cond.code yX1_siteOf cX1_siteOf 2 (some .int), Cond.methodLink RX1 42 yJ9_floorMod_7cf53, Cond.methodLink RX1 63 yJ6_bitCount_0f7a4, Cond.static yJ6_bitCount_0f7a4]
def wsL_law0_r5 : List Cond := [Cond.initialized RJ6, Cond.code yJ6_bitCount_0f7a4 cJ6_bitCount_0f7a4 1 (some .int), Cond.constant RJ6 265 (1431655765), Cond.constant RJ6 266 (858993459), Cond.constant RJ6 267 (252645135), Cond.methodLink RX1 68 yX1_turnFrom, Cond.instanceMethod yX1_turnFrom, Cond.selects RX1 yX1_turnFrom yX1_turnFrom, Cond.code yX1_turnFrom cX1_turnFrom 5 (some .int), Cond.methodLink RX1 71 yX1_stateBefore, Cond.instanceMethod yX1_stateBefore, Cond.selects RX1 yX1_stateBefore yX1_stateBefore, Cond.code yX1_stateBefore cX1_stateBefore 5 (some .int), Cond.methodLink RX1 56 yX1_throwAt, Cond.instanceMethod yX1_throwAt, Cond.selects RX1 yX1_throwAt yX1_throwAt, Cond.code yX1_throwAt cX1_throwAt 2 (some .int), Cond.methodLink RL 38 yX3_ofRow, Cond.instanceMethod yX3_ofRow, Cond.selects RX3 yX3_ofRow yX3_ofRow, Cond.code yX3_ofRow cX3_ofRow 4 (some .int), Cond.classLink RX3 60 "java/lang/IndexOutOfBoundsException", Cond.initialized "java/lang/IndexOutOfBoundsException", Cond.methodLink RX3 56 yX3_rowNumbered]
def wsL_law0_r6 : List Cond := [Cond.instanceMethod yX3_rowNumbered, Cond.selects RX3 yX3_rowNumbered yX3_rowNumbered, Cond.code yX3_rowNumbered cX3_rowNumbered 2 (some (.object "Cascadecourt$Row")), Cond.methodLink RX3 156 yX1_answer, Cond.instanceMethod yX1_answer, Cond.selects RX1 yX1_answer yX1_answer, Cond.code yX1_answer cX1_answer 2 (some .int), Cond.methodLink RX1 74 yX1_props, Cond.instanceMethod yX1_props, Cond.selects RX1 yX1_props yX1_props, Cond.code yX1_props cX1_props 1 (some .int), Cond.methodLink RX1 102 yX1_sumOfThrows, Cond.instanceMethod yX1_sumOfThrows, Cond.selects RX1 yX1_sumOfThrows yX1_sumOfThrows, Cond.code yX1_sumOfThrows cX1_sumOfThrows 3 (some .int), Cond.methodLink RX1 78 yX1_highestThrow, Cond.instanceMethod yX1_highestThrow, Cond.selects RX1 yX1_highestThrow yX1_highestThrow, Cond.code yX1_highestThrow cX1_highestThrow 3 (some .int), Cond.methodLink RX1 105 Lib.Math.max.name, Cond.static Lib.Math.max.name, Cond.initialized "java/lang/Math", Cond.code Lib.Math.max.name Lib.Math.max.code 2 (some .int), Cond.methodLink RX1 81 yX1_crossingThrows]
def wsL_law0_r7 : List Cond := [Cond.instanceMethod yX1_crossingThrows, Cond.selects RX1 yX1_crossingThrows yX1_crossingThrows, Cond.code yX1_crossingThrows cX1_crossingThrows 3 (some .int), Cond.methodLink RX1 84 yX1_orbits, Cond.instanceMethod yX1_orbits, Cond.selects RX1 yX1_orbits yX1_orbits, Cond.code yX1_orbits cX1_orbits 3 (some .int), Cond.methodLink RX1 115 yX1_isFirstOfOrbit, Cond.instanceMethod yX1_isFirstOfOrbit, Cond.selects RX1 yX1_isFirstOfOrbit yX1_isFirstOfOrbit, Cond.code yX1_isFirstOfOrbit cX1_isFirstOfOrbit 4 (some .boolean), Cond.methodLink RX1 87 yX1_oneIfPrime, Cond.instanceMethod yX1_oneIfPrime, Cond.selects RX1 yX1_oneIfPrime yX1_oneIfPrime, Cond.code yX1_oneIfPrime cX1_oneIfPrime 3 (some .int), Cond.methodLink RX1 99 yX1_stateAt, Cond.instanceMethod yX1_stateAt, Cond.selects RX1 yX1_stateAt yX1_stateAt, Cond.code yX1_stateAt cX1_stateAt 2 (some .int), Cond.methodLink RX1 90 yX1_oneIfGround, Cond.instanceMethod yX1_oneIfGround, Cond.selects RX1 yX1_oneIfGround yX1_oneIfGround, Cond.code yX1_oneIfGround cX1_oneIfGround 3 (some .int), Cond.methodLink RX1 93 yX1_period]
def wsL_law0_r8 : List Cond := [Cond.instanceMethod yX1_period, Cond.selects RX1 yX1_period yX1_period, Cond.code yX1_period cX1_period 2 (some .int), Cond.methodLink RX1 111 yX1_isShiftedTo, Cond.instanceMethod yX1_isShiftedTo, Cond.selects RX1 yX1_isShiftedTo yX1_isShiftedTo, Cond.code yX1_isShiftedTo cX1_isShiftedTo 4 (some .boolean), Cond.methodLink RX1 96 yX1_greatestTurn, Cond.instanceMethod yX1_greatestTurn, Cond.selects RX1 yX1_greatestTurn yX1_greatestTurn, Cond.code yX1_greatestTurn cX1_greatestTurn 3 (some .int), Cond.methodLink RL 41 yL_isShared, Cond.static yL_isShared, Cond.code yL_isShared cL_isShared 6 (some .boolean), Cond.methodLink RL 95 Lib.Math.max.name, Cond.methodLink RL 91 yX3_ofSite, Cond.instanceMethod yX3_ofSite, Cond.selects RX3 yX3_ofSite yX3_ofSite, Cond.code yX3_ofSite cX3_ofSite 5 (some .int), Cond.methodLink RX3 71 yX1_hasSite, Cond.instanceMethod yX1_hasSite, Cond.selects RX1 yX1_hasSite yX1_hasSite, Cond.code yX1_hasSite cX1_hasSite 2 (some .boolean), Cond.methodLink RX3 159 yX1_answerAt]
def wsL_law0_r9 : List Cond := [Cond.instanceMethod yX1_answerAt, Cond.selects RX1 yX1_answerAt yX1_answerAt, Cond.code yX1_answerAt cX1_answerAt 3 (some .int), Cond.methodLink RL 58 yJ6_bitCount_0f7a4, Cond.methodLink RL 45 yX3_take, Cond.instanceMethod yX3_take, Cond.selects RX3 yX3_take yX3_take, Cond.code yX3_take cX3_take 2 (some .int), Cond.methodLink RX3 135 yX0_startWith, Cond.instanceMethod yX0_startWith, Cond.selects RX0 yX0_startWith yX0_startWith, Cond.code yX0_startWith cX0_startWith 3 none, Cond.fieldLink RX0 21 "Cascadecourt$Juggler" "props" "I", Cond.fieldLink RX0 25 "Cascadecourt$Juggler" "beat" "I", Cond.fieldLink RX0 28 "Cascadecourt$Juggler" "tiredness" "D", Cond.methodLink RX3 138 yX0_state, Cond.instanceMethod yX0_state, Cond.selects RX0 yX0_state yX0_state, Cond.code yX0_state cX0_state 4 (some .int), Cond.methodLink RX0 50 yX0_beatsTillLanding, Cond.instanceMethod yX0_beatsTillLanding, Cond.selects RX0 yX0_beatsTillLanding yX0_beatsTillLanding, Cond.code yX0_beatsTillLanding cX0_beatsTillLanding 3 (some .int), Cond.methodLink RL 49 yX3_many]
def wsL_law0_r10 : List Cond := [Cond.instanceMethod yX3_many, Cond.selects RX3 yX3_many yX3_many, Cond.code yX3_many cX3_many 2 (some .int), Cond.methodLink RX3 174 yX3_howMany, Cond.instanceMethod yX3_howMany, Cond.selects RX3 yX3_howMany yX3_howMany, Cond.code yX3_howMany cX3_howMany 2 (some .int), Cond.methodLink RX3 213 yX0_props, Cond.instanceMethod yX0_props, Cond.selects RX0 yX0_props yX0_props, Cond.code yX0_props cX0_props 1 (some .int), Cond.methodLink RX3 218 yX0_beat, Cond.instanceMethod yX0_beat, Cond.selects RX0 yX0_beat yX0_beat, Cond.code yX0_beat cX0_beat 1 (some .int), Cond.methodLink RX3 148 yX0_slipsEver, Cond.instanceMethod yX0_slipsEver, Cond.selects RX0 yX0_slipsEver yX0_slipsEver, Cond.code yX0_slipsEver cX0_slipsEver 1 (some .int), Cond.fieldLink RX0 36 "Cascadecourt$Juggler" "slipsEver" "I", Cond.methodLink RX3 221 yX0_droppedProps, Cond.instanceMethod yX0_droppedProps, Cond.selects RX0 yX0_droppedProps yX0_droppedProps, Cond.code yX0_droppedProps cX0_droppedProps 3 (some .int)]
def wsL_law0_r11 : List Cond := [Cond.methodLink RX0 46 yX0_isDropped, Cond.instanceMethod yX0_isDropped, Cond.selects RX0 yX0_isDropped yX0_isDropped, Cond.code yX0_isDropped cX0_isDropped 2 (some .boolean), Cond.methodLink RX3 224 yX0_flightsOfAll, Cond.instanceMethod yX0_flightsOfAll, Cond.selects RX0 yX0_flightsOfAll yX0_flightsOfAll, Cond.code yX0_flightsOfAll cX0_flightsOfAll 3 (some .int), Cond.methodLink RX3 227 yX3_soundRows, Cond.instanceMethod yX3_soundRows, Cond.selects RX3 yX3_soundRows yX3_soundRows, Cond.code yX3_soundRows cX3_soundRows 4 (some .int), Cond.methodLink RX3 115 yX1_isSound, Cond.instanceMethod yX1_isSound, Cond.selects RX1 yX1_isSound yX1_isSound, Cond.code yX1_isSound cX1_isSound 1 (some .boolean), Cond.methodLink RX3 230 yX0_propLandingIn, Cond.instanceMethod yX0_propLandingIn, Cond.selects RX0 yX0_propLandingIn yX0_propLandingIn, Cond.code yX0_propLandingIn cX0_propLandingIn 3 (some .int), Cond.methodLink RX3 233 yX0_beatsEver, Cond.instanceMethod yX0_beatsEver, Cond.selects RX0 yX0_beatsEver yX0_beatsEver, Cond.code yX0_beatsEver cX0_beatsEver 1 (some .int)]
def wsL_law0_r12 : List Cond := [Cond.fieldLink RX0 39 "Cascadecourt$Juggler" "beatsEver" "I", Cond.methodLink RL 52 yX3_would, Cond.instanceMethod yX3_would, Cond.selects RX3 yX3_would yX3_would, Cond.code yX3_would cX3_would 2 (some .int), Cond.methodLink RX3 90 yX3_isThrow, Cond.static yX3_isThrow, Cond.code yX3_isThrow cX3_isThrow 1 (some .boolean), Cond.methodLink RX3 185 yX3_stateBehind, Cond.static yX3_stateBehind, Cond.code yX3_stateBehind cX3_stateBehind 4 (some .int), Cond.methodLink RL 55 yX3_toss, Cond.instanceMethod yX3_toss, Cond.selects RX3 yX3_toss yX3_toss, Cond.code yX3_toss cX3_toss 2 (some .int), Cond.methodLink RX3 143 yX0_throwNow, Cond.instanceMethod yX0_throwNow, Cond.selects RX0 yX0_throwNow yX0_throwNow, Cond.code yX0_throwNow cX0_throwNow 3 (some .int), Cond.methodLink RX0 57 yX0_state, Cond.methodLink RX0 65 yX0_slip, Cond.instanceMethod yX0_slip, Cond.selects RX0 yX0_slip yX0_slip, Cond.code yX0_slip cX0_slip 4 none]
def wsL_law0_r13 : List Cond := [Cond.methodLink RX0 69 yX0_propLandingIn, Cond.methodLink RX0 79 yX0_dropProp, Cond.instanceMethod yX0_dropProp, Cond.selects RX0 yX0_dropProp yX0_dropProp, Cond.code yX0_dropProp cX0_dropProp 2 none, Cond.methodLink RX0 72 yX0_sendUp, Cond.instanceMethod yX0_sendUp, Cond.selects RX0 yX0_sendUp yX0_sendUp, Cond.code yX0_sendUp cX0_sendUp 3 none, Cond.methodLink RX0 76 yX0_tire, Cond.instanceMethod yX0_tire, Cond.selects RX0 yX0_tire yX0_tire, Cond.code yX0_tire cX0_tire 5 none, Cond.constantDouble RX0 82 (4598175219545276416), Cond.constantDouble RX0 84 (4593671619917905920), Cond.methodLink RL 63 yX3_tired, Cond.instanceMethod yX3_tired, Cond.selects RX3 yX3_tired yX3_tired, Cond.code yX3_tired cX3_tired 1 (some .double), Cond.methodLink RX3 177 yX0_tiredness, Cond.instanceMethod yX0_tiredness, Cond.selects RX0 yX0_tiredness yX0_tiredness, Cond.code yX0_tiredness cX0_tiredness 1 (some .double), Cond.methodLink RL 67 yX3_pick]
def wsL_law0_r14 : List Cond := [Cond.instanceMethod yX3_pick, Cond.selects RX3 yX3_pick yX3_pick, Cond.code yX3_pick cX3_pick 1 (some .int), Cond.methodLink RX3 151 yX0_pickUp, Cond.instanceMethod yX0_pickUp, Cond.selects RX0 yX0_pickUp yX0_pickUp, Cond.code yX0_pickUp cX0_pickUp 2 (some .int), Cond.methodLink RL 71 yX3_digest, Cond.instanceMethod yX3_digest, Cond.selects RX3 yX3_digest yX3_digest, Cond.code yX3_digest cX3_digest 5 (some .long), Cond.constantLong RX3 205 (58305), Cond.constantLong RX3 207 (31), Cond.constantDouble RX3 216 (4620693217682128896), Cond.methodLink RX3 209 yX3_addRow, Cond.instanceMethod yX3_addRow, Cond.selects RX3 yX3_addRow yX3_addRow, Cond.code yX3_addRow cX3_addRow 8 (some .long), Cond.methodLink RX3 124 yX1_length, Cond.instanceMethod yX1_length, Cond.selects RX1 yX1_length yX1_length, Cond.code yX1_length cX1_length 1 (some .int), Cond.methodLink RX3 188 yX3_stepsInto, Cond.instanceMethod yX3_stepsInto]
def wsL_law0_r15 : List Cond := [Cond.selects RX3 yX3_stepsInto yX3_stepsInto, Cond.code yX3_stepsInto cX3_stepsInto 6 (some .int), Cond.methodLink RX3 250 yX1_props, Cond.methodLink RX3 251 yJ6_bitCount_0f7a4, Cond.methodLink RX3 256 yX2_lookFrom, Cond.instanceMethod yX2_lookFrom, Cond.selects RX2 yX2_lookFrom yX2_lookFrom, Cond.code yX2_lookFrom cX2_lookFrom 4 none, Cond.methodLink RX2 29 yJ7_fill_53178, Cond.static yJ7_fill_53178, Cond.initialized RJ7, Cond.code yJ7_fill_53178 cJ7_fill_53178 4 none, Cond.methodLink RX2 39 yX2_lookOnFrom, Cond.instanceMethod yX2_lookOnFrom, Cond.selects RX2 yX2_lookOnFrom yX2_lookOnFrom, Cond.code yX2_lookOnFrom cX2_lookOnFrom 6 (some .int), Cond.methodLink RX3 259 yX1_stateAt, Cond.methodLink RX3 262 yX2_stepsTo, Cond.instanceMethod yX2_stepsTo, Cond.selects RX2 yX2_stepsTo yX2_stepsTo, Cond.code yX2_stepsTo cX2_stepsTo 2 (some .int), Cond.methodLink RX3 192 yX3_firstThrowInto, Cond.instanceMethod yX3_firstThrowInto, Cond.selects RX3 yX3_firstThrowInto yX3_firstThrowInto]
def wsL_law0_r16 : List Cond := [Cond.code yX3_firstThrowInto cX3_firstThrowInto 6 (some .int), Cond.methodLink RX3 265 yX2_firstThrowTo, Cond.instanceMethod yX2_firstThrowTo, Cond.selects RX2 yX2_firstThrowTo yX2_firstThrowTo, Cond.code yX2_firstThrowTo cX2_firstThrowTo 2 (some .int), Cond.methodLink RX3 171 yX0_answerOf, Cond.instanceMethod yX0_answerOf, Cond.selects RX0 yX0_answerOf yX0_answerOf, Cond.code yX0_answerOf cX0_answerOf 3 (some .int), Cond.methodLink RX0 54 yX0_handOf, Cond.instanceMethod yX0_handOf, Cond.selects RX0 yX0_handOf yX0_handOf, Cond.code yX0_handOf cX0_handOf 2 (some .int), Cond.methodLink RL 75 yX3_way, Cond.instanceMethod yX3_way, Cond.selects RX3 yX3_way yX3_way, Cond.code yX3_way cX3_way 3 (some .int), Cond.methodLink RL 78 yX3_first, Cond.instanceMethod yX3_first, Cond.selects RX3 yX3_first yX3_first, Cond.code yX3_first cX3_first 3 (some .int), Cond.methodLink RL 81 yX3_alike, Cond.instanceMethod yX3_alike, Cond.selects RX3 yX3_alike yX3_alike]
def wsL_law0_r17 : List Cond := [Cond.code yX3_alike cX3_alike 6 (some .int), Cond.methodLink RX3 201 yX1_isShiftedTo, Cond.methodLink RL 84 yX3_high, Cond.instanceMethod yX3_high, Cond.selects RX3 yX3_high yX3_high, Cond.code yX3_high cX3_high 3 (some .double), Cond.methodLink RX3 105 yX1_highestThrow, Cond.methodLink RX3 181 yX3_metresOf, Cond.static yX3_metresOf, Cond.code yX3_metresOf cX3_metresOf 3 (some .double), Cond.constantDouble RX3 236 (4608195728716175770), Cond.constantDouble RX3 238 (4598175219545276416), Cond.constantDouble RX3 240 (4616189618054758400), Cond.methodLink RX3 242 yX3_nearestWhole, Cond.static yX3_nearestWhole, Cond.code yX3_nearestWhole cX3_nearestWhole 7 (some .double), Cond.constantDouble RX3 246 (4602678819172646912), Cond.constantLong RX3 248 (2), Cond.methodLink RL 88 yX3_count, Cond.instanceMethod yX3_count, Cond.selects RX3 yX3_count yX3_count, Cond.code yX3_count cX3_count 3 (some .int), Cond.methodLink RX3 197 yX3_soundRowsFrom, Cond.static yX3_soundRowsFrom]
def wsL_law0_r18 : List Cond := [Cond.code yX3_soundRowsFrom cX3_soundRowsFrom 7 (some .int)]
def wsL_law0 : List Cond := (wsL_law0_r1 ++ (wsL_law0_r2 ++ (wsL_law0_r3 ++ (wsL_law0_r4 ++ (wsL_law0_r5 ++ (wsL_law0_r6 ++ (wsL_law0_r7 ++ (wsL_law0_r8 ++ (wsL_law0_r9 ++ (wsL_law0_r10 ++ (wsL_law0_r11 ++ (wsL_law0_r12 ++ (wsL_law0_r13 ++ (wsL_law0_r14 ++ (wsL_law0_r15 ++ (wsL_law0_r16 ++ (wsL_law0_r17 ++ wsL_law0_r18))))))))))))))))) ++ wsX30 ++ wsX00 ++ wsX20 ++ wsX10 ++ ([] : List Cond)
def wsL_law : List Cond := wsL_law0 ++ (vx_atS RX3 45 "java/lang/IllegalArgumentException" ["java/lang/RuntimeException", "java/lang/Exception"]).filter goodWord ++ (vx_atS RX3 52 "java/lang/IllegalStateException" ["java/lang/RuntimeException", "java/lang/Exception"]).filter goodWord ++ (vx_atS RX3 64 "java/lang/IndexOutOfBoundsException" ["java/lang/RuntimeException", "java/lang/Exception"]).filter goodWord
set_option maxRecDepth 20000 in
theorem wsL_law_in0 : ∀ w ∈ wsL_law0, w ∈ lw_tbl := fun w h => (goodIn_p wsL_law0 [43, 46, 53, 85, 579, 575, 571, 228, 584, 116, 119, 122, 210, 214, 218, 221, 225, 231, 238, 242, 246, 341, 345, 366, 370, 374, 378, 381, 385, 389, 393, 397, 401, 405, 409, 413, 417, 587, 591, 595, 559, 272, 277, 282, 286, 421, 425, 429, 433, 437, 441, 337, 445, 449, 453, 311, 458, 486, 294, 303, 291, 299, 307, 315, 319, 323, 462, 466, 329, 333, 549, 555, 515, 495, 501, 504, 510, 520, 528, 532, 563, 567, 491, 524, 544, 470, 474, 480, 536, 540] (by decide +kernel) (by decide +kernel) w h).1
theorem wsL_law_x0 : ∀ w ∈ (vx_atS RX3 45 "java/lang/IllegalArgumentException" ["java/lang/RuntimeException", "java/lang/Exception"]).filter goodWord, w ∈ lw_tbl := by decide +kernel
theorem wsL_law_x1 : ∀ w ∈ (vx_atS RX3 52 "java/lang/IllegalStateException" ["java/lang/RuntimeException", "java/lang/Exception"]).filter goodWord, w ∈ lw_tbl := by decide +kernel
theorem wsL_law_x2 : ∀ w ∈ (vx_atS RX3 64 "java/lang/IndexOutOfBoundsException" ["java/lang/RuntimeException", "java/lang/Exception"]).filter goodWord, w ∈ lw_tbl := by decide +kernel
theorem wsL_law_in : ∀ w ∈ wsL_law, w ∈ lw_tbl := fun w h => (List.mem_append.mp h).elim (fun h => (List.mem_append.mp h).elim (fun h => (List.mem_append.mp h).elim (fun h => wsL_law_in0 w h) (fun h => wsL_law_x0 w h)) (fun h => wsL_law_x1 w h)) (fun h => wsL_law_x2 w h)
theorem inlX0 : ∀ w ∈ wsX00, w ∈ wsL_law := fun _ h => List.mem_append_left _ (List.mem_append_left _ (List.mem_append_left _ (List.mem_append_left _ (List.mem_append_left _ (List.mem_append_left _ (List.mem_append_right _ h))))))
theorem inX0 : ∀ w ∈ wsX00, w ∈ lw_tbl := fun w h => wsL_law_in w (inlX0 w h)
theorem inlX1 : ∀ w ∈ wsX10, w ∈ wsL_law := fun _ h => List.mem_append_left _ (List.mem_append_left _ (List.mem_append_left _ (List.mem_append_left _ (List.mem_append_right _ h))))
theorem inX1 : ∀ w ∈ wsX10, w ∈ lw_tbl := fun w h => wsL_law_in w (inlX1 w h)
theorem inlX2 : ∀ w ∈ wsX20, w ∈ wsL_law := fun _ h => List.mem_append_left _ (List.mem_append_left _ (List.mem_append_left _ (List.mem_append_left _ (List.mem_append_left _ (List.mem_append_right _ h)))))
theorem inX2 : ∀ w ∈ wsX20, w ∈ lw_tbl := fun w h => wsL_law_in w (inlX2 w h)
theorem inlX3 : ∀ w ∈ wsX30, w ∈ wsL_law := fun _ h => List.mem_append_left _ (List.mem_append_left _ (List.mem_append_left _ (List.mem_append_left _ (List.mem_append_left _ (List.mem_append_left _ (List.mem_append_left _ (List.mem_append_right _ h)))))))
theorem inX3 : ∀ w ∈ wsX30, w ∈ lw_tbl := fun w h => wsL_law_in w (inlX3 w h)
theorem inX4 : ∀ w ∈ wsX40, w ∈ lw_tbl := by decide +kernel
theorem inJx145de : ∀ w ∈ wsJx145de0, w ∈ lw_tbl := by decide +kernel
theorem inJ6 : ∀ w ∈ wsJ60, w ∈ lw_tbl := by decide +kernel
theorem inJ9 : ∀ w ∈ wsJ90, w ∈ lw_tbl := by decide +kernel
theorem inJ0 : ∀ w ∈ wsJ00, w ∈ lw_tbl := by decide +kernel
theorem inJ7 : ∀ w ∈ wsJ70, w ∈ lw_tbl := by decide +kernel
theorem dX0_init_0 : decode cX0_init 0 = .ok (.aload_n 0, 1) := by decide +kernel
theorem dX0_init_1 : decode cX0_init 1 = .ok (.invokespecial 3, 3) := by decide +kernel
theorem dX0_init_4 : decode cX0_init 4 = .ok (.aload_n 0, 1) := by decide +kernel
theorem dX0_init_5 : decode cX0_init 5 = .ok (.bipush 6, 2) := by decide +kernel
theorem dX0_init_7 : decode cX0_init 7 = .ok (.newarray .int, 2) := by decide +kernel
theorem dX0_init_9 : decode cX0_init 9 = .ok (.putfield 9, 3) := by decide +kernel
theorem dX0_init_12 : decode cX0_init 12 = .ok (.aload_n 0, 1) := by decide +kernel
theorem dX0_init_13 : decode cX0_init 13 = .ok (.bipush 6, 2) := by decide +kernel
theorem dX0_init_15 : decode cX0_init 15 = .ok (.newarray .int, 2) := by decide +kernel
theorem dX0_init_17 : decode cX0_init 17 = .ok (.putfield 15, 3) := by decide +kernel
theorem dX0_init_20 : decode cX0_init 20 = .ok (.aload_n 0, 1) := by decide +kernel
theorem dX0_init_21 : decode cX0_init 21 = .ok (.bipush 6, 2) := by decide +kernel
theorem dX0_init_23 : decode cX0_init 23 = .ok (.newarray .int, 2) := by decide +kernel
theorem dX0_init_25 : decode cX0_init 25 = .ok (.putfield 18, 3) := by decide +kernel
theorem dX0_init_28 : decode cX0_init 28 = .ok (.return_, 1) := by decide +kernel
set_option maxRecDepth 20000 in
theorem ggX0_startWith_X3_setCell : GoodIn wsX0_startWith wsX3_setCell := goodIn_r _ [9] (by decide +kernel) (by decide +kernel)
set_option maxRecDepth 20000 in
theorem gX0_startWith_X3_setCell_n32 : GoodIn wsX0_startWith (wsX3_setCell) := ggX0_startWith_X3_setCell
theorem dX0_startWith_0 : decode cX0_startWith 0 = .ok (.aload_n 0, 1) := by decide +kernel
theorem dX0_startWith_1 : decode cX0_startWith 1 = .ok (.iload_n 1, 1) := by decide +kernel
theorem dX0_startWith_2 : decode cX0_startWith 2 = .ok (.putfield 21, 3) := by decide +kernel
theorem dX0_startWith_5 : decode cX0_startWith 5 = .ok (.aload_n 0, 1) := by decide +kernel
theorem dX0_startWith_6 : decode cX0_startWith 6 = .ok (.iconst 0, 1) := by decide +kernel
theorem dX0_startWith_7 : decode cX0_startWith 7 = .ok (.putfield 25, 3) := by decide +kernel
theorem dX0_startWith_10 : decode cX0_startWith 10 = .ok (.aload_n 0, 1) := by decide +kernel
theorem dX0_startWith_11 : decode cX0_startWith 11 = .ok (.dconst 0, 1) := by decide +kernel
theorem dX0_startWith_12 : decode cX0_startWith 12 = .ok (.putfield 28, 3) := by decide +kernel
theorem dX0_startWith_15 : decode cX0_startWith 15 = .ok (.iconst 0, 1) := by decide +kernel
theorem dX0_startWith_16 : decode cX0_startWith 16 = .ok (.istore_n 2, 1) := by decide +kernel
theorem dX0_startWith_17 : decode cX0_startWith 17 = .ok (.iload_n 2, 1) := by decide +kernel
theorem dX0_startWith_18 : decode cX0_startWith 18 = .ok (.aload_n 0, 1) := by decide +kernel
theorem dX0_startWith_19 : decode cX0_startWith 19 = .ok (.getfield 21, 3) := by decide +kernel
theorem dX0_startWith_22 : decode cX0_startWith 22 = .ok (.if_icmp .ge 36, 3) := by decide +kernel
theorem dX0_startWith_25 : decode cX0_startWith 25 = .ok (.aload_n 0, 1) := by decide +kernel
theorem dX0_startWith_26 : decode cX0_startWith 26 = .ok (.getfield 9, 3) := by decide +kernel
theorem dX0_startWith_29 : decode cX0_startWith 29 = .ok (.iload_n 2, 1) := by decide +kernel
theorem dX0_startWith_30 : decode cX0_startWith 30 = .ok (.iload_n 2, 1) := by decide +kernel
theorem dX0_startWith_31 : decode cX0_startWith 31 = .ok (.invokestatic 32, 3) := by decide +kernel
theorem dX0_startWith_34 : decode cX0_startWith 34 = .ok (.aload_n 0, 1) := by decide +kernel
theorem dX0_startWith_35 : decode cX0_startWith 35 = .ok (.getfield 15, 3) := by decide +kernel
theorem dX0_startWith_38 : decode cX0_startWith 38 = .ok (.iload_n 2, 1) := by decide +kernel
theorem dX0_startWith_39 : decode cX0_startWith 39 = .ok (.iconst 0, 1) := by decide +kernel
theorem dX0_startWith_40 : decode cX0_startWith 40 = .ok (.invokestatic 32, 3) := by decide +kernel
theorem dX0_startWith_43 : decode cX0_startWith 43 = .ok (.aload_n 0, 1) := by decide +kernel
theorem dX0_startWith_44 : decode cX0_startWith 44 = .ok (.getfield 18, 3) := by decide +kernel
theorem dX0_startWith_47 : decode cX0_startWith 47 = .ok (.iload_n 2, 1) := by decide +kernel
theorem dX0_startWith_48 : decode cX0_startWith 48 = .ok (.iconst 0, 1) := by decide +kernel
theorem dX0_startWith_49 : decode cX0_startWith 49 = .ok (.invokestatic 32, 3) := by decide +kernel
theorem dX0_startWith_52 : decode cX0_startWith 52 = .ok (.iinc 2 1, 3) := by decide +kernel
theorem dX0_startWith_55 : decode cX0_startWith 55 = .ok (.goto (-38), 3) := by decide +kernel
theorem dX0_startWith_58 : decode cX0_startWith 58 = .ok (.return_, 1) := by decide +kernel
theorem dX0_props_0 : decode cX0_props 0 = .ok (.aload_n 0, 1) := by decide +kernel
theorem dX0_props_1 : decode cX0_props 1 = .ok (.getfield 21, 3) := by decide +kernel
theorem dX0_props_4 : decode cX0_props 4 = .ok (.ireturn, 1) := by decide +kernel
theorem dX0_beat_0 : decode cX0_beat 0 = .ok (.aload_n 0, 1) := by decide +kernel
theorem dX0_beat_1 : decode cX0_beat 1 = .ok (.getfield 25, 3) := by decide +kernel
theorem dX0_beat_4 : decode cX0_beat 4 = .ok (.ireturn, 1) := by decide +kernel
theorem dX0_slipsEver_0 : decode cX0_slipsEver 0 = .ok (.aload_n 0, 1) := by decide +kernel
theorem dX0_slipsEver_1 : decode cX0_slipsEver 1 = .ok (.getfield 36, 3) := by decide +kernel
theorem dX0_slipsEver_4 : decode cX0_slipsEver 4 = .ok (.ireturn, 1) := by decide +kernel
theorem dX0_beatsEver_0 : decode cX0_beatsEver 0 = .ok (.aload_n 0, 1) := by decide +kernel
theorem dX0_beatsEver_1 : decode cX0_beatsEver 1 = .ok (.getfield 39, 3) := by decide +kernel
theorem dX0_beatsEver_4 : decode cX0_beatsEver 4 = .ok (.ireturn, 1) := by decide +kernel
theorem dX0_tiredness_0 : decode cX0_tiredness 0 = .ok (.aload_n 0, 1) := by decide +kernel
theorem dX0_tiredness_1 : decode cX0_tiredness 1 = .ok (.getfield 28, 3) := by decide +kernel
theorem dX0_tiredness_4 : decode cX0_tiredness 4 = .ok (.dreturn, 1) := by decide +kernel
set_option maxRecDepth 20000 in
theorem ggX0_isDropped_X3_cell : GoodIn wsX0_isDropped wsX3_cell := goodIn_r _ [4] (by decide +kernel) (by decide +kernel)
set_option maxRecDepth 20000 in
theorem gX0_isDropped_X3_cell_n42 : GoodIn wsX0_isDropped (wsX3_cell) := ggX0_isDropped_X3_cell
theorem dX0_isDropped_0 : decode cX0_isDropped 0 = .ok (.aload_n 0, 1) := by decide +kernel
theorem dX0_isDropped_1 : decode cX0_isDropped 1 = .ok (.getfield 9, 3) := by decide +kernel
theorem dX0_isDropped_4 : decode cX0_isDropped 4 = .ok (.iload_n 1, 1) := by decide +kernel
theorem dX0_isDropped_5 : decode cX0_isDropped 5 = .ok (.invokestatic 42, 3) := by decide +kernel
theorem dX0_isDropped_8 : decode cX0_isDropped 8 = .ok (.iconst (-1), 1) := by decide +kernel
theorem dX0_isDropped_9 : decode cX0_isDropped 9 = .ok (.if_icmp .ne 7, 3) := by decide +kernel
theorem dX0_isDropped_12 : decode cX0_isDropped 12 = .ok (.iconst 1, 1) := by decide +kernel
theorem dX0_isDropped_13 : decode cX0_isDropped 13 = .ok (.goto 4, 3) := by decide +kernel
theorem dX0_isDropped_16 : decode cX0_isDropped 16 = .ok (.iconst 0, 1) := by decide +kernel
theorem dX0_isDropped_17 : decode cX0_isDropped 17 = .ok (.ireturn, 1) := by decide +kernel
set_option maxRecDepth 20000 in
theorem ggX0_beatsTillLanding_X3_cell : GoodIn wsX0_beatsTillLanding wsX3_cell := goodIn_r _ [5] (by decide +kernel) (by decide +kernel)
set_option maxRecDepth 20000 in
theorem gX0_beatsTillLanding_X3_cell_n42 : GoodIn wsX0_beatsTillLanding (wsX3_cell) := ggX0_beatsTillLanding_X3_cell
theorem dX0_beatsTillLanding_0 : decode cX0_beatsTillLanding 0 = .ok (.aload_n 0, 1) := by decide +kernel
theorem dX0_beatsTillLanding_1 : decode cX0_beatsTillLanding 1 = .ok (.getfield 9, 3) := by decide +kernel
theorem dX0_beatsTillLanding_4 : decode cX0_beatsTillLanding 4 = .ok (.iload_n 1, 1) := by decide +kernel
theorem dX0_beatsTillLanding_5 : decode cX0_beatsTillLanding 5 = .ok (.invokestatic 42, 3) := by decide +kernel
theorem dX0_beatsTillLanding_8 : decode cX0_beatsTillLanding 8 = .ok (.istore_n 2, 1) := by decide +kernel
theorem dX0_beatsTillLanding_9 : decode cX0_beatsTillLanding 9 = .ok (.iload_n 2, 1) := by decide +kernel
theorem dX0_beatsTillLanding_10 : decode cX0_beatsTillLanding 10 = .ok (.iconst (-1), 1) := by decide +kernel
theorem dX0_beatsTillLanding_11 : decode cX0_beatsTillLanding 11 = .ok (.if_icmp .ne 7, 3) := by decide +kernel
theorem dX0_beatsTillLanding_14 : decode cX0_beatsTillLanding 14 = .ok (.iconst (-1), 1) := by decide +kernel
theorem dX0_beatsTillLanding_15 : decode cX0_beatsTillLanding 15 = .ok (.goto 9, 3) := by decide +kernel
theorem dX0_beatsTillLanding_18 : decode cX0_beatsTillLanding 18 = .ok (.iload_n 2, 1) := by decide +kernel
theorem dX0_beatsTillLanding_19 : decode cX0_beatsTillLanding 19 = .ok (.aload_n 0, 1) := by decide +kernel
theorem dX0_beatsTillLanding_20 : decode cX0_beatsTillLanding 20 = .ok (.getfield 25, 3) := by decide +kernel
theorem dX0_beatsTillLanding_23 : decode cX0_beatsTillLanding 23 = .ok (.isub, 1) := by decide +kernel
theorem dX0_beatsTillLanding_24 : decode cX0_beatsTillLanding 24 = .ok (.ireturn, 1) := by decide +kernel
set_option maxRecDepth 20000 in
theorem ggX0_handOf_X0_isDropped : GoodIn wsX0_handOf wsX0_isDropped := goodIn_r _ [6, 1, 7, 8, 9, 10, 11, 12, 13, 14, 15, 16, 17] (by decide +kernel) (by decide +kernel)
set_option maxRecDepth 20000 in
theorem gX0_handOf_X0_isDropped : GoodIn wsX0_handOf (wsV RX0 46 RX0 yX0_isDropped wsX0_isDropped) := goodIn_app (goodIn_of _ (by decide +kernel)) ggX0_handOf_X0_isDropped
set_option maxRecDepth 20000 in
theorem ggX0_handOf_X3_cell : GoodIn wsX0_handOf wsX3_cell := goodIn_r _ [9] (by decide +kernel) (by decide +kernel)
set_option maxRecDepth 20000 in
theorem gX0_handOf_X3_cell_n42 : GoodIn wsX0_handOf (wsX3_cell) := ggX0_handOf_X3_cell
theorem dX0_handOf_0 : decode cX0_handOf 0 = .ok (.aload_n 0, 1) := by decide +kernel
theorem dX0_handOf_1 : decode cX0_handOf 1 = .ok (.iload_n 1, 1) := by decide +kernel
theorem dX0_handOf_2 : decode cX0_handOf 2 = .ok (.invokevirtual 46, 3) := by decide +kernel
theorem dX0_handOf_5 : decode cX0_handOf 5 = .ok (.ifCond .eq 7, 3) := by decide +kernel
theorem dX0_handOf_8 : decode cX0_handOf 8 = .ok (.iconst (-1), 1) := by decide +kernel
theorem dX0_handOf_9 : decode cX0_handOf 9 = .ok (.goto 13, 3) := by decide +kernel
theorem dX0_handOf_12 : decode cX0_handOf 12 = .ok (.aload_n 0, 1) := by decide +kernel
theorem dX0_handOf_13 : decode cX0_handOf 13 = .ok (.getfield 9, 3) := by decide +kernel
theorem dX0_handOf_16 : decode cX0_handOf 16 = .ok (.iload_n 1, 1) := by decide +kernel
theorem dX0_handOf_17 : decode cX0_handOf 17 = .ok (.invokestatic 42, 3) := by decide +kernel
theorem dX0_handOf_20 : decode cX0_handOf 20 = .ok (.iconst 1, 1) := by decide +kernel
theorem dX0_handOf_21 : decode cX0_handOf 21 = .ok (.iand, 1) := by decide +kernel
theorem dX0_handOf_22 : decode cX0_handOf 22 = .ok (.ireturn, 1) := by decide +kernel
set_option maxRecDepth 20000 in
theorem ggX0_state_X0_beatsTillLanding : GoodIn wsX0_state wsX0_beatsTillLanding := goodIn_r _ [6, 7, 8, 9, 10, 11, 12, 13, 14, 15, 16, 17, 18, 19] (by decide +kernel) (by decide +kernel)
set_option maxRecDepth 20000 in
theorem gX0_state_X0_beatsTillLanding : GoodIn wsX0_state (wsV RX0 50 RX0 yX0_beatsTillLanding wsX0_beatsTillLanding) := goodIn_app (goodIn_of _ (by decide +kernel)) ggX0_state_X0_beatsTillLanding
theorem dX0_state_0 : decode cX0_state 0 = .ok (.iconst 0, 1) := by decide +kernel
theorem dX0_state_1 : decode cX0_state 1 = .ok (.istore_n 1, 1) := by decide +kernel
theorem dX0_state_2 : decode cX0_state 2 = .ok (.iconst 0, 1) := by decide +kernel
theorem dX0_state_3 : decode cX0_state 3 = .ok (.istore_n 2, 1) := by decide +kernel
theorem dX0_state_4 : decode cX0_state 4 = .ok (.iload_n 2, 1) := by decide +kernel
theorem dX0_state_5 : decode cX0_state 5 = .ok (.aload_n 0, 1) := by decide +kernel
theorem dX0_state_6 : decode cX0_state 6 = .ok (.getfield 21, 3) := by decide +kernel
theorem dX0_state_9 : decode cX0_state 9 = .ok (.if_icmp .ge 26, 3) := by decide +kernel
theorem dX0_state_12 : decode cX0_state 12 = .ok (.aload_n 0, 1) := by decide +kernel
theorem dX0_state_13 : decode cX0_state 13 = .ok (.iload_n 2, 1) := by decide +kernel
theorem dX0_state_14 : decode cX0_state 14 = .ok (.invokevirtual 50, 3) := by decide +kernel
theorem dX0_state_17 : decode cX0_state 17 = .ok (.istore_n 3, 1) := by decide +kernel
theorem dX0_state_18 : decode cX0_state 18 = .ok (.iload_n 3, 1) := by decide +kernel
theorem dX0_state_19 : decode cX0_state 19 = .ok (.iconst (-1), 1) := by decide +kernel
theorem dX0_state_20 : decode cX0_state 20 = .ok (.if_icmp .eq 9, 3) := by decide +kernel
theorem dX0_state_23 : decode cX0_state 23 = .ok (.iload_n 1, 1) := by decide +kernel
theorem dX0_state_24 : decode cX0_state 24 = .ok (.iconst 1, 1) := by decide +kernel
theorem dX0_state_25 : decode cX0_state 25 = .ok (.iload_n 3, 1) := by decide +kernel
theorem dX0_state_26 : decode cX0_state 26 = .ok (.ishl, 1) := by decide +kernel
theorem dX0_state_27 : decode cX0_state 27 = .ok (.ior, 1) := by decide +kernel
theorem dX0_state_28 : decode cX0_state 28 = .ok (.istore_n 1, 1) := by decide +kernel
theorem dX0_state_29 : decode cX0_state 29 = .ok (.iinc 2 1, 3) := by decide +kernel
theorem dX0_state_32 : decode cX0_state 32 = .ok (.goto (-28), 3) := by decide +kernel
theorem dX0_state_35 : decode cX0_state 35 = .ok (.iload_n 1, 1) := by decide +kernel
theorem dX0_state_36 : decode cX0_state 36 = .ok (.ireturn, 1) := by decide +kernel
set_option maxRecDepth 20000 in
theorem ggX0_propLandingIn_X0_beatsTillLanding : GoodIn wsX0_propLandingIn wsX0_beatsTillLanding := goodIn_r _ [6, 7, 8, 9, 10, 11, 12, 13, 14, 15, 16, 17, 18, 19] (by decide +kernel) (by decide +kernel)
set_option maxRecDepth 20000 in
theorem gX0_propLandingIn_X0_beatsTillLanding : GoodIn wsX0_propLandingIn (wsV RX0 50 RX0 yX0_beatsTillLanding wsX0_beatsTillLanding) := goodIn_app (goodIn_of _ (by decide +kernel)) ggX0_propLandingIn_X0_beatsTillLanding
theorem dX0_propLandingIn_0 : decode cX0_propLandingIn 0 = .ok (.iconst 0, 1) := by decide +kernel
theorem dX0_propLandingIn_1 : decode cX0_propLandingIn 1 = .ok (.istore_n 2, 1) := by decide +kernel
theorem dX0_propLandingIn_2 : decode cX0_propLandingIn 2 = .ok (.iload_n 2, 1) := by decide +kernel
theorem dX0_propLandingIn_3 : decode cX0_propLandingIn 3 = .ok (.aload_n 0, 1) := by decide +kernel
theorem dX0_propLandingIn_4 : decode cX0_propLandingIn 4 = .ok (.getfield 21, 3) := by decide +kernel
theorem dX0_propLandingIn_7 : decode cX0_propLandingIn 7 = .ok (.if_icmp .ge 20, 3) := by decide +kernel
theorem dX0_propLandingIn_10 : decode cX0_propLandingIn 10 = .ok (.aload_n 0, 1) := by decide +kernel
theorem dX0_propLandingIn_11 : decode cX0_propLandingIn 11 = .ok (.iload_n 2, 1) := by decide +kernel
theorem dX0_propLandingIn_12 : decode cX0_propLandingIn 12 = .ok (.invokevirtual 50, 3) := by decide +kernel
theorem dX0_propLandingIn_15 : decode cX0_propLandingIn 15 = .ok (.iload_n 1, 1) := by decide +kernel
theorem dX0_propLandingIn_16 : decode cX0_propLandingIn 16 = .ok (.if_icmp .ne 5, 3) := by decide +kernel
theorem dX0_propLandingIn_19 : decode cX0_propLandingIn 19 = .ok (.iload_n 2, 1) := by decide +kernel
theorem dX0_propLandingIn_20 : decode cX0_propLandingIn 20 = .ok (.ireturn, 1) := by decide +kernel
theorem dX0_propLandingIn_21 : decode cX0_propLandingIn 21 = .ok (.iinc 2 1, 3) := by decide +kernel
theorem dX0_propLandingIn_24 : decode cX0_propLandingIn 24 = .ok (.goto (-22), 3) := by decide +kernel
theorem dX0_propLandingIn_27 : decode cX0_propLandingIn 27 = .ok (.iconst (-1), 1) := by decide +kernel
theorem dX0_propLandingIn_28 : decode cX0_propLandingIn 28 = .ok (.ireturn, 1) := by decide +kernel
set_option maxRecDepth 20000 in
theorem ggX0_droppedProps_X0_isDropped : GoodIn wsX0_droppedProps wsX0_isDropped := goodIn_r _ [6, 7, 8, 9, 10, 11, 12, 13, 14, 15, 16, 17, 18] (by decide +kernel) (by decide +kernel)
set_option maxRecDepth 20000 in
theorem gX0_droppedProps_X0_isDropped : GoodIn wsX0_droppedProps (wsV RX0 46 RX0 yX0_isDropped wsX0_isDropped) := goodIn_app (goodIn_of _ (by decide +kernel)) ggX0_droppedProps_X0_isDropped
theorem dX0_droppedProps_0 : decode cX0_droppedProps 0 = .ok (.iconst 0, 1) := by decide +kernel
theorem dX0_droppedProps_1 : decode cX0_droppedProps 1 = .ok (.istore_n 1, 1) := by decide +kernel
theorem dX0_droppedProps_2 : decode cX0_droppedProps 2 = .ok (.iconst 0, 1) := by decide +kernel
theorem dX0_droppedProps_3 : decode cX0_droppedProps 3 = .ok (.istore_n 2, 1) := by decide +kernel
theorem dX0_droppedProps_4 : decode cX0_droppedProps 4 = .ok (.iload_n 2, 1) := by decide +kernel
theorem dX0_droppedProps_5 : decode cX0_droppedProps 5 = .ok (.aload_n 0, 1) := by decide +kernel
theorem dX0_droppedProps_6 : decode cX0_droppedProps 6 = .ok (.getfield 21, 3) := by decide +kernel
theorem dX0_droppedProps_9 : decode cX0_droppedProps 9 = .ok (.if_icmp .ge 20, 3) := by decide +kernel
theorem dX0_droppedProps_12 : decode cX0_droppedProps 12 = .ok (.aload_n 0, 1) := by decide +kernel
theorem dX0_droppedProps_13 : decode cX0_droppedProps 13 = .ok (.iload_n 2, 1) := by decide +kernel
theorem dX0_droppedProps_14 : decode cX0_droppedProps 14 = .ok (.invokevirtual 46, 3) := by decide +kernel
theorem dX0_droppedProps_17 : decode cX0_droppedProps 17 = .ok (.ifCond .eq 6, 3) := by decide +kernel
theorem dX0_droppedProps_20 : decode cX0_droppedProps 20 = .ok (.iinc 1 1, 3) := by decide +kernel
theorem dX0_droppedProps_23 : decode cX0_droppedProps 23 = .ok (.iinc 2 1, 3) := by decide +kernel
theorem dX0_droppedProps_26 : decode cX0_droppedProps 26 = .ok (.goto (-22), 3) := by decide +kernel
theorem dX0_droppedProps_29 : decode cX0_droppedProps 29 = .ok (.iload_n 1, 1) := by decide +kernel
theorem dX0_droppedProps_30 : decode cX0_droppedProps 30 = .ok (.ireturn, 1) := by decide +kernel
set_option maxRecDepth 20000 in
theorem ggX0_flightsOfAll_X3_cell : GoodIn wsX0_flightsOfAll wsX3_cell := goodIn_r _ [5] (by decide +kernel) (by decide +kernel)
set_option maxRecDepth 20000 in
theorem gX0_flightsOfAll_X3_cell_n42 : GoodIn wsX0_flightsOfAll (wsX3_cell) := ggX0_flightsOfAll_X3_cell
theorem dX0_flightsOfAll_0 : decode cX0_flightsOfAll 0 = .ok (.iconst 0, 1) := by decide +kernel
theorem dX0_flightsOfAll_1 : decode cX0_flightsOfAll 1 = .ok (.istore_n 1, 1) := by decide +kernel
theorem dX0_flightsOfAll_2 : decode cX0_flightsOfAll 2 = .ok (.iconst 0, 1) := by decide +kernel
theorem dX0_flightsOfAll_3 : decode cX0_flightsOfAll 3 = .ok (.istore_n 2, 1) := by decide +kernel
theorem dX0_flightsOfAll_4 : decode cX0_flightsOfAll 4 = .ok (.iload_n 2, 1) := by decide +kernel
theorem dX0_flightsOfAll_5 : decode cX0_flightsOfAll 5 = .ok (.aload_n 0, 1) := by decide +kernel
theorem dX0_flightsOfAll_6 : decode cX0_flightsOfAll 6 = .ok (.getfield 21, 3) := by decide +kernel
theorem dX0_flightsOfAll_9 : decode cX0_flightsOfAll 9 = .ok (.if_icmp .ge 20, 3) := by decide +kernel
theorem dX0_flightsOfAll_12 : decode cX0_flightsOfAll 12 = .ok (.iload_n 1, 1) := by decide +kernel
theorem dX0_flightsOfAll_13 : decode cX0_flightsOfAll 13 = .ok (.aload_n 0, 1) := by decide +kernel
theorem dX0_flightsOfAll_14 : decode cX0_flightsOfAll 14 = .ok (.getfield 15, 3) := by decide +kernel
theorem dX0_flightsOfAll_17 : decode cX0_flightsOfAll 17 = .ok (.iload_n 2, 1) := by decide +kernel
theorem dX0_flightsOfAll_18 : decode cX0_flightsOfAll 18 = .ok (.invokestatic 42, 3) := by decide +kernel
theorem dX0_flightsOfAll_21 : decode cX0_flightsOfAll 21 = .ok (.iadd, 1) := by decide +kernel
theorem dX0_flightsOfAll_22 : decode cX0_flightsOfAll 22 = .ok (.istore_n 1, 1) := by decide +kernel
theorem dX0_flightsOfAll_23 : decode cX0_flightsOfAll 23 = .ok (.iinc 2 1, 3) := by decide +kernel
theorem dX0_flightsOfAll_26 : decode cX0_flightsOfAll 26 = .ok (.goto (-22), 3) := by decide +kernel
theorem dX0_flightsOfAll_29 : decode cX0_flightsOfAll 29 = .ok (.iload_n 1, 1) := by decide +kernel
theorem dX0_flightsOfAll_30 : decode cX0_flightsOfAll 30 = .ok (.ireturn, 1) := by decide +kernel
set_option maxRecDepth 20000 in
theorem ggX0_answerOf_X0_beatsTillLanding : GoodIn wsX0_answerOf wsX0_beatsTillLanding := goodIn_r _ [7, 8, 9, 10, 11, 12, 21, 22, 23, 24, 25, 26, 27, 28] (by decide +kernel) (by decide +kernel)
set_option maxRecDepth 20000 in
theorem gX0_answerOf_X0_beatsTillLanding : GoodIn wsX0_answerOf (wsV RX0 50 RX0 yX0_beatsTillLanding wsX0_beatsTillLanding) := goodIn_app (goodIn_of _ (by decide +kernel)) ggX0_answerOf_X0_beatsTillLanding
set_option maxRecDepth 20000 in
theorem ggX0_answerOf_X3_cell : GoodIn wsX0_answerOf wsX3_cell := goodIn_r _ [12] (by decide +kernel) (by decide +kernel)
set_option maxRecDepth 20000 in
theorem gX0_answerOf_X3_cell_n42 : GoodIn wsX0_answerOf (wsX3_cell) := ggX0_answerOf_X3_cell
set_option maxRecDepth 20000 in
theorem ggX0_answerOf_X0_handOf : GoodIn wsX0_answerOf wsX0_handOf := goodIn_r _ [16, 8, 17, 18, 19, 6, 20, 10, 11, 12, 21, 22, 23, 24, 25, 26, 27, 28] (by decide +kernel) (by decide +kernel)
set_option maxRecDepth 20000 in
theorem gX0_answerOf_X0_handOf : GoodIn wsX0_answerOf (wsV RX0 54 RX0 yX0_handOf wsX0_handOf) := goodIn_app (goodIn_of _ (by decide +kernel)) ggX0_answerOf_X0_handOf
theorem dX0_answerOf_0 : decode cX0_answerOf 0 = .ok (.iload_n 2, 1) := by decide +kernel
theorem dX0_answerOf_1 : decode cX0_answerOf 1 = .ok (.tableswitch 51 0 2 #[27, 33, 42], 27) := by decide +kernel
theorem dX0_answerOf_28 : decode cX0_answerOf 28 = .ok (.aload_n 0, 1) := by decide +kernel
theorem dX0_answerOf_29 : decode cX0_answerOf 29 = .ok (.iload_n 1, 1) := by decide +kernel
theorem dX0_answerOf_30 : decode cX0_answerOf 30 = .ok (.invokevirtual 50, 3) := by decide +kernel
theorem dX0_answerOf_33 : decode cX0_answerOf 33 = .ok (.ireturn, 1) := by decide +kernel
theorem dX0_answerOf_34 : decode cX0_answerOf 34 = .ok (.aload_n 0, 1) := by decide +kernel
theorem dX0_answerOf_35 : decode cX0_answerOf 35 = .ok (.getfield 15, 3) := by decide +kernel
theorem dX0_answerOf_38 : decode cX0_answerOf 38 = .ok (.iload_n 1, 1) := by decide +kernel
theorem dX0_answerOf_39 : decode cX0_answerOf 39 = .ok (.invokestatic 42, 3) := by decide +kernel
theorem dX0_answerOf_42 : decode cX0_answerOf 42 = .ok (.ireturn, 1) := by decide +kernel
theorem dX0_answerOf_43 : decode cX0_answerOf 43 = .ok (.aload_n 0, 1) := by decide +kernel
theorem dX0_answerOf_44 : decode cX0_answerOf 44 = .ok (.getfield 18, 3) := by decide +kernel
theorem dX0_answerOf_47 : decode cX0_answerOf 47 = .ok (.iload_n 1, 1) := by decide +kernel
theorem dX0_answerOf_48 : decode cX0_answerOf 48 = .ok (.invokestatic 42, 3) := by decide +kernel
theorem dX0_answerOf_51 : decode cX0_answerOf 51 = .ok (.ireturn, 1) := by decide +kernel
theorem dX0_answerOf_52 : decode cX0_answerOf 52 = .ok (.aload_n 0, 1) := by decide +kernel
theorem dX0_answerOf_53 : decode cX0_answerOf 53 = .ok (.iload_n 1, 1) := by decide +kernel
theorem dX0_answerOf_54 : decode cX0_answerOf 54 = .ok (.invokevirtual 54, 3) := by decide +kernel
theorem dX0_answerOf_57 : decode cX0_answerOf 57 = .ok (.ireturn, 1) := by decide +kernel
set_option maxRecDepth 20000 in
theorem ggX0_throwNow_X0_state : GoodIn wsX0_throwNow wsX0_state := goodIn_r _ [7, 8, 9, 10, 11, 6, 12, 13, 1, 14, 15, 16, 47, 48, 49, 50, 51, 52, 53, 54] (by decide +kernel) (by decide +kernel)
set_option maxRecDepth 20000 in
theorem gX0_throwNow_X0_state : GoodIn wsX0_throwNow (wsV RX0 57 RX0 yX0_state wsX0_state) := goodIn_app (goodIn_of _ (by decide +kernel)) ggX0_throwNow_X0_state
set_option maxRecDepth 20000 in
theorem ggX0_throwNow_X3_stateBehind : GoodIn wsX0_throwNow wsX3_stateBehind := goodIn_r _ [18] (by decide +kernel) (by decide +kernel)
set_option maxRecDepth 20000 in
theorem gX0_throwNow_X3_stateBehind_n61 : GoodIn wsX0_throwNow (wsX3_stateBehind) := ggX0_throwNow_X3_stateBehind
set_option maxRecDepth 20000 in
theorem ggX0_throwNow_X0_slip : GoodIn wsX0_throwNow wsX0_slip := goodIn_r _ [22, 23, 24, 25, 26, 6, 27, 8, 9, 10, 11, 12, 13, 1, 14, 15, 16, 28, 29, 30, 31, 32, 33, 34, 47, 48, 49, 50, 51, 52, 53, 54] (by decide +kernel) (by decide +kernel)
set_option maxRecDepth 20000 in
theorem gX0_throwNow_X0_slip : GoodIn wsX0_throwNow (wsV RX0 65 RX0 yX0_slip wsX0_slip) := goodIn_app (goodIn_of _ (by decide +kernel)) ggX0_throwNow_X0_slip
set_option maxRecDepth 20000 in
theorem ggX0_throwNow_X0_propLandingIn : GoodIn wsX0_throwNow wsX0_propLandingIn := goodIn_r _ [27, 8, 9, 10, 11, 6, 12, 13, 1, 14, 15, 16, 47, 48, 49, 50, 51, 52, 53, 54] (by decide +kernel) (by decide +kernel)
set_option maxRecDepth 20000 in
theorem gX0_throwNow_X0_propLandingIn : GoodIn wsX0_throwNow (wsV RX0 69 RX0 yX0_propLandingIn wsX0_propLandingIn) := goodIn_app (goodIn_of _ (by decide +kernel)) ggX0_throwNow_X0_propLandingIn
set_option maxRecDepth 20000 in
theorem ggX0_throwNow_X0_sendUp : GoodIn wsX0_throwNow wsX0_sendUp := goodIn_r _ [38, 13, 1, 39, 33, 15, 34, 14, 16, 47, 48, 49, 50, 51, 52, 53, 54] (by decide +kernel) (by decide +kernel)
set_option maxRecDepth 20000 in
theorem gX0_throwNow_X0_sendUp : GoodIn wsX0_throwNow (wsV RX0 72 RX0 yX0_sendUp wsX0_sendUp) := goodIn_app (goodIn_of _ (by decide +kernel)) ggX0_throwNow_X0_sendUp
set_option maxRecDepth 20000 in
theorem ggX0_throwNow_X0_tire : GoodIn wsX0_throwNow wsX0_tire := goodIn_r _ [43, 44, 45, 46, 47, 48, 49, 50, 51, 52, 53, 54] (by decide +kernel) (by decide +kernel)
set_option maxRecDepth 20000 in
theorem gX0_throwNow_X0_tire : GoodIn wsX0_throwNow (wsV RX0 76 RX0 yX0_tire wsX0_tire) := goodIn_app (goodIn_of _ (by decide +kernel)) ggX0_throwNow_X0_tire
theorem dX0_throwNow_0 : decode cX0_throwNow 0 = .ok (.iconst (-1), 1) := by decide +kernel
theorem dX0_throwNow_1 : decode cX0_throwNow 1 = .ok (.istore_n 2, 1) := by decide +kernel
theorem dX0_throwNow_2 : decode cX0_throwNow 2 = .ok (.aload_n 0, 1) := by decide +kernel
theorem dX0_throwNow_3 : decode cX0_throwNow 3 = .ok (.invokevirtual 57, 3) := by decide +kernel
theorem dX0_throwNow_6 : decode cX0_throwNow 6 = .ok (.iload_n 1, 1) := by decide +kernel
theorem dX0_throwNow_7 : decode cX0_throwNow 7 = .ok (.invokestatic 61, 3) := by decide +kernel
theorem dX0_throwNow_10 : decode cX0_throwNow 10 = .ok (.iconst (-1), 1) := by decide +kernel
theorem dX0_throwNow_11 : decode cX0_throwNow 11 = .ok (.if_icmp .ne 11, 3) := by decide +kernel
theorem dX0_throwNow_14 : decode cX0_throwNow 14 = .ok (.aload_n 0, 1) := by decide +kernel
theorem dX0_throwNow_15 : decode cX0_throwNow 15 = .ok (.iload_n 1, 1) := by decide +kernel
theorem dX0_throwNow_16 : decode cX0_throwNow 16 = .ok (.invokevirtual 65, 3) := by decide +kernel
theorem dX0_throwNow_19 : decode cX0_throwNow 19 = .ok (.goto 15, 3) := by decide +kernel
theorem dX0_throwNow_22 : decode cX0_throwNow 22 = .ok (.aload_n 0, 1) := by decide +kernel
theorem dX0_throwNow_23 : decode cX0_throwNow 23 = .ok (.iconst 0, 1) := by decide +kernel
theorem dX0_throwNow_24 : decode cX0_throwNow 24 = .ok (.invokevirtual 69, 3) := by decide +kernel
theorem dX0_throwNow_27 : decode cX0_throwNow 27 = .ok (.istore_n 2, 1) := by decide +kernel
theorem dX0_throwNow_28 : decode cX0_throwNow 28 = .ok (.aload_n 0, 1) := by decide +kernel
theorem dX0_throwNow_29 : decode cX0_throwNow 29 = .ok (.iload_n 2, 1) := by decide +kernel
theorem dX0_throwNow_30 : decode cX0_throwNow 30 = .ok (.iload_n 1, 1) := by decide +kernel
theorem dX0_throwNow_31 : decode cX0_throwNow 31 = .ok (.invokevirtual 72, 3) := by decide +kernel
theorem dX0_throwNow_34 : decode cX0_throwNow 34 = .ok (.aload_n 0, 1) := by decide +kernel
theorem dX0_throwNow_35 : decode cX0_throwNow 35 = .ok (.iload_n 2, 1) := by decide +kernel
theorem dX0_throwNow_36 : decode cX0_throwNow 36 = .ok (.iload_n 1, 1) := by decide +kernel
theorem dX0_throwNow_37 : decode cX0_throwNow 37 = .ok (.invokevirtual 76, 3) := by decide +kernel
theorem dX0_throwNow_40 : decode cX0_throwNow 40 = .ok (.aload_n 0, 1) := by decide +kernel
theorem dX0_throwNow_41 : decode cX0_throwNow 41 = .ok (.dup, 1) := by decide +kernel
theorem dX0_throwNow_42 : decode cX0_throwNow 42 = .ok (.getfield 25, 3) := by decide +kernel
theorem dX0_throwNow_45 : decode cX0_throwNow 45 = .ok (.iconst 1, 1) := by decide +kernel
theorem dX0_throwNow_46 : decode cX0_throwNow 46 = .ok (.iadd, 1) := by decide +kernel
theorem dX0_throwNow_47 : decode cX0_throwNow 47 = .ok (.putfield 25, 3) := by decide +kernel
theorem dX0_throwNow_50 : decode cX0_throwNow 50 = .ok (.aload_n 0, 1) := by decide +kernel
theorem dX0_throwNow_51 : decode cX0_throwNow 51 = .ok (.dup, 1) := by decide +kernel
theorem dX0_throwNow_52 : decode cX0_throwNow 52 = .ok (.getfield 39, 3) := by decide +kernel
theorem dX0_throwNow_55 : decode cX0_throwNow 55 = .ok (.iconst 1, 1) := by decide +kernel
theorem dX0_throwNow_56 : decode cX0_throwNow 56 = .ok (.iadd, 1) := by decide +kernel
theorem dX0_throwNow_57 : decode cX0_throwNow 57 = .ok (.putfield 39, 3) := by decide +kernel
theorem dX0_throwNow_60 : decode cX0_throwNow 60 = .ok (.iload_n 2, 1) := by decide +kernel
theorem dX0_throwNow_61 : decode cX0_throwNow 61 = .ok (.ireturn, 1) := by decide +kernel
set_option maxRecDepth 20000 in
theorem ggX0_sendUp_X3_setCell : GoodIn wsX0_sendUp wsX3_setCell := goodIn_r _ [6] (by decide +kernel) (by decide +kernel)
set_option maxRecDepth 20000 in
theorem gX0_sendUp_X3_setCell_n32 : GoodIn wsX0_sendUp (wsX3_setCell) := ggX0_sendUp_X3_setCell
set_option maxRecDepth 20000 in
theorem ggX0_sendUp_X3_cell : GoodIn wsX0_sendUp wsX3_cell := goodIn_r _ [8] (by decide +kernel) (by decide +kernel)
set_option maxRecDepth 20000 in
theorem gX0_sendUp_X3_cell_n42 : GoodIn wsX0_sendUp (wsX3_cell) := ggX0_sendUp_X3_cell
theorem dX0_sendUp_0 : decode cX0_sendUp 0 = .ok (.iload_n 1, 1) := by decide +kernel
theorem dX0_sendUp_1 : decode cX0_sendUp 1 = .ok (.iconst (-1), 1) := by decide +kernel
theorem dX0_sendUp_2 : decode cX0_sendUp 2 = .ok (.if_icmp .eq 35, 3) := by decide +kernel
theorem dX0_sendUp_5 : decode cX0_sendUp 5 = .ok (.aload_n 0, 1) := by decide +kernel
theorem dX0_sendUp_6 : decode cX0_sendUp 6 = .ok (.getfield 9, 3) := by decide +kernel
theorem dX0_sendUp_9 : decode cX0_sendUp 9 = .ok (.iload_n 1, 1) := by decide +kernel
theorem dX0_sendUp_10 : decode cX0_sendUp 10 = .ok (.aload_n 0, 1) := by decide +kernel
theorem dX0_sendUp_11 : decode cX0_sendUp 11 = .ok (.getfield 25, 3) := by decide +kernel
theorem dX0_sendUp_14 : decode cX0_sendUp 14 = .ok (.iload_n 2, 1) := by decide +kernel
theorem dX0_sendUp_15 : decode cX0_sendUp 15 = .ok (.iadd, 1) := by decide +kernel
theorem dX0_sendUp_16 : decode cX0_sendUp 16 = .ok (.invokestatic 32, 3) := by decide +kernel
theorem dX0_sendUp_19 : decode cX0_sendUp 19 = .ok (.aload_n 0, 1) := by decide +kernel
theorem dX0_sendUp_20 : decode cX0_sendUp 20 = .ok (.getfield 15, 3) := by decide +kernel
theorem dX0_sendUp_23 : decode cX0_sendUp 23 = .ok (.iload_n 1, 1) := by decide +kernel
theorem dX0_sendUp_24 : decode cX0_sendUp 24 = .ok (.aload_n 0, 1) := by decide +kernel
theorem dX0_sendUp_25 : decode cX0_sendUp 25 = .ok (.getfield 15, 3) := by decide +kernel
theorem dX0_sendUp_28 : decode cX0_sendUp 28 = .ok (.iload_n 1, 1) := by decide +kernel
theorem dX0_sendUp_29 : decode cX0_sendUp 29 = .ok (.invokestatic 42, 3) := by decide +kernel
theorem dX0_sendUp_32 : decode cX0_sendUp 32 = .ok (.iconst 1, 1) := by decide +kernel
theorem dX0_sendUp_33 : decode cX0_sendUp 33 = .ok (.iadd, 1) := by decide +kernel
theorem dX0_sendUp_34 : decode cX0_sendUp 34 = .ok (.invokestatic 32, 3) := by decide +kernel
theorem dX0_sendUp_37 : decode cX0_sendUp 37 = .ok (.return_, 1) := by decide +kernel
set_option maxRecDepth 20000 in
theorem ggX0_slip_X0_propLandingIn : GoodIn wsX0_slip wsX0_propLandingIn := goodIn_r _ [6, 7, 8, 9, 10, 5, 11, 12, 13, 14, 15, 16, 24, 25, 26, 27, 28, 29, 30, 31] (by decide +kernel) (by decide +kernel)
set_option maxRecDepth 20000 in
theorem gX0_slip_X0_propLandingIn : GoodIn wsX0_slip (wsV RX0 69 RX0 yX0_propLandingIn wsX0_propLandingIn) := goodIn_app (goodIn_of _ (by decide +kernel)) ggX0_slip_X0_propLandingIn
set_option maxRecDepth 20000 in
theorem ggX0_slip_X0_dropProp : GoodIn wsX0_slip wsX0_dropProp := goodIn_r _ [20, 12, 21, 22, 15, 23, 14, 16, 24, 25, 26, 27, 28, 29, 30, 31] (by decide +kernel) (by decide +kernel)
set_option maxRecDepth 20000 in
theorem gX0_slip_X0_dropProp : GoodIn wsX0_slip (wsV RX0 79 RX0 yX0_dropProp wsX0_dropProp) := goodIn_app (goodIn_of _ (by decide +kernel)) ggX0_slip_X0_dropProp
theorem dX0_slip_0 : decode cX0_slip 0 = .ok (.aload_n 0, 1) := by decide +kernel
theorem dX0_slip_1 : decode cX0_slip 1 = .ok (.iconst 0, 1) := by decide +kernel
theorem dX0_slip_2 : decode cX0_slip 2 = .ok (.invokevirtual 69, 3) := by decide +kernel
theorem dX0_slip_5 : decode cX0_slip 5 = .ok (.istore_n 2, 1) := by decide +kernel
theorem dX0_slip_6 : decode cX0_slip 6 = .ok (.iload_n 1, 1) := by decide +kernel
theorem dX0_slip_7 : decode cX0_slip 7 = .ok (.ifCond .le 11, 3) := by decide +kernel
theorem dX0_slip_10 : decode cX0_slip 10 = .ok (.aload_n 0, 1) := by decide +kernel
theorem dX0_slip_11 : decode cX0_slip 11 = .ok (.iload_n 1, 1) := by decide +kernel
theorem dX0_slip_12 : decode cX0_slip 12 = .ok (.invokevirtual 69, 3) := by decide +kernel
theorem dX0_slip_15 : decode cX0_slip 15 = .ok (.goto 4, 3) := by decide +kernel
theorem dX0_slip_18 : decode cX0_slip 18 = .ok (.iconst (-1), 1) := by decide +kernel
theorem dX0_slip_19 : decode cX0_slip 19 = .ok (.istore_n 3, 1) := by decide +kernel
theorem dX0_slip_20 : decode cX0_slip 20 = .ok (.aload_n 0, 1) := by decide +kernel
theorem dX0_slip_21 : decode cX0_slip 21 = .ok (.dup, 1) := by decide +kernel
theorem dX0_slip_22 : decode cX0_slip 22 = .ok (.getfield 36, 3) := by decide +kernel
theorem dX0_slip_25 : decode cX0_slip 25 = .ok (.iconst 1, 1) := by decide +kernel
theorem dX0_slip_26 : decode cX0_slip 26 = .ok (.iadd, 1) := by decide +kernel
theorem dX0_slip_27 : decode cX0_slip 27 = .ok (.putfield 36, 3) := by decide +kernel
theorem dX0_slip_30 : decode cX0_slip 30 = .ok (.iload_n 2, 1) := by decide +kernel
theorem dX0_slip_31 : decode cX0_slip 31 = .ok (.iconst (-1), 1) := by decide +kernel
theorem dX0_slip_32 : decode cX0_slip 32 = .ok (.if_icmp .eq 13, 3) := by decide +kernel
theorem dX0_slip_35 : decode cX0_slip 35 = .ok (.aload_n 0, 1) := by decide +kernel
theorem dX0_slip_36 : decode cX0_slip 36 = .ok (.iload_n 2, 1) := by decide +kernel
theorem dX0_slip_37 : decode cX0_slip 37 = .ok (.invokevirtual 79, 3) := by decide +kernel
theorem dX0_slip_40 : decode cX0_slip 40 = .ok (.aload_n 0, 1) := by decide +kernel
theorem dX0_slip_41 : decode cX0_slip 41 = .ok (.iload_n 3, 1) := by decide +kernel
theorem dX0_slip_42 : decode cX0_slip 42 = .ok (.invokevirtual 79, 3) := by decide +kernel
theorem dX0_slip_45 : decode cX0_slip 45 = .ok (.return_, 1) := by decide +kernel
set_option maxRecDepth 20000 in
theorem ggX0_dropProp_X3_setCell : GoodIn wsX0_dropProp wsX3_setCell := goodIn_r _ [5] (by decide +kernel) (by decide +kernel)
set_option maxRecDepth 20000 in
theorem gX0_dropProp_X3_setCell_n32 : GoodIn wsX0_dropProp (wsX3_setCell) := ggX0_dropProp_X3_setCell
set_option maxRecDepth 20000 in
theorem ggX0_dropProp_X3_cell : GoodIn wsX0_dropProp wsX3_cell := goodIn_r _ [7] (by decide +kernel) (by decide +kernel)
set_option maxRecDepth 20000 in
theorem gX0_dropProp_X3_cell_n42 : GoodIn wsX0_dropProp (wsX3_cell) := ggX0_dropProp_X3_cell
theorem dX0_dropProp_0 : decode cX0_dropProp 0 = .ok (.iload_n 1, 1) := by decide +kernel
theorem dX0_dropProp_1 : decode cX0_dropProp 1 = .ok (.iconst (-1), 1) := by decide +kernel
theorem dX0_dropProp_2 : decode cX0_dropProp 2 = .ok (.if_icmp .eq 30, 3) := by decide +kernel
theorem dX0_dropProp_5 : decode cX0_dropProp 5 = .ok (.aload_n 0, 1) := by decide +kernel
theorem dX0_dropProp_6 : decode cX0_dropProp 6 = .ok (.getfield 9, 3) := by decide +kernel
theorem dX0_dropProp_9 : decode cX0_dropProp 9 = .ok (.iload_n 1, 1) := by decide +kernel
theorem dX0_dropProp_10 : decode cX0_dropProp 10 = .ok (.iconst (-1), 1) := by decide +kernel
theorem dX0_dropProp_11 : decode cX0_dropProp 11 = .ok (.invokestatic 32, 3) := by decide +kernel
theorem dX0_dropProp_14 : decode cX0_dropProp 14 = .ok (.aload_n 0, 1) := by decide +kernel
theorem dX0_dropProp_15 : decode cX0_dropProp 15 = .ok (.getfield 18, 3) := by decide +kernel
theorem dX0_dropProp_18 : decode cX0_dropProp 18 = .ok (.iload_n 1, 1) := by decide +kernel
theorem dX0_dropProp_19 : decode cX0_dropProp 19 = .ok (.aload_n 0, 1) := by decide +kernel
theorem dX0_dropProp_20 : decode cX0_dropProp 20 = .ok (.getfield 18, 3) := by decide +kernel
theorem dX0_dropProp_23 : decode cX0_dropProp 23 = .ok (.iload_n 1, 1) := by decide +kernel
theorem dX0_dropProp_24 : decode cX0_dropProp 24 = .ok (.invokestatic 42, 3) := by decide +kernel
theorem dX0_dropProp_27 : decode cX0_dropProp 27 = .ok (.iconst 1, 1) := by decide +kernel
theorem dX0_dropProp_28 : decode cX0_dropProp 28 = .ok (.iadd, 1) := by decide +kernel
theorem dX0_dropProp_29 : decode cX0_dropProp 29 = .ok (.invokestatic 32, 3) := by decide +kernel
theorem dX0_dropProp_32 : decode cX0_dropProp 32 = .ok (.return_, 1) := by decide +kernel
theorem dX0_tire_0 : decode cX0_tire 0 = .ok (.iload_n 1, 1) := by decide +kernel
theorem dX0_tire_1 : decode cX0_tire 1 = .ok (.iconst (-1), 1) := by decide +kernel
theorem dX0_tire_2 : decode cX0_tire 2 = .ok (.if_icmp .ne 14, 3) := by decide +kernel
theorem dX0_tire_5 : decode cX0_tire 5 = .ok (.aload_n 0, 1) := by decide +kernel
theorem dX0_tire_6 : decode cX0_tire 6 = .ok (.getfield 28, 3) := by decide +kernel
theorem dX0_tire_9 : decode cX0_tire 9 = .ok (.ldc2_w 82, 3) := by decide +kernel
theorem dX0_tire_12 : decode cX0_tire 12 = .ok (.dsub, 1) := by decide +kernel
theorem dX0_tire_13 : decode cX0_tire 13 = .ok (.goto 14, 3) := by decide +kernel
theorem dX0_tire_16 : decode cX0_tire 16 = .ok (.aload_n 0, 1) := by decide +kernel
theorem dX0_tire_17 : decode cX0_tire 17 = .ok (.getfield 28, 3) := by decide +kernel
theorem dX0_tire_20 : decode cX0_tire 20 = .ok (.iload_n 2, 1) := by decide +kernel
theorem dX0_tire_21 : decode cX0_tire 21 = .ok (.i2d, 1) := by decide +kernel
theorem dX0_tire_22 : decode cX0_tire 22 = .ok (.ldc2_w 84, 3) := by decide +kernel
theorem dX0_tire_25 : decode cX0_tire 25 = .ok (.dmul, 1) := by decide +kernel
theorem dX0_tire_26 : decode cX0_tire 26 = .ok (.dadd, 1) := by decide +kernel
theorem dX0_tire_27 : decode cX0_tire 27 = .ok (.dstore_n 3, 1) := by decide +kernel
theorem dX0_tire_28 : decode cX0_tire 28 = .ok (.aload_n 0, 1) := by decide +kernel
theorem dX0_tire_29 : decode cX0_tire 29 = .ok (.dload_n 3, 1) := by decide +kernel
theorem dX0_tire_30 : decode cX0_tire 30 = .ok (.dconst 0, 1) := by decide +kernel
theorem dX0_tire_31 : decode cX0_tire 31 = .ok (.dcmp .g, 1) := by decide +kernel
theorem dX0_tire_32 : decode cX0_tire 32 = .ok (.ifCond .ge 7, 3) := by decide +kernel
theorem dX0_tire_35 : decode cX0_tire 35 = .ok (.dconst 0, 1) := by decide +kernel
theorem dX0_tire_36 : decode cX0_tire 36 = .ok (.goto 4, 3) := by decide +kernel
theorem dX0_tire_39 : decode cX0_tire 39 = .ok (.dload_n 3, 1) := by decide +kernel
theorem dX0_tire_40 : decode cX0_tire 40 = .ok (.putfield 28, 3) := by decide +kernel
theorem dX0_tire_43 : decode cX0_tire 43 = .ok (.return_, 1) := by decide +kernel
set_option maxRecDepth 20000 in
theorem ggX0_pickUp_X0_propLandingIn : GoodIn wsX0_pickUp wsX0_propLandingIn := goodIn_r _ [8, 1, 9, 10, 11, 7, 12, 2, 3, 13, 14, 15, 22, 23, 24, 25, 26, 27, 28, 29] (by decide +kernel) (by decide +kernel)
set_option maxRecDepth 20000 in
theorem gX0_pickUp_X0_propLandingIn : GoodIn wsX0_pickUp (wsV RX0 69 RX0 yX0_propLandingIn wsX0_propLandingIn) := goodIn_app (goodIn_of _ (by decide +kernel)) ggX0_pickUp_X0_propLandingIn
set_option maxRecDepth 20000 in
theorem ggX0_pickUp_X0_isDropped : GoodIn wsX0_pickUp wsX0_isDropped := goodIn_r _ [19, 2, 13, 14, 15, 22, 23, 24, 25, 26, 27, 28, 29] (by decide +kernel) (by decide +kernel)
set_option maxRecDepth 20000 in
theorem gX0_pickUp_X0_isDropped : GoodIn wsX0_pickUp (wsV RX0 46 RX0 yX0_isDropped wsX0_isDropped) := goodIn_app (goodIn_of _ (by decide +kernel)) ggX0_pickUp_X0_isDropped
set_option maxRecDepth 20000 in
theorem ggX0_pickUp_X3_setCell : GoodIn wsX0_pickUp wsX3_setCell := goodIn_r _ [21] (by decide +kernel) (by decide +kernel)
set_option maxRecDepth 20000 in
theorem gX0_pickUp_X3_setCell_n32 : GoodIn wsX0_pickUp (wsX3_setCell) := ggX0_pickUp_X3_setCell
theorem dX0_pickUp_0 : decode cX0_pickUp 0 = .ok (.aload_n 0, 1) := by decide +kernel
theorem dX0_pickUp_1 : decode cX0_pickUp 1 = .ok (.iconst 0, 1) := by decide +kernel
theorem dX0_pickUp_2 : decode cX0_pickUp 2 = .ok (.invokevirtual 69, 3) := by decide +kernel
theorem dX0_pickUp_5 : decode cX0_pickUp 5 = .ok (.iconst (-1), 1) := by decide +kernel
theorem dX0_pickUp_6 : decode cX0_pickUp 6 = .ok (.if_icmp .eq 5, 3) := by decide +kernel
theorem dX0_pickUp_9 : decode cX0_pickUp 9 = .ok (.iconst (-1), 1) := by decide +kernel
theorem dX0_pickUp_10 : decode cX0_pickUp 10 = .ok (.ireturn, 1) := by decide +kernel
theorem dX0_pickUp_11 : decode cX0_pickUp 11 = .ok (.iconst 0, 1) := by decide +kernel
theorem dX0_pickUp_12 : decode cX0_pickUp 12 = .ok (.istore_n 1, 1) := by decide +kernel
theorem dX0_pickUp_13 : decode cX0_pickUp 13 = .ok (.iload_n 1, 1) := by decide +kernel
theorem dX0_pickUp_14 : decode cX0_pickUp 14 = .ok (.aload_n 0, 1) := by decide +kernel
theorem dX0_pickUp_15 : decode cX0_pickUp 15 = .ok (.getfield 21, 3) := by decide +kernel
theorem dX0_pickUp_18 : decode cX0_pickUp 18 = .ok (.if_icmp .ge 31, 3) := by decide +kernel
theorem dX0_pickUp_21 : decode cX0_pickUp 21 = .ok (.aload_n 0, 1) := by decide +kernel
theorem dX0_pickUp_22 : decode cX0_pickUp 22 = .ok (.iload_n 1, 1) := by decide +kernel
theorem dX0_pickUp_23 : decode cX0_pickUp 23 = .ok (.invokevirtual 46, 3) := by decide +kernel
theorem dX0_pickUp_26 : decode cX0_pickUp 26 = .ok (.ifCond .eq 17, 3) := by decide +kernel
theorem dX0_pickUp_29 : decode cX0_pickUp 29 = .ok (.aload_n 0, 1) := by decide +kernel
theorem dX0_pickUp_30 : decode cX0_pickUp 30 = .ok (.getfield 9, 3) := by decide +kernel
theorem dX0_pickUp_33 : decode cX0_pickUp 33 = .ok (.iload_n 1, 1) := by decide +kernel
theorem dX0_pickUp_34 : decode cX0_pickUp 34 = .ok (.aload_n 0, 1) := by decide +kernel
theorem dX0_pickUp_35 : decode cX0_pickUp 35 = .ok (.getfield 25, 3) := by decide +kernel
theorem dX0_pickUp_38 : decode cX0_pickUp 38 = .ok (.invokestatic 32, 3) := by decide +kernel
theorem dX0_pickUp_41 : decode cX0_pickUp 41 = .ok (.iload_n 1, 1) := by decide +kernel
theorem dX0_pickUp_42 : decode cX0_pickUp 42 = .ok (.ireturn, 1) := by decide +kernel
theorem dX0_pickUp_43 : decode cX0_pickUp 43 = .ok (.iinc 1 1, 3) := by decide +kernel
theorem dX0_pickUp_46 : decode cX0_pickUp 46 = .ok (.goto (-33), 3) := by decide +kernel
theorem dX0_pickUp_49 : decode cX0_pickUp 49 = .ok (.iconst (-1), 1) := by decide +kernel
theorem dX0_pickUp_50 : decode cX0_pickUp 50 = .ok (.ireturn, 1) := by decide +kernel
set_option maxRecDepth 20000 in
theorem ggX1_init_X3_setCell : GoodIn wsX1_init wsX3_setCell := goodIn_r _ [13] (by decide +kernel) (by decide +kernel)
set_option maxRecDepth 20000 in
theorem gX1_init_X3_setCell_n31 : GoodIn wsX1_init (wsX3_setCell) := ggX1_init_X3_setCell
set_option maxRecDepth 20000 in
theorem ggX1_init_X1_settle : GoodIn wsX1_init wsX1_settle := goodIn_r _ [18, 10, 5, 7, 19, 8, 9, 20, 12, 21, 22, 23, 24, 17, 25, 26, 27, 28, 29, 11, 13, 30, 31, 32, 33, 34, 35, 36, 37, 38, 39, 40, 41, 42, 43, 44, 45, 46, 47, 48, 49, 50, 51, 52, 53, 54, 55] (by decide +kernel) (by decide +kernel)
set_option maxRecDepth 20000 in
theorem gX1_init_X1_settle : GoodIn wsX1_init (wsV RX1 35 RX1 yX1_settle wsX1_settle) := goodIn_app (goodIn_of _ (by decide +kernel)) ggX1_init_X1_settle
theorem dX1_init_0 : decode cX1_init 0 = .ok (.aload_n 0, 1) := by decide +kernel
theorem dX1_init_1 : decode cX1_init 1 = .ok (.invokespecial 3, 3) := by decide +kernel
theorem dX1_init_4 : decode cX1_init 4 = .ok (.aload_n 0, 1) := by decide +kernel
theorem dX1_init_5 : decode cX1_init 5 = .ok (.bipush 8, 2) := by decide +kernel
theorem dX1_init_7 : decode cX1_init 7 = .ok (.newarray .int, 2) := by decide +kernel
theorem dX1_init_9 : decode cX1_init 9 = .ok (.putfield 9, 3) := by decide +kernel
theorem dX1_init_12 : decode cX1_init 12 = .ok (.aload_n 0, 1) := by decide +kernel
theorem dX1_init_13 : decode cX1_init 13 = .ok (.bipush 8, 2) := by decide +kernel
theorem dX1_init_15 : decode cX1_init 15 = .ok (.newarray .int, 2) := by decide +kernel
theorem dX1_init_17 : decode cX1_init 17 = .ok (.putfield 15, 3) := by decide +kernel
theorem dX1_init_20 : decode cX1_init 20 = .ok (.aload_n 0, 1) := by decide +kernel
theorem dX1_init_21 : decode cX1_init 21 = .ok (.bipush 8, 2) := by decide +kernel
theorem dX1_init_23 : decode cX1_init 23 = .ok (.newarray .int, 2) := by decide +kernel
theorem dX1_init_25 : decode cX1_init 25 = .ok (.putfield 18, 3) := by decide +kernel
theorem dX1_init_28 : decode cX1_init 28 = .ok (.aload_n 0, 1) := by decide +kernel
theorem dX1_init_29 : decode cX1_init 29 = .ok (.bipush 8, 2) := by decide +kernel
theorem dX1_init_31 : decode cX1_init 31 = .ok (.newarray .int, 2) := by decide +kernel
theorem dX1_init_33 : decode cX1_init 33 = .ok (.putfield 21, 3) := by decide +kernel
theorem dX1_init_36 : decode cX1_init 36 = .ok (.aload_n 0, 1) := by decide +kernel
theorem dX1_init_37 : decode cX1_init 37 = .ok (.bipush 8, 2) := by decide +kernel
theorem dX1_init_39 : decode cX1_init 39 = .ok (.newarray .int, 2) := by decide +kernel
theorem dX1_init_41 : decode cX1_init 41 = .ok (.putfield 24, 3) := by decide +kernel
theorem dX1_init_44 : decode cX1_init 44 = .ok (.aload_n 0, 1) := by decide +kernel
theorem dX1_init_45 : decode cX1_init 45 = .ok (.iload_n 2, 1) := by decide +kernel
theorem dX1_init_46 : decode cX1_init 46 = .ok (.putfield 27, 3) := by decide +kernel
theorem dX1_init_49 : decode cX1_init 49 = .ok (.iload_n 1, 1) := by decide +kernel
theorem dX1_init_50 : decode cX1_init 50 = .ok (.istore_n 3, 1) := by decide +kernel
theorem dX1_init_51 : decode cX1_init 51 = .ok (.iload_n 2, 1) := by decide +kernel
theorem dX1_init_52 : decode cX1_init 52 = .ok (.iconst 1, 1) := by decide +kernel
theorem dX1_init_53 : decode cX1_init 53 = .ok (.isub, 1) := by decide +kernel
theorem dX1_init_54 : decode cX1_init 54 = .ok (.istore 4, 2) := by decide +kernel
theorem dX1_init_56 : decode cX1_init 56 = .ok (.iload 4, 2) := by decide +kernel
theorem dX1_init_58 : decode cX1_init 58 = .ok (.ifCond .lt 27, 3) := by decide +kernel
theorem dX1_init_61 : decode cX1_init 61 = .ok (.aload_n 0, 1) := by decide +kernel
theorem dX1_init_62 : decode cX1_init 62 = .ok (.getfield 9, 3) := by decide +kernel
theorem dX1_init_65 : decode cX1_init 65 = .ok (.iload 4, 2) := by decide +kernel
theorem dX1_init_67 : decode cX1_init 67 = .ok (.iload_n 3, 1) := by decide +kernel
theorem dX1_init_68 : decode cX1_init 68 = .ok (.bipush 10, 2) := by decide +kernel
theorem dX1_init_70 : decode cX1_init 70 = .ok (.irem, 1) := by decide +kernel
theorem dX1_init_71 : decode cX1_init 71 = .ok (.invokestatic 31, 3) := by decide +kernel
theorem dX1_init_74 : decode cX1_init 74 = .ok (.iload_n 3, 1) := by decide +kernel
theorem dX1_init_75 : decode cX1_init 75 = .ok (.bipush 10, 2) := by decide +kernel
theorem dX1_init_77 : decode cX1_init 77 = .ok (.idiv, 1) := by decide +kernel
theorem dX1_init_78 : decode cX1_init 78 = .ok (.istore_n 3, 1) := by decide +kernel
theorem dX1_init_79 : decode cX1_init 79 = .ok (.iinc 4 (-1), 3) := by decide +kernel
theorem dX1_init_82 : decode cX1_init 82 = .ok (.goto (-26), 3) := by decide +kernel
theorem dX1_init_85 : decode cX1_init 85 = .ok (.aload_n 0, 1) := by decide +kernel
theorem dX1_init_86 : decode cX1_init 86 = .ok (.invokevirtual 35, 3) := by decide +kernel
theorem dX1_init_89 : decode cX1_init 89 = .ok (.return_, 1) := by decide +kernel
theorem dX1_length_0 : decode cX1_length 0 = .ok (.aload_n 0, 1) := by decide +kernel
theorem dX1_length_1 : decode cX1_length 1 = .ok (.getfield 27, 3) := by decide +kernel
theorem dX1_length_4 : decode cX1_length 4 = .ok (.ireturn, 1) := by decide +kernel
theorem dX1_hasSite_0 : decode cX1_hasSite 0 = .ok (.iload_n 1, 1) := by decide +kernel
theorem dX1_hasSite_1 : decode cX1_hasSite 1 = .ok (.ifCond .lt 15, 3) := by decide +kernel
theorem dX1_hasSite_4 : decode cX1_hasSite 4 = .ok (.iload_n 1, 1) := by decide +kernel
theorem dX1_hasSite_5 : decode cX1_hasSite 5 = .ok (.aload_n 0, 1) := by decide +kernel
theorem dX1_hasSite_6 : decode cX1_hasSite 6 = .ok (.getfield 27, 3) := by decide +kernel
theorem dX1_hasSite_9 : decode cX1_hasSite 9 = .ok (.if_icmp .ge 7, 3) := by decide +kernel
theorem dX1_hasSite_12 : decode cX1_hasSite 12 = .ok (.iconst 1, 1) := by decide +kernel
theorem dX1_hasSite_13 : decode cX1_hasSite 13 = .ok (.goto 4, 3) := by decide +kernel
theorem dX1_hasSite_16 : decode cX1_hasSite 16 = .ok (.iconst 0, 1) := by decide +kernel
theorem dX1_hasSite_17 : decode cX1_hasSite 17 = .ok (.ireturn, 1) := by decide +kernel
theorem dX1_isSound_0 : decode cX1_isSound 0 = .ok (.aload_n 0, 1) := by decide +kernel
theorem dX1_isSound_1 : decode cX1_isSound 1 = .ok (.getfield 38, 3) := by decide +kernel
theorem dX1_isSound_4 : decode cX1_isSound 4 = .ok (.ireturn, 1) := by decide +kernel
set_option maxRecDepth 20000 in
theorem ggX1_siteOf_J9_floorMod_7cf53 : GoodIn wsX1_siteOf wsJ9_floorMod_7cf53 := goodIn_r _ [5] (by decide +kernel) (by decide +kernel)
set_option maxRecDepth 20000 in
theorem gX1_siteOf_J9_floorMod_7cf53 : GoodIn wsX1_siteOf (va_wsS RX1 42 yJ9_floorMod_7cf53 wsJ9_floorMod_7cf53) := goodIn_app (goodIn_of _ (by decide +kernel)) ggX1_siteOf_J9_floorMod_7cf53
theorem dX1_siteOf_0 : decode cX1_siteOf 0 = .ok (.aload_n 0, 1) := by decide +kernel
theorem dX1_siteOf_1 : decode cX1_siteOf 1 = .ok (.getfield 27, 3) := by decide +kernel
theorem dX1_siteOf_4 : decode cX1_siteOf 4 = .ok (.ifCond .le 14, 3) := by decide +kernel
theorem dX1_siteOf_7 : decode cX1_siteOf 7 = .ok (.iload_n 1, 1) := by decide +kernel
theorem dX1_siteOf_8 : decode cX1_siteOf 8 = .ok (.aload_n 0, 1) := by decide +kernel
theorem dX1_siteOf_9 : decode cX1_siteOf 9 = .ok (.getfield 27, 3) := by decide +kernel
theorem dX1_siteOf_12 : decode cX1_siteOf 12 = .ok (.invokestatic 42, 3) := by decide +kernel
theorem dX1_siteOf_15 : decode cX1_siteOf 15 = .ok (.goto 4, 3) := by decide +kernel
theorem dX1_siteOf_18 : decode cX1_siteOf 18 = .ok (.iconst 0, 1) := by decide +kernel
theorem dX1_siteOf_19 : decode cX1_siteOf 19 = .ok (.ireturn, 1) := by decide +kernel
set_option maxRecDepth 20000 in
theorem ggX1_throwAt_X1_siteOf : GoodIn wsX1_throwAt wsX1_siteOf := goodIn_r _ [6, 7, 8, 9, 10, 11, 15, 16, 17, 18, 19, 20, 21] (by decide +kernel) (by decide +kernel)
set_option maxRecDepth 20000 in
theorem gX1_throwAt_X1_siteOf : GoodIn wsX1_throwAt (wsV RX1 48 RX1 yX1_siteOf wsX1_siteOf) := goodIn_app (goodIn_of _ (by decide +kernel)) ggX1_throwAt_X1_siteOf
set_option maxRecDepth 20000 in
theorem ggX1_throwAt_X3_cell : GoodIn wsX1_throwAt wsX3_cell := goodIn_r _ [14] (by decide +kernel) (by decide +kernel)
set_option maxRecDepth 20000 in
theorem gX1_throwAt_X3_cell_n52 : GoodIn wsX1_throwAt (wsX3_cell) := ggX1_throwAt_X3_cell
theorem dX1_throwAt_0 : decode cX1_throwAt 0 = .ok (.aload_n 0, 1) := by decide +kernel
theorem dX1_throwAt_1 : decode cX1_throwAt 1 = .ok (.getfield 9, 3) := by decide +kernel
theorem dX1_throwAt_4 : decode cX1_throwAt 4 = .ok (.aload_n 0, 1) := by decide +kernel
theorem dX1_throwAt_5 : decode cX1_throwAt 5 = .ok (.iload_n 1, 1) := by decide +kernel
theorem dX1_throwAt_6 : decode cX1_throwAt 6 = .ok (.invokevirtual 48, 3) := by decide +kernel
theorem dX1_throwAt_9 : decode cX1_throwAt 9 = .ok (.invokestatic 52, 3) := by decide +kernel
theorem dX1_throwAt_12 : decode cX1_throwAt 12 = .ok (.ireturn, 1) := by decide +kernel
set_option maxRecDepth 20000 in
theorem ggX1_stateAt_X3_cell : GoodIn wsX1_stateAt wsX3_cell := goodIn_r _ [4] (by decide +kernel) (by decide +kernel)
set_option maxRecDepth 20000 in
theorem gX1_stateAt_X3_cell_n52 : GoodIn wsX1_stateAt (wsX3_cell) := ggX1_stateAt_X3_cell
theorem dX1_stateAt_0 : decode cX1_stateAt 0 = .ok (.aload_n 0, 1) := by decide +kernel
theorem dX1_stateAt_1 : decode cX1_stateAt 1 = .ok (.getfield 24, 3) := by decide +kernel
theorem dX1_stateAt_4 : decode cX1_stateAt 4 = .ok (.iload_n 1, 1) := by decide +kernel
theorem dX1_stateAt_5 : decode cX1_stateAt 5 = .ok (.invokestatic 52, 3) := by decide +kernel
theorem dX1_stateAt_8 : decode cX1_stateAt 8 = .ok (.ireturn, 1) := by decide +kernel
set_option maxRecDepth 20000 in
theorem ggX1_settle_X3_cell : GoodIn wsX1_settle wsX3_cell := goodIn_r _ [9] (by decide +kernel) (by decide +kernel)
set_option maxRecDepth 20000 in
theorem gX1_settle_X3_cell_n52 : GoodIn wsX1_settle (wsX3_cell) := ggX1_settle_X3_cell
set_option maxRecDepth 20000 in
theorem ggX1_settle_X1_siteOf : GoodIn wsX1_settle wsX1_siteOf := goodIn_r _ [14, 1, 15, 16, 17, 18, 40, 41, 42, 43, 44, 45, 46] (by decide +kernel) (by decide +kernel)
set_option maxRecDepth 20000 in
theorem gX1_settle_X1_siteOf : GoodIn wsX1_settle (wsV RX1 48 RX1 yX1_siteOf wsX1_siteOf) := goodIn_app (goodIn_of _ (by decide +kernel)) ggX1_settle_X1_siteOf
set_option maxRecDepth 20000 in
theorem ggX1_settle_X3_setCell : GoodIn wsX1_settle wsX3_setCell := goodIn_r _ [20] (by decide +kernel) (by decide +kernel)
set_option maxRecDepth 20000 in
theorem gX1_settle_X3_setCell_n31 : GoodIn wsX1_settle (wsX3_setCell) := ggX1_settle_X3_setCell
set_option maxRecDepth 20000 in
theorem ggX1_settle_J6_bitCount_0f7a4 : GoodIn wsX1_settle wsJ6_bitCount_0f7a4 := goodIn_r _ [24, 25, 26, 27] (by decide +kernel) (by decide +kernel)
set_option maxRecDepth 20000 in
theorem gX1_settle_J6_bitCount_0f7a4 : GoodIn wsX1_settle (va_wsS RX1 63 yJ6_bitCount_0f7a4 wsJ6_bitCount_0f7a4) := goodIn_app (goodIn_of _ (by decide +kernel)) ggX1_settle_J6_bitCount_0f7a4
set_option maxRecDepth 20000 in
theorem ggX1_settle_X1_turnFrom : GoodIn wsX1_settle wsX1_turnFrom := goodIn_r _ [31, 1, 2, 3, 7, 8, 9, 40, 41, 42, 43, 44, 45, 46] (by decide +kernel) (by decide +kernel)
set_option maxRecDepth 20000 in
theorem gX1_settle_X1_turnFrom : GoodIn wsX1_settle (wsV RX1 68 RX1 yX1_turnFrom wsX1_turnFrom) := goodIn_app (goodIn_of _ (by decide +kernel)) ggX1_settle_X1_turnFrom
set_option maxRecDepth 20000 in
theorem ggX1_settle_X1_stateBefore : GoodIn wsX1_settle wsX1_stateBefore := goodIn_r _ [35, 36, 37, 38, 13, 39, 2, 10, 11, 12, 14, 1, 15, 16, 17, 18, 7, 8, 9, 40, 41, 42, 43, 44, 45, 46] (by decide +kernel) (by decide +kernel)
set_option maxRecDepth 20000 in
theorem gX1_settle_X1_stateBefore : GoodIn wsX1_settle (wsV RX1 71 RX1 yX1_stateBefore wsX1_stateBefore) := goodIn_app (goodIn_of _ (by decide +kernel)) ggX1_settle_X1_stateBefore
theorem dX1_settle_0 : decode cX1_settle 0 = .ok (.iconst 0, 1) := by decide +kernel
theorem dX1_settle_1 : decode cX1_settle 1 = .ok (.istore_n 1, 1) := by decide +kernel
theorem dX1_settle_2 : decode cX1_settle 2 = .ok (.iconst 0, 1) := by decide +kernel
theorem dX1_settle_3 : decode cX1_settle 3 = .ok (.istore_n 2, 1) := by decide +kernel
theorem dX1_settle_4 : decode cX1_settle 4 = .ok (.iload_n 2, 1) := by decide +kernel
theorem dX1_settle_5 : decode cX1_settle 5 = .ok (.aload_n 0, 1) := by decide +kernel
theorem dX1_settle_6 : decode cX1_settle 6 = .ok (.getfield 27, 3) := by decide +kernel
theorem dX1_settle_9 : decode cX1_settle 9 = .ok (.if_icmp .ge 39, 3) := by decide +kernel
theorem dX1_settle_12 : decode cX1_settle 12 = .ok (.aload_n 0, 1) := by decide +kernel
theorem dX1_settle_13 : decode cX1_settle 13 = .ok (.iload_n 2, 1) := by decide +kernel
theorem dX1_settle_14 : decode cX1_settle 14 = .ok (.aload_n 0, 1) := by decide +kernel
theorem dX1_settle_15 : decode cX1_settle 15 = .ok (.getfield 9, 3) := by decide +kernel
theorem dX1_settle_18 : decode cX1_settle 18 = .ok (.iload_n 2, 1) := by decide +kernel
theorem dX1_settle_19 : decode cX1_settle 19 = .ok (.invokestatic 52, 3) := by decide +kernel
theorem dX1_settle_22 : decode cX1_settle 22 = .ok (.iadd, 1) := by decide +kernel
theorem dX1_settle_23 : decode cX1_settle 23 = .ok (.invokevirtual 48, 3) := by decide +kernel
theorem dX1_settle_26 : decode cX1_settle 26 = .ok (.istore_n 3, 1) := by decide +kernel
theorem dX1_settle_27 : decode cX1_settle 27 = .ok (.aload_n 0, 1) := by decide +kernel
theorem dX1_settle_28 : decode cX1_settle 28 = .ok (.getfield 18, 3) := by decide +kernel
theorem dX1_settle_31 : decode cX1_settle 31 = .ok (.iload_n 2, 1) := by decide +kernel
theorem dX1_settle_32 : decode cX1_settle 32 = .ok (.iload_n 3, 1) := by decide +kernel
theorem dX1_settle_33 : decode cX1_settle 33 = .ok (.invokestatic 31, 3) := by decide +kernel
theorem dX1_settle_36 : decode cX1_settle 36 = .ok (.iload_n 1, 1) := by decide +kernel
theorem dX1_settle_37 : decode cX1_settle 37 = .ok (.iconst 1, 1) := by decide +kernel
theorem dX1_settle_38 : decode cX1_settle 38 = .ok (.iload_n 3, 1) := by decide +kernel
theorem dX1_settle_39 : decode cX1_settle 39 = .ok (.ishl, 1) := by decide +kernel
theorem dX1_settle_40 : decode cX1_settle 40 = .ok (.ior, 1) := by decide +kernel
theorem dX1_settle_41 : decode cX1_settle 41 = .ok (.istore_n 1, 1) := by decide +kernel
theorem dX1_settle_42 : decode cX1_settle 42 = .ok (.iinc 2 1, 3) := by decide +kernel
theorem dX1_settle_45 : decode cX1_settle 45 = .ok (.goto (-41), 3) := by decide +kernel
theorem dX1_settle_48 : decode cX1_settle 48 = .ok (.aload_n 0, 1) := by decide +kernel
theorem dX1_settle_49 : decode cX1_settle 49 = .ok (.iload_n 1, 1) := by decide +kernel
theorem dX1_settle_50 : decode cX1_settle 50 = .ok (.invokestatic 63, 3) := by decide +kernel
theorem dX1_settle_53 : decode cX1_settle 53 = .ok (.aload_n 0, 1) := by decide +kernel
theorem dX1_settle_54 : decode cX1_settle 54 = .ok (.getfield 27, 3) := by decide +kernel
theorem dX1_settle_57 : decode cX1_settle 57 = .ok (.if_icmp .ne 7, 3) := by decide +kernel
theorem dX1_settle_60 : decode cX1_settle 60 = .ok (.iconst 1, 1) := by decide +kernel
theorem dX1_settle_61 : decode cX1_settle 61 = .ok (.goto 4, 3) := by decide +kernel
theorem dX1_settle_64 : decode cX1_settle 64 = .ok (.iconst 0, 1) := by decide +kernel
theorem dX1_settle_65 : decode cX1_settle 65 = .ok (.putfield 38, 3) := by decide +kernel
theorem dX1_settle_68 : decode cX1_settle 68 = .ok (.iconst 0, 1) := by decide +kernel
theorem dX1_settle_69 : decode cX1_settle 69 = .ok (.istore_n 2, 1) := by decide +kernel
theorem dX1_settle_70 : decode cX1_settle 70 = .ok (.iload_n 2, 1) := by decide +kernel
theorem dX1_settle_71 : decode cX1_settle 71 = .ok (.aload_n 0, 1) := by decide +kernel
theorem dX1_settle_72 : decode cX1_settle 72 = .ok (.getfield 27, 3) := by decide +kernel
theorem dX1_settle_75 : decode cX1_settle 75 = .ok (.if_icmp .ge 35, 3) := by decide +kernel
theorem dX1_settle_78 : decode cX1_settle 78 = .ok (.aload_n 0, 1) := by decide +kernel
theorem dX1_settle_79 : decode cX1_settle 79 = .ok (.getfield 21, 3) := by decide +kernel
theorem dX1_settle_82 : decode cX1_settle 82 = .ok (.iload_n 2, 1) := by decide +kernel
theorem dX1_settle_83 : decode cX1_settle 83 = .ok (.aload_n 0, 1) := by decide +kernel
theorem dX1_settle_84 : decode cX1_settle 84 = .ok (.iload_n 2, 1) := by decide +kernel
theorem dX1_settle_85 : decode cX1_settle 85 = .ok (.invokevirtual 68, 3) := by decide +kernel
theorem dX1_settle_88 : decode cX1_settle 88 = .ok (.invokestatic 31, 3) := by decide +kernel
theorem dX1_settle_91 : decode cX1_settle 91 = .ok (.aload_n 0, 1) := by decide +kernel
theorem dX1_settle_92 : decode cX1_settle 92 = .ok (.getfield 24, 3) := by decide +kernel
theorem dX1_settle_95 : decode cX1_settle 95 = .ok (.iload_n 2, 1) := by decide +kernel
theorem dX1_settle_96 : decode cX1_settle 96 = .ok (.aload_n 0, 1) := by decide +kernel
theorem dX1_settle_97 : decode cX1_settle 97 = .ok (.iload_n 2, 1) := by decide +kernel
theorem dX1_settle_98 : decode cX1_settle 98 = .ok (.invokevirtual 71, 3) := by decide +kernel
theorem dX1_settle_101 : decode cX1_settle 101 = .ok (.invokestatic 31, 3) := by decide +kernel
theorem dX1_settle_104 : decode cX1_settle 104 = .ok (.iinc 2 1, 3) := by decide +kernel
theorem dX1_settle_107 : decode cX1_settle 107 = .ok (.goto (-37), 3) := by decide +kernel
theorem dX1_settle_110 : decode cX1_settle 110 = .ok (.return_, 1) := by decide +kernel
set_option maxRecDepth 20000 in
theorem ggX1_turnFrom_X3_cell : GoodIn wsX1_turnFrom wsX3_cell := goodIn_r _ [6] (by decide +kernel) (by decide +kernel)
set_option maxRecDepth 20000 in
theorem gX1_turnFrom_X3_cell_n52 : GoodIn wsX1_turnFrom (wsX3_cell) := ggX1_turnFrom_X3_cell
theorem dX1_turnFrom_0 : decode cX1_turnFrom 0 = .ok (.iconst 0, 1) := by decide +kernel
theorem dX1_turnFrom_1 : decode cX1_turnFrom 1 = .ok (.istore_n 2, 1) := by decide +kernel
theorem dX1_turnFrom_2 : decode cX1_turnFrom 2 = .ok (.iload_n 1, 1) := by decide +kernel
theorem dX1_turnFrom_3 : decode cX1_turnFrom 3 = .ok (.istore_n 3, 1) := by decide +kernel
theorem dX1_turnFrom_4 : decode cX1_turnFrom 4 = .ok (.iconst 0, 1) := by decide +kernel
theorem dX1_turnFrom_5 : decode cX1_turnFrom 5 = .ok (.istore 4, 2) := by decide +kernel
theorem dX1_turnFrom_7 : decode cX1_turnFrom 7 = .ok (.iload 4, 2) := by decide +kernel
theorem dX1_turnFrom_9 : decode cX1_turnFrom 9 = .ok (.aload_n 0, 1) := by decide +kernel
theorem dX1_turnFrom_10 : decode cX1_turnFrom 10 = .ok (.getfield 27, 3) := by decide +kernel
theorem dX1_turnFrom_13 : decode cX1_turnFrom 13 = .ok (.if_icmp .ge 36, 3) := by decide +kernel
theorem dX1_turnFrom_16 : decode cX1_turnFrom 16 = .ok (.iload_n 2, 1) := by decide +kernel
theorem dX1_turnFrom_17 : decode cX1_turnFrom 17 = .ok (.aload_n 0, 1) := by decide +kernel
theorem dX1_turnFrom_18 : decode cX1_turnFrom 18 = .ok (.getfield 9, 3) := by decide +kernel
theorem dX1_turnFrom_21 : decode cX1_turnFrom 21 = .ok (.iload_n 3, 1) := by decide +kernel
theorem dX1_turnFrom_22 : decode cX1_turnFrom 22 = .ok (.invokestatic 52, 3) := by decide +kernel
theorem dX1_turnFrom_25 : decode cX1_turnFrom 25 = .ok (.iadd, 1) := by decide +kernel
theorem dX1_turnFrom_26 : decode cX1_turnFrom 26 = .ok (.istore_n 2, 1) := by decide +kernel
theorem dX1_turnFrom_27 : decode cX1_turnFrom 27 = .ok (.aload_n 0, 1) := by decide +kernel
theorem dX1_turnFrom_28 : decode cX1_turnFrom 28 = .ok (.getfield 18, 3) := by decide +kernel
theorem dX1_turnFrom_31 : decode cX1_turnFrom 31 = .ok (.iload_n 3, 1) := by decide +kernel
theorem dX1_turnFrom_32 : decode cX1_turnFrom 32 = .ok (.invokestatic 52, 3) := by decide +kernel
theorem dX1_turnFrom_35 : decode cX1_turnFrom 35 = .ok (.istore_n 3, 1) := by decide +kernel
theorem dX1_turnFrom_36 : decode cX1_turnFrom 36 = .ok (.iload_n 3, 1) := by decide +kernel
theorem dX1_turnFrom_37 : decode cX1_turnFrom 37 = .ok (.iload_n 1, 1) := by decide +kernel
theorem dX1_turnFrom_38 : decode cX1_turnFrom 38 = .ok (.if_icmp .ne 5, 3) := by decide +kernel
theorem dX1_turnFrom_41 : decode cX1_turnFrom 41 = .ok (.iload_n 2, 1) := by decide +kernel
theorem dX1_turnFrom_42 : decode cX1_turnFrom 42 = .ok (.ireturn, 1) := by decide +kernel
theorem dX1_turnFrom_43 : decode cX1_turnFrom 43 = .ok (.iinc 4 1, 3) := by decide +kernel
theorem dX1_turnFrom_46 : decode cX1_turnFrom 46 = .ok (.goto (-39), 3) := by decide +kernel
theorem dX1_turnFrom_49 : decode cX1_turnFrom 49 = .ok (.iload_n 2, 1) := by decide +kernel
theorem dX1_turnFrom_50 : decode cX1_turnFrom 50 = .ok (.ireturn, 1) := by decide +kernel
set_option maxRecDepth 20000 in
theorem ggX1_stateBefore_X1_throwAt : GoodIn wsX1_stateBefore wsX1_throwAt := goodIn_r _ [5, 6, 7, 8, 9, 4, 10, 11, 12, 13, 14, 15, 16, 17, 18, 19, 20, 21, 22, 23, 24, 25] (by decide +kernel) (by decide +kernel)
set_option maxRecDepth 20000 in
theorem gX1_stateBefore_X1_throwAt : GoodIn wsX1_stateBefore (wsV RX1 56 RX1 yX1_throwAt wsX1_throwAt) := goodIn_app (goodIn_of _ (by decide +kernel)) ggX1_stateBefore_X1_throwAt
theorem dX1_stateBefore_0 : decode cX1_stateBefore 0 = .ok (.iconst 0, 1) := by decide +kernel
theorem dX1_stateBefore_1 : decode cX1_stateBefore 1 = .ok (.istore_n 2, 1) := by decide +kernel
theorem dX1_stateBefore_2 : decode cX1_stateBefore 2 = .ok (.iconst 1, 1) := by decide +kernel
theorem dX1_stateBefore_3 : decode cX1_stateBefore 3 = .ok (.istore_n 3, 1) := by decide +kernel
theorem dX1_stateBefore_4 : decode cX1_stateBefore 4 = .ok (.iload_n 3, 1) := by decide +kernel
theorem dX1_stateBefore_5 : decode cX1_stateBefore 5 = .ok (.bipush 9, 2) := by decide +kernel
theorem dX1_stateBefore_7 : decode cX1_stateBefore 7 = .ok (.if_icmp .gt 32, 3) := by decide +kernel
theorem dX1_stateBefore_10 : decode cX1_stateBefore 10 = .ok (.aload_n 0, 1) := by decide +kernel
theorem dX1_stateBefore_11 : decode cX1_stateBefore 11 = .ok (.iload_n 1, 1) := by decide +kernel
theorem dX1_stateBefore_12 : decode cX1_stateBefore 12 = .ok (.iload_n 3, 1) := by decide +kernel
theorem dX1_stateBefore_13 : decode cX1_stateBefore 13 = .ok (.isub, 1) := by decide +kernel
theorem dX1_stateBefore_14 : decode cX1_stateBefore 14 = .ok (.invokevirtual 56, 3) := by decide +kernel
theorem dX1_stateBefore_17 : decode cX1_stateBefore 17 = .ok (.iload_n 3, 1) := by decide +kernel
theorem dX1_stateBefore_18 : decode cX1_stateBefore 18 = .ok (.isub, 1) := by decide +kernel
theorem dX1_stateBefore_19 : decode cX1_stateBefore 19 = .ok (.istore 4, 2) := by decide +kernel
theorem dX1_stateBefore_21 : decode cX1_stateBefore 21 = .ok (.iload 4, 2) := by decide +kernel
theorem dX1_stateBefore_23 : decode cX1_stateBefore 23 = .ok (.ifCond .lt 10, 3) := by decide +kernel
theorem dX1_stateBefore_26 : decode cX1_stateBefore 26 = .ok (.iload_n 2, 1) := by decide +kernel
theorem dX1_stateBefore_27 : decode cX1_stateBefore 27 = .ok (.iconst 1, 1) := by decide +kernel
theorem dX1_stateBefore_28 : decode cX1_stateBefore 28 = .ok (.iload 4, 2) := by decide +kernel
theorem dX1_stateBefore_30 : decode cX1_stateBefore 30 = .ok (.ishl, 1) := by decide +kernel
theorem dX1_stateBefore_31 : decode cX1_stateBefore 31 = .ok (.ior, 1) := by decide +kernel
theorem dX1_stateBefore_32 : decode cX1_stateBefore 32 = .ok (.istore_n 2, 1) := by decide +kernel
theorem dX1_stateBefore_33 : decode cX1_stateBefore 33 = .ok (.iinc 3 1, 3) := by decide +kernel
theorem dX1_stateBefore_36 : decode cX1_stateBefore 36 = .ok (.goto (-32), 3) := by decide +kernel
theorem dX1_stateBefore_39 : decode cX1_stateBefore 39 = .ok (.iload_n 2, 1) := by decide +kernel
theorem dX1_stateBefore_40 : decode cX1_stateBefore 40 = .ok (.ireturn, 1) := by decide +kernel
set_option maxRecDepth 20000 in
theorem ggX1_answer_X1_props : GoodIn wsX1_answer wsX1_props := goodIn_r _ [7, 2, 1, 8, 9, 10, 6, 11, 12, 13, 14, 15, 75, 76, 77, 78, 79, 80, 81] (by decide +kernel) (by decide +kernel)
set_option maxRecDepth 20000 in
theorem gX1_answer_X1_props : GoodIn wsX1_answer (wsV RX1 74 RX1 yX1_props wsX1_props) := goodIn_app (goodIn_of _ (by decide +kernel)) ggX1_answer_X1_props
set_option maxRecDepth 20000 in
theorem ggX1_answer_X1_highestThrow : GoodIn wsX1_answer wsX1_highestThrow := goodIn_r _ [19, 1, 12, 20, 21, 22, 23, 13, 14, 15, 75, 76, 77, 78, 79, 80, 81] (by decide +kernel) (by decide +kernel)
set_option maxRecDepth 20000 in
theorem gX1_answer_X1_highestThrow : GoodIn wsX1_answer (wsV RX1 78 RX1 yX1_highestThrow wsX1_highestThrow) := goodIn_app (goodIn_of _ (by decide +kernel)) ggX1_answer_X1_highestThrow
set_option maxRecDepth 20000 in
theorem ggX1_answer_X1_crossingThrows : GoodIn wsX1_answer wsX1_crossingThrows := goodIn_r _ [27, 1, 12, 13, 14, 15, 75, 76, 77, 78, 79, 80, 81] (by decide +kernel) (by decide +kernel)
set_option maxRecDepth 20000 in
theorem gX1_answer_X1_crossingThrows : GoodIn wsX1_answer (wsV RX1 81 RX1 yX1_crossingThrows wsX1_crossingThrows) := goodIn_app (goodIn_of _ (by decide +kernel)) ggX1_answer_X1_crossingThrows
set_option maxRecDepth 20000 in
theorem ggX1_answer_X1_orbits : GoodIn wsX1_answer wsX1_orbits := goodIn_r _ [31, 1, 12, 13, 14, 15, 32, 33, 34, 6, 35, 36, 75, 76, 77, 78, 79, 80, 81] (by decide +kernel) (by decide +kernel)
set_option maxRecDepth 20000 in
theorem gX1_answer_X1_orbits : GoodIn wsX1_answer (wsV RX1 84 RX1 yX1_orbits wsX1_orbits) := goodIn_app (goodIn_of _ (by decide +kernel)) ggX1_answer_X1_orbits
set_option maxRecDepth 20000 in
theorem ggX1_answer_X1_oneIfPrime : GoodIn wsX1_answer wsX1_oneIfPrime := goodIn_r _ [40, 1, 41, 42, 43, 6, 44, 45, 13, 14, 15, 75, 76, 77, 78, 79, 80, 81] (by decide +kernel) (by decide +kernel)
set_option maxRecDepth 20000 in
theorem gX1_answer_X1_oneIfPrime : GoodIn wsX1_answer (wsV RX1 87 RX1 yX1_oneIfPrime wsX1_oneIfPrime) := goodIn_app (goodIn_of _ (by decide +kernel)) ggX1_answer_X1_oneIfPrime
set_option maxRecDepth 20000 in
theorem ggX1_answer_X1_oneIfGround : GoodIn wsX1_answer wsX1_oneIfGround := goodIn_r _ [49, 1, 3, 4, 5, 6, 7, 2, 8, 9, 10, 11, 12, 13, 14, 15, 41, 42, 43, 44, 45, 75, 76, 77, 78, 79, 80, 81] (by decide +kernel) (by decide +kernel)
set_option maxRecDepth 20000 in
theorem gX1_answer_X1_oneIfGround : GoodIn wsX1_answer (wsV RX1 90 RX1 yX1_oneIfGround wsX1_oneIfGround) := goodIn_app (goodIn_of _ (by decide +kernel)) ggX1_answer_X1_oneIfGround
set_option maxRecDepth 20000 in
theorem ggX1_answer_X1_period : GoodIn wsX1_answer wsX1_period := goodIn_r _ [53, 1, 54, 55, 56, 6, 57, 12, 58, 59, 60, 61, 62, 63, 64, 65, 66, 67, 68, 69, 13, 14, 15, 75, 76, 77, 78, 79, 80, 81] (by decide +kernel) (by decide +kernel)
set_option maxRecDepth 20000 in
theorem gX1_answer_X1_period : GoodIn wsX1_answer (wsV RX1 93 RX1 yX1_period wsX1_period) := goodIn_app (goodIn_of _ (by decide +kernel)) ggX1_answer_X1_period
set_option maxRecDepth 20000 in
theorem ggX1_answer_X1_greatestTurn : GoodIn wsX1_answer wsX1_greatestTurn := goodIn_r _ [73, 1, 74, 20, 21, 22, 23, 13, 14, 15, 75, 76, 77, 78, 79, 80, 81] (by decide +kernel) (by decide +kernel)
set_option maxRecDepth 20000 in
theorem gX1_answer_X1_greatestTurn : GoodIn wsX1_answer (wsV RX1 96 RX1 yX1_greatestTurn wsX1_greatestTurn) := goodIn_app (goodIn_of _ (by decide +kernel)) ggX1_answer_X1_greatestTurn
theorem dX1_answer_0 : decode cX1_answer 0 = .ok (.iload_n 1, 1) := by decide +kernel
theorem dX1_answer_1 : decode cX1_answer 1 = .ok (.tableswitch 137 0 8 #[51, 56, 69, 74, 79, 84, 100, 116, 132], 51) := by decide +kernel
theorem dX1_answer_52 : decode cX1_answer 52 = .ok (.aload_n 0, 1) := by decide +kernel
theorem dX1_answer_53 : decode cX1_answer 53 = .ok (.getfield 27, 3) := by decide +kernel
theorem dX1_answer_56 : decode cX1_answer 56 = .ok (.ireturn, 1) := by decide +kernel
theorem dX1_answer_57 : decode cX1_answer 57 = .ok (.aload_n 0, 1) := by decide +kernel
theorem dX1_answer_58 : decode cX1_answer 58 = .ok (.getfield 38, 3) := by decide +kernel
theorem dX1_answer_61 : decode cX1_answer 61 = .ok (.ifCond .eq 7, 3) := by decide +kernel
theorem dX1_answer_64 : decode cX1_answer 64 = .ok (.iconst 1, 1) := by decide +kernel
theorem dX1_answer_65 : decode cX1_answer 65 = .ok (.goto 4, 3) := by decide +kernel
theorem dX1_answer_68 : decode cX1_answer 68 = .ok (.iconst 0, 1) := by decide +kernel
theorem dX1_answer_69 : decode cX1_answer 69 = .ok (.ireturn, 1) := by decide +kernel
theorem dX1_answer_70 : decode cX1_answer 70 = .ok (.aload_n 0, 1) := by decide +kernel
theorem dX1_answer_71 : decode cX1_answer 71 = .ok (.invokevirtual 74, 3) := by decide +kernel
theorem dX1_answer_74 : decode cX1_answer 74 = .ok (.ireturn, 1) := by decide +kernel
theorem dX1_answer_75 : decode cX1_answer 75 = .ok (.aload_n 0, 1) := by decide +kernel
theorem dX1_answer_76 : decode cX1_answer 76 = .ok (.invokevirtual 78, 3) := by decide +kernel
theorem dX1_answer_79 : decode cX1_answer 79 = .ok (.ireturn, 1) := by decide +kernel
theorem dX1_answer_80 : decode cX1_answer 80 = .ok (.aload_n 0, 1) := by decide +kernel
theorem dX1_answer_81 : decode cX1_answer 81 = .ok (.invokevirtual 81, 3) := by decide +kernel
theorem dX1_answer_84 : decode cX1_answer 84 = .ok (.ireturn, 1) := by decide +kernel
theorem dX1_answer_85 : decode cX1_answer 85 = .ok (.aload_n 0, 1) := by decide +kernel
theorem dX1_answer_86 : decode cX1_answer 86 = .ok (.getfield 38, 3) := by decide +kernel
theorem dX1_answer_89 : decode cX1_answer 89 = .ok (.ifCond .eq 10, 3) := by decide +kernel
theorem dX1_answer_92 : decode cX1_answer 92 = .ok (.aload_n 0, 1) := by decide +kernel
theorem dX1_answer_93 : decode cX1_answer 93 = .ok (.invokevirtual 84, 3) := by decide +kernel
theorem dX1_answer_96 : decode cX1_answer 96 = .ok (.goto 4, 3) := by decide +kernel
theorem dX1_answer_99 : decode cX1_answer 99 = .ok (.iconst (-1), 1) := by decide +kernel
theorem dX1_answer_100 : decode cX1_answer 100 = .ok (.ireturn, 1) := by decide +kernel
theorem dX1_answer_101 : decode cX1_answer 101 = .ok (.aload_n 0, 1) := by decide +kernel
theorem dX1_answer_102 : decode cX1_answer 102 = .ok (.getfield 38, 3) := by decide +kernel
theorem dX1_answer_105 : decode cX1_answer 105 = .ok (.ifCond .eq 10, 3) := by decide +kernel
theorem dX1_answer_108 : decode cX1_answer 108 = .ok (.aload_n 0, 1) := by decide +kernel
theorem dX1_answer_109 : decode cX1_answer 109 = .ok (.invokevirtual 87, 3) := by decide +kernel
theorem dX1_answer_112 : decode cX1_answer 112 = .ok (.goto 4, 3) := by decide +kernel
theorem dX1_answer_115 : decode cX1_answer 115 = .ok (.iconst (-1), 1) := by decide +kernel
theorem dX1_answer_116 : decode cX1_answer 116 = .ok (.ireturn, 1) := by decide +kernel
theorem dX1_answer_117 : decode cX1_answer 117 = .ok (.aload_n 0, 1) := by decide +kernel
theorem dX1_answer_118 : decode cX1_answer 118 = .ok (.getfield 38, 3) := by decide +kernel
theorem dX1_answer_121 : decode cX1_answer 121 = .ok (.ifCond .eq 10, 3) := by decide +kernel
theorem dX1_answer_124 : decode cX1_answer 124 = .ok (.aload_n 0, 1) := by decide +kernel
theorem dX1_answer_125 : decode cX1_answer 125 = .ok (.invokevirtual 90, 3) := by decide +kernel
theorem dX1_answer_128 : decode cX1_answer 128 = .ok (.goto 4, 3) := by decide +kernel
theorem dX1_answer_131 : decode cX1_answer 131 = .ok (.iconst (-1), 1) := by decide +kernel
theorem dX1_answer_132 : decode cX1_answer 132 = .ok (.ireturn, 1) := by decide +kernel
theorem dX1_answer_133 : decode cX1_answer 133 = .ok (.aload_n 0, 1) := by decide +kernel
theorem dX1_answer_134 : decode cX1_answer 134 = .ok (.invokevirtual 93, 3) := by decide +kernel
theorem dX1_answer_137 : decode cX1_answer 137 = .ok (.ireturn, 1) := by decide +kernel
theorem dX1_answer_138 : decode cX1_answer 138 = .ok (.aload_n 0, 1) := by decide +kernel
theorem dX1_answer_139 : decode cX1_answer 139 = .ok (.getfield 38, 3) := by decide +kernel
theorem dX1_answer_142 : decode cX1_answer 142 = .ok (.ifCond .eq 10, 3) := by decide +kernel
theorem dX1_answer_145 : decode cX1_answer 145 = .ok (.aload_n 0, 1) := by decide +kernel
theorem dX1_answer_146 : decode cX1_answer 146 = .ok (.invokevirtual 96, 3) := by decide +kernel
theorem dX1_answer_149 : decode cX1_answer 149 = .ok (.goto 4, 3) := by decide +kernel
theorem dX1_answer_152 : decode cX1_answer 152 = .ok (.iconst (-1), 1) := by decide +kernel
theorem dX1_answer_153 : decode cX1_answer 153 = .ok (.ireturn, 1) := by decide +kernel
set_option maxRecDepth 20000 in
theorem ggX1_answerAt_X3_cell : GoodIn wsX1_answerAt wsX3_cell := goodIn_r _ [8] (by decide +kernel) (by decide +kernel)
set_option maxRecDepth 20000 in
theorem gX1_answerAt_X3_cell_n52 : GoodIn wsX1_answerAt (wsX3_cell) := ggX1_answerAt_X3_cell
set_option maxRecDepth 20000 in
theorem ggX1_answerAt_X1_stateAt : GoodIn wsX1_answerAt wsX1_stateAt := goodIn_r _ [13, 14, 6, 7, 8, 15, 16, 17, 18, 19, 20, 21] (by decide +kernel) (by decide +kernel)
set_option maxRecDepth 20000 in
theorem gX1_answerAt_X1_stateAt : GoodIn wsX1_answerAt (wsV RX1 99 RX1 yX1_stateAt wsX1_stateAt) := goodIn_app (goodIn_of _ (by decide +kernel)) ggX1_answerAt_X1_stateAt
theorem dX1_answerAt_0 : decode cX1_answerAt 0 = .ok (.iload_n 2, 1) := by decide +kernel
theorem dX1_answerAt_1 : decode cX1_answerAt 1 = .ok (.tableswitch 86 0 3 #[31, 40, 49, 66], 31) := by decide +kernel
theorem dX1_answerAt_32 : decode cX1_answerAt 32 = .ok (.aload_n 0, 1) := by decide +kernel
theorem dX1_answerAt_33 : decode cX1_answerAt 33 = .ok (.getfield 9, 3) := by decide +kernel
theorem dX1_answerAt_36 : decode cX1_answerAt 36 = .ok (.iload_n 1, 1) := by decide +kernel
theorem dX1_answerAt_37 : decode cX1_answerAt 37 = .ok (.invokestatic 52, 3) := by decide +kernel
theorem dX1_answerAt_40 : decode cX1_answerAt 40 = .ok (.ireturn, 1) := by decide +kernel
theorem dX1_answerAt_41 : decode cX1_answerAt 41 = .ok (.aload_n 0, 1) := by decide +kernel
theorem dX1_answerAt_42 : decode cX1_answerAt 42 = .ok (.getfield 18, 3) := by decide +kernel
theorem dX1_answerAt_45 : decode cX1_answerAt 45 = .ok (.iload_n 1, 1) := by decide +kernel
theorem dX1_answerAt_46 : decode cX1_answerAt 46 = .ok (.invokestatic 52, 3) := by decide +kernel
theorem dX1_answerAt_49 : decode cX1_answerAt 49 = .ok (.ireturn, 1) := by decide +kernel
theorem dX1_answerAt_50 : decode cX1_answerAt 50 = .ok (.aload_n 0, 1) := by decide +kernel
theorem dX1_answerAt_51 : decode cX1_answerAt 51 = .ok (.getfield 38, 3) := by decide +kernel
theorem dX1_answerAt_54 : decode cX1_answerAt 54 = .ok (.ifCond .eq 11, 3) := by decide +kernel
theorem dX1_answerAt_57 : decode cX1_answerAt 57 = .ok (.aload_n 0, 1) := by decide +kernel
theorem dX1_answerAt_58 : decode cX1_answerAt 58 = .ok (.iload_n 1, 1) := by decide +kernel
theorem dX1_answerAt_59 : decode cX1_answerAt 59 = .ok (.invokevirtual 99, 3) := by decide +kernel
theorem dX1_answerAt_62 : decode cX1_answerAt 62 = .ok (.goto 4, 3) := by decide +kernel
theorem dX1_answerAt_65 : decode cX1_answerAt 65 = .ok (.iconst (-1), 1) := by decide +kernel
theorem dX1_answerAt_66 : decode cX1_answerAt 66 = .ok (.ireturn, 1) := by decide +kernel
theorem dX1_answerAt_67 : decode cX1_answerAt 67 = .ok (.aload_n 0, 1) := by decide +kernel
theorem dX1_answerAt_68 : decode cX1_answerAt 68 = .ok (.getfield 38, 3) := by decide +kernel
theorem dX1_answerAt_71 : decode cX1_answerAt 71 = .ok (.ifCond .eq 14, 3) := by decide +kernel
theorem dX1_answerAt_74 : decode cX1_answerAt 74 = .ok (.aload_n 0, 1) := by decide +kernel
theorem dX1_answerAt_75 : decode cX1_answerAt 75 = .ok (.getfield 21, 3) := by decide +kernel
theorem dX1_answerAt_78 : decode cX1_answerAt 78 = .ok (.iload_n 1, 1) := by decide +kernel
theorem dX1_answerAt_79 : decode cX1_answerAt 79 = .ok (.invokestatic 52, 3) := by decide +kernel
theorem dX1_answerAt_82 : decode cX1_answerAt 82 = .ok (.goto 4, 3) := by decide +kernel
theorem dX1_answerAt_85 : decode cX1_answerAt 85 = .ok (.iconst (-1), 1) := by decide +kernel
theorem dX1_answerAt_86 : decode cX1_answerAt 86 = .ok (.ireturn, 1) := by decide +kernel
theorem dX1_answerAt_87 : decode cX1_answerAt 87 = .ok (.aload_n 0, 1) := by decide +kernel
theorem dX1_answerAt_88 : decode cX1_answerAt 88 = .ok (.getfield 38, 3) := by decide +kernel
theorem dX1_answerAt_91 : decode cX1_answerAt 91 = .ok (.ifCond .eq 26, 3) := by decide +kernel
theorem dX1_answerAt_94 : decode cX1_answerAt 94 = .ok (.aload_n 0, 1) := by decide +kernel
theorem dX1_answerAt_95 : decode cX1_answerAt 95 = .ok (.getfield 27, 3) := by decide +kernel
theorem dX1_answerAt_98 : decode cX1_answerAt 98 = .ok (.ifCond .le 19, 3) := by decide +kernel
theorem dX1_answerAt_101 : decode cX1_answerAt 101 = .ok (.aload_n 0, 1) := by decide +kernel
theorem dX1_answerAt_102 : decode cX1_answerAt 102 = .ok (.getfield 21, 3) := by decide +kernel
theorem dX1_answerAt_105 : decode cX1_answerAt 105 = .ok (.iload_n 1, 1) := by decide +kernel
theorem dX1_answerAt_106 : decode cX1_answerAt 106 = .ok (.invokestatic 52, 3) := by decide +kernel
theorem dX1_answerAt_109 : decode cX1_answerAt 109 = .ok (.aload_n 0, 1) := by decide +kernel
theorem dX1_answerAt_110 : decode cX1_answerAt 110 = .ok (.getfield 27, 3) := by decide +kernel
theorem dX1_answerAt_113 : decode cX1_answerAt 113 = .ok (.idiv, 1) := by decide +kernel
theorem dX1_answerAt_114 : decode cX1_answerAt 114 = .ok (.goto 4, 3) := by decide +kernel
theorem dX1_answerAt_117 : decode cX1_answerAt 117 = .ok (.iconst (-1), 1) := by decide +kernel
theorem dX1_answerAt_118 : decode cX1_answerAt 118 = .ok (.ireturn, 1) := by decide +kernel
set_option maxRecDepth 20000 in
theorem ggX1_props_X1_sumOfThrows : GoodIn wsX1_props wsX1_sumOfThrows := goodIn_r _ [7, 2, 8, 9, 10, 11, 12, 13, 14, 15, 16, 17, 18] (by decide +kernel) (by decide +kernel)
set_option maxRecDepth 20000 in
theorem gX1_props_X1_sumOfThrows : GoodIn wsX1_props (wsV RX1 102 RX1 yX1_sumOfThrows wsX1_sumOfThrows) := goodIn_app (goodIn_of _ (by decide +kernel)) ggX1_props_X1_sumOfThrows
theorem dX1_props_0 : decode cX1_props 0 = .ok (.aload_n 0, 1) := by decide +kernel
theorem dX1_props_1 : decode cX1_props 1 = .ok (.getfield 38, 3) := by decide +kernel
theorem dX1_props_4 : decode cX1_props 4 = .ok (.ifCond .eq 22, 3) := by decide +kernel
theorem dX1_props_7 : decode cX1_props 7 = .ok (.aload_n 0, 1) := by decide +kernel
theorem dX1_props_8 : decode cX1_props 8 = .ok (.getfield 27, 3) := by decide +kernel
theorem dX1_props_11 : decode cX1_props 11 = .ok (.ifCond .le 15, 3) := by decide +kernel
theorem dX1_props_14 : decode cX1_props 14 = .ok (.aload_n 0, 1) := by decide +kernel
theorem dX1_props_15 : decode cX1_props 15 = .ok (.invokevirtual 102, 3) := by decide +kernel
theorem dX1_props_18 : decode cX1_props 18 = .ok (.aload_n 0, 1) := by decide +kernel
theorem dX1_props_19 : decode cX1_props 19 = .ok (.getfield 27, 3) := by decide +kernel
theorem dX1_props_22 : decode cX1_props 22 = .ok (.idiv, 1) := by decide +kernel
theorem dX1_props_23 : decode cX1_props 23 = .ok (.goto 4, 3) := by decide +kernel
theorem dX1_props_26 : decode cX1_props 26 = .ok (.iconst (-1), 1) := by decide +kernel
theorem dX1_props_27 : decode cX1_props 27 = .ok (.ireturn, 1) := by decide +kernel
set_option maxRecDepth 20000 in
theorem ggX1_sumOfThrows_X3_cell : GoodIn wsX1_sumOfThrows wsX3_cell := goodIn_r _ [5] (by decide +kernel) (by decide +kernel)
set_option maxRecDepth 20000 in
theorem gX1_sumOfThrows_X3_cell_n52 : GoodIn wsX1_sumOfThrows (wsX3_cell) := ggX1_sumOfThrows_X3_cell
theorem dX1_sumOfThrows_0 : decode cX1_sumOfThrows 0 = .ok (.iconst 0, 1) := by decide +kernel
theorem dX1_sumOfThrows_1 : decode cX1_sumOfThrows 1 = .ok (.istore_n 1, 1) := by decide +kernel
theorem dX1_sumOfThrows_2 : decode cX1_sumOfThrows 2 = .ok (.iconst 0, 1) := by decide +kernel
theorem dX1_sumOfThrows_3 : decode cX1_sumOfThrows 3 = .ok (.istore_n 2, 1) := by decide +kernel
theorem dX1_sumOfThrows_4 : decode cX1_sumOfThrows 4 = .ok (.iload_n 2, 1) := by decide +kernel
theorem dX1_sumOfThrows_5 : decode cX1_sumOfThrows 5 = .ok (.aload_n 0, 1) := by decide +kernel
theorem dX1_sumOfThrows_6 : decode cX1_sumOfThrows 6 = .ok (.getfield 27, 3) := by decide +kernel
theorem dX1_sumOfThrows_9 : decode cX1_sumOfThrows 9 = .ok (.if_icmp .ge 20, 3) := by decide +kernel
theorem dX1_sumOfThrows_12 : decode cX1_sumOfThrows 12 = .ok (.iload_n 1, 1) := by decide +kernel
theorem dX1_sumOfThrows_13 : decode cX1_sumOfThrows 13 = .ok (.aload_n 0, 1) := by decide +kernel
theorem dX1_sumOfThrows_14 : decode cX1_sumOfThrows 14 = .ok (.getfield 9, 3) := by decide +kernel
theorem dX1_sumOfThrows_17 : decode cX1_sumOfThrows 17 = .ok (.iload_n 2, 1) := by decide +kernel
theorem dX1_sumOfThrows_18 : decode cX1_sumOfThrows 18 = .ok (.invokestatic 52, 3) := by decide +kernel
theorem dX1_sumOfThrows_21 : decode cX1_sumOfThrows 21 = .ok (.iadd, 1) := by decide +kernel
theorem dX1_sumOfThrows_22 : decode cX1_sumOfThrows 22 = .ok (.istore_n 1, 1) := by decide +kernel
theorem dX1_sumOfThrows_23 : decode cX1_sumOfThrows 23 = .ok (.iinc 2 1, 3) := by decide +kernel
theorem dX1_sumOfThrows_26 : decode cX1_sumOfThrows 26 = .ok (.goto (-22), 3) := by decide +kernel
theorem dX1_sumOfThrows_29 : decode cX1_sumOfThrows 29 = .ok (.iload_n 1, 1) := by decide +kernel
theorem dX1_sumOfThrows_30 : decode cX1_sumOfThrows 30 = .ok (.ireturn, 1) := by decide +kernel
set_option maxRecDepth 20000 in
theorem ggX1_highestThrow_X3_cell : GoodIn wsX1_highestThrow wsX3_cell := goodIn_r _ [9] (by decide +kernel) (by decide +kernel)
set_option maxRecDepth 20000 in
theorem gX1_highestThrow_X3_cell_n52 : GoodIn wsX1_highestThrow (wsX3_cell) := ggX1_highestThrow_X3_cell
theorem dX1_highestThrow_0 : decode cX1_highestThrow 0 = .ok (.iconst 0, 1) := by decide +kernel
theorem dX1_highestThrow_1 : decode cX1_highestThrow 1 = .ok (.istore_n 1, 1) := by decide +kernel
theorem dX1_highestThrow_2 : decode cX1_highestThrow 2 = .ok (.iconst 0, 1) := by decide +kernel
theorem dX1_highestThrow_3 : decode cX1_highestThrow 3 = .ok (.istore_n 2, 1) := by decide +kernel
theorem dX1_highestThrow_4 : decode cX1_highestThrow 4 = .ok (.iload_n 2, 1) := by decide +kernel
theorem dX1_highestThrow_5 : decode cX1_highestThrow 5 = .ok (.aload_n 0, 1) := by decide +kernel
theorem dX1_highestThrow_6 : decode cX1_highestThrow 6 = .ok (.getfield 27, 3) := by decide +kernel
theorem dX1_highestThrow_9 : decode cX1_highestThrow 9 = .ok (.if_icmp .ge 22, 3) := by decide +kernel
theorem dX1_highestThrow_12 : decode cX1_highestThrow 12 = .ok (.iload_n 1, 1) := by decide +kernel
theorem dX1_highestThrow_13 : decode cX1_highestThrow 13 = .ok (.aload_n 0, 1) := by decide +kernel
theorem dX1_highestThrow_14 : decode cX1_highestThrow 14 = .ok (.getfield 9, 3) := by decide +kernel
theorem dX1_highestThrow_17 : decode cX1_highestThrow 17 = .ok (.iload_n 2, 1) := by decide +kernel
theorem dX1_highestThrow_18 : decode cX1_highestThrow 18 = .ok (.invokestatic 52, 3) := by decide +kernel
theorem dX1_highestThrow_21 : decode cX1_highestThrow 21 = .ok (.invokestatic 105, 3) := by decide +kernel
theorem dX1_highestThrow_24 : decode cX1_highestThrow 24 = .ok (.istore_n 1, 1) := by decide +kernel
theorem dX1_highestThrow_25 : decode cX1_highestThrow 25 = .ok (.iinc 2 1, 3) := by decide +kernel
theorem dX1_highestThrow_28 : decode cX1_highestThrow 28 = .ok (.goto (-24), 3) := by decide +kernel
theorem dX1_highestThrow_31 : decode cX1_highestThrow 31 = .ok (.iload_n 1, 1) := by decide +kernel
theorem dX1_highestThrow_32 : decode cX1_highestThrow 32 = .ok (.ireturn, 1) := by decide +kernel
set_option maxRecDepth 20000 in
theorem ggX1_crossingThrows_X3_cell : GoodIn wsX1_crossingThrows wsX3_cell := goodIn_r _ [5] (by decide +kernel) (by decide +kernel)
set_option maxRecDepth 20000 in
theorem gX1_crossingThrows_X3_cell_n52 : GoodIn wsX1_crossingThrows (wsX3_cell) := ggX1_crossingThrows_X3_cell
theorem dX1_crossingThrows_0 : decode cX1_crossingThrows 0 = .ok (.iconst 0, 1) := by decide +kernel
theorem dX1_crossingThrows_1 : decode cX1_crossingThrows 1 = .ok (.istore_n 1, 1) := by decide +kernel
theorem dX1_crossingThrows_2 : decode cX1_crossingThrows 2 = .ok (.iconst 0, 1) := by decide +kernel
theorem dX1_crossingThrows_3 : decode cX1_crossingThrows 3 = .ok (.istore_n 2, 1) := by decide +kernel
theorem dX1_crossingThrows_4 : decode cX1_crossingThrows 4 = .ok (.iload_n 2, 1) := by decide +kernel
theorem dX1_crossingThrows_5 : decode cX1_crossingThrows 5 = .ok (.aload_n 0, 1) := by decide +kernel
theorem dX1_crossingThrows_6 : decode cX1_crossingThrows 6 = .ok (.getfield 27, 3) := by decide +kernel
theorem dX1_crossingThrows_9 : decode cX1_crossingThrows 9 = .ok (.if_icmp .ge 22, 3) := by decide +kernel
theorem dX1_crossingThrows_12 : decode cX1_crossingThrows 12 = .ok (.iload_n 1, 1) := by decide +kernel
theorem dX1_crossingThrows_13 : decode cX1_crossingThrows 13 = .ok (.aload_n 0, 1) := by decide +kernel
theorem dX1_crossingThrows_14 : decode cX1_crossingThrows 14 = .ok (.getfield 9, 3) := by decide +kernel
theorem dX1_crossingThrows_17 : decode cX1_crossingThrows 17 = .ok (.iload_n 2, 1) := by decide +kernel
theorem dX1_crossingThrows_18 : decode cX1_crossingThrows 18 = .ok (.invokestatic 52, 3) := by decide +kernel
theorem dX1_crossingThrows_21 : decode cX1_crossingThrows 21 = .ok (.iconst 2, 1) := by decide +kernel
theorem dX1_crossingThrows_22 : decode cX1_crossingThrows 22 = .ok (.irem, 1) := by decide +kernel
theorem dX1_crossingThrows_23 : decode cX1_crossingThrows 23 = .ok (.iadd, 1) := by decide +kernel
theorem dX1_crossingThrows_24 : decode cX1_crossingThrows 24 = .ok (.istore_n 1, 1) := by decide +kernel
theorem dX1_crossingThrows_25 : decode cX1_crossingThrows 25 = .ok (.iinc 2 1, 3) := by decide +kernel
theorem dX1_crossingThrows_28 : decode cX1_crossingThrows 28 = .ok (.goto (-24), 3) := by decide +kernel
theorem dX1_crossingThrows_31 : decode cX1_crossingThrows 31 = .ok (.iload_n 1, 1) := by decide +kernel
theorem dX1_crossingThrows_32 : decode cX1_crossingThrows 32 = .ok (.ireturn, 1) := by decide +kernel
set_option maxRecDepth 20000 in
theorem ggX1_period_X1_isShiftedTo : GoodIn wsX1_period wsX1_isShiftedTo := goodIn_r _ [6, 1, 7, 8, 9, 10, 5, 11, 12, 13, 14, 15, 16, 17, 18, 19, 20, 21, 22, 23, 24, 25, 26, 27, 28, 29] (by decide +kernel) (by decide +kernel)
set_option maxRecDepth 20000 in
theorem gX1_period_X1_isShiftedTo : GoodIn wsX1_period (wsV RX1 111 RX1 yX1_isShiftedTo wsX1_isShiftedTo) := goodIn_app (goodIn_of _ (by decide +kernel)) ggX1_period_X1_isShiftedTo
theorem dX1_period_0 : decode cX1_period 0 = .ok (.iconst 1, 1) := by decide +kernel
theorem dX1_period_1 : decode cX1_period 1 = .ok (.istore_n 1, 1) := by decide +kernel
theorem dX1_period_2 : decode cX1_period 2 = .ok (.iload_n 1, 1) := by decide +kernel
theorem dX1_period_3 : decode cX1_period 3 = .ok (.aload_n 0, 1) := by decide +kernel
theorem dX1_period_4 : decode cX1_period 4 = .ok (.getfield 27, 3) := by decide +kernel
theorem dX1_period_7 : decode cX1_period 7 = .ok (.if_icmp .ge 20, 3) := by decide +kernel
theorem dX1_period_10 : decode cX1_period 10 = .ok (.aload_n 0, 1) := by decide +kernel
theorem dX1_period_11 : decode cX1_period 11 = .ok (.aload_n 0, 1) := by decide +kernel
theorem dX1_period_12 : decode cX1_period 12 = .ok (.iload_n 1, 1) := by decide +kernel
theorem dX1_period_13 : decode cX1_period 13 = .ok (.invokevirtual 111, 3) := by decide +kernel
theorem dX1_period_16 : decode cX1_period 16 = .ok (.ifCond .eq 5, 3) := by decide +kernel
theorem dX1_period_19 : decode cX1_period 19 = .ok (.iload_n 1, 1) := by decide +kernel
theorem dX1_period_20 : decode cX1_period 20 = .ok (.ireturn, 1) := by decide +kernel
theorem dX1_period_21 : decode cX1_period 21 = .ok (.iinc 1 1, 3) := by decide +kernel
theorem dX1_period_24 : decode cX1_period 24 = .ok (.goto (-22), 3) := by decide +kernel
theorem dX1_period_27 : decode cX1_period 27 = .ok (.aload_n 0, 1) := by decide +kernel
theorem dX1_period_28 : decode cX1_period 28 = .ok (.getfield 27, 3) := by decide +kernel
theorem dX1_period_31 : decode cX1_period 31 = .ok (.ireturn, 1) := by decide +kernel
set_option maxRecDepth 20000 in
theorem ggX1_isShiftedTo_X1_throwAt : GoodIn wsX1_isShiftedTo wsX1_throwAt := goodIn_r _ [7, 2, 8, 9, 10, 6, 11, 1, 12, 13, 14, 15, 16, 17, 18, 19, 20, 21, 22, 23, 24, 25] (by decide +kernel) (by decide +kernel)
set_option maxRecDepth 20000 in
theorem gX1_isShiftedTo_X1_throwAt : GoodIn wsX1_isShiftedTo (wsV RX1 56 RX1 yX1_throwAt wsX1_throwAt) := goodIn_app (goodIn_of _ (by decide +kernel)) ggX1_isShiftedTo_X1_throwAt
set_option maxRecDepth 20000 in
theorem ggX1_isShiftedTo_X3_cell : GoodIn wsX1_isShiftedTo wsX3_cell := goodIn_r _ [18] (by decide +kernel) (by decide +kernel)
set_option maxRecDepth 20000 in
theorem gX1_isShiftedTo_X3_cell_n52 : GoodIn wsX1_isShiftedTo (wsX3_cell) := ggX1_isShiftedTo_X3_cell
theorem dX1_isShiftedTo_0 : decode cX1_isShiftedTo 0 = .ok (.aload_n 0, 1) := by decide +kernel
theorem dX1_isShiftedTo_1 : decode cX1_isShiftedTo 1 = .ok (.getfield 27, 3) := by decide +kernel
theorem dX1_isShiftedTo_4 : decode cX1_isShiftedTo 4 = .ok (.aload_n 1, 1) := by decide +kernel
theorem dX1_isShiftedTo_5 : decode cX1_isShiftedTo 5 = .ok (.getfield 27, 3) := by decide +kernel
theorem dX1_isShiftedTo_8 : decode cX1_isShiftedTo 8 = .ok (.if_icmp .eq 5, 3) := by decide +kernel
theorem dX1_isShiftedTo_11 : decode cX1_isShiftedTo 11 = .ok (.iconst 0, 1) := by decide +kernel
theorem dX1_isShiftedTo_12 : decode cX1_isShiftedTo 12 = .ok (.ireturn, 1) := by decide +kernel
theorem dX1_isShiftedTo_13 : decode cX1_isShiftedTo 13 = .ok (.iconst 0, 1) := by decide +kernel
theorem dX1_isShiftedTo_14 : decode cX1_isShiftedTo 14 = .ok (.istore_n 3, 1) := by decide +kernel
theorem dX1_isShiftedTo_15 : decode cX1_isShiftedTo 15 = .ok (.iload_n 3, 1) := by decide +kernel
theorem dX1_isShiftedTo_16 : decode cX1_isShiftedTo 16 = .ok (.aload_n 0, 1) := by decide +kernel
theorem dX1_isShiftedTo_17 : decode cX1_isShiftedTo 17 = .ok (.getfield 27, 3) := by decide +kernel
theorem dX1_isShiftedTo_20 : decode cX1_isShiftedTo 20 = .ok (.if_icmp .ge 29, 3) := by decide +kernel
theorem dX1_isShiftedTo_23 : decode cX1_isShiftedTo 23 = .ok (.aload_n 0, 1) := by decide +kernel
theorem dX1_isShiftedTo_24 : decode cX1_isShiftedTo 24 = .ok (.iload_n 3, 1) := by decide +kernel
theorem dX1_isShiftedTo_25 : decode cX1_isShiftedTo 25 = .ok (.iload_n 2, 1) := by decide +kernel
theorem dX1_isShiftedTo_26 : decode cX1_isShiftedTo 26 = .ok (.iadd, 1) := by decide +kernel
theorem dX1_isShiftedTo_27 : decode cX1_isShiftedTo 27 = .ok (.invokevirtual 56, 3) := by decide +kernel
theorem dX1_isShiftedTo_30 : decode cX1_isShiftedTo 30 = .ok (.aload_n 1, 1) := by decide +kernel
theorem dX1_isShiftedTo_31 : decode cX1_isShiftedTo 31 = .ok (.getfield 9, 3) := by decide +kernel
theorem dX1_isShiftedTo_34 : decode cX1_isShiftedTo 34 = .ok (.iload_n 3, 1) := by decide +kernel
theorem dX1_isShiftedTo_35 : decode cX1_isShiftedTo 35 = .ok (.invokestatic 52, 3) := by decide +kernel
theorem dX1_isShiftedTo_38 : decode cX1_isShiftedTo 38 = .ok (.if_icmp .eq 5, 3) := by decide +kernel
theorem dX1_isShiftedTo_41 : decode cX1_isShiftedTo 41 = .ok (.iconst 0, 1) := by decide +kernel
theorem dX1_isShiftedTo_42 : decode cX1_isShiftedTo 42 = .ok (.ireturn, 1) := by decide +kernel
theorem dX1_isShiftedTo_43 : decode cX1_isShiftedTo 43 = .ok (.iinc 3 1, 3) := by decide +kernel
theorem dX1_isShiftedTo_46 : decode cX1_isShiftedTo 46 = .ok (.goto (-31), 3) := by decide +kernel
theorem dX1_isShiftedTo_49 : decode cX1_isShiftedTo 49 = .ok (.iconst 1, 1) := by decide +kernel
theorem dX1_isShiftedTo_50 : decode cX1_isShiftedTo 50 = .ok (.ireturn, 1) := by decide +kernel
set_option maxRecDepth 20000 in
theorem ggX1_orbits_X3_cell : GoodIn wsX1_orbits wsX3_cell := goodIn_r _ [5] (by decide +kernel) (by decide +kernel)
set_option maxRecDepth 20000 in
theorem gX1_orbits_X3_cell_n52 : GoodIn wsX1_orbits (wsX3_cell) := ggX1_orbits_X3_cell
set_option maxRecDepth 20000 in
theorem ggX1_orbits_X1_isFirstOfOrbit : GoodIn wsX1_orbits wsX1_isFirstOfOrbit := goodIn_r _ [10, 1, 11, 3, 4, 5, 12, 13, 14, 15, 16, 17, 18] (by decide +kernel) (by decide +kernel)
set_option maxRecDepth 20000 in
theorem gX1_orbits_X1_isFirstOfOrbit : GoodIn wsX1_orbits (wsV RX1 115 RX1 yX1_isFirstOfOrbit wsX1_isFirstOfOrbit) := goodIn_app (goodIn_of _ (by decide +kernel)) ggX1_orbits_X1_isFirstOfOrbit
theorem dX1_orbits_0 : decode cX1_orbits 0 = .ok (.iconst 0, 1) := by decide +kernel
theorem dX1_orbits_1 : decode cX1_orbits 1 = .ok (.istore_n 1, 1) := by decide +kernel
theorem dX1_orbits_2 : decode cX1_orbits 2 = .ok (.iconst 0, 1) := by decide +kernel
theorem dX1_orbits_3 : decode cX1_orbits 3 = .ok (.istore_n 2, 1) := by decide +kernel
theorem dX1_orbits_4 : decode cX1_orbits 4 = .ok (.iload_n 2, 1) := by decide +kernel
theorem dX1_orbits_5 : decode cX1_orbits 5 = .ok (.aload_n 0, 1) := by decide +kernel
theorem dX1_orbits_6 : decode cX1_orbits 6 = .ok (.getfield 27, 3) := by decide +kernel
theorem dX1_orbits_9 : decode cX1_orbits 9 = .ok (.if_icmp .ge 31, 3) := by decide +kernel
theorem dX1_orbits_12 : decode cX1_orbits 12 = .ok (.aload_n 0, 1) := by decide +kernel
theorem dX1_orbits_13 : decode cX1_orbits 13 = .ok (.getfield 9, 3) := by decide +kernel
theorem dX1_orbits_16 : decode cX1_orbits 16 = .ok (.iload_n 2, 1) := by decide +kernel
theorem dX1_orbits_17 : decode cX1_orbits 17 = .ok (.invokestatic 52, 3) := by decide +kernel
theorem dX1_orbits_20 : decode cX1_orbits 20 = .ok (.ifCond .le 14, 3) := by decide +kernel
theorem dX1_orbits_23 : decode cX1_orbits 23 = .ok (.aload_n 0, 1) := by decide +kernel
theorem dX1_orbits_24 : decode cX1_orbits 24 = .ok (.iload_n 2, 1) := by decide +kernel
theorem dX1_orbits_25 : decode cX1_orbits 25 = .ok (.invokevirtual 115, 3) := by decide +kernel
theorem dX1_orbits_28 : decode cX1_orbits 28 = .ok (.ifCond .eq 6, 3) := by decide +kernel
theorem dX1_orbits_31 : decode cX1_orbits 31 = .ok (.iinc 1 1, 3) := by decide +kernel
theorem dX1_orbits_34 : decode cX1_orbits 34 = .ok (.iinc 2 1, 3) := by decide +kernel
theorem dX1_orbits_37 : decode cX1_orbits 37 = .ok (.goto (-33), 3) := by decide +kernel
theorem dX1_orbits_40 : decode cX1_orbits 40 = .ok (.iload_n 1, 1) := by decide +kernel
theorem dX1_orbits_41 : decode cX1_orbits 41 = .ok (.ireturn, 1) := by decide +kernel
set_option maxRecDepth 20000 in
theorem ggX1_isFirstOfOrbit_X3_cell : GoodIn wsX1_isFirstOfOrbit wsX3_cell := goodIn_r _ [5] (by decide +kernel) (by decide +kernel)
set_option maxRecDepth 20000 in
theorem gX1_isFirstOfOrbit_X3_cell_n52 : GoodIn wsX1_isFirstOfOrbit (wsX3_cell) := ggX1_isFirstOfOrbit_X3_cell
theorem dX1_isFirstOfOrbit_0 : decode cX1_isFirstOfOrbit 0 = .ok (.iload_n 1, 1) := by decide +kernel
theorem dX1_isFirstOfOrbit_1 : decode cX1_isFirstOfOrbit 1 = .ok (.istore_n 2, 1) := by decide +kernel
theorem dX1_isFirstOfOrbit_2 : decode cX1_isFirstOfOrbit 2 = .ok (.iconst 0, 1) := by decide +kernel
theorem dX1_isFirstOfOrbit_3 : decode cX1_isFirstOfOrbit 3 = .ok (.istore_n 3, 1) := by decide +kernel
theorem dX1_isFirstOfOrbit_4 : decode cX1_isFirstOfOrbit 4 = .ok (.iload_n 3, 1) := by decide +kernel
theorem dX1_isFirstOfOrbit_5 : decode cX1_isFirstOfOrbit 5 = .ok (.aload_n 0, 1) := by decide +kernel
theorem dX1_isFirstOfOrbit_6 : decode cX1_isFirstOfOrbit 6 = .ok (.getfield 27, 3) := by decide +kernel
theorem dX1_isFirstOfOrbit_9 : decode cX1_isFirstOfOrbit 9 = .ok (.if_icmp .ge 25, 3) := by decide +kernel
theorem dX1_isFirstOfOrbit_12 : decode cX1_isFirstOfOrbit 12 = .ok (.aload_n 0, 1) := by decide +kernel
theorem dX1_isFirstOfOrbit_13 : decode cX1_isFirstOfOrbit 13 = .ok (.getfield 18, 3) := by decide +kernel
theorem dX1_isFirstOfOrbit_16 : decode cX1_isFirstOfOrbit 16 = .ok (.iload_n 2, 1) := by decide +kernel
theorem dX1_isFirstOfOrbit_17 : decode cX1_isFirstOfOrbit 17 = .ok (.invokestatic 52, 3) := by decide +kernel
theorem dX1_isFirstOfOrbit_20 : decode cX1_isFirstOfOrbit 20 = .ok (.istore_n 2, 1) := by decide +kernel
theorem dX1_isFirstOfOrbit_21 : decode cX1_isFirstOfOrbit 21 = .ok (.iload_n 2, 1) := by decide +kernel
theorem dX1_isFirstOfOrbit_22 : decode cX1_isFirstOfOrbit 22 = .ok (.iload_n 1, 1) := by decide +kernel
theorem dX1_isFirstOfOrbit_23 : decode cX1_isFirstOfOrbit 23 = .ok (.if_icmp .ge 5, 3) := by decide +kernel
theorem dX1_isFirstOfOrbit_26 : decode cX1_isFirstOfOrbit 26 = .ok (.iconst 0, 1) := by decide +kernel
theorem dX1_isFirstOfOrbit_27 : decode cX1_isFirstOfOrbit 27 = .ok (.ireturn, 1) := by decide +kernel
theorem dX1_isFirstOfOrbit_28 : decode cX1_isFirstOfOrbit 28 = .ok (.iinc 3 1, 3) := by decide +kernel
theorem dX1_isFirstOfOrbit_31 : decode cX1_isFirstOfOrbit 31 = .ok (.goto (-27), 3) := by decide +kernel
theorem dX1_isFirstOfOrbit_34 : decode cX1_isFirstOfOrbit 34 = .ok (.iconst 1, 1) := by decide +kernel
theorem dX1_isFirstOfOrbit_35 : decode cX1_isFirstOfOrbit 35 = .ok (.ireturn, 1) := by decide +kernel
set_option maxRecDepth 20000 in
theorem ggX1_greatestTurn_X3_cell : GoodIn wsX1_greatestTurn wsX3_cell := goodIn_r _ [9] (by decide +kernel) (by decide +kernel)
set_option maxRecDepth 20000 in
theorem gX1_greatestTurn_X3_cell_n52 : GoodIn wsX1_greatestTurn (wsX3_cell) := ggX1_greatestTurn_X3_cell
theorem dX1_greatestTurn_0 : decode cX1_greatestTurn 0 = .ok (.iconst 0, 1) := by decide +kernel
theorem dX1_greatestTurn_1 : decode cX1_greatestTurn 1 = .ok (.istore_n 1, 1) := by decide +kernel
theorem dX1_greatestTurn_2 : decode cX1_greatestTurn 2 = .ok (.iconst 0, 1) := by decide +kernel
theorem dX1_greatestTurn_3 : decode cX1_greatestTurn 3 = .ok (.istore_n 2, 1) := by decide +kernel
theorem dX1_greatestTurn_4 : decode cX1_greatestTurn 4 = .ok (.iload_n 2, 1) := by decide +kernel
theorem dX1_greatestTurn_5 : decode cX1_greatestTurn 5 = .ok (.aload_n 0, 1) := by decide +kernel
theorem dX1_greatestTurn_6 : decode cX1_greatestTurn 6 = .ok (.getfield 27, 3) := by decide +kernel
theorem dX1_greatestTurn_9 : decode cX1_greatestTurn 9 = .ok (.if_icmp .ge 22, 3) := by decide +kernel
theorem dX1_greatestTurn_12 : decode cX1_greatestTurn 12 = .ok (.iload_n 1, 1) := by decide +kernel
theorem dX1_greatestTurn_13 : decode cX1_greatestTurn 13 = .ok (.aload_n 0, 1) := by decide +kernel
theorem dX1_greatestTurn_14 : decode cX1_greatestTurn 14 = .ok (.getfield 21, 3) := by decide +kernel
theorem dX1_greatestTurn_17 : decode cX1_greatestTurn 17 = .ok (.iload_n 2, 1) := by decide +kernel
theorem dX1_greatestTurn_18 : decode cX1_greatestTurn 18 = .ok (.invokestatic 52, 3) := by decide +kernel
theorem dX1_greatestTurn_21 : decode cX1_greatestTurn 21 = .ok (.invokestatic 105, 3) := by decide +kernel
theorem dX1_greatestTurn_24 : decode cX1_greatestTurn 24 = .ok (.istore_n 1, 1) := by decide +kernel
theorem dX1_greatestTurn_25 : decode cX1_greatestTurn 25 = .ok (.iinc 2 1, 3) := by decide +kernel
theorem dX1_greatestTurn_28 : decode cX1_greatestTurn 28 = .ok (.goto (-24), 3) := by decide +kernel
theorem dX1_greatestTurn_31 : decode cX1_greatestTurn 31 = .ok (.iload_n 1, 1) := by decide +kernel
theorem dX1_greatestTurn_32 : decode cX1_greatestTurn 32 = .ok (.ireturn, 1) := by decide +kernel
set_option maxRecDepth 20000 in
theorem ggX1_oneIfPrime_X1_stateAt : GoodIn wsX1_oneIfPrime wsX1_stateAt := goodIn_r _ [6, 7, 8, 9, 10, 11, 12, 13, 14, 15, 16, 17] (by decide +kernel) (by decide +kernel)
set_option maxRecDepth 20000 in
theorem gX1_oneIfPrime_X1_stateAt : GoodIn wsX1_oneIfPrime (wsV RX1 99 RX1 yX1_stateAt wsX1_stateAt) := goodIn_app (goodIn_of _ (by decide +kernel)) ggX1_oneIfPrime_X1_stateAt
theorem dX1_oneIfPrime_0 : decode cX1_oneIfPrime 0 = .ok (.iconst 0, 1) := by decide +kernel
theorem dX1_oneIfPrime_1 : decode cX1_oneIfPrime 1 = .ok (.istore_n 1, 1) := by decide +kernel
theorem dX1_oneIfPrime_2 : decode cX1_oneIfPrime 2 = .ok (.iload_n 1, 1) := by decide +kernel
theorem dX1_oneIfPrime_3 : decode cX1_oneIfPrime 3 = .ok (.aload_n 0, 1) := by decide +kernel
theorem dX1_oneIfPrime_4 : decode cX1_oneIfPrime 4 = .ok (.getfield 27, 3) := by decide +kernel
theorem dX1_oneIfPrime_7 : decode cX1_oneIfPrime 7 = .ok (.if_icmp .ge 37, 3) := by decide +kernel
theorem dX1_oneIfPrime_10 : decode cX1_oneIfPrime 10 = .ok (.iconst 0, 1) := by decide +kernel
theorem dX1_oneIfPrime_11 : decode cX1_oneIfPrime 11 = .ok (.istore_n 2, 1) := by decide +kernel
theorem dX1_oneIfPrime_12 : decode cX1_oneIfPrime 12 = .ok (.iload_n 2, 1) := by decide +kernel
theorem dX1_oneIfPrime_13 : decode cX1_oneIfPrime 13 = .ok (.iload_n 1, 1) := by decide +kernel
theorem dX1_oneIfPrime_14 : decode cX1_oneIfPrime 14 = .ok (.if_icmp .ge 24, 3) := by decide +kernel
theorem dX1_oneIfPrime_17 : decode cX1_oneIfPrime 17 = .ok (.aload_n 0, 1) := by decide +kernel
theorem dX1_oneIfPrime_18 : decode cX1_oneIfPrime 18 = .ok (.iload_n 1, 1) := by decide +kernel
theorem dX1_oneIfPrime_19 : decode cX1_oneIfPrime 19 = .ok (.invokevirtual 99, 3) := by decide +kernel
theorem dX1_oneIfPrime_22 : decode cX1_oneIfPrime 22 = .ok (.aload_n 0, 1) := by decide +kernel
theorem dX1_oneIfPrime_23 : decode cX1_oneIfPrime 23 = .ok (.iload_n 2, 1) := by decide +kernel
theorem dX1_oneIfPrime_24 : decode cX1_oneIfPrime 24 = .ok (.invokevirtual 99, 3) := by decide +kernel
theorem dX1_oneIfPrime_27 : decode cX1_oneIfPrime 27 = .ok (.if_icmp .ne 5, 3) := by decide +kernel
theorem dX1_oneIfPrime_30 : decode cX1_oneIfPrime 30 = .ok (.iconst 0, 1) := by decide +kernel
theorem dX1_oneIfPrime_31 : decode cX1_oneIfPrime 31 = .ok (.ireturn, 1) := by decide +kernel
theorem dX1_oneIfPrime_32 : decode cX1_oneIfPrime 32 = .ok (.iinc 2 1, 3) := by decide +kernel
theorem dX1_oneIfPrime_35 : decode cX1_oneIfPrime 35 = .ok (.goto (-23), 3) := by decide +kernel
theorem dX1_oneIfPrime_38 : decode cX1_oneIfPrime 38 = .ok (.iinc 1 1, 3) := by decide +kernel
theorem dX1_oneIfPrime_41 : decode cX1_oneIfPrime 41 = .ok (.goto (-39), 3) := by decide +kernel
theorem dX1_oneIfPrime_44 : decode cX1_oneIfPrime 44 = .ok (.iconst 1, 1) := by decide +kernel
theorem dX1_oneIfPrime_45 : decode cX1_oneIfPrime 45 = .ok (.ireturn, 1) := by decide +kernel
set_option maxRecDepth 20000 in
theorem ggX1_oneIfGround_X1_props : GoodIn wsX1_oneIfGround wsX1_props := goodIn_r _ [6, 7, 1, 8, 9, 10, 5, 11, 12, 13, 14, 15, 21, 22, 23, 24, 25, 26, 27] (by decide +kernel) (by decide +kernel)
set_option maxRecDepth 20000 in
theorem gX1_oneIfGround_X1_props : GoodIn wsX1_oneIfGround (wsV RX1 74 RX1 yX1_props wsX1_props) := goodIn_app (goodIn_of _ (by decide +kernel)) ggX1_oneIfGround_X1_props
set_option maxRecDepth 20000 in
theorem ggX1_oneIfGround_X1_stateAt : GoodIn wsX1_oneIfGround wsX1_stateAt := goodIn_r _ [19, 20, 13, 14, 15, 21, 22, 23, 24, 25, 26, 27] (by decide +kernel) (by decide +kernel)
set_option maxRecDepth 20000 in
theorem gX1_oneIfGround_X1_stateAt : GoodIn wsX1_oneIfGround (wsV RX1 99 RX1 yX1_stateAt wsX1_stateAt) := goodIn_app (goodIn_of _ (by decide +kernel)) ggX1_oneIfGround_X1_stateAt
theorem dX1_oneIfGround_0 : decode cX1_oneIfGround 0 = .ok (.iconst 1, 1) := by decide +kernel
theorem dX1_oneIfGround_1 : decode cX1_oneIfGround 1 = .ok (.aload_n 0, 1) := by decide +kernel
theorem dX1_oneIfGround_2 : decode cX1_oneIfGround 2 = .ok (.invokevirtual 74, 3) := by decide +kernel
theorem dX1_oneIfGround_5 : decode cX1_oneIfGround 5 = .ok (.ishl, 1) := by decide +kernel
theorem dX1_oneIfGround_6 : decode cX1_oneIfGround 6 = .ok (.iconst 1, 1) := by decide +kernel
theorem dX1_oneIfGround_7 : decode cX1_oneIfGround 7 = .ok (.isub, 1) := by decide +kernel
theorem dX1_oneIfGround_8 : decode cX1_oneIfGround 8 = .ok (.istore_n 1, 1) := by decide +kernel
theorem dX1_oneIfGround_9 : decode cX1_oneIfGround 9 = .ok (.iconst 0, 1) := by decide +kernel
theorem dX1_oneIfGround_10 : decode cX1_oneIfGround 10 = .ok (.istore_n 2, 1) := by decide +kernel
theorem dX1_oneIfGround_11 : decode cX1_oneIfGround 11 = .ok (.iload_n 2, 1) := by decide +kernel
theorem dX1_oneIfGround_12 : decode cX1_oneIfGround 12 = .ok (.aload_n 0, 1) := by decide +kernel
theorem dX1_oneIfGround_13 : decode cX1_oneIfGround 13 = .ok (.getfield 27, 3) := by decide +kernel
theorem dX1_oneIfGround_16 : decode cX1_oneIfGround 16 = .ok (.if_icmp .ge 20, 3) := by decide +kernel
theorem dX1_oneIfGround_19 : decode cX1_oneIfGround 19 = .ok (.aload_n 0, 1) := by decide +kernel
theorem dX1_oneIfGround_20 : decode cX1_oneIfGround 20 = .ok (.iload_n 2, 1) := by decide +kernel
theorem dX1_oneIfGround_21 : decode cX1_oneIfGround 21 = .ok (.invokevirtual 99, 3) := by decide +kernel
theorem dX1_oneIfGround_24 : decode cX1_oneIfGround 24 = .ok (.iload_n 1, 1) := by decide +kernel
theorem dX1_oneIfGround_25 : decode cX1_oneIfGround 25 = .ok (.if_icmp .ne 5, 3) := by decide +kernel
theorem dX1_oneIfGround_28 : decode cX1_oneIfGround 28 = .ok (.iconst 1, 1) := by decide +kernel
theorem dX1_oneIfGround_29 : decode cX1_oneIfGround 29 = .ok (.ireturn, 1) := by decide +kernel
theorem dX1_oneIfGround_30 : decode cX1_oneIfGround 30 = .ok (.iinc 2 1, 3) := by decide +kernel
theorem dX1_oneIfGround_33 : decode cX1_oneIfGround 33 = .ok (.goto (-22), 3) := by decide +kernel
theorem dX1_oneIfGround_36 : decode cX1_oneIfGround 36 = .ok (.iconst 0, 1) := by decide +kernel
theorem dX1_oneIfGround_37 : decode cX1_oneIfGround 37 = .ok (.ireturn, 1) := by decide +kernel
theorem dX2_init_0 : decode cX2_init 0 = .ok (.aload_n 0, 1) := by decide +kernel
theorem dX2_init_1 : decode cX2_init 1 = .ok (.invokespecial 3, 3) := by decide +kernel
theorem dX2_init_4 : decode cX2_init 4 = .ok (.aload_n 0, 1) := by decide +kernel
theorem dX2_init_5 : decode cX2_init 5 = .ok (.sipush 512, 3) := by decide +kernel
theorem dX2_init_8 : decode cX2_init 8 = .ok (.newarray .int, 2) := by decide +kernel
theorem dX2_init_10 : decode cX2_init 10 = .ok (.putfield 9, 3) := by decide +kernel
theorem dX2_init_13 : decode cX2_init 13 = .ok (.aload_n 0, 1) := by decide +kernel
theorem dX2_init_14 : decode cX2_init 14 = .ok (.sipush 512, 3) := by decide +kernel
theorem dX2_init_17 : decode cX2_init 17 = .ok (.newarray .int, 2) := by decide +kernel
theorem dX2_init_19 : decode cX2_init 19 = .ok (.putfield 15, 3) := by decide +kernel
theorem dX2_init_22 : decode cX2_init 22 = .ok (.aload_n 0, 1) := by decide +kernel
theorem dX2_init_23 : decode cX2_init 23 = .ok (.sipush 512, 3) := by decide +kernel
theorem dX2_init_26 : decode cX2_init 26 = .ok (.newarray .int, 2) := by decide +kernel
theorem dX2_init_28 : decode cX2_init 28 = .ok (.putfield 18, 3) := by decide +kernel
theorem dX2_init_31 : decode cX2_init 31 = .ok (.aload_n 0, 1) := by decide +kernel
theorem dX2_init_32 : decode cX2_init 32 = .ok (.iconst (-1), 1) := by decide +kernel
theorem dX2_init_33 : decode cX2_init 33 = .ok (.putfield 21, 3) := by decide +kernel
theorem dX2_init_36 : decode cX2_init 36 = .ok (.return_, 1) := by decide +kernel
set_option maxRecDepth 20000 in
theorem ggX2_stepsTo_X3_cell : GoodIn wsX2_stepsTo wsX3_cell := goodIn_r _ [4] (by decide +kernel) (by decide +kernel)
set_option maxRecDepth 20000 in
theorem gX2_stepsTo_X3_cell_n25 : GoodIn wsX2_stepsTo (wsX3_cell) := ggX2_stepsTo_X3_cell
theorem dX2_stepsTo_0 : decode cX2_stepsTo 0 = .ok (.aload_n 0, 1) := by decide +kernel
theorem dX2_stepsTo_1 : decode cX2_stepsTo 1 = .ok (.getfield 9, 3) := by decide +kernel
theorem dX2_stepsTo_4 : decode cX2_stepsTo 4 = .ok (.iload_n 1, 1) := by decide +kernel
theorem dX2_stepsTo_5 : decode cX2_stepsTo 5 = .ok (.invokestatic 25, 3) := by decide +kernel
theorem dX2_stepsTo_8 : decode cX2_stepsTo 8 = .ok (.ireturn, 1) := by decide +kernel
set_option maxRecDepth 20000 in
theorem ggX2_firstThrowTo_X3_cell : GoodIn wsX2_firstThrowTo wsX3_cell := goodIn_r _ [4] (by decide +kernel) (by decide +kernel)
set_option maxRecDepth 20000 in
theorem gX2_firstThrowTo_X3_cell_n25 : GoodIn wsX2_firstThrowTo (wsX3_cell) := ggX2_firstThrowTo_X3_cell
theorem dX2_firstThrowTo_0 : decode cX2_firstThrowTo 0 = .ok (.aload_n 0, 1) := by decide +kernel
theorem dX2_firstThrowTo_1 : decode cX2_firstThrowTo 1 = .ok (.getfield 15, 3) := by decide +kernel
theorem dX2_firstThrowTo_4 : decode cX2_firstThrowTo 4 = .ok (.iload_n 1, 1) := by decide +kernel
theorem dX2_firstThrowTo_5 : decode cX2_firstThrowTo 5 = .ok (.invokestatic 25, 3) := by decide +kernel
theorem dX2_firstThrowTo_8 : decode cX2_firstThrowTo 8 = .ok (.ireturn, 1) := by decide +kernel
set_option maxRecDepth 20000 in
theorem ggX2_lookFrom_J7_fill_53178 : GoodIn wsX2_lookFrom wsJ7_fill_53178 := goodIn_r _ [8] (by decide +kernel) (by decide +kernel)
set_option maxRecDepth 20000 in
theorem gX2_lookFrom_J7_fill_53178 : GoodIn wsX2_lookFrom (va_wsS RX2 29 yJ7_fill_53178 wsJ7_fill_53178) := goodIn_app (goodIn_of _ (by decide +kernel)) ggX2_lookFrom_J7_fill_53178
set_option maxRecDepth 20000 in
theorem ggX2_lookFrom_X3_setCell : GoodIn wsX2_lookFrom wsX3_setCell := goodIn_r _ [11] (by decide +kernel) (by decide +kernel)
set_option maxRecDepth 20000 in
theorem gX2_lookFrom_X3_setCell_n35 : GoodIn wsX2_lookFrom (wsX3_setCell) := ggX2_lookFrom_X3_setCell
set_option maxRecDepth 20000 in
theorem ggX2_lookFrom_X3_cell : GoodIn wsX2_lookFrom wsX3_cell := goodIn_r _ [13] (by decide +kernel) (by decide +kernel)
set_option maxRecDepth 20000 in
theorem gX2_lookFrom_X3_cell_n25 : GoodIn wsX2_lookFrom (wsX3_cell) := ggX2_lookFrom_X3_cell
set_option maxRecDepth 20000 in
theorem ggX2_lookFrom_X2_lookOnFrom : GoodIn wsX2_lookFrom wsX2_lookOnFrom := goodIn_r _ [18, 2, 3, 1, 4, 19, 10, 20, 12, 13, 9, 11, 21, 22, 23, 24] (by decide +kernel) (by decide +kernel)
set_option maxRecDepth 20000 in
theorem gX2_lookFrom_X2_lookOnFrom : GoodIn wsX2_lookFrom (wsV RX2 39 RX2 yX2_lookOnFrom wsX2_lookOnFrom) := goodIn_app (goodIn_of _ (by decide +kernel)) ggX2_lookFrom_X2_lookOnFrom
theorem dX2_lookFrom_0 : decode cX2_lookFrom 0 = .ok (.iload_n 1, 1) := by decide +kernel
theorem dX2_lookFrom_1 : decode cX2_lookFrom 1 = .ok (.aload_n 0, 1) := by decide +kernel
theorem dX2_lookFrom_2 : decode cX2_lookFrom 2 = .ok (.getfield 21, 3) := by decide +kernel
theorem dX2_lookFrom_5 : decode cX2_lookFrom 5 = .ok (.if_icmp .ne 4, 3) := by decide +kernel
theorem dX2_lookFrom_8 : decode cX2_lookFrom 8 = .ok (.return_, 1) := by decide +kernel
theorem dX2_lookFrom_9 : decode cX2_lookFrom 9 = .ok (.aload_n 0, 1) := by decide +kernel
theorem dX2_lookFrom_10 : decode cX2_lookFrom 10 = .ok (.iload_n 1, 1) := by decide +kernel
theorem dX2_lookFrom_11 : decode cX2_lookFrom 11 = .ok (.putfield 21, 3) := by decide +kernel
theorem dX2_lookFrom_14 : decode cX2_lookFrom 14 = .ok (.aload_n 0, 1) := by decide +kernel
theorem dX2_lookFrom_15 : decode cX2_lookFrom 15 = .ok (.getfield 9, 3) := by decide +kernel
theorem dX2_lookFrom_18 : decode cX2_lookFrom 18 = .ok (.iconst (-1), 1) := by decide +kernel
theorem dX2_lookFrom_19 : decode cX2_lookFrom 19 = .ok (.invokestatic 29, 3) := by decide +kernel
theorem dX2_lookFrom_22 : decode cX2_lookFrom 22 = .ok (.aload_n 0, 1) := by decide +kernel
theorem dX2_lookFrom_23 : decode cX2_lookFrom 23 = .ok (.getfield 9, 3) := by decide +kernel
theorem dX2_lookFrom_26 : decode cX2_lookFrom 26 = .ok (.iload_n 1, 1) := by decide +kernel
theorem dX2_lookFrom_27 : decode cX2_lookFrom 27 = .ok (.iconst 0, 1) := by decide +kernel
theorem dX2_lookFrom_28 : decode cX2_lookFrom 28 = .ok (.invokestatic 35, 3) := by decide +kernel
theorem dX2_lookFrom_31 : decode cX2_lookFrom 31 = .ok (.aload_n 0, 1) := by decide +kernel
theorem dX2_lookFrom_32 : decode cX2_lookFrom 32 = .ok (.getfield 15, 3) := by decide +kernel
theorem dX2_lookFrom_35 : decode cX2_lookFrom 35 = .ok (.iload_n 1, 1) := by decide +kernel
theorem dX2_lookFrom_36 : decode cX2_lookFrom 36 = .ok (.iconst (-1), 1) := by decide +kernel
theorem dX2_lookFrom_37 : decode cX2_lookFrom 37 = .ok (.invokestatic 35, 3) := by decide +kernel
theorem dX2_lookFrom_40 : decode cX2_lookFrom 40 = .ok (.aload_n 0, 1) := by decide +kernel
theorem dX2_lookFrom_41 : decode cX2_lookFrom 41 = .ok (.getfield 18, 3) := by decide +kernel
theorem dX2_lookFrom_44 : decode cX2_lookFrom 44 = .ok (.iconst 0, 1) := by decide +kernel
theorem dX2_lookFrom_45 : decode cX2_lookFrom 45 = .ok (.iload_n 1, 1) := by decide +kernel
theorem dX2_lookFrom_46 : decode cX2_lookFrom 46 = .ok (.invokestatic 35, 3) := by decide +kernel
theorem dX2_lookFrom_49 : decode cX2_lookFrom 49 = .ok (.iconst 1, 1) := by decide +kernel
theorem dX2_lookFrom_50 : decode cX2_lookFrom 50 = .ok (.istore_n 2, 1) := by decide +kernel
theorem dX2_lookFrom_51 : decode cX2_lookFrom 51 = .ok (.iconst 0, 1) := by decide +kernel
theorem dX2_lookFrom_52 : decode cX2_lookFrom 52 = .ok (.istore_n 3, 1) := by decide +kernel
theorem dX2_lookFrom_53 : decode cX2_lookFrom 53 = .ok (.iload_n 3, 1) := by decide +kernel
theorem dX2_lookFrom_54 : decode cX2_lookFrom 54 = .ok (.iload_n 2, 1) := by decide +kernel
theorem dX2_lookFrom_55 : decode cX2_lookFrom 55 = .ok (.if_icmp .ge 30, 3) := by decide +kernel
theorem dX2_lookFrom_58 : decode cX2_lookFrom 58 = .ok (.iload_n 3, 1) := by decide +kernel
theorem dX2_lookFrom_59 : decode cX2_lookFrom 59 = .ok (.sipush 512, 3) := by decide +kernel
theorem dX2_lookFrom_62 : decode cX2_lookFrom 62 = .ok (.if_icmp .ge 23, 3) := by decide +kernel
theorem dX2_lookFrom_65 : decode cX2_lookFrom 65 = .ok (.aload_n 0, 1) := by decide +kernel
theorem dX2_lookFrom_66 : decode cX2_lookFrom 66 = .ok (.aload_n 0, 1) := by decide +kernel
theorem dX2_lookFrom_67 : decode cX2_lookFrom 67 = .ok (.getfield 18, 3) := by decide +kernel
theorem dX2_lookFrom_70 : decode cX2_lookFrom 70 = .ok (.iload_n 3, 1) := by decide +kernel
theorem dX2_lookFrom_71 : decode cX2_lookFrom 71 = .ok (.invokestatic 25, 3) := by decide +kernel
theorem dX2_lookFrom_74 : decode cX2_lookFrom 74 = .ok (.iload_n 2, 1) := by decide +kernel
theorem dX2_lookFrom_75 : decode cX2_lookFrom 75 = .ok (.invokevirtual 39, 3) := by decide +kernel
theorem dX2_lookFrom_78 : decode cX2_lookFrom 78 = .ok (.istore_n 2, 1) := by decide +kernel
theorem dX2_lookFrom_79 : decode cX2_lookFrom 79 = .ok (.iinc 3 1, 3) := by decide +kernel
theorem dX2_lookFrom_82 : decode cX2_lookFrom 82 = .ok (.goto (-29), 3) := by decide +kernel
theorem dX2_lookFrom_85 : decode cX2_lookFrom 85 = .ok (.return_, 1) := by decide +kernel
set_option maxRecDepth 20000 in
theorem ggX2_lookOnFrom_X3_stateBehind : GoodIn wsX2_lookOnFrom wsX3_stateBehind := goodIn_r _ [7] (by decide +kernel) (by decide +kernel)
set_option maxRecDepth 20000 in
theorem gX2_lookOnFrom_X3_stateBehind_n43 : GoodIn wsX2_lookOnFrom (wsX3_stateBehind) := ggX2_lookOnFrom_X3_stateBehind
set_option maxRecDepth 20000 in
theorem ggX2_lookOnFrom_X3_cell : GoodIn wsX2_lookOnFrom wsX3_cell := goodIn_r _ [9] (by decide +kernel) (by decide +kernel)
set_option maxRecDepth 20000 in
theorem gX2_lookOnFrom_X3_cell_n25 : GoodIn wsX2_lookOnFrom (wsX3_cell) := ggX2_lookOnFrom_X3_cell
set_option maxRecDepth 20000 in
theorem ggX2_lookOnFrom_X3_setCell : GoodIn wsX2_lookOnFrom wsX3_setCell := goodIn_r _ [11] (by decide +kernel) (by decide +kernel)
set_option maxRecDepth 20000 in
theorem gX2_lookOnFrom_X3_setCell_n35 : GoodIn wsX2_lookOnFrom (wsX3_setCell) := ggX2_lookOnFrom_X3_setCell
theorem dX2_lookOnFrom_0 : decode cX2_lookOnFrom 0 = .ok (.iload_n 2, 1) := by decide +kernel
theorem dX2_lookOnFrom_1 : decode cX2_lookOnFrom 1 = .ok (.istore_n 3, 1) := by decide +kernel
theorem dX2_lookOnFrom_2 : decode cX2_lookOnFrom 2 = .ok (.iconst 0, 1) := by decide +kernel
theorem dX2_lookOnFrom_3 : decode cX2_lookOnFrom 3 = .ok (.istore 4, 2) := by decide +kernel
theorem dX2_lookOnFrom_5 : decode cX2_lookOnFrom 5 = .ok (.iload 4, 2) := by decide +kernel
theorem dX2_lookOnFrom_7 : decode cX2_lookOnFrom 7 = .ok (.bipush 9, 2) := by decide +kernel
theorem dX2_lookOnFrom_9 : decode cX2_lookOnFrom 9 = .ok (.if_icmp .gt 98, 3) := by decide +kernel
theorem dX2_lookOnFrom_12 : decode cX2_lookOnFrom 12 = .ok (.iload_n 1, 1) := by decide +kernel
theorem dX2_lookOnFrom_13 : decode cX2_lookOnFrom 13 = .ok (.iload 4, 2) := by decide +kernel
theorem dX2_lookOnFrom_15 : decode cX2_lookOnFrom 15 = .ok (.invokestatic 43, 3) := by decide +kernel
theorem dX2_lookOnFrom_18 : decode cX2_lookOnFrom 18 = .ok (.istore 5, 2) := by decide +kernel
theorem dX2_lookOnFrom_20 : decode cX2_lookOnFrom 20 = .ok (.iload 5, 2) := by decide +kernel
theorem dX2_lookOnFrom_22 : decode cX2_lookOnFrom 22 = .ok (.iconst (-1), 1) := by decide +kernel
theorem dX2_lookOnFrom_23 : decode cX2_lookOnFrom 23 = .ok (.if_icmp .eq 78, 3) := by decide +kernel
theorem dX2_lookOnFrom_26 : decode cX2_lookOnFrom 26 = .ok (.aload_n 0, 1) := by decide +kernel
theorem dX2_lookOnFrom_27 : decode cX2_lookOnFrom 27 = .ok (.getfield 9, 3) := by decide +kernel
theorem dX2_lookOnFrom_30 : decode cX2_lookOnFrom 30 = .ok (.iload 5, 2) := by decide +kernel
theorem dX2_lookOnFrom_32 : decode cX2_lookOnFrom 32 = .ok (.invokestatic 25, 3) := by decide +kernel
theorem dX2_lookOnFrom_35 : decode cX2_lookOnFrom 35 = .ok (.iconst (-1), 1) := by decide +kernel
theorem dX2_lookOnFrom_36 : decode cX2_lookOnFrom 36 = .ok (.if_icmp .ne 65, 3) := by decide +kernel
theorem dX2_lookOnFrom_39 : decode cX2_lookOnFrom 39 = .ok (.aload_n 0, 1) := by decide +kernel
theorem dX2_lookOnFrom_40 : decode cX2_lookOnFrom 40 = .ok (.getfield 9, 3) := by decide +kernel
theorem dX2_lookOnFrom_43 : decode cX2_lookOnFrom 43 = .ok (.iload 5, 2) := by decide +kernel
theorem dX2_lookOnFrom_45 : decode cX2_lookOnFrom 45 = .ok (.aload_n 0, 1) := by decide +kernel
theorem dX2_lookOnFrom_46 : decode cX2_lookOnFrom 46 = .ok (.getfield 9, 3) := by decide +kernel
theorem dX2_lookOnFrom_49 : decode cX2_lookOnFrom 49 = .ok (.iload_n 1, 1) := by decide +kernel
theorem dX2_lookOnFrom_50 : decode cX2_lookOnFrom 50 = .ok (.invokestatic 25, 3) := by decide +kernel
theorem dX2_lookOnFrom_53 : decode cX2_lookOnFrom 53 = .ok (.iconst 1, 1) := by decide +kernel
theorem dX2_lookOnFrom_54 : decode cX2_lookOnFrom 54 = .ok (.iadd, 1) := by decide +kernel
theorem dX2_lookOnFrom_55 : decode cX2_lookOnFrom 55 = .ok (.invokestatic 35, 3) := by decide +kernel
theorem dX2_lookOnFrom_58 : decode cX2_lookOnFrom 58 = .ok (.aload_n 0, 1) := by decide +kernel
theorem dX2_lookOnFrom_59 : decode cX2_lookOnFrom 59 = .ok (.getfield 15, 3) := by decide +kernel
theorem dX2_lookOnFrom_62 : decode cX2_lookOnFrom 62 = .ok (.iload 5, 2) := by decide +kernel
theorem dX2_lookOnFrom_64 : decode cX2_lookOnFrom 64 = .ok (.iload_n 1, 1) := by decide +kernel
theorem dX2_lookOnFrom_65 : decode cX2_lookOnFrom 65 = .ok (.aload_n 0, 1) := by decide +kernel
theorem dX2_lookOnFrom_66 : decode cX2_lookOnFrom 66 = .ok (.getfield 21, 3) := by decide +kernel
theorem dX2_lookOnFrom_69 : decode cX2_lookOnFrom 69 = .ok (.if_icmp .ne 8, 3) := by decide +kernel
theorem dX2_lookOnFrom_72 : decode cX2_lookOnFrom 72 = .ok (.iload 4, 2) := by decide +kernel
theorem dX2_lookOnFrom_74 : decode cX2_lookOnFrom 74 = .ok (.goto 11, 3) := by decide +kernel
theorem dX2_lookOnFrom_77 : decode cX2_lookOnFrom 77 = .ok (.aload_n 0, 1) := by decide +kernel
theorem dX2_lookOnFrom_78 : decode cX2_lookOnFrom 78 = .ok (.getfield 15, 3) := by decide +kernel
theorem dX2_lookOnFrom_81 : decode cX2_lookOnFrom 81 = .ok (.iload_n 1, 1) := by decide +kernel
theorem dX2_lookOnFrom_82 : decode cX2_lookOnFrom 82 = .ok (.invokestatic 25, 3) := by decide +kernel
theorem dX2_lookOnFrom_85 : decode cX2_lookOnFrom 85 = .ok (.invokestatic 35, 3) := by decide +kernel
theorem dX2_lookOnFrom_88 : decode cX2_lookOnFrom 88 = .ok (.aload_n 0, 1) := by decide +kernel
theorem dX2_lookOnFrom_89 : decode cX2_lookOnFrom 89 = .ok (.getfield 18, 3) := by decide +kernel
theorem dX2_lookOnFrom_92 : decode cX2_lookOnFrom 92 = .ok (.iload_n 3, 1) := by decide +kernel
theorem dX2_lookOnFrom_93 : decode cX2_lookOnFrom 93 = .ok (.iload 5, 2) := by decide +kernel
theorem dX2_lookOnFrom_95 : decode cX2_lookOnFrom 95 = .ok (.invokestatic 35, 3) := by decide +kernel
theorem dX2_lookOnFrom_98 : decode cX2_lookOnFrom 98 = .ok (.iinc 3 1, 3) := by decide +kernel
theorem dX2_lookOnFrom_101 : decode cX2_lookOnFrom 101 = .ok (.iinc 4 1, 3) := by decide +kernel
theorem dX2_lookOnFrom_104 : decode cX2_lookOnFrom 104 = .ok (.goto (-99), 3) := by decide +kernel
theorem dX2_lookOnFrom_107 : decode cX2_lookOnFrom 107 = .ok (.iload_n 3, 1) := by decide +kernel
theorem dX2_lookOnFrom_108 : decode cX2_lookOnFrom 108 = .ok (.ireturn, 1) := by decide +kernel
set_option maxRecDepth 20000 in
theorem ggX3_init_X0_init : GoodIn wsX3_init wsX0_init := goodIn_r _ [16, 17, 2, 3, 18, 19, 20, 21, 33, 34, 35, 36, 37, 38, 39, 40] (by decide +kernel) (by decide +kernel)
set_option maxRecDepth 20000 in
theorem gX3_init_X0_init_n17 : GoodIn wsX3_init (wsX0_init) := ggX3_init_X0_init
set_option maxRecDepth 20000 in
theorem ggX3_init_X2_init : GoodIn wsX3_init wsX2_init := goodIn_r _ [23, 24, 2, 3, 18, 25, 26, 27, 28, 41, 42, 43, 44] (by decide +kernel) (by decide +kernel)
set_option maxRecDepth 20000 in
theorem gX3_init_X2_init_n24 : GoodIn wsX3_init (wsX2_init) := ggX3_init_X2_init
theorem dX3_init_0 : decode cX3_init 0 = .ok (.aload_n 0, 1) := by decide +kernel
theorem dX3_init_1 : decode cX3_init 1 = .ok (.invokespecial 1, 3) := by decide +kernel
theorem dX3_init_4 : decode cX3_init 4 = .ok (.aload_n 0, 1) := by decide +kernel
theorem dX3_init_5 : decode cX3_init 5 = .ok (.bipush 8, 2) := by decide +kernel
theorem dX3_init_7 : decode cX3_init 7 = .ok (.anewarray 9, 3) := by decide +kernel
theorem dX3_init_10 : decode cX3_init 10 = .ok (.putfield 11, 3) := by decide +kernel
theorem dX3_init_13 : decode cX3_init 13 = .ok (.aload_n 0, 1) := by decide +kernel
theorem dX3_init_14 : decode cX3_init 14 = .ok (.new 15, 3) := by decide +kernel
theorem dX3_init_17 : decode cX3_init 17 = .ok (.dup, 1) := by decide +kernel
theorem dX3_init_18 : decode cX3_init 18 = .ok (.invokespecial 17, 3) := by decide +kernel
theorem dX3_init_21 : decode cX3_init 21 = .ok (.putfield 18, 3) := by decide +kernel
theorem dX3_init_24 : decode cX3_init 24 = .ok (.aload_n 0, 1) := by decide +kernel
theorem dX3_init_25 : decode cX3_init 25 = .ok (.new 22, 3) := by decide +kernel
theorem dX3_init_28 : decode cX3_init 28 = .ok (.dup, 1) := by decide +kernel
theorem dX3_init_29 : decode cX3_init 29 = .ok (.invokespecial 24, 3) := by decide +kernel
theorem dX3_init_32 : decode cX3_init 32 = .ok (.putfield 25, 3) := by decide +kernel
theorem dX3_init_35 : decode cX3_init 35 = .ok (.aload_n 0, 1) := by decide +kernel
theorem dX3_init_36 : decode cX3_init 36 = .ok (.iconst 0, 1) := by decide +kernel
theorem dX3_init_37 : decode cX3_init 37 = .ok (.putfield 29, 3) := by decide +kernel
theorem dX3_init_40 : decode cX3_init 40 = .ok (.return_, 1) := by decide +kernel
set_option maxRecDepth 20000 in
theorem ggX3_tell_X3_isWithin : GoodIn wsX3_tell wsX3_isWithin := goodIn_r _ [13] (by decide +kernel) (by decide +kernel)
set_option maxRecDepth 20000 in
theorem gX3_tell_X3_isWithin : GoodIn wsX3_tell (va_wsS RX3 33 yX3_isWithin wsX3_isWithin) := goodIn_app (goodIn_of _ (by decide +kernel)) ggX3_tell_X3_isWithin
set_option maxRecDepth 20000 in
theorem ggX3_tell_X3_firstNumberLongerThan : GoodIn wsX3_tell wsX3_firstNumberLongerThan := goodIn_r _ [16] (by decide +kernel) (by decide +kernel)
set_option maxRecDepth 20000 in
theorem gX3_tell_X3_firstNumberLongerThan : GoodIn wsX3_tell (va_wsS RX3 37 yX3_firstNumberLongerThan wsX3_firstNumberLongerThan) := goodIn_app (goodIn_of _ (by decide +kernel)) ggX3_tell_X3_firstNumberLongerThan
set_option maxRecDepth 20000 in
theorem ggX3_tell_X1_init : GoodIn wsX3_tell wsX1_init := goodIn_r _ [19, 20, 21, 22, 23, 24, 25, 26, 27, 28, 29, 30, 12, 31, 32, 33, 34, 9, 35, 36, 37, 38, 39, 40, 41, 42, 43, 44, 45, 46, 47, 48, 49, 50, 51, 52, 53, 54, 55, 56, 57, 58, 59, 60, 61, 62, 63, 64, 65, 70, 71, 72, 73, 74, 75, 76] (by decide +kernel) (by decide +kernel)
set_option maxRecDepth 20000 in
theorem gX3_tell_X1_init : GoodIn wsX3_tell (wsX1_init) := ggX3_tell_X1_init
theorem dX3_tell_0 : decode cX3_tell 0 = .ok (.iload_n 1, 1) := by decide +kernel
theorem dX3_tell_1 : decode cX3_tell 1 = .ok (.ifCond .lt 21, 3) := by decide +kernel
theorem dX3_tell_4 : decode cX3_tell 4 = .ok (.iload_n 2, 1) := by decide +kernel
theorem dX3_tell_5 : decode cX3_tell 5 = .ok (.iconst 1, 1) := by decide +kernel
theorem dX3_tell_6 : decode cX3_tell 6 = .ok (.bipush 8, 2) := by decide +kernel
theorem dX3_tell_8 : decode cX3_tell 8 = .ok (.invokestatic 33, 3) := by decide +kernel
theorem dX3_tell_11 : decode cX3_tell 11 = .ok (.ifCond .eq 11, 3) := by decide +kernel
theorem dX3_tell_14 : decode cX3_tell 14 = .ok (.iload_n 1, 1) := by decide +kernel
theorem dX3_tell_15 : decode cX3_tell 15 = .ok (.iload_n 2, 1) := by decide +kernel
theorem dX3_tell_16 : decode cX3_tell 16 = .ok (.invokestatic 37, 3) := by decide +kernel
theorem dX3_tell_19 : decode cX3_tell 19 = .ok (.if_icmp .lt 13, 3) := by decide +kernel
theorem dX3_tell_22 : decode cX3_tell 22 = .ok (.new 41, 3) := by decide +kernel
theorem dX3_tell_25 : decode cX3_tell 25 = .ok (.dup, 1) := by decide +kernel
theorem dX3_tell_26 : decode cX3_tell 26 = .ok (.ldc 43, 2) := by decide +kernel
theorem dX3_tell_28 : decode cX3_tell 28 = .ok (.invokespecial 45, 3) := by decide +kernel
theorem dX3_tell_31 : decode cX3_tell 31 = .ok (.athrow, 1) := by decide +kernel
theorem dX3_tell_32 : decode cX3_tell 32 = .ok (.aload_n 0, 1) := by decide +kernel
theorem dX3_tell_33 : decode cX3_tell 33 = .ok (.getfield 29, 3) := by decide +kernel
theorem dX3_tell_36 : decode cX3_tell 36 = .ok (.iconst 0, 1) := by decide +kernel
theorem dX3_tell_37 : decode cX3_tell 37 = .ok (.aload_n 0, 1) := by decide +kernel
theorem dX3_tell_38 : decode cX3_tell 38 = .ok (.getfield 11, 3) := by decide +kernel
theorem dX3_tell_41 : decode cX3_tell 41 = .ok (.arraylength, 1) := by decide +kernel
theorem dX3_tell_42 : decode cX3_tell 42 = .ok (.iconst 1, 1) := by decide +kernel
theorem dX3_tell_43 : decode cX3_tell 43 = .ok (.isub, 1) := by decide +kernel
theorem dX3_tell_44 : decode cX3_tell 44 = .ok (.invokestatic 33, 3) := by decide +kernel
theorem dX3_tell_47 : decode cX3_tell 47 = .ok (.ifCond .ne 13, 3) := by decide +kernel
theorem dX3_tell_50 : decode cX3_tell 50 = .ok (.new 48, 3) := by decide +kernel
theorem dX3_tell_53 : decode cX3_tell 53 = .ok (.dup, 1) := by decide +kernel
theorem dX3_tell_54 : decode cX3_tell 54 = .ok (.ldc 50, 2) := by decide +kernel
theorem dX3_tell_56 : decode cX3_tell 56 = .ok (.invokespecial 52, 3) := by decide +kernel
theorem dX3_tell_59 : decode cX3_tell 59 = .ok (.athrow, 1) := by decide +kernel
theorem dX3_tell_60 : decode cX3_tell 60 = .ok (.aload_n 0, 1) := by decide +kernel
theorem dX3_tell_61 : decode cX3_tell 61 = .ok (.getfield 29, 3) := by decide +kernel
theorem dX3_tell_64 : decode cX3_tell 64 = .ok (.istore_n 3, 1) := by decide +kernel
theorem dX3_tell_65 : decode cX3_tell 65 = .ok (.aload_n 0, 1) := by decide +kernel
theorem dX3_tell_66 : decode cX3_tell 66 = .ok (.getfield 11, 3) := by decide +kernel
theorem dX3_tell_69 : decode cX3_tell 69 = .ok (.iload_n 3, 1) := by decide +kernel
theorem dX3_tell_70 : decode cX3_tell 70 = .ok (.new 9, 3) := by decide +kernel
theorem dX3_tell_73 : decode cX3_tell 73 = .ok (.dup, 1) := by decide +kernel
theorem dX3_tell_74 : decode cX3_tell 74 = .ok (.iload_n 1, 1) := by decide +kernel
theorem dX3_tell_75 : decode cX3_tell 75 = .ok (.iload_n 2, 1) := by decide +kernel
theorem dX3_tell_76 : decode cX3_tell 76 = .ok (.invokespecial 53, 3) := by decide +kernel
theorem dX3_tell_79 : decode cX3_tell 79 = .ok (.aastore, 1) := by decide +kernel
theorem dX3_tell_80 : decode cX3_tell 80 = .ok (.aload_n 0, 1) := by decide +kernel
theorem dX3_tell_81 : decode cX3_tell 81 = .ok (.iload_n 3, 1) := by decide +kernel
theorem dX3_tell_82 : decode cX3_tell 82 = .ok (.iconst 1, 1) := by decide +kernel
theorem dX3_tell_83 : decode cX3_tell 83 = .ok (.iadd, 1) := by decide +kernel
theorem dX3_tell_84 : decode cX3_tell 84 = .ok (.putfield 29, 3) := by decide +kernel
theorem dX3_tell_87 : decode cX3_tell 87 = .ok (.iload_n 3, 1) := by decide +kernel
theorem dX3_tell_88 : decode cX3_tell 88 = .ok (.ireturn, 1) := by decide +kernel
set_option maxRecDepth 20000 in
theorem ggX3_take_X3_isWithin : GoodIn wsX3_take wsX3_isWithin := goodIn_r _ [7] (by decide +kernel) (by decide +kernel)
set_option maxRecDepth 20000 in
theorem gX3_take_X3_isWithin : GoodIn wsX3_take (va_wsS RX3 33 yX3_isWithin wsX3_isWithin) := goodIn_app (goodIn_of _ (by decide +kernel)) ggX3_take_X3_isWithin
set_option maxRecDepth 20000 in
theorem ggX3_take_X0_startWith : GoodIn wsX3_take wsX0_startWith := goodIn_r _ [12, 13, 14, 15, 16, 17, 18, 19, 6, 20, 35, 36, 37, 38, 39, 40, 41, 42] (by decide +kernel) (by decide +kernel)
set_option maxRecDepth 20000 in
theorem gX3_take_X0_startWith : GoodIn wsX3_take (wsV RX3 135 RX0 yX0_startWith wsX0_startWith) := goodIn_app (goodIn_of _ (by decide +kernel)) ggX3_take_X0_startWith
set_option maxRecDepth 20000 in
theorem ggX3_take_X0_state : GoodIn wsX3_take wsX0_state := goodIn_r _ [24, 13, 25, 26, 27, 11, 28, 16, 14, 29, 6, 30, 35, 36, 37, 38, 39, 40, 41, 42] (by decide +kernel) (by decide +kernel)
set_option maxRecDepth 20000 in
theorem gX3_take_X0_state : GoodIn wsX3_take (wsV RX3 138 RX0 yX0_state wsX0_state) := goodIn_app (goodIn_of _ (by decide +kernel)) ggX3_take_X0_state
theorem dX3_take_0 : decode cX3_take 0 = .ok (.iload_n 1, 1) := by decide +kernel
theorem dX3_take_1 : decode cX3_take 1 = .ok (.iconst 1, 1) := by decide +kernel
theorem dX3_take_2 : decode cX3_take 2 = .ok (.bipush 6, 2) := by decide +kernel
theorem dX3_take_4 : decode cX3_take 4 = .ok (.invokestatic 33, 3) := by decide +kernel
theorem dX3_take_7 : decode cX3_take 7 = .ok (.ifCond .ne 13, 3) := by decide +kernel
theorem dX3_take_10 : decode cX3_take 10 = .ok (.new 41, 3) := by decide +kernel
theorem dX3_take_13 : decode cX3_take 13 = .ok (.dup, 1) := by decide +kernel
theorem dX3_take_14 : decode cX3_take 14 = .ok (.ldc 133, 2) := by decide +kernel
theorem dX3_take_16 : decode cX3_take 16 = .ok (.invokespecial 45, 3) := by decide +kernel
theorem dX3_take_19 : decode cX3_take 19 = .ok (.athrow, 1) := by decide +kernel
theorem dX3_take_20 : decode cX3_take 20 = .ok (.aload_n 0, 1) := by decide +kernel
theorem dX3_take_21 : decode cX3_take 21 = .ok (.getfield 18, 3) := by decide +kernel
theorem dX3_take_24 : decode cX3_take 24 = .ok (.iload_n 1, 1) := by decide +kernel
theorem dX3_take_25 : decode cX3_take 25 = .ok (.invokevirtual 135, 3) := by decide +kernel
theorem dX3_take_28 : decode cX3_take 28 = .ok (.aload_n 0, 1) := by decide +kernel
theorem dX3_take_29 : decode cX3_take 29 = .ok (.getfield 18, 3) := by decide +kernel
theorem dX3_take_32 : decode cX3_take 32 = .ok (.invokevirtual 138, 3) := by decide +kernel
theorem dX3_take_35 : decode cX3_take 35 = .ok (.ireturn, 1) := by decide +kernel
set_option maxRecDepth 20000 in
theorem ggX3_toss_X3_isThrow : GoodIn wsX3_toss wsX3_isThrow := goodIn_r _ [7, 8, 9, 6, 10] (by decide +kernel) (by decide +kernel)
set_option maxRecDepth 20000 in
theorem gX3_toss_X3_isThrow : GoodIn wsX3_toss (va_wsS RX3 90 yX3_isThrow wsX3_isThrow) := goodIn_app (goodIn_of _ (by decide +kernel)) ggX3_toss_X3_isThrow
set_option maxRecDepth 20000 in
theorem ggX3_toss_X0_throwNow : GoodIn wsX3_toss wsX0_throwNow := goodIn_r _ [15, 16, 17, 18, 19, 20, 14, 21, 22, 23, 24, 25, 26, 27, 28, 6, 29, 30, 31, 32, 33, 34, 35, 36, 37, 38, 39, 40, 41, 42, 43, 44, 45, 46, 47, 48, 49, 50, 51, 52, 53, 54, 55, 56, 57, 58, 59, 64, 65, 66, 67, 68, 69, 70, 71] (by decide +kernel) (by decide +kernel)
set_option maxRecDepth 20000 in
theorem gX3_toss_X0_throwNow : GoodIn wsX3_toss (wsV RX3 143 RX0 yX0_throwNow wsX0_throwNow) := goodIn_app (goodIn_of _ (by decide +kernel)) ggX3_toss_X0_throwNow
theorem dX3_toss_0 : decode cX3_toss 0 = .ok (.iload_n 1, 1) := by decide +kernel
theorem dX3_toss_1 : decode cX3_toss 1 = .ok (.invokestatic 90, 3) := by decide +kernel
theorem dX3_toss_4 : decode cX3_toss 4 = .ok (.ifCond .ne 13, 3) := by decide +kernel
theorem dX3_toss_7 : decode cX3_toss 7 = .ok (.new 41, 3) := by decide +kernel
theorem dX3_toss_10 : decode cX3_toss 10 = .ok (.dup, 1) := by decide +kernel
theorem dX3_toss_11 : decode cX3_toss 11 = .ok (.ldc 141, 2) := by decide +kernel
theorem dX3_toss_13 : decode cX3_toss 13 = .ok (.invokespecial 45, 3) := by decide +kernel
theorem dX3_toss_16 : decode cX3_toss 16 = .ok (.athrow, 1) := by decide +kernel
theorem dX3_toss_17 : decode cX3_toss 17 = .ok (.aload_n 0, 1) := by decide +kernel
theorem dX3_toss_18 : decode cX3_toss 18 = .ok (.getfield 18, 3) := by decide +kernel
theorem dX3_toss_21 : decode cX3_toss 21 = .ok (.iload_n 1, 1) := by decide +kernel
theorem dX3_toss_22 : decode cX3_toss 22 = .ok (.invokevirtual 143, 3) := by decide +kernel
theorem dX3_toss_25 : decode cX3_toss 25 = .ok (.ireturn, 1) := by decide +kernel
set_option maxRecDepth 20000 in
theorem ggX3_pick_X0_pickUp : GoodIn wsX3_pick wsX0_pickUp := goodIn_r _ [6, 7, 8, 9, 10, 11, 12, 5, 13, 14, 15, 16, 17, 18, 19, 20, 21, 22, 23, 24, 25, 26, 31, 32, 33, 34, 35, 36, 37, 38] (by decide +kernel) (by decide +kernel)
set_option maxRecDepth 20000 in
theorem gX3_pick_X0_pickUp : GoodIn wsX3_pick (wsV RX3 151 RX0 yX0_pickUp wsX0_pickUp) := goodIn_app (goodIn_of _ (by decide +kernel)) ggX3_pick_X0_pickUp
theorem dX3_pick_0 : decode cX3_pick 0 = .ok (.aload_n 0, 1) := by decide +kernel
theorem dX3_pick_1 : decode cX3_pick 1 = .ok (.getfield 18, 3) := by decide +kernel
theorem dX3_pick_4 : decode cX3_pick 4 = .ok (.invokevirtual 151, 3) := by decide +kernel
theorem dX3_pick_7 : decode cX3_pick 7 = .ok (.ireturn, 1) := by decide +kernel
set_option maxRecDepth 20000 in
theorem ggX3_ofRow_X3_rowNumbered : GoodIn wsX3_ofRow wsX3_rowNumbered := goodIn_r _ [9, 10, 11, 92, 93, 94, 95] (by decide +kernel) (by decide +kernel)
set_option maxRecDepth 20000 in
theorem gX3_ofRow_X3_rowNumbered : GoodIn wsX3_ofRow (wsV RX3 56 RX3 yX3_rowNumbered wsX3_rowNumbered) := goodIn_app (goodIn_of _ (by decide +kernel)) ggX3_ofRow_X3_rowNumbered
set_option maxRecDepth 20000 in
theorem ggX3_ofRow_X3_isWithin : GoodIn wsX3_ofRow wsX3_isWithin := goodIn_r _ [14] (by decide +kernel) (by decide +kernel)
set_option maxRecDepth 20000 in
theorem gX3_ofRow_X3_isWithin : GoodIn wsX3_ofRow (va_wsS RX3 33 yX3_isWithin wsX3_isWithin) := goodIn_app (goodIn_of _ (by decide +kernel)) ggX3_ofRow_X3_isWithin
set_option maxRecDepth 20000 in
theorem ggX3_ofRow_X1_answer : GoodIn wsX3_ofRow wsX1_answer := goodIn_r _ [19, 20, 21, 22, 23, 24, 18, 25, 26, 27, 28, 29, 30, 31, 8, 32, 33, 34, 35, 36, 37, 38, 39, 40, 41, 42, 43, 44, 45, 46, 47, 48, 49, 50, 51, 52, 53, 54, 55, 56, 57, 58, 59, 60, 61, 62, 63, 64, 65, 66, 67, 68, 69, 70, 71, 72, 73, 74, 75, 76, 77, 78, 79, 80, 81, 82, 83, 84, 85, 86, 87, 88, 89, 90, 91, 96, 97, 98, 99, 100, 101, 102] (by decide +kernel) (by decide +kernel)
set_option maxRecDepth 20000 in
theorem gX3_ofRow_X1_answer : GoodIn wsX3_ofRow (wsV RX3 156 RX1 yX1_answer wsX1_answer) := goodIn_app (goodIn_of _ (by decide +kernel)) ggX3_ofRow_X1_answer
theorem dX3_ofRow_0 : decode cX3_ofRow 0 = .ok (.aload_n 0, 1) := by decide +kernel
theorem dX3_ofRow_1 : decode cX3_ofRow 1 = .ok (.iload_n 1, 1) := by decide +kernel
theorem dX3_ofRow_2 : decode cX3_ofRow 2 = .ok (.invokevirtual 56, 3) := by decide +kernel
theorem dX3_ofRow_5 : decode cX3_ofRow 5 = .ok (.astore_n 3, 1) := by decide +kernel
theorem dX3_ofRow_6 : decode cX3_ofRow 6 = .ok (.aload_n 3, 1) := by decide +kernel
theorem dX3_ofRow_7 : decode cX3_ofRow 7 = .ok (.ifnonnull 13, 3) := by decide +kernel
theorem dX3_ofRow_10 : decode cX3_ofRow 10 = .ok (.new 60, 3) := by decide +kernel
theorem dX3_ofRow_13 : decode cX3_ofRow 13 = .ok (.dup, 1) := by decide +kernel
theorem dX3_ofRow_14 : decode cX3_ofRow 14 = .ok (.ldc 62, 2) := by decide +kernel
theorem dX3_ofRow_16 : decode cX3_ofRow 16 = .ok (.invokespecial 64, 3) := by decide +kernel
theorem dX3_ofRow_19 : decode cX3_ofRow 19 = .ok (.athrow, 1) := by decide +kernel
theorem dX3_ofRow_20 : decode cX3_ofRow 20 = .ok (.iload_n 2, 1) := by decide +kernel
theorem dX3_ofRow_21 : decode cX3_ofRow 21 = .ok (.iconst 0, 1) := by decide +kernel
theorem dX3_ofRow_22 : decode cX3_ofRow 22 = .ok (.bipush 9, 2) := by decide +kernel
theorem dX3_ofRow_24 : decode cX3_ofRow 24 = .ok (.invokestatic 33, 3) := by decide +kernel
theorem dX3_ofRow_27 : decode cX3_ofRow 27 = .ok (.ifCond .ne 13, 3) := by decide +kernel
theorem dX3_ofRow_30 : decode cX3_ofRow 30 = .ok (.new 41, 3) := by decide +kernel
theorem dX3_ofRow_33 : decode cX3_ofRow 33 = .ok (.dup, 1) := by decide +kernel
theorem dX3_ofRow_34 : decode cX3_ofRow 34 = .ok (.ldc 154, 2) := by decide +kernel
theorem dX3_ofRow_36 : decode cX3_ofRow 36 = .ok (.invokespecial 45, 3) := by decide +kernel
theorem dX3_ofRow_39 : decode cX3_ofRow 39 = .ok (.athrow, 1) := by decide +kernel
theorem dX3_ofRow_40 : decode cX3_ofRow 40 = .ok (.aload_n 3, 1) := by decide +kernel
theorem dX3_ofRow_41 : decode cX3_ofRow 41 = .ok (.iload_n 2, 1) := by decide +kernel
theorem dX3_ofRow_42 : decode cX3_ofRow 42 = .ok (.invokevirtual 156, 3) := by decide +kernel
theorem dX3_ofRow_45 : decode cX3_ofRow 45 = .ok (.ireturn, 1) := by decide +kernel
set_option maxRecDepth 20000 in
theorem ggX3_ofSite_X3_rowNumbered : GoodIn wsX3_ofSite wsX3_rowNumbered := goodIn_r _ [9, 10, 11, 36, 37, 38, 39] (by decide +kernel) (by decide +kernel)
set_option maxRecDepth 20000 in
theorem gX3_ofSite_X3_rowNumbered : GoodIn wsX3_ofSite (wsV RX3 56 RX3 yX3_rowNumbered wsX3_rowNumbered) := goodIn_app (goodIn_of _ (by decide +kernel)) ggX3_ofSite_X3_rowNumbered
set_option maxRecDepth 20000 in
theorem ggX3_ofSite_X1_hasSite : GoodIn wsX3_ofSite wsX1_hasSite := goodIn_r _ [16, 17, 40, 41, 42, 43, 44, 45, 46] (by decide +kernel) (by decide +kernel)
set_option maxRecDepth 20000 in
theorem gX3_ofSite_X1_hasSite : GoodIn wsX3_ofSite (wsV RX3 71 RX1 yX1_hasSite wsX1_hasSite) := goodIn_app (goodIn_of _ (by decide +kernel)) ggX3_ofSite_X1_hasSite
set_option maxRecDepth 20000 in
theorem ggX3_ofSite_X3_isWithin : GoodIn wsX3_ofSite wsX3_isWithin := goodIn_r _ [20] (by decide +kernel) (by decide +kernel)
set_option maxRecDepth 20000 in
theorem gX3_ofSite_X3_isWithin : GoodIn wsX3_ofSite (va_wsS RX3 33 yX3_isWithin wsX3_isWithin) := goodIn_app (goodIn_of _ (by decide +kernel)) ggX3_ofSite_X3_isWithin
set_option maxRecDepth 20000 in
theorem ggX3_ofSite_X1_answerAt : GoodIn wsX3_ofSite wsX1_answerAt := goodIn_r _ [24, 25, 26, 27, 28, 17, 29, 8, 30, 31, 32, 33, 15, 34, 35, 40, 41, 42, 43, 44, 45, 46] (by decide +kernel) (by decide +kernel)
set_option maxRecDepth 20000 in
theorem gX3_ofSite_X1_answerAt : GoodIn wsX3_ofSite (wsV RX3 159 RX1 yX1_answerAt wsX1_answerAt) := goodIn_app (goodIn_of _ (by decide +kernel)) ggX3_ofSite_X1_answerAt
theorem dX3_ofSite_0 : decode cX3_ofSite 0 = .ok (.aload_n 0, 1) := by decide +kernel
theorem dX3_ofSite_1 : decode cX3_ofSite 1 = .ok (.iload_n 1, 1) := by decide +kernel
theorem dX3_ofSite_2 : decode cX3_ofSite 2 = .ok (.invokevirtual 56, 3) := by decide +kernel
theorem dX3_ofSite_5 : decode cX3_ofSite 5 = .ok (.astore 4, 2) := by decide +kernel
theorem dX3_ofSite_7 : decode cX3_ofSite 7 = .ok (.aload 4, 2) := by decide +kernel
theorem dX3_ofSite_9 : decode cX3_ofSite 9 = .ok (.ifnull 12, 3) := by decide +kernel
theorem dX3_ofSite_12 : decode cX3_ofSite 12 = .ok (.aload 4, 2) := by decide +kernel
theorem dX3_ofSite_14 : decode cX3_ofSite 14 = .ok (.iload_n 2, 1) := by decide +kernel
theorem dX3_ofSite_15 : decode cX3_ofSite 15 = .ok (.invokevirtual 71, 3) := by decide +kernel
theorem dX3_ofSite_18 : decode cX3_ofSite 18 = .ok (.ifCond .ne 13, 3) := by decide +kernel
theorem dX3_ofSite_21 : decode cX3_ofSite 21 = .ok (.new 60, 3) := by decide +kernel
theorem dX3_ofSite_24 : decode cX3_ofSite 24 = .ok (.dup, 1) := by decide +kernel
theorem dX3_ofSite_25 : decode cX3_ofSite 25 = .ok (.ldc 74, 2) := by decide +kernel
theorem dX3_ofSite_27 : decode cX3_ofSite 27 = .ok (.invokespecial 64, 3) := by decide +kernel
theorem dX3_ofSite_30 : decode cX3_ofSite 30 = .ok (.athrow, 1) := by decide +kernel
theorem dX3_ofSite_31 : decode cX3_ofSite 31 = .ok (.iload_n 3, 1) := by decide +kernel
theorem dX3_ofSite_32 : decode cX3_ofSite 32 = .ok (.iconst 0, 1) := by decide +kernel
theorem dX3_ofSite_33 : decode cX3_ofSite 33 = .ok (.iconst 4, 1) := by decide +kernel
theorem dX3_ofSite_34 : decode cX3_ofSite 34 = .ok (.invokestatic 33, 3) := by decide +kernel
theorem dX3_ofSite_37 : decode cX3_ofSite 37 = .ok (.ifCond .ne 13, 3) := by decide +kernel
theorem dX3_ofSite_40 : decode cX3_ofSite 40 = .ok (.new 41, 3) := by decide +kernel
theorem dX3_ofSite_43 : decode cX3_ofSite 43 = .ok (.dup, 1) := by decide +kernel
theorem dX3_ofSite_44 : decode cX3_ofSite 44 = .ok (.ldc 154, 2) := by decide +kernel
theorem dX3_ofSite_46 : decode cX3_ofSite 46 = .ok (.invokespecial 45, 3) := by decide +kernel
theorem dX3_ofSite_49 : decode cX3_ofSite 49 = .ok (.athrow, 1) := by decide +kernel
theorem dX3_ofSite_50 : decode cX3_ofSite 50 = .ok (.aload 4, 2) := by decide +kernel
theorem dX3_ofSite_52 : decode cX3_ofSite 52 = .ok (.iload_n 2, 1) := by decide +kernel
theorem dX3_ofSite_53 : decode cX3_ofSite 53 = .ok (.iload_n 3, 1) := by decide +kernel
theorem dX3_ofSite_54 : decode cX3_ofSite 54 = .ok (.invokevirtual 159, 3) := by decide +kernel
theorem dX3_ofSite_57 : decode cX3_ofSite 57 = .ok (.ireturn, 1) := by decide +kernel
set_option maxRecDepth 20000 in
theorem ggX3_many_X3_isWithin : GoodIn wsX3_many wsX3_isWithin := goodIn_r _ [6] (by decide +kernel) (by decide +kernel)
set_option maxRecDepth 20000 in
theorem gX3_many_X3_isWithin : GoodIn wsX3_many (va_wsS RX3 33 yX3_isWithin wsX3_isWithin) := goodIn_app (goodIn_of _ (by decide +kernel)) ggX3_many_X3_isWithin
set_option maxRecDepth 20000 in
theorem ggX3_many_X3_howMany : GoodIn wsX3_many wsX3_howMany := goodIn_r _ [10, 11, 12, 13, 14, 15, 16, 17, 18, 19, 20, 21, 22, 23, 24, 25, 26, 27, 28, 29, 5, 30, 31, 32, 33, 34, 35, 36, 37, 38, 39, 40, 41, 42, 43, 44, 45, 46, 47, 48, 49, 50, 51, 52, 53, 54, 55, 56, 57, 58, 59, 60, 61, 62, 63, 64, 65, 66, 67, 68, 69, 70, 71, 72, 73, 74, 75, 76, 77, 78, 79, 80, 81, 82, 83, 84, 85, 86, 87, 88, 89, 90, 91, 92, 93, 94, 95] (by decide +kernel) (by decide +kernel)
set_option maxRecDepth 20000 in
theorem gX3_many_X3_howMany : GoodIn wsX3_many (wsV RX3 174 RX3 yX3_howMany wsX3_howMany) := goodIn_app (goodIn_of _ (by decide +kernel)) ggX3_many_X3_howMany
theorem dX3_many_0 : decode cX3_many 0 = .ok (.iload_n 1, 1) := by decide +kernel
theorem dX3_many_1 : decode cX3_many 1 = .ok (.iconst 0, 1) := by decide +kernel
theorem dX3_many_2 : decode cX3_many 2 = .ok (.bipush 9, 2) := by decide +kernel
theorem dX3_many_4 : decode cX3_many 4 = .ok (.invokestatic 33, 3) := by decide +kernel
theorem dX3_many_7 : decode cX3_many 7 = .ok (.ifCond .ne 13, 3) := by decide +kernel
theorem dX3_many_10 : decode cX3_many 10 = .ok (.new 41, 3) := by decide +kernel
theorem dX3_many_13 : decode cX3_many 13 = .ok (.dup, 1) := by decide +kernel
theorem dX3_many_14 : decode cX3_many 14 = .ok (.ldc 154, 2) := by decide +kernel
theorem dX3_many_16 : decode cX3_many 16 = .ok (.invokespecial 45, 3) := by decide +kernel
theorem dX3_many_19 : decode cX3_many 19 = .ok (.athrow, 1) := by decide +kernel
theorem dX3_many_20 : decode cX3_many 20 = .ok (.aload_n 0, 1) := by decide +kernel
theorem dX3_many_21 : decode cX3_many 21 = .ok (.iload_n 1, 1) := by decide +kernel
theorem dX3_many_22 : decode cX3_many 22 = .ok (.invokevirtual 174, 3) := by decide +kernel
theorem dX3_many_25 : decode cX3_many 25 = .ok (.ireturn, 1) := by decide +kernel
set_option maxRecDepth 20000 in
theorem ggX3_tired_X0_tiredness : GoodIn wsX3_tired wsX0_tiredness := goodIn_r _ [6, 7, 12, 13, 14, 15, 16, 17, 18, 19] (by decide +kernel) (by decide +kernel)
set_option maxRecDepth 20000 in
theorem gX3_tired_X0_tiredness : GoodIn wsX3_tired (wsV RX3 177 RX0 yX0_tiredness wsX0_tiredness) := goodIn_app (goodIn_of _ (by decide +kernel)) ggX3_tired_X0_tiredness
theorem dX3_tired_0 : decode cX3_tired 0 = .ok (.aload_n 0, 1) := by decide +kernel
theorem dX3_tired_1 : decode cX3_tired 1 = .ok (.getfield 18, 3) := by decide +kernel
theorem dX3_tired_4 : decode cX3_tired 4 = .ok (.invokevirtual 177, 3) := by decide +kernel
theorem dX3_tired_7 : decode cX3_tired 7 = .ok (.dreturn, 1) := by decide +kernel
set_option maxRecDepth 20000 in
theorem ggX3_high_X3_rowNumbered : GoodIn wsX3_high wsX3_rowNumbered := goodIn_r _ [7, 8, 9, 34, 35, 36, 37] (by decide +kernel) (by decide +kernel)
set_option maxRecDepth 20000 in
theorem gX3_high_X3_rowNumbered : GoodIn wsX3_high (wsV RX3 56 RX3 yX3_rowNumbered wsX3_rowNumbered) := goodIn_app (goodIn_of _ (by decide +kernel)) ggX3_high_X3_rowNumbered
set_option maxRecDepth 20000 in
theorem ggX3_high_X1_highestThrow : GoodIn wsX3_high wsX1_highestThrow := goodIn_r _ [14, 15, 16, 17, 18, 19, 20, 21, 6, 22, 38, 39, 40, 41, 42, 43, 44] (by decide +kernel) (by decide +kernel)
set_option maxRecDepth 20000 in
theorem gX3_high_X1_highestThrow : GoodIn wsX3_high (wsV RX3 105 RX1 yX1_highestThrow wsX1_highestThrow) := goodIn_app (goodIn_of _ (by decide +kernel)) ggX3_high_X1_highestThrow
set_option maxRecDepth 20000 in
theorem ggX3_high_X3_metresOf : GoodIn wsX3_high wsX3_metresOf := goodIn_r _ [25, 26, 27, 28, 29, 30, 6, 31, 32, 33] (by decide +kernel) (by decide +kernel)
set_option maxRecDepth 20000 in
theorem gX3_high_X3_metresOf : GoodIn wsX3_high (va_wsS RX3 181 yX3_metresOf wsX3_metresOf) := goodIn_app (goodIn_of _ (by decide +kernel)) ggX3_high_X3_metresOf
theorem dX3_high_0 : decode cX3_high 0 = .ok (.aload_n 0, 1) := by decide +kernel
theorem dX3_high_1 : decode cX3_high 1 = .ok (.iload_n 1, 1) := by decide +kernel
theorem dX3_high_2 : decode cX3_high 2 = .ok (.invokevirtual 56, 3) := by decide +kernel
theorem dX3_high_5 : decode cX3_high 5 = .ok (.astore_n 2, 1) := by decide +kernel
theorem dX3_high_6 : decode cX3_high 6 = .ok (.aload_n 2, 1) := by decide +kernel
theorem dX3_high_7 : decode cX3_high 7 = .ok (.ifnonnull 13, 3) := by decide +kernel
theorem dX3_high_10 : decode cX3_high 10 = .ok (.new 60, 3) := by decide +kernel
theorem dX3_high_13 : decode cX3_high 13 = .ok (.dup, 1) := by decide +kernel
theorem dX3_high_14 : decode cX3_high 14 = .ok (.ldc 62, 2) := by decide +kernel
theorem dX3_high_16 : decode cX3_high 16 = .ok (.invokespecial 64, 3) := by decide +kernel
theorem dX3_high_19 : decode cX3_high 19 = .ok (.athrow, 1) := by decide +kernel
theorem dX3_high_20 : decode cX3_high 20 = .ok (.aload_n 2, 1) := by decide +kernel
theorem dX3_high_21 : decode cX3_high 21 = .ok (.invokevirtual 105, 3) := by decide +kernel
theorem dX3_high_24 : decode cX3_high 24 = .ok (.invokestatic 181, 3) := by decide +kernel
theorem dX3_high_27 : decode cX3_high 27 = .ok (.dreturn, 1) := by decide +kernel
set_option maxRecDepth 20000 in
theorem ggX3_would_X3_isThrow : GoodIn wsX3_would wsX3_isThrow := goodIn_r _ [7, 8, 9, 6, 10] (by decide +kernel) (by decide +kernel)
set_option maxRecDepth 20000 in
theorem gX3_would_X3_isThrow : GoodIn wsX3_would (va_wsS RX3 90 yX3_isThrow wsX3_isThrow) := goodIn_app (goodIn_of _ (by decide +kernel)) ggX3_would_X3_isThrow
set_option maxRecDepth 20000 in
theorem ggX3_would_X0_state : GoodIn wsX3_would wsX0_state := goodIn_r _ [15, 16, 17, 18, 19, 14, 20, 21, 22, 23, 6, 24, 32, 33, 34, 35, 36, 37, 38, 39] (by decide +kernel) (by decide +kernel)
set_option maxRecDepth 20000 in
theorem gX3_would_X0_state : GoodIn wsX3_would (wsV RX3 138 RX0 yX0_state wsX0_state) := goodIn_app (goodIn_of _ (by decide +kernel)) ggX3_would_X0_state
set_option maxRecDepth 20000 in
theorem ggX3_would_X3_stateBehind : GoodIn wsX3_would wsX3_stateBehind := goodIn_r _ [27] (by decide +kernel) (by decide +kernel)
set_option maxRecDepth 20000 in
theorem gX3_would_X3_stateBehind : GoodIn wsX3_would (va_wsS RX3 185 yX3_stateBehind wsX3_stateBehind) := goodIn_app (goodIn_of _ (by decide +kernel)) ggX3_would_X3_stateBehind
theorem dX3_would_0 : decode cX3_would 0 = .ok (.iload_n 1, 1) := by decide +kernel
theorem dX3_would_1 : decode cX3_would 1 = .ok (.invokestatic 90, 3) := by decide +kernel
theorem dX3_would_4 : decode cX3_would 4 = .ok (.ifCond .ne 13, 3) := by decide +kernel
theorem dX3_would_7 : decode cX3_would 7 = .ok (.new 41, 3) := by decide +kernel
theorem dX3_would_10 : decode cX3_would 10 = .ok (.dup, 1) := by decide +kernel
theorem dX3_would_11 : decode cX3_would 11 = .ok (.ldc 141, 2) := by decide +kernel
theorem dX3_would_13 : decode cX3_would 13 = .ok (.invokespecial 45, 3) := by decide +kernel
theorem dX3_would_16 : decode cX3_would 16 = .ok (.athrow, 1) := by decide +kernel
theorem dX3_would_17 : decode cX3_would 17 = .ok (.aload_n 0, 1) := by decide +kernel
theorem dX3_would_18 : decode cX3_would 18 = .ok (.getfield 18, 3) := by decide +kernel
theorem dX3_would_21 : decode cX3_would 21 = .ok (.invokevirtual 138, 3) := by decide +kernel
theorem dX3_would_24 : decode cX3_would 24 = .ok (.iload_n 1, 1) := by decide +kernel
theorem dX3_would_25 : decode cX3_would 25 = .ok (.invokestatic 185, 3) := by decide +kernel
theorem dX3_would_28 : decode cX3_would 28 = .ok (.ireturn, 1) := by decide +kernel
set_option maxRecDepth 20000 in
theorem ggX3_way_X3_rowNumbered : GoodIn wsX3_way wsX3_rowNumbered := goodIn_r _ [7, 8, 9, 83, 84, 85, 86] (by decide +kernel) (by decide +kernel)
set_option maxRecDepth 20000 in
theorem gX3_way_X3_rowNumbered : GoodIn wsX3_way (wsV RX3 56 RX3 yX3_rowNumbered wsX3_rowNumbered) := goodIn_app (goodIn_of _ (by decide +kernel)) ggX3_way_X3_rowNumbered
set_option maxRecDepth 20000 in
theorem ggX3_way_X3_stepsInto : GoodIn wsX3_way wsX3_stepsInto := goodIn_r _ [13, 14, 15, 16, 17, 18, 19, 20, 21, 22, 23, 24, 25, 26, 27, 28, 6, 29, 30, 31, 32, 33, 34, 35, 36, 37, 38, 39, 40, 41, 42, 43, 44, 45, 46, 47, 48, 49, 50, 51, 52, 53, 54, 55, 56, 57, 58, 59, 60, 61, 62, 63, 64, 65, 66, 67, 68, 69, 70, 71, 72, 73, 74, 75, 76, 77, 78, 79, 80, 81, 82, 83, 84, 85, 86, 87, 88, 89, 90, 91, 92, 93, 94, 95, 96, 97, 98, 99, 100, 101, 102, 103, 104, 105] (by decide +kernel) (by decide +kernel)
set_option maxRecDepth 20000 in
theorem gX3_way_X3_stepsInto : GoodIn wsX3_way (wsV RX3 188 RX3 yX3_stepsInto wsX3_stepsInto) := goodIn_app (goodIn_of _ (by decide +kernel)) ggX3_way_X3_stepsInto
theorem dX3_way_0 : decode cX3_way 0 = .ok (.aload_n 0, 1) := by decide +kernel
theorem dX3_way_1 : decode cX3_way 1 = .ok (.iload_n 1, 1) := by decide +kernel
theorem dX3_way_2 : decode cX3_way 2 = .ok (.invokevirtual 56, 3) := by decide +kernel
theorem dX3_way_5 : decode cX3_way 5 = .ok (.astore_n 2, 1) := by decide +kernel
theorem dX3_way_6 : decode cX3_way 6 = .ok (.aload_n 2, 1) := by decide +kernel
theorem dX3_way_7 : decode cX3_way 7 = .ok (.ifnonnull 13, 3) := by decide +kernel
theorem dX3_way_10 : decode cX3_way 10 = .ok (.new 60, 3) := by decide +kernel
theorem dX3_way_13 : decode cX3_way 13 = .ok (.dup, 1) := by decide +kernel
theorem dX3_way_14 : decode cX3_way 14 = .ok (.ldc 62, 2) := by decide +kernel
theorem dX3_way_16 : decode cX3_way 16 = .ok (.invokespecial 64, 3) := by decide +kernel
theorem dX3_way_19 : decode cX3_way 19 = .ok (.athrow, 1) := by decide +kernel
theorem dX3_way_20 : decode cX3_way 20 = .ok (.aload_n 0, 1) := by decide +kernel
theorem dX3_way_21 : decode cX3_way 21 = .ok (.aload_n 2, 1) := by decide +kernel
theorem dX3_way_22 : decode cX3_way 22 = .ok (.invokevirtual 188, 3) := by decide +kernel
theorem dX3_way_25 : decode cX3_way 25 = .ok (.ireturn, 1) := by decide +kernel
set_option maxRecDepth 20000 in
theorem ggX3_first_X3_rowNumbered : GoodIn wsX3_first wsX3_rowNumbered := goodIn_r _ [7, 8, 9, 91, 92, 93, 94] (by decide +kernel) (by decide +kernel)
set_option maxRecDepth 20000 in
theorem gX3_first_X3_rowNumbered : GoodIn wsX3_first (wsV RX3 56 RX3 yX3_rowNumbered wsX3_rowNumbered) := goodIn_app (goodIn_of _ (by decide +kernel)) ggX3_first_X3_rowNumbered
set_option maxRecDepth 20000 in
theorem ggX3_first_X3_firstThrowInto : GoodIn wsX3_first wsX3_firstThrowInto := goodIn_r _ [13, 14, 15, 16, 17, 6, 18, 19, 20, 21, 22, 23, 24, 25, 26, 27, 28, 29, 30, 31, 32, 33, 34, 35, 36, 37, 38, 39, 40, 41, 42, 43, 44, 45, 46, 47, 48, 49, 50, 51, 52, 53, 54, 55, 56, 57, 58, 59, 60, 61, 62, 63, 64, 65, 66, 67, 68, 69, 70, 71, 72, 73, 74, 75, 76, 77, 78, 79, 80, 81, 82, 83, 84, 85, 86, 87, 88, 89, 90, 91, 92, 93, 94, 95, 96, 97, 98, 99, 100, 101, 102, 103, 104, 105, 106, 107, 108, 109, 110, 111, 112, 113] (by decide +kernel) (by decide +kernel)
set_option maxRecDepth 20000 in
theorem gX3_first_X3_firstThrowInto : GoodIn wsX3_first (wsV RX3 192 RX3 yX3_firstThrowInto wsX3_firstThrowInto) := goodIn_app (goodIn_of _ (by decide +kernel)) ggX3_first_X3_firstThrowInto
theorem dX3_first_0 : decode cX3_first 0 = .ok (.aload_n 0, 1) := by decide +kernel
theorem dX3_first_1 : decode cX3_first 1 = .ok (.iload_n 1, 1) := by decide +kernel
theorem dX3_first_2 : decode cX3_first 2 = .ok (.invokevirtual 56, 3) := by decide +kernel
theorem dX3_first_5 : decode cX3_first 5 = .ok (.astore_n 2, 1) := by decide +kernel
theorem dX3_first_6 : decode cX3_first 6 = .ok (.aload_n 2, 1) := by decide +kernel
theorem dX3_first_7 : decode cX3_first 7 = .ok (.ifnonnull 13, 3) := by decide +kernel
theorem dX3_first_10 : decode cX3_first 10 = .ok (.new 60, 3) := by decide +kernel
theorem dX3_first_13 : decode cX3_first 13 = .ok (.dup, 1) := by decide +kernel
theorem dX3_first_14 : decode cX3_first 14 = .ok (.ldc 62, 2) := by decide +kernel
theorem dX3_first_16 : decode cX3_first 16 = .ok (.invokespecial 64, 3) := by decide +kernel
theorem dX3_first_19 : decode cX3_first 19 = .ok (.athrow, 1) := by decide +kernel
theorem dX3_first_20 : decode cX3_first 20 = .ok (.aload_n 0, 1) := by decide +kernel
theorem dX3_first_21 : decode cX3_first 21 = .ok (.aload_n 2, 1) := by decide +kernel
theorem dX3_first_22 : decode cX3_first 22 = .ok (.invokevirtual 192, 3) := by decide +kernel
theorem dX3_first_25 : decode cX3_first 25 = .ok (.ireturn, 1) := by decide +kernel
set_option maxRecDepth 20000 in
theorem ggX3_count_X3_isWithin : GoodIn wsX3_count wsX3_isWithin := goodIn_r _ [6] (by decide +kernel) (by decide +kernel)
set_option maxRecDepth 20000 in
theorem gX3_count_X3_isWithin : GoodIn wsX3_count (va_wsS RX3 33 yX3_isWithin wsX3_isWithin) := goodIn_app (goodIn_of _ (by decide +kernel)) ggX3_count_X3_isWithin
set_option maxRecDepth 20000 in
theorem ggX3_count_X3_soundRowsFrom : GoodIn wsX3_count wsX3_soundRowsFrom := goodIn_r _ [9, 7, 8, 5] (by decide +kernel) (by decide +kernel)
set_option maxRecDepth 20000 in
theorem gX3_count_X3_soundRowsFrom : GoodIn wsX3_count (va_wsS RX3 197 yX3_soundRowsFrom wsX3_soundRowsFrom) := goodIn_app (goodIn_of _ (by decide +kernel)) ggX3_count_X3_soundRowsFrom
theorem dX3_count_0 : decode cX3_count 0 = .ok (.iload_n 1, 1) := by decide +kernel
theorem dX3_count_1 : decode cX3_count 1 = .ok (.iconst 1, 1) := by decide +kernel
theorem dX3_count_2 : decode cX3_count 2 = .ok (.iconst 4, 1) := by decide +kernel
theorem dX3_count_3 : decode cX3_count 3 = .ok (.invokestatic 33, 3) := by decide +kernel
theorem dX3_count_6 : decode cX3_count 6 = .ok (.ifCond .eq 13, 3) := by decide +kernel
theorem dX3_count_9 : decode cX3_count 9 = .ok (.iload_n 2, 1) := by decide +kernel
theorem dX3_count_10 : decode cX3_count 10 = .ok (.iconst 0, 1) := by decide +kernel
theorem dX3_count_11 : decode cX3_count 11 = .ok (.bipush 9, 2) := by decide +kernel
theorem dX3_count_13 : decode cX3_count 13 = .ok (.invokestatic 33, 3) := by decide +kernel
theorem dX3_count_16 : decode cX3_count 16 = .ok (.ifCond .ne 13, 3) := by decide +kernel
theorem dX3_count_19 : decode cX3_count 19 = .ok (.new 41, 3) := by decide +kernel
theorem dX3_count_22 : decode cX3_count 22 = .ok (.dup, 1) := by decide +kernel
theorem dX3_count_23 : decode cX3_count 23 = .ok (.ldc 195, 2) := by decide +kernel
theorem dX3_count_25 : decode cX3_count 25 = .ok (.invokespecial 45, 3) := by decide +kernel
theorem dX3_count_28 : decode cX3_count 28 = .ok (.athrow, 1) := by decide +kernel
theorem dX3_count_29 : decode cX3_count 29 = .ok (.iconst 0, 1) := by decide +kernel
theorem dX3_count_30 : decode cX3_count 30 = .ok (.iload_n 1, 1) := by decide +kernel
theorem dX3_count_31 : decode cX3_count 31 = .ok (.iconst 0, 1) := by decide +kernel
theorem dX3_count_32 : decode cX3_count 32 = .ok (.iload_n 1, 1) := by decide +kernel
theorem dX3_count_33 : decode cX3_count 33 = .ok (.iload_n 2, 1) := by decide +kernel
theorem dX3_count_34 : decode cX3_count 34 = .ok (.imul, 1) := by decide +kernel
theorem dX3_count_35 : decode cX3_count 35 = .ok (.invokestatic 197, 3) := by decide +kernel
theorem dX3_count_38 : decode cX3_count 38 = .ok (.ireturn, 1) := by decide +kernel
set_option maxRecDepth 20000 in
theorem ggX3_alike_X3_rowNumbered : GoodIn wsX3_alike wsX3_rowNumbered := goodIn_r _ [7, 8, 9, 31, 32, 33, 34] (by decide +kernel) (by decide +kernel)
set_option maxRecDepth 20000 in
theorem gX3_alike_X3_rowNumbered : GoodIn wsX3_alike (wsV RX3 56 RX3 yX3_rowNumbered wsX3_rowNumbered) := goodIn_app (goodIn_of _ (by decide +kernel)) ggX3_alike_X3_rowNumbered
set_option maxRecDepth 20000 in
theorem ggX3_alike_X1_isShiftedTo : GoodIn wsX3_alike wsX1_isShiftedTo := goodIn_r _ [14, 15, 16, 17, 18, 19, 13, 20, 21, 22, 23, 24, 25, 26, 27, 28, 29, 6, 30, 35, 36, 37, 38, 39, 40, 41] (by decide +kernel) (by decide +kernel)
set_option maxRecDepth 20000 in
theorem gX3_alike_X1_isShiftedTo : GoodIn wsX3_alike (wsV RX3 201 RX1 yX1_isShiftedTo wsX1_isShiftedTo) := goodIn_app (goodIn_of _ (by decide +kernel)) ggX3_alike_X1_isShiftedTo
theorem dX3_alike_0 : decode cX3_alike 0 = .ok (.aload_n 0, 1) := by decide +kernel
theorem dX3_alike_1 : decode cX3_alike 1 = .ok (.iload_n 1, 1) := by decide +kernel
theorem dX3_alike_2 : decode cX3_alike 2 = .ok (.invokevirtual 56, 3) := by decide +kernel
theorem dX3_alike_5 : decode cX3_alike 5 = .ok (.astore_n 3, 1) := by decide +kernel
theorem dX3_alike_6 : decode cX3_alike 6 = .ok (.aload_n 0, 1) := by decide +kernel
theorem dX3_alike_7 : decode cX3_alike 7 = .ok (.iload_n 2, 1) := by decide +kernel
theorem dX3_alike_8 : decode cX3_alike 8 = .ok (.invokevirtual 56, 3) := by decide +kernel
theorem dX3_alike_11 : decode cX3_alike 11 = .ok (.astore 4, 2) := by decide +kernel
theorem dX3_alike_13 : decode cX3_alike 13 = .ok (.aload_n 3, 1) := by decide +kernel
theorem dX3_alike_14 : decode cX3_alike 14 = .ok (.ifnull 8, 3) := by decide +kernel
theorem dX3_alike_17 : decode cX3_alike 17 = .ok (.aload 4, 2) := by decide +kernel
theorem dX3_alike_19 : decode cX3_alike 19 = .ok (.ifnonnull 13, 3) := by decide +kernel
theorem dX3_alike_22 : decode cX3_alike 22 = .ok (.new 60, 3) := by decide +kernel
theorem dX3_alike_25 : decode cX3_alike 25 = .ok (.dup, 1) := by decide +kernel
theorem dX3_alike_26 : decode cX3_alike 26 = .ok (.ldc 62, 2) := by decide +kernel
theorem dX3_alike_28 : decode cX3_alike 28 = .ok (.invokespecial 64, 3) := by decide +kernel
theorem dX3_alike_31 : decode cX3_alike 31 = .ok (.athrow, 1) := by decide +kernel
theorem dX3_alike_32 : decode cX3_alike 32 = .ok (.iconst 0, 1) := by decide +kernel
theorem dX3_alike_33 : decode cX3_alike 33 = .ok (.istore 5, 2) := by decide +kernel
theorem dX3_alike_35 : decode cX3_alike 35 = .ok (.iload 5, 2) := by decide +kernel
theorem dX3_alike_37 : decode cX3_alike 37 = .ok (.bipush 8, 2) := by decide +kernel
theorem dX3_alike_39 : decode cX3_alike 39 = .ok (.if_icmp .ge 23, 3) := by decide +kernel
theorem dX3_alike_42 : decode cX3_alike 42 = .ok (.aload_n 3, 1) := by decide +kernel
theorem dX3_alike_43 : decode cX3_alike 43 = .ok (.aload 4, 2) := by decide +kernel
theorem dX3_alike_45 : decode cX3_alike 45 = .ok (.iload 5, 2) := by decide +kernel
theorem dX3_alike_47 : decode cX3_alike 47 = .ok (.invokevirtual 201, 3) := by decide +kernel
theorem dX3_alike_50 : decode cX3_alike 50 = .ok (.ifCond .eq 6, 3) := by decide +kernel
theorem dX3_alike_53 : decode cX3_alike 53 = .ok (.iload 5, 2) := by decide +kernel
theorem dX3_alike_55 : decode cX3_alike 55 = .ok (.ireturn, 1) := by decide +kernel
theorem dX3_alike_56 : decode cX3_alike 56 = .ok (.iinc 5 1, 3) := by decide +kernel
theorem dX3_alike_59 : decode cX3_alike 59 = .ok (.goto (-24), 3) := by decide +kernel
theorem dX3_alike_62 : decode cX3_alike 62 = .ok (.iconst (-1), 1) := by decide +kernel
theorem dX3_alike_63 : decode cX3_alike 63 = .ok (.ireturn, 1) := by decide +kernel
set_option maxRecDepth 20000 in
theorem ggX3_digest_X3_howMany : GoodIn wsX3_digest wsX3_howMany := goodIn_r _ [10, 3, 4, 11, 12, 13, 14, 15, 16, 17, 18, 19, 20, 21, 22, 23, 24, 25, 26, 27, 9, 28, 29, 30, 31, 32, 33, 34, 35, 36, 37, 38, 39, 40, 41, 42, 43, 44, 45, 46, 47, 48, 49, 50, 51, 52, 53, 54, 55, 56, 57, 58, 59, 60, 61, 62, 63, 64, 65, 66, 67, 68, 69, 70, 71, 72, 73, 74, 222, 223, 224, 225, 226, 227, 228, 229, 230, 231, 232, 233, 234, 235, 236, 237, 238, 239, 240] (by decide +kernel) (by decide +kernel)
set_option maxRecDepth 20000 in
theorem gX3_digest_X3_howMany : GoodIn wsX3_digest (wsV RX3 174 RX3 yX3_howMany wsX3_howMany) := goodIn_app (goodIn_of _ (by decide +kernel)) ggX3_digest_X3_howMany
set_option maxRecDepth 20000 in
theorem ggX3_digest_X3_rowNumbered : GoodIn wsX3_digest wsX3_rowNumbered := goodIn_r _ [58, 3, 59, 222, 223, 224, 225] (by decide +kernel) (by decide +kernel)
set_option maxRecDepth 20000 in
theorem gX3_digest_X3_rowNumbered : GoodIn wsX3_digest (wsV RX3 56 RX3 yX3_rowNumbered wsX3_rowNumbered) := goodIn_app (goodIn_of _ (by decide +kernel)) ggX3_digest_X3_rowNumbered
set_option maxRecDepth 20000 in
theorem ggX3_digest_X3_addRow : GoodIn wsX3_digest wsX3_addRow := goodIn_r _ [78, 2, 79, 80, 81, 63, 82, 83, 65, 84, 85, 86, 87, 88, 89, 90, 91, 92, 27, 9, 28, 93, 94, 95, 96, 97, 98, 99, 100, 101, 102, 103, 104, 105, 106, 107, 108, 109, 110, 111, 112, 113, 114, 115, 116, 117, 118, 119, 120, 121, 122, 123, 124, 125, 126, 127, 128, 129, 130, 131, 132, 133, 134, 135, 136, 137, 138, 139, 140, 141, 142, 143, 144, 145, 146, 147, 148, 149, 150, 151, 152, 153, 154, 155, 156, 157, 158, 159, 160, 161, 162, 163, 4, 164, 17, 18, 19, 14, 20, 16, 21, 22, 23, 24, 25, 26, 165, 166, 167, 168, 169, 170, 171, 172, 173, 174, 175, 176, 177, 178, 179, 180, 181, 182, 183, 184, 185, 186, 187, 188, 189, 190, 191, 192, 193, 194, 195, 196, 197, 198, 199, 200, 201, 202, 203, 204, 205, 206, 234, 235, 236, 237, 238, 239, 240, 222, 223, 224, 225, 226, 227, 228, 229, 230, 231, 232, 233, 241, 242, 243, 244] (by decide +kernel) (by decide +kernel)
set_option maxRecDepth 20000 in
theorem gX3_digest_X3_addRow : GoodIn wsX3_digest (wsV RX3 209 RX3 yX3_addRow wsX3_addRow) := goodIn_app (goodIn_of _ (by decide +kernel)) ggX3_digest_X3_addRow
set_option maxRecDepth 20000 in
theorem ggX3_digest_X0_props : GoodIn wsX3_digest wsX0_props := goodIn_r _ [15, 16, 226, 227, 228, 229, 230, 231, 232, 233] (by decide +kernel) (by decide +kernel)
set_option maxRecDepth 20000 in
theorem gX3_digest_X0_props : GoodIn wsX3_digest (wsV RX3 213 RX0 yX0_props wsX0_props) := goodIn_app (goodIn_of _ (by decide +kernel)) ggX3_digest_X0_props
set_option maxRecDepth 20000 in
theorem ggX3_digest_X0_answerOf : GoodIn wsX3_digest wsX0_answerOf := goodIn_r _ [210, 50, 211, 21, 22, 23, 14, 24, 25, 26, 27, 9, 28, 212, 213, 214, 215, 42, 43, 44, 45, 226, 227, 228, 229, 230, 231, 232, 233] (by decide +kernel) (by decide +kernel)
set_option maxRecDepth 20000 in
theorem gX3_digest_X0_answerOf : GoodIn wsX3_digest (wsV RX3 171 RX0 yX0_answerOf wsX0_answerOf) := goodIn_app (goodIn_of _ (by decide +kernel)) ggX3_digest_X0_answerOf
set_option maxRecDepth 20000 in
theorem ggX3_digest_X0_state : GoodIn wsX3_digest wsX0_state := goodIn_r _ [20, 16, 21, 22, 23, 14, 24, 25, 26, 27, 9, 28, 226, 227, 228, 229, 230, 231, 232, 233] (by decide +kernel) (by decide +kernel)
set_option maxRecDepth 20000 in
theorem gX3_digest_X0_state : GoodIn wsX3_digest (wsV RX3 138 RX0 yX0_state wsX0_state) := goodIn_app (goodIn_of _ (by decide +kernel)) ggX3_digest_X0_state
set_option maxRecDepth 20000 in
theorem ggX3_digest_X3_stateBehind : GoodIn wsX3_digest wsX3_stateBehind := goodIn_r _ [193] (by decide +kernel) (by decide +kernel)
set_option maxRecDepth 20000 in
theorem gX3_digest_X3_stateBehind : GoodIn wsX3_digest (va_wsS RX3 185 yX3_stateBehind wsX3_stateBehind) := goodIn_app (goodIn_of _ (by decide +kernel)) ggX3_digest_X3_stateBehind
set_option maxRecDepth 20000 in
theorem ggX3_digest_X0_tiredness : GoodIn wsX3_digest wsX0_tiredness := goodIn_r _ [220, 221, 226, 227, 228, 229, 230, 231, 232, 233] (by decide +kernel) (by decide +kernel)
set_option maxRecDepth 20000 in
theorem gX3_digest_X0_tiredness : GoodIn wsX3_digest (wsV RX3 177 RX0 yX0_tiredness wsX0_tiredness) := goodIn_app (goodIn_of _ (by decide +kernel)) ggX3_digest_X0_tiredness
theorem dX3_digest_0 : decode cX3_digest 0 = .ok (.ldc2_w 205, 3) := by decide +kernel
theorem dX3_digest_3 : decode cX3_digest 3 = .ok (.lstore_n 1, 1) := by decide +kernel
theorem dX3_digest_4 : decode cX3_digest 4 = .ok (.iconst 0, 1) := by decide +kernel
theorem dX3_digest_5 : decode cX3_digest 5 = .ok (.istore_n 3, 1) := by decide +kernel
theorem dX3_digest_6 : decode cX3_digest 6 = .ok (.iload_n 3, 1) := by decide +kernel
theorem dX3_digest_7 : decode cX3_digest 7 = .ok (.bipush 9, 2) := by decide +kernel
theorem dX3_digest_9 : decode cX3_digest 9 = .ok (.if_icmp .gt 22, 3) := by decide +kernel
theorem dX3_digest_12 : decode cX3_digest 12 = .ok (.lload_n 1, 1) := by decide +kernel
theorem dX3_digest_13 : decode cX3_digest 13 = .ok (.ldc2_w 207, 3) := by decide +kernel
theorem dX3_digest_16 : decode cX3_digest 16 = .ok (.lmul, 1) := by decide +kernel
theorem dX3_digest_17 : decode cX3_digest 17 = .ok (.aload_n 0, 1) := by decide +kernel
theorem dX3_digest_18 : decode cX3_digest 18 = .ok (.iload_n 3, 1) := by decide +kernel
theorem dX3_digest_19 : decode cX3_digest 19 = .ok (.invokevirtual 174, 3) := by decide +kernel
theorem dX3_digest_22 : decode cX3_digest 22 = .ok (.i2l, 1) := by decide +kernel
theorem dX3_digest_23 : decode cX3_digest 23 = .ok (.ladd, 1) := by decide +kernel
theorem dX3_digest_24 : decode cX3_digest 24 = .ok (.lstore_n 1, 1) := by decide +kernel
theorem dX3_digest_25 : decode cX3_digest 25 = .ok (.iinc 3 1, 3) := by decide +kernel
theorem dX3_digest_28 : decode cX3_digest 28 = .ok (.goto (-22), 3) := by decide +kernel
theorem dX3_digest_31 : decode cX3_digest 31 = .ok (.iconst 0, 1) := by decide +kernel
theorem dX3_digest_32 : decode cX3_digest 32 = .ok (.istore_n 3, 1) := by decide +kernel
theorem dX3_digest_33 : decode cX3_digest 33 = .ok (.iload_n 3, 1) := by decide +kernel
theorem dX3_digest_34 : decode cX3_digest 34 = .ok (.aload_n 0, 1) := by decide +kernel
theorem dX3_digest_35 : decode cX3_digest 35 = .ok (.getfield 29, 3) := by decide +kernel
theorem dX3_digest_38 : decode cX3_digest 38 = .ok (.if_icmp .ge 20, 3) := by decide +kernel
theorem dX3_digest_41 : decode cX3_digest 41 = .ok (.aload_n 0, 1) := by decide +kernel
theorem dX3_digest_42 : decode cX3_digest 42 = .ok (.lload_n 1, 1) := by decide +kernel
theorem dX3_digest_43 : decode cX3_digest 43 = .ok (.aload_n 0, 1) := by decide +kernel
theorem dX3_digest_44 : decode cX3_digest 44 = .ok (.iload_n 3, 1) := by decide +kernel
theorem dX3_digest_45 : decode cX3_digest 45 = .ok (.invokevirtual 56, 3) := by decide +kernel
theorem dX3_digest_48 : decode cX3_digest 48 = .ok (.invokevirtual 209, 3) := by decide +kernel
theorem dX3_digest_51 : decode cX3_digest 51 = .ok (.lstore_n 1, 1) := by decide +kernel
theorem dX3_digest_52 : decode cX3_digest 52 = .ok (.iinc 3 1, 3) := by decide +kernel
theorem dX3_digest_55 : decode cX3_digest 55 = .ok (.goto (-22), 3) := by decide +kernel
theorem dX3_digest_58 : decode cX3_digest 58 = .ok (.iconst 0, 1) := by decide +kernel
theorem dX3_digest_59 : decode cX3_digest 59 = .ok (.istore_n 3, 1) := by decide +kernel
theorem dX3_digest_60 : decode cX3_digest 60 = .ok (.iload_n 3, 1) := by decide +kernel
theorem dX3_digest_61 : decode cX3_digest 61 = .ok (.aload_n 0, 1) := by decide +kernel
theorem dX3_digest_62 : decode cX3_digest 62 = .ok (.getfield 18, 3) := by decide +kernel
theorem dX3_digest_65 : decode cX3_digest 65 = .ok (.invokevirtual 213, 3) := by decide +kernel
theorem dX3_digest_68 : decode cX3_digest 68 = .ok (.if_icmp .ge 42, 3) := by decide +kernel
theorem dX3_digest_71 : decode cX3_digest 71 = .ok (.iconst 0, 1) := by decide +kernel
theorem dX3_digest_72 : decode cX3_digest 72 = .ok (.istore 4, 2) := by decide +kernel
theorem dX3_digest_74 : decode cX3_digest 74 = .ok (.iload 4, 2) := by decide +kernel
theorem dX3_digest_76 : decode cX3_digest 76 = .ok (.iconst 3, 1) := by decide +kernel
theorem dX3_digest_77 : decode cX3_digest 77 = .ok (.if_icmp .gt 27, 3) := by decide +kernel
theorem dX3_digest_80 : decode cX3_digest 80 = .ok (.lload_n 1, 1) := by decide +kernel
theorem dX3_digest_81 : decode cX3_digest 81 = .ok (.ldc2_w 207, 3) := by decide +kernel
theorem dX3_digest_84 : decode cX3_digest 84 = .ok (.lmul, 1) := by decide +kernel
theorem dX3_digest_85 : decode cX3_digest 85 = .ok (.aload_n 0, 1) := by decide +kernel
theorem dX3_digest_86 : decode cX3_digest 86 = .ok (.getfield 18, 3) := by decide +kernel
theorem dX3_digest_89 : decode cX3_digest 89 = .ok (.iload_n 3, 1) := by decide +kernel
theorem dX3_digest_90 : decode cX3_digest 90 = .ok (.iload 4, 2) := by decide +kernel
theorem dX3_digest_92 : decode cX3_digest 92 = .ok (.invokevirtual 171, 3) := by decide +kernel
theorem dX3_digest_95 : decode cX3_digest 95 = .ok (.i2l, 1) := by decide +kernel
theorem dX3_digest_96 : decode cX3_digest 96 = .ok (.ladd, 1) := by decide +kernel
theorem dX3_digest_97 : decode cX3_digest 97 = .ok (.lstore_n 1, 1) := by decide +kernel
theorem dX3_digest_98 : decode cX3_digest 98 = .ok (.iinc 4 1, 3) := by decide +kernel
theorem dX3_digest_101 : decode cX3_digest 101 = .ok (.goto (-27), 3) := by decide +kernel
theorem dX3_digest_104 : decode cX3_digest 104 = .ok (.iinc 3 1, 3) := by decide +kernel
theorem dX3_digest_107 : decode cX3_digest 107 = .ok (.goto (-47), 3) := by decide +kernel
theorem dX3_digest_110 : decode cX3_digest 110 = .ok (.iconst 0, 1) := by decide +kernel
theorem dX3_digest_111 : decode cX3_digest 111 = .ok (.istore_n 3, 1) := by decide +kernel
theorem dX3_digest_112 : decode cX3_digest 112 = .ok (.iload_n 3, 1) := by decide +kernel
theorem dX3_digest_113 : decode cX3_digest 113 = .ok (.bipush 9, 2) := by decide +kernel
theorem dX3_digest_115 : decode cX3_digest 115 = .ok (.if_icmp .gt 28, 3) := by decide +kernel
theorem dX3_digest_118 : decode cX3_digest 118 = .ok (.lload_n 1, 1) := by decide +kernel
theorem dX3_digest_119 : decode cX3_digest 119 = .ok (.ldc2_w 207, 3) := by decide +kernel
theorem dX3_digest_122 : decode cX3_digest 122 = .ok (.lmul, 1) := by decide +kernel
theorem dX3_digest_123 : decode cX3_digest 123 = .ok (.aload_n 0, 1) := by decide +kernel
theorem dX3_digest_124 : decode cX3_digest 124 = .ok (.getfield 18, 3) := by decide +kernel
theorem dX3_digest_127 : decode cX3_digest 127 = .ok (.invokevirtual 138, 3) := by decide +kernel
theorem dX3_digest_130 : decode cX3_digest 130 = .ok (.iload_n 3, 1) := by decide +kernel
theorem dX3_digest_131 : decode cX3_digest 131 = .ok (.invokestatic 185, 3) := by decide +kernel
theorem dX3_digest_134 : decode cX3_digest 134 = .ok (.i2l, 1) := by decide +kernel
theorem dX3_digest_135 : decode cX3_digest 135 = .ok (.ladd, 1) := by decide +kernel
theorem dX3_digest_136 : decode cX3_digest 136 = .ok (.lstore_n 1, 1) := by decide +kernel
theorem dX3_digest_137 : decode cX3_digest 137 = .ok (.iinc 3 1, 3) := by decide +kernel
theorem dX3_digest_140 : decode cX3_digest 140 = .ok (.goto (-28), 3) := by decide +kernel
theorem dX3_digest_143 : decode cX3_digest 143 = .ok (.lload_n 1, 1) := by decide +kernel
theorem dX3_digest_144 : decode cX3_digest 144 = .ok (.ldc2_w 207, 3) := by decide +kernel
theorem dX3_digest_147 : decode cX3_digest 147 = .ok (.lmul, 1) := by decide +kernel
theorem dX3_digest_148 : decode cX3_digest 148 = .ok (.ldc2_w 216, 3) := by decide +kernel
theorem dX3_digest_151 : decode cX3_digest 151 = .ok (.aload_n 0, 1) := by decide +kernel
theorem dX3_digest_152 : decode cX3_digest 152 = .ok (.getfield 18, 3) := by decide +kernel
theorem dX3_digest_155 : decode cX3_digest 155 = .ok (.invokevirtual 177, 3) := by decide +kernel
theorem dX3_digest_158 : decode cX3_digest 158 = .ok (.dmul, 1) := by decide +kernel
theorem dX3_digest_159 : decode cX3_digest 159 = .ok (.d2l, 1) := by decide +kernel
theorem dX3_digest_160 : decode cX3_digest 160 = .ok (.ladd, 1) := by decide +kernel
theorem dX3_digest_161 : decode cX3_digest 161 = .ok (.lreturn, 1) := by decide +kernel
theorem dX3_isWithin_0 : decode cX3_isWithin 0 = .ok (.iload_n 0, 1) := by decide +kernel
theorem dX3_isWithin_1 : decode cX3_isWithin 1 = .ok (.iload_n 1, 1) := by decide +kernel
theorem dX3_isWithin_2 : decode cX3_isWithin 2 = .ok (.if_icmp .lt 12, 3) := by decide +kernel
theorem dX3_isWithin_5 : decode cX3_isWithin 5 = .ok (.iload_n 0, 1) := by decide +kernel
theorem dX3_isWithin_6 : decode cX3_isWithin 6 = .ok (.iload_n 2, 1) := by decide +kernel
theorem dX3_isWithin_7 : decode cX3_isWithin 7 = .ok (.if_icmp .gt 7, 3) := by decide +kernel
theorem dX3_isWithin_10 : decode cX3_isWithin 10 = .ok (.iconst 1, 1) := by decide +kernel
theorem dX3_isWithin_11 : decode cX3_isWithin 11 = .ok (.goto 4, 3) := by decide +kernel
theorem dX3_isWithin_14 : decode cX3_isWithin 14 = .ok (.iconst 0, 1) := by decide +kernel
theorem dX3_isWithin_15 : decode cX3_isWithin 15 = .ok (.ireturn, 1) := by decide +kernel
set_option maxRecDepth 20000 in
theorem ggX3_isThrow_X3_isWithin : GoodIn wsX3_isThrow wsX3_isWithin := goodIn_r _ [4] (by decide +kernel) (by decide +kernel)
set_option maxRecDepth 20000 in
theorem gX3_isThrow_X3_isWithin : GoodIn wsX3_isThrow (va_wsS RX3 33 yX3_isWithin wsX3_isWithin) := goodIn_app (goodIn_of _ (by decide +kernel)) ggX3_isThrow_X3_isWithin
theorem dX3_isThrow_0 : decode cX3_isThrow 0 = .ok (.iload_n 0, 1) := by decide +kernel
theorem dX3_isThrow_1 : decode cX3_isThrow 1 = .ok (.iconst 0, 1) := by decide +kernel
theorem dX3_isThrow_2 : decode cX3_isThrow 2 = .ok (.bipush 9, 2) := by decide +kernel
theorem dX3_isThrow_4 : decode cX3_isThrow 4 = .ok (.invokestatic 33, 3) := by decide +kernel
theorem dX3_isThrow_7 : decode cX3_isThrow 7 = .ok (.ireturn, 1) := by decide +kernel
theorem dX3_firstNumberLongerThan_0 : decode cX3_firstNumberLongerThan 0 = .ok (.iconst 1, 1) := by decide +kernel
theorem dX3_firstNumberLongerThan_1 : decode cX3_firstNumberLongerThan 1 = .ok (.istore_n 1, 1) := by decide +kernel
theorem dX3_firstNumberLongerThan_2 : decode cX3_firstNumberLongerThan 2 = .ok (.iconst 0, 1) := by decide +kernel
theorem dX3_firstNumberLongerThan_3 : decode cX3_firstNumberLongerThan 3 = .ok (.istore_n 2, 1) := by decide +kernel
theorem dX3_firstNumberLongerThan_4 : decode cX3_firstNumberLongerThan 4 = .ok (.iload_n 2, 1) := by decide +kernel
theorem dX3_firstNumberLongerThan_5 : decode cX3_firstNumberLongerThan 5 = .ok (.iload_n 0, 1) := by decide +kernel
theorem dX3_firstNumberLongerThan_6 : decode cX3_firstNumberLongerThan 6 = .ok (.if_icmp .ge 20, 3) := by decide +kernel
theorem dX3_firstNumberLongerThan_9 : decode cX3_firstNumberLongerThan 9 = .ok (.iload_n 2, 1) := by decide +kernel
theorem dX3_firstNumberLongerThan_10 : decode cX3_firstNumberLongerThan 10 = .ok (.bipush 8, 2) := by decide +kernel
theorem dX3_firstNumberLongerThan_12 : decode cX3_firstNumberLongerThan 12 = .ok (.if_icmp .ge 14, 3) := by decide +kernel
theorem dX3_firstNumberLongerThan_15 : decode cX3_firstNumberLongerThan 15 = .ok (.iload_n 1, 1) := by decide +kernel
theorem dX3_firstNumberLongerThan_16 : decode cX3_firstNumberLongerThan 16 = .ok (.bipush 10, 2) := by decide +kernel
theorem dX3_firstNumberLongerThan_18 : decode cX3_firstNumberLongerThan 18 = .ok (.imul, 1) := by decide +kernel
theorem dX3_firstNumberLongerThan_19 : decode cX3_firstNumberLongerThan 19 = .ok (.istore_n 1, 1) := by decide +kernel
theorem dX3_firstNumberLongerThan_20 : decode cX3_firstNumberLongerThan 20 = .ok (.iinc 2 1, 3) := by decide +kernel
theorem dX3_firstNumberLongerThan_23 : decode cX3_firstNumberLongerThan 23 = .ok (.goto (-19), 3) := by decide +kernel
theorem dX3_firstNumberLongerThan_26 : decode cX3_firstNumberLongerThan 26 = .ok (.iload_n 1, 1) := by decide +kernel
theorem dX3_firstNumberLongerThan_27 : decode cX3_firstNumberLongerThan 27 = .ok (.ireturn, 1) := by decide +kernel
theorem dX3_cell_0 : decode cX3_cell 0 = .ok (.iload_n 1, 1) := by decide +kernel
theorem dX3_cell_1 : decode cX3_cell 1 = .ok (.ifCond .lt 15, 3) := by decide +kernel
theorem dX3_cell_4 : decode cX3_cell 4 = .ok (.iload_n 1, 1) := by decide +kernel
theorem dX3_cell_5 : decode cX3_cell 5 = .ok (.aload_n 0, 1) := by decide +kernel
theorem dX3_cell_6 : decode cX3_cell 6 = .ok (.arraylength, 1) := by decide +kernel
theorem dX3_cell_7 : decode cX3_cell 7 = .ok (.if_icmp .ge 9, 3) := by decide +kernel
theorem dX3_cell_10 : decode cX3_cell 10 = .ok (.aload_n 0, 1) := by decide +kernel
theorem dX3_cell_11 : decode cX3_cell 11 = .ok (.iload_n 1, 1) := by decide +kernel
theorem dX3_cell_12 : decode cX3_cell 12 = .ok (.iaload, 1) := by decide +kernel
theorem dX3_cell_13 : decode cX3_cell 13 = .ok (.goto 4, 3) := by decide +kernel
theorem dX3_cell_16 : decode cX3_cell 16 = .ok (.iconst 0, 1) := by decide +kernel
theorem dX3_cell_17 : decode cX3_cell 17 = .ok (.ireturn, 1) := by decide +kernel
theorem dX3_setCell_0 : decode cX3_setCell 0 = .ok (.iload_n 1, 1) := by decide +kernel
theorem dX3_setCell_1 : decode cX3_setCell 1 = .ok (.ifCond .lt 13, 3) := by decide +kernel
theorem dX3_setCell_4 : decode cX3_setCell 4 = .ok (.iload_n 1, 1) := by decide +kernel
theorem dX3_setCell_5 : decode cX3_setCell 5 = .ok (.aload_n 0, 1) := by decide +kernel
theorem dX3_setCell_6 : decode cX3_setCell 6 = .ok (.arraylength, 1) := by decide +kernel
theorem dX3_setCell_7 : decode cX3_setCell 7 = .ok (.if_icmp .ge 7, 3) := by decide +kernel
theorem dX3_setCell_10 : decode cX3_setCell 10 = .ok (.aload_n 0, 1) := by decide +kernel
theorem dX3_setCell_11 : decode cX3_setCell 11 = .ok (.iload_n 1, 1) := by decide +kernel
theorem dX3_setCell_12 : decode cX3_setCell 12 = .ok (.iload_n 2, 1) := by decide +kernel
theorem dX3_setCell_13 : decode cX3_setCell 13 = .ok (.iastore, 1) := by decide +kernel
theorem dX3_setCell_14 : decode cX3_setCell 14 = .ok (.return_, 1) := by decide +kernel
theorem dX3_rowNumbered_0 : decode cX3_rowNumbered 0 = .ok (.iload_n 1, 1) := by decide +kernel
theorem dX3_rowNumbered_1 : decode cX3_rowNumbered 1 = .ok (.ifCond .lt 29, 3) := by decide +kernel
theorem dX3_rowNumbered_4 : decode cX3_rowNumbered 4 = .ok (.iload_n 1, 1) := by decide +kernel
theorem dX3_rowNumbered_5 : decode cX3_rowNumbered 5 = .ok (.aload_n 0, 1) := by decide +kernel
theorem dX3_rowNumbered_6 : decode cX3_rowNumbered 6 = .ok (.getfield 29, 3) := by decide +kernel
theorem dX3_rowNumbered_9 : decode cX3_rowNumbered 9 = .ok (.if_icmp .ge 21, 3) := by decide +kernel
theorem dX3_rowNumbered_12 : decode cX3_rowNumbered 12 = .ok (.iload_n 1, 1) := by decide +kernel
theorem dX3_rowNumbered_13 : decode cX3_rowNumbered 13 = .ok (.aload_n 0, 1) := by decide +kernel
theorem dX3_rowNumbered_14 : decode cX3_rowNumbered 14 = .ok (.getfield 11, 3) := by decide +kernel
theorem dX3_rowNumbered_17 : decode cX3_rowNumbered 17 = .ok (.arraylength, 1) := by decide +kernel
theorem dX3_rowNumbered_18 : decode cX3_rowNumbered 18 = .ok (.if_icmp .ge 12, 3) := by decide +kernel
theorem dX3_rowNumbered_21 : decode cX3_rowNumbered 21 = .ok (.aload_n 0, 1) := by decide +kernel
theorem dX3_rowNumbered_22 : decode cX3_rowNumbered 22 = .ok (.getfield 11, 3) := by decide +kernel
theorem dX3_rowNumbered_25 : decode cX3_rowNumbered 25 = .ok (.iload_n 1, 1) := by decide +kernel
theorem dX3_rowNumbered_26 : decode cX3_rowNumbered 26 = .ok (.aaload, 1) := by decide +kernel
theorem dX3_rowNumbered_27 : decode cX3_rowNumbered 27 = .ok (.goto 4, 3) := by decide +kernel
theorem dX3_rowNumbered_30 : decode cX3_rowNumbered 30 = .ok (.aconst_null, 1) := by decide +kernel
theorem dX3_rowNumbered_31 : decode cX3_rowNumbered 31 = .ok (.areturn, 1) := by decide +kernel
set_option maxRecDepth 20000 in
theorem ggX3_howMany_X0_props : GoodIn wsX3_howMany wsX0_props := goodIn_r _ [7, 8, 72, 73, 74, 75, 76, 77, 78, 79] (by decide +kernel) (by decide +kernel)
set_option maxRecDepth 20000 in
theorem gX3_howMany_X0_props : GoodIn wsX3_howMany (wsV RX3 213 RX0 yX0_props wsX0_props) := goodIn_app (goodIn_of _ (by decide +kernel)) ggX3_howMany_X0_props
set_option maxRecDepth 20000 in
theorem ggX3_howMany_X0_state : GoodIn wsX3_howMany wsX0_state := goodIn_r _ [12, 8, 13, 14, 15, 6, 16, 17, 18, 19, 20, 21, 72, 73, 74, 75, 76, 77, 78, 79] (by decide +kernel) (by decide +kernel)
set_option maxRecDepth 20000 in
theorem gX3_howMany_X0_state : GoodIn wsX3_howMany (wsV RX3 138 RX0 yX0_state wsX0_state) := goodIn_app (goodIn_of _ (by decide +kernel)) ggX3_howMany_X0_state
set_option maxRecDepth 20000 in
theorem ggX3_howMany_X0_beat : GoodIn wsX3_howMany wsX0_beat := goodIn_r _ [25, 18, 72, 73, 74, 75, 76, 77, 78, 79] (by decide +kernel) (by decide +kernel)
set_option maxRecDepth 20000 in
theorem gX3_howMany_X0_beat : GoodIn wsX3_howMany (wsV RX3 218 RX0 yX0_beat wsX0_beat) := goodIn_app (goodIn_of _ (by decide +kernel)) ggX3_howMany_X0_beat
set_option maxRecDepth 20000 in
theorem ggX3_howMany_X0_slipsEver : GoodIn wsX3_howMany wsX0_slipsEver := goodIn_r _ [29, 30, 72, 73, 74, 75, 76, 77, 78, 79] (by decide +kernel) (by decide +kernel)
set_option maxRecDepth 20000 in
theorem gX3_howMany_X0_slipsEver : GoodIn wsX3_howMany (wsV RX3 148 RX0 yX0_slipsEver wsX0_slipsEver) := goodIn_app (goodIn_of _ (by decide +kernel)) ggX3_howMany_X0_slipsEver
set_option maxRecDepth 20000 in
theorem ggX3_howMany_X0_droppedProps : GoodIn wsX3_howMany wsX0_droppedProps := goodIn_r _ [34, 8, 35, 36, 37, 6, 38, 17, 19, 20, 21, 72, 73, 74, 75, 76, 77, 78, 79] (by decide +kernel) (by decide +kernel)
set_option maxRecDepth 20000 in
theorem gX3_howMany_X0_droppedProps : GoodIn wsX3_howMany (wsV RX3 221 RX0 yX0_droppedProps wsX0_droppedProps) := goodIn_app (goodIn_of _ (by decide +kernel)) ggX3_howMany_X0_droppedProps
set_option maxRecDepth 20000 in
theorem ggX3_howMany_X0_flightsOfAll : GoodIn wsX3_howMany wsX0_flightsOfAll := goodIn_r _ [42, 8, 43, 19, 20, 21, 72, 73, 74, 75, 76, 77, 78, 79] (by decide +kernel) (by decide +kernel)
set_option maxRecDepth 20000 in
theorem gX3_howMany_X0_flightsOfAll : GoodIn wsX3_howMany (wsV RX3 224 RX0 yX0_flightsOfAll wsX0_flightsOfAll) := goodIn_app (goodIn_of _ (by decide +kernel)) ggX3_howMany_X0_flightsOfAll
set_option maxRecDepth 20000 in
theorem ggX3_howMany_X3_soundRows : GoodIn wsX3_howMany wsX3_soundRows := goodIn_r _ [47, 1, 48, 49, 50, 20, 51, 52, 53, 54, 55, 56, 57, 58, 68, 69, 70, 71, 80, 81, 82, 83, 84, 85, 86] (by decide +kernel) (by decide +kernel)
set_option maxRecDepth 20000 in
theorem gX3_howMany_X3_soundRows : GoodIn wsX3_howMany (wsV RX3 227 RX3 yX3_soundRows wsX3_soundRows) := goodIn_app (goodIn_of _ (by decide +kernel)) ggX3_howMany_X3_soundRows
set_option maxRecDepth 20000 in
theorem ggX3_howMany_X0_propLandingIn : GoodIn wsX3_howMany wsX0_propLandingIn := goodIn_r _ [62, 8, 13, 14, 15, 6, 16, 17, 18, 19, 20, 21, 72, 73, 74, 75, 76, 77, 78, 79] (by decide +kernel) (by decide +kernel)
set_option maxRecDepth 20000 in
theorem gX3_howMany_X0_propLandingIn : GoodIn wsX3_howMany (wsV RX3 230 RX0 yX0_propLandingIn wsX0_propLandingIn) := goodIn_app (goodIn_of _ (by decide +kernel)) ggX3_howMany_X0_propLandingIn
set_option maxRecDepth 20000 in
theorem ggX3_howMany_X0_beatsEver : GoodIn wsX3_howMany wsX0_beatsEver := goodIn_r _ [66, 67, 72, 73, 74, 75, 76, 77, 78, 79] (by decide +kernel) (by decide +kernel)
set_option maxRecDepth 20000 in
theorem gX3_howMany_X0_beatsEver : GoodIn wsX3_howMany (wsV RX3 233 RX0 yX0_beatsEver wsX0_beatsEver) := goodIn_app (goodIn_of _ (by decide +kernel)) ggX3_howMany_X0_beatsEver
theorem dX3_howMany_0 : decode cX3_howMany 0 = .ok (.iload_n 1, 1) := by decide +kernel
theorem dX3_howMany_1 : decode cX3_howMany 1 = .ok (.tableswitch 118 0 8 #[51, 56, 64, 72, 80, 88, 96, 104, 109], 51) := by decide +kernel
theorem dX3_howMany_52 : decode cX3_howMany 52 = .ok (.aload_n 0, 1) := by decide +kernel
theorem dX3_howMany_53 : decode cX3_howMany 53 = .ok (.getfield 29, 3) := by decide +kernel
theorem dX3_howMany_56 : decode cX3_howMany 56 = .ok (.ireturn, 1) := by decide +kernel
theorem dX3_howMany_57 : decode cX3_howMany 57 = .ok (.aload_n 0, 1) := by decide +kernel
theorem dX3_howMany_58 : decode cX3_howMany 58 = .ok (.getfield 18, 3) := by decide +kernel
theorem dX3_howMany_61 : decode cX3_howMany 61 = .ok (.invokevirtual 213, 3) := by decide +kernel
theorem dX3_howMany_64 : decode cX3_howMany 64 = .ok (.ireturn, 1) := by decide +kernel
theorem dX3_howMany_65 : decode cX3_howMany 65 = .ok (.aload_n 0, 1) := by decide +kernel
theorem dX3_howMany_66 : decode cX3_howMany 66 = .ok (.getfield 18, 3) := by decide +kernel
theorem dX3_howMany_69 : decode cX3_howMany 69 = .ok (.invokevirtual 138, 3) := by decide +kernel
theorem dX3_howMany_72 : decode cX3_howMany 72 = .ok (.ireturn, 1) := by decide +kernel
theorem dX3_howMany_73 : decode cX3_howMany 73 = .ok (.aload_n 0, 1) := by decide +kernel
theorem dX3_howMany_74 : decode cX3_howMany 74 = .ok (.getfield 18, 3) := by decide +kernel
theorem dX3_howMany_77 : decode cX3_howMany 77 = .ok (.invokevirtual 218, 3) := by decide +kernel
theorem dX3_howMany_80 : decode cX3_howMany 80 = .ok (.ireturn, 1) := by decide +kernel
theorem dX3_howMany_81 : decode cX3_howMany 81 = .ok (.aload_n 0, 1) := by decide +kernel
theorem dX3_howMany_82 : decode cX3_howMany 82 = .ok (.getfield 18, 3) := by decide +kernel
theorem dX3_howMany_85 : decode cX3_howMany 85 = .ok (.invokevirtual 148, 3) := by decide +kernel
theorem dX3_howMany_88 : decode cX3_howMany 88 = .ok (.ireturn, 1) := by decide +kernel
theorem dX3_howMany_89 : decode cX3_howMany 89 = .ok (.aload_n 0, 1) := by decide +kernel
theorem dX3_howMany_90 : decode cX3_howMany 90 = .ok (.getfield 18, 3) := by decide +kernel
theorem dX3_howMany_93 : decode cX3_howMany 93 = .ok (.invokevirtual 221, 3) := by decide +kernel
theorem dX3_howMany_96 : decode cX3_howMany 96 = .ok (.ireturn, 1) := by decide +kernel
theorem dX3_howMany_97 : decode cX3_howMany 97 = .ok (.aload_n 0, 1) := by decide +kernel
theorem dX3_howMany_98 : decode cX3_howMany 98 = .ok (.getfield 18, 3) := by decide +kernel
theorem dX3_howMany_101 : decode cX3_howMany 101 = .ok (.invokevirtual 224, 3) := by decide +kernel
theorem dX3_howMany_104 : decode cX3_howMany 104 = .ok (.ireturn, 1) := by decide +kernel
theorem dX3_howMany_105 : decode cX3_howMany 105 = .ok (.aload_n 0, 1) := by decide +kernel
theorem dX3_howMany_106 : decode cX3_howMany 106 = .ok (.invokevirtual 227, 3) := by decide +kernel
theorem dX3_howMany_109 : decode cX3_howMany 109 = .ok (.ireturn, 1) := by decide +kernel
theorem dX3_howMany_110 : decode cX3_howMany 110 = .ok (.aload_n 0, 1) := by decide +kernel
theorem dX3_howMany_111 : decode cX3_howMany 111 = .ok (.getfield 18, 3) := by decide +kernel
theorem dX3_howMany_114 : decode cX3_howMany 114 = .ok (.iconst 0, 1) := by decide +kernel
theorem dX3_howMany_115 : decode cX3_howMany 115 = .ok (.invokevirtual 230, 3) := by decide +kernel
theorem dX3_howMany_118 : decode cX3_howMany 118 = .ok (.ireturn, 1) := by decide +kernel
theorem dX3_howMany_119 : decode cX3_howMany 119 = .ok (.aload_n 0, 1) := by decide +kernel
theorem dX3_howMany_120 : decode cX3_howMany 120 = .ok (.getfield 18, 3) := by decide +kernel
theorem dX3_howMany_123 : decode cX3_howMany 123 = .ok (.invokevirtual 233, 3) := by decide +kernel
theorem dX3_howMany_126 : decode cX3_howMany 126 = .ok (.ireturn, 1) := by decide +kernel
set_option maxRecDepth 20000 in
theorem ggX3_soundRows_X3_rowNumbered : GoodIn wsX3_soundRows wsX3_rowNumbered := goodIn_r _ [6, 1, 7, 14, 15, 16, 17] (by decide +kernel) (by decide +kernel)
set_option maxRecDepth 20000 in
theorem gX3_soundRows_X3_rowNumbered : GoodIn wsX3_soundRows (wsV RX3 56 RX3 yX3_rowNumbered wsX3_rowNumbered) := goodIn_app (goodIn_of _ (by decide +kernel)) ggX3_soundRows_X3_rowNumbered
set_option maxRecDepth 20000 in
theorem ggX3_soundRows_X1_isSound : GoodIn wsX3_soundRows wsX1_isSound := goodIn_r _ [12, 13, 18, 19, 20, 21, 22, 23, 24] (by decide +kernel) (by decide +kernel)
set_option maxRecDepth 20000 in
theorem gX3_soundRows_X1_isSound : GoodIn wsX3_soundRows (wsV RX3 115 RX1 yX1_isSound wsX1_isSound) := goodIn_app (goodIn_of _ (by decide +kernel)) ggX3_soundRows_X1_isSound
theorem dX3_soundRows_0 : decode cX3_soundRows 0 = .ok (.iconst 0, 1) := by decide +kernel
theorem dX3_soundRows_1 : decode cX3_soundRows 1 = .ok (.istore_n 1, 1) := by decide +kernel
theorem dX3_soundRows_2 : decode cX3_soundRows 2 = .ok (.iconst 0, 1) := by decide +kernel
theorem dX3_soundRows_3 : decode cX3_soundRows 3 = .ok (.istore_n 2, 1) := by decide +kernel
theorem dX3_soundRows_4 : decode cX3_soundRows 4 = .ok (.iload_n 2, 1) := by decide +kernel
theorem dX3_soundRows_5 : decode cX3_soundRows 5 = .ok (.aload_n 0, 1) := by decide +kernel
theorem dX3_soundRows_6 : decode cX3_soundRows 6 = .ok (.getfield 29, 3) := by decide +kernel
theorem dX3_soundRows_9 : decode cX3_soundRows 9 = .ok (.if_icmp .ge 29, 3) := by decide +kernel
theorem dX3_soundRows_12 : decode cX3_soundRows 12 = .ok (.aload_n 0, 1) := by decide +kernel
theorem dX3_soundRows_13 : decode cX3_soundRows 13 = .ok (.iload_n 2, 1) := by decide +kernel
theorem dX3_soundRows_14 : decode cX3_soundRows 14 = .ok (.invokevirtual 56, 3) := by decide +kernel
theorem dX3_soundRows_17 : decode cX3_soundRows 17 = .ok (.astore_n 3, 1) := by decide +kernel
theorem dX3_soundRows_18 : decode cX3_soundRows 18 = .ok (.aload_n 3, 1) := by decide +kernel
theorem dX3_soundRows_19 : decode cX3_soundRows 19 = .ok (.ifnull 13, 3) := by decide +kernel
theorem dX3_soundRows_22 : decode cX3_soundRows 22 = .ok (.aload_n 3, 1) := by decide +kernel
theorem dX3_soundRows_23 : decode cX3_soundRows 23 = .ok (.invokevirtual 115, 3) := by decide +kernel
theorem dX3_soundRows_26 : decode cX3_soundRows 26 = .ok (.ifCond .eq 6, 3) := by decide +kernel
theorem dX3_soundRows_29 : decode cX3_soundRows 29 = .ok (.iinc 1 1, 3) := by decide +kernel
theorem dX3_soundRows_32 : decode cX3_soundRows 32 = .ok (.iinc 2 1, 3) := by decide +kernel
theorem dX3_soundRows_35 : decode cX3_soundRows 35 = .ok (.goto (-31), 3) := by decide +kernel
theorem dX3_soundRows_38 : decode cX3_soundRows 38 = .ok (.iload_n 1, 1) := by decide +kernel
theorem dX3_soundRows_39 : decode cX3_soundRows 39 = .ok (.ireturn, 1) := by decide +kernel
set_option maxRecDepth 20000 in
theorem ggX3_addRow_X1_answer : GoodIn wsX3_addRow wsX1_answer := goodIn_r _ [6, 7, 8, 9, 10, 11, 5, 12, 13, 14, 15, 16, 17, 18, 19, 20, 21, 22, 23, 24, 25, 26, 27, 28, 29, 30, 31, 32, 33, 34, 35, 36, 37, 38, 39, 40, 41, 42, 43, 44, 45, 46, 47, 48, 49, 50, 51, 52, 53, 54, 55, 56, 57, 58, 59, 60, 61, 62, 63, 64, 65, 66, 67, 68, 69, 70, 71, 72, 73, 74, 75, 76, 77, 78, 79, 148, 149, 150, 151, 152, 153, 154] (by decide +kernel) (by decide +kernel)
set_option maxRecDepth 20000 in
theorem gX3_addRow_X1_answer : GoodIn wsX3_addRow (wsV RX3 156 RX1 yX1_answer wsX1_answer) := goodIn_app (goodIn_of _ (by decide +kernel)) ggX3_addRow_X1_answer
set_option maxRecDepth 20000 in
theorem ggX3_addRow_X1_length : GoodIn wsX3_addRow wsX1_length := goodIn_r _ [83, 7, 148, 149, 150, 151, 152, 153, 154] (by decide +kernel) (by decide +kernel)
set_option maxRecDepth 20000 in
theorem gX3_addRow_X1_length : GoodIn wsX3_addRow (wsV RX3 124 RX1 yX1_length wsX1_length) := goodIn_app (goodIn_of _ (by decide +kernel)) ggX3_addRow_X1_length
set_option maxRecDepth 20000 in
theorem ggX3_addRow_X1_answerAt : GoodIn wsX3_addRow wsX1_answerAt := goodIn_r _ [87, 17, 41, 8, 79, 7, 18, 19, 20, 46, 47, 48, 5, 49, 50, 148, 149, 150, 151, 152, 153, 154] (by decide +kernel) (by decide +kernel)
set_option maxRecDepth 20000 in
theorem gX3_addRow_X1_answerAt : GoodIn wsX3_addRow (wsV RX3 159 RX1 yX1_answerAt wsX1_answerAt) := goodIn_app (goodIn_of _ (by decide +kernel)) ggX3_addRow_X1_answerAt
set_option maxRecDepth 20000 in
theorem ggX3_addRow_X3_stepsInto : GoodIn wsX3_addRow wsX3_stepsInto := goodIn_r _ [91, 92, 93, 94, 95, 96, 97, 98, 99, 100, 101, 102, 103, 104, 105, 18, 19, 20, 106, 10, 11, 5, 12, 8, 7, 13, 14, 15, 16, 17, 107, 108, 109, 110, 111, 112, 113, 114, 115, 116, 117, 118, 119, 120, 121, 122, 123, 124, 125, 126, 127, 128, 129, 130, 131, 132, 133, 134, 80, 81, 82, 83, 135, 47, 48, 49, 50, 136, 137, 138, 139, 155, 156, 157, 158, 159, 160, 161, 162, 163, 164, 165, 166, 148, 149, 150, 151, 152, 153, 154, 167, 168, 169, 170] (by decide +kernel) (by decide +kernel)
set_option maxRecDepth 20000 in
theorem gX3_addRow_X3_stepsInto : GoodIn wsX3_addRow (wsV RX3 188 RX3 yX3_stepsInto wsX3_stepsInto) := goodIn_app (goodIn_of _ (by decide +kernel)) ggX3_addRow_X3_stepsInto
set_option maxRecDepth 20000 in
theorem ggX3_addRow_X3_firstThrowInto : GoodIn wsX3_addRow wsX3_firstThrowInto := goodIn_r _ [143, 93, 88, 89, 90, 19, 91, 92, 94, 95, 96, 97, 98, 99, 100, 101, 102, 103, 104, 105, 18, 20, 106, 10, 11, 5, 12, 8, 7, 13, 14, 15, 16, 17, 107, 108, 109, 110, 111, 112, 113, 114, 115, 116, 117, 118, 119, 120, 121, 122, 123, 124, 125, 126, 127, 128, 129, 130, 131, 132, 133, 134, 80, 81, 82, 83, 135, 47, 48, 49, 50, 136, 137, 138, 139, 144, 145, 146, 147, 155, 156, 157, 158, 159, 160, 161, 162, 163, 164, 165, 166, 148, 149, 150, 151, 152, 153, 154, 167, 168, 169, 170] (by decide +kernel) (by decide +kernel)
set_option maxRecDepth 20000 in
theorem gX3_addRow_X3_firstThrowInto : GoodIn wsX3_addRow (wsV RX3 192 RX3 yX3_firstThrowInto wsX3_firstThrowInto) := goodIn_app (goodIn_of _ (by decide +kernel)) ggX3_addRow_X3_firstThrowInto
theorem dX3_addRow_0 : decode cX3_addRow 0 = .ok (.aload_n 3, 1) := by decide +kernel
theorem dX3_addRow_1 : decode cX3_addRow 1 = .ok (.ifnonnull 5, 3) := by decide +kernel
theorem dX3_addRow_4 : decode cX3_addRow 4 = .ok (.lload_n 1, 1) := by decide +kernel
theorem dX3_addRow_5 : decode cX3_addRow 5 = .ok (.lreturn, 1) := by decide +kernel
theorem dX3_addRow_6 : decode cX3_addRow 6 = .ok (.lload_n 1, 1) := by decide +kernel
theorem dX3_addRow_7 : decode cX3_addRow 7 = .ok (.lstore 4, 2) := by decide +kernel
theorem dX3_addRow_9 : decode cX3_addRow 9 = .ok (.iconst 0, 1) := by decide +kernel
theorem dX3_addRow_10 : decode cX3_addRow 10 = .ok (.istore 6, 2) := by decide +kernel
theorem dX3_addRow_12 : decode cX3_addRow 12 = .ok (.iload 6, 2) := by decide +kernel
theorem dX3_addRow_14 : decode cX3_addRow 14 = .ok (.bipush 9, 2) := by decide +kernel
theorem dX3_addRow_16 : decode cX3_addRow 16 = .ok (.if_icmp .gt 25, 3) := by decide +kernel
theorem dX3_addRow_19 : decode cX3_addRow 19 = .ok (.lload 4, 2) := by decide +kernel
theorem dX3_addRow_21 : decode cX3_addRow 21 = .ok (.ldc2_w 207, 3) := by decide +kernel
theorem dX3_addRow_24 : decode cX3_addRow 24 = .ok (.lmul, 1) := by decide +kernel
theorem dX3_addRow_25 : decode cX3_addRow 25 = .ok (.aload_n 3, 1) := by decide +kernel
theorem dX3_addRow_26 : decode cX3_addRow 26 = .ok (.iload 6, 2) := by decide +kernel
theorem dX3_addRow_28 : decode cX3_addRow 28 = .ok (.invokevirtual 156, 3) := by decide +kernel
theorem dX3_addRow_31 : decode cX3_addRow 31 = .ok (.i2l, 1) := by decide +kernel
theorem dX3_addRow_32 : decode cX3_addRow 32 = .ok (.ladd, 1) := by decide +kernel
theorem dX3_addRow_33 : decode cX3_addRow 33 = .ok (.lstore 4, 2) := by decide +kernel
theorem dX3_addRow_35 : decode cX3_addRow 35 = .ok (.iinc 6 1, 3) := by decide +kernel
theorem dX3_addRow_38 : decode cX3_addRow 38 = .ok (.goto (-26), 3) := by decide +kernel
theorem dX3_addRow_41 : decode cX3_addRow 41 = .ok (.iconst 0, 1) := by decide +kernel
theorem dX3_addRow_42 : decode cX3_addRow 42 = .ok (.istore 6, 2) := by decide +kernel
theorem dX3_addRow_44 : decode cX3_addRow 44 = .ok (.iload 6, 2) := by decide +kernel
theorem dX3_addRow_46 : decode cX3_addRow 46 = .ok (.aload_n 3, 1) := by decide +kernel
theorem dX3_addRow_47 : decode cX3_addRow 47 = .ok (.invokevirtual 124, 3) := by decide +kernel
theorem dX3_addRow_50 : decode cX3_addRow 50 = .ok (.if_icmp .ge 42, 3) := by decide +kernel
theorem dX3_addRow_53 : decode cX3_addRow 53 = .ok (.iconst 0, 1) := by decide +kernel
theorem dX3_addRow_54 : decode cX3_addRow 54 = .ok (.istore 7, 2) := by decide +kernel
theorem dX3_addRow_56 : decode cX3_addRow 56 = .ok (.iload 7, 2) := by decide +kernel
theorem dX3_addRow_58 : decode cX3_addRow 58 = .ok (.iconst 4, 1) := by decide +kernel
theorem dX3_addRow_59 : decode cX3_addRow 59 = .ok (.if_icmp .gt 27, 3) := by decide +kernel
theorem dX3_addRow_62 : decode cX3_addRow 62 = .ok (.lload 4, 2) := by decide +kernel
theorem dX3_addRow_64 : decode cX3_addRow 64 = .ok (.ldc2_w 207, 3) := by decide +kernel
theorem dX3_addRow_67 : decode cX3_addRow 67 = .ok (.lmul, 1) := by decide +kernel
theorem dX3_addRow_68 : decode cX3_addRow 68 = .ok (.aload_n 3, 1) := by decide +kernel
theorem dX3_addRow_69 : decode cX3_addRow 69 = .ok (.iload 6, 2) := by decide +kernel
theorem dX3_addRow_71 : decode cX3_addRow 71 = .ok (.iload 7, 2) := by decide +kernel
theorem dX3_addRow_73 : decode cX3_addRow 73 = .ok (.invokevirtual 159, 3) := by decide +kernel
theorem dX3_addRow_76 : decode cX3_addRow 76 = .ok (.i2l, 1) := by decide +kernel
theorem dX3_addRow_77 : decode cX3_addRow 77 = .ok (.ladd, 1) := by decide +kernel
theorem dX3_addRow_78 : decode cX3_addRow 78 = .ok (.lstore 4, 2) := by decide +kernel
theorem dX3_addRow_80 : decode cX3_addRow 80 = .ok (.iinc 7 1, 3) := by decide +kernel
theorem dX3_addRow_83 : decode cX3_addRow 83 = .ok (.goto (-27), 3) := by decide +kernel
theorem dX3_addRow_86 : decode cX3_addRow 86 = .ok (.iinc 6 1, 3) := by decide +kernel
theorem dX3_addRow_89 : decode cX3_addRow 89 = .ok (.goto (-45), 3) := by decide +kernel
theorem dX3_addRow_92 : decode cX3_addRow 92 = .ok (.lload 4, 2) := by decide +kernel
theorem dX3_addRow_94 : decode cX3_addRow 94 = .ok (.ldc2_w 207, 3) := by decide +kernel
theorem dX3_addRow_97 : decode cX3_addRow 97 = .ok (.lmul, 1) := by decide +kernel
theorem dX3_addRow_98 : decode cX3_addRow 98 = .ok (.aload_n 0, 1) := by decide +kernel
theorem dX3_addRow_99 : decode cX3_addRow 99 = .ok (.aload_n 3, 1) := by decide +kernel
theorem dX3_addRow_100 : decode cX3_addRow 100 = .ok (.invokevirtual 188, 3) := by decide +kernel
theorem dX3_addRow_103 : decode cX3_addRow 103 = .ok (.i2l, 1) := by decide +kernel
theorem dX3_addRow_104 : decode cX3_addRow 104 = .ok (.ladd, 1) := by decide +kernel
theorem dX3_addRow_105 : decode cX3_addRow 105 = .ok (.lstore 4, 2) := by decide +kernel
theorem dX3_addRow_107 : decode cX3_addRow 107 = .ok (.lload 4, 2) := by decide +kernel
theorem dX3_addRow_109 : decode cX3_addRow 109 = .ok (.ldc2_w 207, 3) := by decide +kernel
theorem dX3_addRow_112 : decode cX3_addRow 112 = .ok (.lmul, 1) := by decide +kernel
theorem dX3_addRow_113 : decode cX3_addRow 113 = .ok (.aload_n 0, 1) := by decide +kernel
theorem dX3_addRow_114 : decode cX3_addRow 114 = .ok (.aload_n 3, 1) := by decide +kernel
theorem dX3_addRow_115 : decode cX3_addRow 115 = .ok (.invokevirtual 192, 3) := by decide +kernel
theorem dX3_addRow_118 : decode cX3_addRow 118 = .ok (.i2l, 1) := by decide +kernel
theorem dX3_addRow_119 : decode cX3_addRow 119 = .ok (.ladd, 1) := by decide +kernel
theorem dX3_addRow_120 : decode cX3_addRow 120 = .ok (.lreturn, 1) := by decide +kernel
set_option maxRecDepth 20000 in
theorem ggX3_metresOf_X3_nearestWhole : GoodIn wsX3_metresOf wsX3_nearestWhole := goodIn_r _ [7, 8, 9] (by decide +kernel) (by decide +kernel)
set_option maxRecDepth 20000 in
theorem gX3_metresOf_X3_nearestWhole : GoodIn wsX3_metresOf (va_wsS RX3 242 yX3_nearestWhole wsX3_nearestWhole) := goodIn_app (goodIn_of _ (by decide +kernel)) ggX3_metresOf_X3_nearestWhole
theorem dX3_metresOf_0 : decode cX3_metresOf 0 = .ok (.iload_n 0, 1) := by decide +kernel
theorem dX3_metresOf_1 : decode cX3_metresOf 1 = .ok (.iconst 2, 1) := by decide +kernel
theorem dX3_metresOf_2 : decode cX3_metresOf 2 = .ok (.if_icmp .ge 5, 3) := by decide +kernel
theorem dX3_metresOf_5 : decode cX3_metresOf 5 = .ok (.dconst 0, 1) := by decide +kernel
theorem dX3_metresOf_6 : decode cX3_metresOf 6 = .ok (.dreturn, 1) := by decide +kernel
theorem dX3_metresOf_7 : decode cX3_metresOf 7 = .ok (.ldc2_w 236, 3) := by decide +kernel
theorem dX3_metresOf_10 : decode cX3_metresOf 10 = .ok (.ldc2_w 238, 3) := by decide +kernel
theorem dX3_metresOf_13 : decode cX3_metresOf 13 = .ok (.iload_n 0, 1) := by decide +kernel
theorem dX3_metresOf_14 : decode cX3_metresOf 14 = .ok (.i2d, 1) := by decide +kernel
theorem dX3_metresOf_15 : decode cX3_metresOf 15 = .ok (.dmul, 1) := by decide +kernel
theorem dX3_metresOf_16 : decode cX3_metresOf 16 = .ok (.ldc2_w 238, 3) := by decide +kernel
theorem dX3_metresOf_19 : decode cX3_metresOf 19 = .ok (.dsub, 1) := by decide +kernel
theorem dX3_metresOf_20 : decode cX3_metresOf 20 = .ok (.dmul, 1) := by decide +kernel
theorem dX3_metresOf_21 : decode cX3_metresOf 21 = .ok (.ldc2_w 238, 3) := by decide +kernel
theorem dX3_metresOf_24 : decode cX3_metresOf 24 = .ok (.iload_n 0, 1) := by decide +kernel
theorem dX3_metresOf_25 : decode cX3_metresOf 25 = .ok (.i2d, 1) := by decide +kernel
theorem dX3_metresOf_26 : decode cX3_metresOf 26 = .ok (.dmul, 1) := by decide +kernel
theorem dX3_metresOf_27 : decode cX3_metresOf 27 = .ok (.ldc2_w 238, 3) := by decide +kernel
theorem dX3_metresOf_30 : decode cX3_metresOf 30 = .ok (.dsub, 1) := by decide +kernel
theorem dX3_metresOf_31 : decode cX3_metresOf 31 = .ok (.dmul, 1) := by decide +kernel
theorem dX3_metresOf_32 : decode cX3_metresOf 32 = .ok (.dstore_n 1, 1) := by decide +kernel
theorem dX3_metresOf_33 : decode cX3_metresOf 33 = .ok (.ldc2_w 240, 3) := by decide +kernel
theorem dX3_metresOf_36 : decode cX3_metresOf 36 = .ok (.dload_n 1, 1) := by decide +kernel
theorem dX3_metresOf_37 : decode cX3_metresOf 37 = .ok (.dmul, 1) := by decide +kernel
theorem dX3_metresOf_38 : decode cX3_metresOf 38 = .ok (.invokestatic 242, 3) := by decide +kernel
theorem dX3_metresOf_41 : decode cX3_metresOf 41 = .ok (.ldc2_w 240, 3) := by decide +kernel
theorem dX3_metresOf_44 : decode cX3_metresOf 44 = .ok (.ddiv, 1) := by decide +kernel
theorem dX3_metresOf_45 : decode cX3_metresOf 45 = .ok (.dreturn, 1) := by decide +kernel
theorem dX3_nearestWhole_0 : decode cX3_nearestWhole 0 = .ok (.dload_n 0, 1) := by decide +kernel
theorem dX3_nearestWhole_1 : decode cX3_nearestWhole 1 = .ok (.d2l, 1) := by decide +kernel
theorem dX3_nearestWhole_2 : decode cX3_nearestWhole 2 = .ok (.lstore_n 2, 1) := by decide +kernel
theorem dX3_nearestWhole_3 : decode cX3_nearestWhole 3 = .ok (.dload_n 0, 1) := by decide +kernel
theorem dX3_nearestWhole_4 : decode cX3_nearestWhole 4 = .ok (.lload_n 2, 1) := by decide +kernel
theorem dX3_nearestWhole_5 : decode cX3_nearestWhole 5 = .ok (.l2d, 1) := by decide +kernel
theorem dX3_nearestWhole_6 : decode cX3_nearestWhole 6 = .ok (.dsub, 1) := by decide +kernel
theorem dX3_nearestWhole_7 : decode cX3_nearestWhole 7 = .ok (.dstore 4, 2) := by decide +kernel
theorem dX3_nearestWhole_9 : decode cX3_nearestWhole 9 = .ok (.dload 4, 2) := by decide +kernel
theorem dX3_nearestWhole_11 : decode cX3_nearestWhole 11 = .ok (.ldc2_w 246, 3) := by decide +kernel
theorem dX3_nearestWhole_14 : decode cX3_nearestWhole 14 = .ok (.dcmp .l, 1) := by decide +kernel
theorem dX3_nearestWhole_15 : decode cX3_nearestWhole 15 = .ok (.ifCond .gt 22, 3) := by decide +kernel
theorem dX3_nearestWhole_18 : decode cX3_nearestWhole 18 = .ok (.dload 4, 2) := by decide +kernel
theorem dX3_nearestWhole_20 : decode cX3_nearestWhole 20 = .ok (.ldc2_w 246, 3) := by decide +kernel
theorem dX3_nearestWhole_23 : decode cX3_nearestWhole 23 = .ok (.dcmp .l, 1) := by decide +kernel
theorem dX3_nearestWhole_24 : decode cX3_nearestWhole 24 = .ok (.ifCond .ne 17, 3) := by decide +kernel
theorem dX3_nearestWhole_27 : decode cX3_nearestWhole 27 = .ok (.lload_n 2, 1) := by decide +kernel
theorem dX3_nearestWhole_28 : decode cX3_nearestWhole 28 = .ok (.ldc2_w 248, 3) := by decide +kernel
theorem dX3_nearestWhole_31 : decode cX3_nearestWhole 31 = .ok (.lrem, 1) := by decide +kernel
theorem dX3_nearestWhole_32 : decode cX3_nearestWhole 32 = .ok (.lconst 0, 1) := by decide +kernel
theorem dX3_nearestWhole_33 : decode cX3_nearestWhole 33 = .ok (.lcmp, 1) := by decide +kernel
theorem dX3_nearestWhole_34 : decode cX3_nearestWhole 34 = .ok (.ifCond .eq 7, 3) := by decide +kernel
theorem dX3_nearestWhole_37 : decode cX3_nearestWhole 37 = .ok (.iconst 1, 1) := by decide +kernel
theorem dX3_nearestWhole_38 : decode cX3_nearestWhole 38 = .ok (.goto 4, 3) := by decide +kernel
theorem dX3_nearestWhole_41 : decode cX3_nearestWhole 41 = .ok (.iconst 0, 1) := by decide +kernel
theorem dX3_nearestWhole_42 : decode cX3_nearestWhole 42 = .ok (.istore 6, 2) := by decide +kernel
theorem dX3_nearestWhole_44 : decode cX3_nearestWhole 44 = .ok (.iload 6, 2) := by decide +kernel
theorem dX3_nearestWhole_46 : decode cX3_nearestWhole 46 = .ok (.ifCond .eq 9, 3) := by decide +kernel
theorem dX3_nearestWhole_49 : decode cX3_nearestWhole 49 = .ok (.lload_n 2, 1) := by decide +kernel
theorem dX3_nearestWhole_50 : decode cX3_nearestWhole 50 = .ok (.lconst 1, 1) := by decide +kernel
theorem dX3_nearestWhole_51 : decode cX3_nearestWhole 51 = .ok (.ladd, 1) := by decide +kernel
theorem dX3_nearestWhole_52 : decode cX3_nearestWhole 52 = .ok (.goto 4, 3) := by decide +kernel
theorem dX3_nearestWhole_55 : decode cX3_nearestWhole 55 = .ok (.lload_n 2, 1) := by decide +kernel
theorem dX3_nearestWhole_56 : decode cX3_nearestWhole 56 = .ok (.l2d, 1) := by decide +kernel
theorem dX3_nearestWhole_57 : decode cX3_nearestWhole 57 = .ok (.dreturn, 1) := by decide +kernel
theorem dX3_stateBehind_0 : decode cX3_stateBehind 0 = .ok (.iload_n 0, 1) := by decide +kernel
theorem dX3_stateBehind_1 : decode cX3_stateBehind 1 = .ok (.iconst 1, 1) := by decide +kernel
theorem dX3_stateBehind_2 : decode cX3_stateBehind 2 = .ok (.iand, 1) := by decide +kernel
theorem dX3_stateBehind_3 : decode cX3_stateBehind 3 = .ok (.ifCond .eq 7, 3) := by decide +kernel
theorem dX3_stateBehind_6 : decode cX3_stateBehind 6 = .ok (.iconst 1, 1) := by decide +kernel
theorem dX3_stateBehind_7 : decode cX3_stateBehind 7 = .ok (.goto 4, 3) := by decide +kernel
theorem dX3_stateBehind_10 : decode cX3_stateBehind 10 = .ok (.iconst 0, 1) := by decide +kernel
theorem dX3_stateBehind_11 : decode cX3_stateBehind 11 = .ok (.istore_n 2, 1) := by decide +kernel
theorem dX3_stateBehind_12 : decode cX3_stateBehind 12 = .ok (.iload_n 1, 1) := by decide +kernel
theorem dX3_stateBehind_13 : decode cX3_stateBehind 13 = .ok (.ifCond .ne 15, 3) := by decide +kernel
theorem dX3_stateBehind_16 : decode cX3_stateBehind 16 = .ok (.iload_n 2, 1) := by decide +kernel
theorem dX3_stateBehind_17 : decode cX3_stateBehind 17 = .ok (.ifCond .eq 7, 3) := by decide +kernel
theorem dX3_stateBehind_20 : decode cX3_stateBehind 20 = .ok (.iconst (-1), 1) := by decide +kernel
theorem dX3_stateBehind_21 : decode cX3_stateBehind 21 = .ok (.goto 6, 3) := by decide +kernel
theorem dX3_stateBehind_24 : decode cX3_stateBehind 24 = .ok (.iload_n 0, 1) := by decide +kernel
theorem dX3_stateBehind_25 : decode cX3_stateBehind 25 = .ok (.iconst 1, 1) := by decide +kernel
theorem dX3_stateBehind_26 : decode cX3_stateBehind 26 = .ok (.ishr, 1) := by decide +kernel
theorem dX3_stateBehind_27 : decode cX3_stateBehind 27 = .ok (.ireturn, 1) := by decide +kernel
theorem dX3_stateBehind_28 : decode cX3_stateBehind 28 = .ok (.iload_n 0, 1) := by decide +kernel
theorem dX3_stateBehind_29 : decode cX3_stateBehind 29 = .ok (.iload_n 1, 1) := by decide +kernel
theorem dX3_stateBehind_30 : decode cX3_stateBehind 30 = .ok (.ishr, 1) := by decide +kernel
theorem dX3_stateBehind_31 : decode cX3_stateBehind 31 = .ok (.iconst 1, 1) := by decide +kernel
theorem dX3_stateBehind_32 : decode cX3_stateBehind 32 = .ok (.iand, 1) := by decide +kernel
theorem dX3_stateBehind_33 : decode cX3_stateBehind 33 = .ok (.ifCond .eq 7, 3) := by decide +kernel
theorem dX3_stateBehind_36 : decode cX3_stateBehind 36 = .ok (.iconst 1, 1) := by decide +kernel
theorem dX3_stateBehind_37 : decode cX3_stateBehind 37 = .ok (.goto 4, 3) := by decide +kernel
theorem dX3_stateBehind_40 : decode cX3_stateBehind 40 = .ok (.iconst 0, 1) := by decide +kernel
theorem dX3_stateBehind_41 : decode cX3_stateBehind 41 = .ok (.istore_n 3, 1) := by decide +kernel
theorem dX3_stateBehind_42 : decode cX3_stateBehind 42 = .ok (.iload_n 2, 1) := by decide +kernel
theorem dX3_stateBehind_43 : decode cX3_stateBehind 43 = .ok (.ifCond .eq 7, 3) := by decide +kernel
theorem dX3_stateBehind_46 : decode cX3_stateBehind 46 = .ok (.iload_n 3, 1) := by decide +kernel
theorem dX3_stateBehind_47 : decode cX3_stateBehind 47 = .ok (.ifCond .eq 7, 3) := by decide +kernel
theorem dX3_stateBehind_50 : decode cX3_stateBehind 50 = .ok (.iconst (-1), 1) := by decide +kernel
theorem dX3_stateBehind_51 : decode cX3_stateBehind 51 = .ok (.goto 12, 3) := by decide +kernel
theorem dX3_stateBehind_54 : decode cX3_stateBehind 54 = .ok (.iload_n 0, 1) := by decide +kernel
theorem dX3_stateBehind_55 : decode cX3_stateBehind 55 = .ok (.iconst 1, 1) := by decide +kernel
theorem dX3_stateBehind_56 : decode cX3_stateBehind 56 = .ok (.ishr, 1) := by decide +kernel
theorem dX3_stateBehind_57 : decode cX3_stateBehind 57 = .ok (.iconst 1, 1) := by decide +kernel
theorem dX3_stateBehind_58 : decode cX3_stateBehind 58 = .ok (.iload_n 1, 1) := by decide +kernel
theorem dX3_stateBehind_59 : decode cX3_stateBehind 59 = .ok (.iconst 1, 1) := by decide +kernel
theorem dX3_stateBehind_60 : decode cX3_stateBehind 60 = .ok (.isub, 1) := by decide +kernel
theorem dX3_stateBehind_61 : decode cX3_stateBehind 61 = .ok (.ishl, 1) := by decide +kernel
theorem dX3_stateBehind_62 : decode cX3_stateBehind 62 = .ok (.ior, 1) := by decide +kernel
theorem dX3_stateBehind_63 : decode cX3_stateBehind 63 = .ok (.ireturn, 1) := by decide +kernel
set_option maxRecDepth 20000 in
theorem ggX3_stepsInto_X0_state : GoodIn wsX3_stepsInto wsX0_state := goodIn_r _ [7, 8, 9, 10, 11, 6, 12, 13, 14, 15, 16, 17, 75, 76, 77, 78, 79, 80, 81, 82] (by decide +kernel) (by decide +kernel)
set_option maxRecDepth 20000 in
theorem gX3_stepsInto_X0_state : GoodIn wsX3_stepsInto (wsV RX3 138 RX0 yX0_state wsX0_state) := goodIn_app (goodIn_of _ (by decide +kernel)) ggX3_stepsInto_X0_state
set_option maxRecDepth 20000 in
theorem ggX3_stepsInto_X1_props : GoodIn wsX3_stepsInto wsX1_props := goodIn_r _ [22, 23, 24, 25, 26, 27, 21, 28, 29, 15, 16, 17, 83, 84, 85, 86, 87, 88, 89] (by decide +kernel) (by decide +kernel)
set_option maxRecDepth 20000 in
theorem gX3_stepsInto_X1_props : GoodIn wsX3_stepsInto (wsV RX3 250 RX1 yX1_props wsX1_props) := goodIn_app (goodIn_of _ (by decide +kernel)) ggX3_stepsInto_X1_props
set_option maxRecDepth 20000 in
theorem ggX3_stepsInto_J6_bitCount_0f7a4 : GoodIn wsX3_stepsInto wsJ6_bitCount_0f7a4 := goodIn_r _ [33, 34, 35, 36] (by decide +kernel) (by decide +kernel)
set_option maxRecDepth 20000 in
theorem gX3_stepsInto_J6_bitCount_0f7a4 : GoodIn wsX3_stepsInto (va_wsS RX3 251 yJ6_bitCount_0f7a4 wsJ6_bitCount_0f7a4) := goodIn_app (goodIn_of _ (by decide +kernel)) ggX3_stepsInto_J6_bitCount_0f7a4
set_option maxRecDepth 20000 in
theorem ggX3_stepsInto_X2_lookFrom : GoodIn wsX3_stepsInto wsX2_lookFrom := goodIn_r _ [41, 42, 43, 44, 45, 46, 47, 48, 49, 50, 16, 51, 15, 17, 52, 53, 54, 40, 55, 56, 57, 90, 91, 92, 93] (by decide +kernel) (by decide +kernel)
set_option maxRecDepth 20000 in
theorem gX3_stepsInto_X2_lookFrom : GoodIn wsX3_stepsInto (wsV RX3 256 RX2 yX2_lookFrom wsX2_lookFrom) := goodIn_app (goodIn_of _ (by decide +kernel)) ggX3_stepsInto_X2_lookFrom
set_option maxRecDepth 20000 in
theorem ggX3_stepsInto_X1_length : GoodIn wsX3_stepsInto wsX1_length := goodIn_r _ [61, 24, 83, 84, 85, 86, 87, 88, 89] (by decide +kernel) (by decide +kernel)
set_option maxRecDepth 20000 in
theorem gX3_stepsInto_X1_length : GoodIn wsX3_stepsInto (wsV RX3 124 RX1 yX1_length wsX1_length) := goodIn_app (goodIn_of _ (by decide +kernel)) ggX3_stepsInto_X1_length
set_option maxRecDepth 20000 in
theorem ggX3_stepsInto_X1_stateAt : GoodIn wsX3_stepsInto wsX1_stateAt := goodIn_r _ [65, 66, 15, 16, 17, 83, 84, 85, 86, 87, 88, 89] (by decide +kernel) (by decide +kernel)
set_option maxRecDepth 20000 in
theorem gX3_stepsInto_X1_stateAt : GoodIn wsX3_stepsInto (wsV RX3 259 RX1 yX1_stateAt wsX1_stateAt) := goodIn_app (goodIn_of _ (by decide +kernel)) ggX3_stepsInto_X1_stateAt
set_option maxRecDepth 20000 in
theorem ggX3_stepsInto_X2_stepsTo : GoodIn wsX3_stepsInto wsX2_stepsTo := goodIn_r _ [70, 43, 15, 16, 17, 90, 91, 92, 93] (by decide +kernel) (by decide +kernel)
set_option maxRecDepth 20000 in
theorem gX3_stepsInto_X2_stepsTo : GoodIn wsX3_stepsInto (wsV RX3 262 RX2 yX2_stepsTo wsX2_stepsTo) := goodIn_app (goodIn_of _ (by decide +kernel)) ggX3_stepsInto_X2_stepsTo
theorem dX3_stepsInto_0 : decode cX3_stepsInto 0 = .ok (.aload_n 0, 1) := by decide +kernel
theorem dX3_stepsInto_1 : decode cX3_stepsInto 1 = .ok (.getfield 18, 3) := by decide +kernel
theorem dX3_stepsInto_4 : decode cX3_stepsInto 4 = .ok (.invokevirtual 138, 3) := by decide +kernel
theorem dX3_stepsInto_7 : decode cX3_stepsInto 7 = .ok (.istore_n 2, 1) := by decide +kernel
theorem dX3_stepsInto_8 : decode cX3_stepsInto 8 = .ok (.aload_n 1, 1) := by decide +kernel
theorem dX3_stepsInto_9 : decode cX3_stepsInto 9 = .ok (.invokevirtual 250, 3) := by decide +kernel
theorem dX3_stepsInto_12 : decode cX3_stepsInto 12 = .ok (.iload_n 2, 1) := by decide +kernel
theorem dX3_stepsInto_13 : decode cX3_stepsInto 13 = .ok (.invokestatic 251, 3) := by decide +kernel
theorem dX3_stepsInto_16 : decode cX3_stepsInto 16 = .ok (.if_icmp .eq 5, 3) := by decide +kernel
theorem dX3_stepsInto_19 : decode cX3_stepsInto 19 = .ok (.iconst (-1), 1) := by decide +kernel
theorem dX3_stepsInto_20 : decode cX3_stepsInto 20 = .ok (.ireturn, 1) := by decide +kernel
theorem dX3_stepsInto_21 : decode cX3_stepsInto 21 = .ok (.aload_n 0, 1) := by decide +kernel
theorem dX3_stepsInto_22 : decode cX3_stepsInto 22 = .ok (.getfield 25, 3) := by decide +kernel
theorem dX3_stepsInto_25 : decode cX3_stepsInto 25 = .ok (.iload_n 2, 1) := by decide +kernel
theorem dX3_stepsInto_26 : decode cX3_stepsInto 26 = .ok (.invokevirtual 256, 3) := by decide +kernel
theorem dX3_stepsInto_29 : decode cX3_stepsInto 29 = .ok (.iconst (-1), 1) := by decide +kernel
theorem dX3_stepsInto_30 : decode cX3_stepsInto 30 = .ok (.istore_n 3, 1) := by decide +kernel
theorem dX3_stepsInto_31 : decode cX3_stepsInto 31 = .ok (.iconst 0, 1) := by decide +kernel
theorem dX3_stepsInto_32 : decode cX3_stepsInto 32 = .ok (.istore 4, 2) := by decide +kernel
theorem dX3_stepsInto_34 : decode cX3_stepsInto 34 = .ok (.iload 4, 2) := by decide +kernel
theorem dX3_stepsInto_36 : decode cX3_stepsInto 36 = .ok (.aload_n 1, 1) := by decide +kernel
theorem dX3_stepsInto_37 : decode cX3_stepsInto 37 = .ok (.invokevirtual 124, 3) := by decide +kernel
theorem dX3_stepsInto_40 : decode cX3_stepsInto 40 = .ok (.if_icmp .ge 44, 3) := by decide +kernel
theorem dX3_stepsInto_43 : decode cX3_stepsInto 43 = .ok (.aload_n 0, 1) := by decide +kernel
theorem dX3_stepsInto_44 : decode cX3_stepsInto 44 = .ok (.getfield 25, 3) := by decide +kernel
theorem dX3_stepsInto_47 : decode cX3_stepsInto 47 = .ok (.aload_n 1, 1) := by decide +kernel
theorem dX3_stepsInto_48 : decode cX3_stepsInto 48 = .ok (.iload 4, 2) := by decide +kernel
theorem dX3_stepsInto_50 : decode cX3_stepsInto 50 = .ok (.invokevirtual 259, 3) := by decide +kernel
theorem dX3_stepsInto_53 : decode cX3_stepsInto 53 = .ok (.invokevirtual 262, 3) := by decide +kernel
theorem dX3_stepsInto_56 : decode cX3_stepsInto 56 = .ok (.istore 5, 2) := by decide +kernel
theorem dX3_stepsInto_58 : decode cX3_stepsInto 58 = .ok (.iload 5, 2) := by decide +kernel
theorem dX3_stepsInto_60 : decode cX3_stepsInto 60 = .ok (.iconst (-1), 1) := by decide +kernel
theorem dX3_stepsInto_61 : decode cX3_stepsInto 61 = .ok (.if_icmp .eq 17, 3) := by decide +kernel
theorem dX3_stepsInto_64 : decode cX3_stepsInto 64 = .ok (.iload_n 3, 1) := by decide +kernel
theorem dX3_stepsInto_65 : decode cX3_stepsInto 65 = .ok (.iconst (-1), 1) := by decide +kernel
theorem dX3_stepsInto_66 : decode cX3_stepsInto 66 = .ok (.if_icmp .eq 9, 3) := by decide +kernel
theorem dX3_stepsInto_69 : decode cX3_stepsInto 69 = .ok (.iload 5, 2) := by decide +kernel
theorem dX3_stepsInto_71 : decode cX3_stepsInto 71 = .ok (.iload_n 3, 1) := by decide +kernel
theorem dX3_stepsInto_72 : decode cX3_stepsInto 72 = .ok (.if_icmp .ge 6, 3) := by decide +kernel
theorem dX3_stepsInto_75 : decode cX3_stepsInto 75 = .ok (.iload 5, 2) := by decide +kernel
theorem dX3_stepsInto_77 : decode cX3_stepsInto 77 = .ok (.istore_n 3, 1) := by decide +kernel
theorem dX3_stepsInto_78 : decode cX3_stepsInto 78 = .ok (.iinc 4 1, 3) := by decide +kernel
theorem dX3_stepsInto_81 : decode cX3_stepsInto 81 = .ok (.goto (-47), 3) := by decide +kernel
theorem dX3_stepsInto_84 : decode cX3_stepsInto 84 = .ok (.iload_n 3, 1) := by decide +kernel
theorem dX3_stepsInto_85 : decode cX3_stepsInto 85 = .ok (.ireturn, 1) := by decide +kernel
set_option maxRecDepth 20000 in
theorem ggX3_firstThrowInto_X3_stepsInto : GoodIn wsX3_firstThrowInto wsX3_stepsInto := goodIn_r _ [6, 7, 1, 8, 9, 10, 11, 12, 13, 14, 15, 16, 17, 18, 19, 20, 5, 21, 22, 23, 24, 25, 26, 27, 28, 29, 30, 31, 32, 33, 34, 35, 36, 37, 38, 39, 40, 41, 42, 43, 44, 45, 46, 47, 48, 49, 50, 51, 52, 53, 54, 55, 56, 57, 58, 59, 60, 61, 62, 63, 64, 65, 66, 67, 68, 69, 70, 71, 72, 73, 74, 79, 80, 81, 82, 83, 84, 85, 86, 87, 88, 89, 90, 91, 92, 93, 94, 95, 96, 97, 98, 99, 100, 101] (by decide +kernel) (by decide +kernel)
set_option maxRecDepth 20000 in
theorem gX3_firstThrowInto_X3_stepsInto : GoodIn wsX3_firstThrowInto (wsV RX3 188 RX3 yX3_stepsInto wsX3_stepsInto) := goodIn_app (goodIn_of _ (by decide +kernel)) ggX3_firstThrowInto_X3_stepsInto
set_option maxRecDepth 20000 in
theorem ggX3_firstThrowInto_X1_length : GoodIn wsX3_firstThrowInto wsX1_length := goodIn_r _ [65, 28, 91, 92, 93, 94, 95, 96, 97] (by decide +kernel) (by decide +kernel)
set_option maxRecDepth 20000 in
theorem gX3_firstThrowInto_X1_length : GoodIn wsX3_firstThrowInto (wsV RX3 124 RX1 yX1_length wsX1_length) := goodIn_app (goodIn_of _ (by decide +kernel)) ggX3_firstThrowInto_X1_length
set_option maxRecDepth 20000 in
theorem ggX3_firstThrowInto_X1_stateAt : GoodIn wsX3_firstThrowInto wsX1_stateAt := goodIn_r _ [69, 70, 20, 5, 21, 91, 92, 93, 94, 95, 96, 97] (by decide +kernel) (by decide +kernel)
set_option maxRecDepth 20000 in
theorem gX3_firstThrowInto_X1_stateAt : GoodIn wsX3_firstThrowInto (wsV RX3 259 RX1 yX1_stateAt wsX1_stateAt) := goodIn_app (goodIn_of _ (by decide +kernel)) ggX3_firstThrowInto_X1_stateAt
set_option maxRecDepth 20000 in
theorem ggX3_firstThrowInto_X2_stepsTo : GoodIn wsX3_firstThrowInto wsX2_stepsTo := goodIn_r _ [74, 47, 20, 5, 21, 98, 99, 100, 101] (by decide +kernel) (by decide +kernel)
set_option maxRecDepth 20000 in
theorem gX3_firstThrowInto_X2_stepsTo : GoodIn wsX3_firstThrowInto (wsV RX3 262 RX2 yX2_stepsTo wsX2_stepsTo) := goodIn_app (goodIn_of _ (by decide +kernel)) ggX3_firstThrowInto_X2_stepsTo
set_option maxRecDepth 20000 in
theorem ggX3_firstThrowInto_X2_firstThrowTo : GoodIn wsX3_firstThrowInto wsX2_firstThrowTo := goodIn_r _ [78, 48, 20, 5, 21, 98, 99, 100, 101] (by decide +kernel) (by decide +kernel)
set_option maxRecDepth 20000 in
theorem gX3_firstThrowInto_X2_firstThrowTo : GoodIn wsX3_firstThrowInto (wsV RX3 265 RX2 yX2_firstThrowTo wsX2_firstThrowTo) := goodIn_app (goodIn_of _ (by decide +kernel)) ggX3_firstThrowInto_X2_firstThrowTo
theorem dX3_firstThrowInto_0 : decode cX3_firstThrowInto 0 = .ok (.aload_n 0, 1) := by decide +kernel
theorem dX3_firstThrowInto_1 : decode cX3_firstThrowInto 1 = .ok (.aload_n 1, 1) := by decide +kernel
theorem dX3_firstThrowInto_2 : decode cX3_firstThrowInto 2 = .ok (.invokevirtual 188, 3) := by decide +kernel
theorem dX3_firstThrowInto_5 : decode cX3_firstThrowInto 5 = .ok (.istore_n 2, 1) := by decide +kernel
theorem dX3_firstThrowInto_6 : decode cX3_firstThrowInto 6 = .ok (.iload_n 2, 1) := by decide +kernel
theorem dX3_firstThrowInto_7 : decode cX3_firstThrowInto 7 = .ok (.iconst (-1), 1) := by decide +kernel
theorem dX3_firstThrowInto_8 : decode cX3_firstThrowInto 8 = .ok (.if_icmp .eq 7, 3) := by decide +kernel
theorem dX3_firstThrowInto_11 : decode cX3_firstThrowInto 11 = .ok (.iload_n 2, 1) := by decide +kernel
theorem dX3_firstThrowInto_12 : decode cX3_firstThrowInto 12 = .ok (.ifCond .ne 5, 3) := by decide +kernel
theorem dX3_firstThrowInto_15 : decode cX3_firstThrowInto 15 = .ok (.iconst (-1), 1) := by decide +kernel
theorem dX3_firstThrowInto_16 : decode cX3_firstThrowInto 16 = .ok (.ireturn, 1) := by decide +kernel
theorem dX3_firstThrowInto_17 : decode cX3_firstThrowInto 17 = .ok (.iconst (-1), 1) := by decide +kernel
theorem dX3_firstThrowInto_18 : decode cX3_firstThrowInto 18 = .ok (.istore_n 3, 1) := by decide +kernel
theorem dX3_firstThrowInto_19 : decode cX3_firstThrowInto 19 = .ok (.iconst 0, 1) := by decide +kernel
theorem dX3_firstThrowInto_20 : decode cX3_firstThrowInto 20 = .ok (.istore 4, 2) := by decide +kernel
theorem dX3_firstThrowInto_22 : decode cX3_firstThrowInto 22 = .ok (.iload 4, 2) := by decide +kernel
theorem dX3_firstThrowInto_24 : decode cX3_firstThrowInto 24 = .ok (.aload_n 1, 1) := by decide +kernel
theorem dX3_firstThrowInto_25 : decode cX3_firstThrowInto 25 = .ok (.invokevirtual 124, 3) := by decide +kernel
theorem dX3_firstThrowInto_28 : decode cX3_firstThrowInto 28 = .ok (.if_icmp .ge 58, 3) := by decide +kernel
theorem dX3_firstThrowInto_31 : decode cX3_firstThrowInto 31 = .ok (.aload_n 1, 1) := by decide +kernel
theorem dX3_firstThrowInto_32 : decode cX3_firstThrowInto 32 = .ok (.iload 4, 2) := by decide +kernel
theorem dX3_firstThrowInto_34 : decode cX3_firstThrowInto 34 = .ok (.invokevirtual 259, 3) := by decide +kernel
theorem dX3_firstThrowInto_37 : decode cX3_firstThrowInto 37 = .ok (.istore 5, 2) := by decide +kernel
theorem dX3_firstThrowInto_39 : decode cX3_firstThrowInto 39 = .ok (.aload_n 0, 1) := by decide +kernel
theorem dX3_firstThrowInto_40 : decode cX3_firstThrowInto 40 = .ok (.getfield 25, 3) := by decide +kernel
theorem dX3_firstThrowInto_43 : decode cX3_firstThrowInto 43 = .ok (.iload 5, 2) := by decide +kernel
theorem dX3_firstThrowInto_45 : decode cX3_firstThrowInto 45 = .ok (.invokevirtual 262, 3) := by decide +kernel
theorem dX3_firstThrowInto_48 : decode cX3_firstThrowInto 48 = .ok (.iload_n 2, 1) := by decide +kernel
theorem dX3_firstThrowInto_49 : decode cX3_firstThrowInto 49 = .ok (.if_icmp .ne 31, 3) := by decide +kernel
theorem dX3_firstThrowInto_52 : decode cX3_firstThrowInto 52 = .ok (.iload_n 3, 1) := by decide +kernel
theorem dX3_firstThrowInto_53 : decode cX3_firstThrowInto 53 = .ok (.iconst (-1), 1) := by decide +kernel
theorem dX3_firstThrowInto_54 : decode cX3_firstThrowInto 54 = .ok (.if_icmp .eq 16, 3) := by decide +kernel
theorem dX3_firstThrowInto_57 : decode cX3_firstThrowInto 57 = .ok (.aload_n 0, 1) := by decide +kernel
theorem dX3_firstThrowInto_58 : decode cX3_firstThrowInto 58 = .ok (.getfield 25, 3) := by decide +kernel
theorem dX3_firstThrowInto_61 : decode cX3_firstThrowInto 61 = .ok (.iload 5, 2) := by decide +kernel
theorem dX3_firstThrowInto_63 : decode cX3_firstThrowInto 63 = .ok (.invokevirtual 265, 3) := by decide +kernel
theorem dX3_firstThrowInto_66 : decode cX3_firstThrowInto 66 = .ok (.iload_n 3, 1) := by decide +kernel
theorem dX3_firstThrowInto_67 : decode cX3_firstThrowInto 67 = .ok (.if_icmp .ge 13, 3) := by decide +kernel
theorem dX3_firstThrowInto_70 : decode cX3_firstThrowInto 70 = .ok (.aload_n 0, 1) := by decide +kernel
theorem dX3_firstThrowInto_71 : decode cX3_firstThrowInto 71 = .ok (.getfield 25, 3) := by decide +kernel
theorem dX3_firstThrowInto_74 : decode cX3_firstThrowInto 74 = .ok (.iload 5, 2) := by decide +kernel
theorem dX3_firstThrowInto_76 : decode cX3_firstThrowInto 76 = .ok (.invokevirtual 265, 3) := by decide +kernel
theorem dX3_firstThrowInto_79 : decode cX3_firstThrowInto 79 = .ok (.istore_n 3, 1) := by decide +kernel
theorem dX3_firstThrowInto_80 : decode cX3_firstThrowInto 80 = .ok (.iinc 4 1, 3) := by decide +kernel
theorem dX3_firstThrowInto_83 : decode cX3_firstThrowInto 83 = .ok (.goto (-61), 3) := by decide +kernel
theorem dX3_firstThrowInto_86 : decode cX3_firstThrowInto 86 = .ok (.iload_n 3, 1) := by decide +kernel
theorem dX3_firstThrowInto_87 : decode cX3_firstThrowInto 87 = .ok (.ireturn, 1) := by decide +kernel
set_option maxRecDepth 20000 in
theorem ggX3_soundRowsFrom_X3_soundRowsFrom : GoodIn wsX3_soundRowsFrom wsX3_soundRowsFrom := goodIn_r _ [0, 1, 2, 3] (by decide +kernel) (by decide +kernel)
set_option maxRecDepth 20000 in
theorem gX3_soundRowsFrom_X3_soundRowsFrom : GoodIn wsX3_soundRowsFrom (va_wsS RX3 197 yX3_soundRowsFrom wsX3_soundRowsFrom) := goodIn_app (goodIn_of _ (by decide +kernel)) ggX3_soundRowsFrom_X3_soundRowsFrom
theorem dX3_soundRowsFrom_0 : decode cX3_soundRowsFrom 0 = .ok (.iload_n 0, 1) := by decide +kernel
theorem dX3_soundRowsFrom_1 : decode cX3_soundRowsFrom 1 = .ok (.iload_n 1, 1) := by decide +kernel
theorem dX3_soundRowsFrom_2 : decode cX3_soundRowsFrom 2 = .ok (.if_icmp .ge 8, 3) := by decide +kernel
theorem dX3_soundRowsFrom_5 : decode cX3_soundRowsFrom 5 = .ok (.iload_n 1, 1) := by decide +kernel
theorem dX3_soundRowsFrom_6 : decode cX3_soundRowsFrom 6 = .ok (.iconst 1, 1) := by decide +kernel
theorem dX3_soundRowsFrom_7 : decode cX3_soundRowsFrom 7 = .ok (.if_icmp .ge 13, 3) := by decide +kernel
theorem dX3_soundRowsFrom_10 : decode cX3_soundRowsFrom 10 = .ok (.iload_n 3, 1) := by decide +kernel
theorem dX3_soundRowsFrom_11 : decode cX3_soundRowsFrom 11 = .ok (.ifCond .ne 7, 3) := by decide +kernel
theorem dX3_soundRowsFrom_14 : decode cX3_soundRowsFrom 14 = .ok (.iconst 1, 1) := by decide +kernel
theorem dX3_soundRowsFrom_15 : decode cX3_soundRowsFrom 15 = .ok (.goto 4, 3) := by decide +kernel
theorem dX3_soundRowsFrom_18 : decode cX3_soundRowsFrom 18 = .ok (.iconst 0, 1) := by decide +kernel
theorem dX3_soundRowsFrom_19 : decode cX3_soundRowsFrom 19 = .ok (.ireturn, 1) := by decide +kernel
theorem dX3_soundRowsFrom_20 : decode cX3_soundRowsFrom 20 = .ok (.iconst 0, 1) := by decide +kernel
theorem dX3_soundRowsFrom_21 : decode cX3_soundRowsFrom 21 = .ok (.istore 4, 2) := by decide +kernel
theorem dX3_soundRowsFrom_23 : decode cX3_soundRowsFrom 23 = .ok (.iconst 0, 1) := by decide +kernel
theorem dX3_soundRowsFrom_24 : decode cX3_soundRowsFrom 24 = .ok (.istore 5, 2) := by decide +kernel
theorem dX3_soundRowsFrom_26 : decode cX3_soundRowsFrom 26 = .ok (.iload 5, 2) := by decide +kernel
theorem dX3_soundRowsFrom_28 : decode cX3_soundRowsFrom 28 = .ok (.bipush 9, 2) := by decide +kernel
theorem dX3_soundRowsFrom_30 : decode cX3_soundRowsFrom 30 = .ok (.if_icmp .gt 52, 3) := by decide +kernel
theorem dX3_soundRowsFrom_33 : decode cX3_soundRowsFrom 33 = .ok (.iload 5, 2) := by decide +kernel
theorem dX3_soundRowsFrom_35 : decode cX3_soundRowsFrom 35 = .ok (.iload_n 3, 1) := by decide +kernel
theorem dX3_soundRowsFrom_36 : decode cX3_soundRowsFrom 36 = .ok (.if_icmp .gt 46, 3) := by decide +kernel
theorem dX3_soundRowsFrom_39 : decode cX3_soundRowsFrom 39 = .ok (.iconst 1, 1) := by decide +kernel
theorem dX3_soundRowsFrom_40 : decode cX3_soundRowsFrom 40 = .ok (.iload_n 0, 1) := by decide +kernel
theorem dX3_soundRowsFrom_41 : decode cX3_soundRowsFrom 41 = .ok (.iload 5, 2) := by decide +kernel
theorem dX3_soundRowsFrom_43 : decode cX3_soundRowsFrom 43 = .ok (.iadd, 1) := by decide +kernel
theorem dX3_soundRowsFrom_44 : decode cX3_soundRowsFrom 44 = .ok (.iload_n 1, 1) := by decide +kernel
theorem dX3_soundRowsFrom_45 : decode cX3_soundRowsFrom 45 = .ok (.irem, 1) := by decide +kernel
theorem dX3_soundRowsFrom_46 : decode cX3_soundRowsFrom 46 = .ok (.ishl, 1) := by decide +kernel
theorem dX3_soundRowsFrom_47 : decode cX3_soundRowsFrom 47 = .ok (.istore 6, 2) := by decide +kernel
theorem dX3_soundRowsFrom_49 : decode cX3_soundRowsFrom 49 = .ok (.iload_n 2, 1) := by decide +kernel
theorem dX3_soundRowsFrom_50 : decode cX3_soundRowsFrom 50 = .ok (.iload 6, 2) := by decide +kernel
theorem dX3_soundRowsFrom_52 : decode cX3_soundRowsFrom 52 = .ok (.iand, 1) := by decide +kernel
theorem dX3_soundRowsFrom_53 : decode cX3_soundRowsFrom 53 = .ok (.ifCond .ne 23, 3) := by decide +kernel
theorem dX3_soundRowsFrom_56 : decode cX3_soundRowsFrom 56 = .ok (.iload 4, 2) := by decide +kernel
theorem dX3_soundRowsFrom_58 : decode cX3_soundRowsFrom 58 = .ok (.iload_n 0, 1) := by decide +kernel
theorem dX3_soundRowsFrom_59 : decode cX3_soundRowsFrom 59 = .ok (.iconst 1, 1) := by decide +kernel
theorem dX3_soundRowsFrom_60 : decode cX3_soundRowsFrom 60 = .ok (.iadd, 1) := by decide +kernel
theorem dX3_soundRowsFrom_61 : decode cX3_soundRowsFrom 61 = .ok (.iload_n 1, 1) := by decide +kernel
theorem dX3_soundRowsFrom_62 : decode cX3_soundRowsFrom 62 = .ok (.iload_n 2, 1) := by decide +kernel
theorem dX3_soundRowsFrom_63 : decode cX3_soundRowsFrom 63 = .ok (.iload 6, 2) := by decide +kernel
theorem dX3_soundRowsFrom_65 : decode cX3_soundRowsFrom 65 = .ok (.ior, 1) := by decide +kernel
theorem dX3_soundRowsFrom_66 : decode cX3_soundRowsFrom 66 = .ok (.iload_n 3, 1) := by decide +kernel
theorem dX3_soundRowsFrom_67 : decode cX3_soundRowsFrom 67 = .ok (.iload 5, 2) := by decide +kernel
theorem dX3_soundRowsFrom_69 : decode cX3_soundRowsFrom 69 = .ok (.isub, 1) := by decide +kernel
theorem dX3_soundRowsFrom_70 : decode cX3_soundRowsFrom 70 = .ok (.invokestatic 197, 3) := by decide +kernel
theorem dX3_soundRowsFrom_73 : decode cX3_soundRowsFrom 73 = .ok (.iadd, 1) := by decide +kernel
theorem dX3_soundRowsFrom_74 : decode cX3_soundRowsFrom 74 = .ok (.istore 4, 2) := by decide +kernel
theorem dX3_soundRowsFrom_76 : decode cX3_soundRowsFrom 76 = .ok (.iinc 5 1, 3) := by decide +kernel
theorem dX3_soundRowsFrom_79 : decode cX3_soundRowsFrom 79 = .ok (.goto (-53), 3) := by decide +kernel
theorem dX3_soundRowsFrom_82 : decode cX3_soundRowsFrom 82 = .ok (.iload 4, 2) := by decide +kernel
theorem dX3_soundRowsFrom_84 : decode cX3_soundRowsFrom 84 = .ok (.ireturn, 1) := by decide +kernel
theorem dJ6_bitCount_0f7a4_0 : decode cJ6_bitCount_0f7a4 0 = .ok (.iload_n 0, 1) := by decide +kernel
theorem dJ6_bitCount_0f7a4_1 : decode cJ6_bitCount_0f7a4 1 = .ok (.iload_n 0, 1) := by decide +kernel
theorem dJ6_bitCount_0f7a4_2 : decode cJ6_bitCount_0f7a4 2 = .ok (.iconst 1, 1) := by decide +kernel
theorem dJ6_bitCount_0f7a4_3 : decode cJ6_bitCount_0f7a4 3 = .ok (.iushr, 1) := by decide +kernel
theorem dJ6_bitCount_0f7a4_4 : decode cJ6_bitCount_0f7a4 4 = .ok (.ldc_w 265, 3) := by decide +kernel
theorem dJ6_bitCount_0f7a4_7 : decode cJ6_bitCount_0f7a4 7 = .ok (.iand, 1) := by decide +kernel
theorem dJ6_bitCount_0f7a4_8 : decode cJ6_bitCount_0f7a4 8 = .ok (.isub, 1) := by decide +kernel
theorem dJ6_bitCount_0f7a4_9 : decode cJ6_bitCount_0f7a4 9 = .ok (.istore_n 0, 1) := by decide +kernel
theorem dJ6_bitCount_0f7a4_10 : decode cJ6_bitCount_0f7a4 10 = .ok (.iload_n 0, 1) := by decide +kernel
theorem dJ6_bitCount_0f7a4_11 : decode cJ6_bitCount_0f7a4 11 = .ok (.ldc_w 266, 3) := by decide +kernel
theorem dJ6_bitCount_0f7a4_14 : decode cJ6_bitCount_0f7a4 14 = .ok (.iand, 1) := by decide +kernel
theorem dJ6_bitCount_0f7a4_15 : decode cJ6_bitCount_0f7a4 15 = .ok (.iload_n 0, 1) := by decide +kernel
theorem dJ6_bitCount_0f7a4_16 : decode cJ6_bitCount_0f7a4 16 = .ok (.iconst 2, 1) := by decide +kernel
theorem dJ6_bitCount_0f7a4_17 : decode cJ6_bitCount_0f7a4 17 = .ok (.iushr, 1) := by decide +kernel
theorem dJ6_bitCount_0f7a4_18 : decode cJ6_bitCount_0f7a4 18 = .ok (.ldc_w 266, 3) := by decide +kernel
theorem dJ6_bitCount_0f7a4_21 : decode cJ6_bitCount_0f7a4 21 = .ok (.iand, 1) := by decide +kernel
theorem dJ6_bitCount_0f7a4_22 : decode cJ6_bitCount_0f7a4 22 = .ok (.iadd, 1) := by decide +kernel
theorem dJ6_bitCount_0f7a4_23 : decode cJ6_bitCount_0f7a4 23 = .ok (.istore_n 0, 1) := by decide +kernel
theorem dJ6_bitCount_0f7a4_24 : decode cJ6_bitCount_0f7a4 24 = .ok (.iload_n 0, 1) := by decide +kernel
theorem dJ6_bitCount_0f7a4_25 : decode cJ6_bitCount_0f7a4 25 = .ok (.iload_n 0, 1) := by decide +kernel
theorem dJ6_bitCount_0f7a4_26 : decode cJ6_bitCount_0f7a4 26 = .ok (.iconst 4, 1) := by decide +kernel
theorem dJ6_bitCount_0f7a4_27 : decode cJ6_bitCount_0f7a4 27 = .ok (.iushr, 1) := by decide +kernel
theorem dJ6_bitCount_0f7a4_28 : decode cJ6_bitCount_0f7a4 28 = .ok (.iadd, 1) := by decide +kernel
theorem dJ6_bitCount_0f7a4_29 : decode cJ6_bitCount_0f7a4 29 = .ok (.ldc_w 267, 3) := by decide +kernel
theorem dJ6_bitCount_0f7a4_32 : decode cJ6_bitCount_0f7a4 32 = .ok (.iand, 1) := by decide +kernel
theorem dJ6_bitCount_0f7a4_33 : decode cJ6_bitCount_0f7a4 33 = .ok (.istore_n 0, 1) := by decide +kernel
theorem dJ6_bitCount_0f7a4_34 : decode cJ6_bitCount_0f7a4 34 = .ok (.iload_n 0, 1) := by decide +kernel
theorem dJ6_bitCount_0f7a4_35 : decode cJ6_bitCount_0f7a4 35 = .ok (.iload_n 0, 1) := by decide +kernel
theorem dJ6_bitCount_0f7a4_36 : decode cJ6_bitCount_0f7a4 36 = .ok (.bipush 8, 2) := by decide +kernel
theorem dJ6_bitCount_0f7a4_38 : decode cJ6_bitCount_0f7a4 38 = .ok (.iushr, 1) := by decide +kernel
theorem dJ6_bitCount_0f7a4_39 : decode cJ6_bitCount_0f7a4 39 = .ok (.iadd, 1) := by decide +kernel
theorem dJ6_bitCount_0f7a4_40 : decode cJ6_bitCount_0f7a4 40 = .ok (.istore_n 0, 1) := by decide +kernel
theorem dJ6_bitCount_0f7a4_41 : decode cJ6_bitCount_0f7a4 41 = .ok (.iload_n 0, 1) := by decide +kernel
theorem dJ6_bitCount_0f7a4_42 : decode cJ6_bitCount_0f7a4 42 = .ok (.iload_n 0, 1) := by decide +kernel
theorem dJ6_bitCount_0f7a4_43 : decode cJ6_bitCount_0f7a4 43 = .ok (.bipush 16, 2) := by decide +kernel
theorem dJ6_bitCount_0f7a4_45 : decode cJ6_bitCount_0f7a4 45 = .ok (.iushr, 1) := by decide +kernel
theorem dJ6_bitCount_0f7a4_46 : decode cJ6_bitCount_0f7a4 46 = .ok (.iadd, 1) := by decide +kernel
theorem dJ6_bitCount_0f7a4_47 : decode cJ6_bitCount_0f7a4 47 = .ok (.istore_n 0, 1) := by decide +kernel
theorem dJ6_bitCount_0f7a4_48 : decode cJ6_bitCount_0f7a4 48 = .ok (.iload_n 0, 1) := by decide +kernel
theorem dJ6_bitCount_0f7a4_49 : decode cJ6_bitCount_0f7a4 49 = .ok (.bipush 63, 2) := by decide +kernel
theorem dJ6_bitCount_0f7a4_51 : decode cJ6_bitCount_0f7a4 51 = .ok (.iand, 1) := by decide +kernel
theorem dJ6_bitCount_0f7a4_52 : decode cJ6_bitCount_0f7a4 52 = .ok (.ireturn, 1) := by decide +kernel
theorem dJ9_floorMod_7cf53_0 : decode cJ9_floorMod_7cf53 0 = .ok (.iload_n 0, 1) := by decide +kernel
theorem dJ9_floorMod_7cf53_1 : decode cJ9_floorMod_7cf53 1 = .ok (.iload_n 1, 1) := by decide +kernel
theorem dJ9_floorMod_7cf53_2 : decode cJ9_floorMod_7cf53 2 = .ok (.irem, 1) := by decide +kernel
theorem dJ9_floorMod_7cf53_3 : decode cJ9_floorMod_7cf53 3 = .ok (.istore_n 2, 1) := by decide +kernel
theorem dJ9_floorMod_7cf53_4 : decode cJ9_floorMod_7cf53 4 = .ok (.iload_n 0, 1) := by decide +kernel
theorem dJ9_floorMod_7cf53_5 : decode cJ9_floorMod_7cf53 5 = .ok (.iload_n 1, 1) := by decide +kernel
theorem dJ9_floorMod_7cf53_6 : decode cJ9_floorMod_7cf53 6 = .ok (.ixor, 1) := by decide +kernel
theorem dJ9_floorMod_7cf53_7 : decode cJ9_floorMod_7cf53 7 = .ok (.ifCond .ge 11, 3) := by decide +kernel
theorem dJ9_floorMod_7cf53_10 : decode cJ9_floorMod_7cf53 10 = .ok (.iload_n 2, 1) := by decide +kernel
theorem dJ9_floorMod_7cf53_11 : decode cJ9_floorMod_7cf53 11 = .ok (.ifCond .eq 7, 3) := by decide +kernel
theorem dJ9_floorMod_7cf53_14 : decode cJ9_floorMod_7cf53 14 = .ok (.iload_n 2, 1) := by decide +kernel
theorem dJ9_floorMod_7cf53_15 : decode cJ9_floorMod_7cf53 15 = .ok (.iload_n 1, 1) := by decide +kernel
theorem dJ9_floorMod_7cf53_16 : decode cJ9_floorMod_7cf53 16 = .ok (.iadd, 1) := by decide +kernel
theorem dJ9_floorMod_7cf53_17 : decode cJ9_floorMod_7cf53 17 = .ok (.ireturn, 1) := by decide +kernel
theorem dJ9_floorMod_7cf53_18 : decode cJ9_floorMod_7cf53 18 = .ok (.iload_n 2, 1) := by decide +kernel
theorem dJ9_floorMod_7cf53_19 : decode cJ9_floorMod_7cf53 19 = .ok (.ireturn, 1) := by decide +kernel
theorem dJ9_max_7cf53_0 : decode cJ9_max_7cf53 0 = .ok (.iload_n 0, 1) := by decide +kernel
theorem dJ9_max_7cf53_1 : decode cJ9_max_7cf53 1 = .ok (.iload_n 1, 1) := by decide +kernel
theorem dJ9_max_7cf53_2 : decode cJ9_max_7cf53 2 = .ok (.if_icmp .lt 7, 3) := by decide +kernel
theorem dJ9_max_7cf53_5 : decode cJ9_max_7cf53 5 = .ok (.iload_n 0, 1) := by decide +kernel
theorem dJ9_max_7cf53_6 : decode cJ9_max_7cf53 6 = .ok (.goto 4, 3) := by decide +kernel
theorem dJ9_max_7cf53_9 : decode cJ9_max_7cf53 9 = .ok (.iload_n 1, 1) := by decide +kernel
theorem dJ9_max_7cf53_10 : decode cJ9_max_7cf53 10 = .ok (.ireturn, 1) := by decide +kernel
theorem dJ7_fill_53178_0 : decode cJ7_fill_53178 0 = .ok (.iconst 0, 1) := by decide +kernel
theorem dJ7_fill_53178_1 : decode cJ7_fill_53178 1 = .ok (.istore_n 2, 1) := by decide +kernel
theorem dJ7_fill_53178_2 : decode cJ7_fill_53178 2 = .ok (.aload_n 0, 1) := by decide +kernel
theorem dJ7_fill_53178_3 : decode cJ7_fill_53178 3 = .ok (.arraylength, 1) := by decide +kernel
theorem dJ7_fill_53178_4 : decode cJ7_fill_53178 4 = .ok (.istore_n 3, 1) := by decide +kernel
theorem dJ7_fill_53178_5 : decode cJ7_fill_53178 5 = .ok (.iload_n 2, 1) := by decide +kernel
theorem dJ7_fill_53178_6 : decode cJ7_fill_53178 6 = .ok (.iload_n 3, 1) := by decide +kernel
theorem dJ7_fill_53178_7 : decode cJ7_fill_53178 7 = .ok (.if_icmp .ge 13, 3) := by decide +kernel
theorem dJ7_fill_53178_10 : decode cJ7_fill_53178 10 = .ok (.aload_n 0, 1) := by decide +kernel
theorem dJ7_fill_53178_11 : decode cJ7_fill_53178 11 = .ok (.iload_n 2, 1) := by decide +kernel
theorem dJ7_fill_53178_12 : decode cJ7_fill_53178 12 = .ok (.iload_n 1, 1) := by decide +kernel
theorem dJ7_fill_53178_13 : decode cJ7_fill_53178 13 = .ok (.iastore, 1) := by decide +kernel
theorem dJ7_fill_53178_14 : decode cJ7_fill_53178 14 = .ok (.iinc 2 1, 3) := by decide +kernel
theorem dJ7_fill_53178_17 : decode cJ7_fill_53178 17 = .ok (.goto (-12), 3) := by decide +kernel
theorem dJ7_fill_53178_20 : decode cJ7_fill_53178 20 = .ok (.return_, 1) := by decide +kernel
theorem dL_below_0 : decode cL_below 0 = .ok (.iload_n 0, 1) := by decide +kernel
theorem dL_below_1 : decode cL_below 1 = .ok (.ldc 7, 2) := by decide +kernel
theorem dL_below_3 : decode cL_below 3 = .ok (.iand, 1) := by decide +kernel
theorem dL_below_4 : decode cL_below 4 = .ok (.iload_n 1, 1) := by decide +kernel
theorem dL_below_5 : decode cL_below 5 = .ok (.irem, 1) := by decide +kernel
theorem dL_below_6 : decode cL_below 6 = .ok (.ireturn, 1) := by decide +kernel
theorem dL_cell_0 : decode cL_cell 0 = .ok (.iload_n 1, 1) := by decide +kernel
theorem dL_cell_1 : decode cL_cell 1 = .ok (.aload_n 0, 1) := by decide +kernel
theorem dL_cell_2 : decode cL_cell 2 = .ok (.arraylength, 1) := by decide +kernel
theorem dL_cell_3 : decode cL_cell 3 = .ok (.if_icmp .ge 9, 3) := by decide +kernel
theorem dL_cell_6 : decode cL_cell 6 = .ok (.aload_n 0, 1) := by decide +kernel
theorem dL_cell_7 : decode cL_cell 7 = .ok (.iload_n 1, 1) := by decide +kernel
theorem dL_cell_8 : decode cL_cell 8 = .ok (.iaload, 1) := by decide +kernel
theorem dL_cell_9 : decode cL_cell 9 = .ok (.goto 9, 3) := by decide +kernel
theorem dL_cell_12 : decode cL_cell 12 = .ok (.ldc 8, 2) := by decide +kernel
theorem dL_cell_14 : decode cL_cell 14 = .ok (.iload_n 1, 1) := by decide +kernel
theorem dL_cell_15 : decode cL_cell 15 = .ok (.iconst 3, 1) := by decide +kernel
theorem dL_cell_16 : decode cL_cell 16 = .ok (.iadd, 1) := by decide +kernel
theorem dL_cell_17 : decode cL_cell 17 = .ok (.imul, 1) := by decide +kernel
theorem dL_cell_18 : decode cL_cell 18 = .ok (.ireturn, 1) := by decide +kernel
set_option maxRecDepth 20000 in
theorem ggL_row_L_cell : GoodIn wsL_row wsL_cell := goodIn_r _ [6, 7] (by decide +kernel) (by decide +kernel)
set_option maxRecDepth 20000 in
theorem gL_row_L_cell : GoodIn wsL_row (va_wsS RL 9 yL_cell wsL_cell) := goodIn_app (goodIn_of _ (by decide +kernel)) ggL_row_L_cell
set_option maxRecDepth 20000 in
theorem ggL_row_L_below : GoodIn wsL_row wsL_below := goodIn_r _ [10, 11] (by decide +kernel) (by decide +kernel)
set_option maxRecDepth 20000 in
theorem gL_row_L_below : GoodIn wsL_row (va_wsS RL 15 yL_below wsL_below) := goodIn_app (goodIn_of _ (by decide +kernel)) ggL_row_L_below
set_option maxRecDepth 20000 in
theorem ggL_row_J9_floorMod_7cf53 : GoodIn wsL_row wsJ9_floorMod_7cf53 := goodIn_r _ [15] (by decide +kernel) (by decide +kernel)
set_option maxRecDepth 20000 in
theorem gL_row_J9_floorMod_7cf53 : GoodIn wsL_row (va_wsS RL 19 yJ9_floorMod_7cf53 wsJ9_floorMod_7cf53) := goodIn_app (goodIn_of _ (by decide +kernel)) ggL_row_J9_floorMod_7cf53
theorem dL_row_0 : decode cL_row 0 = .ok (.aload_n 0, 1) := by decide +kernel
theorem dL_row_1 : decode cL_row 1 = .ok (.iload_n 1, 1) := by decide +kernel
theorem dL_row_2 : decode cL_row 2 = .ok (.invokestatic 9, 3) := by decide +kernel
theorem dL_row_5 : decode cL_row 5 = .ok (.istore_n 2, 1) := by decide +kernel
theorem dL_row_6 : decode cL_row 6 = .ok (.iconst 1, 1) := by decide +kernel
theorem dL_row_7 : decode cL_row 7 = .ok (.iload_n 2, 1) := by decide +kernel
theorem dL_row_8 : decode cL_row 8 = .ok (.bipush 8, 2) := by decide +kernel
theorem dL_row_10 : decode cL_row 10 = .ok (.invokestatic 15, 3) := by decide +kernel
theorem dL_row_13 : decode cL_row 13 = .ok (.iadd, 1) := by decide +kernel
theorem dL_row_14 : decode cL_row 14 = .ok (.newarray .int, 2) := by decide +kernel
theorem dL_row_16 : decode cL_row 16 = .ok (.astore_n 3, 1) := by decide +kernel
theorem dL_row_17 : decode cL_row 17 = .ok (.iconst 0, 1) := by decide +kernel
theorem dL_row_18 : decode cL_row 18 = .ok (.istore 4, 2) := by decide +kernel
theorem dL_row_20 : decode cL_row 20 = .ok (.iload 4, 2) := by decide +kernel
theorem dL_row_22 : decode cL_row 22 = .ok (.aload_n 3, 1) := by decide +kernel
theorem dL_row_23 : decode cL_row 23 = .ok (.arraylength, 1) := by decide +kernel
theorem dL_row_24 : decode cL_row 24 = .ok (.if_icmp .ge 33, 3) := by decide +kernel
theorem dL_row_27 : decode cL_row 27 = .ok (.aload_n 3, 1) := by decide +kernel
theorem dL_row_28 : decode cL_row 28 = .ok (.iload 4, 2) := by decide +kernel
theorem dL_row_30 : decode cL_row 30 = .ok (.aload_n 0, 1) := by decide +kernel
theorem dL_row_31 : decode cL_row 31 = .ok (.iload_n 1, 1) := by decide +kernel
theorem dL_row_32 : decode cL_row 32 = .ok (.iload 4, 2) := by decide +kernel
theorem dL_row_34 : decode cL_row 34 = .ok (.iadd, 1) := by decide +kernel
theorem dL_row_35 : decode cL_row 35 = .ok (.iconst 1, 1) := by decide +kernel
theorem dL_row_36 : decode cL_row 36 = .ok (.iadd, 1) := by decide +kernel
theorem dL_row_37 : decode cL_row 37 = .ok (.invokestatic 9, 3) := by decide +kernel
theorem dL_row_40 : decode cL_row 40 = .ok (.iconst 3, 1) := by decide +kernel
theorem dL_row_41 : decode cL_row 41 = .ok (.iload 4, 2) := by decide +kernel
theorem dL_row_43 : decode cL_row 43 = .ok (.imul, 1) := by decide +kernel
theorem dL_row_44 : decode cL_row 44 = .ok (.iadd, 1) := by decide +kernel
theorem dL_row_45 : decode cL_row 45 = .ok (.bipush 10, 2) := by decide +kernel
theorem dL_row_47 : decode cL_row 47 = .ok (.invokestatic 15, 3) := by decide +kernel
theorem dL_row_50 : decode cL_row 50 = .ok (.iastore, 1) := by decide +kernel
theorem dL_row_51 : decode cL_row 51 = .ok (.iinc 4 1, 3) := by decide +kernel
theorem dL_row_54 : decode cL_row 54 = .ok (.goto (-34), 3) := by decide +kernel
theorem dL_row_57 : decode cL_row 57 = .ok (.iload_n 2, 1) := by decide +kernel
theorem dL_row_58 : decode cL_row 58 = .ok (.iconst 3, 1) := by decide +kernel
theorem dL_row_59 : decode cL_row 59 = .ok (.ishr, 1) := by decide +kernel
theorem dL_row_60 : decode cL_row 60 = .ok (.iconst 4, 1) := by decide +kernel
theorem dL_row_61 : decode cL_row 61 = .ok (.invokestatic 15, 3) := by decide +kernel
theorem dL_row_64 : decode cL_row 64 = .ok (.ifCond .ne 5, 3) := by decide +kernel
theorem dL_row_67 : decode cL_row 67 = .ok (.aload_n 3, 1) := by decide +kernel
theorem dL_row_68 : decode cL_row 68 = .ok (.areturn, 1) := by decide +kernel
theorem dL_row_69 : decode cL_row 69 = .ok (.aload_n 3, 1) := by decide +kernel
theorem dL_row_70 : decode cL_row 70 = .ok (.arraylength, 1) := by decide +kernel
theorem dL_row_71 : decode cL_row 71 = .ok (.newarray .boolean, 2) := by decide +kernel
theorem dL_row_73 : decode cL_row 73 = .ok (.astore 4, 2) := by decide +kernel
theorem dL_row_75 : decode cL_row 75 = .ok (.iconst 0, 1) := by decide +kernel
theorem dL_row_76 : decode cL_row 76 = .ok (.istore 5, 2) := by decide +kernel
theorem dL_row_78 : decode cL_row 78 = .ok (.iload 5, 2) := by decide +kernel
theorem dL_row_80 : decode cL_row 80 = .ok (.aload_n 3, 1) := by decide +kernel
theorem dL_row_81 : decode cL_row 81 = .ok (.arraylength, 1) := by decide +kernel
theorem dL_row_82 : decode cL_row 82 = .ok (.if_icmp .ge 90, 3) := by decide +kernel
theorem dL_row_85 : decode cL_row 85 = .ok (.iload 5, 2) := by decide +kernel
theorem dL_row_87 : decode cL_row 87 = .ok (.aload_n 3, 1) := by decide +kernel
theorem dL_row_88 : decode cL_row 88 = .ok (.iload 5, 2) := by decide +kernel
theorem dL_row_90 : decode cL_row 90 = .ok (.iaload, 1) := by decide +kernel
theorem dL_row_91 : decode cL_row 91 = .ok (.iadd, 1) := by decide +kernel
theorem dL_row_92 : decode cL_row 92 = .ok (.aload_n 3, 1) := by decide +kernel
theorem dL_row_93 : decode cL_row 93 = .ok (.arraylength, 1) := by decide +kernel
theorem dL_row_94 : decode cL_row 94 = .ok (.irem, 1) := by decide +kernel
theorem dL_row_95 : decode cL_row 95 = .ok (.istore 6, 2) := by decide +kernel
theorem dL_row_97 : decode cL_row 97 = .ok (.aload 4, 2) := by decide +kernel
theorem dL_row_99 : decode cL_row 99 = .ok (.iload 6, 2) := by decide +kernel
theorem dL_row_101 : decode cL_row 101 = .ok (.baload, 1) := by decide +kernel
theorem dL_row_102 : decode cL_row 102 = .ok (.ifCond .eq 15, 3) := by decide +kernel
theorem dL_row_105 : decode cL_row 105 = .ok (.iload 6, 2) := by decide +kernel
theorem dL_row_107 : decode cL_row 107 = .ok (.iconst 1, 1) := by decide +kernel
theorem dL_row_108 : decode cL_row 108 = .ok (.iadd, 1) := by decide +kernel
theorem dL_row_109 : decode cL_row 109 = .ok (.aload_n 3, 1) := by decide +kernel
theorem dL_row_110 : decode cL_row 110 = .ok (.arraylength, 1) := by decide +kernel
theorem dL_row_111 : decode cL_row 111 = .ok (.irem, 1) := by decide +kernel
theorem dL_row_112 : decode cL_row 112 = .ok (.istore 6, 2) := by decide +kernel
theorem dL_row_114 : decode cL_row 114 = .ok (.goto (-17), 3) := by decide +kernel
theorem dL_row_117 : decode cL_row 117 = .ok (.aload 4, 2) := by decide +kernel
theorem dL_row_119 : decode cL_row 119 = .ok (.iload 6, 2) := by decide +kernel
theorem dL_row_121 : decode cL_row 121 = .ok (.iconst 1, 1) := by decide +kernel
theorem dL_row_122 : decode cL_row 122 = .ok (.bastore, 1) := by decide +kernel
theorem dL_row_123 : decode cL_row 123 = .ok (.iload 6, 2) := by decide +kernel
theorem dL_row_125 : decode cL_row 125 = .ok (.iload 5, 2) := by decide +kernel
theorem dL_row_127 : decode cL_row 127 = .ok (.isub, 1) := by decide +kernel
theorem dL_row_128 : decode cL_row 128 = .ok (.aload_n 3, 1) := by decide +kernel
theorem dL_row_129 : decode cL_row 129 = .ok (.arraylength, 1) := by decide +kernel
theorem dL_row_130 : decode cL_row 130 = .ok (.invokestatic 19, 3) := by decide +kernel
theorem dL_row_133 : decode cL_row 133 = .ok (.istore 7, 2) := by decide +kernel
theorem dL_row_135 : decode cL_row 135 = .ok (.aload_n 3, 1) := by decide +kernel
theorem dL_row_136 : decode cL_row 136 = .ok (.iload 5, 2) := by decide +kernel
theorem dL_row_138 : decode cL_row 138 = .ok (.iload 7, 2) := by decide +kernel
theorem dL_row_140 : decode cL_row 140 = .ok (.aload_n 3, 1) := by decide +kernel
theorem dL_row_141 : decode cL_row 141 = .ok (.arraylength, 1) := by decide +kernel
theorem dL_row_142 : decode cL_row 142 = .ok (.aload_n 3, 1) := by decide +kernel
theorem dL_row_143 : decode cL_row 143 = .ok (.iload 5, 2) := by decide +kernel
theorem dL_row_145 : decode cL_row 145 = .ok (.iaload, 1) := by decide +kernel
theorem dL_row_146 : decode cL_row 146 = .ok (.iload_n 2, 1) := by decide +kernel
theorem dL_row_147 : decode cL_row 147 = .ok (.iconst 5, 1) := by decide +kernel
theorem dL_row_148 : decode cL_row 148 = .ok (.ishr, 1) := by decide +kernel
theorem dL_row_149 : decode cL_row 149 = .ok (.iadd, 1) := by decide +kernel
theorem dL_row_150 : decode cL_row 150 = .ok (.bipush 9, 2) := by decide +kernel
theorem dL_row_152 : decode cL_row 152 = .ok (.iload 7, 2) := by decide +kernel
theorem dL_row_154 : decode cL_row 154 = .ok (.isub, 1) := by decide +kernel
theorem dL_row_155 : decode cL_row 155 = .ok (.aload_n 3, 1) := by decide +kernel
theorem dL_row_156 : decode cL_row 156 = .ok (.arraylength, 1) := by decide +kernel
theorem dL_row_157 : decode cL_row 157 = .ok (.idiv, 1) := by decide +kernel
theorem dL_row_158 : decode cL_row 158 = .ok (.iconst 1, 1) := by decide +kernel
theorem dL_row_159 : decode cL_row 159 = .ok (.iadd, 1) := by decide +kernel
theorem dL_row_160 : decode cL_row 160 = .ok (.invokestatic 15, 3) := by decide +kernel
theorem dL_row_163 : decode cL_row 163 = .ok (.imul, 1) := by decide +kernel
theorem dL_row_164 : decode cL_row 164 = .ok (.iadd, 1) := by decide +kernel
theorem dL_row_165 : decode cL_row 165 = .ok (.iastore, 1) := by decide +kernel
theorem dL_row_166 : decode cL_row 166 = .ok (.iinc 5 1, 3) := by decide +kernel
theorem dL_row_169 : decode cL_row 169 = .ok (.goto (-91), 3) := by decide +kernel
theorem dL_row_172 : decode cL_row 172 = .ok (.aload_n 3, 1) := by decide +kernel
theorem dL_row_173 : decode cL_row 173 = .ok (.areturn, 1) := by decide +kernel
theorem dL_number_0 : decode cL_number 0 = .ok (.iconst 0, 1) := by decide +kernel
theorem dL_number_1 : decode cL_number 1 = .ok (.istore_n 1, 1) := by decide +kernel
theorem dL_number_2 : decode cL_number 2 = .ok (.aload_n 0, 1) := by decide +kernel
theorem dL_number_3 : decode cL_number 3 = .ok (.astore_n 2, 1) := by decide +kernel
theorem dL_number_4 : decode cL_number 4 = .ok (.aload_n 2, 1) := by decide +kernel
theorem dL_number_5 : decode cL_number 5 = .ok (.arraylength, 1) := by decide +kernel
theorem dL_number_6 : decode cL_number 6 = .ok (.istore_n 3, 1) := by decide +kernel
theorem dL_number_7 : decode cL_number 7 = .ok (.iconst 0, 1) := by decide +kernel
theorem dL_number_8 : decode cL_number 8 = .ok (.istore 4, 2) := by decide +kernel
theorem dL_number_10 : decode cL_number 10 = .ok (.iload 4, 2) := by decide +kernel
theorem dL_number_12 : decode cL_number 12 = .ok (.iload_n 3, 1) := by decide +kernel
theorem dL_number_13 : decode cL_number 13 = .ok (.if_icmp .ge 23, 3) := by decide +kernel
theorem dL_number_16 : decode cL_number 16 = .ok (.aload_n 2, 1) := by decide +kernel
theorem dL_number_17 : decode cL_number 17 = .ok (.iload 4, 2) := by decide +kernel
theorem dL_number_19 : decode cL_number 19 = .ok (.iaload, 1) := by decide +kernel
theorem dL_number_20 : decode cL_number 20 = .ok (.istore 5, 2) := by decide +kernel
theorem dL_number_22 : decode cL_number 22 = .ok (.bipush 10, 2) := by decide +kernel
theorem dL_number_24 : decode cL_number 24 = .ok (.iload_n 1, 1) := by decide +kernel
theorem dL_number_25 : decode cL_number 25 = .ok (.imul, 1) := by decide +kernel
theorem dL_number_26 : decode cL_number 26 = .ok (.iload 5, 2) := by decide +kernel
theorem dL_number_28 : decode cL_number 28 = .ok (.iadd, 1) := by decide +kernel
theorem dL_number_29 : decode cL_number 29 = .ok (.istore_n 1, 1) := by decide +kernel
theorem dL_number_30 : decode cL_number 30 = .ok (.iinc 4 1, 3) := by decide +kernel
theorem dL_number_33 : decode cL_number 33 = .ok (.goto (-23), 3) := by decide +kernel
theorem dL_number_36 : decode cL_number 36 = .ok (.iload_n 1, 1) := by decide +kernel
theorem dL_number_37 : decode cL_number 37 = .ok (.ireturn, 1) := by decide +kernel
set_option maxRecDepth 20000 in
theorem ggL_law_X3_init : GoodIn wsL_law wsX3_init := goodIn_r _ [5, 6, 7, 8, 9, 10, 11, 12, 13, 14, 15, 16, 17, 18, 19, 20, 21, 22, 23, 24, 25, 26, 27, 28, 29, 30, 31, 32, 33, 409, 410, 411, 412, 413, 414, 415, 416, 417, 418, 419, 420, 421, 422, 423, 424] (by decide +kernel) (by decide +kernel)
set_option maxRecDepth 20000 in
theorem gL_law_X3_init : GoodIn wsL_law (wsX3_init) := ggL_law_X3_init
set_option maxRecDepth 20000 in
theorem ggL_law_L_row : GoodIn wsL_law wsL_row := goodIn_r _ [37, 23, 38, 39, 40, 36, 41, 42, 43, 44, 45, 46, 47, 48, 49, 50] (by decide +kernel) (by decide +kernel)
set_option maxRecDepth 20000 in
theorem gL_law_L_row : GoodIn wsL_law (va_wsS RL 27 yL_row wsL_row) := goodIn_app (goodIn_of _ (by decide +kernel)) ggL_law_L_row
set_option maxRecDepth 20000 in
theorem ggL_law_L_number : GoodIn wsL_law wsL_number := goodIn_r _ [53] (by decide +kernel) (by decide +kernel)
set_option maxRecDepth 20000 in
theorem gL_law_L_number : GoodIn wsL_law (va_wsS RL 31 yL_number wsL_number) := goodIn_app (goodIn_of _ (by decide +kernel)) ggL_law_L_number
set_option maxRecDepth 20000 in
theorem ggL_law_X3_tell : GoodIn wsL_law wsX3_tell := goodIn_ca (goodIn_ca (goodIn_r _ [57, 58, 59, 60, 61, 19, 10, 9, 62, 63, 64, 65, 2, 66, 67, 68, 69, 70, 71, 72, 73, 7, 8, 23, 74, 75, 76, 77, 78, 79, 80, 81, 82, 83, 84, 85, 86, 87, 88, 89, 90, 91, 92, 93, 48, 49, 50, 94, 95, 96, 97, 98, 99, 100, 101, 102, 103, 104, 105, 106, 107, 108, 109, 110, 111, 112, 409, 410, 411, 412, 425, 426, 427, 428, 429, 430, 431] (by decide +kernel) (by decide +kernel)) (goodIn_sub (fun _ h => List.mem_append_left _ (List.mem_append_left _ (List.mem_append_right _ h))) (by decide +kernel))) (goodIn_sub (fun _ h => List.mem_append_left _ (List.mem_append_right _ h)) (by decide +kernel))
set_option maxRecDepth 20000 in
theorem gL_law_X3_tell : GoodIn wsL_law (wsV RL 35 RX3 yX3_tell wsX3_tell) := goodIn_app (goodIn_of _ (by decide +kernel)) ggL_law_X3_tell
set_option maxRecDepth 20000 in
theorem ggL_law_X3_ofRow : GoodIn wsL_law wsX3_ofRow := goodIn_ca (goodIn_ca (goodIn_r _ [116, 117, 118, 58, 59, 119, 120, 121, 2, 122, 19, 10, 64, 65, 66, 123, 124, 125, 63, 126, 79, 86, 127, 128, 129, 130, 131, 132, 133, 134, 74, 87, 88, 135, 136, 137, 138, 139, 140, 141, 142, 143, 144, 145, 146, 147, 148, 149, 150, 151, 152, 153, 154, 76, 155, 156, 157, 158, 159, 160, 161, 162, 78, 163, 164, 165, 166, 167, 168, 169, 170, 171, 172, 173, 174, 109, 110, 111, 112, 89, 90, 91, 92, 93, 48, 49, 50, 175, 176, 177, 178, 77, 409, 410, 411, 412, 425, 426, 427, 428, 429, 430, 431] (by decide +kernel) (by decide +kernel)) (goodIn_sub (fun _ h => List.mem_append_right _ h) (by decide +kernel))) (goodIn_sub (fun _ h => List.mem_append_left _ (List.mem_append_left _ (List.mem_append_right _ h))) (by decide +kernel))
set_option maxRecDepth 20000 in
theorem gL_law_X3_ofRow : GoodIn wsL_law (wsV RL 38 RX3 yX3_ofRow wsX3_ofRow) := goodIn_app (goodIn_of _ (by decide +kernel)) ggL_law_X3_ofRow
set_option maxRecDepth 20000 in
theorem ggL_law_L_isShared : GoodIn wsL_law wsL_isShared := goodIn_ca (goodIn_ca (goodIn_r _ [181, 182, 140, 141, 142, 113, 114, 115, 2, 116, 117, 118, 58, 59, 119, 120, 121, 122, 19, 10, 64, 65, 66, 123, 124, 125, 63, 126, 79, 86, 127, 128, 129, 130, 131, 132, 133, 134, 74, 87, 88, 135, 136, 137, 138, 139, 143, 144, 145, 146, 147, 148, 149, 150, 151, 152, 153, 154, 76, 155, 156, 157, 158, 159, 160, 161, 162, 78, 163, 164, 165, 166, 167, 168, 169, 170, 171, 172, 173, 174, 109, 110, 111, 112, 89, 90, 91, 92, 93, 48, 49, 50, 175, 176, 177, 178, 77, 183, 184, 185, 186, 187, 188, 189, 190, 191, 192, 193, 194, 195, 95, 96, 97, 98, 99, 100, 409, 410, 411, 412, 425, 426, 427, 428, 429, 430, 431] (by decide +kernel) (by decide +kernel)) (goodIn_sub (fun _ h => List.mem_append_right _ h) (by decide +kernel))) (goodIn_sub (fun _ h => List.mem_append_left _ (List.mem_append_left _ (List.mem_append_right _ h))) (by decide +kernel))
set_option maxRecDepth 20000 in
theorem gL_law_L_isShared : GoodIn wsL_law (va_wsS RL 41 yL_isShared wsL_isShared) := goodIn_app (goodIn_of _ (by decide +kernel)) ggL_law_L_isShared
set_option maxRecDepth 20000 in
theorem ggL_law_L_cell : GoodIn wsL_law wsL_cell := goodIn_r _ [41, 42] (by decide +kernel) (by decide +kernel)
set_option maxRecDepth 20000 in
theorem gL_law_L_cell : GoodIn wsL_law (va_wsS RL 9 yL_cell wsL_cell) := goodIn_app (goodIn_of _ (by decide +kernel)) ggL_law_L_cell
set_option maxRecDepth 20000 in
theorem ggL_law_L_below : GoodIn wsL_law wsL_below := goodIn_r _ [45, 46] (by decide +kernel) (by decide +kernel)
set_option maxRecDepth 20000 in
theorem gL_law_L_below : GoodIn wsL_law (va_wsS RL 15 yL_below wsL_below) := goodIn_app (goodIn_of _ (by decide +kernel)) ggL_law_L_below
set_option maxRecDepth 20000 in
theorem ggL_law_X3_take : GoodIn wsL_law wsX3_take := goodIn_ca (goodIn_r _ [199, 58, 59, 14, 64, 65, 2, 66, 200, 201, 202, 13, 203, 204, 205, 206, 24, 25, 26, 80, 81, 207, 208, 209, 210, 211, 212, 213, 214, 87, 88, 409, 410, 411, 412, 413, 414, 415, 416, 417, 418, 419, 420] (by decide +kernel) (by decide +kernel)) (goodIn_sub (fun _ h => List.mem_append_left _ (List.mem_append_left _ (List.mem_append_right _ h))) (by decide +kernel))
set_option maxRecDepth 20000 in
theorem gL_law_X3_take : GoodIn wsL_law (wsV RL 45 RX3 yX3_take wsX3_take) := goodIn_app (goodIn_of _ (by decide +kernel)) ggL_law_X3_take
set_option maxRecDepth 20000 in
theorem ggL_law_X3_many : GoodIn wsL_law wsX3_many := goodIn_ca (goodIn_r _ [218, 58, 59, 64, 65, 2, 66, 219, 220, 221, 222, 19, 14, 223, 224, 225, 13, 226, 204, 207, 208, 209, 210, 211, 212, 213, 214, 24, 205, 87, 88, 227, 228, 229, 230, 231, 232, 233, 234, 235, 236, 237, 238, 239, 240, 241, 242, 243, 244, 245, 246, 247, 25, 248, 249, 250, 251, 119, 120, 121, 122, 10, 252, 253, 254, 63, 255, 86, 256, 257, 258, 259, 260, 261, 262, 263, 264, 409, 410, 411, 412, 413, 414, 415, 416, 417, 418, 419, 420, 425, 426, 427, 428, 429, 430, 431] (by decide +kernel) (by decide +kernel)) (goodIn_sub (fun _ h => List.mem_append_left _ (List.mem_append_left _ (List.mem_append_right _ h))) (by decide +kernel))
set_option maxRecDepth 20000 in
theorem gL_law_X3_many : GoodIn wsL_law (wsV RL 49 RX3 yX3_many wsX3_many) := goodIn_app (goodIn_of _ (by decide +kernel)) ggL_law_X3_many
set_option maxRecDepth 20000 in
theorem ggL_law_X3_would : GoodIn wsL_law wsX3_would := goodIn_ca (goodIn_r _ [268, 58, 59, 14, 269, 270, 2, 271, 64, 65, 66, 207, 208, 209, 13, 210, 204, 211, 212, 213, 214, 24, 205, 87, 88, 272, 273, 274, 409, 410, 411, 412, 413, 414, 415, 416, 417, 418, 419, 420] (by decide +kernel) (by decide +kernel)) (goodIn_sub (fun _ h => List.mem_append_left _ (List.mem_append_left _ (List.mem_append_right _ h))) (by decide +kernel))
set_option maxRecDepth 20000 in
theorem gL_law_X3_would : GoodIn wsL_law (wsV RL 52 RX3 yX3_would wsX3_would) := goodIn_app (goodIn_of _ (by decide +kernel)) ggL_law_X3_would
set_option maxRecDepth 20000 in
theorem ggL_law_X3_toss : GoodIn wsL_law wsX3_toss := goodIn_ca (goodIn_r _ [278, 58, 59, 14, 269, 270, 2, 271, 64, 65, 66, 279, 280, 281, 13, 282, 205, 264, 283, 208, 209, 210, 204, 211, 212, 213, 214, 24, 87, 88, 273, 274, 284, 285, 286, 287, 235, 288, 257, 258, 259, 289, 290, 291, 292, 26, 80, 81, 293, 294, 295, 296, 25, 297, 298, 299, 300, 206, 301, 302, 409, 410, 411, 412, 413, 414, 415, 416, 417, 418, 419, 420] (by decide +kernel) (by decide +kernel)) (goodIn_sub (fun _ h => List.mem_append_left _ (List.mem_append_left _ (List.mem_append_right _ h))) (by decide +kernel))
set_option maxRecDepth 20000 in
theorem gL_law_X3_toss : GoodIn wsL_law (wsV RL 55 RX3 yX3_toss wsX3_toss) := goodIn_app (goodIn_of _ (by decide +kernel)) ggL_law_X3_toss
set_option maxRecDepth 20000 in
theorem ggL_law_J6_bitCount_0f7a4 : GoodIn wsL_law wsJ6_bitCount_0f7a4 := goodIn_r _ [97, 98, 99, 100] (by decide +kernel) (by decide +kernel)
set_option maxRecDepth 20000 in
theorem gL_law_J6_bitCount_0f7a4 : GoodIn wsL_law (va_wsS RL 58 yJ6_bitCount_0f7a4 wsJ6_bitCount_0f7a4) := goodIn_app (goodIn_of _ (by decide +kernel)) ggL_law_J6_bitCount_0f7a4
set_option maxRecDepth 20000 in
theorem ggL_law_X3_tired : GoodIn wsL_law wsX3_tired := goodIn_r _ [306, 14, 307, 308, 309, 13, 310, 206, 409, 410, 411, 412, 413, 414, 415, 416, 417, 418, 419, 420] (by decide +kernel) (by decide +kernel)
set_option maxRecDepth 20000 in
theorem gL_law_X3_tired : GoodIn wsL_law (wsV RL 63 RX3 yX3_tired wsX3_tired) := goodIn_app (goodIn_of _ (by decide +kernel)) ggL_law_X3_tired
set_option maxRecDepth 20000 in
theorem ggL_law_X3_pick : GoodIn wsL_law wsX3_pick := goodIn_r _ [314, 14, 315, 316, 317, 13, 318, 204, 24, 205, 288, 257, 258, 259, 211, 212, 213, 214, 87, 2, 88, 240, 241, 242, 243, 80, 81, 409, 410, 411, 412, 413, 414, 415, 416, 417, 418, 419, 420] (by decide +kernel) (by decide +kernel)
set_option maxRecDepth 20000 in
theorem gL_law_X3_pick : GoodIn wsL_law (wsV RL 67 RX3 yX3_pick wsX3_pick) := goodIn_app (goodIn_of _ (by decide +kernel)) ggL_law_X3_pick
set_option maxRecDepth 20000 in
theorem ggL_law_X3_digest : GoodIn wsL_law wsX3_digest := goodIn_r _ [322, 323, 324, 19, 14, 325, 219, 220, 221, 2, 222, 223, 224, 225, 13, 226, 204, 207, 208, 209, 210, 211, 212, 213, 214, 24, 205, 87, 88, 227, 228, 229, 230, 231, 232, 233, 234, 235, 236, 237, 238, 239, 240, 241, 242, 243, 244, 245, 246, 247, 25, 248, 249, 250, 251, 119, 120, 121, 122, 10, 252, 253, 254, 63, 255, 86, 256, 257, 258, 259, 260, 261, 262, 263, 264, 326, 327, 328, 329, 123, 124, 125, 126, 79, 127, 128, 129, 130, 131, 132, 133, 134, 74, 135, 136, 137, 138, 139, 140, 141, 142, 143, 144, 145, 146, 147, 148, 149, 150, 151, 152, 153, 154, 76, 155, 156, 157, 158, 159, 160, 161, 162, 78, 163, 164, 165, 166, 167, 168, 169, 170, 171, 172, 173, 174, 109, 110, 111, 112, 89, 90, 91, 92, 93, 48, 49, 50, 175, 176, 177, 178, 77, 330, 331, 332, 333, 191, 192, 193, 194, 334, 335, 336, 337, 18, 338, 339, 95, 96, 97, 98, 99, 100, 340, 341, 342, 17, 343, 33, 30, 31, 32, 344, 345, 346, 347, 80, 81, 348, 349, 350, 351, 273, 274, 352, 353, 354, 355, 356, 357, 358, 359, 360, 361, 362, 363, 364, 365, 366, 367, 368, 26, 369, 370, 371, 372, 272, 307, 308, 309, 310, 206, 409, 410, 411, 412, 413, 414, 415, 416, 417, 418, 419, 420, 425, 426, 427, 428, 429, 430, 431, 421, 422, 423, 424] (by decide +kernel) (by decide +kernel)
set_option maxRecDepth 20000 in
theorem gL_law_X3_digest : GoodIn wsL_law (wsV RL 71 RX3 yX3_digest wsX3_digest) := goodIn_app (goodIn_of _ (by decide +kernel)) ggL_law_X3_digest
set_option maxRecDepth 20000 in
theorem ggL_law_X3_way : GoodIn wsL_law wsX3_way := goodIn_ca (goodIn_r _ [376, 117, 118, 119, 120, 121, 2, 122, 19, 10, 334, 335, 336, 337, 14, 18, 207, 208, 209, 13, 210, 204, 211, 212, 213, 214, 24, 205, 87, 88, 338, 128, 129, 63, 130, 86, 79, 131, 132, 133, 134, 74, 339, 95, 96, 97, 98, 99, 100, 340, 341, 342, 17, 343, 33, 30, 31, 32, 344, 345, 346, 347, 80, 81, 348, 349, 350, 351, 273, 274, 330, 331, 332, 333, 352, 160, 161, 162, 78, 353, 354, 355, 356, 409, 410, 411, 412, 413, 414, 415, 416, 417, 418, 419, 420, 425, 426, 427, 428, 429, 430, 431, 421, 422, 423, 424] (by decide +kernel) (by decide +kernel)) (goodIn_sub (fun _ h => List.mem_append_right _ h) (by decide +kernel))
set_option maxRecDepth 20000 in
theorem gL_law_X3_way : GoodIn wsL_law (wsV RL 75 RX3 yX3_way wsX3_way) := goodIn_app (goodIn_of _ (by decide +kernel)) ggL_law_X3_way
set_option maxRecDepth 20000 in
theorem ggL_law_X3_first : GoodIn wsL_law wsX3_first := goodIn_ca (goodIn_r _ [380, 117, 118, 119, 120, 121, 2, 122, 19, 10, 357, 358, 359, 360, 18, 334, 335, 336, 337, 14, 207, 208, 209, 13, 210, 204, 211, 212, 213, 214, 24, 205, 87, 88, 338, 128, 129, 63, 130, 86, 79, 131, 132, 133, 134, 74, 339, 95, 96, 97, 98, 99, 100, 340, 341, 342, 17, 343, 33, 30, 31, 32, 344, 345, 346, 347, 80, 81, 348, 349, 350, 351, 273, 274, 330, 331, 332, 333, 352, 160, 161, 162, 78, 353, 354, 355, 356, 361, 362, 363, 364, 409, 410, 411, 412, 413, 414, 415, 416, 417, 418, 419, 420, 425, 426, 427, 428, 429, 430, 431, 421, 422, 423, 424] (by decide +kernel) (by decide +kernel)) (goodIn_sub (fun _ h => List.mem_append_right _ h) (by decide +kernel))
set_option maxRecDepth 20000 in
theorem gL_law_X3_first : GoodIn wsL_law (wsV RL 78 RX3 yX3_first wsX3_first) := goodIn_app (goodIn_of _ (by decide +kernel)) ggL_law_X3_first
set_option maxRecDepth 20000 in
theorem ggL_law_X3_alike : GoodIn wsL_law wsX3_alike := goodIn_ca (goodIn_r _ [384, 117, 118, 119, 120, 121, 2, 122, 19, 10, 385, 172, 173, 63, 174, 79, 74, 109, 110, 111, 112, 89, 90, 91, 92, 93, 48, 49, 50, 87, 88, 409, 410, 411, 412, 425, 426, 427, 428, 429, 430, 431] (by decide +kernel) (by decide +kernel)) (goodIn_sub (fun _ h => List.mem_append_right _ h) (by decide +kernel))
set_option maxRecDepth 20000 in
theorem gL_law_X3_alike : GoodIn wsL_law (wsV RL 81 RX3 yX3_alike wsX3_alike) := goodIn_app (goodIn_of _ (by decide +kernel)) ggL_law_X3_alike
set_option maxRecDepth 20000 in
theorem ggL_law_X3_high : GoodIn wsL_law wsX3_high := goodIn_ca (goodIn_r _ [389, 117, 118, 119, 120, 121, 2, 122, 19, 10, 390, 136, 137, 63, 138, 79, 74, 139, 140, 141, 142, 87, 88, 391, 392, 393, 394, 395, 396, 397, 398, 399, 400, 401, 409, 410, 411, 412, 425, 426, 427, 428, 429, 430, 431] (by decide +kernel) (by decide +kernel)) (goodIn_sub (fun _ h => List.mem_append_right _ h) (by decide +kernel))
set_option maxRecDepth 20000 in
theorem gL_law_X3_high : GoodIn wsL_law (wsV RL 84 RX3 yX3_high wsX3_high) := goodIn_app (goodIn_of _ (by decide +kernel)) ggL_law_X3_high
set_option maxRecDepth 20000 in
theorem ggL_law_X3_count : GoodIn wsL_law wsX3_count := goodIn_ca (goodIn_r _ [405, 58, 59, 64, 65, 2, 66, 406, 407, 408] (by decide +kernel) (by decide +kernel)) (goodIn_sub (fun _ h => List.mem_append_left _ (List.mem_append_left _ (List.mem_append_right _ h))) (by decide +kernel))
set_option maxRecDepth 20000 in
theorem gL_law_X3_count : GoodIn wsL_law (wsV RL 88 RX3 yX3_count wsX3_count) := goodIn_app (goodIn_of _ (by decide +kernel)) ggL_law_X3_count
theorem dL_law_0 : decode cL_law 0 = .ok (.new 24, 3) := by decide +kernel
theorem dL_law_3 : decode cL_law 3 = .ok (.dup, 1) := by decide +kernel
theorem dL_law_4 : decode cL_law 4 = .ok (.invokespecial 26, 3) := by decide +kernel
theorem dL_law_7 : decode cL_law 7 = .ok (.astore_n 1, 1) := by decide +kernel
theorem dL_law_8 : decode cL_law 8 = .ok (.iconst 0, 1) := by decide +kernel
theorem dL_law_9 : decode cL_law 9 = .ok (.istore_n 2, 1) := by decide +kernel
theorem dL_law_10 : decode cL_law 10 = .ok (.iload_n 2, 1) := by decide +kernel
theorem dL_law_11 : decode cL_law 11 = .ok (.iconst 5, 1) := by decide +kernel
theorem dL_law_12 : decode cL_law 12 = .ok (.if_icmp .ge 48, 3) := by decide +kernel
theorem dL_law_15 : decode cL_law 15 = .ok (.aload_n 0, 1) := by decide +kernel
theorem dL_law_16 : decode cL_law 16 = .ok (.iconst 3, 1) := by decide +kernel
theorem dL_law_17 : decode cL_law 17 = .ok (.iload_n 2, 1) := by decide +kernel
theorem dL_law_18 : decode cL_law 18 = .ok (.imul, 1) := by decide +kernel
theorem dL_law_19 : decode cL_law 19 = .ok (.invokestatic 27, 3) := by decide +kernel
theorem dL_law_22 : decode cL_law 22 = .ok (.astore_n 3, 1) := by decide +kernel
theorem dL_law_23 : decode cL_law 23 = .ok (.aload_n 1, 1) := by decide +kernel
theorem dL_law_24 : decode cL_law 24 = .ok (.aload_n 3, 1) := by decide +kernel
theorem dL_law_25 : decode cL_law 25 = .ok (.invokestatic 31, 3) := by decide +kernel
theorem dL_law_28 : decode cL_law 28 = .ok (.aload_n 3, 1) := by decide +kernel
theorem dL_law_29 : decode cL_law 29 = .ok (.arraylength, 1) := by decide +kernel
theorem dL_law_30 : decode cL_law 30 = .ok (.invokevirtual 35, 3) := by decide +kernel
theorem dL_law_33 : decode cL_law 33 = .ok (.pop, 1) := by decide +kernel
theorem dL_law_34 : decode cL_law 34 = .ok (.aload_n 1, 1) := by decide +kernel
theorem dL_law_35 : decode cL_law 35 = .ok (.iload_n 2, 1) := by decide +kernel
theorem dL_law_36 : decode cL_law 36 = .ok (.iconst 1, 1) := by decide +kernel
theorem dL_law_37 : decode cL_law 37 = .ok (.invokevirtual 38, 3) := by decide +kernel
theorem dL_law_40 : decode cL_law 40 = .ok (.iconst 1, 1) := by decide +kernel
theorem dL_law_41 : decode cL_law 41 = .ok (.if_icmp .ne 13, 3) := by decide +kernel
theorem dL_law_44 : decode cL_law 44 = .ok (.aload_n 1, 1) := by decide +kernel
theorem dL_law_45 : decode cL_law 45 = .ok (.iload_n 2, 1) := by decide +kernel
theorem dL_law_46 : decode cL_law 46 = .ok (.invokestatic 41, 3) := by decide +kernel
theorem dL_law_49 : decode cL_law 49 = .ok (.ifCond .ne 5, 3) := by decide +kernel
theorem dL_law_52 : decode cL_law 52 = .ok (.iconst 0, 1) := by decide +kernel
theorem dL_law_53 : decode cL_law 53 = .ok (.ireturn, 1) := by decide +kernel
theorem dL_law_54 : decode cL_law 54 = .ok (.iinc 2 1, 3) := by decide +kernel
theorem dL_law_57 : decode cL_law 57 = .ok (.goto (-47), 3) := by decide +kernel
theorem dL_law_60 : decode cL_law 60 = .ok (.iconst 1, 1) := by decide +kernel
theorem dL_law_61 : decode cL_law 61 = .ok (.aload_n 0, 1) := by decide +kernel
theorem dL_law_62 : decode cL_law 62 = .ok (.iconst 5, 1) := by decide +kernel
theorem dL_law_63 : decode cL_law 63 = .ok (.invokestatic 9, 3) := by decide +kernel
theorem dL_law_66 : decode cL_law 66 = .ok (.bipush 6, 2) := by decide +kernel
theorem dL_law_68 : decode cL_law 68 = .ok (.invokestatic 15, 3) := by decide +kernel
theorem dL_law_71 : decode cL_law 71 = .ok (.iadd, 1) := by decide +kernel
theorem dL_law_72 : decode cL_law 72 = .ok (.istore_n 2, 1) := by decide +kernel
theorem dL_law_73 : decode cL_law 73 = .ok (.aload_n 1, 1) := by decide +kernel
theorem dL_law_74 : decode cL_law 74 = .ok (.iload_n 2, 1) := by decide +kernel
theorem dL_law_75 : decode cL_law 75 = .ok (.invokevirtual 45, 3) := by decide +kernel
theorem dL_law_78 : decode cL_law 78 = .ok (.pop, 1) := by decide +kernel
theorem dL_law_79 : decode cL_law 79 = .ok (.iconst 0, 1) := by decide +kernel
theorem dL_law_80 : decode cL_law 80 = .ok (.istore_n 3, 1) := by decide +kernel
theorem dL_law_81 : decode cL_law 81 = .ok (.iload_n 3, 1) := by decide +kernel
theorem dL_law_82 : decode cL_law 82 = .ok (.bipush 60, 2) := by decide +kernel
theorem dL_law_84 : decode cL_law 84 = .ok (.if_icmp .ge 233, 3) := by decide +kernel
theorem dL_law_87 : decode cL_law 87 = .ok (.aload_n 0, 1) := by decide +kernel
theorem dL_law_88 : decode cL_law 88 = .ok (.iload_n 3, 1) := by decide +kernel
theorem dL_law_89 : decode cL_law 89 = .ok (.bipush 16, 2) := by decide +kernel
theorem dL_law_91 : decode cL_law 91 = .ok (.irem, 1) := by decide +kernel
theorem dL_law_92 : decode cL_law 92 = .ok (.invokestatic 9, 3) := by decide +kernel
theorem dL_law_95 : decode cL_law 95 = .ok (.bipush 11, 2) := by decide +kernel
theorem dL_law_97 : decode cL_law 97 = .ok (.iload_n 3, 1) := by decide +kernel
theorem dL_law_98 : decode cL_law 98 = .ok (.imul, 1) := by decide +kernel
theorem dL_law_99 : decode cL_law 99 = .ok (.iadd, 1) := by decide +kernel
theorem dL_law_100 : decode cL_law 100 = .ok (.bipush 10, 2) := by decide +kernel
theorem dL_law_102 : decode cL_law 102 = .ok (.invokestatic 15, 3) := by decide +kernel
theorem dL_law_105 : decode cL_law 105 = .ok (.istore 4, 2) := by decide +kernel
theorem dL_law_107 : decode cL_law 107 = .ok (.aload_n 1, 1) := by decide +kernel
theorem dL_law_108 : decode cL_law 108 = .ok (.iconst 2, 1) := by decide +kernel
theorem dL_law_109 : decode cL_law 109 = .ok (.invokevirtual 49, 3) := by decide +kernel
theorem dL_law_112 : decode cL_law 112 = .ok (.istore 5, 2) := by decide +kernel
theorem dL_law_114 : decode cL_law 114 = .ok (.aload_n 1, 1) := by decide +kernel
theorem dL_law_115 : decode cL_law 115 = .ok (.iload 4, 2) := by decide +kernel
theorem dL_law_117 : decode cL_law 117 = .ok (.invokevirtual 52, 3) := by decide +kernel
theorem dL_law_120 : decode cL_law 120 = .ok (.istore 6, 2) := by decide +kernel
theorem dL_law_122 : decode cL_law 122 = .ok (.aload_n 1, 1) := by decide +kernel
theorem dL_law_123 : decode cL_law 123 = .ok (.iconst 4, 1) := by decide +kernel
theorem dL_law_124 : decode cL_law 124 = .ok (.invokevirtual 49, 3) := by decide +kernel
theorem dL_law_127 : decode cL_law 127 = .ok (.istore 7, 2) := by decide +kernel
theorem dL_law_129 : decode cL_law 129 = .ok (.aload_n 1, 1) := by decide +kernel
theorem dL_law_130 : decode cL_law 130 = .ok (.iconst 5, 1) := by decide +kernel
theorem dL_law_131 : decode cL_law 131 = .ok (.invokevirtual 49, 3) := by decide +kernel
theorem dL_law_134 : decode cL_law 134 = .ok (.istore 8, 2) := by decide +kernel
theorem dL_law_136 : decode cL_law 136 = .ok (.aload_n 1, 1) := by decide +kernel
theorem dL_law_137 : decode cL_law 137 = .ok (.iload 4, 2) := by decide +kernel
theorem dL_law_139 : decode cL_law 139 = .ok (.invokevirtual 55, 3) := by decide +kernel
theorem dL_law_142 : decode cL_law 142 = .ok (.istore 9, 2) := by decide +kernel
theorem dL_law_144 : decode cL_law 144 = .ok (.aload_n 1, 1) := by decide +kernel
theorem dL_law_145 : decode cL_law 145 = .ok (.iconst 4, 1) := by decide +kernel
theorem dL_law_146 : decode cL_law 146 = .ok (.invokevirtual 49, 3) := by decide +kernel
theorem dL_law_149 : decode cL_law 149 = .ok (.iload 7, 2) := by decide +kernel
theorem dL_law_151 : decode cL_law 151 = .ok (.if_icmp .le 7, 3) := by decide +kernel
theorem dL_law_154 : decode cL_law 154 = .ok (.iconst 1, 1) := by decide +kernel
theorem dL_law_155 : decode cL_law 155 = .ok (.goto 4, 3) := by decide +kernel
theorem dL_law_158 : decode cL_law 158 = .ok (.iconst 0, 1) := by decide +kernel
theorem dL_law_159 : decode cL_law 159 = .ok (.istore 10, 2) := by decide +kernel
theorem dL_law_161 : decode cL_law 161 = .ok (.iload 10, 2) := by decide +kernel
theorem dL_law_163 : decode cL_law 163 = .ok (.iload 6, 2) := by decide +kernel
theorem dL_law_165 : decode cL_law 165 = .ok (.ifCond .ge 7, 3) := by decide +kernel
theorem dL_law_168 : decode cL_law 168 = .ok (.iconst 1, 1) := by decide +kernel
theorem dL_law_169 : decode cL_law 169 = .ok (.goto 4, 3) := by decide +kernel
theorem dL_law_172 : decode cL_law 172 = .ok (.iconst 0, 1) := by decide +kernel
theorem dL_law_173 : decode cL_law 173 = .ok (.if_icmp .ne 39, 3) := by decide +kernel
theorem dL_law_176 : decode cL_law 176 = .ok (.iload 10, 2) := by decide +kernel
theorem dL_law_178 : decode cL_law 178 = .ok (.ifCond .ne 13, 3) := by decide +kernel
theorem dL_law_181 : decode cL_law 181 = .ok (.aload_n 1, 1) := by decide +kernel
theorem dL_law_182 : decode cL_law 182 = .ok (.iconst 2, 1) := by decide +kernel
theorem dL_law_183 : decode cL_law 183 = .ok (.invokevirtual 49, 3) := by decide +kernel
theorem dL_law_186 : decode cL_law 186 = .ok (.iload 6, 2) := by decide +kernel
theorem dL_law_188 : decode cL_law 188 = .ok (.if_icmp .ne 24, 3) := by decide +kernel
theorem dL_law_191 : decode cL_law 191 = .ok (.iload 10, 2) := by decide +kernel
theorem dL_law_193 : decode cL_law 193 = .ok (.ifCond .eq 8, 3) := by decide +kernel
theorem dL_law_196 : decode cL_law 196 = .ok (.iload 9, 2) := by decide +kernel
theorem dL_law_198 : decode cL_law 198 = .ok (.ifCond .ge 14, 3) := by decide +kernel
theorem dL_law_201 : decode cL_law 201 = .ok (.aload_n 1, 1) := by decide +kernel
theorem dL_law_202 : decode cL_law 202 = .ok (.iconst 3, 1) := by decide +kernel
theorem dL_law_203 : decode cL_law 203 = .ok (.invokevirtual 49, 3) := by decide +kernel
theorem dL_law_206 : decode cL_law 206 = .ok (.iload_n 3, 1) := by decide +kernel
theorem dL_law_207 : decode cL_law 207 = .ok (.iconst 1, 1) := by decide +kernel
theorem dL_law_208 : decode cL_law 208 = .ok (.iadd, 1) := by decide +kernel
theorem dL_law_209 : decode cL_law 209 = .ok (.if_icmp .eq 5, 3) := by decide +kernel
theorem dL_law_212 : decode cL_law 212 = .ok (.iconst 0, 1) := by decide +kernel
theorem dL_law_213 : decode cL_law 213 = .ok (.ireturn, 1) := by decide +kernel
theorem dL_law_214 : decode cL_law 214 = .ok (.aload_n 1, 1) := by decide +kernel
theorem dL_law_215 : decode cL_law 215 = .ok (.iconst 5, 1) := by decide +kernel
theorem dL_law_216 : decode cL_law 216 = .ok (.invokevirtual 49, 3) := by decide +kernel
theorem dL_law_219 : decode cL_law 219 = .ok (.iload 8, 2) := by decide +kernel
theorem dL_law_221 : decode cL_law 221 = .ok (.if_icmp .lt 59, 3) := by decide +kernel
theorem dL_law_224 : decode cL_law 224 = .ok (.aload_n 1, 1) := by decide +kernel
theorem dL_law_225 : decode cL_law 225 = .ok (.iconst 5, 1) := by decide +kernel
theorem dL_law_226 : decode cL_law 226 = .ok (.invokevirtual 49, 3) := by decide +kernel
theorem dL_law_229 : decode cL_law 229 = .ok (.iload 8, 2) := by decide +kernel
theorem dL_law_231 : decode cL_law 231 = .ok (.iconst 2, 1) := by decide +kernel
theorem dL_law_232 : decode cL_law 232 = .ok (.iadd, 1) := by decide +kernel
theorem dL_law_233 : decode cL_law 233 = .ok (.if_icmp .gt 47, 3) := by decide +kernel
theorem dL_law_236 : decode cL_law 236 = .ok (.aload_n 1, 1) := by decide +kernel
theorem dL_law_237 : decode cL_law 237 = .ok (.iconst 2, 1) := by decide +kernel
theorem dL_law_238 : decode cL_law 238 = .ok (.invokevirtual 49, 3) := by decide +kernel
theorem dL_law_241 : decode cL_law 241 = .ok (.invokestatic 58, 3) := by decide +kernel
theorem dL_law_244 : decode cL_law 244 = .ok (.aload_n 1, 1) := by decide +kernel
theorem dL_law_245 : decode cL_law 245 = .ok (.iconst 5, 1) := by decide +kernel
theorem dL_law_246 : decode cL_law 246 = .ok (.invokevirtual 49, 3) := by decide +kernel
theorem dL_law_249 : decode cL_law 249 = .ok (.iadd, 1) := by decide +kernel
theorem dL_law_250 : decode cL_law 250 = .ok (.iload_n 2, 1) := by decide +kernel
theorem dL_law_251 : decode cL_law 251 = .ok (.if_icmp .ne 29, 3) := by decide +kernel
theorem dL_law_254 : decode cL_law 254 = .ok (.iload 5, 2) := by decide +kernel
theorem dL_law_256 : decode cL_law 256 = .ok (.iconst 1, 1) := by decide +kernel
theorem dL_law_257 : decode cL_law 257 = .ok (.iand, 1) := by decide +kernel
theorem dL_law_258 : decode cL_law 258 = .ok (.ifCond .ne 13, 3) := by decide +kernel
theorem dL_law_261 : decode cL_law 261 = .ok (.aload_n 1, 1) := by decide +kernel
theorem dL_law_262 : decode cL_law 262 = .ok (.iconst 5, 1) := by decide +kernel
theorem dL_law_263 : decode cL_law 263 = .ok (.invokevirtual 49, 3) := by decide +kernel
theorem dL_law_266 : decode cL_law 266 = .ok (.iload 8, 2) := by decide +kernel
theorem dL_law_268 : decode cL_law 268 = .ok (.if_icmp .ne 12, 3) := by decide +kernel
theorem dL_law_271 : decode cL_law 271 = .ok (.aload_n 1, 1) := by decide +kernel
theorem dL_law_272 : decode cL_law 272 = .ok (.invokevirtual 63, 3) := by decide +kernel
theorem dL_law_275 : decode cL_law 275 = .ok (.dconst 0, 1) := by decide +kernel
theorem dL_law_276 : decode cL_law 276 = .ok (.dcmp .g, 1) := by decide +kernel
theorem dL_law_277 : decode cL_law 277 = .ok (.ifCond .ge 5, 3) := by decide +kernel
theorem dL_law_280 : decode cL_law 280 = .ok (.iconst 0, 1) := by decide +kernel
theorem dL_law_281 : decode cL_law 281 = .ok (.ireturn, 1) := by decide +kernel
theorem dL_law_282 : decode cL_law 282 = .ok (.iload_n 3, 1) := by decide +kernel
theorem dL_law_283 : decode cL_law 283 = .ok (.bipush 7, 2) := by decide +kernel
theorem dL_law_285 : decode cL_law 285 = .ok (.invokestatic 15, 3) := by decide +kernel
theorem dL_law_288 : decode cL_law 288 = .ok (.bipush 6, 2) := by decide +kernel
theorem dL_law_290 : decode cL_law 290 = .ok (.if_icmp .ne 21, 3) := by decide +kernel
theorem dL_law_293 : decode cL_law 293 = .ok (.aload_n 1, 1) := by decide +kernel
theorem dL_law_294 : decode cL_law 294 = .ok (.invokevirtual 67, 3) := by decide +kernel
theorem dL_law_297 : decode cL_law 297 = .ok (.ifCond .lt 14, 3) := by decide +kernel
theorem dL_law_300 : decode cL_law 300 = .ok (.aload_n 1, 1) := by decide +kernel
theorem dL_law_301 : decode cL_law 301 = .ok (.bipush 8, 2) := by decide +kernel
theorem dL_law_303 : decode cL_law 303 = .ok (.invokevirtual 49, 3) := by decide +kernel
theorem dL_law_306 : decode cL_law 306 = .ok (.ifCond .ge 5, 3) := by decide +kernel
theorem dL_law_309 : decode cL_law 309 = .ok (.iconst 0, 1) := by decide +kernel
theorem dL_law_310 : decode cL_law 310 = .ok (.ireturn, 1) := by decide +kernel
theorem dL_law_311 : decode cL_law 311 = .ok (.iinc 3 1, 3) := by decide +kernel
theorem dL_law_314 : decode cL_law 314 = .ok (.goto (-233), 3) := by decide +kernel
theorem dL_law_317 : decode cL_law 317 = .ok (.aload_n 1, 1) := by decide +kernel
theorem dL_law_318 : decode cL_law 318 = .ok (.invokevirtual 71, 3) := by decide +kernel
theorem dL_law_321 : decode cL_law 321 = .ok (.lstore_n 3, 1) := by decide +kernel
theorem dL_law_322 : decode cL_law 322 = .ok (.iconst 0, 1) := by decide +kernel
theorem dL_law_323 : decode cL_law 323 = .ok (.istore 5, 2) := by decide +kernel
theorem dL_law_325 : decode cL_law 325 = .ok (.iload 5, 2) := by decide +kernel
theorem dL_law_327 : decode cL_law 327 = .ok (.iconst 5, 1) := by decide +kernel
theorem dL_law_328 : decode cL_law 328 = .ok (.if_icmp .ge 55, 3) := by decide +kernel
theorem dL_law_331 : decode cL_law 331 = .ok (.aload_n 1, 1) := by decide +kernel
theorem dL_law_332 : decode cL_law 332 = .ok (.iload 5, 2) := by decide +kernel
theorem dL_law_334 : decode cL_law 334 = .ok (.invokevirtual 75, 3) := by decide +kernel
theorem dL_law_337 : decode cL_law 337 = .ok (.bipush 9, 2) := by decide +kernel
theorem dL_law_339 : decode cL_law 339 = .ok (.if_icmp .gt 36, 3) := by decide +kernel
theorem dL_law_342 : decode cL_law 342 = .ok (.aload_n 1, 1) := by decide +kernel
theorem dL_law_343 : decode cL_law 343 = .ok (.iload 5, 2) := by decide +kernel
theorem dL_law_345 : decode cL_law 345 = .ok (.invokevirtual 78, 3) := by decide +kernel
theorem dL_law_348 : decode cL_law 348 = .ok (.bipush 9, 2) := by decide +kernel
theorem dL_law_350 : decode cL_law 350 = .ok (.if_icmp .gt 25, 3) := by decide +kernel
theorem dL_law_353 : decode cL_law 353 = .ok (.aload_n 1, 1) := by decide +kernel
theorem dL_law_354 : decode cL_law 354 = .ok (.iload 5, 2) := by decide +kernel
theorem dL_law_356 : decode cL_law 356 = .ok (.iload 5, 2) := by decide +kernel
theorem dL_law_358 : decode cL_law 358 = .ok (.invokevirtual 81, 3) := by decide +kernel
theorem dL_law_361 : decode cL_law 361 = .ok (.ifCond .ne 14, 3) := by decide +kernel
theorem dL_law_364 : decode cL_law 364 = .ok (.aload_n 1, 1) := by decide +kernel
theorem dL_law_365 : decode cL_law 365 = .ok (.iload 5, 2) := by decide +kernel
theorem dL_law_367 : decode cL_law 367 = .ok (.invokevirtual 84, 3) := by decide +kernel
theorem dL_law_370 : decode cL_law 370 = .ok (.dconst 0, 1) := by decide +kernel
theorem dL_law_371 : decode cL_law 371 = .ok (.dcmp .g, 1) := by decide +kernel
theorem dL_law_372 : decode cL_law 372 = .ok (.ifCond .ge 5, 3) := by decide +kernel
theorem dL_law_375 : decode cL_law 375 = .ok (.iconst 0, 1) := by decide +kernel
theorem dL_law_376 : decode cL_law 376 = .ok (.ireturn, 1) := by decide +kernel
theorem dL_law_377 : decode cL_law 377 = .ok (.iinc 5 1, 3) := by decide +kernel
theorem dL_law_380 : decode cL_law 380 = .ok (.goto (-55), 3) := by decide +kernel
theorem dL_law_383 : decode cL_law 383 = .ok (.aload_n 1, 1) := by decide +kernel
theorem dL_law_384 : decode cL_law 384 = .ok (.iconst 3, 1) := by decide +kernel
theorem dL_law_385 : decode cL_law 385 = .ok (.iconst 2, 1) := by decide +kernel
theorem dL_law_386 : decode cL_law 386 = .ok (.invokevirtual 88, 3) := by decide +kernel
theorem dL_law_389 : decode cL_law 389 = .ok (.bipush 19, 2) := by decide +kernel
theorem dL_law_391 : decode cL_law 391 = .ok (.if_icmp .ne 16, 3) := by decide +kernel
theorem dL_law_394 : decode cL_law 394 = .ok (.aload_n 1, 1) := by decide +kernel
theorem dL_law_395 : decode cL_law 395 = .ok (.invokevirtual 71, 3) := by decide +kernel
theorem dL_law_398 : decode cL_law 398 = .ok (.lload_n 3, 1) := by decide +kernel
theorem dL_law_399 : decode cL_law 399 = .ok (.lcmp, 1) := by decide +kernel
theorem dL_law_400 : decode cL_law 400 = .ok (.ifCond .ne 7, 3) := by decide +kernel
theorem dL_law_403 : decode cL_law 403 = .ok (.iconst 1, 1) := by decide +kernel
theorem dL_law_404 : decode cL_law 404 = .ok (.goto 4, 3) := by decide +kernel
theorem dL_law_407 : decode cL_law 407 = .ok (.iconst 0, 1) := by decide +kernel
theorem dL_law_408 : decode cL_law 408 = .ok (.ireturn, 1) := by decide +kernel
set_option maxRecDepth 20000 in
theorem ggL_isShared_X3_ofRow : GoodIn wsL_isShared wsX3_ofRow := goodIn_ca (goodIn_ca (goodIn_r _ [9, 10, 11, 12, 13, 14, 15, 16, 8, 17, 18, 19, 20, 21, 22, 23, 24, 25, 26, 27, 28, 29, 30, 31, 32, 33, 34, 35, 36, 37, 38, 39, 40, 41, 42, 43, 44, 45, 2, 3, 4, 46, 47, 48, 49, 50, 51, 52, 53, 54, 55, 56, 57, 58, 59, 60, 61, 62, 63, 64, 65, 66, 67, 68, 69, 70, 71, 72, 73, 74, 75, 76, 77, 78, 79, 80, 81, 82, 83, 84, 85, 86, 87, 88, 89, 90, 91, 92, 93, 94, 95, 96, 116, 117, 118, 119, 120, 121, 122, 123, 124, 125, 126] (by decide +kernel) (by decide +kernel)) (goodIn_sub (fun _ h => List.mem_cons_of_mem _ (List.mem_append_left _ (List.mem_append_right _ h))) (by decide +kernel))) (goodIn_sub (fun _ h => List.mem_cons_of_mem _ (List.mem_append_right _ h)) (by decide +kernel))
set_option maxRecDepth 20000 in
theorem gL_isShared_X3_ofRow : GoodIn wsL_isShared (wsV RL 38 RX3 yX3_ofRow wsX3_ofRow) := goodIn_app (goodIn_of _ (by decide +kernel)) ggL_isShared_X3_ofRow
set_option maxRecDepth 20000 in
theorem ggL_isShared_X3_ofSite : GoodIn wsL_isShared wsX3_ofSite := goodIn_ca (goodIn_ca (goodIn_r _ [100, 10, 11, 12, 13, 14, 15, 16, 8, 17, 18, 19, 101, 102, 103, 26, 104, 28, 20, 21, 22, 105, 106, 107, 108, 38, 58, 29, 96, 39, 40, 63, 64, 65, 66, 67, 116, 117, 118, 119, 120, 121, 122, 123, 124, 125, 126] (by decide +kernel) (by decide +kernel)) (goodIn_sub (fun _ h => List.mem_cons_of_mem _ (List.mem_append_left _ (List.mem_append_right _ h))) (by decide +kernel))) (goodIn_sub (fun _ h => List.mem_cons_of_mem _ (List.mem_append_right _ h)) (by decide +kernel))
set_option maxRecDepth 20000 in
theorem gL_isShared_X3_ofSite : GoodIn wsL_isShared (wsV RL 91 RX3 yX3_ofSite wsX3_ofSite) := goodIn_app (goodIn_of _ (by decide +kernel)) ggL_isShared_X3_ofSite
set_option maxRecDepth 20000 in
theorem ggL_isShared_J6_bitCount_0f7a4 : GoodIn wsL_isShared wsJ6_bitCount_0f7a4 := goodIn_r _ [112, 113, 114, 115] (by decide +kernel) (by decide +kernel)
set_option maxRecDepth 20000 in
theorem gL_isShared_J6_bitCount_0f7a4 : GoodIn wsL_isShared (va_wsS RL 58 yJ6_bitCount_0f7a4 wsJ6_bitCount_0f7a4) := goodIn_app (goodIn_of _ (by decide +kernel)) ggL_isShared_J6_bitCount_0f7a4
theorem dL_isShared_0 : decode cL_isShared 0 = .ok (.aload_n 0, 1) := by decide +kernel
theorem dL_isShared_1 : decode cL_isShared 1 = .ok (.iload_n 1, 1) := by decide +kernel
theorem dL_isShared_2 : decode cL_isShared 2 = .ok (.iconst 0, 1) := by decide +kernel
theorem dL_isShared_3 : decode cL_isShared 3 = .ok (.invokevirtual 38, 3) := by decide +kernel
theorem dL_isShared_6 : decode cL_isShared 6 = .ok (.istore_n 2, 1) := by decide +kernel
theorem dL_isShared_7 : decode cL_isShared 7 = .ok (.aload_n 0, 1) := by decide +kernel
theorem dL_isShared_8 : decode cL_isShared 8 = .ok (.iload_n 1, 1) := by decide +kernel
theorem dL_isShared_9 : decode cL_isShared 9 = .ok (.iconst 2, 1) := by decide +kernel
theorem dL_isShared_10 : decode cL_isShared 10 = .ok (.invokevirtual 38, 3) := by decide +kernel
theorem dL_isShared_13 : decode cL_isShared 13 = .ok (.istore_n 3, 1) := by decide +kernel
theorem dL_isShared_14 : decode cL_isShared 14 = .ok (.iconst 0, 1) := by decide +kernel
theorem dL_isShared_15 : decode cL_isShared 15 = .ok (.istore 4, 2) := by decide +kernel
theorem dL_isShared_17 : decode cL_isShared 17 = .ok (.iconst 0, 1) := by decide +kernel
theorem dL_isShared_18 : decode cL_isShared 18 = .ok (.istore 5, 2) := by decide +kernel
theorem dL_isShared_20 : decode cL_isShared 20 = .ok (.iload 5, 2) := by decide +kernel
theorem dL_isShared_22 : decode cL_isShared 22 = .ok (.iload_n 2, 1) := by decide +kernel
theorem dL_isShared_23 : decode cL_isShared 23 = .ok (.if_icmp .ge 72, 3) := by decide +kernel
theorem dL_isShared_26 : decode cL_isShared 26 = .ok (.iload 4, 2) := by decide +kernel
theorem dL_isShared_28 : decode cL_isShared 28 = .ok (.aload_n 0, 1) := by decide +kernel
theorem dL_isShared_29 : decode cL_isShared 29 = .ok (.iload_n 1, 1) := by decide +kernel
theorem dL_isShared_30 : decode cL_isShared 30 = .ok (.iload 5, 2) := by decide +kernel
theorem dL_isShared_32 : decode cL_isShared 32 = .ok (.iconst 0, 1) := by decide +kernel
theorem dL_isShared_33 : decode cL_isShared 33 = .ok (.invokevirtual 91, 3) := by decide +kernel
theorem dL_isShared_36 : decode cL_isShared 36 = .ok (.iadd, 1) := by decide +kernel
theorem dL_isShared_37 : decode cL_isShared 37 = .ok (.istore 4, 2) := by decide +kernel
theorem dL_isShared_39 : decode cL_isShared 39 = .ok (.aload_n 0, 1) := by decide +kernel
theorem dL_isShared_40 : decode cL_isShared 40 = .ok (.iload_n 1, 1) := by decide +kernel
theorem dL_isShared_41 : decode cL_isShared 41 = .ok (.iload 5, 2) := by decide +kernel
theorem dL_isShared_43 : decode cL_isShared 43 = .ok (.iconst 2, 1) := by decide +kernel
theorem dL_isShared_44 : decode cL_isShared 44 = .ok (.invokevirtual 91, 3) := by decide +kernel
theorem dL_isShared_47 : decode cL_isShared 47 = .ok (.invokestatic 58, 3) := by decide +kernel
theorem dL_isShared_50 : decode cL_isShared 50 = .ok (.iload_n 3, 1) := by decide +kernel
theorem dL_isShared_51 : decode cL_isShared 51 = .ok (.if_icmp .ne 36, 3) := by decide +kernel
theorem dL_isShared_54 : decode cL_isShared 54 = .ok (.aload_n 0, 1) := by decide +kernel
theorem dL_isShared_55 : decode cL_isShared 55 = .ok (.iload_n 1, 1) := by decide +kernel
theorem dL_isShared_56 : decode cL_isShared 56 = .ok (.iload 5, 2) := by decide +kernel
theorem dL_isShared_58 : decode cL_isShared 58 = .ok (.iconst 4, 1) := by decide +kernel
theorem dL_isShared_59 : decode cL_isShared 59 = .ok (.invokevirtual 91, 3) := by decide +kernel
theorem dL_isShared_62 : decode cL_isShared 62 = .ok (.iload_n 3, 1) := by decide +kernel
theorem dL_isShared_63 : decode cL_isShared 63 = .ok (.if_icmp .gt 24, 3) := by decide +kernel
theorem dL_isShared_66 : decode cL_isShared 66 = .ok (.aload_n 0, 1) := by decide +kernel
theorem dL_isShared_67 : decode cL_isShared 67 = .ok (.iload_n 1, 1) := by decide +kernel
theorem dL_isShared_68 : decode cL_isShared 68 = .ok (.iload 5, 2) := by decide +kernel
theorem dL_isShared_70 : decode cL_isShared 70 = .ok (.iconst 3, 1) := by decide +kernel
theorem dL_isShared_71 : decode cL_isShared 71 = .ok (.invokevirtual 91, 3) := by decide +kernel
theorem dL_isShared_74 : decode cL_isShared 74 = .ok (.iload_n 2, 1) := by decide +kernel
theorem dL_isShared_75 : decode cL_isShared 75 = .ok (.aload_n 0, 1) := by decide +kernel
theorem dL_isShared_76 : decode cL_isShared 76 = .ok (.iload_n 1, 1) := by decide +kernel
theorem dL_isShared_77 : decode cL_isShared 77 = .ok (.iload 5, 2) := by decide +kernel
theorem dL_isShared_79 : decode cL_isShared 79 = .ok (.iconst 4, 1) := by decide +kernel
theorem dL_isShared_80 : decode cL_isShared 80 = .ok (.invokevirtual 91, 3) := by decide +kernel
theorem dL_isShared_83 : decode cL_isShared 83 = .ok (.imul, 1) := by decide +kernel
theorem dL_isShared_84 : decode cL_isShared 84 = .ok (.if_icmp .eq 5, 3) := by decide +kernel
theorem dL_isShared_87 : decode cL_isShared 87 = .ok (.iconst 0, 1) := by decide +kernel
theorem dL_isShared_88 : decode cL_isShared 88 = .ok (.ireturn, 1) := by decide +kernel
theorem dL_isShared_89 : decode cL_isShared 89 = .ok (.iinc 5 1, 3) := by decide +kernel
theorem dL_isShared_92 : decode cL_isShared 92 = .ok (.goto (-72), 3) := by decide +kernel
theorem dL_isShared_95 : decode cL_isShared 95 = .ok (.iload 4, 2) := by decide +kernel
theorem dL_isShared_97 : decode cL_isShared 97 = .ok (.iload_n 2, 1) := by decide +kernel
theorem dL_isShared_98 : decode cL_isShared 98 = .ok (.iload_n 3, 1) := by decide +kernel
theorem dL_isShared_99 : decode cL_isShared 99 = .ok (.imul, 1) := by decide +kernel
theorem dL_isShared_100 : decode cL_isShared 100 = .ok (.if_icmp .ne 45, 3) := by decide +kernel
theorem dL_isShared_103 : decode cL_isShared 103 = .ok (.aload_n 0, 1) := by decide +kernel
theorem dL_isShared_104 : decode cL_isShared 104 = .ok (.iload_n 1, 1) := by decide +kernel
theorem dL_isShared_105 : decode cL_isShared 105 = .ok (.bipush 9, 2) := by decide +kernel
theorem dL_isShared_107 : decode cL_isShared 107 = .ok (.invokevirtual 38, 3) := by decide +kernel
theorem dL_isShared_110 : decode cL_isShared 110 = .ok (.iload 4, 2) := by decide +kernel
theorem dL_isShared_112 : decode cL_isShared 112 = .ok (.if_icmp .gt 33, 3) := by decide +kernel
theorem dL_isShared_115 : decode cL_isShared 115 = .ok (.aload_n 0, 1) := by decide +kernel
theorem dL_isShared_116 : decode cL_isShared 116 = .ok (.iload_n 1, 1) := by decide +kernel
theorem dL_isShared_117 : decode cL_isShared 117 = .ok (.iconst 5, 1) := by decide +kernel
theorem dL_isShared_118 : decode cL_isShared 118 = .ok (.invokevirtual 38, 3) := by decide +kernel
theorem dL_isShared_121 : decode cL_isShared 121 = .ok (.iload_n 3, 1) := by decide +kernel
theorem dL_isShared_122 : decode cL_isShared 122 = .ok (.iconst 0, 1) := by decide +kernel
theorem dL_isShared_123 : decode cL_isShared 123 = .ok (.invokestatic 95, 3) := by decide +kernel
theorem dL_isShared_126 : decode cL_isShared 126 = .ok (.if_icmp .gt 19, 3) := by decide +kernel
theorem dL_isShared_129 : decode cL_isShared 129 = .ok (.iload_n 2, 1) := by decide +kernel
theorem dL_isShared_130 : decode cL_isShared 130 = .ok (.aload_n 0, 1) := by decide +kernel
theorem dL_isShared_131 : decode cL_isShared 131 = .ok (.iload_n 1, 1) := by decide +kernel
theorem dL_isShared_132 : decode cL_isShared 132 = .ok (.bipush 8, 2) := by decide +kernel
theorem dL_isShared_134 : decode cL_isShared 134 = .ok (.invokevirtual 38, 3) := by decide +kernel
theorem dL_isShared_137 : decode cL_isShared 137 = .ok (.irem, 1) := by decide +kernel
theorem dL_isShared_138 : decode cL_isShared 138 = .ok (.ifCond .ne 7, 3) := by decide +kernel
theorem dL_isShared_141 : decode cL_isShared 141 = .ok (.iconst 1, 1) := by decide +kernel
theorem dL_isShared_142 : decode cL_isShared 142 = .ok (.goto 4, 3) := by decide +kernel
theorem dL_isShared_145 : decode cL_isShared 145 = .ok (.iconst 0, 1) := by decide +kernel
theorem dL_isShared_146 : decode cL_isShared 146 = .ok (.ireturn, 1) := by decide +kernel
abbrev vwCl : List vw_C := [(RX0, TX0, 8), (RX1, TX1, 7), (RX2, TX2, 4), (RX3, TX3, 4)]
end
section
/-! MY OWN: what every contract of this claim stands on -/
/-- the nest mates' private methods: their links -/
def cNL : List Cond := [.methodLinkNest RX0 32 yX3_setCell "Cascadecourt", .methodLinkNest RX0 42 yX3_cell "Cascadecourt", .methodLinkNest RX0 61 yX3_stateBehind "Cascadecourt", .methodLinkNest RX1 31 yX3_setCell "Cascadecourt", .methodLinkNest RX1 52 yX3_cell "Cascadecourt", .methodLinkNest RX2 25 yX3_cell "Cascadecourt", .methodLinkNest RX2 35 yX3_setCell "Cascadecourt", .methodLinkNest RX2 43 yX3_stateBehind "Cascadecourt", .methodLinkNest RX3 17 yX0_init "Cascadecourt", .methodLinkNest RX3 24 yX2_init "Cascadecourt"]
def cN (U : State) : Prop := ∀ w ∈ cNL, va_Nw w U
theorem cN_form : ∀ w ∈ cNL, ∃ a i x h, w = .methodLinkNest a i x h := by
  intro w h
  simp only [cNL, List.mem_cons, List.not_mem_nil, or_false] at h
  rcases h with rfl | rfl | rfl | rfl | rfl | rfl | rfl | rfl | rfl | rfl <;> exact ⟨_, _, _, _, rfl⟩
theorem cN.warm {s U : State} (hW : s.WarmedH U.vm) (h : cN s) : cN U := by
  intro w hw
  obtain ⟨a, i, x, n, rfl⟩ := cN_form w hw
  exact va_Nw.warmM hW (h _ hw)
abbrev cT (cI cR : ClassId) : List (ClassId × FieldType) := [(cI, .int), (cR, .object "Cascadecourt$Row")]
/-- the classes, the arrays and the links, as the tables have them -/
def cE (D : va_G) (cI cR : ClassId) (U : State) : Prop := va_K D vwCl (cT cI cR) U ∧ cN U
theorem cE.warm {D : va_G} {cI cR : ClassId} {s U : State} (hW : s.WarmedH U.vm) (h : cE D cI cR s) : cE D cI cR U := ⟨va_K.moved hW.alike h.1, h.2.warm hW⟩
theorem cE.same {D : va_G} {cI cR : ClassId} {s U : State} (hv : s.vm = U.vm) (h : cE D cI cR s) : cE D cI cR U := by
  refine ⟨va_K.moved (by rw [hv]; exact Vm.Alike.refl _) h.1, fun w hw => ?_⟩
  obtain ⟨a, i, x, n, rfl⟩ := cN_form w hw
  exact va_Nw.same rfl hv (h.2 _ hw)
theorem p_clt (x : Int32) : x.toNatClampNeg < 2147483648 := by
  have h := x.toInt_lt
  show x.toInt.toNat < _
  omega
theorem p_le {x : Int32} {k : Nat} (hk : k < 2147483648) : x ≤ nI k ↔ x.toNatClampNeg ≤ k := by
  rw [Int32.le_iff_toInt_le, nI_toInt hk]
  show _ ↔ x.toInt.toNat ≤ k
  omega
theorem p_lt {x : Int32} {k : Nat} (hk : k < 2147483648) : nI k < x ↔ k < x.toNatClampNeg := by
  rw [Int32.lt_iff_toInt_lt, nI_toInt hk]
  show _ ↔ k < x.toInt.toNat
  omega
theorem p_nar {r : Int32} (h : r = 0 ∨ r = 1) : narrow .boolean (.int r) = .int r := by
  rcases h with rfl | rfl <;> rfl
theorem p_fit {r : Int32} (h : r = 0 ∨ r = 1) : fits .boolean (.int r) = true := by
  rcases h with rfl | rfl <;> rfl
theorem p_vp {i : Int32} {n : Nat} (hn : n < 2 ^ 31) (h1 : ¬ i < 0) (h2 : ¬ nI n ≤ i) : vp_in i n := by
  intro h
  rcases h with h | h
  · exact h1 h
  · obtain ⟨k, hk, rfl⟩ := nI_of h1
    rw [nI_clamp hk] at h
    exact h2 (nI_le h hk)
/-! the worlds: a juggler, a row, the ways, a court: each a few cells, read off one value -/
abbrev JS : Type := (Nat → Int32) × (Nat → Int32) × (Nat → Int32) × Int32 × Int32 × Int32 × Int32 × UInt64
abbrev RS : Type := (Nat → Int32) × (Nat → Int32) × (Nat → Int32) × (Nat → Int32) × (Nat → Int32) × Int32 × Int32
abbrev YS : Type := (Nat → Int32) × (Nat → Int32) × (Nat → Int32) × Int32
abbrev XS : Type := (Nat → Option Nat) × Int32
abbrev wJ (cI : ClassId) (j a1 a2 a3 : Nat) (σ : JS) : va_W := [(j, .inr (0, [.ref a1, .ref a2, .ref a3, .int σ.2.2.2.1, .int σ.2.2.2.2.1, .int σ.2.2.2.2.2.1, .int σ.2.2.2.2.2.2.1, .double σ.2.2.2.2.2.2.2])), (a1, .inl (cI, 6, .inl σ.1)), (a2, .inl (cI, 6, .inl σ.2.1)), (a3, .inl (cI, 6, .inl σ.2.2.1))]
abbrev wR (cI : ClassId) (h h1 h2 h3 h4 h5 : Nat) (ρ : RS) : va_W := [(h, .inr (1, [.ref h1, .ref h2, .ref h3, .ref h4, .ref h5, .int ρ.2.2.2.2.2.1, .int ρ.2.2.2.2.2.2])), (h1, .inl (cI, 8, .inl ρ.1)), (h2, .inl (cI, 8, .inl ρ.2.1)), (h3, .inl (cI, 8, .inl ρ.2.2.1)), (h4, .inl (cI, 8, .inl ρ.2.2.2.1)), (h5, .inl (cI, 8, .inl ρ.2.2.2.2.1))]
abbrev wY (cI : ClassId) (y b1 b2 b3 : Nat) (η : YS) : va_W := [(y, .inr (2, [.ref b1, .ref b2, .ref b3, .int η.2.2.2])), (b1, .inl (cI, 512, .inl η.1)), (b2, .inl (cI, 512, .inl η.2.1)), (b3, .inl (cI, 512, .inl η.2.2.1))]
abbrev wX (_cI cR : ClassId) (x rw j y : Nat) (ξ : XS) : va_W := [(x, .inr (3, [.ref rw, .ref j, .ref y, .int ξ.2])), (rw, .inl (cR, 8, .inr (.inr (.inr (.inr ξ.1)))))]
theorem p_out3 {x : Int32} (k0 : ¬ x = 0) (k1 : ¬ x = 1) (k2 : ¬ x = 2) : x.toInt < 0 ∨ 2 < x.toInt := by
  by_cases h0 : x.toInt < 0
  · exact Or.inl h0
  · by_cases h1 : 2 < x.toInt
    · exact Or.inr h1
    · exfalso
      obtain ⟨j, hj, rfl⟩ := nI_of (x := x) (fun q => h0 (by rw [Int32.lt_iff_toInt_lt, Int32.toInt_zero] at q; exact q))
      rw [nI_toInt hj] at h1
      have hj2 : j < 3 := by omega
      match j, hj2 with
      | 0, _ => exact k0 rfl
      | 1, _ => exact k1 rfl
      | 2, _ => exact k2 rfl
theorem p_out4 {x : Int32} (k0 : ¬ x = 0) (k1 : ¬ x = 1) (k2 : ¬ x = 2) (k3 : ¬ x = 3) : x.toInt < 0 ∨ 3 < x.toInt := by
  by_cases h0 : x.toInt < 0
  · exact Or.inl h0
  · by_cases h1 : 3 < x.toInt
    · exact Or.inr h1
    · exfalso
      obtain ⟨j, hj, rfl⟩ := nI_of (x := x) (fun q => h0 (by rw [Int32.lt_iff_toInt_lt, Int32.toInt_zero] at q; exact q))
      rw [nI_toInt hj] at h1
      have hj2 : j < 4 := by omega
      match j, hj2 with
      | 0, _ => exact k0 rfl
      | 1, _ => exact k1 rfl
      | 2, _ => exact k2 rfl
      | 3, _ => exact k3 rfl
theorem p_out9 {x : Int32} (k0 : ¬ x = 0) (k1 : ¬ x = 1) (k2 : ¬ x = 2) (k3 : ¬ x = 3) (k4 : ¬ x = 4) (k5 : ¬ x = 5) (k6 : ¬ x = 6) (k7 : ¬ x = 7) (k8 : ¬ x = 8) : x.toInt < 0 ∨ 8 < x.toInt := by
  by_cases h0 : x.toInt < 0
  · exact Or.inl h0
  · by_cases h1 : 8 < x.toInt
    · exact Or.inr h1
    · exfalso
      obtain ⟨j, hj, rfl⟩ := nI_of (x := x) (fun q => h0 (by rw [Int32.lt_iff_toInt_lt, Int32.toInt_zero] at q; exact q))
      rw [nI_toInt hj] at h1
      have hj2 : j < 9 := by omega
      match j, hj2 with
      | 0, _ => exact k0 rfl
      | 1, _ => exact k1 rfl
      | 2, _ => exact k2 rfl
      | 3, _ => exact k3 rfl
      | 4, _ => exact k4 rfl
      | 5, _ => exact k5 rfl
      | 6, _ => exact k6 rfl
      | 7, _ => exact k7 rfl
      | 8, _ => exact k8 rfl
theorem p_pos {x : Int32} (h : ¬ x ≤ 0) : ¬ x = 0 := fun e => h (by rw [e]; decide)
theorem p_9 {k : Nat} (h : 9 < k) (hk : k < 2147483648) : (9 : Int32) < nI k := nI_lt (a := 9) h hk
theorem p_9n {k : Nat} (h : k ≤ 9) : ¬ (9 : Int32) < nI k := nI_nlt (b := k) (a := 9) h (by decide)
theorem p_512 {k : Nat} (h : 512 ≤ k) (hk : k < 2147483648) : (512 : Int32) ≤ nI k := nI_le (a := 512) h hk
theorem p_512n {k : Nat} (h : k < 512) : ¬ (512 : Int32) ≤ nI k := nI_ge (a := k) (b := 512) h (by decide)
/-- a juggler's tiredness can go on by that throw without any NaN -/
def tOK (x : UInt64) (h : Int32) : Prop := vf_n64 (FP.dsub x 4598175219545276416) ∧ vf_n64 (FP.dmul (FP.i2d h) 4593671619917905920) ∧ vf_n64 (FP.dadd x (FP.dmul (FP.i2d h) 4593671619917905920))
end
section
/-! LAID BY MY PROGRAM wip/gen/p26.py: contracts, method by method -/
def S_X3_isWithin (p0 : Int32) (p1 : Int32) (p2 : Int32) : Int32 := (if p0 < p1 then 0 else (if p2 < p0 then 0 else 1))
set_option maxHeartbeats 4000000 in
set_option maxRecDepth 100000 in
theorem c_X3_isWithin (l : Launch)  (p0 : Int32) (p1 : Int32) (p2 : Int32)  : Met l yX3_isWithin wsX3_isWithin ({ frames := 0, cells := 0, slots := 0, locals := 0 }) (va_Pc [.int p0, .int p1, .int p2] (fun _ => True)) (vp_Si (fun r => r = S_X3_isWithin p0 p1 p2 ∧ (r = 0 ∨ r = 1))) 0 0 (fun _ => False) := by
  refine Met.ofW (cc := cX3_isWithin) (maxL := 3) (ret := (some .boolean)) (by decide) rfl ?_
  intro p e s m args below meth c s₁ B hml hv
  obtain ⟨rfl, -⟩ := hv
  have hx := B.exec
  have hb := B.bytes
  have hr := B.returns
  have hlocks := B.notSynchronized
  have hl := lv_entry ([.int p0, .int p1, .int p2]) (n := 3) (Nat.le_of_ble_eq_true rfl)
  rw [lg_entry_eq]
  generalize (lg_sl ([.int p0, .int p1, .int p2]) ++ List.replicate (3 - (lg_sl ([.int p0, .int p1, .int p2])).length) Slot.unset).toArray = ls at hl ⊢
  have hl : lv_has ls 3 [(0, .int p0), (1, .int p1), (2, .int p2)] := hl
  refine lv_iload_n hx hb dX3_isWithin_0 rfl (lv_at hl 0 rfl) ?_
  refine lv_iload_n hx hb dX3_isWithin_1 rfl (lv_at hl 1 rfl) ?_
  refine lv_icmp_lt (tgt := 14) hx hb dX3_isWithin_2 (by decide) (fun c_2 => ?_) (fun c_2 => ?_)
  · refine lv_iconst (v := 0) hx hb dX3_isWithin_14 (by decide) ?_
    exact W.zret (v := 0) (ty := .boolean) hx hb hr (p_nar (Or.inl rfl)) (fun t ht hW => ⟨0, rfl, ⟨by simp only [S_X3_isWithin, if_pos c_2], (Or.inl rfl)⟩, ht⟩) (fun q h => by cases h) dX3_isWithin_15
  · refine lv_iload_n hx hb dX3_isWithin_5 rfl (lv_at hl 0 rfl) ?_
    refine lv_iload_n hx hb dX3_isWithin_6 rfl (lv_at hl 2 rfl) ?_
    refine lv_icmp_gt (tgt := 14) hx hb dX3_isWithin_7 (by decide) (fun c_7 => ?_) (fun c_7 => ?_)
    · refine lv_iconst (v := 0) hx hb dX3_isWithin_14 (by decide) ?_
      exact W.zret (v := 0) (ty := .boolean) hx hb hr (p_nar (Or.inl rfl)) (fun t ht hW => ⟨0, rfl, ⟨by simp only [S_X3_isWithin, if_neg c_2, if_pos c_7], (Or.inl rfl)⟩, ht⟩) (fun q h => by cases h) dX3_isWithin_15
    · refine lv_iconst (v := 1) hx hb dX3_isWithin_10 (by decide) ?_
      refine lv_goto (tgt := 15) hx hb dX3_isWithin_11 (by decide) ?_
      exact W.zret (v := 1) (ty := .boolean) hx hb hr (p_nar (Or.inr rfl)) (fun t ht hW => ⟨1, rfl, ⟨by simp only [S_X3_isWithin, if_neg c_2, if_neg c_7], (Or.inr rfl)⟩, ht⟩) (fun q h => by cases h) dX3_isWithin_15
def S_X3_isThrow (p0 : Int32) : Int32 := S_X3_isWithin p0 0 9
set_option maxHeartbeats 4000000 in
set_option maxRecDepth 100000 in
theorem c_X3_isThrow (l : Launch)  (p0 : Int32)  : Met l yX3_isThrow wsX3_isThrow ({ frames := 1, cells := 0, slots := 0, locals := 22 }) (va_Pc [.int p0] (fun _ => True)) (vp_Si (fun r => r = S_X3_isThrow p0 ∧ (r = 0 ∨ r = 1))) 0 0 (fun _ => False) := by
  refine Met.ofW (cc := cX3_isThrow) (maxL := 1) (ret := (some .boolean)) (by decide) rfl ?_
  intro p e s m args below meth c s₁ B hml hv
  obtain ⟨rfl, -⟩ := hv
  have hx := B.exec
  have hb := B.bytes
  have hr := B.returns
  have hts := atoms_spec (ws := wsX3_isThrow) B.pre
  have hown : s.vm.findClass RX3 = some m.cls := findClass_of_methodNamed B.named
  have hlocks := B.notSynchronized
  have hl := lv_entry ([.int p0]) (n := 1) (Nat.le_of_ble_eq_true rfl)
  rw [lg_entry_eq]
  generalize (lg_sl ([.int p0]) ++ List.replicate (1 - (lg_sl ([.int p0])).length) Slot.unset).toArray = ls at hl ⊢
  have hl : lv_has ls 1 [(0, .int p0)] := hl
  refine lv_iload_n hx hb dX3_isThrow_0 rfl (lv_at hl 0 rfl) ?_
  refine lv_iconst (v := 0) hx hb dX3_isThrow_1 (by decide) ?_
  refine lv_bipush (v := 9) hx hb dX3_isThrow_2 (by decide) ?_
  refine vp_callSi (va_Run.run (va_runS (As := [.int p0, .int 0, .int 9]) (rest := []) ⟨hx, hb, hml, hown, hts⟩ (c_X3_isWithin l p0 0 9) (va_cwS 3 hts gX3_isThrow_X3_isWithin rfl rfl rfl (by decide +kernel) ⟨Nat.le_of_ble_eq_true rfl, Nat.le_of_ble_eq_true rfl⟩) ⟨fun a U g mk q => q, fun U hU hW => ⟨rfl, trivial⟩⟩ rfl rfl hl.1 rfl (lv_room (Nat.le_of_ble_eq_true rfl)) dX3_isThrow_4 ⟨Nat.zero_le _, Nat.zero_le _⟩)) (fun r_4 h_4 => ?_)
  obtain ⟨rfl, hz_4⟩ := h_4
  exact W.zret (v := (S_X3_isWithin p0 0 9)) (ty := .boolean) hx hb hr (p_nar hz_4) (fun t ht hW => ⟨(S_X3_isWithin p0 0 9), rfl, ⟨by simp only [S_X3_isThrow], hz_4⟩, ht⟩) (fun q h => by cases h) dX3_isThrow_7
def S_X3_cell (n : Nat) (f : Nat → Int32) (p1 : Int32) : Int32 := (if p1 < 0 then 0 else (if (nI n) ≤ p1 then 0 else f p1.toNatClampNeg))
set_option maxHeartbeats 4000000 in
set_option maxRecDepth 100000 in
theorem c_X3_cell (l : Launch) (dC : Nat → ClassId) (dI : Nat → Nat → Nat) (cI cR : ClassId) (a n : Nat) (f : Nat → Int32) (hn : n < 2 ^ 31) (p1 : Int32)  : Met l yX3_cell wsX3_cell ({ frames := 0, cells := 0, slots := 0, locals := 0 }) (va_Pc [.ref a, .int p1] (fun U => va_P (dC, dI) vwCl [(a, .inl (cI, n, .inl f))] U.heap ∧ cE (dC, dI) cI cR U)) (vp_Si (fun r => r = S_X3_cell n f p1)) 0 0 (fun _ => False) := by
  refine Met.ofW (cc := cX3_cell) (maxL := 2) (ret := (some .int)) (by decide) rfl ?_
  intro p e s m args below meth c s₁ B hml hv
  obtain ⟨rfl, hP, hE⟩ := hv
  have hK := hE.1
  have hx := B.exec
  have hb := B.bytes
  have hr := B.returns
  have hlocks := B.notSynchronized
  have hP : va_P (dC, dI) vwCl [(a, .inl (cI, n, .inl f))] s.heap := hP
  have hl := lv_entry ([.ref a, .int p1]) (n := 2) (Nat.le_of_ble_eq_true rfl)
  rw [lg_entry_eq]
  generalize (lg_sl ([.ref a, .int p1]) ++ List.replicate (2 - (lg_sl ([.ref a, .int p1])).length) Slot.unset).toArray = ls at hl ⊢
  have hl : lv_has ls 2 [(0, .ref a), (1, .int p1)] := hl
  refine lv_iload_n hx hb dX3_cell_0 rfl (lv_at hl 1 rfl) ?_
  refine lv_if_lt (tgt := 16) hx hb dX3_cell_1 (by decide) (fun c_1 => ?_) (fun c_1 => ?_)
  · refine lv_iconst (v := 0) hx hb dX3_cell_16 (by decide) ?_
    exact W.iret (v := 0) hx hb hr (fun t ht hW => ⟨0, rfl, by simp only [S_X3_cell, if_pos c_1], ht⟩) (fun q h => by cases h) dX3_cell_17
  · refine lv_iload_n hx hb dX3_cell_4 rfl (lv_at hl 1 rfl) ?_
    refine lv_aload_n hx hb dX3_cell_5 rfl (lv_at hl 0 rfl) ?_
    refine va_alen (v := nI n) hx hb hK hP 0 0 rfl rfl rfl dX3_cell_6 ?_
    refine lv_icmp_ge (tgt := 16) hx hb dX3_cell_7 (by decide) (fun c_7 => ?_) (fun c_7 => ?_)
    · refine lv_iconst (v := 0) hx hb dX3_cell_16 (by decide) ?_
      exact W.iret (v := 0) hx hb hr (fun t ht hW => ⟨0, rfl, by simp only [S_X3_cell, if_neg c_1, if_pos c_7], ht⟩) (fun q h => by cases h) dX3_cell_17
    · refine lv_aload_n hx hb dX3_cell_10 rfl (lv_at hl 0 rfl) ?_
      refine lv_iload_n hx hb dX3_cell_11 rfl (lv_at hl 1 rfl) ?_
      refine va_iald hx hb hK hP 0 0 rfl rfl (p_vp hn c_1 c_7) dX3_cell_12 ?_
      refine lv_goto (tgt := 17) hx hb dX3_cell_13 (by decide) ?_
      exact W.iret (v := (f p1.toNatClampNeg)) hx hb hr (fun t ht hW => ⟨(f p1.toNatClampNeg), rfl, by simp only [S_X3_cell, if_neg c_1, if_neg c_7], ht⟩) (fun q h => by cases h) dX3_cell_17
def S_X3_setCell (n : Nat) (f : Nat → Int32) (p1 : Int32) (p2 : Int32) : (Nat → Int32) := (if p1 < 0 then f else (if (nI n) ≤ p1 then f else upd f p1.toNatClampNeg p2))
set_option maxHeartbeats 4000000 in
set_option maxRecDepth 100000 in
theorem c_X3_setCell (l : Launch) (dC : Nat → ClassId) (dI : Nat → Nat → Nat) (cI cR : ClassId) (sz : Nat) (a n : Nat) (f : Nat → Int32) (hn : n < 2 ^ 31) (p1 : Int32) (p2 : Int32)  : Met l yX3_setCell wsX3_setCell ({ frames := 0, cells := 0, slots := 0, locals := 0 }) (va_Pc [.ref a, .int p1, .int p2] (fun U => U.heap.size = sz ∧ va_P (dC, dI) vwCl [(a, .inl (cI, n, .inl f))] U.heap ∧ cE (dC, dI) cI cR U ∧ va_D (fun _ => True) [(a, .inl (cI, n, .inl f))])) (va_Qv (fun _ : Unit => True) (fun (_ : Unit) t => va_P (dC, dI) vwCl [(a, .inl (cI, n, .inl (S_X3_setCell n f p1 p2)))] t.heap ∧ cE (dC, dI) cI cR t ∧ va_D (va_A [(a, .inl (cI, n, .inl f))] sz) [(a, .inl (cI, n, .inl (S_X3_setCell n f p1 p2)))]) (va_A [(a, .inl (cI, n, .inl f))] sz)) 0 0 (va_A [(a, .inl (cI, n, .inl f))] sz) := by
  refine Met.ofW (cc := cX3_setCell) (maxL := 3) (ret := none) (by decide) rfl ?_
  intro p e s m args below meth c s₁ B hml hv
  obtain ⟨rfl, hsz, hP, hE, hD0⟩ := hv
  have hK := hE.1
  have hx := B.exec
  have hb := B.bytes
  have hr := B.returns
  have hlocks := B.notSynchronized
  subst hsz
  have hD := hD0.self (sz := s.heap.size)
  generalize hAe : va_A [(a, .inl (cI, n, .inl f))] s.heap.size = A at hD ⊢
  have hA : ∀ q : Nat, s.heap.size ≤ q → A q := fun q h => by rw [← hAe]; exact Or.inr h
  have hS : va_S A s.heap s.heap [] := va_S.rf
  have hP : va_P (dC, dI) vwCl [(a, .inl (cI, n, .inl f))] s.heap := hP
  have hD : va_D A [(a, .inl (cI, n, .inl f))] := hD
  have hl := lv_entry ([.ref a, .int p1, .int p2]) (n := 3) (Nat.le_of_ble_eq_true rfl)
  rw [lg_entry_eq]
  generalize (lg_sl ([.ref a, .int p1, .int p2]) ++ List.replicate (3 - (lg_sl ([.ref a, .int p1, .int p2])).length) Slot.unset).toArray = ls at hl ⊢
  have hl : lv_has ls 3 [(0, .ref a), (1, .int p1), (2, .int p2)] := hl
  refine lv_iload_n hx hb dX3_setCell_0 rfl (lv_at hl 1 rfl) ?_
  refine lv_if_lt (tgt := 14) hx hb dX3_setCell_1 (by decide) (fun c_1 => ?_) (fun c_1 => ?_)
  · have e9 : S_X3_setCell n f p1 p2 = f := by simp only [S_X3_setCell, if_pos c_1]
    exact W.vret hx hb hr (fun t ht hW => ⟨⟨(), rfl, trivial, by rw [ht, e9]; exact hP, hE.warm hW, by rw [e9]; exact hD⟩, hS.F ht⟩) hS.2.2 dX3_setCell_14
  · refine lv_iload_n hx hb dX3_setCell_4 rfl (lv_at hl 1 rfl) ?_
    refine lv_aload_n hx hb dX3_setCell_5 rfl (lv_at hl 0 rfl) ?_
    refine va_alen (v := nI n) hx hb hK hP 0 0 rfl rfl rfl dX3_setCell_6 ?_
    refine lv_icmp_ge (tgt := 14) hx hb dX3_setCell_7 (by decide) (fun c_7 => ?_) (fun c_7 => ?_)
    · have e9 : S_X3_setCell n f p1 p2 = f := by simp only [S_X3_setCell, if_neg c_1, if_pos c_7]
      exact W.vret hx hb hr (fun t ht hW => ⟨⟨(), rfl, trivial, by rw [ht, e9]; exact hP, hE.warm hW, by rw [e9]; exact hD⟩, hS.F ht⟩) hS.2.2 dX3_setCell_14
    · refine lv_aload_n hx hb dX3_setCell_10 rfl (lv_at hl 0 rfl) ?_
      refine lv_iload_n hx hb dX3_setCell_11 rfl (lv_at hl 1 rfl) ?_
      refine lv_iload_n hx hb dX3_setCell_12 rfl (lv_at hl 2 rfl) ?_
      refine va_iast hx hb hK hP hD hS 0 0 rfl rfl (p_vp hn c_1 c_7) dX3_setCell_13 (fun H locs hP hD hS => ?_)
      have hP : va_P (dC, dI) vwCl [(a, .inl (cI, n, .inl (upd f p1.toNatClampNeg p2)))] H := hP
      have hD : va_D A [(a, .inl (cI, n, .inl (upd f p1.toNatClampNeg p2)))] := hD
      have e9 : S_X3_setCell n f p1 p2 = upd f p1.toNatClampNeg p2 := by simp only [S_X3_setCell, if_neg c_1, if_neg c_7]
      exact W.vret hx hb hr (fun t ht hW => ⟨⟨(), rfl, trivial, by rw [ht, e9]; exact hP, hE.warm hW, by rw [e9]; exact hD⟩, hS.F ht⟩) hS.2.2 dX3_setCell_14
def S_X3_stateBehind (p0 : Int32) (p1 : Int32) : Int32 := (if (p0 &&& 1) = 0 then (if p1 = 0 then p0 >>> (1 &&& 31) else (if ((p0 >>> (p1 &&& 31)) &&& 1) = 0 then (-1) else (-1))) else (if p1 = 0 then (-1) else (if ((p0 >>> (p1 &&& 31)) &&& 1) = 0 then (p0 >>> (1 &&& 31)) ||| (1 <<< ((p1 - 1) &&& 31)) else (-1))))
set_option maxHeartbeats 4000000 in
set_option maxRecDepth 100000 in
theorem c_X3_stateBehind (l : Launch)  (p0 : Int32) (p1 : Int32)  : Met l yX3_stateBehind wsX3_stateBehind ({ frames := 0, cells := 0, slots := 0, locals := 0 }) (va_Pc [.int p0, .int p1] (fun _ => True)) (vp_Si (fun r => r = S_X3_stateBehind p0 p1)) 0 0 (fun _ => False) := by
  refine Met.ofW (cc := cX3_stateBehind) (maxL := 4) (ret := (some .int)) (by decide) rfl ?_
  intro p e s m args below meth c s₁ B hml hv
  obtain ⟨rfl, -⟩ := hv
  have hx := B.exec
  have hb := B.bytes
  have hr := B.returns
  have hlocks := B.notSynchronized
  have hl := lv_entry ([.int p0, .int p1]) (n := 4) (Nat.le_of_ble_eq_true rfl)
  rw [lg_entry_eq]
  generalize (lg_sl ([.int p0, .int p1]) ++ List.replicate (4 - (lg_sl ([.int p0, .int p1])).length) Slot.unset).toArray = ls at hl ⊢
  have hl : lv_has ls 4 [(0, .int p0), (1, .int p1)] := hl
  refine lv_iload_n hx hb dX3_stateBehind_0 rfl (lv_at hl 0 rfl) ?_
  refine lv_iconst (v := 1) hx hb dX3_stateBehind_1 (by decide) ?_
  refine lv_iand hx hb dX3_stateBehind_2 ?_
  refine lv_if_eq (tgt := 10) hx hb dX3_stateBehind_3 (by decide) (fun c_3 => ?_) (fun c_3 => ?_)
  · refine lv_iconst (v := 0) hx hb dX3_stateBehind_10 (by decide) ?_
    refine lv_istore_n (lv' := [(2, .int 0), (0, .int p0), (1, .int p1)]) hx hb dX3_stateBehind_11 rfl hl (by decide) rfl (fun ls hl => ?_)
    refine lv_iload_n hx hb dX3_stateBehind_12 rfl (lv_at hl 2 rfl) ?_
    refine lv_if_ne (tgt := 28) hx hb dX3_stateBehind_13 (by decide) (fun c_13 => ?_) (fun c_13 => ?_)
    · refine lv_iload_n hx hb dX3_stateBehind_28 rfl (lv_at hl 1 rfl) ?_
      refine lv_iload_n hx hb dX3_stateBehind_29 rfl (lv_at hl 2 rfl) ?_
      refine lv_ishr hx hb dX3_stateBehind_30 ?_
      refine lv_iconst (v := 1) hx hb dX3_stateBehind_31 (by decide) ?_
      refine lv_iand hx hb dX3_stateBehind_32 ?_
      refine lv_if_eq (tgt := 40) hx hb dX3_stateBehind_33 (by decide) (fun c_33 => ?_) (fun c_33 => ?_)
      · refine lv_iconst (v := 0) hx hb dX3_stateBehind_40 (by decide) ?_
        refine lv_istore_n (lv' := [(3, .int 0), (2, .int 0), (0, .int p0), (1, .int p1)]) hx hb dX3_stateBehind_41 rfl hl (by decide) rfl (fun ls hl => ?_)
        refine lv_iload_n hx hb dX3_stateBehind_42 rfl (lv_at hl 1 rfl) ?_
        refine lv_if_eq (tgt := 50) hx hb dX3_stateBehind_43 (by decide) (fun c_43 => ?_) (fun c_43 => ?_)
        · refine lv_iconst (v := (-1)) hx hb dX3_stateBehind_50 (by decide) ?_
          refine lv_goto (tgt := 63) hx hb dX3_stateBehind_51 (by decide) ?_
          exact W.iret (v := (-1)) hx hb hr (fun t ht hW => ⟨(-1), rfl, by simp only [S_X3_stateBehind, if_pos c_3, if_neg c_13, if_pos c_33], ht⟩) (fun q h => by cases h) dX3_stateBehind_63
        · exact absurd (by decide) c_43
      · refine lv_iconst (v := 1) hx hb dX3_stateBehind_36 (by decide) ?_
        refine lv_goto (tgt := 41) hx hb dX3_stateBehind_37 (by decide) ?_
        refine lv_istore_n (lv' := [(3, .int 1), (2, .int 0), (0, .int p0), (1, .int p1)]) hx hb dX3_stateBehind_41 rfl hl (by decide) rfl (fun ls hl => ?_)
        refine lv_iload_n hx hb dX3_stateBehind_42 rfl (lv_at hl 1 rfl) ?_
        refine lv_if_eq (tgt := 50) hx hb dX3_stateBehind_43 (by decide) (fun c_43 => ?_) (fun c_43 => ?_)
        · refine lv_iconst (v := (-1)) hx hb dX3_stateBehind_50 (by decide) ?_
          refine lv_goto (tgt := 63) hx hb dX3_stateBehind_51 (by decide) ?_
          exact W.iret (v := (-1)) hx hb hr (fun t ht hW => ⟨(-1), rfl, by simp only [S_X3_stateBehind, if_pos c_3, if_neg c_13, if_neg c_33], ht⟩) (fun q h => by cases h) dX3_stateBehind_63
        · exact absurd (by decide) c_43
    · refine lv_iload_n hx hb dX3_stateBehind_16 rfl (lv_at hl 0 rfl) ?_
      refine lv_if_eq (tgt := 24) hx hb dX3_stateBehind_17 (by decide) (fun c_17 => ?_) (fun c_17 => ?_)
      · refine lv_iload_n hx hb dX3_stateBehind_24 rfl (lv_at hl 1 rfl) ?_
        refine lv_iconst (v := 1) hx hb dX3_stateBehind_25 (by decide) ?_
        refine lv_ishr hx hb dX3_stateBehind_26 ?_
        exact W.iret (v := (p0 >>> (1 &&& 31))) hx hb hr (fun t ht hW => ⟨(p0 >>> (1 &&& 31)), rfl, by simp only [S_X3_stateBehind, if_pos c_3, if_pos c_13], ht⟩) (fun q h => by cases h) dX3_stateBehind_27
      · exact absurd (by decide) c_17
  · refine lv_iconst (v := 1) hx hb dX3_stateBehind_6 (by decide) ?_
    refine lv_goto (tgt := 11) hx hb dX3_stateBehind_7 (by decide) ?_
    refine lv_istore_n (lv' := [(2, .int 1), (0, .int p0), (1, .int p1)]) hx hb dX3_stateBehind_11 rfl hl (by decide) rfl (fun ls hl => ?_)
    refine lv_iload_n hx hb dX3_stateBehind_12 rfl (lv_at hl 2 rfl) ?_
    refine lv_if_ne (tgt := 28) hx hb dX3_stateBehind_13 (by decide) (fun c_13 => ?_) (fun c_13 => ?_)
    · refine lv_iload_n hx hb dX3_stateBehind_28 rfl (lv_at hl 1 rfl) ?_
      refine lv_iload_n hx hb dX3_stateBehind_29 rfl (lv_at hl 2 rfl) ?_
      refine lv_ishr hx hb dX3_stateBehind_30 ?_
      refine lv_iconst (v := 1) hx hb dX3_stateBehind_31 (by decide) ?_
      refine lv_iand hx hb dX3_stateBehind_32 ?_
      refine lv_if_eq (tgt := 40) hx hb dX3_stateBehind_33 (by decide) (fun c_33 => ?_) (fun c_33 => ?_)
      · refine lv_iconst (v := 0) hx hb dX3_stateBehind_40 (by decide) ?_
        refine lv_istore_n (lv' := [(3, .int 0), (2, .int 1), (0, .int p0), (1, .int p1)]) hx hb dX3_stateBehind_41 rfl hl (by decide) rfl (fun ls hl => ?_)
        refine lv_iload_n hx hb dX3_stateBehind_42 rfl (lv_at hl 1 rfl) ?_
        refine lv_if_eq (tgt := 50) hx hb dX3_stateBehind_43 (by decide) (fun c_43 => ?_) (fun c_43 => ?_)
        · exact absurd c_43 (by decide)
        · refine lv_iload_n hx hb dX3_stateBehind_46 rfl (lv_at hl 0 rfl) ?_
          refine lv_if_eq (tgt := 54) hx hb dX3_stateBehind_47 (by decide) (fun c_47 => ?_) (fun c_47 => ?_)
          · refine lv_iload_n hx hb dX3_stateBehind_54 rfl (lv_at hl 2 rfl) ?_
            refine lv_iconst (v := 1) hx hb dX3_stateBehind_55 (by decide) ?_
            refine lv_ishr hx hb dX3_stateBehind_56 ?_
            refine lv_iconst (v := 1) hx hb dX3_stateBehind_57 (by decide) ?_
            refine lv_iload_n hx hb dX3_stateBehind_58 rfl (lv_at hl 3 rfl) ?_
            refine lv_iconst (v := 1) hx hb dX3_stateBehind_59 (by decide) ?_
            refine lv_isub hx hb dX3_stateBehind_60 ?_
            refine lv_ishl hx hb dX3_stateBehind_61 ?_
            refine lv_ior hx hb dX3_stateBehind_62 ?_
            exact W.iret (v := ((p0 >>> (1 &&& 31)) ||| (1 <<< ((p1 - 1) &&& 31)))) hx hb hr (fun t ht hW => ⟨((p0 >>> (1 &&& 31)) ||| (1 <<< ((p1 - 1) &&& 31))), rfl, by simp only [S_X3_stateBehind, if_neg c_3, if_neg c_13, if_pos c_33], ht⟩) (fun q h => by cases h) dX3_stateBehind_63
          · exact absurd (by decide) c_47
      · refine lv_iconst (v := 1) hx hb dX3_stateBehind_36 (by decide) ?_
        refine lv_goto (tgt := 41) hx hb dX3_stateBehind_37 (by decide) ?_
        refine lv_istore_n (lv' := [(3, .int 1), (2, .int 1), (0, .int p0), (1, .int p1)]) hx hb dX3_stateBehind_41 rfl hl (by decide) rfl (fun ls hl => ?_)
        refine lv_iload_n hx hb dX3_stateBehind_42 rfl (lv_at hl 1 rfl) ?_
        refine lv_if_eq (tgt := 50) hx hb dX3_stateBehind_43 (by decide) (fun c_43 => ?_) (fun c_43 => ?_)
        · exact absurd c_43 (by decide)
        · refine lv_iload_n hx hb dX3_stateBehind_46 rfl (lv_at hl 0 rfl) ?_
          refine lv_if_eq (tgt := 54) hx hb dX3_stateBehind_47 (by decide) (fun c_47 => ?_) (fun c_47 => ?_)
          · exact absurd c_47 (by decide)
          · refine lv_iconst (v := (-1)) hx hb dX3_stateBehind_50 (by decide) ?_
            refine lv_goto (tgt := 63) hx hb dX3_stateBehind_51 (by decide) ?_
            exact W.iret (v := (-1)) hx hb hr (fun t ht hW => ⟨(-1), rfl, by simp only [S_X3_stateBehind, if_neg c_3, if_neg c_13, if_neg c_33], ht⟩) (fun q h => by cases h) dX3_stateBehind_63
    · refine lv_iload_n hx hb dX3_stateBehind_16 rfl (lv_at hl 0 rfl) ?_
      refine lv_if_eq (tgt := 24) hx hb dX3_stateBehind_17 (by decide) (fun c_17 => ?_) (fun c_17 => ?_)
      · exact absurd c_17 (by decide)
      · refine lv_iconst (v := (-1)) hx hb dX3_stateBehind_20 (by decide) ?_
        refine lv_goto (tgt := 27) hx hb dX3_stateBehind_21 (by decide) ?_
        exact W.iret (v := (-1)) hx hb hr (fun t ht hW => ⟨(-1), rfl, by simp only [S_X3_stateBehind, if_neg c_3, if_pos c_13], ht⟩) (fun q h => by cases h) dX3_stateBehind_27
def S_J9_floorMod_7cf53 (p0 : Int32) (p1 : Int32) : Int32 := (if 0 ≤ (p0 ^^^ p1) then p0 - p0 / p1 * p1 else (if (p0 - p0 / p1 * p1) = 0 then p0 - p0 / p1 * p1 else (p0 - p0 / p1 * p1) + p1))
set_option maxHeartbeats 4000000 in
set_option maxRecDepth 100000 in
theorem c_J9_floorMod_7cf53 (l : Launch)  (p0 : Int32) (p1 : Int32) (hy : ¬ p1 = 0) : Met l yJ9_floorMod_7cf53 wsJ9_floorMod_7cf53 ({ frames := 0, cells := 0, slots := 0, locals := 0 }) (va_Pc [.int p0, .int p1] (fun _ => True)) (vp_Si (fun r => r = S_J9_floorMod_7cf53 p0 p1)) 0 0 (fun _ => False) := by
  refine va_MetF (cc := cJ9_floorMod_7cf53) (maxL := 3) (ret := (some .int)) (by decide +kernel) rfl ?_
  intro p e s m args below meth c s₁ B hml hv
  obtain ⟨rfl, -⟩ := hv
  have hx := B.exec
  have hb := B.bytes
  have hr := B.returns
  have hlocks := B.notSynchronized
  have hl := lv_entry ([.int p0, .int p1]) (n := 3) (Nat.le_of_ble_eq_true rfl)
  rw [lg_entry_eq]
  generalize (lg_sl ([.int p0, .int p1]) ++ List.replicate (3 - (lg_sl ([.int p0, .int p1])).length) Slot.unset).toArray = ls at hl ⊢
  have hl : lv_has ls 3 [(0, .int p0), (1, .int p1)] := hl
  refine lv_iload_n hx hb dJ9_floorMod_7cf53_0 rfl (lv_at hl 0 rfl) ?_
  refine lv_iload_n hx hb dJ9_floorMod_7cf53_1 rfl (lv_at hl 1 rfl) ?_
  refine lv_irem hx hb dJ9_floorMod_7cf53_2 hy ?_
  refine lv_istore_n (lv' := [(2, .int (p0 - p0 / p1 * p1)), (0, .int p0), (1, .int p1)]) hx hb dJ9_floorMod_7cf53_3 rfl hl (by decide) rfl (fun ls hl => ?_)
  refine lv_iload_n hx hb dJ9_floorMod_7cf53_4 rfl (lv_at hl 1 rfl) ?_
  refine lv_iload_n hx hb dJ9_floorMod_7cf53_5 rfl (lv_at hl 2 rfl) ?_
  refine lv_ixor hx hb dJ9_floorMod_7cf53_6 ?_
  refine lv_if_ge (tgt := 18) hx hb dJ9_floorMod_7cf53_7 (by decide) (fun c_7 => ?_) (fun c_7 => ?_)
  · refine lv_iload_n hx hb dJ9_floorMod_7cf53_18 rfl (lv_at hl 0 rfl) ?_
    exact W.iret (v := (p0 - p0 / p1 * p1)) hx hb hr (fun t ht hW => ⟨(p0 - p0 / p1 * p1), rfl, by simp only [S_J9_floorMod_7cf53, if_pos c_7], ht⟩) (fun q h => by cases h) dJ9_floorMod_7cf53_19
  · refine lv_iload_n hx hb dJ9_floorMod_7cf53_10 rfl (lv_at hl 0 rfl) ?_
    refine lv_if_eq (tgt := 18) hx hb dJ9_floorMod_7cf53_11 (by decide) (fun c_11 => ?_) (fun c_11 => ?_)
    · refine lv_iload_n hx hb dJ9_floorMod_7cf53_18 rfl (lv_at hl 0 rfl) ?_
      exact W.iret (v := (p0 - p0 / p1 * p1)) hx hb hr (fun t ht hW => ⟨(p0 - p0 / p1 * p1), rfl, by simp only [S_J9_floorMod_7cf53, if_neg c_7, if_pos c_11], ht⟩) (fun q h => by cases h) dJ9_floorMod_7cf53_19
    · refine lv_iload_n hx hb dJ9_floorMod_7cf53_14 rfl (lv_at hl 0 rfl) ?_
      refine lv_iload_n hx hb dJ9_floorMod_7cf53_15 rfl (lv_at hl 2 rfl) ?_
      refine lv_iadd hx hb dJ9_floorMod_7cf53_16 ?_
      exact W.iret (v := ((p0 - p0 / p1 * p1) + p1)) hx hb hr (fun t ht hW => ⟨((p0 - p0 / p1 * p1) + p1), rfl, by simp only [S_J9_floorMod_7cf53, if_neg c_7, if_neg c_11], ht⟩) (fun q h => by cases h) dJ9_floorMod_7cf53_17
def S_J6_bitCount_0f7a4 (p0 : Int32) : Int32 := (((((((p0 - (((p0.toUInt32 >>> ((1 : Int32).toUInt32 &&& Int32.toUInt32 31)).toInt32) &&& 1431655765)) &&& 858993459) + ((((p0 - (((p0.toUInt32 >>> ((1 : Int32).toUInt32 &&& Int32.toUInt32 31)).toInt32) &&& 1431655765)).toUInt32 >>> ((2 : Int32).toUInt32 &&& Int32.toUInt32 31)).toInt32) &&& 858993459)) + (((((p0 - (((p0.toUInt32 >>> ((1 : Int32).toUInt32 &&& Int32.toUInt32 31)).toInt32) &&& 1431655765)) &&& 858993459) + ((((p0 - (((p0.toUInt32 >>> ((1 : Int32).toUInt32 &&& Int32.toUInt32 31)).toInt32) &&& 1431655765)).toUInt32 >>> ((2 : Int32).toUInt32 &&& Int32.toUInt32 31)).toInt32) &&& 858993459)).toUInt32 >>> ((4 : Int32).toUInt32 &&& Int32.toUInt32 31)).toInt32)) &&& 252645135) + (((((((p0 - (((p0.toUInt32 >>> ((1 : Int32).toUInt32 &&& Int32.toUInt32 31)).toInt32) &&& 1431655765)) &&& 858993459) + ((((p0 - (((p0.toUInt32 >>> ((1 : Int32).toUInt32 &&& Int32.toUInt32 31)).toInt32) &&& 1431655765)).toUInt32 >>> ((2 : Int32).toUInt32 &&& Int32.toUInt32 31)).toInt32) &&& 858993459)) + (((((p0 - (((p0.toUInt32 >>> ((1 : Int32).toUInt32 &&& Int32.toUInt32 31)).toInt32) &&& 1431655765)) &&& 858993459) + ((((p0 - (((p0.toUInt32 >>> ((1 : Int32).toUInt32 &&& Int32.toUInt32 31)).toInt32) &&& 1431655765)).toUInt32 >>> ((2 : Int32).toUInt32 &&& Int32.toUInt32 31)).toInt32) &&& 858993459)).toUInt32 >>> ((4 : Int32).toUInt32 &&& Int32.toUInt32 31)).toInt32)) &&& 252645135).toUInt32 >>> ((8 : Int32).toUInt32 &&& Int32.toUInt32 31)).toInt32)) + ((((((((p0 - (((p0.toUInt32 >>> ((1 : Int32).toUInt32 &&& Int32.toUInt32 31)).toInt32) &&& 1431655765)) &&& 858993459) + ((((p0 - (((p0.toUInt32 >>> ((1 : Int32).toUInt32 &&& Int32.toUInt32 31)).toInt32) &&& 1431655765)).toUInt32 >>> ((2 : Int32).toUInt32 &&& Int32.toUInt32 31)).toInt32) &&& 858993459)) + (((((p0 - (((p0.toUInt32 >>> ((1 : Int32).toUInt32 &&& Int32.toUInt32 31)).toInt32) &&& 1431655765)) &&& 858993459) + ((((p0 - (((p0.toUInt32 >>> ((1 : Int32).toUInt32 &&& Int32.toUInt32 31)).toInt32) &&& 1431655765)).toUInt32 >>> ((2 : Int32).toUInt32 &&& Int32.toUInt32 31)).toInt32) &&& 858993459)).toUInt32 >>> ((4 : Int32).toUInt32 &&& Int32.toUInt32 31)).toInt32)) &&& 252645135) + (((((((p0 - (((p0.toUInt32 >>> ((1 : Int32).toUInt32 &&& Int32.toUInt32 31)).toInt32) &&& 1431655765)) &&& 858993459) + ((((p0 - (((p0.toUInt32 >>> ((1 : Int32).toUInt32 &&& Int32.toUInt32 31)).toInt32) &&& 1431655765)).toUInt32 >>> ((2 : Int32).toUInt32 &&& Int32.toUInt32 31)).toInt32) &&& 858993459)) + (((((p0 - (((p0.toUInt32 >>> ((1 : Int32).toUInt32 &&& Int32.toUInt32 31)).toInt32) &&& 1431655765)) &&& 858993459) + ((((p0 - (((p0.toUInt32 >>> ((1 : Int32).toUInt32 &&& Int32.toUInt32 31)).toInt32) &&& 1431655765)).toUInt32 >>> ((2 : Int32).toUInt32 &&& Int32.toUInt32 31)).toInt32) &&& 858993459)).toUInt32 >>> ((4 : Int32).toUInt32 &&& Int32.toUInt32 31)).toInt32)) &&& 252645135).toUInt32 >>> ((8 : Int32).toUInt32 &&& Int32.toUInt32 31)).toInt32)).toUInt32 >>> ((16 : Int32).toUInt32 &&& Int32.toUInt32 31)).toInt32)) &&& 63
set_option maxHeartbeats 4000000 in
set_option maxRecDepth 100000 in
theorem c_J6_bitCount_0f7a4 (l : Launch)  (p0 : Int32)  : Met l yJ6_bitCount_0f7a4 wsJ6_bitCount_0f7a4 ({ frames := 0, cells := 0, slots := 0, locals := 0 }) (va_Pc [.int p0] (fun _ => True)) (vp_Si (fun r => r = S_J6_bitCount_0f7a4 p0)) 0 0 (fun _ => False) := by
  refine va_MetF (cc := cJ6_bitCount_0f7a4) (maxL := 1) (ret := (some .int)) (by decide +kernel) rfl ?_
  intro p e s m args below meth c s₁ B hml hv
  obtain ⟨rfl, -⟩ := hv
  have hx := B.exec
  have hb := B.bytes
  have hr := B.returns
  have hts := atoms_spec (ws := wsJ6_bitCount_0f7a4) B.pre
  have hown : s.vm.findClass RJ6 = some m.cls := findClass_of_methodNamed B.named
  have hlocks := B.notSynchronized
  have hl := lv_entry ([.int p0]) (n := 1) (Nat.le_of_ble_eq_true rfl)
  rw [lg_entry_eq]
  generalize (lg_sl ([.int p0]) ++ List.replicate (1 - (lg_sl ([.int p0])).length) Slot.unset).toArray = ls at hl ⊢
  have hl : lv_has ls 1 [(0, .int p0)] := hl
  have q_0 := hts (.constant RJ6 265 (1431655765)) (by decide +kernel)
  have q_1 := hts (.constant RJ6 266 (858993459)) (by decide +kernel)
  have q_2 := hts (.constant RJ6 267 (252645135)) (by decide +kernel)
  refine lv_iload_n hx hb dJ6_bitCount_0f7a4_0 rfl (lv_at hl 0 rfl) ?_
  refine lv_iload_n hx hb dJ6_bitCount_0f7a4_1 rfl (lv_at hl 0 rfl) ?_
  refine lv_iconst (v := 1) hx hb dJ6_bitCount_0f7a4_2 (by decide) ?_
  refine lv_iushr hx hb dJ6_bitCount_0f7a4_3 rfl ?_
  refine lv_ldcw hx hb hown q_0 dJ6_bitCount_0f7a4_4 ?_
  refine lv_iand hx hb dJ6_bitCount_0f7a4_7 ?_
  refine lv_isub hx hb dJ6_bitCount_0f7a4_8 ?_
  refine lv_istore_n (lv' := [(0, .int (p0 - (((p0.toUInt32 >>> ((1 : Int32).toUInt32 &&& Int32.toUInt32 31)).toInt32) &&& 1431655765)))]) hx hb dJ6_bitCount_0f7a4_9 rfl hl (by decide) rfl (fun ls hl => ?_)
  refine lv_iload_n hx hb dJ6_bitCount_0f7a4_10 rfl (lv_at hl 0 rfl) ?_
  refine lv_ldcw hx hb hown q_1 dJ6_bitCount_0f7a4_11 ?_
  refine lv_iand hx hb dJ6_bitCount_0f7a4_14 ?_
  refine lv_iload_n hx hb dJ6_bitCount_0f7a4_15 rfl (lv_at hl 0 rfl) ?_
  refine lv_iconst (v := 2) hx hb dJ6_bitCount_0f7a4_16 (by decide) ?_
  refine lv_iushr hx hb dJ6_bitCount_0f7a4_17 rfl ?_
  refine lv_ldcw hx hb hown q_1 dJ6_bitCount_0f7a4_18 ?_
  refine lv_iand hx hb dJ6_bitCount_0f7a4_21 ?_
  refine lv_iadd hx hb dJ6_bitCount_0f7a4_22 ?_
  refine lv_istore_n (lv' := [(0, .int (((p0 - (((p0.toUInt32 >>> ((1 : Int32).toUInt32 &&& Int32.toUInt32 31)).toInt32) &&& 1431655765)) &&& 858993459) + ((((p0 - (((p0.toUInt32 >>> ((1 : Int32).toUInt32 &&& Int32.toUInt32 31)).toInt32) &&& 1431655765)).toUInt32 >>> ((2 : Int32).toUInt32 &&& Int32.toUInt32 31)).toInt32) &&& 858993459)))]) hx hb dJ6_bitCount_0f7a4_23 rfl hl (by decide) rfl (fun ls hl => ?_)
  refine lv_iload_n hx hb dJ6_bitCount_0f7a4_24 rfl (lv_at hl 0 rfl) ?_
  refine lv_iload_n hx hb dJ6_bitCount_0f7a4_25 rfl (lv_at hl 0 rfl) ?_
  refine lv_iconst (v := 4) hx hb dJ6_bitCount_0f7a4_26 (by decide) ?_
  refine lv_iushr hx hb dJ6_bitCount_0f7a4_27 rfl ?_
  refine lv_iadd hx hb dJ6_bitCount_0f7a4_28 ?_
  refine lv_ldcw hx hb hown q_2 dJ6_bitCount_0f7a4_29 ?_
  refine lv_iand hx hb dJ6_bitCount_0f7a4_32 ?_
  refine lv_istore_n (lv' := [(0, .int (((((p0 - (((p0.toUInt32 >>> ((1 : Int32).toUInt32 &&& Int32.toUInt32 31)).toInt32) &&& 1431655765)) &&& 858993459) + ((((p0 - (((p0.toUInt32 >>> ((1 : Int32).toUInt32 &&& Int32.toUInt32 31)).toInt32) &&& 1431655765)).toUInt32 >>> ((2 : Int32).toUInt32 &&& Int32.toUInt32 31)).toInt32) &&& 858993459)) + (((((p0 - (((p0.toUInt32 >>> ((1 : Int32).toUInt32 &&& Int32.toUInt32 31)).toInt32) &&& 1431655765)) &&& 858993459) + ((((p0 - (((p0.toUInt32 >>> ((1 : Int32).toUInt32 &&& Int32.toUInt32 31)).toInt32) &&& 1431655765)).toUInt32 >>> ((2 : Int32).toUInt32 &&& Int32.toUInt32 31)).toInt32) &&& 858993459)).toUInt32 >>> ((4 : Int32).toUInt32 &&& Int32.toUInt32 31)).toInt32)) &&& 252645135))]) hx hb dJ6_bitCount_0f7a4_33 rfl hl (by decide) rfl (fun ls hl => ?_)
  refine lv_iload_n hx hb dJ6_bitCount_0f7a4_34 rfl (lv_at hl 0 rfl) ?_
  refine lv_iload_n hx hb dJ6_bitCount_0f7a4_35 rfl (lv_at hl 0 rfl) ?_
  refine lv_bipush (v := 8) hx hb dJ6_bitCount_0f7a4_36 (by decide) ?_
  refine lv_iushr hx hb dJ6_bitCount_0f7a4_38 rfl ?_
  refine lv_iadd hx hb dJ6_bitCount_0f7a4_39 ?_
  refine lv_istore_n (lv' := [(0, .int ((((((p0 - (((p0.toUInt32 >>> ((1 : Int32).toUInt32 &&& Int32.toUInt32 31)).toInt32) &&& 1431655765)) &&& 858993459) + ((((p0 - (((p0.toUInt32 >>> ((1 : Int32).toUInt32 &&& Int32.toUInt32 31)).toInt32) &&& 1431655765)).toUInt32 >>> ((2 : Int32).toUInt32 &&& Int32.toUInt32 31)).toInt32) &&& 858993459)) + (((((p0 - (((p0.toUInt32 >>> ((1 : Int32).toUInt32 &&& Int32.toUInt32 31)).toInt32) &&& 1431655765)) &&& 858993459) + ((((p0 - (((p0.toUInt32 >>> ((1 : Int32).toUInt32 &&& Int32.toUInt32 31)).toInt32) &&& 1431655765)).toUInt32 >>> ((2 : Int32).toUInt32 &&& Int32.toUInt32 31)).toInt32) &&& 858993459)).toUInt32 >>> ((4 : Int32).toUInt32 &&& Int32.toUInt32 31)).toInt32)) &&& 252645135) + (((((((p0 - (((p0.toUInt32 >>> ((1 : Int32).toUInt32 &&& Int32.toUInt32 31)).toInt32) &&& 1431655765)) &&& 858993459) + ((((p0 - (((p0.toUInt32 >>> ((1 : Int32).toUInt32 &&& Int32.toUInt32 31)).toInt32) &&& 1431655765)).toUInt32 >>> ((2 : Int32).toUInt32 &&& Int32.toUInt32 31)).toInt32) &&& 858993459)) + (((((p0 - (((p0.toUInt32 >>> ((1 : Int32).toUInt32 &&& Int32.toUInt32 31)).toInt32) &&& 1431655765)) &&& 858993459) + ((((p0 - (((p0.toUInt32 >>> ((1 : Int32).toUInt32 &&& Int32.toUInt32 31)).toInt32) &&& 1431655765)).toUInt32 >>> ((2 : Int32).toUInt32 &&& Int32.toUInt32 31)).toInt32) &&& 858993459)).toUInt32 >>> ((4 : Int32).toUInt32 &&& Int32.toUInt32 31)).toInt32)) &&& 252645135).toUInt32 >>> ((8 : Int32).toUInt32 &&& Int32.toUInt32 31)).toInt32)))]) hx hb dJ6_bitCount_0f7a4_40 rfl hl (by decide) rfl (fun ls hl => ?_)
  refine lv_iload_n hx hb dJ6_bitCount_0f7a4_41 rfl (lv_at hl 0 rfl) ?_
  refine lv_iload_n hx hb dJ6_bitCount_0f7a4_42 rfl (lv_at hl 0 rfl) ?_
  refine lv_bipush (v := 16) hx hb dJ6_bitCount_0f7a4_43 (by decide) ?_
  refine lv_iushr hx hb dJ6_bitCount_0f7a4_45 rfl ?_
  refine lv_iadd hx hb dJ6_bitCount_0f7a4_46 ?_
  refine lv_istore_n (lv' := [(0, .int (((((((p0 - (((p0.toUInt32 >>> ((1 : Int32).toUInt32 &&& Int32.toUInt32 31)).toInt32) &&& 1431655765)) &&& 858993459) + ((((p0 - (((p0.toUInt32 >>> ((1 : Int32).toUInt32 &&& Int32.toUInt32 31)).toInt32) &&& 1431655765)).toUInt32 >>> ((2 : Int32).toUInt32 &&& Int32.toUInt32 31)).toInt32) &&& 858993459)) + (((((p0 - (((p0.toUInt32 >>> ((1 : Int32).toUInt32 &&& Int32.toUInt32 31)).toInt32) &&& 1431655765)) &&& 858993459) + ((((p0 - (((p0.toUInt32 >>> ((1 : Int32).toUInt32 &&& Int32.toUInt32 31)).toInt32) &&& 1431655765)).toUInt32 >>> ((2 : Int32).toUInt32 &&& Int32.toUInt32 31)).toInt32) &&& 858993459)).toUInt32 >>> ((4 : Int32).toUInt32 &&& Int32.toUInt32 31)).toInt32)) &&& 252645135) + (((((((p0 - (((p0.toUInt32 >>> ((1 : Int32).toUInt32 &&& Int32.toUInt32 31)).toInt32) &&& 1431655765)) &&& 858993459) + ((((p0 - (((p0.toUInt32 >>> ((1 : Int32).toUInt32 &&& Int32.toUInt32 31)).toInt32) &&& 1431655765)).toUInt32 >>> ((2 : Int32).toUInt32 &&& Int32.toUInt32 31)).toInt32) &&& 858993459)) + (((((p0 - (((p0.toUInt32 >>> ((1 : Int32).toUInt32 &&& Int32.toUInt32 31)).toInt32) &&& 1431655765)) &&& 858993459) + ((((p0 - (((p0.toUInt32 >>> ((1 : Int32).toUInt32 &&& Int32.toUInt32 31)).toInt32) &&& 1431655765)).toUInt32 >>> ((2 : Int32).toUInt32 &&& Int32.toUInt32 31)).toInt32) &&& 858993459)).toUInt32 >>> ((4 : Int32).toUInt32 &&& Int32.toUInt32 31)).toInt32)) &&& 252645135).toUInt32 >>> ((8 : Int32).toUInt32 &&& Int32.toUInt32 31)).toInt32)) + ((((((((p0 - (((p0.toUInt32 >>> ((1 : Int32).toUInt32 &&& Int32.toUInt32 31)).toInt32) &&& 1431655765)) &&& 858993459) + ((((p0 - (((p0.toUInt32 >>> ((1 : Int32).toUInt32 &&& Int32.toUInt32 31)).toInt32) &&& 1431655765)).toUInt32 >>> ((2 : Int32).toUInt32 &&& Int32.toUInt32 31)).toInt32) &&& 858993459)) + (((((p0 - (((p0.toUInt32 >>> ((1 : Int32).toUInt32 &&& Int32.toUInt32 31)).toInt32) &&& 1431655765)) &&& 858993459) + ((((p0 - (((p0.toUInt32 >>> ((1 : Int32).toUInt32 &&& Int32.toUInt32 31)).toInt32) &&& 1431655765)).toUInt32 >>> ((2 : Int32).toUInt32 &&& Int32.toUInt32 31)).toInt32) &&& 858993459)).toUInt32 >>> ((4 : Int32).toUInt32 &&& Int32.toUInt32 31)).toInt32)) &&& 252645135) + (((((((p0 - (((p0.toUInt32 >>> ((1 : Int32).toUInt32 &&& Int32.toUInt32 31)).toInt32) &&& 1431655765)) &&& 858993459) + ((((p0 - (((p0.toUInt32 >>> ((1 : Int32).toUInt32 &&& Int32.toUInt32 31)).toInt32) &&& 1431655765)).toUInt32 >>> ((2 : Int32).toUInt32 &&& Int32.toUInt32 31)).toInt32) &&& 858993459)) + (((((p0 - (((p0.toUInt32 >>> ((1 : Int32).toUInt32 &&& Int32.toUInt32 31)).toInt32) &&& 1431655765)) &&& 858993459) + ((((p0 - (((p0.toUInt32 >>> ((1 : Int32).toUInt32 &&& Int32.toUInt32 31)).toInt32) &&& 1431655765)).toUInt32 >>> ((2 : Int32).toUInt32 &&& Int32.toUInt32 31)).toInt32) &&& 858993459)).toUInt32 >>> ((4 : Int32).toUInt32 &&& Int32.toUInt32 31)).toInt32)) &&& 252645135).toUInt32 >>> ((8 : Int32).toUInt32 &&& Int32.toUInt32 31)).toInt32)).toUInt32 >>> ((16 : Int32).toUInt32 &&& Int32.toUInt32 31)).toInt32)))]) hx hb dJ6_bitCount_0f7a4_47 rfl hl (by decide) rfl (fun ls hl => ?_)
  refine lv_iload_n hx hb dJ6_bitCount_0f7a4_48 rfl (lv_at hl 0 rfl) ?_
  refine lv_bipush (v := 63) hx hb dJ6_bitCount_0f7a4_49 (by decide) ?_
  refine lv_iand hx hb dJ6_bitCount_0f7a4_51 ?_
  exact W.iret (v := ((((((((p0 - (((p0.toUInt32 >>> ((1 : Int32).toUInt32 &&& Int32.toUInt32 31)).toInt32) &&& 1431655765)) &&& 858993459) + ((((p0 - (((p0.toUInt32 >>> ((1 : Int32).toUInt32 &&& Int32.toUInt32 31)).toInt32) &&& 1431655765)).toUInt32 >>> ((2 : Int32).toUInt32 &&& Int32.toUInt32 31)).toInt32) &&& 858993459)) + (((((p0 - (((p0.toUInt32 >>> ((1 : Int32).toUInt32 &&& Int32.toUInt32 31)).toInt32) &&& 1431655765)) &&& 858993459) + ((((p0 - (((p0.toUInt32 >>> ((1 : Int32).toUInt32 &&& Int32.toUInt32 31)).toInt32) &&& 1431655765)).toUInt32 >>> ((2 : Int32).toUInt32 &&& Int32.toUInt32 31)).toInt32) &&& 858993459)).toUInt32 >>> ((4 : Int32).toUInt32 &&& Int32.toUInt32 31)).toInt32)) &&& 252645135) + (((((((p0 - (((p0.toUInt32 >>> ((1 : Int32).toUInt32 &&& Int32.toUInt32 31)).toInt32) &&& 1431655765)) &&& 858993459) + ((((p0 - (((p0.toUInt32 >>> ((1 : Int32).toUInt32 &&& Int32.toUInt32 31)).toInt32) &&& 1431655765)).toUInt32 >>> ((2 : Int32).toUInt32 &&& Int32.toUInt32 31)).toInt32) &&& 858993459)) + (((((p0 - (((p0.toUInt32 >>> ((1 : Int32).toUInt32 &&& Int32.toUInt32 31)).toInt32) &&& 1431655765)) &&& 858993459) + ((((p0 - (((p0.toUInt32 >>> ((1 : Int32).toUInt32 &&& Int32.toUInt32 31)).toInt32) &&& 1431655765)).toUInt32 >>> ((2 : Int32).toUInt32 &&& Int32.toUInt32 31)).toInt32) &&& 858993459)).toUInt32 >>> ((4 : Int32).toUInt32 &&& Int32.toUInt32 31)).toInt32)) &&& 252645135).toUInt32 >>> ((8 : Int32).toUInt32 &&& Int32.toUInt32 31)).toInt32)) + ((((((((p0 - (((p0.toUInt32 >>> ((1 : Int32).toUInt32 &&& Int32.toUInt32 31)).toInt32) &&& 1431655765)) &&& 858993459) + ((((p0 - (((p0.toUInt32 >>> ((1 : Int32).toUInt32 &&& Int32.toUInt32 31)).toInt32) &&& 1431655765)).toUInt32 >>> ((2 : Int32).toUInt32 &&& Int32.toUInt32 31)).toInt32) &&& 858993459)) + (((((p0 - (((p0.toUInt32 >>> ((1 : Int32).toUInt32 &&& Int32.toUInt32 31)).toInt32) &&& 1431655765)) &&& 858993459) + ((((p0 - (((p0.toUInt32 >>> ((1 : Int32).toUInt32 &&& Int32.toUInt32 31)).toInt32) &&& 1431655765)).toUInt32 >>> ((2 : Int32).toUInt32 &&& Int32.toUInt32 31)).toInt32) &&& 858993459)).toUInt32 >>> ((4 : Int32).toUInt32 &&& Int32.toUInt32 31)).toInt32)) &&& 252645135) + (((((((p0 - (((p0.toUInt32 >>> ((1 : Int32).toUInt32 &&& Int32.toUInt32 31)).toInt32) &&& 1431655765)) &&& 858993459) + ((((p0 - (((p0.toUInt32 >>> ((1 : Int32).toUInt32 &&& Int32.toUInt32 31)).toInt32) &&& 1431655765)).toUInt32 >>> ((2 : Int32).toUInt32 &&& Int32.toUInt32 31)).toInt32) &&& 858993459)) + (((((p0 - (((p0.toUInt32 >>> ((1 : Int32).toUInt32 &&& Int32.toUInt32 31)).toInt32) &&& 1431655765)) &&& 858993459) + ((((p0 - (((p0.toUInt32 >>> ((1 : Int32).toUInt32 &&& Int32.toUInt32 31)).toInt32) &&& 1431655765)).toUInt32 >>> ((2 : Int32).toUInt32 &&& Int32.toUInt32 31)).toInt32) &&& 858993459)).toUInt32 >>> ((4 : Int32).toUInt32 &&& Int32.toUInt32 31)).toInt32)) &&& 252645135).toUInt32 >>> ((8 : Int32).toUInt32 &&& Int32.toUInt32 31)).toInt32)).toUInt32 >>> ((16 : Int32).toUInt32 &&& Int32.toUInt32 31)).toInt32)) &&& 63)) hx hb hr (fun t ht hW => ⟨((((((((p0 - (((p0.toUInt32 >>> ((1 : Int32).toUInt32 &&& Int32.toUInt32 31)).toInt32) &&& 1431655765)) &&& 858993459) + ((((p0 - (((p0.toUInt32 >>> ((1 : Int32).toUInt32 &&& Int32.toUInt32 31)).toInt32) &&& 1431655765)).toUInt32 >>> ((2 : Int32).toUInt32 &&& Int32.toUInt32 31)).toInt32) &&& 858993459)) + (((((p0 - (((p0.toUInt32 >>> ((1 : Int32).toUInt32 &&& Int32.toUInt32 31)).toInt32) &&& 1431655765)) &&& 858993459) + ((((p0 - (((p0.toUInt32 >>> ((1 : Int32).toUInt32 &&& Int32.toUInt32 31)).toInt32) &&& 1431655765)).toUInt32 >>> ((2 : Int32).toUInt32 &&& Int32.toUInt32 31)).toInt32) &&& 858993459)).toUInt32 >>> ((4 : Int32).toUInt32 &&& Int32.toUInt32 31)).toInt32)) &&& 252645135) + (((((((p0 - (((p0.toUInt32 >>> ((1 : Int32).toUInt32 &&& Int32.toUInt32 31)).toInt32) &&& 1431655765)) &&& 858993459) + ((((p0 - (((p0.toUInt32 >>> ((1 : Int32).toUInt32 &&& Int32.toUInt32 31)).toInt32) &&& 1431655765)).toUInt32 >>> ((2 : Int32).toUInt32 &&& Int32.toUInt32 31)).toInt32) &&& 858993459)) + (((((p0 - (((p0.toUInt32 >>> ((1 : Int32).toUInt32 &&& Int32.toUInt32 31)).toInt32) &&& 1431655765)) &&& 858993459) + ((((p0 - (((p0.toUInt32 >>> ((1 : Int32).toUInt32 &&& Int32.toUInt32 31)).toInt32) &&& 1431655765)).toUInt32 >>> ((2 : Int32).toUInt32 &&& Int32.toUInt32 31)).toInt32) &&& 858993459)).toUInt32 >>> ((4 : Int32).toUInt32 &&& Int32.toUInt32 31)).toInt32)) &&& 252645135).toUInt32 >>> ((8 : Int32).toUInt32 &&& Int32.toUInt32 31)).toInt32)) + ((((((((p0 - (((p0.toUInt32 >>> ((1 : Int32).toUInt32 &&& Int32.toUInt32 31)).toInt32) &&& 1431655765)) &&& 858993459) + ((((p0 - (((p0.toUInt32 >>> ((1 : Int32).toUInt32 &&& Int32.toUInt32 31)).toInt32) &&& 1431655765)).toUInt32 >>> ((2 : Int32).toUInt32 &&& Int32.toUInt32 31)).toInt32) &&& 858993459)) + (((((p0 - (((p0.toUInt32 >>> ((1 : Int32).toUInt32 &&& Int32.toUInt32 31)).toInt32) &&& 1431655765)) &&& 858993459) + ((((p0 - (((p0.toUInt32 >>> ((1 : Int32).toUInt32 &&& Int32.toUInt32 31)).toInt32) &&& 1431655765)).toUInt32 >>> ((2 : Int32).toUInt32 &&& Int32.toUInt32 31)).toInt32) &&& 858993459)).toUInt32 >>> ((4 : Int32).toUInt32 &&& Int32.toUInt32 31)).toInt32)) &&& 252645135) + (((((((p0 - (((p0.toUInt32 >>> ((1 : Int32).toUInt32 &&& Int32.toUInt32 31)).toInt32) &&& 1431655765)) &&& 858993459) + ((((p0 - (((p0.toUInt32 >>> ((1 : Int32).toUInt32 &&& Int32.toUInt32 31)).toInt32) &&& 1431655765)).toUInt32 >>> ((2 : Int32).toUInt32 &&& Int32.toUInt32 31)).toInt32) &&& 858993459)) + (((((p0 - (((p0.toUInt32 >>> ((1 : Int32).toUInt32 &&& Int32.toUInt32 31)).toInt32) &&& 1431655765)) &&& 858993459) + ((((p0 - (((p0.toUInt32 >>> ((1 : Int32).toUInt32 &&& Int32.toUInt32 31)).toInt32) &&& 1431655765)).toUInt32 >>> ((2 : Int32).toUInt32 &&& Int32.toUInt32 31)).toInt32) &&& 858993459)).toUInt32 >>> ((4 : Int32).toUInt32 &&& Int32.toUInt32 31)).toInt32)) &&& 252645135).toUInt32 >>> ((8 : Int32).toUInt32 &&& Int32.toUInt32 31)).toInt32)).toUInt32 >>> ((16 : Int32).toUInt32 &&& Int32.toUInt32 31)).toInt32)) &&& 63), rfl, by simp only [S_J6_bitCount_0f7a4], ht⟩) (fun q h => by cases h) dJ6_bitCount_0f7a4_52
end
section
/-! LAID BY MY PROGRAM wip/gen/p26.py: contracts, method by method -/
def S_X0_props (σ : JS) : Int32 := σ.2.2.2.1
set_option maxHeartbeats 4000000 in
set_option maxRecDepth 100000 in
theorem c_X0_props (l : Launch) (dC : Nat → ClassId) (dI : Nat → Nat → Nat) (cI cR : ClassId) (j a1 a2 a3 : Nat) (σ : JS)   : Met l yX0_props wsX0_props ({ frames := 0, cells := 0, slots := 0, locals := 0 }) (va_Pc [.ref j] (fun U => va_P (dC, dI) vwCl (wJ cI j a1 a2 a3 σ) U.heap ∧ cE (dC, dI) cI cR U)) (vp_Si (fun r => r = S_X0_props σ)) 0 0 (fun _ => False) := by
  refine Met.ofW (cc := cX0_props) (maxL := 1) (ret := (some .int)) (by decide) rfl ?_
  intro p e s m args below meth c s₁ B hml hv
  obtain ⟨rfl, hP, hE⟩ := hv
  have hK := hE.1
  have hx := B.exec
  have hb := B.bytes
  have hr := B.returns
  have hts := atoms_spec (ws := wsX0_props) B.pre
  have hown : s.vm.findClass RX0 = some m.cls := findClass_of_methodNamed B.named
  have hlocks := B.notSynchronized
  have hP : va_P (dC, dI) vwCl [(j, .inr (0, [.ref a1, .ref a2, .ref a3, .int σ.2.2.2.1, .int σ.2.2.2.2.1, .int σ.2.2.2.2.2.1, .int σ.2.2.2.2.2.2.1, .double σ.2.2.2.2.2.2.2])), (a1, .inl (cI, 6, .inl σ.1)), (a2, .inl (cI, 6, .inl σ.2.1)), (a3, .inl (cI, 6, .inl σ.2.2.1))] s.heap := hP
  have hl := lv_entry ([.ref j]) (n := 1) (Nat.le_of_ble_eq_true rfl)
  rw [lg_entry_eq]
  generalize (lg_sl ([.ref j]) ++ List.replicate (1 - (lg_sl ([.ref j])).length) Slot.unset).toArray = ls at hl ⊢
  have hl : lv_has ls 1 [(0, .ref j)] := hl
  have q_0 := hts (.fieldLink RX0 21 "Cascadecourt$Juggler" "props" "I") (by decide +kernel)
  have in_X0 : ∀ w ∈ wsX00, w ∈ wsX0_props := by decide +kernel
  refine lv_aload_n hx hb dX0_props_0 rfl (lv_at hl 0 rfl) ?_
  refine va_get (D := (dC, dI)) (ci := 0) (v := .int σ.2.2.2.1) (C := RX0) (T := TX0) (N := 8) hx hb hts in_X0 hown hK hP 0 rfl rfl 3 (by decide) q_0 (fun _ h9 => h9) rfl dX0_props_1 ?_
  exact W.iret (v := σ.2.2.2.1) hx hb hr (fun t ht hW => ⟨σ.2.2.2.1, rfl, by simp only [S_X0_props], ht⟩) (fun q h => by cases h) dX0_props_4
def S_X0_beat (σ : JS) : Int32 := σ.2.2.2.2.1
set_option maxHeartbeats 4000000 in
set_option maxRecDepth 100000 in
theorem c_X0_beat (l : Launch) (dC : Nat → ClassId) (dI : Nat → Nat → Nat) (cI cR : ClassId) (j a1 a2 a3 : Nat) (σ : JS)   : Met l yX0_beat wsX0_beat ({ frames := 0, cells := 0, slots := 0, locals := 0 }) (va_Pc [.ref j] (fun U => va_P (dC, dI) vwCl (wJ cI j a1 a2 a3 σ) U.heap ∧ cE (dC, dI) cI cR U)) (vp_Si (fun r => r = S_X0_beat σ)) 0 0 (fun _ => False) := by
  refine Met.ofW (cc := cX0_beat) (maxL := 1) (ret := (some .int)) (by decide) rfl ?_
  intro p e s m args below meth c s₁ B hml hv
  obtain ⟨rfl, hP, hE⟩ := hv
  have hK := hE.1
  have hx := B.exec
  have hb := B.bytes
  have hr := B.returns
  have hts := atoms_spec (ws := wsX0_beat) B.pre
  have hown : s.vm.findClass RX0 = some m.cls := findClass_of_methodNamed B.named
  have hlocks := B.notSynchronized
  have hP : va_P (dC, dI) vwCl [(j, .inr (0, [.ref a1, .ref a2, .ref a3, .int σ.2.2.2.1, .int σ.2.2.2.2.1, .int σ.2.2.2.2.2.1, .int σ.2.2.2.2.2.2.1, .double σ.2.2.2.2.2.2.2])), (a1, .inl (cI, 6, .inl σ.1)), (a2, .inl (cI, 6, .inl σ.2.1)), (a3, .inl (cI, 6, .inl σ.2.2.1))] s.heap := hP
  have hl := lv_entry ([.ref j]) (n := 1) (Nat.le_of_ble_eq_true rfl)
  rw [lg_entry_eq]
  generalize (lg_sl ([.ref j]) ++ List.replicate (1 - (lg_sl ([.ref j])).length) Slot.unset).toArray = ls at hl ⊢
  have hl : lv_has ls 1 [(0, .ref j)] := hl
  have q_0 := hts (.fieldLink RX0 25 "Cascadecourt$Juggler" "beat" "I") (by decide +kernel)
  have in_X0 : ∀ w ∈ wsX00, w ∈ wsX0_beat := by decide +kernel
  refine lv_aload_n hx hb dX0_beat_0 rfl (lv_at hl 0 rfl) ?_
  refine va_get (D := (dC, dI)) (ci := 0) (v := .int σ.2.2.2.2.1) (C := RX0) (T := TX0) (N := 8) hx hb hts in_X0 hown hK hP 0 rfl rfl 4 (by decide) q_0 (fun _ h9 => h9) rfl dX0_beat_1 ?_
  exact W.iret (v := σ.2.2.2.2.1) hx hb hr (fun t ht hW => ⟨σ.2.2.2.2.1, rfl, by simp only [S_X0_beat], ht⟩) (fun q h => by cases h) dX0_beat_4
def S_X0_slipsEver (σ : JS) : Int32 := σ.2.2.2.2.2.1
set_option maxHeartbeats 4000000 in
set_option maxRecDepth 100000 in
theorem c_X0_slipsEver (l : Launch) (dC : Nat → ClassId) (dI : Nat → Nat → Nat) (cI cR : ClassId) (j a1 a2 a3 : Nat) (σ : JS)   : Met l yX0_slipsEver wsX0_slipsEver ({ frames := 0, cells := 0, slots := 0, locals := 0 }) (va_Pc [.ref j] (fun U => va_P (dC, dI) vwCl (wJ cI j a1 a2 a3 σ) U.heap ∧ cE (dC, dI) cI cR U)) (vp_Si (fun r => r = S_X0_slipsEver σ)) 0 0 (fun _ => False) := by
  refine Met.ofW (cc := cX0_slipsEver) (maxL := 1) (ret := (some .int)) (by decide) rfl ?_
  intro p e s m args below meth c s₁ B hml hv
  obtain ⟨rfl, hP, hE⟩ := hv
  have hK := hE.1
  have hx := B.exec
  have hb := B.bytes
  have hr := B.returns
  have hts := atoms_spec (ws := wsX0_slipsEver) B.pre
  have hown : s.vm.findClass RX0 = some m.cls := findClass_of_methodNamed B.named
  have hlocks := B.notSynchronized
  have hP : va_P (dC, dI) vwCl [(j, .inr (0, [.ref a1, .ref a2, .ref a3, .int σ.2.2.2.1, .int σ.2.2.2.2.1, .int σ.2.2.2.2.2.1, .int σ.2.2.2.2.2.2.1, .double σ.2.2.2.2.2.2.2])), (a1, .inl (cI, 6, .inl σ.1)), (a2, .inl (cI, 6, .inl σ.2.1)), (a3, .inl (cI, 6, .inl σ.2.2.1))] s.heap := hP
  have hl := lv_entry ([.ref j]) (n := 1) (Nat.le_of_ble_eq_true rfl)
  rw [lg_entry_eq]
  generalize (lg_sl ([.ref j]) ++ List.replicate (1 - (lg_sl ([.ref j])).length) Slot.unset).toArray = ls at hl ⊢
  have hl : lv_has ls 1 [(0, .ref j)] := hl
  have q_0 := hts (.fieldLink RX0 36 "Cascadecourt$Juggler" "slipsEver" "I") (by decide +kernel)
  have in_X0 : ∀ w ∈ wsX00, w ∈ wsX0_slipsEver := by decide +kernel
  refine lv_aload_n hx hb dX0_slipsEver_0 rfl (lv_at hl 0 rfl) ?_
  refine va_get (D := (dC, dI)) (ci := 0) (v := .int σ.2.2.2.2.2.1) (C := RX0) (T := TX0) (N := 8) hx hb hts in_X0 hown hK hP 0 rfl rfl 5 (by decide) q_0 (fun _ h9 => h9) rfl dX0_slipsEver_1 ?_
  exact W.iret (v := σ.2.2.2.2.2.1) hx hb hr (fun t ht hW => ⟨σ.2.2.2.2.2.1, rfl, by simp only [S_X0_slipsEver], ht⟩) (fun q h => by cases h) dX0_slipsEver_4
def S_X0_beatsEver (σ : JS) : Int32 := σ.2.2.2.2.2.2.1
set_option maxHeartbeats 4000000 in
set_option maxRecDepth 100000 in
theorem c_X0_beatsEver (l : Launch) (dC : Nat → ClassId) (dI : Nat → Nat → Nat) (cI cR : ClassId) (j a1 a2 a3 : Nat) (σ : JS)   : Met l yX0_beatsEver wsX0_beatsEver ({ frames := 0, cells := 0, slots := 0, locals := 0 }) (va_Pc [.ref j] (fun U => va_P (dC, dI) vwCl (wJ cI j a1 a2 a3 σ) U.heap ∧ cE (dC, dI) cI cR U)) (vp_Si (fun r => r = S_X0_beatsEver σ)) 0 0 (fun _ => False) := by
  refine Met.ofW (cc := cX0_beatsEver) (maxL := 1) (ret := (some .int)) (by decide) rfl ?_
  intro p e s m args below meth c s₁ B hml hv
  obtain ⟨rfl, hP, hE⟩ := hv
  have hK := hE.1
  have hx := B.exec
  have hb := B.bytes
  have hr := B.returns
  have hts := atoms_spec (ws := wsX0_beatsEver) B.pre
  have hown : s.vm.findClass RX0 = some m.cls := findClass_of_methodNamed B.named
  have hlocks := B.notSynchronized
  have hP : va_P (dC, dI) vwCl [(j, .inr (0, [.ref a1, .ref a2, .ref a3, .int σ.2.2.2.1, .int σ.2.2.2.2.1, .int σ.2.2.2.2.2.1, .int σ.2.2.2.2.2.2.1, .double σ.2.2.2.2.2.2.2])), (a1, .inl (cI, 6, .inl σ.1)), (a2, .inl (cI, 6, .inl σ.2.1)), (a3, .inl (cI, 6, .inl σ.2.2.1))] s.heap := hP
  have hl := lv_entry ([.ref j]) (n := 1) (Nat.le_of_ble_eq_true rfl)
  rw [lg_entry_eq]
  generalize (lg_sl ([.ref j]) ++ List.replicate (1 - (lg_sl ([.ref j])).length) Slot.unset).toArray = ls at hl ⊢
  have hl : lv_has ls 1 [(0, .ref j)] := hl
  have q_0 := hts (.fieldLink RX0 39 "Cascadecourt$Juggler" "beatsEver" "I") (by decide +kernel)
  have in_X0 : ∀ w ∈ wsX00, w ∈ wsX0_beatsEver := by decide +kernel
  refine lv_aload_n hx hb dX0_beatsEver_0 rfl (lv_at hl 0 rfl) ?_
  refine va_get (D := (dC, dI)) (ci := 0) (v := .int σ.2.2.2.2.2.2.1) (C := RX0) (T := TX0) (N := 8) hx hb hts in_X0 hown hK hP 0 rfl rfl 6 (by decide) q_0 (fun _ h9 => h9) rfl dX0_beatsEver_1 ?_
  exact W.iret (v := σ.2.2.2.2.2.2.1) hx hb hr (fun t ht hW => ⟨σ.2.2.2.2.2.2.1, rfl, by simp only [S_X0_beatsEver], ht⟩) (fun q h => by cases h) dX0_beatsEver_4
def S_X0_tiredness (σ : JS) : UInt64 := σ.2.2.2.2.2.2.2
set_option maxHeartbeats 4000000 in
set_option maxRecDepth 100000 in
theorem c_X0_tiredness (l : Launch) (dC : Nat → ClassId) (dI : Nat → Nat → Nat) (cI cR : ClassId) (j a1 a2 a3 : Nat) (σ : JS)   : Met l yX0_tiredness wsX0_tiredness ({ frames := 0, cells := 0, slots := 0, locals := 0 }) (va_Pc [.ref j] (fun U => va_P (dC, dI) vwCl (wJ cI j a1 a2 a3 σ) U.heap ∧ cE (dC, dI) cI cR U)) (vp_Sd (fun r => r = S_X0_tiredness σ)) 0 0 (fun _ => False) := by
  refine Met.ofW (cc := cX0_tiredness) (maxL := 1) (ret := (some .double)) (by decide) rfl ?_
  intro p e s m args below meth c s₁ B hml hv
  obtain ⟨rfl, hP, hE⟩ := hv
  have hK := hE.1
  have hx := B.exec
  have hb := B.bytes
  have hr := B.returns
  have hts := atoms_spec (ws := wsX0_tiredness) B.pre
  have hown : s.vm.findClass RX0 = some m.cls := findClass_of_methodNamed B.named
  have hlocks := B.notSynchronized
  have hP : va_P (dC, dI) vwCl [(j, .inr (0, [.ref a1, .ref a2, .ref a3, .int σ.2.2.2.1, .int σ.2.2.2.2.1, .int σ.2.2.2.2.2.1, .int σ.2.2.2.2.2.2.1, .double σ.2.2.2.2.2.2.2])), (a1, .inl (cI, 6, .inl σ.1)), (a2, .inl (cI, 6, .inl σ.2.1)), (a3, .inl (cI, 6, .inl σ.2.2.1))] s.heap := hP
  have hl := lv_entry ([.ref j]) (n := 1) (Nat.le_of_ble_eq_true rfl)
  rw [lg_entry_eq]
  generalize (lg_sl ([.ref j]) ++ List.replicate (1 - (lg_sl ([.ref j])).length) Slot.unset).toArray = ls at hl ⊢
  have hl : lv_has ls 1 [(0, .ref j)] := hl
  have q_0 := hts (.fieldLink RX0 28 "Cascadecourt$Juggler" "tiredness" "D") (by decide +kernel)
  have in_X0 : ∀ w ∈ wsX00, w ∈ wsX0_tiredness := by decide +kernel
  refine lv_aload_n hx hb dX0_tiredness_0 rfl (lv_at hl 0 rfl) ?_
  refine va_get (D := (dC, dI)) (ci := 0) (v := .double σ.2.2.2.2.2.2.2) (C := RX0) (T := TX0) (N := 8) hx hb hts in_X0 hown hK hP 0 rfl rfl 7 (by decide) q_0 (fun _ h9 => h9) rfl dX0_tiredness_1 ?_
  exact W.dret (v := σ.2.2.2.2.2.2.2) hx hb hr (fun t ht hW => ⟨σ.2.2.2.2.2.2.2, rfl, by simp only [S_X0_tiredness], ht⟩) (fun q h => by cases h) dX0_tiredness_4
def S_X0_isDropped (σ : JS) (p0 : Int32) : Int32 := (if (S_X3_cell 6 σ.1 p0) = (-1) then 1 else 0)
set_option maxHeartbeats 4000000 in
set_option maxRecDepth 100000 in
theorem c_X0_isDropped (l : Launch) (dC : Nat → ClassId) (dI : Nat → Nat → Nat) (cI cR : ClassId) (j a1 a2 a3 : Nat) (σ : JS) (p0 : Int32)  : Met l yX0_isDropped wsX0_isDropped ({ frames := 1, cells := 0, slots := 0, locals := 21 }) (va_Pc [.ref j, .int p0] (fun U => va_P (dC, dI) vwCl (wJ cI j a1 a2 a3 σ) U.heap ∧ cE (dC, dI) cI cR U)) (vp_Si (fun r => r = S_X0_isDropped σ p0 ∧ (r = 0 ∨ r = 1))) 0 0 (fun _ => False) := by
  refine Met.ofW (cc := cX0_isDropped) (maxL := 2) (ret := (some .boolean)) (by decide) rfl ?_
  intro p e s m args below meth c s₁ B hml hv
  obtain ⟨rfl, hP, hE⟩ := hv
  have hK := hE.1
  have hx := B.exec
  have hb := B.bytes
  have hr := B.returns
  have hts := atoms_spec (ws := wsX0_isDropped) B.pre
  have hown : s.vm.findClass RX0 = some m.cls := findClass_of_methodNamed B.named
  have hlocks := B.notSynchronized
  have hP : va_P (dC, dI) vwCl [(j, .inr (0, [.ref a1, .ref a2, .ref a3, .int σ.2.2.2.1, .int σ.2.2.2.2.1, .int σ.2.2.2.2.2.1, .int σ.2.2.2.2.2.2.1, .double σ.2.2.2.2.2.2.2])), (a1, .inl (cI, 6, .inl σ.1)), (a2, .inl (cI, 6, .inl σ.2.1)), (a3, .inl (cI, 6, .inl σ.2.2.1))] s.heap := hP
  have hl := lv_entry ([.ref j, .int p0]) (n := 2) (Nat.le_of_ble_eq_true rfl)
  rw [lg_entry_eq]
  generalize (lg_sl ([.ref j, .int p0]) ++ List.replicate (2 - (lg_sl ([.ref j, .int p0])).length) Slot.unset).toArray = ls at hl ⊢
  have hl : lv_has ls 2 [(0, .ref j), (1, .int p0)] := hl
  have q_0 := hts (.fieldLink RX0 9 "Cascadecourt$Juggler" "landsAt" "[I") (by decide +kernel)
  have in_X0 : ∀ w ∈ wsX00, w ∈ wsX0_isDropped := by decide +kernel
  have q_1 := hts (.initialized RX3) (by decide +kernel)
  have q_2 := hts (.static yX3_cell) (by decide +kernel)
  refine lv_aload_n hx hb dX0_isDropped_0 rfl (lv_at hl 0 rfl) ?_
  refine va_get (D := (dC, dI)) (ci := 0) (v := .ref a1) (C := RX0) (T := TX0) (N := 8) hx hb hts in_X0 hown hK hP 0 rfl rfl 0 (by decide) q_0 (fun _ h9 => h9) rfl dX0_isDropped_1 ?_
  refine lv_iload_n hx hb dX0_isDropped_4 rfl (lv_at hl 1 rfl) ?_
  refine vp_callSi (va_Run.run (va_runSN (As := [.ref a1, .int p0]) (rest := []) ⟨hx, hb, hml, hown, hts⟩ (c_X3_cell l dC dI cI cR a1 6 σ.1 (by decide) p0) ⟨va_cnB 2 hts gX0_isDropped_X3_cell_n42 rfl rfl rfl (hE.2 (.methodLinkNest RX0 42 yX3_cell "Cascadecourt") (by decide +kernel)) q_1 (by decide +kernel) ⟨Nat.le_of_ble_eq_true rfl, Nat.le_of_ble_eq_true rfl⟩, q_2, trivial⟩ ⟨fun a U g mk q => by obtain ⟨q0, qP, qE⟩ := q; exact ⟨q0, qP, cE.same (s := U) rfl qE⟩, fun U hU hW => ⟨rfl, by rw [hU]; exact hP.sub (ws' := [(a1, .inl (cI, 6, .inl σ.1))]) [1] rfl, hE.warm hW⟩⟩ rfl rfl hl.1 rfl (lv_room (Nat.le_of_ble_eq_true rfl)) dX0_isDropped_5 ⟨Nat.zero_le _, Nat.zero_le _⟩)) (fun r_5 h_5 => ?_)
  subst h_5
  refine lv_iconst (v := (-1)) hx hb dX0_isDropped_8 (by decide) ?_
  refine lv_icmp_ne (tgt := 16) hx hb dX0_isDropped_9 (by decide) (fun c_9 => ?_) (fun c_9 => ?_)
  · refine lv_iconst (v := 0) hx hb dX0_isDropped_16 (by decide) ?_
    exact W.zret (v := 0) (ty := .boolean) hx hb hr (p_nar (Or.inl rfl)) (fun t ht hW => ⟨0, rfl, ⟨by simp only [S_X0_isDropped, if_neg c_9], (Or.inl rfl)⟩, ht⟩) (fun q h => by cases h) dX0_isDropped_17
  · refine lv_iconst (v := 1) hx hb dX0_isDropped_12 (by decide) ?_
    refine lv_goto (tgt := 17) hx hb dX0_isDropped_13 (by decide) ?_
    exact W.zret (v := 1) (ty := .boolean) hx hb hr (p_nar (Or.inr rfl)) (fun t ht hW => ⟨1, rfl, ⟨by simp only [S_X0_isDropped, if_pos c_9], (Or.inr rfl)⟩, ht⟩) (fun q h => by cases h) dX0_isDropped_17
def S_X0_beatsTillLanding (σ : JS) (p0 : Int32) : Int32 := (if (S_X3_cell 6 σ.1 p0) = (-1) then (-1) else (S_X3_cell 6 σ.1 p0) - σ.2.2.2.2.1)
set_option maxHeartbeats 4000000 in
set_option maxRecDepth 100000 in
theorem c_X0_beatsTillLanding (l : Launch) (dC : Nat → ClassId) (dI : Nat → Nat → Nat) (cI cR : ClassId) (j a1 a2 a3 : Nat) (σ : JS) (p0 : Int32)  : Met l yX0_beatsTillLanding wsX0_beatsTillLanding ({ frames := 1, cells := 0, slots := 0, locals := 21 }) (va_Pc [.ref j, .int p0] (fun U => va_P (dC, dI) vwCl (wJ cI j a1 a2 a3 σ) U.heap ∧ cE (dC, dI) cI cR U)) (vp_Si (fun r => r = S_X0_beatsTillLanding σ p0)) 0 0 (fun _ => False) := by
  refine Met.ofW (cc := cX0_beatsTillLanding) (maxL := 3) (ret := (some .int)) (by decide) rfl ?_
  intro p e s m args below meth c s₁ B hml hv
  obtain ⟨rfl, hP, hE⟩ := hv
  have hK := hE.1
  have hx := B.exec
  have hb := B.bytes
  have hr := B.returns
  have hts := atoms_spec (ws := wsX0_beatsTillLanding) B.pre
  have hown : s.vm.findClass RX0 = some m.cls := findClass_of_methodNamed B.named
  have hlocks := B.notSynchronized
  have hP : va_P (dC, dI) vwCl [(j, .inr (0, [.ref a1, .ref a2, .ref a3, .int σ.2.2.2.1, .int σ.2.2.2.2.1, .int σ.2.2.2.2.2.1, .int σ.2.2.2.2.2.2.1, .double σ.2.2.2.2.2.2.2])), (a1, .inl (cI, 6, .inl σ.1)), (a2, .inl (cI, 6, .inl σ.2.1)), (a3, .inl (cI, 6, .inl σ.2.2.1))] s.heap := hP
  have hl := lv_entry ([.ref j, .int p0]) (n := 3) (Nat.le_of_ble_eq_true rfl)
  rw [lg_entry_eq]
  generalize (lg_sl ([.ref j, .int p0]) ++ List.replicate (3 - (lg_sl ([.ref j, .int p0])).length) Slot.unset).toArray = ls at hl ⊢
  have hl : lv_has ls 3 [(0, .ref j), (1, .int p0)] := hl
  have q_0 := hts (.fieldLink RX0 9 "Cascadecourt$Juggler" "landsAt" "[I") (by decide +kernel)
  have in_X0 : ∀ w ∈ wsX00, w ∈ wsX0_beatsTillLanding := by decide +kernel
  have q_1 := hts (.initialized RX3) (by decide +kernel)
  have q_2 := hts (.static yX3_cell) (by decide +kernel)
  have q_3 := hts (.fieldLink RX0 25 "Cascadecourt$Juggler" "beat" "I") (by decide +kernel)
  refine lv_aload_n hx hb dX0_beatsTillLanding_0 rfl (lv_at hl 0 rfl) ?_
  refine va_get (D := (dC, dI)) (ci := 0) (v := .ref a1) (C := RX0) (T := TX0) (N := 8) hx hb hts in_X0 hown hK hP 0 rfl rfl 0 (by decide) q_0 (fun _ h9 => h9) rfl dX0_beatsTillLanding_1 ?_
  refine lv_iload_n hx hb dX0_beatsTillLanding_4 rfl (lv_at hl 1 rfl) ?_
  refine vp_callSi (va_Run.run (va_runSN (As := [.ref a1, .int p0]) (rest := []) ⟨hx, hb, hml, hown, hts⟩ (c_X3_cell l dC dI cI cR a1 6 σ.1 (by decide) p0) ⟨va_cnB 2 hts gX0_beatsTillLanding_X3_cell_n42 rfl rfl rfl (hE.2 (.methodLinkNest RX0 42 yX3_cell "Cascadecourt") (by decide +kernel)) q_1 (by decide +kernel) ⟨Nat.le_of_ble_eq_true rfl, Nat.le_of_ble_eq_true rfl⟩, q_2, trivial⟩ ⟨fun a U g mk q => by obtain ⟨q0, qP, qE⟩ := q; exact ⟨q0, qP, cE.same (s := U) rfl qE⟩, fun U hU hW => ⟨rfl, by rw [hU]; exact hP.sub (ws' := [(a1, .inl (cI, 6, .inl σ.1))]) [1] rfl, hE.warm hW⟩⟩ rfl rfl hl.1 rfl (lv_room (Nat.le_of_ble_eq_true rfl)) dX0_beatsTillLanding_5 ⟨Nat.zero_le _, Nat.zero_le _⟩)) (fun r_5 h_5 => ?_)
  subst h_5
  refine lv_istore_n (lv' := [(2, .int (S_X3_cell 6 σ.1 p0)), (0, .ref j), (1, .int p0)]) hx hb dX0_beatsTillLanding_8 rfl hl (by decide) rfl (fun ls hl => ?_)
  refine lv_iload_n hx hb dX0_beatsTillLanding_9 rfl (lv_at hl 0 rfl) ?_
  refine lv_iconst (v := (-1)) hx hb dX0_beatsTillLanding_10 (by decide) ?_
  refine lv_icmp_ne (tgt := 18) hx hb dX0_beatsTillLanding_11 (by decide) (fun c_11 => ?_) (fun c_11 => ?_)
  · refine lv_iload_n hx hb dX0_beatsTillLanding_18 rfl (lv_at hl 0 rfl) ?_
    refine lv_aload_n hx hb dX0_beatsTillLanding_19 rfl (lv_at hl 1 rfl) ?_
    refine va_get (D := (dC, dI)) (ci := 0) (v := .int σ.2.2.2.2.1) (C := RX0) (T := TX0) (N := 8) hx hb hts in_X0 hown hK hP 0 rfl rfl 4 (by decide) q_3 (fun _ h9 => h9) rfl dX0_beatsTillLanding_20 ?_
    refine lv_isub hx hb dX0_beatsTillLanding_23 ?_
    exact W.iret (v := ((S_X3_cell 6 σ.1 p0) - σ.2.2.2.2.1)) hx hb hr (fun t ht hW => ⟨((S_X3_cell 6 σ.1 p0) - σ.2.2.2.2.1), rfl, by simp only [S_X0_beatsTillLanding, if_neg c_11], ht⟩) (fun q h => by cases h) dX0_beatsTillLanding_24
  · refine lv_iconst (v := (-1)) hx hb dX0_beatsTillLanding_14 (by decide) ?_
    refine lv_goto (tgt := 24) hx hb dX0_beatsTillLanding_15 (by decide) ?_
    exact W.iret (v := (-1)) hx hb hr (fun t ht hW => ⟨(-1), rfl, by simp only [S_X0_beatsTillLanding, if_pos c_11], ht⟩) (fun q h => by cases h) dX0_beatsTillLanding_24
def S_X0_handOf (σ : JS) (p0 : Int32) : Int32 := (if (S_X0_isDropped σ p0) = 0 then (S_X3_cell 6 σ.1 p0) &&& 1 else (-1))
set_option maxHeartbeats 4000000 in
set_option maxRecDepth 100000 in
theorem c_X0_handOf (l : Launch) (dC : Nat → ClassId) (dI : Nat → Nat → Nat) (cI cR : ClassId) (j a1 a2 a3 : Nat) (σ : JS) (p0 : Int32)  : Met l yX0_handOf wsX0_handOf ({ frames := 2, cells := 0, slots := 0, locals := 42 }) (va_Pc [.ref j, .int p0] (fun U => va_P (dC, dI) vwCl (wJ cI j a1 a2 a3 σ) U.heap ∧ cE (dC, dI) cI cR U)) (vp_Si (fun r => r = S_X0_handOf σ p0)) 0 0 (fun _ => False) := by
  refine Met.ofW (cc := cX0_handOf) (maxL := 2) (ret := (some .int)) (by decide) rfl ?_
  intro p e s m args below meth c s₁ B hml hv
  obtain ⟨rfl, hP, hE⟩ := hv
  have hK := hE.1
  have hx := B.exec
  have hb := B.bytes
  have hr := B.returns
  have hts := atoms_spec (ws := wsX0_handOf) B.pre
  have hown : s.vm.findClass RX0 = some m.cls := findClass_of_methodNamed B.named
  have hlocks := B.notSynchronized
  have hP : va_P (dC, dI) vwCl [(j, .inr (0, [.ref a1, .ref a2, .ref a3, .int σ.2.2.2.1, .int σ.2.2.2.2.1, .int σ.2.2.2.2.2.1, .int σ.2.2.2.2.2.2.1, .double σ.2.2.2.2.2.2.2])), (a1, .inl (cI, 6, .inl σ.1)), (a2, .inl (cI, 6, .inl σ.2.1)), (a3, .inl (cI, 6, .inl σ.2.2.1))] s.heap := hP
  have hl := lv_entry ([.ref j, .int p0]) (n := 2) (Nat.le_of_ble_eq_true rfl)
  rw [lg_entry_eq]
  generalize (lg_sl ([.ref j, .int p0]) ++ List.replicate (2 - (lg_sl ([.ref j, .int p0])).length) Slot.unset).toArray = ls at hl ⊢
  have hl : lv_has ls 2 [(0, .ref j), (1, .int p0)] := hl
  have q_0 := hts (.fieldLink RX0 9 "Cascadecourt$Juggler" "landsAt" "[I") (by decide +kernel)
  have in_X0 : ∀ w ∈ wsX00, w ∈ wsX0_handOf := by decide +kernel
  have q_1 := hts (.initialized RX3) (by decide +kernel)
  have q_2 := hts (.static yX3_cell) (by decide +kernel)
  refine lv_aload_n hx hb dX0_handOf_0 rfl (lv_at hl 0 rfl) ?_
  refine lv_iload_n hx hb dX0_handOf_1 rfl (lv_at hl 1 rfl) ?_
  refine vp_callSi (va_Run.run (va_runV (As := [.int p0]) (rest := []) ⟨hx, hb, hml, hown, hts⟩ (c_X0_isDropped l dC dI cI cR j a1 a2 a3 σ p0) (cwV 1 hts gX0_handOf_X0_isDropped rfl rfl rfl (by decide +kernel) ⟨Nat.le_of_ble_eq_true rfl, Nat.le_of_ble_eq_true rfl⟩) ⟨fun a U g mk q => by obtain ⟨q0, qP, qE⟩ := q; exact ⟨q0, qP, cE.same (s := U) rfl qE⟩, va_recv hK hP (ci := 0) (q0 := 0) rfl rfl, fun U hU hW => ⟨rfl, by rw [hU]; exact hP.sub (ws' := (wJ cI j a1 a2 a3 σ)) [0, 1, 2, 3] rfl, hE.warm hW⟩⟩ rfl rfl hl.1 rfl (lv_room (Nat.le_of_ble_eq_true rfl)) dX0_handOf_2 ⟨Nat.zero_le _, Nat.zero_le _⟩)) (fun r_2 h_2 => ?_)
  obtain ⟨rfl, hz_2⟩ := h_2
  refine lv_if_eq (tgt := 12) hx hb dX0_handOf_5 (by decide) (fun c_5 => ?_) (fun c_5 => ?_)
  · refine lv_aload_n hx hb dX0_handOf_12 rfl (lv_at hl 0 rfl) ?_
    refine va_get (D := (dC, dI)) (ci := 0) (v := .ref a1) (C := RX0) (T := TX0) (N := 8) hx hb hts in_X0 hown hK hP 0 rfl rfl 0 (by decide) q_0 (fun _ h9 => h9) rfl dX0_handOf_13 ?_
    refine lv_iload_n hx hb dX0_handOf_16 rfl (lv_at hl 1 rfl) ?_
    refine vp_callSi (va_Run.run (va_runSN (As := [.ref a1, .int p0]) (rest := []) ⟨hx, hb, hml, hown, hts⟩ (c_X3_cell l dC dI cI cR a1 6 σ.1 (by decide) p0) ⟨va_cnB 2 hts gX0_handOf_X3_cell_n42 rfl rfl rfl (hE.2 (.methodLinkNest RX0 42 yX3_cell "Cascadecourt") (by decide +kernel)) q_1 (by decide +kernel) ⟨Nat.le_of_ble_eq_true rfl, Nat.le_of_ble_eq_true rfl⟩, q_2, trivial⟩ ⟨fun a U g mk q => by obtain ⟨q0, qP, qE⟩ := q; exact ⟨q0, qP, cE.same (s := U) rfl qE⟩, fun U hU hW => ⟨rfl, by rw [hU]; exact hP.sub (ws' := [(a1, .inl (cI, 6, .inl σ.1))]) [1] rfl, hE.warm hW⟩⟩ rfl rfl hl.1 rfl (lv_room (Nat.le_of_ble_eq_true rfl)) dX0_handOf_17 ⟨Nat.zero_le _, Nat.zero_le _⟩)) (fun r_17 h_17 => ?_)
    subst h_17
    refine lv_iconst (v := 1) hx hb dX0_handOf_20 (by decide) ?_
    refine lv_iand hx hb dX0_handOf_21 ?_
    exact W.iret (v := ((S_X3_cell 6 σ.1 p0) &&& 1)) hx hb hr (fun t ht hW => ⟨((S_X3_cell 6 σ.1 p0) &&& 1), rfl, by simp only [S_X0_handOf, if_pos c_5], ht⟩) (fun q h => by cases h) dX0_handOf_22
  · refine lv_iconst (v := (-1)) hx hb dX0_handOf_8 (by decide) ?_
    refine lv_goto (tgt := 22) hx hb dX0_handOf_9 (by decide) ?_
    exact W.iret (v := (-1)) hx hb hr (fun t ht hW => ⟨(-1), rfl, by simp only [S_X0_handOf, if_neg c_5], ht⟩) (fun q h => by cases h) dX0_handOf_22
def G_X0_state_4 (σ : JS) : Nat → Nat → Int32 → Int32
  | 0, k, v1 => v1
  | mm + 1, k, v1 => (if (S_X0_beatsTillLanding σ (nI k)) = (-1) then G_X0_state_4 σ mm (k + 1) v1 else G_X0_state_4 σ mm (k + 1) (v1 ||| (1 <<< ((S_X0_beatsTillLanding σ (nI k)) &&& 31))))
def S_X0_state (σ : JS) : Int32 := G_X0_state_4 σ σ.2.2.2.1.toNatClampNeg 0 0
set_option maxHeartbeats 4000000 in
set_option maxRecDepth 100000 in
theorem c_X0_state (l : Launch) (dC : Nat → ClassId) (dI : Nat → Nat → Nat) (cI cR : ClassId) (j a1 a2 a3 : Nat) (σ : JS)   : Met l yX0_state wsX0_state ({ frames := 2, cells := 0, slots := 0, locals := 43 }) (va_Pc [.ref j] (fun U => va_P (dC, dI) vwCl (wJ cI j a1 a2 a3 σ) U.heap ∧ cE (dC, dI) cI cR U)) (vp_Si (fun r => r = S_X0_state σ)) 0 0 (fun _ => False) := by
  refine Met.ofW (cc := cX0_state) (maxL := 4) (ret := (some .int)) (by decide) rfl ?_
  intro p e s m args below meth c s₁ B hml hv
  obtain ⟨rfl, hP, hE⟩ := hv
  have hK := hE.1
  have hx := B.exec
  have hb := B.bytes
  have hr := B.returns
  have hts := atoms_spec (ws := wsX0_state) B.pre
  have hown : s.vm.findClass RX0 = some m.cls := findClass_of_methodNamed B.named
  have hlocks := B.notSynchronized
  have hP : va_P (dC, dI) vwCl [(j, .inr (0, [.ref a1, .ref a2, .ref a3, .int σ.2.2.2.1, .int σ.2.2.2.2.1, .int σ.2.2.2.2.2.1, .int σ.2.2.2.2.2.2.1, .double σ.2.2.2.2.2.2.2])), (a1, .inl (cI, 6, .inl σ.1)), (a2, .inl (cI, 6, .inl σ.2.1)), (a3, .inl (cI, 6, .inl σ.2.2.1))] s.heap := hP
  have hl := lv_entry ([.ref j]) (n := 4) (Nat.le_of_ble_eq_true rfl)
  rw [lg_entry_eq]
  generalize (lg_sl ([.ref j]) ++ List.replicate (4 - (lg_sl ([.ref j])).length) Slot.unset).toArray = ls at hl ⊢
  have hl : lv_has ls 4 [(0, .ref j)] := hl
  have q_0 := hts (.fieldLink RX0 21 "Cascadecourt$Juggler" "props" "I") (by decide +kernel)
  have in_X0 : ∀ w ∈ wsX00, w ∈ wsX0_state := by decide +kernel
  refine lv_iconst (v := 0) hx hb dX0_state_0 (by decide) ?_
  refine lv_istore_n (lv' := [(1, .int 0), (0, .ref j)]) hx hb dX0_state_1 rfl hl (by decide) rfl (fun ls hl => ?_)
  refine lv_iconst (v := 0) hx hb dX0_state_2 (by decide) ?_
  refine lv_istore_n (lv' := [(2, .int 0), (1, .int 0), (0, .ref j)]) hx hb dX0_state_3 rfl hl (by decide) rfl (fun ls hl => ?_)
  have hn4 := p_clt σ.2.2.2.1
  have loop4 : ∀ (mm k : Nat) (v1 : Int32) (ls : Array Slot), k + mm = σ.2.2.2.1.toNatClampNeg → G_X0_state_4 σ mm k v1 = S_X0_state σ → lv_has ls 4 [(2, .int (nI k)), (1, .int v1), (0, .ref j)] → W p l e (headSpec wsX0_state ({ frames := 2, cells := 0, slots := 0, locals := 43 })).room s m (([.ref j] : List Value).toArray) below meth c s.heap [] 0 0 (MQ below (vp_Si (fun r => r = S_X0_state σ)) (([.ref j] : List Value).toArray) s 0 0 (fun _ => False)) (F0 m 4 ls []) := by
    intro mm
    induction mm with
    | zero =>
      intro k v1 ls hk4 hG4 hl
      refine lv_iload_n hx hb dX0_state_4 rfl (lv_at hl 0 rfl) ?_
      refine lv_aload_n hx hb dX0_state_5 rfl (lv_at hl 2 rfl) ?_
      refine va_get (D := (dC, dI)) (ci := 0) (v := .int σ.2.2.2.1) (C := RX0) (T := TX0) (N := 8) hx hb hts in_X0 hown hK hP 0 rfl rfl 3 (by decide) q_0 (fun _ h9 => h9) rfl dX0_state_6 ?_
      refine lv_icmp_ge (tgt := 35) hx hb dX0_state_9 (by decide) (fun c_9 => ?_) (fun c_9 => ?_)
      · refine lv_iload_n hx hb dX0_state_35 rfl (lv_at hl 1 rfl) ?_
        exact W.iret (v := v1) hx hb hr (fun t ht hW => ⟨v1, rfl, by rw [← hG4]; simp only [G_X0_state_4], ht⟩) (fun q h => by cases h) dX0_state_36
      · exact absurd ((p_le (by omega)).mpr (by omega)) c_9
    | succ mm ih4 =>
      intro k v1 ls hk4 hG4 hl
      refine lv_iload_n hx hb dX0_state_4 rfl (lv_at hl 0 rfl) ?_
      refine lv_aload_n hx hb dX0_state_5 rfl (lv_at hl 2 rfl) ?_
      refine va_get (D := (dC, dI)) (ci := 0) (v := .int σ.2.2.2.1) (C := RX0) (T := TX0) (N := 8) hx hb hts in_X0 hown hK hP 0 rfl rfl 3 (by decide) q_0 (fun _ h9 => h9) rfl dX0_state_6 ?_
      refine lv_icmp_ge (tgt := 35) hx hb dX0_state_9 (by decide) (fun c_9 => ?_) (fun c_9 => ?_)
      · exact absurd ((p_le (by omega)).mp c_9) (by omega)
      · refine lv_aload_n hx hb dX0_state_12 rfl (lv_at hl 2 rfl) ?_
        refine lv_iload_n hx hb dX0_state_13 rfl (lv_at hl 0 rfl) ?_
        refine vp_callSi (va_Run.run (va_runV (As := [.int (nI k)]) (rest := []) ⟨hx, hb, hml, hown, hts⟩ (c_X0_beatsTillLanding l dC dI cI cR j a1 a2 a3 σ (nI k)) (cwV 1 hts gX0_state_X0_beatsTillLanding rfl rfl rfl (by decide +kernel) ⟨Nat.le_of_ble_eq_true rfl, Nat.le_of_ble_eq_true rfl⟩) ⟨fun a U g mk q => by obtain ⟨q0, qP, qE⟩ := q; exact ⟨q0, qP, cE.same (s := U) rfl qE⟩, va_recv hK hP (ci := 0) (q0 := 0) rfl rfl, fun U hU hW => ⟨rfl, by rw [hU]; exact hP.sub (ws' := (wJ cI j a1 a2 a3 σ)) [0, 1, 2, 3] rfl, hE.warm hW⟩⟩ rfl rfl hl.1 rfl (lv_room (Nat.le_of_ble_eq_true rfl)) dX0_state_14 ⟨Nat.zero_le _, Nat.zero_le _⟩)) (fun r_14 h_14 => ?_)
        subst h_14
        refine lv_istore_n (lv' := [(3, .int (S_X0_beatsTillLanding σ (nI k))), (2, .int (nI k)), (1, .int v1), (0, .ref j)]) hx hb dX0_state_17 rfl hl (by decide) rfl (fun ls hl => ?_)
        refine lv_iload_n hx hb dX0_state_18 rfl (lv_at hl 0 rfl) ?_
        refine lv_iconst (v := (-1)) hx hb dX0_state_19 (by decide) ?_
        refine lv_icmp_eq (tgt := 29) hx hb dX0_state_20 (by decide) (fun c_20 => ?_) (fun c_20 => ?_)
        · refine lv_iinc (v := nI (k + 1)) (lv' := [(2, .int (nI (k + 1))), (3, .int (S_X0_beatsTillLanding σ (nI k))), (1, .int v1), (0, .ref j)]) hx hb dX0_state_29 hl (k := 1) rfl ((nI_succ _).symm) (by decide) rfl (fun ls hl => ?_)
          refine lv_goto (tgt := 4) hx hb dX0_state_32 (by decide) ?_
          exact ih4 (k + 1) v1 ls (by omega) (by rw [← hG4]; simp only [G_X0_state_4, if_pos c_20]) (lv_sub hl [0, 2, 3] rfl)
        · refine lv_iload_n hx hb dX0_state_23 rfl (lv_at hl 2 rfl) ?_
          refine lv_iconst (v := 1) hx hb dX0_state_24 (by decide) ?_
          refine lv_iload_n hx hb dX0_state_25 rfl (lv_at hl 0 rfl) ?_
          refine lv_ishl hx hb dX0_state_26 ?_
          refine lv_ior hx hb dX0_state_27 ?_
          refine lv_istore_n (lv' := [(1, .int (v1 ||| (1 <<< ((S_X0_beatsTillLanding σ (nI k)) &&& 31)))), (3, .int (S_X0_beatsTillLanding σ (nI k))), (2, .int (nI k)), (0, .ref j)]) hx hb dX0_state_28 rfl hl (by decide) rfl (fun ls hl => ?_)
          refine lv_iinc (v := nI (k + 1)) (lv' := [(2, .int (nI (k + 1))), (1, .int (v1 ||| (1 <<< ((S_X0_beatsTillLanding σ (nI k)) &&& 31)))), (3, .int (S_X0_beatsTillLanding σ (nI k))), (0, .ref j)]) hx hb dX0_state_29 hl (k := 2) rfl ((nI_succ _).symm) (by decide) rfl (fun ls hl => ?_)
          refine lv_goto (tgt := 4) hx hb dX0_state_32 (by decide) ?_
          exact ih4 (k + 1) (v1 ||| (1 <<< ((S_X0_beatsTillLanding σ (nI k)) &&& 31))) ls (by omega) (by rw [← hG4]; simp only [G_X0_state_4, if_neg c_20]) (lv_sub hl [0, 1, 3] rfl)
  exact loop4 σ.2.2.2.1.toNatClampNeg 0 0 ls (by omega) (by simp only [S_X0_state]) (lv_sub hl [0, 1, 2] rfl)
def G_X0_propLandingIn_2 (σ : JS) (p0 : Int32) : Nat → Nat → Int32
  | 0, k => (-1)
  | mm + 1, k => (if (S_X0_beatsTillLanding σ (nI k)) = p0 then nI k else G_X0_propLandingIn_2 σ p0 mm (k + 1))
def S_X0_propLandingIn (σ : JS) (p0 : Int32) : Int32 := G_X0_propLandingIn_2 σ p0 σ.2.2.2.1.toNatClampNeg 0
set_option maxHeartbeats 4000000 in
set_option maxRecDepth 100000 in
theorem c_X0_propLandingIn (l : Launch) (dC : Nat → ClassId) (dI : Nat → Nat → Nat) (cI cR : ClassId) (j a1 a2 a3 : Nat) (σ : JS) (p0 : Int32)  : Met l yX0_propLandingIn wsX0_propLandingIn ({ frames := 2, cells := 0, slots := 0, locals := 43 }) (va_Pc [.ref j, .int p0] (fun U => va_P (dC, dI) vwCl (wJ cI j a1 a2 a3 σ) U.heap ∧ cE (dC, dI) cI cR U)) (vp_Si (fun r => r = S_X0_propLandingIn σ p0)) 0 0 (fun _ => False) := by
  refine Met.ofW (cc := cX0_propLandingIn) (maxL := 3) (ret := (some .int)) (by decide) rfl ?_
  intro p e s m args below meth c s₁ B hml hv
  obtain ⟨rfl, hP, hE⟩ := hv
  have hK := hE.1
  have hx := B.exec
  have hb := B.bytes
  have hr := B.returns
  have hts := atoms_spec (ws := wsX0_propLandingIn) B.pre
  have hown : s.vm.findClass RX0 = some m.cls := findClass_of_methodNamed B.named
  have hlocks := B.notSynchronized
  have hP : va_P (dC, dI) vwCl [(j, .inr (0, [.ref a1, .ref a2, .ref a3, .int σ.2.2.2.1, .int σ.2.2.2.2.1, .int σ.2.2.2.2.2.1, .int σ.2.2.2.2.2.2.1, .double σ.2.2.2.2.2.2.2])), (a1, .inl (cI, 6, .inl σ.1)), (a2, .inl (cI, 6, .inl σ.2.1)), (a3, .inl (cI, 6, .inl σ.2.2.1))] s.heap := hP
  have hl := lv_entry ([.ref j, .int p0]) (n := 3) (Nat.le_of_ble_eq_true rfl)
  rw [lg_entry_eq]
  generalize (lg_sl ([.ref j, .int p0]) ++ List.replicate (3 - (lg_sl ([.ref j, .int p0])).length) Slot.unset).toArray = ls at hl ⊢
  have hl : lv_has ls 3 [(0, .ref j), (1, .int p0)] := hl
  have q_0 := hts (.fieldLink RX0 21 "Cascadecourt$Juggler" "props" "I") (by decide +kernel)
  have in_X0 : ∀ w ∈ wsX00, w ∈ wsX0_propLandingIn := by decide +kernel
  refine lv_iconst (v := 0) hx hb dX0_propLandingIn_0 (by decide) ?_
  refine lv_istore_n (lv' := [(2, .int 0), (0, .ref j), (1, .int p0)]) hx hb dX0_propLandingIn_1 rfl hl (by decide) rfl (fun ls hl => ?_)
  have hn2 := p_clt σ.2.2.2.1
  have loop2 : ∀ (mm k : Nat) (ls : Array Slot), k + mm = σ.2.2.2.1.toNatClampNeg → G_X0_propLandingIn_2 σ p0 mm k = S_X0_propLandingIn σ p0 → lv_has ls 3 [(2, .int (nI k)), (0, .ref j), (1, .int p0)] → W p l e (headSpec wsX0_propLandingIn ({ frames := 2, cells := 0, slots := 0, locals := 43 })).room s m (([.ref j, .int p0] : List Value).toArray) below meth c s.heap [] 0 0 (MQ below (vp_Si (fun r => r = S_X0_propLandingIn σ p0)) (([.ref j, .int p0] : List Value).toArray) s 0 0 (fun _ => False)) (F0 m 2 ls []) := by
    intro mm
    induction mm with
    | zero =>
      intro k ls hk2 hG2 hl
      refine lv_iload_n hx hb dX0_propLandingIn_2 rfl (lv_at hl 0 rfl) ?_
      refine lv_aload_n hx hb dX0_propLandingIn_3 rfl (lv_at hl 1 rfl) ?_
      refine va_get (D := (dC, dI)) (ci := 0) (v := .int σ.2.2.2.1) (C := RX0) (T := TX0) (N := 8) hx hb hts in_X0 hown hK hP 0 rfl rfl 3 (by decide) q_0 (fun _ h9 => h9) rfl dX0_propLandingIn_4 ?_
      refine lv_icmp_ge (tgt := 27) hx hb dX0_propLandingIn_7 (by decide) (fun c_7 => ?_) (fun c_7 => ?_)
      · refine lv_iconst (v := (-1)) hx hb dX0_propLandingIn_27 (by decide) ?_
        exact W.iret (v := (-1)) hx hb hr (fun t ht hW => ⟨(-1), rfl, by rw [← hG2]; simp only [G_X0_propLandingIn_2], ht⟩) (fun q h => by cases h) dX0_propLandingIn_28
      · exact absurd ((p_le (by omega)).mpr (by omega)) c_7
    | succ mm ih2 =>
      intro k ls hk2 hG2 hl
      refine lv_iload_n hx hb dX0_propLandingIn_2 rfl (lv_at hl 0 rfl) ?_
      refine lv_aload_n hx hb dX0_propLandingIn_3 rfl (lv_at hl 1 rfl) ?_
      refine va_get (D := (dC, dI)) (ci := 0) (v := .int σ.2.2.2.1) (C := RX0) (T := TX0) (N := 8) hx hb hts in_X0 hown hK hP 0 rfl rfl 3 (by decide) q_0 (fun _ h9 => h9) rfl dX0_propLandingIn_4 ?_
      refine lv_icmp_ge (tgt := 27) hx hb dX0_propLandingIn_7 (by decide) (fun c_7 => ?_) (fun c_7 => ?_)
      · exact absurd ((p_le (by omega)).mp c_7) (by omega)
      · refine lv_aload_n hx hb dX0_propLandingIn_10 rfl (lv_at hl 1 rfl) ?_
        refine lv_iload_n hx hb dX0_propLandingIn_11 rfl (lv_at hl 0 rfl) ?_
        refine vp_callSi (va_Run.run (va_runV (As := [.int (nI k)]) (rest := []) ⟨hx, hb, hml, hown, hts⟩ (c_X0_beatsTillLanding l dC dI cI cR j a1 a2 a3 σ (nI k)) (cwV 1 hts gX0_propLandingIn_X0_beatsTillLanding rfl rfl rfl (by decide +kernel) ⟨Nat.le_of_ble_eq_true rfl, Nat.le_of_ble_eq_true rfl⟩) ⟨fun a U g mk q => by obtain ⟨q0, qP, qE⟩ := q; exact ⟨q0, qP, cE.same (s := U) rfl qE⟩, va_recv hK hP (ci := 0) (q0 := 0) rfl rfl, fun U hU hW => ⟨rfl, by rw [hU]; exact hP.sub (ws' := (wJ cI j a1 a2 a3 σ)) [0, 1, 2, 3] rfl, hE.warm hW⟩⟩ rfl rfl hl.1 rfl (lv_room (Nat.le_of_ble_eq_true rfl)) dX0_propLandingIn_12 ⟨Nat.zero_le _, Nat.zero_le _⟩)) (fun r_12 h_12 => ?_)
        subst h_12
        refine lv_iload_n hx hb dX0_propLandingIn_15 rfl (lv_at hl 2 rfl) ?_
        refine lv_icmp_ne (tgt := 21) hx hb dX0_propLandingIn_16 (by decide) (fun c_16 => ?_) (fun c_16 => ?_)
        · refine lv_iinc (v := nI (k + 1)) (lv' := [(2, .int (nI (k + 1))), (0, .ref j), (1, .int p0)]) hx hb dX0_propLandingIn_21 hl (k := 0) rfl ((nI_succ _).symm) (by decide) rfl (fun ls hl => ?_)
          refine lv_goto (tgt := 2) hx hb dX0_propLandingIn_24 (by decide) ?_
          exact ih2 (k + 1) ls (by omega) (by rw [← hG2]; simp only [G_X0_propLandingIn_2, if_neg c_16]) (lv_sub hl [0, 1, 2] rfl)
        · refine lv_iload_n hx hb dX0_propLandingIn_19 rfl (lv_at hl 0 rfl) ?_
          exact W.iret (v := (nI k)) hx hb hr (fun t ht hW => ⟨(nI k), rfl, by rw [← hG2]; simp only [G_X0_propLandingIn_2, if_pos c_16], ht⟩) (fun q h => by cases h) dX0_propLandingIn_20
  exact loop2 σ.2.2.2.1.toNatClampNeg 0 ls (by omega) (by simp only [S_X0_propLandingIn]) (lv_sub hl [0, 1, 2] rfl)
def G_X0_droppedProps_4 (σ : JS) : Nat → Nat → Int32 → Int32
  | 0, k, v1 => v1
  | mm + 1, k, v1 => (if (S_X0_isDropped σ (nI k)) = 0 then G_X0_droppedProps_4 σ mm (k + 1) v1 else G_X0_droppedProps_4 σ mm (k + 1) (v1 + 1))
def S_X0_droppedProps (σ : JS) : Int32 := G_X0_droppedProps_4 σ σ.2.2.2.1.toNatClampNeg 0 0
set_option maxHeartbeats 4000000 in
set_option maxRecDepth 100000 in
theorem c_X0_droppedProps (l : Launch) (dC : Nat → ClassId) (dI : Nat → Nat → Nat) (cI cR : ClassId) (j a1 a2 a3 : Nat) (σ : JS)   : Met l yX0_droppedProps wsX0_droppedProps ({ frames := 2, cells := 0, slots := 0, locals := 42 }) (va_Pc [.ref j] (fun U => va_P (dC, dI) vwCl (wJ cI j a1 a2 a3 σ) U.heap ∧ cE (dC, dI) cI cR U)) (vp_Si (fun r => r = S_X0_droppedProps σ)) 0 0 (fun _ => False) := by
  refine Met.ofW (cc := cX0_droppedProps) (maxL := 3) (ret := (some .int)) (by decide) rfl ?_
  intro p e s m args below meth c s₁ B hml hv
  obtain ⟨rfl, hP, hE⟩ := hv
  have hK := hE.1
  have hx := B.exec
  have hb := B.bytes
  have hr := B.returns
  have hts := atoms_spec (ws := wsX0_droppedProps) B.pre
  have hown : s.vm.findClass RX0 = some m.cls := findClass_of_methodNamed B.named
  have hlocks := B.notSynchronized
  have hP : va_P (dC, dI) vwCl [(j, .inr (0, [.ref a1, .ref a2, .ref a3, .int σ.2.2.2.1, .int σ.2.2.2.2.1, .int σ.2.2.2.2.2.1, .int σ.2.2.2.2.2.2.1, .double σ.2.2.2.2.2.2.2])), (a1, .inl (cI, 6, .inl σ.1)), (a2, .inl (cI, 6, .inl σ.2.1)), (a3, .inl (cI, 6, .inl σ.2.2.1))] s.heap := hP
  have hl := lv_entry ([.ref j]) (n := 3) (Nat.le_of_ble_eq_true rfl)
  rw [lg_entry_eq]
  generalize (lg_sl ([.ref j]) ++ List.replicate (3 - (lg_sl ([.ref j])).length) Slot.unset).toArray = ls at hl ⊢
  have hl : lv_has ls 3 [(0, .ref j)] := hl
  have q_0 := hts (.fieldLink RX0 21 "Cascadecourt$Juggler" "props" "I") (by decide +kernel)
  have in_X0 : ∀ w ∈ wsX00, w ∈ wsX0_droppedProps := by decide +kernel
  refine lv_iconst (v := 0) hx hb dX0_droppedProps_0 (by decide) ?_
  refine lv_istore_n (lv' := [(1, .int 0), (0, .ref j)]) hx hb dX0_droppedProps_1 rfl hl (by decide) rfl (fun ls hl => ?_)
  refine lv_iconst (v := 0) hx hb dX0_droppedProps_2 (by decide) ?_
  refine lv_istore_n (lv' := [(2, .int 0), (1, .int 0), (0, .ref j)]) hx hb dX0_droppedProps_3 rfl hl (by decide) rfl (fun ls hl => ?_)
  have hn4 := p_clt σ.2.2.2.1
  have loop4 : ∀ (mm k : Nat) (v1 : Int32) (ls : Array Slot), k + mm = σ.2.2.2.1.toNatClampNeg → G_X0_droppedProps_4 σ mm k v1 = S_X0_droppedProps σ → lv_has ls 3 [(2, .int (nI k)), (1, .int v1), (0, .ref j)] → W p l e (headSpec wsX0_droppedProps ({ frames := 2, cells := 0, slots := 0, locals := 42 })).room s m (([.ref j] : List Value).toArray) below meth c s.heap [] 0 0 (MQ below (vp_Si (fun r => r = S_X0_droppedProps σ)) (([.ref j] : List Value).toArray) s 0 0 (fun _ => False)) (F0 m 4 ls []) := by
    intro mm
    induction mm with
    | zero =>
      intro k v1 ls hk4 hG4 hl
      refine lv_iload_n hx hb dX0_droppedProps_4 rfl (lv_at hl 0 rfl) ?_
      refine lv_aload_n hx hb dX0_droppedProps_5 rfl (lv_at hl 2 rfl) ?_
      refine va_get (D := (dC, dI)) (ci := 0) (v := .int σ.2.2.2.1) (C := RX0) (T := TX0) (N := 8) hx hb hts in_X0 hown hK hP 0 rfl rfl 3 (by decide) q_0 (fun _ h9 => h9) rfl dX0_droppedProps_6 ?_
      refine lv_icmp_ge (tgt := 29) hx hb dX0_droppedProps_9 (by decide) (fun c_9 => ?_) (fun c_9 => ?_)
      · refine lv_iload_n hx hb dX0_droppedProps_29 rfl (lv_at hl 1 rfl) ?_
        exact W.iret (v := v1) hx hb hr (fun t ht hW => ⟨v1, rfl, by rw [← hG4]; simp only [G_X0_droppedProps_4], ht⟩) (fun q h => by cases h) dX0_droppedProps_30
      · exact absurd ((p_le (by omega)).mpr (by omega)) c_9
    | succ mm ih4 =>
      intro k v1 ls hk4 hG4 hl
      refine lv_iload_n hx hb dX0_droppedProps_4 rfl (lv_at hl 0 rfl) ?_
      refine lv_aload_n hx hb dX0_droppedProps_5 rfl (lv_at hl 2 rfl) ?_
      refine va_get (D := (dC, dI)) (ci := 0) (v := .int σ.2.2.2.1) (C := RX0) (T := TX0) (N := 8) hx hb hts in_X0 hown hK hP 0 rfl rfl 3 (by decide) q_0 (fun _ h9 => h9) rfl dX0_droppedProps_6 ?_
      refine lv_icmp_ge (tgt := 29) hx hb dX0_droppedProps_9 (by decide) (fun c_9 => ?_) (fun c_9 => ?_)
      · exact absurd ((p_le (by omega)).mp c_9) (by omega)
      · refine lv_aload_n hx hb dX0_droppedProps_12 rfl (lv_at hl 2 rfl) ?_
        refine lv_iload_n hx hb dX0_droppedProps_13 rfl (lv_at hl 0 rfl) ?_
        refine vp_callSi (va_Run.run (va_runV (As := [.int (nI k)]) (rest := []) ⟨hx, hb, hml, hown, hts⟩ (c_X0_isDropped l dC dI cI cR j a1 a2 a3 σ (nI k)) (cwV 1 hts gX0_droppedProps_X0_isDropped rfl rfl rfl (by decide +kernel) ⟨Nat.le_of_ble_eq_true rfl, Nat.le_of_ble_eq_true rfl⟩) ⟨fun a U g mk q => by obtain ⟨q0, qP, qE⟩ := q; exact ⟨q0, qP, cE.same (s := U) rfl qE⟩, va_recv hK hP (ci := 0) (q0 := 0) rfl rfl, fun U hU hW => ⟨rfl, by rw [hU]; exact hP.sub (ws' := (wJ cI j a1 a2 a3 σ)) [0, 1, 2, 3] rfl, hE.warm hW⟩⟩ rfl rfl hl.1 rfl (lv_room (Nat.le_of_ble_eq_true rfl)) dX0_droppedProps_14 ⟨Nat.zero_le _, Nat.zero_le _⟩)) (fun r_14 h_14 => ?_)
        obtain ⟨rfl, hz_14⟩ := h_14
        refine lv_if_eq (tgt := 23) hx hb dX0_droppedProps_17 (by decide) (fun c_17 => ?_) (fun c_17 => ?_)
        · refine lv_iinc (v := nI (k + 1)) (lv' := [(2, .int (nI (k + 1))), (1, .int v1), (0, .ref j)]) hx hb dX0_droppedProps_23 hl (k := 0) rfl ((nI_succ _).symm) (by decide) rfl (fun ls hl => ?_)
          refine lv_goto (tgt := 4) hx hb dX0_droppedProps_26 (by decide) ?_
          exact ih4 (k + 1) v1 ls (by omega) (by rw [← hG4]; simp only [G_X0_droppedProps_4, if_pos c_17]) (lv_sub hl [0, 1, 2] rfl)
        · refine lv_iinc (v := v1 + 1) (lv' := [(1, .int (v1 + 1)), (2, .int (nI k)), (0, .ref j)]) hx hb dX0_droppedProps_20 hl (k := 1) rfl (rfl) (by decide) rfl (fun ls hl => ?_)
          refine lv_iinc (v := nI (k + 1)) (lv' := [(2, .int (nI (k + 1))), (1, .int (v1 + 1)), (0, .ref j)]) hx hb dX0_droppedProps_23 hl (k := 1) rfl ((nI_succ _).symm) (by decide) rfl (fun ls hl => ?_)
          refine lv_goto (tgt := 4) hx hb dX0_droppedProps_26 (by decide) ?_
          exact ih4 (k + 1) (v1 + 1) ls (by omega) (by rw [← hG4]; simp only [G_X0_droppedProps_4, if_neg c_17]) (lv_sub hl [0, 1, 2] rfl)
  exact loop4 σ.2.2.2.1.toNatClampNeg 0 0 ls (by omega) (by simp only [S_X0_droppedProps]) (lv_sub hl [0, 1, 2] rfl)
def G_X0_flightsOfAll_4 (σ : JS) : Nat → Nat → Int32 → Int32
  | 0, k, v1 => v1
  | mm + 1, k, v1 => G_X0_flightsOfAll_4 σ mm (k + 1) (v1 + (S_X3_cell 6 σ.2.1 (nI k)))
def S_X0_flightsOfAll (σ : JS) : Int32 := G_X0_flightsOfAll_4 σ σ.2.2.2.1.toNatClampNeg 0 0
set_option maxHeartbeats 4000000 in
set_option maxRecDepth 100000 in
theorem c_X0_flightsOfAll (l : Launch) (dC : Nat → ClassId) (dI : Nat → Nat → Nat) (cI cR : ClassId) (j a1 a2 a3 : Nat) (σ : JS)   : Met l yX0_flightsOfAll wsX0_flightsOfAll ({ frames := 1, cells := 0, slots := 0, locals := 21 }) (va_Pc [.ref j] (fun U => va_P (dC, dI) vwCl (wJ cI j a1 a2 a3 σ) U.heap ∧ cE (dC, dI) cI cR U)) (vp_Si (fun r => r = S_X0_flightsOfAll σ)) 0 0 (fun _ => False) := by
  refine Met.ofW (cc := cX0_flightsOfAll) (maxL := 3) (ret := (some .int)) (by decide) rfl ?_
  intro p e s m args below meth c s₁ B hml hv
  obtain ⟨rfl, hP, hE⟩ := hv
  have hK := hE.1
  have hx := B.exec
  have hb := B.bytes
  have hr := B.returns
  have hts := atoms_spec (ws := wsX0_flightsOfAll) B.pre
  have hown : s.vm.findClass RX0 = some m.cls := findClass_of_methodNamed B.named
  have hlocks := B.notSynchronized
  have hP : va_P (dC, dI) vwCl [(j, .inr (0, [.ref a1, .ref a2, .ref a3, .int σ.2.2.2.1, .int σ.2.2.2.2.1, .int σ.2.2.2.2.2.1, .int σ.2.2.2.2.2.2.1, .double σ.2.2.2.2.2.2.2])), (a1, .inl (cI, 6, .inl σ.1)), (a2, .inl (cI, 6, .inl σ.2.1)), (a3, .inl (cI, 6, .inl σ.2.2.1))] s.heap := hP
  have hl := lv_entry ([.ref j]) (n := 3) (Nat.le_of_ble_eq_true rfl)
  rw [lg_entry_eq]
  generalize (lg_sl ([.ref j]) ++ List.replicate (3 - (lg_sl ([.ref j])).length) Slot.unset).toArray = ls at hl ⊢
  have hl : lv_has ls 3 [(0, .ref j)] := hl
  have q_0 := hts (.fieldLink RX0 21 "Cascadecourt$Juggler" "props" "I") (by decide +kernel)
  have in_X0 : ∀ w ∈ wsX00, w ∈ wsX0_flightsOfAll := by decide +kernel
  have q_1 := hts (.fieldLink RX0 15 "Cascadecourt$Juggler" "flights" "[I") (by decide +kernel)
  have q_2 := hts (.initialized RX3) (by decide +kernel)
  have q_3 := hts (.static yX3_cell) (by decide +kernel)
  refine lv_iconst (v := 0) hx hb dX0_flightsOfAll_0 (by decide) ?_
  refine lv_istore_n (lv' := [(1, .int 0), (0, .ref j)]) hx hb dX0_flightsOfAll_1 rfl hl (by decide) rfl (fun ls hl => ?_)
  refine lv_iconst (v := 0) hx hb dX0_flightsOfAll_2 (by decide) ?_
  refine lv_istore_n (lv' := [(2, .int 0), (1, .int 0), (0, .ref j)]) hx hb dX0_flightsOfAll_3 rfl hl (by decide) rfl (fun ls hl => ?_)
  have hn4 := p_clt σ.2.2.2.1
  have loop4 : ∀ (mm k : Nat) (v1 : Int32) (ls : Array Slot), k + mm = σ.2.2.2.1.toNatClampNeg → G_X0_flightsOfAll_4 σ mm k v1 = S_X0_flightsOfAll σ → lv_has ls 3 [(2, .int (nI k)), (1, .int v1), (0, .ref j)] → W p l e (headSpec wsX0_flightsOfAll ({ frames := 1, cells := 0, slots := 0, locals := 21 })).room s m (([.ref j] : List Value).toArray) below meth c s.heap [] 0 0 (MQ below (vp_Si (fun r => r = S_X0_flightsOfAll σ)) (([.ref j] : List Value).toArray) s 0 0 (fun _ => False)) (F0 m 4 ls []) := by
    intro mm
    induction mm with
    | zero =>
      intro k v1 ls hk4 hG4 hl
      refine lv_iload_n hx hb dX0_flightsOfAll_4 rfl (lv_at hl 0 rfl) ?_
      refine lv_aload_n hx hb dX0_flightsOfAll_5 rfl (lv_at hl 2 rfl) ?_
      refine va_get (D := (dC, dI)) (ci := 0) (v := .int σ.2.2.2.1) (C := RX0) (T := TX0) (N := 8) hx hb hts in_X0 hown hK hP 0 rfl rfl 3 (by decide) q_0 (fun _ h9 => h9) rfl dX0_flightsOfAll_6 ?_
      refine lv_icmp_ge (tgt := 29) hx hb dX0_flightsOfAll_9 (by decide) (fun c_9 => ?_) (fun c_9 => ?_)
      · refine lv_iload_n hx hb dX0_flightsOfAll_29 rfl (lv_at hl 1 rfl) ?_
        exact W.iret (v := v1) hx hb hr (fun t ht hW => ⟨v1, rfl, by rw [← hG4]; simp only [G_X0_flightsOfAll_4], ht⟩) (fun q h => by cases h) dX0_flightsOfAll_30
      · exact absurd ((p_le (by omega)).mpr (by omega)) c_9
    | succ mm ih4 =>
      intro k v1 ls hk4 hG4 hl
      refine lv_iload_n hx hb dX0_flightsOfAll_4 rfl (lv_at hl 0 rfl) ?_
      refine lv_aload_n hx hb dX0_flightsOfAll_5 rfl (lv_at hl 2 rfl) ?_
      refine va_get (D := (dC, dI)) (ci := 0) (v := .int σ.2.2.2.1) (C := RX0) (T := TX0) (N := 8) hx hb hts in_X0 hown hK hP 0 rfl rfl 3 (by decide) q_0 (fun _ h9 => h9) rfl dX0_flightsOfAll_6 ?_
      refine lv_icmp_ge (tgt := 29) hx hb dX0_flightsOfAll_9 (by decide) (fun c_9 => ?_) (fun c_9 => ?_)
      · exact absurd ((p_le (by omega)).mp c_9) (by omega)
      · refine lv_iload_n hx hb dX0_flightsOfAll_12 rfl (lv_at hl 1 rfl) ?_
        refine lv_aload_n hx hb dX0_flightsOfAll_13 rfl (lv_at hl 2 rfl) ?_
        refine va_get (D := (dC, dI)) (ci := 0) (v := .ref a2) (C := RX0) (T := TX0) (N := 8) hx hb hts in_X0 hown hK hP 0 rfl rfl 1 (by decide) q_1 (fun _ h9 => h9) rfl dX0_flightsOfAll_14 ?_
        refine lv_iload_n hx hb dX0_flightsOfAll_17 rfl (lv_at hl 0 rfl) ?_
        refine vp_callSi (va_Run.run (va_runSN (As := [.ref a2, .int (nI k)]) (rest := [.int v1]) ⟨hx, hb, hml, hown, hts⟩ (c_X3_cell l dC dI cI cR a2 6 σ.2.1 (by decide) (nI k)) ⟨va_cnB 2 hts gX0_flightsOfAll_X3_cell_n42 rfl rfl rfl (hE.2 (.methodLinkNest RX0 42 yX3_cell "Cascadecourt") (by decide +kernel)) q_2 (by decide +kernel) ⟨Nat.le_of_ble_eq_true rfl, Nat.le_of_ble_eq_true rfl⟩, q_3, trivial⟩ ⟨fun a U g mk q => by obtain ⟨q0, qP, qE⟩ := q; exact ⟨q0, qP, cE.same (s := U) rfl qE⟩, fun U hU hW => ⟨rfl, by rw [hU]; exact hP.sub (ws' := [(a2, .inl (cI, 6, .inl σ.2.1))]) [2] rfl, hE.warm hW⟩⟩ rfl rfl hl.1 rfl (lv_room (Nat.le_of_ble_eq_true rfl)) dX0_flightsOfAll_18 ⟨Nat.zero_le _, Nat.zero_le _⟩)) (fun r_18 h_18 => ?_)
        subst h_18
        refine lv_iadd hx hb dX0_flightsOfAll_21 ?_
        refine lv_istore_n (lv' := [(1, .int (v1 + (S_X3_cell 6 σ.2.1 (nI k)))), (2, .int (nI k)), (0, .ref j)]) hx hb dX0_flightsOfAll_22 rfl hl (by decide) rfl (fun ls hl => ?_)
        refine lv_iinc (v := nI (k + 1)) (lv' := [(2, .int (nI (k + 1))), (1, .int (v1 + (S_X3_cell 6 σ.2.1 (nI k)))), (0, .ref j)]) hx hb dX0_flightsOfAll_23 hl (k := 1) rfl ((nI_succ _).symm) (by decide) rfl (fun ls hl => ?_)
        refine lv_goto (tgt := 4) hx hb dX0_flightsOfAll_26 (by decide) ?_
        exact ih4 (k + 1) (v1 + (S_X3_cell 6 σ.2.1 (nI k))) ls (by omega) (by rw [← hG4]; simp only [G_X0_flightsOfAll_4]) (lv_sub hl [0, 1, 2] rfl)
  exact loop4 σ.2.2.2.1.toNatClampNeg 0 0 ls (by omega) (by simp only [S_X0_flightsOfAll]) (lv_sub hl [0, 1, 2] rfl)
def S_X0_answerOf (σ : JS) (p0 : Int32) (p1 : Int32) : Int32 := (if p1 = 0 then S_X0_beatsTillLanding σ p0 else (if p1 = 1 then S_X3_cell 6 σ.2.1 p0 else (if p1 = 2 then S_X3_cell 6 σ.2.2.1 p0 else S_X0_handOf σ p0)))
set_option maxHeartbeats 4000000 in
set_option maxRecDepth 100000 in
theorem c_X0_answerOf (l : Launch) (dC : Nat → ClassId) (dI : Nat → Nat → Nat) (cI cR : ClassId) (j a1 a2 a3 : Nat) (σ : JS) (p0 : Int32) (p1 : Int32)  : Met l yX0_answerOf wsX0_answerOf ({ frames := 3, cells := 0, slots := 0, locals := 63 }) (va_Pc [.ref j, .int p0, .int p1] (fun U => va_P (dC, dI) vwCl (wJ cI j a1 a2 a3 σ) U.heap ∧ cE (dC, dI) cI cR U)) (vp_Si (fun r => r = S_X0_answerOf σ p0 p1)) 0 0 (fun _ => False) := by
  refine Met.ofW (cc := cX0_answerOf) (maxL := 3) (ret := (some .int)) (by decide) rfl ?_
  intro p e s m args below meth c s₁ B hml hv
  obtain ⟨rfl, hP, hE⟩ := hv
  have hK := hE.1
  have hx := B.exec
  have hb := B.bytes
  have hr := B.returns
  have hts := atoms_spec (ws := wsX0_answerOf) B.pre
  have hown : s.vm.findClass RX0 = some m.cls := findClass_of_methodNamed B.named
  have hlocks := B.notSynchronized
  have hP : va_P (dC, dI) vwCl [(j, .inr (0, [.ref a1, .ref a2, .ref a3, .int σ.2.2.2.1, .int σ.2.2.2.2.1, .int σ.2.2.2.2.2.1, .int σ.2.2.2.2.2.2.1, .double σ.2.2.2.2.2.2.2])), (a1, .inl (cI, 6, .inl σ.1)), (a2, .inl (cI, 6, .inl σ.2.1)), (a3, .inl (cI, 6, .inl σ.2.2.1))] s.heap := hP
  have hl := lv_entry ([.ref j, .int p0, .int p1]) (n := 3) (Nat.le_of_ble_eq_true rfl)
  rw [lg_entry_eq]
  generalize (lg_sl ([.ref j, .int p0, .int p1]) ++ List.replicate (3 - (lg_sl ([.ref j, .int p0, .int p1])).length) Slot.unset).toArray = ls at hl ⊢
  have hl : lv_has ls 3 [(0, .ref j), (1, .int p0), (2, .int p1)] := hl
  have q_0 := hts (.fieldLink RX0 15 "Cascadecourt$Juggler" "flights" "[I") (by decide +kernel)
  have in_X0 : ∀ w ∈ wsX00, w ∈ wsX0_answerOf := by decide +kernel
  have q_1 := hts (.initialized RX3) (by decide +kernel)
  have q_2 := hts (.static yX3_cell) (by decide +kernel)
  have q_3 := hts (.fieldLink RX0 18 "Cascadecourt$Juggler" "drops" "[I") (by decide +kernel)
  refine lv_iload_n hx hb dX0_answerOf_0 rfl (lv_at hl 2 rfl) ?_
  by_cases k_1_0 : p1 = 0
  · refine lv_tableIn (off := 27) (tgt := 28) hx hb dX0_answerOf_1 (by rw [k_1_0]; decide) (by rw [k_1_0]; decide) (by rw [k_1_0]; rfl) (by decide) ?_
    refine lv_aload_n hx hb dX0_answerOf_28 rfl (lv_at hl 0 rfl) ?_
    refine lv_iload_n hx hb dX0_answerOf_29 rfl (lv_at hl 1 rfl) ?_
    refine vp_callSi (va_Run.run (va_runV (As := [.int p0]) (rest := []) ⟨hx, hb, hml, hown, hts⟩ (c_X0_beatsTillLanding l dC dI cI cR j a1 a2 a3 σ p0) (cwV 1 hts gX0_answerOf_X0_beatsTillLanding rfl rfl rfl (by decide +kernel) ⟨Nat.le_of_ble_eq_true rfl, Nat.le_of_ble_eq_true rfl⟩) ⟨fun a U g mk q => by obtain ⟨q0, qP, qE⟩ := q; exact ⟨q0, qP, cE.same (s := U) rfl qE⟩, va_recv hK hP (ci := 0) (q0 := 0) rfl rfl, fun U hU hW => ⟨rfl, by rw [hU]; exact hP.sub (ws' := (wJ cI j a1 a2 a3 σ)) [0, 1, 2, 3] rfl, hE.warm hW⟩⟩ rfl rfl hl.1 rfl (lv_room (Nat.le_of_ble_eq_true rfl)) dX0_answerOf_30 ⟨Nat.zero_le _, Nat.zero_le _⟩)) (fun r_30 h_30 => ?_)
    subst h_30
    exact W.iret (v := (S_X0_beatsTillLanding σ p0)) hx hb hr (fun t ht hW => ⟨(S_X0_beatsTillLanding σ p0), rfl, by simp only [S_X0_answerOf, if_pos k_1_0], ht⟩) (fun q h => by cases h) dX0_answerOf_33
  by_cases k_1_1 : p1 = 1
  · refine lv_tableIn (off := 33) (tgt := 34) hx hb dX0_answerOf_1 (by rw [k_1_1]; decide) (by rw [k_1_1]; decide) (by rw [k_1_1]; rfl) (by decide) ?_
    refine lv_aload_n hx hb dX0_answerOf_34 rfl (lv_at hl 0 rfl) ?_
    refine va_get (D := (dC, dI)) (ci := 0) (v := .ref a2) (C := RX0) (T := TX0) (N := 8) hx hb hts in_X0 hown hK hP 0 rfl rfl 1 (by decide) q_0 (fun _ h9 => h9) rfl dX0_answerOf_35 ?_
    refine lv_iload_n hx hb dX0_answerOf_38 rfl (lv_at hl 1 rfl) ?_
    refine vp_callSi (va_Run.run (va_runSN (As := [.ref a2, .int p0]) (rest := []) ⟨hx, hb, hml, hown, hts⟩ (c_X3_cell l dC dI cI cR a2 6 σ.2.1 (by decide) p0) ⟨va_cnB 2 hts gX0_answerOf_X3_cell_n42 rfl rfl rfl (hE.2 (.methodLinkNest RX0 42 yX3_cell "Cascadecourt") (by decide +kernel)) q_1 (by decide +kernel) ⟨Nat.le_of_ble_eq_true rfl, Nat.le_of_ble_eq_true rfl⟩, q_2, trivial⟩ ⟨fun a U g mk q => by obtain ⟨q0, qP, qE⟩ := q; exact ⟨q0, qP, cE.same (s := U) rfl qE⟩, fun U hU hW => ⟨rfl, by rw [hU]; exact hP.sub (ws' := [(a2, .inl (cI, 6, .inl σ.2.1))]) [2] rfl, hE.warm hW⟩⟩ rfl rfl hl.1 rfl (lv_room (Nat.le_of_ble_eq_true rfl)) dX0_answerOf_39 ⟨Nat.zero_le _, Nat.zero_le _⟩)) (fun r_39 h_39 => ?_)
    subst h_39
    exact W.iret (v := (S_X3_cell 6 σ.2.1 p0)) hx hb hr (fun t ht hW => ⟨(S_X3_cell 6 σ.2.1 p0), rfl, by simp only [S_X0_answerOf, if_neg k_1_0, if_pos k_1_1], ht⟩) (fun q h => by cases h) dX0_answerOf_42
  by_cases k_1_2 : p1 = 2
  · refine lv_tableIn (off := 42) (tgt := 43) hx hb dX0_answerOf_1 (by rw [k_1_2]; decide) (by rw [k_1_2]; decide) (by rw [k_1_2]; rfl) (by decide) ?_
    refine lv_aload_n hx hb dX0_answerOf_43 rfl (lv_at hl 0 rfl) ?_
    refine va_get (D := (dC, dI)) (ci := 0) (v := .ref a3) (C := RX0) (T := TX0) (N := 8) hx hb hts in_X0 hown hK hP 0 rfl rfl 2 (by decide) q_3 (fun _ h9 => h9) rfl dX0_answerOf_44 ?_
    refine lv_iload_n hx hb dX0_answerOf_47 rfl (lv_at hl 1 rfl) ?_
    refine vp_callSi (va_Run.run (va_runSN (As := [.ref a3, .int p0]) (rest := []) ⟨hx, hb, hml, hown, hts⟩ (c_X3_cell l dC dI cI cR a3 6 σ.2.2.1 (by decide) p0) ⟨va_cnB 2 hts gX0_answerOf_X3_cell_n42 rfl rfl rfl (hE.2 (.methodLinkNest RX0 42 yX3_cell "Cascadecourt") (by decide +kernel)) q_1 (by decide +kernel) ⟨Nat.le_of_ble_eq_true rfl, Nat.le_of_ble_eq_true rfl⟩, q_2, trivial⟩ ⟨fun a U g mk q => by obtain ⟨q0, qP, qE⟩ := q; exact ⟨q0, qP, cE.same (s := U) rfl qE⟩, fun U hU hW => ⟨rfl, by rw [hU]; exact hP.sub (ws' := [(a3, .inl (cI, 6, .inl σ.2.2.1))]) [3] rfl, hE.warm hW⟩⟩ rfl rfl hl.1 rfl (lv_room (Nat.le_of_ble_eq_true rfl)) dX0_answerOf_48 ⟨Nat.zero_le _, Nat.zero_le _⟩)) (fun r_48 h_48 => ?_)
    subst h_48
    exact W.iret (v := (S_X3_cell 6 σ.2.2.1 p0)) hx hb hr (fun t ht hW => ⟨(S_X3_cell 6 σ.2.2.1 p0), rfl, by simp only [S_X0_answerOf, if_neg k_1_0, if_neg k_1_1, if_pos k_1_2], ht⟩) (fun q h => by cases h) dX0_answerOf_51
  refine lv_tableOut (tgt := 52) hx hb dX0_answerOf_1 (p_out3 k_1_0 k_1_1 k_1_2) (by decide) ?_
  refine lv_aload_n hx hb dX0_answerOf_52 rfl (lv_at hl 0 rfl) ?_
  refine lv_iload_n hx hb dX0_answerOf_53 rfl (lv_at hl 1 rfl) ?_
  refine vp_callSi (va_Run.run (va_runV (As := [.int p0]) (rest := []) ⟨hx, hb, hml, hown, hts⟩ (c_X0_handOf l dC dI cI cR j a1 a2 a3 σ p0) (cwV 1 hts gX0_answerOf_X0_handOf rfl rfl rfl (by decide +kernel) ⟨Nat.le_of_ble_eq_true rfl, Nat.le_of_ble_eq_true rfl⟩) ⟨fun a U g mk q => by obtain ⟨q0, qP, qE⟩ := q; exact ⟨q0, qP, cE.same (s := U) rfl qE⟩, va_recv hK hP (ci := 0) (q0 := 0) rfl rfl, fun U hU hW => ⟨rfl, by rw [hU]; exact hP.sub (ws' := (wJ cI j a1 a2 a3 σ)) [0, 1, 2, 3] rfl, hE.warm hW⟩⟩ rfl rfl hl.1 rfl (lv_room (Nat.le_of_ble_eq_true rfl)) dX0_answerOf_54 ⟨Nat.zero_le _, Nat.zero_le _⟩)) (fun r_54 h_54 => ?_)
  subst h_54
  exact W.iret (v := (S_X0_handOf σ p0)) hx hb hr (fun t ht hW => ⟨(S_X0_handOf σ p0), rfl, by simp only [S_X0_answerOf, if_neg k_1_0, if_neg k_1_1, if_neg k_1_2], ht⟩) (fun q h => by cases h) dX0_answerOf_57
end
section
/-! LAID BY MY PROGRAM wip/gen/p26.py: contracts, method by method -/
def S_X0_sendUp (σ : JS) (p0 : Int32) (p1 : Int32) : JS := (if p0 = (-1) then σ else ((S_X3_setCell 6 σ.1 p0 (σ.2.2.2.2.1 + p1)), (S_X3_setCell 6 σ.2.1 p0 ((S_X3_cell 6 σ.2.1 p0) + 1)), σ.2.2.1, σ.2.2.2.1, σ.2.2.2.2.1, σ.2.2.2.2.2.1, σ.2.2.2.2.2.2.1, σ.2.2.2.2.2.2.2))
set_option maxHeartbeats 4000000 in
set_option maxRecDepth 100000 in
theorem c_X0_sendUp (l : Launch) (dC : Nat → ClassId) (dI : Nat → Nat → Nat) (cI cR : ClassId) (sz : Nat) (j a1 a2 a3 : Nat) (σ : JS) (p0 : Int32) (p1 : Int32)  : Met l yX0_sendUp wsX0_sendUp ({ frames := 1, cells := 0, slots := 0, locals := 22 }) (va_Pc [.ref j, .int p0, .int p1] (fun U => U.heap.size = sz ∧ va_P (dC, dI) vwCl (wJ cI j a1 a2 a3 σ) U.heap ∧ cE (dC, dI) cI cR U ∧ va_D (fun _ => True) (wJ cI j a1 a2 a3 σ))) (va_Qv (fun _ : Unit => True) (fun (_ : Unit) t => va_P (dC, dI) vwCl (wJ cI j a1 a2 a3 (S_X0_sendUp σ p0 p1)) t.heap ∧ cE (dC, dI) cI cR t ∧ va_D (va_A (wJ cI j a1 a2 a3 σ) sz) (wJ cI j a1 a2 a3 (S_X0_sendUp σ p0 p1))) (va_A (wJ cI j a1 a2 a3 σ) sz)) 0 0 (va_A (wJ cI j a1 a2 a3 σ) sz) := by
  refine Met.ofW (cc := cX0_sendUp) (maxL := 3) (ret := none) (by decide) rfl ?_
  intro p e s m args below meth c s₁ B hml hv
  obtain ⟨rfl, hsz, hP, hE, hD0⟩ := hv
  have hK := hE.1
  have hx := B.exec
  have hb := B.bytes
  have hr := B.returns
  have hts := atoms_spec (ws := wsX0_sendUp) B.pre
  have hown : s.vm.findClass RX0 = some m.cls := findClass_of_methodNamed B.named
  have hlocks := B.notSynchronized
  subst hsz
  have hD := hD0.self (sz := s.heap.size)
  generalize hAe : va_A (wJ cI j a1 a2 a3 σ) s.heap.size = A at hD ⊢
  have hA : ∀ q : Nat, s.heap.size ≤ q → A q := fun q h => by rw [← hAe]; exact Or.inr h
  have hS : va_S A s.heap s.heap [] := va_S.rf
  have hP : va_P (dC, dI) vwCl [(j, .inr (0, [.ref a1, .ref a2, .ref a3, .int σ.2.2.2.1, .int σ.2.2.2.2.1, .int σ.2.2.2.2.2.1, .int σ.2.2.2.2.2.2.1, .double σ.2.2.2.2.2.2.2])), (a1, .inl (cI, 6, .inl σ.1)), (a2, .inl (cI, 6, .inl σ.2.1)), (a3, .inl (cI, 6, .inl σ.2.2.1))] s.heap := hP
  have hD : va_D A [(j, .inr (0, [.ref a1, .ref a2, .ref a3, .int σ.2.2.2.1, .int σ.2.2.2.2.1, .int σ.2.2.2.2.2.1, .int σ.2.2.2.2.2.2.1, .double σ.2.2.2.2.2.2.2])), (a1, .inl (cI, 6, .inl σ.1)), (a2, .inl (cI, 6, .inl σ.2.1)), (a3, .inl (cI, 6, .inl σ.2.2.1))] := hD
  have hl := lv_entry ([.ref j, .int p0, .int p1]) (n := 3) (Nat.le_of_ble_eq_true rfl)
  rw [lg_entry_eq]
  generalize (lg_sl ([.ref j, .int p0, .int p1]) ++ List.replicate (3 - (lg_sl ([.ref j, .int p0, .int p1])).length) Slot.unset).toArray = ls at hl ⊢
  have hl : lv_has ls 3 [(0, .ref j), (1, .int p0), (2, .int p1)] := hl
  have q_0 := hts (.fieldLink RX0 9 "Cascadecourt$Juggler" "landsAt" "[I") (by decide +kernel)
  have in_X0 : ∀ w ∈ wsX00, w ∈ wsX0_sendUp := by decide +kernel
  have q_1 := hts (.fieldLink RX0 25 "Cascadecourt$Juggler" "beat" "I") (by decide +kernel)
  have q_2 := hts (.initialized RX3) (by decide +kernel)
  have q_3 := hts (.static yX3_setCell) (by decide +kernel)
  have q_4 := hts (.fieldLink RX0 15 "Cascadecourt$Juggler" "flights" "[I") (by decide +kernel)
  have q_5 := hts (.static yX3_cell) (by decide +kernel)
  refine lv_iload_n hx hb dX0_sendUp_0 rfl (lv_at hl 1 rfl) ?_
  refine lv_iconst (v := (-1)) hx hb dX0_sendUp_1 (by decide) ?_
  refine lv_icmp_eq (tgt := 37) hx hb dX0_sendUp_2 (by decide) (fun c_2 => ?_) (fun c_2 => ?_)
  · have e9 : S_X0_sendUp σ p0 p1 = σ := by simp only [S_X0_sendUp, if_pos c_2]
    exact W.vret hx hb hr (fun t ht hW => ⟨⟨(), rfl, trivial, by rw [ht, e9]; exact hP, hE.warm hW, by rw [e9]; exact hD⟩, hS.F ht⟩) hS.2.2 dX0_sendUp_37
  · refine lv_aload_n hx hb dX0_sendUp_5 rfl (lv_at hl 0 rfl) ?_
    refine va_get (D := (dC, dI)) (ci := 0) (v := .ref a1) (C := RX0) (T := TX0) (N := 8) hx hb hts in_X0 hown hK hP 0 rfl rfl 0 (by decide) q_0 (fun _ h9 => h9) rfl dX0_sendUp_6 ?_
    refine lv_iload_n hx hb dX0_sendUp_9 rfl (lv_at hl 1 rfl) ?_
    refine lv_aload_n hx hb dX0_sendUp_10 rfl (lv_at hl 0 rfl) ?_
    refine va_get (D := (dC, dI)) (ci := 0) (v := .int σ.2.2.2.2.1) (C := RX0) (T := TX0) (N := 8) hx hb hts in_X0 hown hK hP 0 rfl rfl 4 (by decide) q_1 (fun _ h9 => h9) rfl dX0_sendUp_11 ?_
    refine lv_iload_n hx hb dX0_sendUp_14 rfl (lv_at hl 2 rfl) ?_
    refine lv_iadd hx hb dX0_sendUp_15 ?_
    have hPc := hP.sub (ws' := [(a1, .inl (cI, 6, .inl σ.1))]) [1] rfl
    have hDc := hD.sub (ws' := [(a1, .inl (cI, 6, .inl σ.1))]) [1] (by decide) rfl
    have hFc := va_free (wc := [(a1, .inl (cI, 6, .inl σ.1))]) hD hS hA [1] rfl
    refine va_callv (va_runSN (As := [.ref a1, .int p0, .int (σ.2.2.2.2.1 + p1)]) (rest := []) ⟨hx, hb, hml, hown, hts⟩ (c_X3_setCell l dC dI cI cR _ a1 6 σ.1 (by decide) p0 (σ.2.2.2.2.1 + p1)) ⟨va_cnB 3 hts gX0_sendUp_X3_setCell_n32 rfl rfl rfl (hE.2 (.methodLinkNest RX0 32 yX3_setCell "Cascadecourt") (by decide +kernel)) q_2 (by decide +kernel) ⟨Nat.le_of_ble_eq_true rfl, Nat.le_of_ble_eq_true rfl⟩, q_3, trivial⟩ ⟨fun a U g mk q => by obtain ⟨q0, q1, qP, qE, qD⟩ := q; exact ⟨q0, q1, qP, cE.same (s := U) rfl qE, qD⟩, fun U hU hW => ⟨rfl, by rw [hU], by rw [hU]; exact hPc, hE.warm hW, hDc.weaken (fun _ _ _ _ => trivial)⟩⟩ rfl rfl hl.1 rfl (lv_room (Nat.le_of_ble_eq_true rfl)) dX0_sendUp_16 ⟨Nat.zero_le _, Nat.zero_le _⟩) hS (fun q _ h => hFc q h) hFc (fun u t H1 locs ht hvm h_16 hB hz1 hk1 hS => ?_)
    obtain ⟨hP1, -, hD1⟩ := hB
    rw [ht] at hP1
    obtain ⟨hP, hD⟩ := va_join (wr := [(j, .inr (0, [.ref a1, .ref a2, .ref a3, .int σ.2.2.2.1, .int σ.2.2.2.2.1, .int σ.2.2.2.2.2.1, .int σ.2.2.2.2.2.2.1, .double σ.2.2.2.2.2.2.2])), (a2, .inl (cI, 6, .inl σ.2.1)), (a3, .inl (cI, 6, .inl σ.2.2.1))]) (w1 := [(a1, .inl (cI, 6, .inl (S_X3_setCell 6 σ.1 p0 (σ.2.2.2.2.1 + p1))))]) hP hD [1] [0, 2, 3] rfl rfl (by decide) (by decide) hk1 hFc hP1 hD1
    have hP := hP.sub (ws' := [(j, .inr (0, [.ref a1, .ref a2, .ref a3, .int σ.2.2.2.1, .int σ.2.2.2.2.1, .int σ.2.2.2.2.2.1, .int σ.2.2.2.2.2.2.1, .double σ.2.2.2.2.2.2.2])), (a1, .inl (cI, 6, .inl (S_X3_setCell 6 σ.1 p0 (σ.2.2.2.2.1 + p1)))), (a2, .inl (cI, 6, .inl σ.2.1)), (a3, .inl (cI, 6, .inl σ.2.2.1))]) [0, 3, 1, 2] rfl
    have hD := hD.sub (ws' := [(j, .inr (0, [.ref a1, .ref a2, .ref a3, .int σ.2.2.2.1, .int σ.2.2.2.2.1, .int σ.2.2.2.2.2.1, .int σ.2.2.2.2.2.2.1, .double σ.2.2.2.2.2.2.2])), (a1, .inl (cI, 6, .inl (S_X3_setCell 6 σ.1 p0 (σ.2.2.2.2.1 + p1)))), (a2, .inl (cI, 6, .inl σ.2.1)), (a3, .inl (cI, 6, .inl σ.2.2.1))]) [0, 3, 1, 2] (by decide) rfl
    clear hPc hDc hP1 hD1 hk1 hFc hz1 ht hvm
    generalize H1 = H at hP hS ⊢
    refine lv_aload_n hx hb dX0_sendUp_19 rfl (lv_at hl 0 rfl) ?_
    refine va_get (D := (dC, dI)) (ci := 0) (v := .ref a2) (C := RX0) (T := TX0) (N := 8) hx hb hts in_X0 hown hK hP 0 rfl rfl 1 (by decide) q_4 (fun _ h9 => h9) rfl dX0_sendUp_20 ?_
    refine lv_iload_n hx hb dX0_sendUp_23 rfl (lv_at hl 1 rfl) ?_
    refine lv_aload_n hx hb dX0_sendUp_24 rfl (lv_at hl 0 rfl) ?_
    refine va_get (D := (dC, dI)) (ci := 0) (v := .ref a2) (C := RX0) (T := TX0) (N := 8) hx hb hts in_X0 hown hK hP 0 rfl rfl 1 (by decide) q_4 (fun _ h9 => h9) rfl dX0_sendUp_25 ?_
    refine lv_iload_n hx hb dX0_sendUp_28 rfl (lv_at hl 1 rfl) ?_
    refine vp_callSi (va_Run.run (va_runSN (As := [.ref a2, .int p0]) (rest := [.int p0, .ref a2]) ⟨hx, hb, hml, hown, hts⟩ (c_X3_cell l dC dI cI cR a2 6 σ.2.1 (by decide) p0) ⟨va_cnB 2 hts gX0_sendUp_X3_cell_n42 rfl rfl rfl (hE.2 (.methodLinkNest RX0 42 yX3_cell "Cascadecourt") (by decide +kernel)) q_2 (by decide +kernel) ⟨Nat.le_of_ble_eq_true rfl, Nat.le_of_ble_eq_true rfl⟩, q_5, trivial⟩ ⟨fun a U g mk q => by obtain ⟨q0, qP, qE⟩ := q; exact ⟨q0, qP, cE.same (s := U) rfl qE⟩, fun U hU hW => ⟨rfl, by rw [hU]; exact hP.sub (ws' := [(a2, .inl (cI, 6, .inl σ.2.1))]) [2] rfl, hE.warm hW⟩⟩ rfl rfl hl.1 rfl (lv_room (Nat.le_of_ble_eq_true rfl)) dX0_sendUp_29 ⟨Nat.zero_le _, Nat.zero_le _⟩)) (fun r_29 h_29 => ?_)
    subst h_29
    refine lv_iconst (v := 1) hx hb dX0_sendUp_32 (by decide) ?_
    refine lv_iadd hx hb dX0_sendUp_33 ?_
    have hPc := hP.sub (ws' := [(a2, .inl (cI, 6, .inl σ.2.1))]) [2] rfl
    have hDc := hD.sub (ws' := [(a2, .inl (cI, 6, .inl σ.2.1))]) [2] (by decide) rfl
    have hFc := va_free (wc := [(a2, .inl (cI, 6, .inl σ.2.1))]) hD hS hA [2] rfl
    refine va_callv (va_runSN (As := [.ref a2, .int p0, .int ((S_X3_cell 6 σ.2.1 p0) + 1)]) (rest := []) ⟨hx, hb, hml, hown, hts⟩ (c_X3_setCell l dC dI cI cR _ a2 6 σ.2.1 (by decide) p0 ((S_X3_cell 6 σ.2.1 p0) + 1)) ⟨va_cnB 3 hts gX0_sendUp_X3_setCell_n32 rfl rfl rfl (hE.2 (.methodLinkNest RX0 32 yX3_setCell "Cascadecourt") (by decide +kernel)) q_2 (by decide +kernel) ⟨Nat.le_of_ble_eq_true rfl, Nat.le_of_ble_eq_true rfl⟩, q_3, trivial⟩ ⟨fun a U g mk q => by obtain ⟨q0, q1, qP, qE, qD⟩ := q; exact ⟨q0, q1, qP, cE.same (s := U) rfl qE, qD⟩, fun U hU hW => ⟨rfl, by rw [hU], by rw [hU]; exact hPc, hE.warm hW, hDc.weaken (fun _ _ _ _ => trivial)⟩⟩ rfl rfl hl.1 rfl (lv_room (Nat.le_of_ble_eq_true rfl)) dX0_sendUp_34 ⟨Nat.zero_le _, Nat.zero_le _⟩) hS (fun q _ h => hFc q h) hFc (fun u t H1 locs ht hvm h_34 hB hz1 hk1 hS => ?_)
    obtain ⟨hP1, -, hD1⟩ := hB
    rw [ht] at hP1
    obtain ⟨hP, hD⟩ := va_join (wr := [(j, .inr (0, [.ref a1, .ref a2, .ref a3, .int σ.2.2.2.1, .int σ.2.2.2.2.1, .int σ.2.2.2.2.2.1, .int σ.2.2.2.2.2.2.1, .double σ.2.2.2.2.2.2.2])), (a1, .inl (cI, 6, .inl (S_X3_setCell 6 σ.1 p0 (σ.2.2.2.2.1 + p1)))), (a3, .inl (cI, 6, .inl σ.2.2.1))]) (w1 := [(a2, .inl (cI, 6, .inl (S_X3_setCell 6 σ.2.1 p0 ((S_X3_cell 6 σ.2.1 p0) + 1))))]) hP hD [2] [0, 1, 3] rfl rfl (by decide) (by decide) hk1 hFc hP1 hD1
    have hP := hP.sub (ws' := [(j, .inr (0, [.ref a1, .ref a2, .ref a3, .int σ.2.2.2.1, .int σ.2.2.2.2.1, .int σ.2.2.2.2.2.1, .int σ.2.2.2.2.2.2.1, .double σ.2.2.2.2.2.2.2])), (a1, .inl (cI, 6, .inl (S_X3_setCell 6 σ.1 p0 (σ.2.2.2.2.1 + p1)))), (a2, .inl (cI, 6, .inl (S_X3_setCell 6 σ.2.1 p0 ((S_X3_cell 6 σ.2.1 p0) + 1)))), (a3, .inl (cI, 6, .inl σ.2.2.1))]) [0, 1, 3, 2] rfl
    have hD := hD.sub (ws' := [(j, .inr (0, [.ref a1, .ref a2, .ref a3, .int σ.2.2.2.1, .int σ.2.2.2.2.1, .int σ.2.2.2.2.2.1, .int σ.2.2.2.2.2.2.1, .double σ.2.2.2.2.2.2.2])), (a1, .inl (cI, 6, .inl (S_X3_setCell 6 σ.1 p0 (σ.2.2.2.2.1 + p1)))), (a2, .inl (cI, 6, .inl (S_X3_setCell 6 σ.2.1 p0 ((S_X3_cell 6 σ.2.1 p0) + 1)))), (a3, .inl (cI, 6, .inl σ.2.2.1))]) [0, 1, 3, 2] (by decide) rfl
    clear hPc hDc hP1 hD1 hk1 hFc hz1 ht hvm
    generalize H1 = H at hP hS ⊢
    have e9 : S_X0_sendUp σ p0 p1 = ((S_X3_setCell 6 σ.1 p0 (σ.2.2.2.2.1 + p1)), (S_X3_setCell 6 σ.2.1 p0 ((S_X3_cell 6 σ.2.1 p0) + 1)), σ.2.2.1, σ.2.2.2.1, σ.2.2.2.2.1, σ.2.2.2.2.2.1, σ.2.2.2.2.2.2.1, σ.2.2.2.2.2.2.2) := by simp only [S_X0_sendUp, if_neg c_2]
    exact W.vret hx hb hr (fun t ht hW => ⟨⟨(), rfl, trivial, by rw [ht, e9]; exact hP, hE.warm hW, by rw [e9]; exact hD⟩, hS.F ht⟩) hS.2.2 dX0_sendUp_37
def S_X0_dropProp (σ : JS) (p0 : Int32) : JS := (if p0 = (-1) then σ else ((S_X3_setCell 6 σ.1 p0 (-1)), σ.2.1, (S_X3_setCell 6 σ.2.2.1 p0 ((S_X3_cell 6 σ.2.2.1 p0) + 1)), σ.2.2.2.1, σ.2.2.2.2.1, σ.2.2.2.2.2.1, σ.2.2.2.2.2.2.1, σ.2.2.2.2.2.2.2))
set_option maxHeartbeats 4000000 in
set_option maxRecDepth 100000 in
theorem c_X0_dropProp (l : Launch) (dC : Nat → ClassId) (dI : Nat → Nat → Nat) (cI cR : ClassId) (sz : Nat) (j a1 a2 a3 : Nat) (σ : JS) (p0 : Int32)  : Met l yX0_dropProp wsX0_dropProp ({ frames := 1, cells := 0, slots := 0, locals := 22 }) (va_Pc [.ref j, .int p0] (fun U => U.heap.size = sz ∧ va_P (dC, dI) vwCl (wJ cI j a1 a2 a3 σ) U.heap ∧ cE (dC, dI) cI cR U ∧ va_D (fun _ => True) (wJ cI j a1 a2 a3 σ))) (va_Qv (fun _ : Unit => True) (fun (_ : Unit) t => va_P (dC, dI) vwCl (wJ cI j a1 a2 a3 (S_X0_dropProp σ p0)) t.heap ∧ cE (dC, dI) cI cR t ∧ va_D (va_A (wJ cI j a1 a2 a3 σ) sz) (wJ cI j a1 a2 a3 (S_X0_dropProp σ p0))) (va_A (wJ cI j a1 a2 a3 σ) sz)) 0 0 (va_A (wJ cI j a1 a2 a3 σ) sz) := by
  refine Met.ofW (cc := cX0_dropProp) (maxL := 2) (ret := none) (by decide) rfl ?_
  intro p e s m args below meth c s₁ B hml hv
  obtain ⟨rfl, hsz, hP, hE, hD0⟩ := hv
  have hK := hE.1
  have hx := B.exec
  have hb := B.bytes
  have hr := B.returns
  have hts := atoms_spec (ws := wsX0_dropProp) B.pre
  have hown : s.vm.findClass RX0 = some m.cls := findClass_of_methodNamed B.named
  have hlocks := B.notSynchronized
  subst hsz
  have hD := hD0.self (sz := s.heap.size)
  generalize hAe : va_A (wJ cI j a1 a2 a3 σ) s.heap.size = A at hD ⊢
  have hA : ∀ q : Nat, s.heap.size ≤ q → A q := fun q h => by rw [← hAe]; exact Or.inr h
  have hS : va_S A s.heap s.heap [] := va_S.rf
  have hP : va_P (dC, dI) vwCl [(j, .inr (0, [.ref a1, .ref a2, .ref a3, .int σ.2.2.2.1, .int σ.2.2.2.2.1, .int σ.2.2.2.2.2.1, .int σ.2.2.2.2.2.2.1, .double σ.2.2.2.2.2.2.2])), (a1, .inl (cI, 6, .inl σ.1)), (a2, .inl (cI, 6, .inl σ.2.1)), (a3, .inl (cI, 6, .inl σ.2.2.1))] s.heap := hP
  have hD : va_D A [(j, .inr (0, [.ref a1, .ref a2, .ref a3, .int σ.2.2.2.1, .int σ.2.2.2.2.1, .int σ.2.2.2.2.2.1, .int σ.2.2.2.2.2.2.1, .double σ.2.2.2.2.2.2.2])), (a1, .inl (cI, 6, .inl σ.1)), (a2, .inl (cI, 6, .inl σ.2.1)), (a3, .inl (cI, 6, .inl σ.2.2.1))] := hD
  have hl := lv_entry ([.ref j, .int p0]) (n := 2) (Nat.le_of_ble_eq_true rfl)
  rw [lg_entry_eq]
  generalize (lg_sl ([.ref j, .int p0]) ++ List.replicate (2 - (lg_sl ([.ref j, .int p0])).length) Slot.unset).toArray = ls at hl ⊢
  have hl : lv_has ls 2 [(0, .ref j), (1, .int p0)] := hl
  have q_0 := hts (.fieldLink RX0 9 "Cascadecourt$Juggler" "landsAt" "[I") (by decide +kernel)
  have in_X0 : ∀ w ∈ wsX00, w ∈ wsX0_dropProp := by decide +kernel
  have q_1 := hts (.initialized RX3) (by decide +kernel)
  have q_2 := hts (.static yX3_setCell) (by decide +kernel)
  have q_3 := hts (.fieldLink RX0 18 "Cascadecourt$Juggler" "drops" "[I") (by decide +kernel)
  have q_4 := hts (.static yX3_cell) (by decide +kernel)
  refine lv_iload_n hx hb dX0_dropProp_0 rfl (lv_at hl 1 rfl) ?_
  refine lv_iconst (v := (-1)) hx hb dX0_dropProp_1 (by decide) ?_
  refine lv_icmp_eq (tgt := 32) hx hb dX0_dropProp_2 (by decide) (fun c_2 => ?_) (fun c_2 => ?_)
  · have e9 : S_X0_dropProp σ p0 = σ := by simp only [S_X0_dropProp, if_pos c_2]
    exact W.vret hx hb hr (fun t ht hW => ⟨⟨(), rfl, trivial, by rw [ht, e9]; exact hP, hE.warm hW, by rw [e9]; exact hD⟩, hS.F ht⟩) hS.2.2 dX0_dropProp_32
  · refine lv_aload_n hx hb dX0_dropProp_5 rfl (lv_at hl 0 rfl) ?_
    refine va_get (D := (dC, dI)) (ci := 0) (v := .ref a1) (C := RX0) (T := TX0) (N := 8) hx hb hts in_X0 hown hK hP 0 rfl rfl 0 (by decide) q_0 (fun _ h9 => h9) rfl dX0_dropProp_6 ?_
    refine lv_iload_n hx hb dX0_dropProp_9 rfl (lv_at hl 1 rfl) ?_
    refine lv_iconst (v := (-1)) hx hb dX0_dropProp_10 (by decide) ?_
    have hPc := hP.sub (ws' := [(a1, .inl (cI, 6, .inl σ.1))]) [1] rfl
    have hDc := hD.sub (ws' := [(a1, .inl (cI, 6, .inl σ.1))]) [1] (by decide) rfl
    have hFc := va_free (wc := [(a1, .inl (cI, 6, .inl σ.1))]) hD hS hA [1] rfl
    refine va_callv (va_runSN (As := [.ref a1, .int p0, .int (-1)]) (rest := []) ⟨hx, hb, hml, hown, hts⟩ (c_X3_setCell l dC dI cI cR _ a1 6 σ.1 (by decide) p0 (-1)) ⟨va_cnB 3 hts gX0_dropProp_X3_setCell_n32 rfl rfl rfl (hE.2 (.methodLinkNest RX0 32 yX3_setCell "Cascadecourt") (by decide +kernel)) q_1 (by decide +kernel) ⟨Nat.le_of_ble_eq_true rfl, Nat.le_of_ble_eq_true rfl⟩, q_2, trivial⟩ ⟨fun a U g mk q => by obtain ⟨q0, q1, qP, qE, qD⟩ := q; exact ⟨q0, q1, qP, cE.same (s := U) rfl qE, qD⟩, fun U hU hW => ⟨rfl, by rw [hU], by rw [hU]; exact hPc, hE.warm hW, hDc.weaken (fun _ _ _ _ => trivial)⟩⟩ rfl rfl hl.1 rfl (lv_room (Nat.le_of_ble_eq_true rfl)) dX0_dropProp_11 ⟨Nat.zero_le _, Nat.zero_le _⟩) hS (fun q _ h => hFc q h) hFc (fun u t H1 locs ht hvm h_11 hB hz1 hk1 hS => ?_)
    obtain ⟨hP1, -, hD1⟩ := hB
    rw [ht] at hP1
    obtain ⟨hP, hD⟩ := va_join (wr := [(j, .inr (0, [.ref a1, .ref a2, .ref a3, .int σ.2.2.2.1, .int σ.2.2.2.2.1, .int σ.2.2.2.2.2.1, .int σ.2.2.2.2.2.2.1, .double σ.2.2.2.2.2.2.2])), (a2, .inl (cI, 6, .inl σ.2.1)), (a3, .inl (cI, 6, .inl σ.2.2.1))]) (w1 := [(a1, .inl (cI, 6, .inl (S_X3_setCell 6 σ.1 p0 (-1))))]) hP hD [1] [0, 2, 3] rfl rfl (by decide) (by decide) hk1 hFc hP1 hD1
    have hP := hP.sub (ws' := [(j, .inr (0, [.ref a1, .ref a2, .ref a3, .int σ.2.2.2.1, .int σ.2.2.2.2.1, .int σ.2.2.2.2.2.1, .int σ.2.2.2.2.2.2.1, .double σ.2.2.2.2.2.2.2])), (a1, .inl (cI, 6, .inl (S_X3_setCell 6 σ.1 p0 (-1)))), (a2, .inl (cI, 6, .inl σ.2.1)), (a3, .inl (cI, 6, .inl σ.2.2.1))]) [0, 3, 1, 2] rfl
    have hD := hD.sub (ws' := [(j, .inr (0, [.ref a1, .ref a2, .ref a3, .int σ.2.2.2.1, .int σ.2.2.2.2.1, .int σ.2.2.2.2.2.1, .int σ.2.2.2.2.2.2.1, .double σ.2.2.2.2.2.2.2])), (a1, .inl (cI, 6, .inl (S_X3_setCell 6 σ.1 p0 (-1)))), (a2, .inl (cI, 6, .inl σ.2.1)), (a3, .inl (cI, 6, .inl σ.2.2.1))]) [0, 3, 1, 2] (by decide) rfl
    clear hPc hDc hP1 hD1 hk1 hFc hz1 ht hvm
    generalize H1 = H at hP hS ⊢
    refine lv_aload_n hx hb dX0_dropProp_14 rfl (lv_at hl 0 rfl) ?_
    refine va_get (D := (dC, dI)) (ci := 0) (v := .ref a3) (C := RX0) (T := TX0) (N := 8) hx hb hts in_X0 hown hK hP 0 rfl rfl 2 (by decide) q_3 (fun _ h9 => h9) rfl dX0_dropProp_15 ?_
    refine lv_iload_n hx hb dX0_dropProp_18 rfl (lv_at hl 1 rfl) ?_
    refine lv_aload_n hx hb dX0_dropProp_19 rfl (lv_at hl 0 rfl) ?_
    refine va_get (D := (dC, dI)) (ci := 0) (v := .ref a3) (C := RX0) (T := TX0) (N := 8) hx hb hts in_X0 hown hK hP 0 rfl rfl 2 (by decide) q_3 (fun _ h9 => h9) rfl dX0_dropProp_20 ?_
    refine lv_iload_n hx hb dX0_dropProp_23 rfl (lv_at hl 1 rfl) ?_
    refine vp_callSi (va_Run.run (va_runSN (As := [.ref a3, .int p0]) (rest := [.int p0, .ref a3]) ⟨hx, hb, hml, hown, hts⟩ (c_X3_cell l dC dI cI cR a3 6 σ.2.2.1 (by decide) p0) ⟨va_cnB 2 hts gX0_dropProp_X3_cell_n42 rfl rfl rfl (hE.2 (.methodLinkNest RX0 42 yX3_cell "Cascadecourt") (by decide +kernel)) q_1 (by decide +kernel) ⟨Nat.le_of_ble_eq_true rfl, Nat.le_of_ble_eq_true rfl⟩, q_4, trivial⟩ ⟨fun a U g mk q => by obtain ⟨q0, qP, qE⟩ := q; exact ⟨q0, qP, cE.same (s := U) rfl qE⟩, fun U hU hW => ⟨rfl, by rw [hU]; exact hP.sub (ws' := [(a3, .inl (cI, 6, .inl σ.2.2.1))]) [3] rfl, hE.warm hW⟩⟩ rfl rfl hl.1 rfl (lv_room (Nat.le_of_ble_eq_true rfl)) dX0_dropProp_24 ⟨Nat.zero_le _, Nat.zero_le _⟩)) (fun r_24 h_24 => ?_)
    subst h_24
    refine lv_iconst (v := 1) hx hb dX0_dropProp_27 (by decide) ?_
    refine lv_iadd hx hb dX0_dropProp_28 ?_
    have hPc := hP.sub (ws' := [(a3, .inl (cI, 6, .inl σ.2.2.1))]) [3] rfl
    have hDc := hD.sub (ws' := [(a3, .inl (cI, 6, .inl σ.2.2.1))]) [3] (by decide) rfl
    have hFc := va_free (wc := [(a3, .inl (cI, 6, .inl σ.2.2.1))]) hD hS hA [3] rfl
    refine va_callv (va_runSN (As := [.ref a3, .int p0, .int ((S_X3_cell 6 σ.2.2.1 p0) + 1)]) (rest := []) ⟨hx, hb, hml, hown, hts⟩ (c_X3_setCell l dC dI cI cR _ a3 6 σ.2.2.1 (by decide) p0 ((S_X3_cell 6 σ.2.2.1 p0) + 1)) ⟨va_cnB 3 hts gX0_dropProp_X3_setCell_n32 rfl rfl rfl (hE.2 (.methodLinkNest RX0 32 yX3_setCell "Cascadecourt") (by decide +kernel)) q_1 (by decide +kernel) ⟨Nat.le_of_ble_eq_true rfl, Nat.le_of_ble_eq_true rfl⟩, q_2, trivial⟩ ⟨fun a U g mk q => by obtain ⟨q0, q1, qP, qE, qD⟩ := q; exact ⟨q0, q1, qP, cE.same (s := U) rfl qE, qD⟩, fun U hU hW => ⟨rfl, by rw [hU], by rw [hU]; exact hPc, hE.warm hW, hDc.weaken (fun _ _ _ _ => trivial)⟩⟩ rfl rfl hl.1 rfl (lv_room (Nat.le_of_ble_eq_true rfl)) dX0_dropProp_29 ⟨Nat.zero_le _, Nat.zero_le _⟩) hS (fun q _ h => hFc q h) hFc (fun u t H1 locs ht hvm h_29 hB hz1 hk1 hS => ?_)
    obtain ⟨hP1, -, hD1⟩ := hB
    rw [ht] at hP1
    obtain ⟨hP, hD⟩ := va_join (wr := [(j, .inr (0, [.ref a1, .ref a2, .ref a3, .int σ.2.2.2.1, .int σ.2.2.2.2.1, .int σ.2.2.2.2.2.1, .int σ.2.2.2.2.2.2.1, .double σ.2.2.2.2.2.2.2])), (a1, .inl (cI, 6, .inl (S_X3_setCell 6 σ.1 p0 (-1)))), (a2, .inl (cI, 6, .inl σ.2.1))]) (w1 := [(a3, .inl (cI, 6, .inl (S_X3_setCell 6 σ.2.2.1 p0 ((S_X3_cell 6 σ.2.2.1 p0) + 1))))]) hP hD [3] [0, 1, 2] rfl rfl (by decide) (by decide) hk1 hFc hP1 hD1
    have hP := hP.sub (ws' := [(j, .inr (0, [.ref a1, .ref a2, .ref a3, .int σ.2.2.2.1, .int σ.2.2.2.2.1, .int σ.2.2.2.2.2.1, .int σ.2.2.2.2.2.2.1, .double σ.2.2.2.2.2.2.2])), (a1, .inl (cI, 6, .inl (S_X3_setCell 6 σ.1 p0 (-1)))), (a2, .inl (cI, 6, .inl σ.2.1)), (a3, .inl (cI, 6, .inl (S_X3_setCell 6 σ.2.2.1 p0 ((S_X3_cell 6 σ.2.2.1 p0) + 1))))]) [0, 1, 2, 3] rfl
    have hD := hD.sub (ws' := [(j, .inr (0, [.ref a1, .ref a2, .ref a3, .int σ.2.2.2.1, .int σ.2.2.2.2.1, .int σ.2.2.2.2.2.1, .int σ.2.2.2.2.2.2.1, .double σ.2.2.2.2.2.2.2])), (a1, .inl (cI, 6, .inl (S_X3_setCell 6 σ.1 p0 (-1)))), (a2, .inl (cI, 6, .inl σ.2.1)), (a3, .inl (cI, 6, .inl (S_X3_setCell 6 σ.2.2.1 p0 ((S_X3_cell 6 σ.2.2.1 p0) + 1))))]) [0, 1, 2, 3] (by decide) rfl
    clear hPc hDc hP1 hD1 hk1 hFc hz1 ht hvm
    generalize H1 = H at hP hS ⊢
    have e9 : S_X0_dropProp σ p0 = ((S_X3_setCell 6 σ.1 p0 (-1)), σ.2.1, (S_X3_setCell 6 σ.2.2.1 p0 ((S_X3_cell 6 σ.2.2.1 p0) + 1)), σ.2.2.2.1, σ.2.2.2.2.1, σ.2.2.2.2.2.1, σ.2.2.2.2.2.2.1, σ.2.2.2.2.2.2.2) := by simp only [S_X0_dropProp, if_neg c_2]
    exact W.vret hx hb hr (fun t ht hW => ⟨⟨(), rfl, trivial, by rw [ht, e9]; exact hP, hE.warm hW, by rw [e9]; exact hD⟩, hS.F ht⟩) hS.2.2 dX0_dropProp_32
def S_X0_slip (σ : JS) (p0 : Int32) : JS := (if p0 ≤ 0 then (if (S_X0_propLandingIn σ 0) = (-1) then (σ.1, σ.2.1, σ.2.2.1, σ.2.2.2.1, σ.2.2.2.2.1, σ.2.2.2.2.2.1 + 1, σ.2.2.2.2.2.2.1, σ.2.2.2.2.2.2.2) else (S_X0_dropProp (S_X0_dropProp (σ.1, σ.2.1, σ.2.2.1, σ.2.2.2.1, σ.2.2.2.2.1, σ.2.2.2.2.2.1 + 1, σ.2.2.2.2.2.2.1, σ.2.2.2.2.2.2.2) (S_X0_propLandingIn σ 0)) (-1))) else (if (S_X0_propLandingIn σ 0) = (-1) then (σ.1, σ.2.1, σ.2.2.1, σ.2.2.2.1, σ.2.2.2.2.1, σ.2.2.2.2.2.1 + 1, σ.2.2.2.2.2.2.1, σ.2.2.2.2.2.2.2) else (S_X0_dropProp (S_X0_dropProp (σ.1, σ.2.1, σ.2.2.1, σ.2.2.2.1, σ.2.2.2.2.1, σ.2.2.2.2.2.1 + 1, σ.2.2.2.2.2.2.1, σ.2.2.2.2.2.2.2) (S_X0_propLandingIn σ 0)) (S_X0_propLandingIn σ p0))))
set_option maxHeartbeats 4000000 in
set_option maxRecDepth 100000 in
theorem c_X0_slip (l : Launch) (dC : Nat → ClassId) (dI : Nat → Nat → Nat) (cI cR : ClassId) (sz : Nat) (j a1 a2 a3 : Nat) (σ : JS) (p0 : Int32)  : Met l yX0_slip wsX0_slip ({ frames := 3, cells := 0, slots := 0, locals := 65 }) (va_Pc [.ref j, .int p0] (fun U => U.heap.size = sz ∧ va_P (dC, dI) vwCl (wJ cI j a1 a2 a3 σ) U.heap ∧ cE (dC, dI) cI cR U ∧ va_D (fun _ => True) (wJ cI j a1 a2 a3 σ))) (va_Qv (fun _ : Unit => True) (fun (_ : Unit) t => va_P (dC, dI) vwCl (wJ cI j a1 a2 a3 (S_X0_slip σ p0)) t.heap ∧ cE (dC, dI) cI cR t ∧ va_D (va_A (wJ cI j a1 a2 a3 σ) sz) (wJ cI j a1 a2 a3 (S_X0_slip σ p0))) (va_A (wJ cI j a1 a2 a3 σ) sz)) 0 0 (va_A (wJ cI j a1 a2 a3 σ) sz) := by
  refine Met.ofW (cc := cX0_slip) (maxL := 4) (ret := none) (by decide) rfl ?_
  intro p e s m args below meth c s₁ B hml hv
  obtain ⟨rfl, hsz, hP, hE, hD0⟩ := hv
  have hK := hE.1
  have hx := B.exec
  have hb := B.bytes
  have hr := B.returns
  have hts := atoms_spec (ws := wsX0_slip) B.pre
  have hown : s.vm.findClass RX0 = some m.cls := findClass_of_methodNamed B.named
  have hlocks := B.notSynchronized
  subst hsz
  have hD := hD0.self (sz := s.heap.size)
  generalize hAe : va_A (wJ cI j a1 a2 a3 σ) s.heap.size = A at hD ⊢
  have hA : ∀ q : Nat, s.heap.size ≤ q → A q := fun q h => by rw [← hAe]; exact Or.inr h
  have hS : va_S A s.heap s.heap [] := va_S.rf
  have hP : va_P (dC, dI) vwCl [(j, .inr (0, [.ref a1, .ref a2, .ref a3, .int σ.2.2.2.1, .int σ.2.2.2.2.1, .int σ.2.2.2.2.2.1, .int σ.2.2.2.2.2.2.1, .double σ.2.2.2.2.2.2.2])), (a1, .inl (cI, 6, .inl σ.1)), (a2, .inl (cI, 6, .inl σ.2.1)), (a3, .inl (cI, 6, .inl σ.2.2.1))] s.heap := hP
  have hD : va_D A [(j, .inr (0, [.ref a1, .ref a2, .ref a3, .int σ.2.2.2.1, .int σ.2.2.2.2.1, .int σ.2.2.2.2.2.1, .int σ.2.2.2.2.2.2.1, .double σ.2.2.2.2.2.2.2])), (a1, .inl (cI, 6, .inl σ.1)), (a2, .inl (cI, 6, .inl σ.2.1)), (a3, .inl (cI, 6, .inl σ.2.2.1))] := hD
  have hl := lv_entry ([.ref j, .int p0]) (n := 4) (Nat.le_of_ble_eq_true rfl)
  rw [lg_entry_eq]
  generalize (lg_sl ([.ref j, .int p0]) ++ List.replicate (4 - (lg_sl ([.ref j, .int p0])).length) Slot.unset).toArray = ls at hl ⊢
  have hl : lv_has ls 4 [(0, .ref j), (1, .int p0)] := hl
  have q_0 := hts (.fieldLink RX0 36 "Cascadecourt$Juggler" "slipsEver" "I") (by decide +kernel)
  have in_X0 : ∀ w ∈ wsX00, w ∈ wsX0_slip := by decide +kernel
  refine lv_aload_n hx hb dX0_slip_0 rfl (lv_at hl 0 rfl) ?_
  refine lv_iconst (v := 0) hx hb dX0_slip_1 (by decide) ?_
  refine vp_callSi (va_Run.run (va_runV (As := [.int 0]) (rest := []) ⟨hx, hb, hml, hown, hts⟩ (c_X0_propLandingIn l dC dI cI cR j a1 a2 a3 σ 0) (cwV 1 hts gX0_slip_X0_propLandingIn rfl rfl rfl (by decide +kernel) ⟨Nat.le_of_ble_eq_true rfl, Nat.le_of_ble_eq_true rfl⟩) ⟨fun a U g mk q => by obtain ⟨q0, qP, qE⟩ := q; exact ⟨q0, qP, cE.same (s := U) rfl qE⟩, va_recv hK hP (ci := 0) (q0 := 0) rfl rfl, fun U hU hW => ⟨rfl, by rw [hU]; exact hP.sub (ws' := (wJ cI j a1 a2 a3 σ)) [0, 1, 2, 3] rfl, hE.warm hW⟩⟩ rfl rfl hl.1 rfl (lv_room (Nat.le_of_ble_eq_true rfl)) dX0_slip_2 ⟨Nat.zero_le _, Nat.zero_le _⟩)) (fun r_2 h_2 => ?_)
  subst h_2
  refine lv_istore_n (lv' := [(2, .int (S_X0_propLandingIn σ 0)), (0, .ref j), (1, .int p0)]) hx hb dX0_slip_5 rfl hl (by decide) rfl (fun ls hl => ?_)
  refine lv_iload_n hx hb dX0_slip_6 rfl (lv_at hl 2 rfl) ?_
  refine lv_if_le (tgt := 18) hx hb dX0_slip_7 (by decide) (fun c_7 => ?_) (fun c_7 => ?_)
  · refine lv_iconst (v := (-1)) hx hb dX0_slip_18 (by decide) ?_
    refine lv_istore_n (lv' := [(3, .int (-1)), (2, .int (S_X0_propLandingIn σ 0)), (0, .ref j), (1, .int p0)]) hx hb dX0_slip_19 rfl hl (by decide) rfl (fun ls hl => ?_)
    refine lv_aload_n hx hb dX0_slip_20 rfl (lv_at hl 2 rfl) ?_
    refine lv_dup hx hb dX0_slip_21 rfl ?_
    refine va_get (D := (dC, dI)) (ci := 0) (v := .int σ.2.2.2.2.2.1) (C := RX0) (T := TX0) (N := 8) hx hb hts in_X0 hown hK hP 0 rfl rfl 5 (by decide) q_0 (fun _ h9 => h9) rfl dX0_slip_22 ?_
    refine lv_iconst (v := 1) hx hb dX0_slip_25 (by decide) ?_
    refine lv_iadd hx hb dX0_slip_26 ?_
    refine va_put (D := (dC, dI)) (ci := 0) (v := .int (σ.2.2.2.2.2.1 + 1)) (ty := .int) (C := RX0) (T := TX0) (N := 8) hx hb hts in_X0 tyX0 tyX0_ok nmX0 hown hK hP hD hS 0 rfl rfl 5 (by decide) q_0 (fun _ h9 => h9) rfl (by decide +kernel) rfl rfl (Nat.le_of_ble_eq_true rfl) dX0_slip_27 (fun H locs hP hD hS => ?_)
    have hP : va_P (dC, dI) vwCl [(j, .inr (0, [.ref a1, .ref a2, .ref a3, .int σ.2.2.2.1, .int σ.2.2.2.2.1, .int (σ.2.2.2.2.2.1 + 1), .int σ.2.2.2.2.2.2.1, .double σ.2.2.2.2.2.2.2])), (a1, .inl (cI, 6, .inl σ.1)), (a2, .inl (cI, 6, .inl σ.2.1)), (a3, .inl (cI, 6, .inl σ.2.2.1))] H := hP
    have hD : va_D A [(j, .inr (0, [.ref a1, .ref a2, .ref a3, .int σ.2.2.2.1, .int σ.2.2.2.2.1, .int (σ.2.2.2.2.2.1 + 1), .int σ.2.2.2.2.2.2.1, .double σ.2.2.2.2.2.2.2])), (a1, .inl (cI, 6, .inl σ.1)), (a2, .inl (cI, 6, .inl σ.2.1)), (a3, .inl (cI, 6, .inl σ.2.2.1))] := hD
    refine lv_iload_n hx hb dX0_slip_30 rfl (lv_at hl 1 rfl) ?_
    refine lv_iconst (v := (-1)) hx hb dX0_slip_31 (by decide) ?_
    refine lv_icmp_eq (tgt := 45) hx hb dX0_slip_32 (by decide) (fun c_32 => ?_) (fun c_32 => ?_)
    · have e9 : S_X0_slip σ p0 = (σ.1, σ.2.1, σ.2.2.1, σ.2.2.2.1, σ.2.2.2.2.1, σ.2.2.2.2.2.1 + 1, σ.2.2.2.2.2.2.1, σ.2.2.2.2.2.2.2) := by simp only [S_X0_slip, if_pos c_7, if_pos c_32]
      exact W.vret hx hb hr (fun t ht hW => ⟨⟨(), rfl, trivial, by rw [ht, e9]; exact hP, hE.warm hW, by rw [e9]; exact hD⟩, hS.F ht⟩) hS.2.2 dX0_slip_45
    · refine lv_aload_n hx hb dX0_slip_35 rfl (lv_at hl 2 rfl) ?_
      refine lv_iload_n hx hb dX0_slip_36 rfl (lv_at hl 1 rfl) ?_
      have hPc := hP.sub (ws' := (wJ cI j a1 a2 a3 (σ.1, σ.2.1, σ.2.2.1, σ.2.2.2.1, σ.2.2.2.2.1, σ.2.2.2.2.2.1 + 1, σ.2.2.2.2.2.2.1, σ.2.2.2.2.2.2.2))) [0, 1, 2, 3] rfl
      have hDc := hD.sub (ws' := (wJ cI j a1 a2 a3 (σ.1, σ.2.1, σ.2.2.1, σ.2.2.2.1, σ.2.2.2.2.1, σ.2.2.2.2.2.1 + 1, σ.2.2.2.2.2.2.1, σ.2.2.2.2.2.2.2))) [0, 1, 2, 3] (by decide) rfl
      have hFc := va_free (wc := (wJ cI j a1 a2 a3 (σ.1, σ.2.1, σ.2.2.1, σ.2.2.2.1, σ.2.2.2.2.1, σ.2.2.2.2.2.1 + 1, σ.2.2.2.2.2.2.1, σ.2.2.2.2.2.2.2))) hD hS hA [0, 1, 2, 3] rfl
      refine va_callv (va_runV (As := [.int (S_X0_propLandingIn σ 0)]) (rest := []) ⟨hx, hb, hml, hown, hts⟩ (c_X0_dropProp l dC dI cI cR _ j a1 a2 a3 (σ.1, σ.2.1, σ.2.2.1, σ.2.2.2.1, σ.2.2.2.2.1, σ.2.2.2.2.2.1 + 1, σ.2.2.2.2.2.2.1, σ.2.2.2.2.2.2.2) (S_X0_propLandingIn σ 0)) (cwV 1 hts gX0_slip_X0_dropProp rfl rfl rfl (by decide +kernel) ⟨Nat.le_of_ble_eq_true rfl, Nat.le_of_ble_eq_true rfl⟩) ⟨fun a U g mk q => by obtain ⟨q0, q1, qP, qE, qD⟩ := q; exact ⟨q0, q1, qP, cE.same (s := U) rfl qE, qD⟩, va_recv hK hP (ci := 0) (q0 := 0) rfl rfl, fun U hU hW => ⟨rfl, by rw [hU], by rw [hU]; exact hPc, hE.warm hW, hDc.weaken (fun _ _ _ _ => trivial)⟩⟩ rfl rfl hl.1 rfl (lv_room (Nat.le_of_ble_eq_true rfl)) dX0_slip_37 ⟨Nat.zero_le _, Nat.zero_le _⟩) hS (fun q _ h => hFc q h) hFc (fun u t H1 locs ht hvm h_37 hB hz1 hk1 hS => ?_)
      obtain ⟨hP1, -, hD1⟩ := hB
      rw [ht] at hP1
      obtain ⟨hP, hD⟩ := va_join (wr := []) (w1 := (wJ cI j a1 a2 a3 (S_X0_dropProp (σ.1, σ.2.1, σ.2.2.1, σ.2.2.2.1, σ.2.2.2.2.1, σ.2.2.2.2.2.1 + 1, σ.2.2.2.2.2.2.1, σ.2.2.2.2.2.2.2) (S_X0_propLandingIn σ 0)))) hP hD [0, 1, 2, 3] [] rfl rfl (by decide) (by decide) hk1 hFc hP1 hD1
      have hP := hP.sub (ws' := [(j, .inr (0, [.ref a1, .ref a2, .ref a3, .int ((S_X0_dropProp (σ.1, σ.2.1, σ.2.2.1, σ.2.2.2.1, σ.2.2.2.2.1, σ.2.2.2.2.2.1 + 1, σ.2.2.2.2.2.2.1, σ.2.2.2.2.2.2.2) (S_X0_propLandingIn σ 0)).2.2.2.1), .int ((S_X0_dropProp (σ.1, σ.2.1, σ.2.2.1, σ.2.2.2.1, σ.2.2.2.2.1, σ.2.2.2.2.2.1 + 1, σ.2.2.2.2.2.2.1, σ.2.2.2.2.2.2.2) (S_X0_propLandingIn σ 0)).2.2.2.2.1), .int ((S_X0_dropProp (σ.1, σ.2.1, σ.2.2.1, σ.2.2.2.1, σ.2.2.2.2.1, σ.2.2.2.2.2.1 + 1, σ.2.2.2.2.2.2.1, σ.2.2.2.2.2.2.2) (S_X0_propLandingIn σ 0)).2.2.2.2.2.1), .int ((S_X0_dropProp (σ.1, σ.2.1, σ.2.2.1, σ.2.2.2.1, σ.2.2.2.2.1, σ.2.2.2.2.2.1 + 1, σ.2.2.2.2.2.2.1, σ.2.2.2.2.2.2.2) (S_X0_propLandingIn σ 0)).2.2.2.2.2.2.1), .double ((S_X0_dropProp (σ.1, σ.2.1, σ.2.2.1, σ.2.2.2.1, σ.2.2.2.2.1, σ.2.2.2.2.2.1 + 1, σ.2.2.2.2.2.2.1, σ.2.2.2.2.2.2.2) (S_X0_propLandingIn σ 0)).2.2.2.2.2.2.2)])), (a1, .inl (cI, 6, .inl ((S_X0_dropProp (σ.1, σ.2.1, σ.2.2.1, σ.2.2.2.1, σ.2.2.2.2.1, σ.2.2.2.2.2.1 + 1, σ.2.2.2.2.2.2.1, σ.2.2.2.2.2.2.2) (S_X0_propLandingIn σ 0)).1))), (a2, .inl (cI, 6, .inl ((S_X0_dropProp (σ.1, σ.2.1, σ.2.2.1, σ.2.2.2.1, σ.2.2.2.2.1, σ.2.2.2.2.2.1 + 1, σ.2.2.2.2.2.2.1, σ.2.2.2.2.2.2.2) (S_X0_propLandingIn σ 0)).2.1))), (a3, .inl (cI, 6, .inl ((S_X0_dropProp (σ.1, σ.2.1, σ.2.2.1, σ.2.2.2.1, σ.2.2.2.2.1, σ.2.2.2.2.2.1 + 1, σ.2.2.2.2.2.2.1, σ.2.2.2.2.2.2.2) (S_X0_propLandingIn σ 0)).2.2.1)))]) [0, 1, 2, 3] rfl
      have hD := hD.sub (ws' := [(j, .inr (0, [.ref a1, .ref a2, .ref a3, .int ((S_X0_dropProp (σ.1, σ.2.1, σ.2.2.1, σ.2.2.2.1, σ.2.2.2.2.1, σ.2.2.2.2.2.1 + 1, σ.2.2.2.2.2.2.1, σ.2.2.2.2.2.2.2) (S_X0_propLandingIn σ 0)).2.2.2.1), .int ((S_X0_dropProp (σ.1, σ.2.1, σ.2.2.1, σ.2.2.2.1, σ.2.2.2.2.1, σ.2.2.2.2.2.1 + 1, σ.2.2.2.2.2.2.1, σ.2.2.2.2.2.2.2) (S_X0_propLandingIn σ 0)).2.2.2.2.1), .int ((S_X0_dropProp (σ.1, σ.2.1, σ.2.2.1, σ.2.2.2.1, σ.2.2.2.2.1, σ.2.2.2.2.2.1 + 1, σ.2.2.2.2.2.2.1, σ.2.2.2.2.2.2.2) (S_X0_propLandingIn σ 0)).2.2.2.2.2.1), .int ((S_X0_dropProp (σ.1, σ.2.1, σ.2.2.1, σ.2.2.2.1, σ.2.2.2.2.1, σ.2.2.2.2.2.1 + 1, σ.2.2.2.2.2.2.1, σ.2.2.2.2.2.2.2) (S_X0_propLandingIn σ 0)).2.2.2.2.2.2.1), .double ((S_X0_dropProp (σ.1, σ.2.1, σ.2.2.1, σ.2.2.2.1, σ.2.2.2.2.1, σ.2.2.2.2.2.1 + 1, σ.2.2.2.2.2.2.1, σ.2.2.2.2.2.2.2) (S_X0_propLandingIn σ 0)).2.2.2.2.2.2.2)])), (a1, .inl (cI, 6, .inl ((S_X0_dropProp (σ.1, σ.2.1, σ.2.2.1, σ.2.2.2.1, σ.2.2.2.2.1, σ.2.2.2.2.2.1 + 1, σ.2.2.2.2.2.2.1, σ.2.2.2.2.2.2.2) (S_X0_propLandingIn σ 0)).1))), (a2, .inl (cI, 6, .inl ((S_X0_dropProp (σ.1, σ.2.1, σ.2.2.1, σ.2.2.2.1, σ.2.2.2.2.1, σ.2.2.2.2.2.1 + 1, σ.2.2.2.2.2.2.1, σ.2.2.2.2.2.2.2) (S_X0_propLandingIn σ 0)).2.1))), (a3, .inl (cI, 6, .inl ((S_X0_dropProp (σ.1, σ.2.1, σ.2.2.1, σ.2.2.2.1, σ.2.2.2.2.1, σ.2.2.2.2.2.1 + 1, σ.2.2.2.2.2.2.1, σ.2.2.2.2.2.2.2) (S_X0_propLandingIn σ 0)).2.2.1)))]) [0, 1, 2, 3] (by decide) rfl
      clear hPc hDc hP1 hD1 hk1 hFc hz1 ht hvm
      generalize H1 = H at hP hS ⊢
      refine lv_aload_n hx hb dX0_slip_40 rfl (lv_at hl 2 rfl) ?_
      refine lv_iload_n hx hb dX0_slip_41 rfl (lv_at hl 0 rfl) ?_
      have hPc := hP.sub (ws' := (wJ cI j a1 a2 a3 (S_X0_dropProp (σ.1, σ.2.1, σ.2.2.1, σ.2.2.2.1, σ.2.2.2.2.1, σ.2.2.2.2.2.1 + 1, σ.2.2.2.2.2.2.1, σ.2.2.2.2.2.2.2) (S_X0_propLandingIn σ 0)))) [0, 1, 2, 3] rfl
      have hDc := hD.sub (ws' := (wJ cI j a1 a2 a3 (S_X0_dropProp (σ.1, σ.2.1, σ.2.2.1, σ.2.2.2.1, σ.2.2.2.2.1, σ.2.2.2.2.2.1 + 1, σ.2.2.2.2.2.2.1, σ.2.2.2.2.2.2.2) (S_X0_propLandingIn σ 0)))) [0, 1, 2, 3] (by decide) rfl
      have hFc := va_free (wc := (wJ cI j a1 a2 a3 (S_X0_dropProp (σ.1, σ.2.1, σ.2.2.1, σ.2.2.2.1, σ.2.2.2.2.1, σ.2.2.2.2.2.1 + 1, σ.2.2.2.2.2.2.1, σ.2.2.2.2.2.2.2) (S_X0_propLandingIn σ 0)))) hD hS hA [0, 1, 2, 3] rfl
      refine va_callv (va_runV (As := [.int (-1)]) (rest := []) ⟨hx, hb, hml, hown, hts⟩ (c_X0_dropProp l dC dI cI cR _ j a1 a2 a3 (S_X0_dropProp (σ.1, σ.2.1, σ.2.2.1, σ.2.2.2.1, σ.2.2.2.2.1, σ.2.2.2.2.2.1 + 1, σ.2.2.2.2.2.2.1, σ.2.2.2.2.2.2.2) (S_X0_propLandingIn σ 0)) (-1)) (cwV 1 hts gX0_slip_X0_dropProp rfl rfl rfl (by decide +kernel) ⟨Nat.le_of_ble_eq_true rfl, Nat.le_of_ble_eq_true rfl⟩) ⟨fun a U g mk q => by obtain ⟨q0, q1, qP, qE, qD⟩ := q; exact ⟨q0, q1, qP, cE.same (s := U) rfl qE, qD⟩, va_recv hK hP (ci := 0) (q0 := 0) rfl rfl, fun U hU hW => ⟨rfl, by rw [hU], by rw [hU]; exact hPc, hE.warm hW, hDc.weaken (fun _ _ _ _ => trivial)⟩⟩ rfl rfl hl.1 rfl (lv_room (Nat.le_of_ble_eq_true rfl)) dX0_slip_42 ⟨Nat.zero_le _, Nat.zero_le _⟩) hS (fun q _ h => hFc q h) hFc (fun u t H1 locs ht hvm h_42 hB hz1 hk1 hS => ?_)
      obtain ⟨hP1, -, hD1⟩ := hB
      rw [ht] at hP1
      obtain ⟨hP, hD⟩ := va_join (wr := []) (w1 := (wJ cI j a1 a2 a3 (S_X0_dropProp (S_X0_dropProp (σ.1, σ.2.1, σ.2.2.1, σ.2.2.2.1, σ.2.2.2.2.1, σ.2.2.2.2.2.1 + 1, σ.2.2.2.2.2.2.1, σ.2.2.2.2.2.2.2) (S_X0_propLandingIn σ 0)) (-1)))) hP hD [0, 1, 2, 3] [] rfl rfl (by decide) (by decide) hk1 hFc hP1 hD1
      have hP := hP.sub (ws' := [(j, .inr (0, [.ref a1, .ref a2, .ref a3, .int ((S_X0_dropProp (S_X0_dropProp (σ.1, σ.2.1, σ.2.2.1, σ.2.2.2.1, σ.2.2.2.2.1, σ.2.2.2.2.2.1 + 1, σ.2.2.2.2.2.2.1, σ.2.2.2.2.2.2.2) (S_X0_propLandingIn σ 0)) (-1)).2.2.2.1), .int ((S_X0_dropProp (S_X0_dropProp (σ.1, σ.2.1, σ.2.2.1, σ.2.2.2.1, σ.2.2.2.2.1, σ.2.2.2.2.2.1 + 1, σ.2.2.2.2.2.2.1, σ.2.2.2.2.2.2.2) (S_X0_propLandingIn σ 0)) (-1)).2.2.2.2.1), .int ((S_X0_dropProp (S_X0_dropProp (σ.1, σ.2.1, σ.2.2.1, σ.2.2.2.1, σ.2.2.2.2.1, σ.2.2.2.2.2.1 + 1, σ.2.2.2.2.2.2.1, σ.2.2.2.2.2.2.2) (S_X0_propLandingIn σ 0)) (-1)).2.2.2.2.2.1), .int ((S_X0_dropProp (S_X0_dropProp (σ.1, σ.2.1, σ.2.2.1, σ.2.2.2.1, σ.2.2.2.2.1, σ.2.2.2.2.2.1 + 1, σ.2.2.2.2.2.2.1, σ.2.2.2.2.2.2.2) (S_X0_propLandingIn σ 0)) (-1)).2.2.2.2.2.2.1), .double ((S_X0_dropProp (S_X0_dropProp (σ.1, σ.2.1, σ.2.2.1, σ.2.2.2.1, σ.2.2.2.2.1, σ.2.2.2.2.2.1 + 1, σ.2.2.2.2.2.2.1, σ.2.2.2.2.2.2.2) (S_X0_propLandingIn σ 0)) (-1)).2.2.2.2.2.2.2)])), (a1, .inl (cI, 6, .inl ((S_X0_dropProp (S_X0_dropProp (σ.1, σ.2.1, σ.2.2.1, σ.2.2.2.1, σ.2.2.2.2.1, σ.2.2.2.2.2.1 + 1, σ.2.2.2.2.2.2.1, σ.2.2.2.2.2.2.2) (S_X0_propLandingIn σ 0)) (-1)).1))), (a2, .inl (cI, 6, .inl ((S_X0_dropProp (S_X0_dropProp (σ.1, σ.2.1, σ.2.2.1, σ.2.2.2.1, σ.2.2.2.2.1, σ.2.2.2.2.2.1 + 1, σ.2.2.2.2.2.2.1, σ.2.2.2.2.2.2.2) (S_X0_propLandingIn σ 0)) (-1)).2.1))), (a3, .inl (cI, 6, .inl ((S_X0_dropProp (S_X0_dropProp (σ.1, σ.2.1, σ.2.2.1, σ.2.2.2.1, σ.2.2.2.2.1, σ.2.2.2.2.2.1 + 1, σ.2.2.2.2.2.2.1, σ.2.2.2.2.2.2.2) (S_X0_propLandingIn σ 0)) (-1)).2.2.1)))]) [0, 1, 2, 3] rfl
      have hD := hD.sub (ws' := [(j, .inr (0, [.ref a1, .ref a2, .ref a3, .int ((S_X0_dropProp (S_X0_dropProp (σ.1, σ.2.1, σ.2.2.1, σ.2.2.2.1, σ.2.2.2.2.1, σ.2.2.2.2.2.1 + 1, σ.2.2.2.2.2.2.1, σ.2.2.2.2.2.2.2) (S_X0_propLandingIn σ 0)) (-1)).2.2.2.1), .int ((S_X0_dropProp (S_X0_dropProp (σ.1, σ.2.1, σ.2.2.1, σ.2.2.2.1, σ.2.2.2.2.1, σ.2.2.2.2.2.1 + 1, σ.2.2.2.2.2.2.1, σ.2.2.2.2.2.2.2) (S_X0_propLandingIn σ 0)) (-1)).2.2.2.2.1), .int ((S_X0_dropProp (S_X0_dropProp (σ.1, σ.2.1, σ.2.2.1, σ.2.2.2.1, σ.2.2.2.2.1, σ.2.2.2.2.2.1 + 1, σ.2.2.2.2.2.2.1, σ.2.2.2.2.2.2.2) (S_X0_propLandingIn σ 0)) (-1)).2.2.2.2.2.1), .int ((S_X0_dropProp (S_X0_dropProp (σ.1, σ.2.1, σ.2.2.1, σ.2.2.2.1, σ.2.2.2.2.1, σ.2.2.2.2.2.1 + 1, σ.2.2.2.2.2.2.1, σ.2.2.2.2.2.2.2) (S_X0_propLandingIn σ 0)) (-1)).2.2.2.2.2.2.1), .double ((S_X0_dropProp (S_X0_dropProp (σ.1, σ.2.1, σ.2.2.1, σ.2.2.2.1, σ.2.2.2.2.1, σ.2.2.2.2.2.1 + 1, σ.2.2.2.2.2.2.1, σ.2.2.2.2.2.2.2) (S_X0_propLandingIn σ 0)) (-1)).2.2.2.2.2.2.2)])), (a1, .inl (cI, 6, .inl ((S_X0_dropProp (S_X0_dropProp (σ.1, σ.2.1, σ.2.2.1, σ.2.2.2.1, σ.2.2.2.2.1, σ.2.2.2.2.2.1 + 1, σ.2.2.2.2.2.2.1, σ.2.2.2.2.2.2.2) (S_X0_propLandingIn σ 0)) (-1)).1))), (a2, .inl (cI, 6, .inl ((S_X0_dropProp (S_X0_dropProp (σ.1, σ.2.1, σ.2.2.1, σ.2.2.2.1, σ.2.2.2.2.1, σ.2.2.2.2.2.1 + 1, σ.2.2.2.2.2.2.1, σ.2.2.2.2.2.2.2) (S_X0_propLandingIn σ 0)) (-1)).2.1))), (a3, .inl (cI, 6, .inl ((S_X0_dropProp (S_X0_dropProp (σ.1, σ.2.1, σ.2.2.1, σ.2.2.2.1, σ.2.2.2.2.1, σ.2.2.2.2.2.1 + 1, σ.2.2.2.2.2.2.1, σ.2.2.2.2.2.2.2) (S_X0_propLandingIn σ 0)) (-1)).2.2.1)))]) [0, 1, 2, 3] (by decide) rfl
      clear hPc hDc hP1 hD1 hk1 hFc hz1 ht hvm
      generalize H1 = H at hP hS ⊢
      have e9 : S_X0_slip σ p0 = (S_X0_dropProp (S_X0_dropProp (σ.1, σ.2.1, σ.2.2.1, σ.2.2.2.1, σ.2.2.2.2.1, σ.2.2.2.2.2.1 + 1, σ.2.2.2.2.2.2.1, σ.2.2.2.2.2.2.2) (S_X0_propLandingIn σ 0)) (-1)) := by simp only [S_X0_slip, if_pos c_7, if_neg c_32]
      exact W.vret hx hb hr (fun t ht hW => ⟨⟨(), rfl, trivial, by rw [ht, e9]; exact hP, hE.warm hW, by rw [e9]; exact hD⟩, hS.F ht⟩) hS.2.2 dX0_slip_45
  · refine lv_aload_n hx hb dX0_slip_10 rfl (lv_at hl 1 rfl) ?_
    refine lv_iload_n hx hb dX0_slip_11 rfl (lv_at hl 2 rfl) ?_
    refine vp_callSi (va_Run.run (va_runV (As := [.int p0]) (rest := []) ⟨hx, hb, hml, hown, hts⟩ (c_X0_propLandingIn l dC dI cI cR j a1 a2 a3 σ p0) (cwV 1 hts gX0_slip_X0_propLandingIn rfl rfl rfl (by decide +kernel) ⟨Nat.le_of_ble_eq_true rfl, Nat.le_of_ble_eq_true rfl⟩) ⟨fun a U g mk q => by obtain ⟨q0, qP, qE⟩ := q; exact ⟨q0, qP, cE.same (s := U) rfl qE⟩, va_recv hK hP (ci := 0) (q0 := 0) rfl rfl, fun U hU hW => ⟨rfl, by rw [hU]; exact hP.sub (ws' := (wJ cI j a1 a2 a3 σ)) [0, 1, 2, 3] rfl, hE.warm hW⟩⟩ rfl rfl hl.1 rfl (lv_room (Nat.le_of_ble_eq_true rfl)) dX0_slip_12 ⟨Nat.zero_le _, Nat.zero_le _⟩)) (fun r_12 h_12 => ?_)
    subst h_12
    refine lv_goto (tgt := 19) hx hb dX0_slip_15 (by decide) ?_
    refine lv_istore_n (lv' := [(3, .int (S_X0_propLandingIn σ p0)), (2, .int (S_X0_propLandingIn σ 0)), (0, .ref j), (1, .int p0)]) hx hb dX0_slip_19 rfl hl (by decide) rfl (fun ls hl => ?_)
    refine lv_aload_n hx hb dX0_slip_20 rfl (lv_at hl 2 rfl) ?_
    refine lv_dup hx hb dX0_slip_21 rfl ?_
    refine va_get (D := (dC, dI)) (ci := 0) (v := .int σ.2.2.2.2.2.1) (C := RX0) (T := TX0) (N := 8) hx hb hts in_X0 hown hK hP 0 rfl rfl 5 (by decide) q_0 (fun _ h9 => h9) rfl dX0_slip_22 ?_
    refine lv_iconst (v := 1) hx hb dX0_slip_25 (by decide) ?_
    refine lv_iadd hx hb dX0_slip_26 ?_
    refine va_put (D := (dC, dI)) (ci := 0) (v := .int (σ.2.2.2.2.2.1 + 1)) (ty := .int) (C := RX0) (T := TX0) (N := 8) hx hb hts in_X0 tyX0 tyX0_ok nmX0 hown hK hP hD hS 0 rfl rfl 5 (by decide) q_0 (fun _ h9 => h9) rfl (by decide +kernel) rfl rfl (Nat.le_of_ble_eq_true rfl) dX0_slip_27 (fun H locs hP hD hS => ?_)
    have hP : va_P (dC, dI) vwCl [(j, .inr (0, [.ref a1, .ref a2, .ref a3, .int σ.2.2.2.1, .int σ.2.2.2.2.1, .int (σ.2.2.2.2.2.1 + 1), .int σ.2.2.2.2.2.2.1, .double σ.2.2.2.2.2.2.2])), (a1, .inl (cI, 6, .inl σ.1)), (a2, .inl (cI, 6, .inl σ.2.1)), (a3, .inl (cI, 6, .inl σ.2.2.1))] H := hP
    have hD : va_D A [(j, .inr (0, [.ref a1, .ref a2, .ref a3, .int σ.2.2.2.1, .int σ.2.2.2.2.1, .int (σ.2.2.2.2.2.1 + 1), .int σ.2.2.2.2.2.2.1, .double σ.2.2.2.2.2.2.2])), (a1, .inl (cI, 6, .inl σ.1)), (a2, .inl (cI, 6, .inl σ.2.1)), (a3, .inl (cI, 6, .inl σ.2.2.1))] := hD
    refine lv_iload_n hx hb dX0_slip_30 rfl (lv_at hl 1 rfl) ?_
    refine lv_iconst (v := (-1)) hx hb dX0_slip_31 (by decide) ?_
    refine lv_icmp_eq (tgt := 45) hx hb dX0_slip_32 (by decide) (fun c_32 => ?_) (fun c_32 => ?_)
    · have e9 : S_X0_slip σ p0 = (σ.1, σ.2.1, σ.2.2.1, σ.2.2.2.1, σ.2.2.2.2.1, σ.2.2.2.2.2.1 + 1, σ.2.2.2.2.2.2.1, σ.2.2.2.2.2.2.2) := by simp only [S_X0_slip, if_neg c_7, if_pos c_32]
      exact W.vret hx hb hr (fun t ht hW => ⟨⟨(), rfl, trivial, by rw [ht, e9]; exact hP, hE.warm hW, by rw [e9]; exact hD⟩, hS.F ht⟩) hS.2.2 dX0_slip_45
    · refine lv_aload_n hx hb dX0_slip_35 rfl (lv_at hl 2 rfl) ?_
      refine lv_iload_n hx hb dX0_slip_36 rfl (lv_at hl 1 rfl) ?_
      have hPc := hP.sub (ws' := (wJ cI j a1 a2 a3 (σ.1, σ.2.1, σ.2.2.1, σ.2.2.2.1, σ.2.2.2.2.1, σ.2.2.2.2.2.1 + 1, σ.2.2.2.2.2.2.1, σ.2.2.2.2.2.2.2))) [0, 1, 2, 3] rfl
      have hDc := hD.sub (ws' := (wJ cI j a1 a2 a3 (σ.1, σ.2.1, σ.2.2.1, σ.2.2.2.1, σ.2.2.2.2.1, σ.2.2.2.2.2.1 + 1, σ.2.2.2.2.2.2.1, σ.2.2.2.2.2.2.2))) [0, 1, 2, 3] (by decide) rfl
      have hFc := va_free (wc := (wJ cI j a1 a2 a3 (σ.1, σ.2.1, σ.2.2.1, σ.2.2.2.1, σ.2.2.2.2.1, σ.2.2.2.2.2.1 + 1, σ.2.2.2.2.2.2.1, σ.2.2.2.2.2.2.2))) hD hS hA [0, 1, 2, 3] rfl
      refine va_callv (va_runV (As := [.int (S_X0_propLandingIn σ 0)]) (rest := []) ⟨hx, hb, hml, hown, hts⟩ (c_X0_dropProp l dC dI cI cR _ j a1 a2 a3 (σ.1, σ.2.1, σ.2.2.1, σ.2.2.2.1, σ.2.2.2.2.1, σ.2.2.2.2.2.1 + 1, σ.2.2.2.2.2.2.1, σ.2.2.2.2.2.2.2) (S_X0_propLandingIn σ 0)) (cwV 1 hts gX0_slip_X0_dropProp rfl rfl rfl (by decide +kernel) ⟨Nat.le_of_ble_eq_true rfl, Nat.le_of_ble_eq_true rfl⟩) ⟨fun a U g mk q => by obtain ⟨q0, q1, qP, qE, qD⟩ := q; exact ⟨q0, q1, qP, cE.same (s := U) rfl qE, qD⟩, va_recv hK hP (ci := 0) (q0 := 0) rfl rfl, fun U hU hW => ⟨rfl, by rw [hU], by rw [hU]; exact hPc, hE.warm hW, hDc.weaken (fun _ _ _ _ => trivial)⟩⟩ rfl rfl hl.1 rfl (lv_room (Nat.le_of_ble_eq_true rfl)) dX0_slip_37 ⟨Nat.zero_le _, Nat.zero_le _⟩) hS (fun q _ h => hFc q h) hFc (fun u t H1 locs ht hvm h_37 hB hz1 hk1 hS => ?_)
      obtain ⟨hP1, -, hD1⟩ := hB
      rw [ht] at hP1
      obtain ⟨hP, hD⟩ := va_join (wr := []) (w1 := (wJ cI j a1 a2 a3 (S_X0_dropProp (σ.1, σ.2.1, σ.2.2.1, σ.2.2.2.1, σ.2.2.2.2.1, σ.2.2.2.2.2.1 + 1, σ.2.2.2.2.2.2.1, σ.2.2.2.2.2.2.2) (S_X0_propLandingIn σ 0)))) hP hD [0, 1, 2, 3] [] rfl rfl (by decide) (by decide) hk1 hFc hP1 hD1
      have hP := hP.sub (ws' := [(j, .inr (0, [.ref a1, .ref a2, .ref a3, .int ((S_X0_dropProp (σ.1, σ.2.1, σ.2.2.1, σ.2.2.2.1, σ.2.2.2.2.1, σ.2.2.2.2.2.1 + 1, σ.2.2.2.2.2.2.1, σ.2.2.2.2.2.2.2) (S_X0_propLandingIn σ 0)).2.2.2.1), .int ((S_X0_dropProp (σ.1, σ.2.1, σ.2.2.1, σ.2.2.2.1, σ.2.2.2.2.1, σ.2.2.2.2.2.1 + 1, σ.2.2.2.2.2.2.1, σ.2.2.2.2.2.2.2) (S_X0_propLandingIn σ 0)).2.2.2.2.1), .int ((S_X0_dropProp (σ.1, σ.2.1, σ.2.2.1, σ.2.2.2.1, σ.2.2.2.2.1, σ.2.2.2.2.2.1 + 1, σ.2.2.2.2.2.2.1, σ.2.2.2.2.2.2.2) (S_X0_propLandingIn σ 0)).2.2.2.2.2.1), .int ((S_X0_dropProp (σ.1, σ.2.1, σ.2.2.1, σ.2.2.2.1, σ.2.2.2.2.1, σ.2.2.2.2.2.1 + 1, σ.2.2.2.2.2.2.1, σ.2.2.2.2.2.2.2) (S_X0_propLandingIn σ 0)).2.2.2.2.2.2.1), .double ((S_X0_dropProp (σ.1, σ.2.1, σ.2.2.1, σ.2.2.2.1, σ.2.2.2.2.1, σ.2.2.2.2.2.1 + 1, σ.2.2.2.2.2.2.1, σ.2.2.2.2.2.2.2) (S_X0_propLandingIn σ 0)).2.2.2.2.2.2.2)])), (a1, .inl (cI, 6, .inl ((S_X0_dropProp (σ.1, σ.2.1, σ.2.2.1, σ.2.2.2.1, σ.2.2.2.2.1, σ.2.2.2.2.2.1 + 1, σ.2.2.2.2.2.2.1, σ.2.2.2.2.2.2.2) (S_X0_propLandingIn σ 0)).1))), (a2, .inl (cI, 6, .inl ((S_X0_dropProp (σ.1, σ.2.1, σ.2.2.1, σ.2.2.2.1, σ.2.2.2.2.1, σ.2.2.2.2.2.1 + 1, σ.2.2.2.2.2.2.1, σ.2.2.2.2.2.2.2) (S_X0_propLandingIn σ 0)).2.1))), (a3, .inl (cI, 6, .inl ((S_X0_dropProp (σ.1, σ.2.1, σ.2.2.1, σ.2.2.2.1, σ.2.2.2.2.1, σ.2.2.2.2.2.1 + 1, σ.2.2.2.2.2.2.1, σ.2.2.2.2.2.2.2) (S_X0_propLandingIn σ 0)).2.2.1)))]) [0, 1, 2, 3] rfl
      have hD := hD.sub (ws' := [(j, .inr (0, [.ref a1, .ref a2, .ref a3, .int ((S_X0_dropProp (σ.1, σ.2.1, σ.2.2.1, σ.2.2.2.1, σ.2.2.2.2.1, σ.2.2.2.2.2.1 + 1, σ.2.2.2.2.2.2.1, σ.2.2.2.2.2.2.2) (S_X0_propLandingIn σ 0)).2.2.2.1), .int ((S_X0_dropProp (σ.1, σ.2.1, σ.2.2.1, σ.2.2.2.1, σ.2.2.2.2.1, σ.2.2.2.2.2.1 + 1, σ.2.2.2.2.2.2.1, σ.2.2.2.2.2.2.2) (S_X0_propLandingIn σ 0)).2.2.2.2.1), .int ((S_X0_dropProp (σ.1, σ.2.1, σ.2.2.1, σ.2.2.2.1, σ.2.2.2.2.1, σ.2.2.2.2.2.1 + 1, σ.2.2.2.2.2.2.1, σ.2.2.2.2.2.2.2) (S_X0_propLandingIn σ 0)).2.2.2.2.2.1), .int ((S_X0_dropProp (σ.1, σ.2.1, σ.2.2.1, σ.2.2.2.1, σ.2.2.2.2.1, σ.2.2.2.2.2.1 + 1, σ.2.2.2.2.2.2.1, σ.2.2.2.2.2.2.2) (S_X0_propLandingIn σ 0)).2.2.2.2.2.2.1), .double ((S_X0_dropProp (σ.1, σ.2.1, σ.2.2.1, σ.2.2.2.1, σ.2.2.2.2.1, σ.2.2.2.2.2.1 + 1, σ.2.2.2.2.2.2.1, σ.2.2.2.2.2.2.2) (S_X0_propLandingIn σ 0)).2.2.2.2.2.2.2)])), (a1, .inl (cI, 6, .inl ((S_X0_dropProp (σ.1, σ.2.1, σ.2.2.1, σ.2.2.2.1, σ.2.2.2.2.1, σ.2.2.2.2.2.1 + 1, σ.2.2.2.2.2.2.1, σ.2.2.2.2.2.2.2) (S_X0_propLandingIn σ 0)).1))), (a2, .inl (cI, 6, .inl ((S_X0_dropProp (σ.1, σ.2.1, σ.2.2.1, σ.2.2.2.1, σ.2.2.2.2.1, σ.2.2.2.2.2.1 + 1, σ.2.2.2.2.2.2.1, σ.2.2.2.2.2.2.2) (S_X0_propLandingIn σ 0)).2.1))), (a3, .inl (cI, 6, .inl ((S_X0_dropProp (σ.1, σ.2.1, σ.2.2.1, σ.2.2.2.1, σ.2.2.2.2.1, σ.2.2.2.2.2.1 + 1, σ.2.2.2.2.2.2.1, σ.2.2.2.2.2.2.2) (S_X0_propLandingIn σ 0)).2.2.1)))]) [0, 1, 2, 3] (by decide) rfl
      clear hPc hDc hP1 hD1 hk1 hFc hz1 ht hvm
      generalize H1 = H at hP hS ⊢
      refine lv_aload_n hx hb dX0_slip_40 rfl (lv_at hl 2 rfl) ?_
      refine lv_iload_n hx hb dX0_slip_41 rfl (lv_at hl 0 rfl) ?_
      have hPc := hP.sub (ws' := (wJ cI j a1 a2 a3 (S_X0_dropProp (σ.1, σ.2.1, σ.2.2.1, σ.2.2.2.1, σ.2.2.2.2.1, σ.2.2.2.2.2.1 + 1, σ.2.2.2.2.2.2.1, σ.2.2.2.2.2.2.2) (S_X0_propLandingIn σ 0)))) [0, 1, 2, 3] rfl
      have hDc := hD.sub (ws' := (wJ cI j a1 a2 a3 (S_X0_dropProp (σ.1, σ.2.1, σ.2.2.1, σ.2.2.2.1, σ.2.2.2.2.1, σ.2.2.2.2.2.1 + 1, σ.2.2.2.2.2.2.1, σ.2.2.2.2.2.2.2) (S_X0_propLandingIn σ 0)))) [0, 1, 2, 3] (by decide) rfl
      have hFc := va_free (wc := (wJ cI j a1 a2 a3 (S_X0_dropProp (σ.1, σ.2.1, σ.2.2.1, σ.2.2.2.1, σ.2.2.2.2.1, σ.2.2.2.2.2.1 + 1, σ.2.2.2.2.2.2.1, σ.2.2.2.2.2.2.2) (S_X0_propLandingIn σ 0)))) hD hS hA [0, 1, 2, 3] rfl
      refine va_callv (va_runV (As := [.int (S_X0_propLandingIn σ p0)]) (rest := []) ⟨hx, hb, hml, hown, hts⟩ (c_X0_dropProp l dC dI cI cR _ j a1 a2 a3 (S_X0_dropProp (σ.1, σ.2.1, σ.2.2.1, σ.2.2.2.1, σ.2.2.2.2.1, σ.2.2.2.2.2.1 + 1, σ.2.2.2.2.2.2.1, σ.2.2.2.2.2.2.2) (S_X0_propLandingIn σ 0)) (S_X0_propLandingIn σ p0)) (cwV 1 hts gX0_slip_X0_dropProp rfl rfl rfl (by decide +kernel) ⟨Nat.le_of_ble_eq_true rfl, Nat.le_of_ble_eq_true rfl⟩) ⟨fun a U g mk q => by obtain ⟨q0, q1, qP, qE, qD⟩ := q; exact ⟨q0, q1, qP, cE.same (s := U) rfl qE, qD⟩, va_recv hK hP (ci := 0) (q0 := 0) rfl rfl, fun U hU hW => ⟨rfl, by rw [hU], by rw [hU]; exact hPc, hE.warm hW, hDc.weaken (fun _ _ _ _ => trivial)⟩⟩ rfl rfl hl.1 rfl (lv_room (Nat.le_of_ble_eq_true rfl)) dX0_slip_42 ⟨Nat.zero_le _, Nat.zero_le _⟩) hS (fun q _ h => hFc q h) hFc (fun u t H1 locs ht hvm h_42 hB hz1 hk1 hS => ?_)
      obtain ⟨hP1, -, hD1⟩ := hB
      rw [ht] at hP1
      obtain ⟨hP, hD⟩ := va_join (wr := []) (w1 := (wJ cI j a1 a2 a3 (S_X0_dropProp (S_X0_dropProp (σ.1, σ.2.1, σ.2.2.1, σ.2.2.2.1, σ.2.2.2.2.1, σ.2.2.2.2.2.1 + 1, σ.2.2.2.2.2.2.1, σ.2.2.2.2.2.2.2) (S_X0_propLandingIn σ 0)) (S_X0_propLandingIn σ p0)))) hP hD [0, 1, 2, 3] [] rfl rfl (by decide) (by decide) hk1 hFc hP1 hD1
      have hP := hP.sub (ws' := [(j, .inr (0, [.ref a1, .ref a2, .ref a3, .int ((S_X0_dropProp (S_X0_dropProp (σ.1, σ.2.1, σ.2.2.1, σ.2.2.2.1, σ.2.2.2.2.1, σ.2.2.2.2.2.1 + 1, σ.2.2.2.2.2.2.1, σ.2.2.2.2.2.2.2) (S_X0_propLandingIn σ 0)) (S_X0_propLandingIn σ p0)).2.2.2.1), .int ((S_X0_dropProp (S_X0_dropProp (σ.1, σ.2.1, σ.2.2.1, σ.2.2.2.1, σ.2.2.2.2.1, σ.2.2.2.2.2.1 + 1, σ.2.2.2.2.2.2.1, σ.2.2.2.2.2.2.2) (S_X0_propLandingIn σ 0)) (S_X0_propLandingIn σ p0)).2.2.2.2.1), .int ((S_X0_dropProp (S_X0_dropProp (σ.1, σ.2.1, σ.2.2.1, σ.2.2.2.1, σ.2.2.2.2.1, σ.2.2.2.2.2.1 + 1, σ.2.2.2.2.2.2.1, σ.2.2.2.2.2.2.2) (S_X0_propLandingIn σ 0)) (S_X0_propLandingIn σ p0)).2.2.2.2.2.1), .int ((S_X0_dropProp (S_X0_dropProp (σ.1, σ.2.1, σ.2.2.1, σ.2.2.2.1, σ.2.2.2.2.1, σ.2.2.2.2.2.1 + 1, σ.2.2.2.2.2.2.1, σ.2.2.2.2.2.2.2) (S_X0_propLandingIn σ 0)) (S_X0_propLandingIn σ p0)).2.2.2.2.2.2.1), .double ((S_X0_dropProp (S_X0_dropProp (σ.1, σ.2.1, σ.2.2.1, σ.2.2.2.1, σ.2.2.2.2.1, σ.2.2.2.2.2.1 + 1, σ.2.2.2.2.2.2.1, σ.2.2.2.2.2.2.2) (S_X0_propLandingIn σ 0)) (S_X0_propLandingIn σ p0)).2.2.2.2.2.2.2)])), (a1, .inl (cI, 6, .inl ((S_X0_dropProp (S_X0_dropProp (σ.1, σ.2.1, σ.2.2.1, σ.2.2.2.1, σ.2.2.2.2.1, σ.2.2.2.2.2.1 + 1, σ.2.2.2.2.2.2.1, σ.2.2.2.2.2.2.2) (S_X0_propLandingIn σ 0)) (S_X0_propLandingIn σ p0)).1))), (a2, .inl (cI, 6, .inl ((S_X0_dropProp (S_X0_dropProp (σ.1, σ.2.1, σ.2.2.1, σ.2.2.2.1, σ.2.2.2.2.1, σ.2.2.2.2.2.1 + 1, σ.2.2.2.2.2.2.1, σ.2.2.2.2.2.2.2) (S_X0_propLandingIn σ 0)) (S_X0_propLandingIn σ p0)).2.1))), (a3, .inl (cI, 6, .inl ((S_X0_dropProp (S_X0_dropProp (σ.1, σ.2.1, σ.2.2.1, σ.2.2.2.1, σ.2.2.2.2.1, σ.2.2.2.2.2.1 + 1, σ.2.2.2.2.2.2.1, σ.2.2.2.2.2.2.2) (S_X0_propLandingIn σ 0)) (S_X0_propLandingIn σ p0)).2.2.1)))]) [0, 1, 2, 3] rfl
      have hD := hD.sub (ws' := [(j, .inr (0, [.ref a1, .ref a2, .ref a3, .int ((S_X0_dropProp (S_X0_dropProp (σ.1, σ.2.1, σ.2.2.1, σ.2.2.2.1, σ.2.2.2.2.1, σ.2.2.2.2.2.1 + 1, σ.2.2.2.2.2.2.1, σ.2.2.2.2.2.2.2) (S_X0_propLandingIn σ 0)) (S_X0_propLandingIn σ p0)).2.2.2.1), .int ((S_X0_dropProp (S_X0_dropProp (σ.1, σ.2.1, σ.2.2.1, σ.2.2.2.1, σ.2.2.2.2.1, σ.2.2.2.2.2.1 + 1, σ.2.2.2.2.2.2.1, σ.2.2.2.2.2.2.2) (S_X0_propLandingIn σ 0)) (S_X0_propLandingIn σ p0)).2.2.2.2.1), .int ((S_X0_dropProp (S_X0_dropProp (σ.1, σ.2.1, σ.2.2.1, σ.2.2.2.1, σ.2.2.2.2.1, σ.2.2.2.2.2.1 + 1, σ.2.2.2.2.2.2.1, σ.2.2.2.2.2.2.2) (S_X0_propLandingIn σ 0)) (S_X0_propLandingIn σ p0)).2.2.2.2.2.1), .int ((S_X0_dropProp (S_X0_dropProp (σ.1, σ.2.1, σ.2.2.1, σ.2.2.2.1, σ.2.2.2.2.1, σ.2.2.2.2.2.1 + 1, σ.2.2.2.2.2.2.1, σ.2.2.2.2.2.2.2) (S_X0_propLandingIn σ 0)) (S_X0_propLandingIn σ p0)).2.2.2.2.2.2.1), .double ((S_X0_dropProp (S_X0_dropProp (σ.1, σ.2.1, σ.2.2.1, σ.2.2.2.1, σ.2.2.2.2.1, σ.2.2.2.2.2.1 + 1, σ.2.2.2.2.2.2.1, σ.2.2.2.2.2.2.2) (S_X0_propLandingIn σ 0)) (S_X0_propLandingIn σ p0)).2.2.2.2.2.2.2)])), (a1, .inl (cI, 6, .inl ((S_X0_dropProp (S_X0_dropProp (σ.1, σ.2.1, σ.2.2.1, σ.2.2.2.1, σ.2.2.2.2.1, σ.2.2.2.2.2.1 + 1, σ.2.2.2.2.2.2.1, σ.2.2.2.2.2.2.2) (S_X0_propLandingIn σ 0)) (S_X0_propLandingIn σ p0)).1))), (a2, .inl (cI, 6, .inl ((S_X0_dropProp (S_X0_dropProp (σ.1, σ.2.1, σ.2.2.1, σ.2.2.2.1, σ.2.2.2.2.1, σ.2.2.2.2.2.1 + 1, σ.2.2.2.2.2.2.1, σ.2.2.2.2.2.2.2) (S_X0_propLandingIn σ 0)) (S_X0_propLandingIn σ p0)).2.1))), (a3, .inl (cI, 6, .inl ((S_X0_dropProp (S_X0_dropProp (σ.1, σ.2.1, σ.2.2.1, σ.2.2.2.1, σ.2.2.2.2.1, σ.2.2.2.2.2.1 + 1, σ.2.2.2.2.2.2.1, σ.2.2.2.2.2.2.2) (S_X0_propLandingIn σ 0)) (S_X0_propLandingIn σ p0)).2.2.1)))]) [0, 1, 2, 3] (by decide) rfl
      clear hPc hDc hP1 hD1 hk1 hFc hz1 ht hvm
      generalize H1 = H at hP hS ⊢
      have e9 : S_X0_slip σ p0 = (S_X0_dropProp (S_X0_dropProp (σ.1, σ.2.1, σ.2.2.1, σ.2.2.2.1, σ.2.2.2.2.1, σ.2.2.2.2.2.1 + 1, σ.2.2.2.2.2.2.1, σ.2.2.2.2.2.2.2) (S_X0_propLandingIn σ 0)) (S_X0_propLandingIn σ p0)) := by simp only [S_X0_slip, if_neg c_7, if_neg c_32]
      exact W.vret hx hb hr (fun t ht hW => ⟨⟨(), rfl, trivial, by rw [ht, e9]; exact hP, hE.warm hW, by rw [e9]; exact hD⟩, hS.F ht⟩) hS.2.2 dX0_slip_45
def S_X0_tire (σ : JS) (p0 : Int32) (p1 : Int32) : JS := (if p0 = (-1) then (if 0 ≤ (Op.cmpValue (FP.dcmp (FP.dsub σ.2.2.2.2.2.2.2 4598175219545276416) FP.dconst0) CmpOp.g) then (σ.1, σ.2.1, σ.2.2.1, σ.2.2.2.1, σ.2.2.2.2.1, σ.2.2.2.2.2.1, σ.2.2.2.2.2.2.1, FP.dsub σ.2.2.2.2.2.2.2 4598175219545276416) else (σ.1, σ.2.1, σ.2.2.1, σ.2.2.2.1, σ.2.2.2.2.1, σ.2.2.2.2.2.1, σ.2.2.2.2.2.2.1, FP.dconst0)) else (if 0 ≤ (Op.cmpValue (FP.dcmp (FP.dadd σ.2.2.2.2.2.2.2 (FP.dmul (FP.i2d p1) 4593671619917905920)) FP.dconst0) CmpOp.g) then (σ.1, σ.2.1, σ.2.2.1, σ.2.2.2.1, σ.2.2.2.2.1, σ.2.2.2.2.2.1, σ.2.2.2.2.2.2.1, FP.dadd σ.2.2.2.2.2.2.2 (FP.dmul (FP.i2d p1) 4593671619917905920)) else (σ.1, σ.2.1, σ.2.2.1, σ.2.2.2.1, σ.2.2.2.2.1, σ.2.2.2.2.2.1, σ.2.2.2.2.2.2.1, FP.dconst0)))
set_option maxHeartbeats 4000000 in
set_option maxRecDepth 100000 in
theorem c_X0_tire (l : Launch) (dC : Nat → ClassId) (dI : Nat → Nat → Nat) (cI cR : ClassId) (sz : Nat) (j a1 a2 a3 : Nat) (σ : JS) (p0 : Int32) (p1 : Int32) (hT : tOK σ.2.2.2.2.2.2.2 p1) : Met l yX0_tire wsX0_tire ({ frames := 0, cells := 0, slots := 0, locals := 0 }) (va_Pc [.ref j, .int p0, .int p1] (fun U => U.heap.size = sz ∧ va_P (dC, dI) vwCl (wJ cI j a1 a2 a3 σ) U.heap ∧ cE (dC, dI) cI cR U ∧ va_D (fun _ => True) (wJ cI j a1 a2 a3 σ))) (va_Qv (fun _ : Unit => True) (fun (_ : Unit) t => va_P (dC, dI) vwCl (wJ cI j a1 a2 a3 (S_X0_tire σ p0 p1)) t.heap ∧ cE (dC, dI) cI cR t ∧ va_D (va_A (wJ cI j a1 a2 a3 σ) sz) (wJ cI j a1 a2 a3 (S_X0_tire σ p0 p1))) (va_A (wJ cI j a1 a2 a3 σ) sz)) 0 0 (va_A (wJ cI j a1 a2 a3 σ) sz) := by
  refine Met.ofW (cc := cX0_tire) (maxL := 5) (ret := none) (by decide) rfl ?_
  intro p e s m args below meth c s₁ B hml hv
  obtain ⟨rfl, hsz, hP, hE, hD0⟩ := hv
  have hK := hE.1
  have hx := B.exec
  have hb := B.bytes
  have hr := B.returns
  have hts := atoms_spec (ws := wsX0_tire) B.pre
  have hown : s.vm.findClass RX0 = some m.cls := findClass_of_methodNamed B.named
  have hlocks := B.notSynchronized
  subst hsz
  have hD := hD0.self (sz := s.heap.size)
  generalize hAe : va_A (wJ cI j a1 a2 a3 σ) s.heap.size = A at hD ⊢
  have hA : ∀ q : Nat, s.heap.size ≤ q → A q := fun q h => by rw [← hAe]; exact Or.inr h
  have hS : va_S A s.heap s.heap [] := va_S.rf
  have hP : va_P (dC, dI) vwCl [(j, .inr (0, [.ref a1, .ref a2, .ref a3, .int σ.2.2.2.1, .int σ.2.2.2.2.1, .int σ.2.2.2.2.2.1, .int σ.2.2.2.2.2.2.1, .double σ.2.2.2.2.2.2.2])), (a1, .inl (cI, 6, .inl σ.1)), (a2, .inl (cI, 6, .inl σ.2.1)), (a3, .inl (cI, 6, .inl σ.2.2.1))] s.heap := hP
  have hD : va_D A [(j, .inr (0, [.ref a1, .ref a2, .ref a3, .int σ.2.2.2.1, .int σ.2.2.2.2.1, .int σ.2.2.2.2.2.1, .int σ.2.2.2.2.2.2.1, .double σ.2.2.2.2.2.2.2])), (a1, .inl (cI, 6, .inl σ.1)), (a2, .inl (cI, 6, .inl σ.2.1)), (a3, .inl (cI, 6, .inl σ.2.2.1))] := hD
  have hl := lv_entry ([.ref j, .int p0, .int p1]) (n := 5) (Nat.le_of_ble_eq_true rfl)
  rw [lg_entry_eq]
  generalize (lg_sl ([.ref j, .int p0, .int p1]) ++ List.replicate (5 - (lg_sl ([.ref j, .int p0, .int p1])).length) Slot.unset).toArray = ls at hl ⊢
  have hl : lv_has ls 5 [(0, .ref j), (1, .int p0), (2, .int p1)] := hl
  have q_0 := hts (.fieldLink RX0 28 "Cascadecourt$Juggler" "tiredness" "D") (by decide +kernel)
  have in_X0 : ∀ w ∈ wsX00, w ∈ wsX0_tire := by decide +kernel
  have q_1 := hts (.constantDouble RX0 84 (4593671619917905920)) (by decide +kernel)
  have q_2 := hts (.constantDouble RX0 82 (4598175219545276416)) (by decide +kernel)
  refine lv_iload_n hx hb dX0_tire_0 rfl (lv_at hl 1 rfl) ?_
  refine lv_iconst (v := (-1)) hx hb dX0_tire_1 (by decide) ?_
  refine lv_icmp_ne (tgt := 16) hx hb dX0_tire_2 (by decide) (fun c_2 => ?_) (fun c_2 => ?_)
  · refine lv_aload_n hx hb dX0_tire_16 rfl (lv_at hl 0 rfl) ?_
    refine va_get (D := (dC, dI)) (ci := 0) (v := .double σ.2.2.2.2.2.2.2) (C := RX0) (T := TX0) (N := 8) hx hb hts in_X0 hown hK hP 0 rfl rfl 7 (by decide) q_0 (fun _ h9 => h9) rfl dX0_tire_17 ?_
    refine lv_iload_n hx hb dX0_tire_20 rfl (lv_at hl 2 rfl) ?_
    refine lv_i2d hx hb dX0_tire_21 ?_
    refine lv_ldc2d hx hb hown q_1 dX0_tire_22 ?_
    refine lv_dmul hx hb dX0_tire_25 hT.2.1 ?_
    refine lv_dadd hx hb dX0_tire_26 hT.2.2 ?_
    refine lv_dstore_n (lv' := [(3, .double (FP.dadd σ.2.2.2.2.2.2.2 (FP.dmul (FP.i2d p1) 4593671619917905920))), (0, .ref j), (1, .int p0), (2, .int p1)]) hx hb dX0_tire_27 rfl hl (by decide) rfl (fun ls hl => ?_)
    refine lv_aload_n hx hb dX0_tire_28 rfl (lv_at hl 1 rfl) ?_
    refine lv_dload_n hx hb dX0_tire_29 rfl (lv_at hl 0 rfl) ?_
    refine lv_dconst0 hx hb dX0_tire_30 ?_
    refine lv_dcmp hx hb dX0_tire_31 ?_
    refine lv_if_ge (tgt := 39) hx hb dX0_tire_32 (by decide) (fun c_32 => ?_) (fun c_32 => ?_)
    · refine lv_dload_n hx hb dX0_tire_39 rfl (lv_at hl 0 rfl) ?_
      refine va_put (D := (dC, dI)) (ci := 0) (v := .double (FP.dadd σ.2.2.2.2.2.2.2 (FP.dmul (FP.i2d p1) 4593671619917905920))) (ty := .double) (C := RX0) (T := TX0) (N := 8) hx hb hts in_X0 tyX0 tyX0_ok nmX0 hown hK hP hD hS 0 rfl rfl 7 (by decide) q_0 (fun _ h9 => h9) rfl (by decide +kernel) rfl rfl (Nat.le_of_ble_eq_true rfl) dX0_tire_40 (fun H locs hP hD hS => ?_)
      have hP : va_P (dC, dI) vwCl [(j, .inr (0, [.ref a1, .ref a2, .ref a3, .int σ.2.2.2.1, .int σ.2.2.2.2.1, .int σ.2.2.2.2.2.1, .int σ.2.2.2.2.2.2.1, .double (FP.dadd σ.2.2.2.2.2.2.2 (FP.dmul (FP.i2d p1) 4593671619917905920))])), (a1, .inl (cI, 6, .inl σ.1)), (a2, .inl (cI, 6, .inl σ.2.1)), (a3, .inl (cI, 6, .inl σ.2.2.1))] H := hP
      have hD : va_D A [(j, .inr (0, [.ref a1, .ref a2, .ref a3, .int σ.2.2.2.1, .int σ.2.2.2.2.1, .int σ.2.2.2.2.2.1, .int σ.2.2.2.2.2.2.1, .double (FP.dadd σ.2.2.2.2.2.2.2 (FP.dmul (FP.i2d p1) 4593671619917905920))])), (a1, .inl (cI, 6, .inl σ.1)), (a2, .inl (cI, 6, .inl σ.2.1)), (a3, .inl (cI, 6, .inl σ.2.2.1))] := hD
      have e9 : S_X0_tire σ p0 p1 = (σ.1, σ.2.1, σ.2.2.1, σ.2.2.2.1, σ.2.2.2.2.1, σ.2.2.2.2.2.1, σ.2.2.2.2.2.2.1, FP.dadd σ.2.2.2.2.2.2.2 (FP.dmul (FP.i2d p1) 4593671619917905920)) := by simp only [S_X0_tire, if_neg c_2, if_pos c_32]
      exact W.vret hx hb hr (fun t ht hW => ⟨⟨(), rfl, trivial, by rw [ht, e9]; exact hP, hE.warm hW, by rw [e9]; exact hD⟩, hS.F ht⟩) hS.2.2 dX0_tire_43
    · refine lv_dconst0 hx hb dX0_tire_35 ?_
      refine lv_goto (tgt := 40) hx hb dX0_tire_36 (by decide) ?_
      refine va_put (D := (dC, dI)) (ci := 0) (v := .double FP.dconst0) (ty := .double) (C := RX0) (T := TX0) (N := 8) hx hb hts in_X0 tyX0 tyX0_ok nmX0 hown hK hP hD hS 0 rfl rfl 7 (by decide) q_0 (fun _ h9 => h9) rfl (by decide +kernel) rfl rfl (Nat.le_of_ble_eq_true rfl) dX0_tire_40 (fun H locs hP hD hS => ?_)
      have hP : va_P (dC, dI) vwCl [(j, .inr (0, [.ref a1, .ref a2, .ref a3, .int σ.2.2.2.1, .int σ.2.2.2.2.1, .int σ.2.2.2.2.2.1, .int σ.2.2.2.2.2.2.1, .double FP.dconst0])), (a1, .inl (cI, 6, .inl σ.1)), (a2, .inl (cI, 6, .inl σ.2.1)), (a3, .inl (cI, 6, .inl σ.2.2.1))] H := hP
      have hD : va_D A [(j, .inr (0, [.ref a1, .ref a2, .ref a3, .int σ.2.2.2.1, .int σ.2.2.2.2.1, .int σ.2.2.2.2.2.1, .int σ.2.2.2.2.2.2.1, .double FP.dconst0])), (a1, .inl (cI, 6, .inl σ.1)), (a2, .inl (cI, 6, .inl σ.2.1)), (a3, .inl (cI, 6, .inl σ.2.2.1))] := hD
      have e9 : S_X0_tire σ p0 p1 = (σ.1, σ.2.1, σ.2.2.1, σ.2.2.2.1, σ.2.2.2.2.1, σ.2.2.2.2.2.1, σ.2.2.2.2.2.2.1, FP.dconst0) := by simp only [S_X0_tire, if_neg c_2, if_neg c_32]
      exact W.vret hx hb hr (fun t ht hW => ⟨⟨(), rfl, trivial, by rw [ht, e9]; exact hP, hE.warm hW, by rw [e9]; exact hD⟩, hS.F ht⟩) hS.2.2 dX0_tire_43
  · refine lv_aload_n hx hb dX0_tire_5 rfl (lv_at hl 0 rfl) ?_
    refine va_get (D := (dC, dI)) (ci := 0) (v := .double σ.2.2.2.2.2.2.2) (C := RX0) (T := TX0) (N := 8) hx hb hts in_X0 hown hK hP 0 rfl rfl 7 (by decide) q_0 (fun _ h9 => h9) rfl dX0_tire_6 ?_
    refine lv_ldc2d hx hb hown q_2 dX0_tire_9 ?_
    refine lv_dsub hx hb dX0_tire_12 hT.1 ?_
    refine lv_goto (tgt := 27) hx hb dX0_tire_13 (by decide) ?_
    refine lv_dstore_n (lv' := [(3, .double (FP.dsub σ.2.2.2.2.2.2.2 4598175219545276416)), (0, .ref j), (1, .int p0), (2, .int p1)]) hx hb dX0_tire_27 rfl hl (by decide) rfl (fun ls hl => ?_)
    refine lv_aload_n hx hb dX0_tire_28 rfl (lv_at hl 1 rfl) ?_
    refine lv_dload_n hx hb dX0_tire_29 rfl (lv_at hl 0 rfl) ?_
    refine lv_dconst0 hx hb dX0_tire_30 ?_
    refine lv_dcmp hx hb dX0_tire_31 ?_
    refine lv_if_ge (tgt := 39) hx hb dX0_tire_32 (by decide) (fun c_32 => ?_) (fun c_32 => ?_)
    · refine lv_dload_n hx hb dX0_tire_39 rfl (lv_at hl 0 rfl) ?_
      refine va_put (D := (dC, dI)) (ci := 0) (v := .double (FP.dsub σ.2.2.2.2.2.2.2 4598175219545276416)) (ty := .double) (C := RX0) (T := TX0) (N := 8) hx hb hts in_X0 tyX0 tyX0_ok nmX0 hown hK hP hD hS 0 rfl rfl 7 (by decide) q_0 (fun _ h9 => h9) rfl (by decide +kernel) rfl rfl (Nat.le_of_ble_eq_true rfl) dX0_tire_40 (fun H locs hP hD hS => ?_)
      have hP : va_P (dC, dI) vwCl [(j, .inr (0, [.ref a1, .ref a2, .ref a3, .int σ.2.2.2.1, .int σ.2.2.2.2.1, .int σ.2.2.2.2.2.1, .int σ.2.2.2.2.2.2.1, .double (FP.dsub σ.2.2.2.2.2.2.2 4598175219545276416)])), (a1, .inl (cI, 6, .inl σ.1)), (a2, .inl (cI, 6, .inl σ.2.1)), (a3, .inl (cI, 6, .inl σ.2.2.1))] H := hP
      have hD : va_D A [(j, .inr (0, [.ref a1, .ref a2, .ref a3, .int σ.2.2.2.1, .int σ.2.2.2.2.1, .int σ.2.2.2.2.2.1, .int σ.2.2.2.2.2.2.1, .double (FP.dsub σ.2.2.2.2.2.2.2 4598175219545276416)])), (a1, .inl (cI, 6, .inl σ.1)), (a2, .inl (cI, 6, .inl σ.2.1)), (a3, .inl (cI, 6, .inl σ.2.2.1))] := hD
      have e9 : S_X0_tire σ p0 p1 = (σ.1, σ.2.1, σ.2.2.1, σ.2.2.2.1, σ.2.2.2.2.1, σ.2.2.2.2.2.1, σ.2.2.2.2.2.2.1, FP.dsub σ.2.2.2.2.2.2.2 4598175219545276416) := by simp only [S_X0_tire, if_pos c_2, if_pos c_32]
      exact W.vret hx hb hr (fun t ht hW => ⟨⟨(), rfl, trivial, by rw [ht, e9]; exact hP, hE.warm hW, by rw [e9]; exact hD⟩, hS.F ht⟩) hS.2.2 dX0_tire_43
    · refine lv_dconst0 hx hb dX0_tire_35 ?_
      refine lv_goto (tgt := 40) hx hb dX0_tire_36 (by decide) ?_
      refine va_put (D := (dC, dI)) (ci := 0) (v := .double FP.dconst0) (ty := .double) (C := RX0) (T := TX0) (N := 8) hx hb hts in_X0 tyX0 tyX0_ok nmX0 hown hK hP hD hS 0 rfl rfl 7 (by decide) q_0 (fun _ h9 => h9) rfl (by decide +kernel) rfl rfl (Nat.le_of_ble_eq_true rfl) dX0_tire_40 (fun H locs hP hD hS => ?_)
      have hP : va_P (dC, dI) vwCl [(j, .inr (0, [.ref a1, .ref a2, .ref a3, .int σ.2.2.2.1, .int σ.2.2.2.2.1, .int σ.2.2.2.2.2.1, .int σ.2.2.2.2.2.2.1, .double FP.dconst0])), (a1, .inl (cI, 6, .inl σ.1)), (a2, .inl (cI, 6, .inl σ.2.1)), (a3, .inl (cI, 6, .inl σ.2.2.1))] H := hP
      have hD : va_D A [(j, .inr (0, [.ref a1, .ref a2, .ref a3, .int σ.2.2.2.1, .int σ.2.2.2.2.1, .int σ.2.2.2.2.2.1, .int σ.2.2.2.2.2.2.1, .double FP.dconst0])), (a1, .inl (cI, 6, .inl σ.1)), (a2, .inl (cI, 6, .inl σ.2.1)), (a3, .inl (cI, 6, .inl σ.2.2.1))] := hD
      have e9 : S_X0_tire σ p0 p1 = (σ.1, σ.2.1, σ.2.2.1, σ.2.2.2.1, σ.2.2.2.2.1, σ.2.2.2.2.2.1, σ.2.2.2.2.2.2.1, FP.dconst0) := by simp only [S_X0_tire, if_pos c_2, if_neg c_32]
      exact W.vret hx hb hr (fun t ht hW => ⟨⟨(), rfl, trivial, by rw [ht, e9]; exact hP, hE.warm hW, by rw [e9]; exact hD⟩, hS.F ht⟩) hS.2.2 dX0_tire_43
theorem t_dropProp (σ : JS) (p : Int32) : (S_X0_dropProp σ p).2.2.2.2.2.2.2 = σ.2.2.2.2.2.2.2 := by
  simp only [S_X0_dropProp]; split <;> rfl
theorem t_slip (σ : JS) (p : Int32) : (S_X0_slip σ p).2.2.2.2.2.2.2 = σ.2.2.2.2.2.2.2 := by
  simp only [S_X0_slip]; repeat' split
  all_goals first | rfl | (simp only [t_dropProp])
theorem t_sendUp (σ : JS) (p q : Int32) : (S_X0_sendUp σ p q).2.2.2.2.2.2.2 = σ.2.2.2.2.2.2.2 := by
  simp only [S_X0_sendUp]; split <;> rfl
def S_X0_throwNow (σ : JS) (p0 : Int32) : Int32 × JS := (if (S_X3_stateBehind (S_X0_state σ) p0) = (-1) then ((-1), ((S_X0_tire (S_X0_slip σ p0) (-1) p0).1, (S_X0_tire (S_X0_slip σ p0) (-1) p0).2.1, (S_X0_tire (S_X0_slip σ p0) (-1) p0).2.2.1, (S_X0_tire (S_X0_slip σ p0) (-1) p0).2.2.2.1, ((S_X0_tire (S_X0_slip σ p0) (-1) p0).2.2.2.2.1) + 1, (S_X0_tire (S_X0_slip σ p0) (-1) p0).2.2.2.2.2.1, ((S_X0_tire (S_X0_slip σ p0) (-1) p0).2.2.2.2.2.2.1) + 1, (S_X0_tire (S_X0_slip σ p0) (-1) p0).2.2.2.2.2.2.2)) else (S_X0_propLandingIn σ 0, ((S_X0_tire (S_X0_sendUp σ (S_X0_propLandingIn σ 0) p0) (S_X0_propLandingIn σ 0) p0).1, (S_X0_tire (S_X0_sendUp σ (S_X0_propLandingIn σ 0) p0) (S_X0_propLandingIn σ 0) p0).2.1, (S_X0_tire (S_X0_sendUp σ (S_X0_propLandingIn σ 0) p0) (S_X0_propLandingIn σ 0) p0).2.2.1, (S_X0_tire (S_X0_sendUp σ (S_X0_propLandingIn σ 0) p0) (S_X0_propLandingIn σ 0) p0).2.2.2.1, ((S_X0_tire (S_X0_sendUp σ (S_X0_propLandingIn σ 0) p0) (S_X0_propLandingIn σ 0) p0).2.2.2.2.1) + 1, (S_X0_tire (S_X0_sendUp σ (S_X0_propLandingIn σ 0) p0) (S_X0_propLandingIn σ 0) p0).2.2.2.2.2.1, ((S_X0_tire (S_X0_sendUp σ (S_X0_propLandingIn σ 0) p0) (S_X0_propLandingIn σ 0) p0).2.2.2.2.2.2.1) + 1, (S_X0_tire (S_X0_sendUp σ (S_X0_propLandingIn σ 0) p0) (S_X0_propLandingIn σ 0) p0).2.2.2.2.2.2.2)))
set_option maxHeartbeats 4000000 in
set_option maxRecDepth 100000 in
theorem c_X0_throwNow (l : Launch) (dC : Nat → ClassId) (dI : Nat → Nat → Nat) (cI cR : ClassId) (sz : Nat) (j a1 a2 a3 : Nat) (σ : JS) (p0 : Int32) (hT : tOK σ.2.2.2.2.2.2.2 p0) : Met l yX0_throwNow wsX0_throwNow ({ frames := 4, cells := 0, slots := 0, locals := 88 }) (va_Pc [.ref j, .int p0] (fun U => U.heap.size = sz ∧ va_P (dC, dI) vwCl (wJ cI j a1 a2 a3 σ) U.heap ∧ cE (dC, dI) cI cR U ∧ va_D (fun _ => True) (wJ cI j a1 a2 a3 σ))) (va_Qi (fun (r : Int32) (_ : Unit) => r = (S_X0_throwNow σ p0).1) (fun (_ : Unit) t => va_P (dC, dI) vwCl (wJ cI j a1 a2 a3 ((S_X0_throwNow σ p0).2)) t.heap ∧ cE (dC, dI) cI cR t ∧ va_D (va_A (wJ cI j a1 a2 a3 σ) sz) (wJ cI j a1 a2 a3 ((S_X0_throwNow σ p0).2))) (va_A (wJ cI j a1 a2 a3 σ) sz)) 0 0 (va_A (wJ cI j a1 a2 a3 σ) sz) := by
  refine Met.ofW (cc := cX0_throwNow) (maxL := 3) (ret := (some .int)) (by decide) rfl ?_
  intro p e s m args below meth c s₁ B hml hv
  obtain ⟨rfl, hsz, hP, hE, hD0⟩ := hv
  have hK := hE.1
  have hx := B.exec
  have hb := B.bytes
  have hr := B.returns
  have hts := atoms_spec (ws := wsX0_throwNow) B.pre
  have hown : s.vm.findClass RX0 = some m.cls := findClass_of_methodNamed B.named
  have hlocks := B.notSynchronized
  subst hsz
  have hD := hD0.self (sz := s.heap.size)
  generalize hAe : va_A (wJ cI j a1 a2 a3 σ) s.heap.size = A at hD ⊢
  have hA : ∀ q : Nat, s.heap.size ≤ q → A q := fun q h => by rw [← hAe]; exact Or.inr h
  have hS : va_S A s.heap s.heap [] := va_S.rf
  have hP : va_P (dC, dI) vwCl [(j, .inr (0, [.ref a1, .ref a2, .ref a3, .int σ.2.2.2.1, .int σ.2.2.2.2.1, .int σ.2.2.2.2.2.1, .int σ.2.2.2.2.2.2.1, .double σ.2.2.2.2.2.2.2])), (a1, .inl (cI, 6, .inl σ.1)), (a2, .inl (cI, 6, .inl σ.2.1)), (a3, .inl (cI, 6, .inl σ.2.2.1))] s.heap := hP
  have hD : va_D A [(j, .inr (0, [.ref a1, .ref a2, .ref a3, .int σ.2.2.2.1, .int σ.2.2.2.2.1, .int σ.2.2.2.2.2.1, .int σ.2.2.2.2.2.2.1, .double σ.2.2.2.2.2.2.2])), (a1, .inl (cI, 6, .inl σ.1)), (a2, .inl (cI, 6, .inl σ.2.1)), (a3, .inl (cI, 6, .inl σ.2.2.1))] := hD
  have hl := lv_entry ([.ref j, .int p0]) (n := 3) (Nat.le_of_ble_eq_true rfl)
  rw [lg_entry_eq]
  generalize (lg_sl ([.ref j, .int p0]) ++ List.replicate (3 - (lg_sl ([.ref j, .int p0])).length) Slot.unset).toArray = ls at hl ⊢
  have hl : lv_has ls 3 [(0, .ref j), (1, .int p0)] := hl
  have q_0 := hts (.initialized RX3) (by decide +kernel)
  have q_1 := hts (.static yX3_stateBehind) (by decide +kernel)
  have q_2 := hts (.fieldLink RX0 25 "Cascadecourt$Juggler" "beat" "I") (by decide +kernel)
  have in_X0 : ∀ w ∈ wsX00, w ∈ wsX0_throwNow := by decide +kernel
  have q_3 := hts (.fieldLink RX0 39 "Cascadecourt$Juggler" "beatsEver" "I") (by decide +kernel)
  refine lv_iconst (v := (-1)) hx hb dX0_throwNow_0 (by decide) ?_
  refine lv_istore_n (lv' := [(2, .int (-1)), (0, .ref j), (1, .int p0)]) hx hb dX0_throwNow_1 rfl hl (by decide) rfl (fun ls hl => ?_)
  refine lv_aload_n hx hb dX0_throwNow_2 rfl (lv_at hl 1 rfl) ?_
  refine vp_callSi (va_Run.run (va_runV (As := []) (rest := []) ⟨hx, hb, hml, hown, hts⟩ (c_X0_state l dC dI cI cR j a1 a2 a3 σ) (cwV 0 hts gX0_throwNow_X0_state rfl rfl rfl (by decide +kernel) ⟨Nat.le_of_ble_eq_true rfl, Nat.le_of_ble_eq_true rfl⟩) ⟨fun a U g mk q => by obtain ⟨q0, qP, qE⟩ := q; exact ⟨q0, qP, cE.same (s := U) rfl qE⟩, va_recv hK hP (ci := 0) (q0 := 0) rfl rfl, fun U hU hW => ⟨rfl, by rw [hU]; exact hP.sub (ws' := (wJ cI j a1 a2 a3 σ)) [0, 1, 2, 3] rfl, hE.warm hW⟩⟩ rfl rfl hl.1 rfl (lv_room (Nat.le_of_ble_eq_true rfl)) dX0_throwNow_3 ⟨Nat.zero_le _, Nat.zero_le _⟩)) (fun r_3 h_3 => ?_)
  subst h_3
  refine lv_iload_n hx hb dX0_throwNow_6 rfl (lv_at hl 2 rfl) ?_
  refine vp_callSi (va_Run.run (va_runSN (As := [.int (S_X0_state σ), .int p0]) (rest := []) ⟨hx, hb, hml, hown, hts⟩ (c_X3_stateBehind l (S_X0_state σ) p0) ⟨va_cnB 2 hts gX0_throwNow_X3_stateBehind_n61 rfl rfl rfl (hE.2 (.methodLinkNest RX0 61 yX3_stateBehind "Cascadecourt") (by decide +kernel)) q_0 (by decide +kernel) ⟨Nat.le_of_ble_eq_true rfl, Nat.le_of_ble_eq_true rfl⟩, q_1, trivial⟩ ⟨fun a U g mk q => q, fun U hU hW => ⟨rfl, trivial⟩⟩ rfl rfl hl.1 rfl (lv_room (Nat.le_of_ble_eq_true rfl)) dX0_throwNow_7 ⟨Nat.zero_le _, Nat.zero_le _⟩)) (fun r_7 h_7 => ?_)
  subst h_7
  refine lv_iconst (v := (-1)) hx hb dX0_throwNow_10 (by decide) ?_
  refine lv_icmp_ne (tgt := 22) hx hb dX0_throwNow_11 (by decide) (fun c_11 => ?_) (fun c_11 => ?_)
  · refine lv_aload_n hx hb dX0_throwNow_22 rfl (lv_at hl 1 rfl) ?_
    refine lv_iconst (v := 0) hx hb dX0_throwNow_23 (by decide) ?_
    refine vp_callSi (va_Run.run (va_runV (As := [.int 0]) (rest := []) ⟨hx, hb, hml, hown, hts⟩ (c_X0_propLandingIn l dC dI cI cR j a1 a2 a3 σ 0) (cwV 1 hts gX0_throwNow_X0_propLandingIn rfl rfl rfl (by decide +kernel) ⟨Nat.le_of_ble_eq_true rfl, Nat.le_of_ble_eq_true rfl⟩) ⟨fun a U g mk q => by obtain ⟨q0, qP, qE⟩ := q; exact ⟨q0, qP, cE.same (s := U) rfl qE⟩, va_recv hK hP (ci := 0) (q0 := 0) rfl rfl, fun U hU hW => ⟨rfl, by rw [hU]; exact hP.sub (ws' := (wJ cI j a1 a2 a3 σ)) [0, 1, 2, 3] rfl, hE.warm hW⟩⟩ rfl rfl hl.1 rfl (lv_room (Nat.le_of_ble_eq_true rfl)) dX0_throwNow_24 ⟨Nat.zero_le _, Nat.zero_le _⟩)) (fun r_24 h_24 => ?_)
    subst h_24
    refine lv_istore_n (lv' := [(2, .int (S_X0_propLandingIn σ 0)), (0, .ref j), (1, .int p0)]) hx hb dX0_throwNow_27 rfl hl (by decide) rfl (fun ls hl => ?_)
    refine lv_aload_n hx hb dX0_throwNow_28 rfl (lv_at hl 1 rfl) ?_
    refine lv_iload_n hx hb dX0_throwNow_29 rfl (lv_at hl 0 rfl) ?_
    refine lv_iload_n hx hb dX0_throwNow_30 rfl (lv_at hl 2 rfl) ?_
    have hPc := hP.sub (ws' := (wJ cI j a1 a2 a3 σ)) [0, 1, 2, 3] rfl
    have hDc := hD.sub (ws' := (wJ cI j a1 a2 a3 σ)) [0, 1, 2, 3] (by decide) rfl
    have hFc := va_free (wc := (wJ cI j a1 a2 a3 σ)) hD hS hA [0, 1, 2, 3] rfl
    refine va_callv (va_runV (As := [.int (S_X0_propLandingIn σ 0), .int p0]) (rest := []) ⟨hx, hb, hml, hown, hts⟩ (c_X0_sendUp l dC dI cI cR _ j a1 a2 a3 σ (S_X0_propLandingIn σ 0) p0) (cwV 2 hts gX0_throwNow_X0_sendUp rfl rfl rfl (by decide +kernel) ⟨Nat.le_of_ble_eq_true rfl, Nat.le_of_ble_eq_true rfl⟩) ⟨fun a U g mk q => by obtain ⟨q0, q1, qP, qE, qD⟩ := q; exact ⟨q0, q1, qP, cE.same (s := U) rfl qE, qD⟩, va_recv hK hP (ci := 0) (q0 := 0) rfl rfl, fun U hU hW => ⟨rfl, by rw [hU], by rw [hU]; exact hPc, hE.warm hW, hDc.weaken (fun _ _ _ _ => trivial)⟩⟩ rfl rfl hl.1 rfl (lv_room (Nat.le_of_ble_eq_true rfl)) dX0_throwNow_31 ⟨Nat.zero_le _, Nat.zero_le _⟩) hS (fun q _ h => hFc q h) hFc (fun u t H1 locs ht hvm h_31 hB hz1 hk1 hS => ?_)
    obtain ⟨hP1, -, hD1⟩ := hB
    rw [ht] at hP1
    obtain ⟨hP, hD⟩ := va_join (wr := []) (w1 := (wJ cI j a1 a2 a3 (S_X0_sendUp σ (S_X0_propLandingIn σ 0) p0))) hP hD [0, 1, 2, 3] [] rfl rfl (by decide) (by decide) hk1 hFc hP1 hD1
    have hP := hP.sub (ws' := [(j, .inr (0, [.ref a1, .ref a2, .ref a3, .int ((S_X0_sendUp σ (S_X0_propLandingIn σ 0) p0).2.2.2.1), .int ((S_X0_sendUp σ (S_X0_propLandingIn σ 0) p0).2.2.2.2.1), .int ((S_X0_sendUp σ (S_X0_propLandingIn σ 0) p0).2.2.2.2.2.1), .int ((S_X0_sendUp σ (S_X0_propLandingIn σ 0) p0).2.2.2.2.2.2.1), .double ((S_X0_sendUp σ (S_X0_propLandingIn σ 0) p0).2.2.2.2.2.2.2)])), (a1, .inl (cI, 6, .inl ((S_X0_sendUp σ (S_X0_propLandingIn σ 0) p0).1))), (a2, .inl (cI, 6, .inl ((S_X0_sendUp σ (S_X0_propLandingIn σ 0) p0).2.1))), (a3, .inl (cI, 6, .inl ((S_X0_sendUp σ (S_X0_propLandingIn σ 0) p0).2.2.1)))]) [0, 1, 2, 3] rfl
    have hD := hD.sub (ws' := [(j, .inr (0, [.ref a1, .ref a2, .ref a3, .int ((S_X0_sendUp σ (S_X0_propLandingIn σ 0) p0).2.2.2.1), .int ((S_X0_sendUp σ (S_X0_propLandingIn σ 0) p0).2.2.2.2.1), .int ((S_X0_sendUp σ (S_X0_propLandingIn σ 0) p0).2.2.2.2.2.1), .int ((S_X0_sendUp σ (S_X0_propLandingIn σ 0) p0).2.2.2.2.2.2.1), .double ((S_X0_sendUp σ (S_X0_propLandingIn σ 0) p0).2.2.2.2.2.2.2)])), (a1, .inl (cI, 6, .inl ((S_X0_sendUp σ (S_X0_propLandingIn σ 0) p0).1))), (a2, .inl (cI, 6, .inl ((S_X0_sendUp σ (S_X0_propLandingIn σ 0) p0).2.1))), (a3, .inl (cI, 6, .inl ((S_X0_sendUp σ (S_X0_propLandingIn σ 0) p0).2.2.1)))]) [0, 1, 2, 3] (by decide) rfl
    clear hPc hDc hP1 hD1 hk1 hFc hz1 ht hvm
    generalize H1 = H at hP hS ⊢
    refine lv_aload_n hx hb dX0_throwNow_34 rfl (lv_at hl 1 rfl) ?_
    refine lv_iload_n hx hb dX0_throwNow_35 rfl (lv_at hl 0 rfl) ?_
    refine lv_iload_n hx hb dX0_throwNow_36 rfl (lv_at hl 2 rfl) ?_
    have hPc := hP.sub (ws' := (wJ cI j a1 a2 a3 (S_X0_sendUp σ (S_X0_propLandingIn σ 0) p0))) [0, 1, 2, 3] rfl
    have hDc := hD.sub (ws' := (wJ cI j a1 a2 a3 (S_X0_sendUp σ (S_X0_propLandingIn σ 0) p0))) [0, 1, 2, 3] (by decide) rfl
    have hFc := va_free (wc := (wJ cI j a1 a2 a3 (S_X0_sendUp σ (S_X0_propLandingIn σ 0) p0))) hD hS hA [0, 1, 2, 3] rfl
    refine va_callv (va_runV (As := [.int (S_X0_propLandingIn σ 0), .int p0]) (rest := []) ⟨hx, hb, hml, hown, hts⟩ (c_X0_tire l dC dI cI cR _ j a1 a2 a3 (S_X0_sendUp σ (S_X0_propLandingIn σ 0) p0) (S_X0_propLandingIn σ 0) p0 (by first | (rw [t_slip]; exact hT) | (rw [t_sendUp]; exact hT))) (cwV 2 hts gX0_throwNow_X0_tire rfl rfl rfl (by decide +kernel) ⟨Nat.le_of_ble_eq_true rfl, Nat.le_of_ble_eq_true rfl⟩) ⟨fun a U g mk q => by obtain ⟨q0, q1, qP, qE, qD⟩ := q; exact ⟨q0, q1, qP, cE.same (s := U) rfl qE, qD⟩, va_recv hK hP (ci := 0) (q0 := 0) rfl rfl, fun U hU hW => ⟨rfl, by rw [hU], by rw [hU]; exact hPc, hE.warm hW, hDc.weaken (fun _ _ _ _ => trivial)⟩⟩ rfl rfl hl.1 rfl (lv_room (Nat.le_of_ble_eq_true rfl)) dX0_throwNow_37 ⟨Nat.zero_le _, Nat.zero_le _⟩) hS (fun q _ h => hFc q h) hFc (fun u t H1 locs ht hvm h_37 hB hz1 hk1 hS => ?_)
    obtain ⟨hP1, -, hD1⟩ := hB
    rw [ht] at hP1
    obtain ⟨hP, hD⟩ := va_join (wr := []) (w1 := (wJ cI j a1 a2 a3 (S_X0_tire (S_X0_sendUp σ (S_X0_propLandingIn σ 0) p0) (S_X0_propLandingIn σ 0) p0))) hP hD [0, 1, 2, 3] [] rfl rfl (by decide) (by decide) hk1 hFc hP1 hD1
    have hP := hP.sub (ws' := [(j, .inr (0, [.ref a1, .ref a2, .ref a3, .int ((S_X0_tire (S_X0_sendUp σ (S_X0_propLandingIn σ 0) p0) (S_X0_propLandingIn σ 0) p0).2.2.2.1), .int ((S_X0_tire (S_X0_sendUp σ (S_X0_propLandingIn σ 0) p0) (S_X0_propLandingIn σ 0) p0).2.2.2.2.1), .int ((S_X0_tire (S_X0_sendUp σ (S_X0_propLandingIn σ 0) p0) (S_X0_propLandingIn σ 0) p0).2.2.2.2.2.1), .int ((S_X0_tire (S_X0_sendUp σ (S_X0_propLandingIn σ 0) p0) (S_X0_propLandingIn σ 0) p0).2.2.2.2.2.2.1), .double ((S_X0_tire (S_X0_sendUp σ (S_X0_propLandingIn σ 0) p0) (S_X0_propLandingIn σ 0) p0).2.2.2.2.2.2.2)])), (a1, .inl (cI, 6, .inl ((S_X0_tire (S_X0_sendUp σ (S_X0_propLandingIn σ 0) p0) (S_X0_propLandingIn σ 0) p0).1))), (a2, .inl (cI, 6, .inl ((S_X0_tire (S_X0_sendUp σ (S_X0_propLandingIn σ 0) p0) (S_X0_propLandingIn σ 0) p0).2.1))), (a3, .inl (cI, 6, .inl ((S_X0_tire (S_X0_sendUp σ (S_X0_propLandingIn σ 0) p0) (S_X0_propLandingIn σ 0) p0).2.2.1)))]) [0, 1, 2, 3] rfl
    have hD := hD.sub (ws' := [(j, .inr (0, [.ref a1, .ref a2, .ref a3, .int ((S_X0_tire (S_X0_sendUp σ (S_X0_propLandingIn σ 0) p0) (S_X0_propLandingIn σ 0) p0).2.2.2.1), .int ((S_X0_tire (S_X0_sendUp σ (S_X0_propLandingIn σ 0) p0) (S_X0_propLandingIn σ 0) p0).2.2.2.2.1), .int ((S_X0_tire (S_X0_sendUp σ (S_X0_propLandingIn σ 0) p0) (S_X0_propLandingIn σ 0) p0).2.2.2.2.2.1), .int ((S_X0_tire (S_X0_sendUp σ (S_X0_propLandingIn σ 0) p0) (S_X0_propLandingIn σ 0) p0).2.2.2.2.2.2.1), .double ((S_X0_tire (S_X0_sendUp σ (S_X0_propLandingIn σ 0) p0) (S_X0_propLandingIn σ 0) p0).2.2.2.2.2.2.2)])), (a1, .inl (cI, 6, .inl ((S_X0_tire (S_X0_sendUp σ (S_X0_propLandingIn σ 0) p0) (S_X0_propLandingIn σ 0) p0).1))), (a2, .inl (cI, 6, .inl ((S_X0_tire (S_X0_sendUp σ (S_X0_propLandingIn σ 0) p0) (S_X0_propLandingIn σ 0) p0).2.1))), (a3, .inl (cI, 6, .inl ((S_X0_tire (S_X0_sendUp σ (S_X0_propLandingIn σ 0) p0) (S_X0_propLandingIn σ 0) p0).2.2.1)))]) [0, 1, 2, 3] (by decide) rfl
    clear hPc hDc hP1 hD1 hk1 hFc hz1 ht hvm
    generalize H1 = H at hP hS ⊢
    refine lv_aload_n hx hb dX0_throwNow_40 rfl (lv_at hl 1 rfl) ?_
    refine lv_dup hx hb dX0_throwNow_41 rfl ?_
    refine va_get (D := (dC, dI)) (ci := 0) (v := .int ((S_X0_tire (S_X0_sendUp σ (S_X0_propLandingIn σ 0) p0) (S_X0_propLandingIn σ 0) p0).2.2.2.2.1)) (C := RX0) (T := TX0) (N := 8) hx hb hts in_X0 hown hK hP 0 rfl rfl 4 (by decide) q_2 (fun _ h9 => h9) rfl dX0_throwNow_42 ?_
    refine lv_iconst (v := 1) hx hb dX0_throwNow_45 (by decide) ?_
    refine lv_iadd hx hb dX0_throwNow_46 ?_
    refine va_put (D := (dC, dI)) (ci := 0) (v := .int (((S_X0_tire (S_X0_sendUp σ (S_X0_propLandingIn σ 0) p0) (S_X0_propLandingIn σ 0) p0).2.2.2.2.1) + 1)) (ty := .int) (C := RX0) (T := TX0) (N := 8) hx hb hts in_X0 tyX0 tyX0_ok nmX0 hown hK hP hD hS 0 rfl rfl 4 (by decide) q_2 (fun _ h9 => h9) rfl (by decide +kernel) rfl rfl (Nat.le_of_ble_eq_true rfl) dX0_throwNow_47 (fun H locs hP hD hS => ?_)
    have hP : va_P (dC, dI) vwCl [(j, .inr (0, [.ref a1, .ref a2, .ref a3, .int ((S_X0_tire (S_X0_sendUp σ (S_X0_propLandingIn σ 0) p0) (S_X0_propLandingIn σ 0) p0).2.2.2.1), .int (((S_X0_tire (S_X0_sendUp σ (S_X0_propLandingIn σ 0) p0) (S_X0_propLandingIn σ 0) p0).2.2.2.2.1) + 1), .int ((S_X0_tire (S_X0_sendUp σ (S_X0_propLandingIn σ 0) p0) (S_X0_propLandingIn σ 0) p0).2.2.2.2.2.1), .int ((S_X0_tire (S_X0_sendUp σ (S_X0_propLandingIn σ 0) p0) (S_X0_propLandingIn σ 0) p0).2.2.2.2.2.2.1), .double ((S_X0_tire (S_X0_sendUp σ (S_X0_propLandingIn σ 0) p0) (S_X0_propLandingIn σ 0) p0).2.2.2.2.2.2.2)])), (a1, .inl (cI, 6, .inl ((S_X0_tire (S_X0_sendUp σ (S_X0_propLandingIn σ 0) p0) (S_X0_propLandingIn σ 0) p0).1))), (a2, .inl (cI, 6, .inl ((S_X0_tire (S_X0_sendUp σ (S_X0_propLandingIn σ 0) p0) (S_X0_propLandingIn σ 0) p0).2.1))), (a3, .inl (cI, 6, .inl ((S_X0_tire (S_X0_sendUp σ (S_X0_propLandingIn σ 0) p0) (S_X0_propLandingIn σ 0) p0).2.2.1)))] H := hP
    have hD : va_D A [(j, .inr (0, [.ref a1, .ref a2, .ref a3, .int ((S_X0_tire (S_X0_sendUp σ (S_X0_propLandingIn σ 0) p0) (S_X0_propLandingIn σ 0) p0).2.2.2.1), .int (((S_X0_tire (S_X0_sendUp σ (S_X0_propLandingIn σ 0) p0) (S_X0_propLandingIn σ 0) p0).2.2.2.2.1) + 1), .int ((S_X0_tire (S_X0_sendUp σ (S_X0_propLandingIn σ 0) p0) (S_X0_propLandingIn σ 0) p0).2.2.2.2.2.1), .int ((S_X0_tire (S_X0_sendUp σ (S_X0_propLandingIn σ 0) p0) (S_X0_propLandingIn σ 0) p0).2.2.2.2.2.2.1), .double ((S_X0_tire (S_X0_sendUp σ (S_X0_propLandingIn σ 0) p0) (S_X0_propLandingIn σ 0) p0).2.2.2.2.2.2.2)])), (a1, .inl (cI, 6, .inl ((S_X0_tire (S_X0_sendUp σ (S_X0_propLandingIn σ 0) p0) (S_X0_propLandingIn σ 0) p0).1))), (a2, .inl (cI, 6, .inl ((S_X0_tire (S_X0_sendUp σ (S_X0_propLandingIn σ 0) p0) (S_X0_propLandingIn σ 0) p0).2.1))), (a3, .inl (cI, 6, .inl ((S_X0_tire (S_X0_sendUp σ (S_X0_propLandingIn σ 0) p0) (S_X0_propLandingIn σ 0) p0).2.2.1)))] := hD
    refine lv_aload_n hx hb dX0_throwNow_50 rfl (lv_at hl 1 rfl) ?_
    refine lv_dup hx hb dX0_throwNow_51 rfl ?_
    refine va_get (D := (dC, dI)) (ci := 0) (v := .int ((S_X0_tire (S_X0_sendUp σ (S_X0_propLandingIn σ 0) p0) (S_X0_propLandingIn σ 0) p0).2.2.2.2.2.2.1)) (C := RX0) (T := TX0) (N := 8) hx hb hts in_X0 hown hK hP 0 rfl rfl 6 (by decide) q_3 (fun _ h9 => h9) rfl dX0_throwNow_52 ?_
    refine lv_iconst (v := 1) hx hb dX0_throwNow_55 (by decide) ?_
    refine lv_iadd hx hb dX0_throwNow_56 ?_
    refine va_put (D := (dC, dI)) (ci := 0) (v := .int (((S_X0_tire (S_X0_sendUp σ (S_X0_propLandingIn σ 0) p0) (S_X0_propLandingIn σ 0) p0).2.2.2.2.2.2.1) + 1)) (ty := .int) (C := RX0) (T := TX0) (N := 8) hx hb hts in_X0 tyX0 tyX0_ok nmX0 hown hK hP hD hS 0 rfl rfl 6 (by decide) q_3 (fun _ h9 => h9) rfl (by decide +kernel) rfl rfl (Nat.le_of_ble_eq_true rfl) dX0_throwNow_57 (fun H locs hP hD hS => ?_)
    have hP : va_P (dC, dI) vwCl [(j, .inr (0, [.ref a1, .ref a2, .ref a3, .int ((S_X0_tire (S_X0_sendUp σ (S_X0_propLandingIn σ 0) p0) (S_X0_propLandingIn σ 0) p0).2.2.2.1), .int (((S_X0_tire (S_X0_sendUp σ (S_X0_propLandingIn σ 0) p0) (S_X0_propLandingIn σ 0) p0).2.2.2.2.1) + 1), .int ((S_X0_tire (S_X0_sendUp σ (S_X0_propLandingIn σ 0) p0) (S_X0_propLandingIn σ 0) p0).2.2.2.2.2.1), .int (((S_X0_tire (S_X0_sendUp σ (S_X0_propLandingIn σ 0) p0) (S_X0_propLandingIn σ 0) p0).2.2.2.2.2.2.1) + 1), .double ((S_X0_tire (S_X0_sendUp σ (S_X0_propLandingIn σ 0) p0) (S_X0_propLandingIn σ 0) p0).2.2.2.2.2.2.2)])), (a1, .inl (cI, 6, .inl ((S_X0_tire (S_X0_sendUp σ (S_X0_propLandingIn σ 0) p0) (S_X0_propLandingIn σ 0) p0).1))), (a2, .inl (cI, 6, .inl ((S_X0_tire (S_X0_sendUp σ (S_X0_propLandingIn σ 0) p0) (S_X0_propLandingIn σ 0) p0).2.1))), (a3, .inl (cI, 6, .inl ((S_X0_tire (S_X0_sendUp σ (S_X0_propLandingIn σ 0) p0) (S_X0_propLandingIn σ 0) p0).2.2.1)))] H := hP
    have hD : va_D A [(j, .inr (0, [.ref a1, .ref a2, .ref a3, .int ((S_X0_tire (S_X0_sendUp σ (S_X0_propLandingIn σ 0) p0) (S_X0_propLandingIn σ 0) p0).2.2.2.1), .int (((S_X0_tire (S_X0_sendUp σ (S_X0_propLandingIn σ 0) p0) (S_X0_propLandingIn σ 0) p0).2.2.2.2.1) + 1), .int ((S_X0_tire (S_X0_sendUp σ (S_X0_propLandingIn σ 0) p0) (S_X0_propLandingIn σ 0) p0).2.2.2.2.2.1), .int (((S_X0_tire (S_X0_sendUp σ (S_X0_propLandingIn σ 0) p0) (S_X0_propLandingIn σ 0) p0).2.2.2.2.2.2.1) + 1), .double ((S_X0_tire (S_X0_sendUp σ (S_X0_propLandingIn σ 0) p0) (S_X0_propLandingIn σ 0) p0).2.2.2.2.2.2.2)])), (a1, .inl (cI, 6, .inl ((S_X0_tire (S_X0_sendUp σ (S_X0_propLandingIn σ 0) p0) (S_X0_propLandingIn σ 0) p0).1))), (a2, .inl (cI, 6, .inl ((S_X0_tire (S_X0_sendUp σ (S_X0_propLandingIn σ 0) p0) (S_X0_propLandingIn σ 0) p0).2.1))), (a3, .inl (cI, 6, .inl ((S_X0_tire (S_X0_sendUp σ (S_X0_propLandingIn σ 0) p0) (S_X0_propLandingIn σ 0) p0).2.2.1)))] := hD
    refine lv_iload_n hx hb dX0_throwNow_60 rfl (lv_at hl 0 rfl) ?_
    have e9 : S_X0_throwNow σ p0 = (S_X0_propLandingIn σ 0, ((S_X0_tire (S_X0_sendUp σ (S_X0_propLandingIn σ 0) p0) (S_X0_propLandingIn σ 0) p0).1, (S_X0_tire (S_X0_sendUp σ (S_X0_propLandingIn σ 0) p0) (S_X0_propLandingIn σ 0) p0).2.1, (S_X0_tire (S_X0_sendUp σ (S_X0_propLandingIn σ 0) p0) (S_X0_propLandingIn σ 0) p0).2.2.1, (S_X0_tire (S_X0_sendUp σ (S_X0_propLandingIn σ 0) p0) (S_X0_propLandingIn σ 0) p0).2.2.2.1, ((S_X0_tire (S_X0_sendUp σ (S_X0_propLandingIn σ 0) p0) (S_X0_propLandingIn σ 0) p0).2.2.2.2.1) + 1, (S_X0_tire (S_X0_sendUp σ (S_X0_propLandingIn σ 0) p0) (S_X0_propLandingIn σ 0) p0).2.2.2.2.2.1, ((S_X0_tire (S_X0_sendUp σ (S_X0_propLandingIn σ 0) p0) (S_X0_propLandingIn σ 0) p0).2.2.2.2.2.2.1) + 1, (S_X0_tire (S_X0_sendUp σ (S_X0_propLandingIn σ 0) p0) (S_X0_propLandingIn σ 0) p0).2.2.2.2.2.2.2)) := by simp only [S_X0_throwNow, if_neg c_11]
    exact W.iret (v := (S_X0_propLandingIn σ 0)) hx hb hr (fun t ht hW => ⟨⟨(S_X0_propLandingIn σ 0), (), rfl, by rw [e9], by rw [ht, e9]; exact hP, hE.warm hW, by rw [e9]; exact hD⟩, hS.F ht⟩) hS.2.2 dX0_throwNow_61
  · refine lv_aload_n hx hb dX0_throwNow_14 rfl (lv_at hl 1 rfl) ?_
    refine lv_iload_n hx hb dX0_throwNow_15 rfl (lv_at hl 2 rfl) ?_
    have hPc := hP.sub (ws' := (wJ cI j a1 a2 a3 σ)) [0, 1, 2, 3] rfl
    have hDc := hD.sub (ws' := (wJ cI j a1 a2 a3 σ)) [0, 1, 2, 3] (by decide) rfl
    have hFc := va_free (wc := (wJ cI j a1 a2 a3 σ)) hD hS hA [0, 1, 2, 3] rfl
    refine va_callv (va_runV (As := [.int p0]) (rest := []) ⟨hx, hb, hml, hown, hts⟩ (c_X0_slip l dC dI cI cR _ j a1 a2 a3 σ p0) (cwV 1 hts gX0_throwNow_X0_slip rfl rfl rfl (by decide +kernel) ⟨Nat.le_of_ble_eq_true rfl, Nat.le_of_ble_eq_true rfl⟩) ⟨fun a U g mk q => by obtain ⟨q0, q1, qP, qE, qD⟩ := q; exact ⟨q0, q1, qP, cE.same (s := U) rfl qE, qD⟩, va_recv hK hP (ci := 0) (q0 := 0) rfl rfl, fun U hU hW => ⟨rfl, by rw [hU], by rw [hU]; exact hPc, hE.warm hW, hDc.weaken (fun _ _ _ _ => trivial)⟩⟩ rfl rfl hl.1 rfl (lv_room (Nat.le_of_ble_eq_true rfl)) dX0_throwNow_16 ⟨Nat.zero_le _, Nat.zero_le _⟩) hS (fun q _ h => hFc q h) hFc (fun u t H1 locs ht hvm h_16 hB hz1 hk1 hS => ?_)
    obtain ⟨hP1, -, hD1⟩ := hB
    rw [ht] at hP1
    obtain ⟨hP, hD⟩ := va_join (wr := []) (w1 := (wJ cI j a1 a2 a3 (S_X0_slip σ p0))) hP hD [0, 1, 2, 3] [] rfl rfl (by decide) (by decide) hk1 hFc hP1 hD1
    have hP := hP.sub (ws' := [(j, .inr (0, [.ref a1, .ref a2, .ref a3, .int ((S_X0_slip σ p0).2.2.2.1), .int ((S_X0_slip σ p0).2.2.2.2.1), .int ((S_X0_slip σ p0).2.2.2.2.2.1), .int ((S_X0_slip σ p0).2.2.2.2.2.2.1), .double ((S_X0_slip σ p0).2.2.2.2.2.2.2)])), (a1, .inl (cI, 6, .inl ((S_X0_slip σ p0).1))), (a2, .inl (cI, 6, .inl ((S_X0_slip σ p0).2.1))), (a3, .inl (cI, 6, .inl ((S_X0_slip σ p0).2.2.1)))]) [0, 1, 2, 3] rfl
    have hD := hD.sub (ws' := [(j, .inr (0, [.ref a1, .ref a2, .ref a3, .int ((S_X0_slip σ p0).2.2.2.1), .int ((S_X0_slip σ p0).2.2.2.2.1), .int ((S_X0_slip σ p0).2.2.2.2.2.1), .int ((S_X0_slip σ p0).2.2.2.2.2.2.1), .double ((S_X0_slip σ p0).2.2.2.2.2.2.2)])), (a1, .inl (cI, 6, .inl ((S_X0_slip σ p0).1))), (a2, .inl (cI, 6, .inl ((S_X0_slip σ p0).2.1))), (a3, .inl (cI, 6, .inl ((S_X0_slip σ p0).2.2.1)))]) [0, 1, 2, 3] (by decide) rfl
    clear hPc hDc hP1 hD1 hk1 hFc hz1 ht hvm
    generalize H1 = H at hP hS ⊢
    refine lv_goto (tgt := 34) hx hb dX0_throwNow_19 (by decide) ?_
    refine lv_aload_n hx hb dX0_throwNow_34 rfl (lv_at hl 1 rfl) ?_
    refine lv_iload_n hx hb dX0_throwNow_35 rfl (lv_at hl 0 rfl) ?_
    refine lv_iload_n hx hb dX0_throwNow_36 rfl (lv_at hl 2 rfl) ?_
    have hPc := hP.sub (ws' := (wJ cI j a1 a2 a3 (S_X0_slip σ p0))) [0, 1, 2, 3] rfl
    have hDc := hD.sub (ws' := (wJ cI j a1 a2 a3 (S_X0_slip σ p0))) [0, 1, 2, 3] (by decide) rfl
    have hFc := va_free (wc := (wJ cI j a1 a2 a3 (S_X0_slip σ p0))) hD hS hA [0, 1, 2, 3] rfl
    refine va_callv (va_runV (As := [.int (-1), .int p0]) (rest := []) ⟨hx, hb, hml, hown, hts⟩ (c_X0_tire l dC dI cI cR _ j a1 a2 a3 (S_X0_slip σ p0) (-1) p0 (by first | (rw [t_slip]; exact hT) | (rw [t_sendUp]; exact hT))) (cwV 2 hts gX0_throwNow_X0_tire rfl rfl rfl (by decide +kernel) ⟨Nat.le_of_ble_eq_true rfl, Nat.le_of_ble_eq_true rfl⟩) ⟨fun a U g mk q => by obtain ⟨q0, q1, qP, qE, qD⟩ := q; exact ⟨q0, q1, qP, cE.same (s := U) rfl qE, qD⟩, va_recv hK hP (ci := 0) (q0 := 0) rfl rfl, fun U hU hW => ⟨rfl, by rw [hU], by rw [hU]; exact hPc, hE.warm hW, hDc.weaken (fun _ _ _ _ => trivial)⟩⟩ rfl rfl hl.1 rfl (lv_room (Nat.le_of_ble_eq_true rfl)) dX0_throwNow_37 ⟨Nat.zero_le _, Nat.zero_le _⟩) hS (fun q _ h => hFc q h) hFc (fun u t H1 locs ht hvm h_37 hB hz1 hk1 hS => ?_)
    obtain ⟨hP1, -, hD1⟩ := hB
    rw [ht] at hP1
    obtain ⟨hP, hD⟩ := va_join (wr := []) (w1 := (wJ cI j a1 a2 a3 (S_X0_tire (S_X0_slip σ p0) (-1) p0))) hP hD [0, 1, 2, 3] [] rfl rfl (by decide) (by decide) hk1 hFc hP1 hD1
    have hP := hP.sub (ws' := [(j, .inr (0, [.ref a1, .ref a2, .ref a3, .int ((S_X0_tire (S_X0_slip σ p0) (-1) p0).2.2.2.1), .int ((S_X0_tire (S_X0_slip σ p0) (-1) p0).2.2.2.2.1), .int ((S_X0_tire (S_X0_slip σ p0) (-1) p0).2.2.2.2.2.1), .int ((S_X0_tire (S_X0_slip σ p0) (-1) p0).2.2.2.2.2.2.1), .double ((S_X0_tire (S_X0_slip σ p0) (-1) p0).2.2.2.2.2.2.2)])), (a1, .inl (cI, 6, .inl ((S_X0_tire (S_X0_slip σ p0) (-1) p0).1))), (a2, .inl (cI, 6, .inl ((S_X0_tire (S_X0_slip σ p0) (-1) p0).2.1))), (a3, .inl (cI, 6, .inl ((S_X0_tire (S_X0_slip σ p0) (-1) p0).2.2.1)))]) [0, 1, 2, 3] rfl
    have hD := hD.sub (ws' := [(j, .inr (0, [.ref a1, .ref a2, .ref a3, .int ((S_X0_tire (S_X0_slip σ p0) (-1) p0).2.2.2.1), .int ((S_X0_tire (S_X0_slip σ p0) (-1) p0).2.2.2.2.1), .int ((S_X0_tire (S_X0_slip σ p0) (-1) p0).2.2.2.2.2.1), .int ((S_X0_tire (S_X0_slip σ p0) (-1) p0).2.2.2.2.2.2.1), .double ((S_X0_tire (S_X0_slip σ p0) (-1) p0).2.2.2.2.2.2.2)])), (a1, .inl (cI, 6, .inl ((S_X0_tire (S_X0_slip σ p0) (-1) p0).1))), (a2, .inl (cI, 6, .inl ((S_X0_tire (S_X0_slip σ p0) (-1) p0).2.1))), (a3, .inl (cI, 6, .inl ((S_X0_tire (S_X0_slip σ p0) (-1) p0).2.2.1)))]) [0, 1, 2, 3] (by decide) rfl
    clear hPc hDc hP1 hD1 hk1 hFc hz1 ht hvm
    generalize H1 = H at hP hS ⊢
    refine lv_aload_n hx hb dX0_throwNow_40 rfl (lv_at hl 1 rfl) ?_
    refine lv_dup hx hb dX0_throwNow_41 rfl ?_
    refine va_get (D := (dC, dI)) (ci := 0) (v := .int ((S_X0_tire (S_X0_slip σ p0) (-1) p0).2.2.2.2.1)) (C := RX0) (T := TX0) (N := 8) hx hb hts in_X0 hown hK hP 0 rfl rfl 4 (by decide) q_2 (fun _ h9 => h9) rfl dX0_throwNow_42 ?_
    refine lv_iconst (v := 1) hx hb dX0_throwNow_45 (by decide) ?_
    refine lv_iadd hx hb dX0_throwNow_46 ?_
    refine va_put (D := (dC, dI)) (ci := 0) (v := .int (((S_X0_tire (S_X0_slip σ p0) (-1) p0).2.2.2.2.1) + 1)) (ty := .int) (C := RX0) (T := TX0) (N := 8) hx hb hts in_X0 tyX0 tyX0_ok nmX0 hown hK hP hD hS 0 rfl rfl 4 (by decide) q_2 (fun _ h9 => h9) rfl (by decide +kernel) rfl rfl (Nat.le_of_ble_eq_true rfl) dX0_throwNow_47 (fun H locs hP hD hS => ?_)
    have hP : va_P (dC, dI) vwCl [(j, .inr (0, [.ref a1, .ref a2, .ref a3, .int ((S_X0_tire (S_X0_slip σ p0) (-1) p0).2.2.2.1), .int (((S_X0_tire (S_X0_slip σ p0) (-1) p0).2.2.2.2.1) + 1), .int ((S_X0_tire (S_X0_slip σ p0) (-1) p0).2.2.2.2.2.1), .int ((S_X0_tire (S_X0_slip σ p0) (-1) p0).2.2.2.2.2.2.1), .double ((S_X0_tire (S_X0_slip σ p0) (-1) p0).2.2.2.2.2.2.2)])), (a1, .inl (cI, 6, .inl ((S_X0_tire (S_X0_slip σ p0) (-1) p0).1))), (a2, .inl (cI, 6, .inl ((S_X0_tire (S_X0_slip σ p0) (-1) p0).2.1))), (a3, .inl (cI, 6, .inl ((S_X0_tire (S_X0_slip σ p0) (-1) p0).2.2.1)))] H := hP
    have hD : va_D A [(j, .inr (0, [.ref a1, .ref a2, .ref a3, .int ((S_X0_tire (S_X0_slip σ p0) (-1) p0).2.2.2.1), .int (((S_X0_tire (S_X0_slip σ p0) (-1) p0).2.2.2.2.1) + 1), .int ((S_X0_tire (S_X0_slip σ p0) (-1) p0).2.2.2.2.2.1), .int ((S_X0_tire (S_X0_slip σ p0) (-1) p0).2.2.2.2.2.2.1), .double ((S_X0_tire (S_X0_slip σ p0) (-1) p0).2.2.2.2.2.2.2)])), (a1, .inl (cI, 6, .inl ((S_X0_tire (S_X0_slip σ p0) (-1) p0).1))), (a2, .inl (cI, 6, .inl ((S_X0_tire (S_X0_slip σ p0) (-1) p0).2.1))), (a3, .inl (cI, 6, .inl ((S_X0_tire (S_X0_slip σ p0) (-1) p0).2.2.1)))] := hD
    refine lv_aload_n hx hb dX0_throwNow_50 rfl (lv_at hl 1 rfl) ?_
    refine lv_dup hx hb dX0_throwNow_51 rfl ?_
    refine va_get (D := (dC, dI)) (ci := 0) (v := .int ((S_X0_tire (S_X0_slip σ p0) (-1) p0).2.2.2.2.2.2.1)) (C := RX0) (T := TX0) (N := 8) hx hb hts in_X0 hown hK hP 0 rfl rfl 6 (by decide) q_3 (fun _ h9 => h9) rfl dX0_throwNow_52 ?_
    refine lv_iconst (v := 1) hx hb dX0_throwNow_55 (by decide) ?_
    refine lv_iadd hx hb dX0_throwNow_56 ?_
    refine va_put (D := (dC, dI)) (ci := 0) (v := .int (((S_X0_tire (S_X0_slip σ p0) (-1) p0).2.2.2.2.2.2.1) + 1)) (ty := .int) (C := RX0) (T := TX0) (N := 8) hx hb hts in_X0 tyX0 tyX0_ok nmX0 hown hK hP hD hS 0 rfl rfl 6 (by decide) q_3 (fun _ h9 => h9) rfl (by decide +kernel) rfl rfl (Nat.le_of_ble_eq_true rfl) dX0_throwNow_57 (fun H locs hP hD hS => ?_)
    have hP : va_P (dC, dI) vwCl [(j, .inr (0, [.ref a1, .ref a2, .ref a3, .int ((S_X0_tire (S_X0_slip σ p0) (-1) p0).2.2.2.1), .int (((S_X0_tire (S_X0_slip σ p0) (-1) p0).2.2.2.2.1) + 1), .int ((S_X0_tire (S_X0_slip σ p0) (-1) p0).2.2.2.2.2.1), .int (((S_X0_tire (S_X0_slip σ p0) (-1) p0).2.2.2.2.2.2.1) + 1), .double ((S_X0_tire (S_X0_slip σ p0) (-1) p0).2.2.2.2.2.2.2)])), (a1, .inl (cI, 6, .inl ((S_X0_tire (S_X0_slip σ p0) (-1) p0).1))), (a2, .inl (cI, 6, .inl ((S_X0_tire (S_X0_slip σ p0) (-1) p0).2.1))), (a3, .inl (cI, 6, .inl ((S_X0_tire (S_X0_slip σ p0) (-1) p0).2.2.1)))] H := hP
    have hD : va_D A [(j, .inr (0, [.ref a1, .ref a2, .ref a3, .int ((S_X0_tire (S_X0_slip σ p0) (-1) p0).2.2.2.1), .int (((S_X0_tire (S_X0_slip σ p0) (-1) p0).2.2.2.2.1) + 1), .int ((S_X0_tire (S_X0_slip σ p0) (-1) p0).2.2.2.2.2.1), .int (((S_X0_tire (S_X0_slip σ p0) (-1) p0).2.2.2.2.2.2.1) + 1), .double ((S_X0_tire (S_X0_slip σ p0) (-1) p0).2.2.2.2.2.2.2)])), (a1, .inl (cI, 6, .inl ((S_X0_tire (S_X0_slip σ p0) (-1) p0).1))), (a2, .inl (cI, 6, .inl ((S_X0_tire (S_X0_slip σ p0) (-1) p0).2.1))), (a3, .inl (cI, 6, .inl ((S_X0_tire (S_X0_slip σ p0) (-1) p0).2.2.1)))] := hD
    refine lv_iload_n hx hb dX0_throwNow_60 rfl (lv_at hl 0 rfl) ?_
    have e9 : S_X0_throwNow σ p0 = ((-1), ((S_X0_tire (S_X0_slip σ p0) (-1) p0).1, (S_X0_tire (S_X0_slip σ p0) (-1) p0).2.1, (S_X0_tire (S_X0_slip σ p0) (-1) p0).2.2.1, (S_X0_tire (S_X0_slip σ p0) (-1) p0).2.2.2.1, ((S_X0_tire (S_X0_slip σ p0) (-1) p0).2.2.2.2.1) + 1, (S_X0_tire (S_X0_slip σ p0) (-1) p0).2.2.2.2.2.1, ((S_X0_tire (S_X0_slip σ p0) (-1) p0).2.2.2.2.2.2.1) + 1, (S_X0_tire (S_X0_slip σ p0) (-1) p0).2.2.2.2.2.2.2)) := by simp only [S_X0_throwNow, if_pos c_11]
    exact W.iret (v := (-1)) hx hb hr (fun t ht hW => ⟨⟨(-1), (), rfl, by rw [e9], by rw [ht, e9]; exact hP, hE.warm hW, by rw [e9]; exact hD⟩, hS.F ht⟩) hS.2.2 dX0_throwNow_61
def G_X0_startWith_17 (σ : JS) (p0 : Int32) : Nat → Nat → (Nat → Int32) → (Nat → Int32) → (Nat → Int32) → JS
  | 0, k, g0_0, g0_1, g0_2 => (g0_0, g0_1, g0_2, p0, 0, σ.2.2.2.2.2.1, σ.2.2.2.2.2.2.1, FP.dconst0)
  | mm + 1, k, g0_0, g0_1, g0_2 => G_X0_startWith_17 σ p0 mm (k + 1) (S_X3_setCell 6 g0_0 (nI k) (nI k)) (S_X3_setCell 6 g0_1 (nI k) 0) (S_X3_setCell 6 g0_2 (nI k) 0)
def S_X0_startWith (σ : JS) (p0 : Int32) : JS := G_X0_startWith_17 σ p0 p0.toNatClampNeg 0 σ.1 σ.2.1 σ.2.2.1
set_option maxHeartbeats 4000000 in
set_option maxRecDepth 100000 in
theorem c_X0_startWith (l : Launch) (dC : Nat → ClassId) (dI : Nat → Nat → Nat) (cI cR : ClassId) (sz : Nat) (j a1 a2 a3 : Nat) (σ : JS) (p0 : Int32)  : Met l yX0_startWith wsX0_startWith ({ frames := 1, cells := 0, slots := 0, locals := 22 }) (va_Pc [.ref j, .int p0] (fun U => U.heap.size = sz ∧ va_P (dC, dI) vwCl (wJ cI j a1 a2 a3 σ) U.heap ∧ cE (dC, dI) cI cR U ∧ va_D (fun _ => True) (wJ cI j a1 a2 a3 σ))) (va_Qv (fun _ : Unit => True) (fun (_ : Unit) t => va_P (dC, dI) vwCl (wJ cI j a1 a2 a3 (S_X0_startWith σ p0)) t.heap ∧ cE (dC, dI) cI cR t ∧ va_D (va_A (wJ cI j a1 a2 a3 σ) sz) (wJ cI j a1 a2 a3 (S_X0_startWith σ p0))) (va_A (wJ cI j a1 a2 a3 σ) sz)) 0 0 (va_A (wJ cI j a1 a2 a3 σ) sz) := by
  refine Met.ofW (cc := cX0_startWith) (maxL := 3) (ret := none) (by decide) rfl ?_
  intro p e s m args below meth c s₁ B hml hv
  obtain ⟨rfl, hsz, hP, hE, hD0⟩ := hv
  have hK := hE.1
  have hx := B.exec
  have hb := B.bytes
  have hr := B.returns
  have hts := atoms_spec (ws := wsX0_startWith) B.pre
  have hown : s.vm.findClass RX0 = some m.cls := findClass_of_methodNamed B.named
  have hlocks := B.notSynchronized
  subst hsz
  have hD := hD0.self (sz := s.heap.size)
  generalize hAe : va_A (wJ cI j a1 a2 a3 σ) s.heap.size = A at hD ⊢
  have hA : ∀ q : Nat, s.heap.size ≤ q → A q := fun q h => by rw [← hAe]; exact Or.inr h
  have hS : va_S A s.heap s.heap [] := va_S.rf
  have hP : va_P (dC, dI) vwCl [(j, .inr (0, [.ref a1, .ref a2, .ref a3, .int σ.2.2.2.1, .int σ.2.2.2.2.1, .int σ.2.2.2.2.2.1, .int σ.2.2.2.2.2.2.1, .double σ.2.2.2.2.2.2.2])), (a1, .inl (cI, 6, .inl σ.1)), (a2, .inl (cI, 6, .inl σ.2.1)), (a3, .inl (cI, 6, .inl σ.2.2.1))] s.heap := hP
  have hD : va_D A [(j, .inr (0, [.ref a1, .ref a2, .ref a3, .int σ.2.2.2.1, .int σ.2.2.2.2.1, .int σ.2.2.2.2.2.1, .int σ.2.2.2.2.2.2.1, .double σ.2.2.2.2.2.2.2])), (a1, .inl (cI, 6, .inl σ.1)), (a2, .inl (cI, 6, .inl σ.2.1)), (a3, .inl (cI, 6, .inl σ.2.2.1))] := hD
  have hl := lv_entry ([.ref j, .int p0]) (n := 3) (Nat.le_of_ble_eq_true rfl)
  rw [lg_entry_eq]
  generalize (lg_sl ([.ref j, .int p0]) ++ List.replicate (3 - (lg_sl ([.ref j, .int p0])).length) Slot.unset).toArray = ls at hl ⊢
  have hl : lv_has ls 3 [(0, .ref j), (1, .int p0)] := hl
  have q_0 := hts (.fieldLink RX0 21 "Cascadecourt$Juggler" "props" "I") (by decide +kernel)
  have in_X0 : ∀ w ∈ wsX00, w ∈ wsX0_startWith := by decide +kernel
  have q_1 := hts (.fieldLink RX0 25 "Cascadecourt$Juggler" "beat" "I") (by decide +kernel)
  have q_2 := hts (.fieldLink RX0 28 "Cascadecourt$Juggler" "tiredness" "D") (by decide +kernel)
  have q_3 := hts (.fieldLink RX0 9 "Cascadecourt$Juggler" "landsAt" "[I") (by decide +kernel)
  have q_4 := hts (.initialized RX3) (by decide +kernel)
  have q_5 := hts (.static yX3_setCell) (by decide +kernel)
  have q_6 := hts (.fieldLink RX0 15 "Cascadecourt$Juggler" "flights" "[I") (by decide +kernel)
  have q_7 := hts (.fieldLink RX0 18 "Cascadecourt$Juggler" "drops" "[I") (by decide +kernel)
  refine lv_aload_n hx hb dX0_startWith_0 rfl (lv_at hl 0 rfl) ?_
  refine lv_iload_n hx hb dX0_startWith_1 rfl (lv_at hl 1 rfl) ?_
  refine va_put (D := (dC, dI)) (ci := 0) (v := .int p0) (ty := .int) (C := RX0) (T := TX0) (N := 8) hx hb hts in_X0 tyX0 tyX0_ok nmX0 hown hK hP hD hS 0 rfl rfl 3 (by decide) q_0 (fun _ h9 => h9) rfl (by decide +kernel) rfl rfl (Nat.le_of_ble_eq_true rfl) dX0_startWith_2 (fun H locs hP hD hS => ?_)
  have hP : va_P (dC, dI) vwCl [(j, .inr (0, [.ref a1, .ref a2, .ref a3, .int p0, .int σ.2.2.2.2.1, .int σ.2.2.2.2.2.1, .int σ.2.2.2.2.2.2.1, .double σ.2.2.2.2.2.2.2])), (a1, .inl (cI, 6, .inl σ.1)), (a2, .inl (cI, 6, .inl σ.2.1)), (a3, .inl (cI, 6, .inl σ.2.2.1))] H := hP
  have hD : va_D A [(j, .inr (0, [.ref a1, .ref a2, .ref a3, .int p0, .int σ.2.2.2.2.1, .int σ.2.2.2.2.2.1, .int σ.2.2.2.2.2.2.1, .double σ.2.2.2.2.2.2.2])), (a1, .inl (cI, 6, .inl σ.1)), (a2, .inl (cI, 6, .inl σ.2.1)), (a3, .inl (cI, 6, .inl σ.2.2.1))] := hD
  refine lv_aload_n hx hb dX0_startWith_5 rfl (lv_at hl 0 rfl) ?_
  refine lv_iconst (v := 0) hx hb dX0_startWith_6 (by decide) ?_
  refine va_put (D := (dC, dI)) (ci := 0) (v := .int 0) (ty := .int) (C := RX0) (T := TX0) (N := 8) hx hb hts in_X0 tyX0 tyX0_ok nmX0 hown hK hP hD hS 0 rfl rfl 4 (by decide) q_1 (fun _ h9 => h9) rfl (by decide +kernel) rfl rfl (Nat.le_of_ble_eq_true rfl) dX0_startWith_7 (fun H locs hP hD hS => ?_)
  have hP : va_P (dC, dI) vwCl [(j, .inr (0, [.ref a1, .ref a2, .ref a3, .int p0, .int 0, .int σ.2.2.2.2.2.1, .int σ.2.2.2.2.2.2.1, .double σ.2.2.2.2.2.2.2])), (a1, .inl (cI, 6, .inl σ.1)), (a2, .inl (cI, 6, .inl σ.2.1)), (a3, .inl (cI, 6, .inl σ.2.2.1))] H := hP
  have hD : va_D A [(j, .inr (0, [.ref a1, .ref a2, .ref a3, .int p0, .int 0, .int σ.2.2.2.2.2.1, .int σ.2.2.2.2.2.2.1, .double σ.2.2.2.2.2.2.2])), (a1, .inl (cI, 6, .inl σ.1)), (a2, .inl (cI, 6, .inl σ.2.1)), (a3, .inl (cI, 6, .inl σ.2.2.1))] := hD
  refine lv_aload_n hx hb dX0_startWith_10 rfl (lv_at hl 0 rfl) ?_
  refine lv_dconst0 hx hb dX0_startWith_11 ?_
  refine va_put (D := (dC, dI)) (ci := 0) (v := .double FP.dconst0) (ty := .double) (C := RX0) (T := TX0) (N := 8) hx hb hts in_X0 tyX0 tyX0_ok nmX0 hown hK hP hD hS 0 rfl rfl 7 (by decide) q_2 (fun _ h9 => h9) rfl (by decide +kernel) rfl rfl (Nat.le_of_ble_eq_true rfl) dX0_startWith_12 (fun H locs hP hD hS => ?_)
  have hP : va_P (dC, dI) vwCl [(j, .inr (0, [.ref a1, .ref a2, .ref a3, .int p0, .int 0, .int σ.2.2.2.2.2.1, .int σ.2.2.2.2.2.2.1, .double FP.dconst0])), (a1, .inl (cI, 6, .inl σ.1)), (a2, .inl (cI, 6, .inl σ.2.1)), (a3, .inl (cI, 6, .inl σ.2.2.1))] H := hP
  have hD : va_D A [(j, .inr (0, [.ref a1, .ref a2, .ref a3, .int p0, .int 0, .int σ.2.2.2.2.2.1, .int σ.2.2.2.2.2.2.1, .double FP.dconst0])), (a1, .inl (cI, 6, .inl σ.1)), (a2, .inl (cI, 6, .inl σ.2.1)), (a3, .inl (cI, 6, .inl σ.2.2.1))] := hD
  refine lv_iconst (v := 0) hx hb dX0_startWith_15 (by decide) ?_
  refine lv_istore_n (lv' := [(2, .int 0), (0, .ref j), (1, .int p0)]) hx hb dX0_startWith_16 rfl hl (by decide) rfl (fun ls hl => ?_)
  have hn17 := p_clt p0
  have loop17 : ∀ (mm k : Nat) (g0_0 : Nat → Int32) (g0_1 : Nat → Int32) (g0_2 : Nat → Int32) (H : Heap) (locs : List Loc) (ls : Array Slot), k + mm = p0.toNatClampNeg → G_X0_startWith_17 σ p0 mm k g0_0 g0_1 g0_2 = S_X0_startWith σ p0 → lv_has ls 3 [(2, .int (nI k)), (0, .ref j), (1, .int p0)] → va_P (dC, dI) vwCl [(j, .inr (0, [.ref a1, .ref a2, .ref a3, .int p0, .int 0, .int σ.2.2.2.2.2.1, .int σ.2.2.2.2.2.2.1, .double FP.dconst0])), (a1, .inl (cI, 6, .inl g0_0)), (a2, .inl (cI, 6, .inl g0_1)), (a3, .inl (cI, 6, .inl g0_2))] H → va_D A [(j, .inr (0, [.ref a1, .ref a2, .ref a3, .int p0, .int 0, .int σ.2.2.2.2.2.1, .int σ.2.2.2.2.2.2.1, .double FP.dconst0])), (a1, .inl (cI, 6, .inl g0_0)), (a2, .inl (cI, 6, .inl g0_1)), (a3, .inl (cI, 6, .inl g0_2))] → va_S A s.heap H locs → W p l e (headSpec wsX0_startWith ({ frames := 1, cells := 0, slots := 0, locals := 22 })).room s m (([.ref j, .int p0] : List Value).toArray) below meth c H locs 0 0 (MQ below (va_Qv (fun _ : Unit => True) (fun (_ : Unit) t => va_P (dC, dI) vwCl (wJ cI j a1 a2 a3 (S_X0_startWith σ p0)) t.heap ∧ cE (dC, dI) cI cR t ∧ va_D A (wJ cI j a1 a2 a3 (S_X0_startWith σ p0))) A) (([.ref j, .int p0] : List Value).toArray) s 0 0 A) (F0 m 17 ls []) := by
    intro mm
    induction mm with
    | zero =>
      intro k g0_0 g0_1 g0_2 H locs ls hk17 hG17 hl hP hD hS
      refine lv_iload_n hx hb dX0_startWith_17 rfl (lv_at hl 0 rfl) ?_
      refine lv_aload_n hx hb dX0_startWith_18 rfl (lv_at hl 1 rfl) ?_
      refine va_get (D := (dC, dI)) (ci := 0) (v := .int p0) (C := RX0) (T := TX0) (N := 8) hx hb hts in_X0 hown hK hP 0 rfl rfl 3 (by decide) q_0 (fun _ h9 => h9) rfl dX0_startWith_19 ?_
      refine lv_icmp_ge (tgt := 58) hx hb dX0_startWith_22 (by decide) (fun c_22 => ?_) (fun c_22 => ?_)
      · have e9 : S_X0_startWith σ p0 = (g0_0, g0_1, g0_2, p0, 0, σ.2.2.2.2.2.1, σ.2.2.2.2.2.2.1, FP.dconst0) := by rw [← hG17]; simp only [G_X0_startWith_17]
        exact W.vret hx hb hr (fun t ht hW => ⟨⟨(), rfl, trivial, by rw [ht, e9]; exact hP, hE.warm hW, by rw [e9]; exact hD⟩, hS.F ht⟩) hS.2.2 dX0_startWith_58
      · exact absurd ((p_le (by omega)).mpr (by omega)) c_22
    | succ mm ih17 =>
      intro k g0_0 g0_1 g0_2 H locs ls hk17 hG17 hl hP hD hS
      refine lv_iload_n hx hb dX0_startWith_17 rfl (lv_at hl 0 rfl) ?_
      refine lv_aload_n hx hb dX0_startWith_18 rfl (lv_at hl 1 rfl) ?_
      refine va_get (D := (dC, dI)) (ci := 0) (v := .int p0) (C := RX0) (T := TX0) (N := 8) hx hb hts in_X0 hown hK hP 0 rfl rfl 3 (by decide) q_0 (fun _ h9 => h9) rfl dX0_startWith_19 ?_
      refine lv_icmp_ge (tgt := 58) hx hb dX0_startWith_22 (by decide) (fun c_22 => ?_) (fun c_22 => ?_)
      · exact absurd ((p_le (by omega)).mp c_22) (by omega)
      · refine lv_aload_n hx hb dX0_startWith_25 rfl (lv_at hl 1 rfl) ?_
        refine va_get (D := (dC, dI)) (ci := 0) (v := .ref a1) (C := RX0) (T := TX0) (N := 8) hx hb hts in_X0 hown hK hP 0 rfl rfl 0 (by decide) q_3 (fun _ h9 => h9) rfl dX0_startWith_26 ?_
        refine lv_iload_n hx hb dX0_startWith_29 rfl (lv_at hl 0 rfl) ?_
        refine lv_iload_n hx hb dX0_startWith_30 rfl (lv_at hl 0 rfl) ?_
        have hPc := hP.sub (ws' := [(a1, .inl (cI, 6, .inl g0_0))]) [1] rfl
        have hDc := hD.sub (ws' := [(a1, .inl (cI, 6, .inl g0_0))]) [1] (by decide) rfl
        have hFc := va_free (wc := [(a1, .inl (cI, 6, .inl g0_0))]) hD hS hA [1] rfl
        refine va_callv (va_runSN (As := [.ref a1, .int (nI k), .int (nI k)]) (rest := []) ⟨hx, hb, hml, hown, hts⟩ (c_X3_setCell l dC dI cI cR _ a1 6 g0_0 (by decide) (nI k) (nI k)) ⟨va_cnB 3 hts gX0_startWith_X3_setCell_n32 rfl rfl rfl (hE.2 (.methodLinkNest RX0 32 yX3_setCell "Cascadecourt") (by decide +kernel)) q_4 (by decide +kernel) ⟨Nat.le_of_ble_eq_true rfl, Nat.le_of_ble_eq_true rfl⟩, q_5, trivial⟩ ⟨fun a U g mk q => by obtain ⟨q0, q1, qP, qE, qD⟩ := q; exact ⟨q0, q1, qP, cE.same (s := U) rfl qE, qD⟩, fun U hU hW => ⟨rfl, by rw [hU], by rw [hU]; exact hPc, hE.warm hW, hDc.weaken (fun _ _ _ _ => trivial)⟩⟩ rfl rfl hl.1 rfl (lv_room (Nat.le_of_ble_eq_true rfl)) dX0_startWith_31 ⟨Nat.zero_le _, Nat.zero_le _⟩) hS (fun q _ h => hFc q h) hFc (fun u t H1 locs ht hvm h_31 hB hz1 hk1 hS => ?_)
        obtain ⟨hP1, -, hD1⟩ := hB
        rw [ht] at hP1
        obtain ⟨hP, hD⟩ := va_join (wr := [(j, .inr (0, [.ref a1, .ref a2, .ref a3, .int p0, .int 0, .int σ.2.2.2.2.2.1, .int σ.2.2.2.2.2.2.1, .double FP.dconst0])), (a2, .inl (cI, 6, .inl g0_1)), (a3, .inl (cI, 6, .inl g0_2))]) (w1 := [(a1, .inl (cI, 6, .inl (S_X3_setCell 6 g0_0 (nI k) (nI k))))]) hP hD [1] [0, 2, 3] rfl rfl (by decide) (by decide) hk1 hFc hP1 hD1
        have hP := hP.sub (ws' := [(j, .inr (0, [.ref a1, .ref a2, .ref a3, .int p0, .int 0, .int σ.2.2.2.2.2.1, .int σ.2.2.2.2.2.2.1, .double FP.dconst0])), (a1, .inl (cI, 6, .inl (S_X3_setCell 6 g0_0 (nI k) (nI k)))), (a2, .inl (cI, 6, .inl g0_1)), (a3, .inl (cI, 6, .inl g0_2))]) [0, 3, 1, 2] rfl
        have hD := hD.sub (ws' := [(j, .inr (0, [.ref a1, .ref a2, .ref a3, .int p0, .int 0, .int σ.2.2.2.2.2.1, .int σ.2.2.2.2.2.2.1, .double FP.dconst0])), (a1, .inl (cI, 6, .inl (S_X3_setCell 6 g0_0 (nI k) (nI k)))), (a2, .inl (cI, 6, .inl g0_1)), (a3, .inl (cI, 6, .inl g0_2))]) [0, 3, 1, 2] (by decide) rfl
        clear hPc hDc hP1 hD1 hk1 hFc hz1 ht hvm
        generalize H1 = H at hP hS ⊢
        refine lv_aload_n hx hb dX0_startWith_34 rfl (lv_at hl 1 rfl) ?_
        refine va_get (D := (dC, dI)) (ci := 0) (v := .ref a2) (C := RX0) (T := TX0) (N := 8) hx hb hts in_X0 hown hK hP 0 rfl rfl 1 (by decide) q_6 (fun _ h9 => h9) rfl dX0_startWith_35 ?_
        refine lv_iload_n hx hb dX0_startWith_38 rfl (lv_at hl 0 rfl) ?_
        refine lv_iconst (v := 0) hx hb dX0_startWith_39 (by decide) ?_
        have hPc := hP.sub (ws' := [(a2, .inl (cI, 6, .inl g0_1))]) [2] rfl
        have hDc := hD.sub (ws' := [(a2, .inl (cI, 6, .inl g0_1))]) [2] (by decide) rfl
        have hFc := va_free (wc := [(a2, .inl (cI, 6, .inl g0_1))]) hD hS hA [2] rfl
        refine va_callv (va_runSN (As := [.ref a2, .int (nI k), .int 0]) (rest := []) ⟨hx, hb, hml, hown, hts⟩ (c_X3_setCell l dC dI cI cR _ a2 6 g0_1 (by decide) (nI k) 0) ⟨va_cnB 3 hts gX0_startWith_X3_setCell_n32 rfl rfl rfl (hE.2 (.methodLinkNest RX0 32 yX3_setCell "Cascadecourt") (by decide +kernel)) q_4 (by decide +kernel) ⟨Nat.le_of_ble_eq_true rfl, Nat.le_of_ble_eq_true rfl⟩, q_5, trivial⟩ ⟨fun a U g mk q => by obtain ⟨q0, q1, qP, qE, qD⟩ := q; exact ⟨q0, q1, qP, cE.same (s := U) rfl qE, qD⟩, fun U hU hW => ⟨rfl, by rw [hU], by rw [hU]; exact hPc, hE.warm hW, hDc.weaken (fun _ _ _ _ => trivial)⟩⟩ rfl rfl hl.1 rfl (lv_room (Nat.le_of_ble_eq_true rfl)) dX0_startWith_40 ⟨Nat.zero_le _, Nat.zero_le _⟩) hS (fun q _ h => hFc q h) hFc (fun u t H1 locs ht hvm h_40 hB hz1 hk1 hS => ?_)
        obtain ⟨hP1, -, hD1⟩ := hB
        rw [ht] at hP1
        obtain ⟨hP, hD⟩ := va_join (wr := [(j, .inr (0, [.ref a1, .ref a2, .ref a3, .int p0, .int 0, .int σ.2.2.2.2.2.1, .int σ.2.2.2.2.2.2.1, .double FP.dconst0])), (a1, .inl (cI, 6, .inl (S_X3_setCell 6 g0_0 (nI k) (nI k)))), (a3, .inl (cI, 6, .inl g0_2))]) (w1 := [(a2, .inl (cI, 6, .inl (S_X3_setCell 6 g0_1 (nI k) 0)))]) hP hD [2] [0, 1, 3] rfl rfl (by decide) (by decide) hk1 hFc hP1 hD1
        have hP := hP.sub (ws' := [(j, .inr (0, [.ref a1, .ref a2, .ref a3, .int p0, .int 0, .int σ.2.2.2.2.2.1, .int σ.2.2.2.2.2.2.1, .double FP.dconst0])), (a1, .inl (cI, 6, .inl (S_X3_setCell 6 g0_0 (nI k) (nI k)))), (a2, .inl (cI, 6, .inl (S_X3_setCell 6 g0_1 (nI k) 0))), (a3, .inl (cI, 6, .inl g0_2))]) [0, 1, 3, 2] rfl
        have hD := hD.sub (ws' := [(j, .inr (0, [.ref a1, .ref a2, .ref a3, .int p0, .int 0, .int σ.2.2.2.2.2.1, .int σ.2.2.2.2.2.2.1, .double FP.dconst0])), (a1, .inl (cI, 6, .inl (S_X3_setCell 6 g0_0 (nI k) (nI k)))), (a2, .inl (cI, 6, .inl (S_X3_setCell 6 g0_1 (nI k) 0))), (a3, .inl (cI, 6, .inl g0_2))]) [0, 1, 3, 2] (by decide) rfl
        clear hPc hDc hP1 hD1 hk1 hFc hz1 ht hvm
        generalize H1 = H at hP hS ⊢
        refine lv_aload_n hx hb dX0_startWith_43 rfl (lv_at hl 1 rfl) ?_
        refine va_get (D := (dC, dI)) (ci := 0) (v := .ref a3) (C := RX0) (T := TX0) (N := 8) hx hb hts in_X0 hown hK hP 0 rfl rfl 2 (by decide) q_7 (fun _ h9 => h9) rfl dX0_startWith_44 ?_
        refine lv_iload_n hx hb dX0_startWith_47 rfl (lv_at hl 0 rfl) ?_
        refine lv_iconst (v := 0) hx hb dX0_startWith_48 (by decide) ?_
        have hPc := hP.sub (ws' := [(a3, .inl (cI, 6, .inl g0_2))]) [3] rfl
        have hDc := hD.sub (ws' := [(a3, .inl (cI, 6, .inl g0_2))]) [3] (by decide) rfl
        have hFc := va_free (wc := [(a3, .inl (cI, 6, .inl g0_2))]) hD hS hA [3] rfl
        refine va_callv (va_runSN (As := [.ref a3, .int (nI k), .int 0]) (rest := []) ⟨hx, hb, hml, hown, hts⟩ (c_X3_setCell l dC dI cI cR _ a3 6 g0_2 (by decide) (nI k) 0) ⟨va_cnB 3 hts gX0_startWith_X3_setCell_n32 rfl rfl rfl (hE.2 (.methodLinkNest RX0 32 yX3_setCell "Cascadecourt") (by decide +kernel)) q_4 (by decide +kernel) ⟨Nat.le_of_ble_eq_true rfl, Nat.le_of_ble_eq_true rfl⟩, q_5, trivial⟩ ⟨fun a U g mk q => by obtain ⟨q0, q1, qP, qE, qD⟩ := q; exact ⟨q0, q1, qP, cE.same (s := U) rfl qE, qD⟩, fun U hU hW => ⟨rfl, by rw [hU], by rw [hU]; exact hPc, hE.warm hW, hDc.weaken (fun _ _ _ _ => trivial)⟩⟩ rfl rfl hl.1 rfl (lv_room (Nat.le_of_ble_eq_true rfl)) dX0_startWith_49 ⟨Nat.zero_le _, Nat.zero_le _⟩) hS (fun q _ h => hFc q h) hFc (fun u t H1 locs ht hvm h_49 hB hz1 hk1 hS => ?_)
        obtain ⟨hP1, -, hD1⟩ := hB
        rw [ht] at hP1
        obtain ⟨hP, hD⟩ := va_join (wr := [(j, .inr (0, [.ref a1, .ref a2, .ref a3, .int p0, .int 0, .int σ.2.2.2.2.2.1, .int σ.2.2.2.2.2.2.1, .double FP.dconst0])), (a1, .inl (cI, 6, .inl (S_X3_setCell 6 g0_0 (nI k) (nI k)))), (a2, .inl (cI, 6, .inl (S_X3_setCell 6 g0_1 (nI k) 0)))]) (w1 := [(a3, .inl (cI, 6, .inl (S_X3_setCell 6 g0_2 (nI k) 0)))]) hP hD [3] [0, 1, 2] rfl rfl (by decide) (by decide) hk1 hFc hP1 hD1
        have hP := hP.sub (ws' := [(j, .inr (0, [.ref a1, .ref a2, .ref a3, .int p0, .int 0, .int σ.2.2.2.2.2.1, .int σ.2.2.2.2.2.2.1, .double FP.dconst0])), (a1, .inl (cI, 6, .inl (S_X3_setCell 6 g0_0 (nI k) (nI k)))), (a2, .inl (cI, 6, .inl (S_X3_setCell 6 g0_1 (nI k) 0))), (a3, .inl (cI, 6, .inl (S_X3_setCell 6 g0_2 (nI k) 0)))]) [0, 1, 2, 3] rfl
        have hD := hD.sub (ws' := [(j, .inr (0, [.ref a1, .ref a2, .ref a3, .int p0, .int 0, .int σ.2.2.2.2.2.1, .int σ.2.2.2.2.2.2.1, .double FP.dconst0])), (a1, .inl (cI, 6, .inl (S_X3_setCell 6 g0_0 (nI k) (nI k)))), (a2, .inl (cI, 6, .inl (S_X3_setCell 6 g0_1 (nI k) 0))), (a3, .inl (cI, 6, .inl (S_X3_setCell 6 g0_2 (nI k) 0)))]) [0, 1, 2, 3] (by decide) rfl
        clear hPc hDc hP1 hD1 hk1 hFc hz1 ht hvm
        generalize H1 = H at hP hS ⊢
        refine lv_iinc (v := nI (k + 1)) (lv' := [(2, .int (nI (k + 1))), (0, .ref j), (1, .int p0)]) hx hb dX0_startWith_52 hl (k := 0) rfl ((nI_succ _).symm) (by decide) rfl (fun ls hl => ?_)
        refine lv_goto (tgt := 17) hx hb dX0_startWith_55 (by decide) ?_
        exact ih17 (k + 1) (S_X3_setCell 6 g0_0 (nI k) (nI k)) (S_X3_setCell 6 g0_1 (nI k) 0) (S_X3_setCell 6 g0_2 (nI k) 0) _ _ ls (by omega) (by rw [← hG17]; simp only [G_X0_startWith_17]) (lv_sub hl [0, 1, 2] rfl) hP hD hS
  exact loop17 p0.toNatClampNeg 0 σ.1 σ.2.1 σ.2.2.1 _ _ ls (by omega) (by simp only [S_X0_startWith]) (lv_sub hl [0, 1, 2] rfl) hP hD hS
def G_X0_pickUp_13 (σ : JS) : Nat → Nat → Int32 × JS
  | 0, k => ((-1), σ)
  | mm + 1, k => (if (S_X0_isDropped σ (nI k)) = 0 then G_X0_pickUp_13 σ mm (k + 1) else (nI k, ((S_X3_setCell 6 σ.1 (nI k) σ.2.2.2.2.1), σ.2.1, σ.2.2.1, σ.2.2.2.1, σ.2.2.2.2.1, σ.2.2.2.2.2.1, σ.2.2.2.2.2.2.1, σ.2.2.2.2.2.2.2)))
def S_X0_pickUp (σ : JS) : Int32 × JS := (if (S_X0_propLandingIn σ 0) = (-1) then G_X0_pickUp_13 σ σ.2.2.2.1.toNatClampNeg 0 else ((-1), σ))
set_option maxHeartbeats 4000000 in
set_option maxRecDepth 100000 in
theorem c_X0_pickUp (l : Launch) (dC : Nat → ClassId) (dI : Nat → Nat → Nat) (cI cR : ClassId) (sz : Nat) (j a1 a2 a3 : Nat) (σ : JS)   : Met l yX0_pickUp wsX0_pickUp ({ frames := 3, cells := 0, slots := 0, locals := 65 }) (va_Pc [.ref j] (fun U => U.heap.size = sz ∧ va_P (dC, dI) vwCl (wJ cI j a1 a2 a3 σ) U.heap ∧ cE (dC, dI) cI cR U ∧ va_D (fun _ => True) (wJ cI j a1 a2 a3 σ))) (va_Qi (fun (r : Int32) (_ : Unit) => r = (S_X0_pickUp σ).1) (fun (_ : Unit) t => va_P (dC, dI) vwCl (wJ cI j a1 a2 a3 ((S_X0_pickUp σ).2)) t.heap ∧ cE (dC, dI) cI cR t ∧ va_D (va_A (wJ cI j a1 a2 a3 σ) sz) (wJ cI j a1 a2 a3 ((S_X0_pickUp σ).2))) (va_A (wJ cI j a1 a2 a3 σ) sz)) 0 0 (va_A (wJ cI j a1 a2 a3 σ) sz) := by
  refine Met.ofW (cc := cX0_pickUp) (maxL := 2) (ret := (some .int)) (by decide) rfl ?_
  intro p e s m args below meth c s₁ B hml hv
  obtain ⟨rfl, hsz, hP, hE, hD0⟩ := hv
  have hK := hE.1
  have hx := B.exec
  have hb := B.bytes
  have hr := B.returns
  have hts := atoms_spec (ws := wsX0_pickUp) B.pre
  have hown : s.vm.findClass RX0 = some m.cls := findClass_of_methodNamed B.named
  have hlocks := B.notSynchronized
  subst hsz
  have hD := hD0.self (sz := s.heap.size)
  generalize hAe : va_A (wJ cI j a1 a2 a3 σ) s.heap.size = A at hD ⊢
  have hA : ∀ q : Nat, s.heap.size ≤ q → A q := fun q h => by rw [← hAe]; exact Or.inr h
  have hS : va_S A s.heap s.heap [] := va_S.rf
  have hP : va_P (dC, dI) vwCl [(j, .inr (0, [.ref a1, .ref a2, .ref a3, .int σ.2.2.2.1, .int σ.2.2.2.2.1, .int σ.2.2.2.2.2.1, .int σ.2.2.2.2.2.2.1, .double σ.2.2.2.2.2.2.2])), (a1, .inl (cI, 6, .inl σ.1)), (a2, .inl (cI, 6, .inl σ.2.1)), (a3, .inl (cI, 6, .inl σ.2.2.1))] s.heap := hP
  have hD : va_D A [(j, .inr (0, [.ref a1, .ref a2, .ref a3, .int σ.2.2.2.1, .int σ.2.2.2.2.1, .int σ.2.2.2.2.2.1, .int σ.2.2.2.2.2.2.1, .double σ.2.2.2.2.2.2.2])), (a1, .inl (cI, 6, .inl σ.1)), (a2, .inl (cI, 6, .inl σ.2.1)), (a3, .inl (cI, 6, .inl σ.2.2.1))] := hD
  have hl := lv_entry ([.ref j]) (n := 2) (Nat.le_of_ble_eq_true rfl)
  rw [lg_entry_eq]
  generalize (lg_sl ([.ref j]) ++ List.replicate (2 - (lg_sl ([.ref j])).length) Slot.unset).toArray = ls at hl ⊢
  have hl : lv_has ls 2 [(0, .ref j)] := hl
  have q_0 := hts (.fieldLink RX0 21 "Cascadecourt$Juggler" "props" "I") (by decide +kernel)
  have in_X0 : ∀ w ∈ wsX00, w ∈ wsX0_pickUp := by decide +kernel
  have q_1 := hts (.fieldLink RX0 9 "Cascadecourt$Juggler" "landsAt" "[I") (by decide +kernel)
  have q_2 := hts (.fieldLink RX0 25 "Cascadecourt$Juggler" "beat" "I") (by decide +kernel)
  have q_3 := hts (.initialized RX3) (by decide +kernel)
  have q_4 := hts (.static yX3_setCell) (by decide +kernel)
  refine lv_aload_n hx hb dX0_pickUp_0 rfl (lv_at hl 0 rfl) ?_
  refine lv_iconst (v := 0) hx hb dX0_pickUp_1 (by decide) ?_
  refine vp_callSi (va_Run.run (va_runV (As := [.int 0]) (rest := []) ⟨hx, hb, hml, hown, hts⟩ (c_X0_propLandingIn l dC dI cI cR j a1 a2 a3 σ 0) (cwV 1 hts gX0_pickUp_X0_propLandingIn rfl rfl rfl (by decide +kernel) ⟨Nat.le_of_ble_eq_true rfl, Nat.le_of_ble_eq_true rfl⟩) ⟨fun a U g mk q => by obtain ⟨q0, qP, qE⟩ := q; exact ⟨q0, qP, cE.same (s := U) rfl qE⟩, va_recv hK hP (ci := 0) (q0 := 0) rfl rfl, fun U hU hW => ⟨rfl, by rw [hU]; exact hP.sub (ws' := (wJ cI j a1 a2 a3 σ)) [0, 1, 2, 3] rfl, hE.warm hW⟩⟩ rfl rfl hl.1 rfl (lv_room (Nat.le_of_ble_eq_true rfl)) dX0_pickUp_2 ⟨Nat.zero_le _, Nat.zero_le _⟩)) (fun r_2 h_2 => ?_)
  subst h_2
  refine lv_iconst (v := (-1)) hx hb dX0_pickUp_5 (by decide) ?_
  refine lv_icmp_eq (tgt := 11) hx hb dX0_pickUp_6 (by decide) (fun c_6 => ?_) (fun c_6 => ?_)
  · refine lv_iconst (v := 0) hx hb dX0_pickUp_11 (by decide) ?_
    refine lv_istore_n (lv' := [(1, .int 0), (0, .ref j)]) hx hb dX0_pickUp_12 rfl hl (by decide) rfl (fun ls hl => ?_)
    have hn13 := p_clt σ.2.2.2.1
    have loop13 : ∀ (mm k : Nat) (H : Heap) (locs : List Loc) (ls : Array Slot), k + mm = σ.2.2.2.1.toNatClampNeg → G_X0_pickUp_13 σ mm k = S_X0_pickUp σ → lv_has ls 2 [(1, .int (nI k)), (0, .ref j)] → va_P (dC, dI) vwCl [(j, .inr (0, [.ref a1, .ref a2, .ref a3, .int σ.2.2.2.1, .int σ.2.2.2.2.1, .int σ.2.2.2.2.2.1, .int σ.2.2.2.2.2.2.1, .double σ.2.2.2.2.2.2.2])), (a1, .inl (cI, 6, .inl σ.1)), (a2, .inl (cI, 6, .inl σ.2.1)), (a3, .inl (cI, 6, .inl σ.2.2.1))] H → va_D A [(j, .inr (0, [.ref a1, .ref a2, .ref a3, .int σ.2.2.2.1, .int σ.2.2.2.2.1, .int σ.2.2.2.2.2.1, .int σ.2.2.2.2.2.2.1, .double σ.2.2.2.2.2.2.2])), (a1, .inl (cI, 6, .inl σ.1)), (a2, .inl (cI, 6, .inl σ.2.1)), (a3, .inl (cI, 6, .inl σ.2.2.1))] → va_S A s.heap H locs → W p l e (headSpec wsX0_pickUp ({ frames := 3, cells := 0, slots := 0, locals := 65 })).room s m (([.ref j] : List Value).toArray) below meth c H locs 0 0 (MQ below (va_Qi (fun (r : Int32) (_ : Unit) => r = (S_X0_pickUp σ).1) (fun (_ : Unit) t => va_P (dC, dI) vwCl (wJ cI j a1 a2 a3 ((S_X0_pickUp σ).2)) t.heap ∧ cE (dC, dI) cI cR t ∧ va_D A (wJ cI j a1 a2 a3 ((S_X0_pickUp σ).2))) A) (([.ref j] : List Value).toArray) s 0 0 A) (F0 m 13 ls []) := by
      intro mm
      induction mm with
      | zero =>
        intro k H locs ls hk13 hG13 hl hP hD hS
        refine lv_iload_n hx hb dX0_pickUp_13 rfl (lv_at hl 0 rfl) ?_
        refine lv_aload_n hx hb dX0_pickUp_14 rfl (lv_at hl 1 rfl) ?_
        refine va_get (D := (dC, dI)) (ci := 0) (v := .int σ.2.2.2.1) (C := RX0) (T := TX0) (N := 8) hx hb hts in_X0 hown hK hP 0 rfl rfl 3 (by decide) q_0 (fun _ h9 => h9) rfl dX0_pickUp_15 ?_
        refine lv_icmp_ge (tgt := 49) hx hb dX0_pickUp_18 (by decide) (fun c_18 => ?_) (fun c_18 => ?_)
        · refine lv_iconst (v := (-1)) hx hb dX0_pickUp_49 (by decide) ?_
          have e9 : S_X0_pickUp σ = ((-1), σ) := by rw [← hG13]; simp only [G_X0_pickUp_13]
          exact W.iret (v := (-1)) hx hb hr (fun t ht hW => ⟨⟨(-1), (), rfl, by rw [e9], by rw [ht, e9]; exact hP, hE.warm hW, by rw [e9]; exact hD⟩, hS.F ht⟩) hS.2.2 dX0_pickUp_50
        · exact absurd ((p_le (by omega)).mpr (by omega)) c_18
      | succ mm ih13 =>
        intro k H locs ls hk13 hG13 hl hP hD hS
        refine lv_iload_n hx hb dX0_pickUp_13 rfl (lv_at hl 0 rfl) ?_
        refine lv_aload_n hx hb dX0_pickUp_14 rfl (lv_at hl 1 rfl) ?_
        refine va_get (D := (dC, dI)) (ci := 0) (v := .int σ.2.2.2.1) (C := RX0) (T := TX0) (N := 8) hx hb hts in_X0 hown hK hP 0 rfl rfl 3 (by decide) q_0 (fun _ h9 => h9) rfl dX0_pickUp_15 ?_
        refine lv_icmp_ge (tgt := 49) hx hb dX0_pickUp_18 (by decide) (fun c_18 => ?_) (fun c_18 => ?_)
        · exact absurd ((p_le (by omega)).mp c_18) (by omega)
        · refine lv_aload_n hx hb dX0_pickUp_21 rfl (lv_at hl 1 rfl) ?_
          refine lv_iload_n hx hb dX0_pickUp_22 rfl (lv_at hl 0 rfl) ?_
          refine vp_callSi (va_Run.run (va_runV (As := [.int (nI k)]) (rest := []) ⟨hx, hb, hml, hown, hts⟩ (c_X0_isDropped l dC dI cI cR j a1 a2 a3 σ (nI k)) (cwV 1 hts gX0_pickUp_X0_isDropped rfl rfl rfl (by decide +kernel) ⟨Nat.le_of_ble_eq_true rfl, Nat.le_of_ble_eq_true rfl⟩) ⟨fun a U g mk q => by obtain ⟨q0, qP, qE⟩ := q; exact ⟨q0, qP, cE.same (s := U) rfl qE⟩, va_recv hK hP (ci := 0) (q0 := 0) rfl rfl, fun U hU hW => ⟨rfl, by rw [hU]; exact hP.sub (ws' := (wJ cI j a1 a2 a3 σ)) [0, 1, 2, 3] rfl, hE.warm hW⟩⟩ rfl rfl hl.1 rfl (lv_room (Nat.le_of_ble_eq_true rfl)) dX0_pickUp_23 ⟨Nat.zero_le _, Nat.zero_le _⟩)) (fun r_23 h_23 => ?_)
          obtain ⟨rfl, hz_23⟩ := h_23
          refine lv_if_eq (tgt := 43) hx hb dX0_pickUp_26 (by decide) (fun c_26 => ?_) (fun c_26 => ?_)
          · refine lv_iinc (v := nI (k + 1)) (lv' := [(1, .int (nI (k + 1))), (0, .ref j)]) hx hb dX0_pickUp_43 hl (k := 0) rfl ((nI_succ _).symm) (by decide) rfl (fun ls hl => ?_)
            refine lv_goto (tgt := 13) hx hb dX0_pickUp_46 (by decide) ?_
            exact ih13 (k + 1) _ _ ls (by omega) (by rw [← hG13]; simp only [G_X0_pickUp_13, if_pos c_26]) (lv_sub hl [0, 1] rfl) hP hD hS
          · refine lv_aload_n hx hb dX0_pickUp_29 rfl (lv_at hl 1 rfl) ?_
            refine va_get (D := (dC, dI)) (ci := 0) (v := .ref a1) (C := RX0) (T := TX0) (N := 8) hx hb hts in_X0 hown hK hP 0 rfl rfl 0 (by decide) q_1 (fun _ h9 => h9) rfl dX0_pickUp_30 ?_
            refine lv_iload_n hx hb dX0_pickUp_33 rfl (lv_at hl 0 rfl) ?_
            refine lv_aload_n hx hb dX0_pickUp_34 rfl (lv_at hl 1 rfl) ?_
            refine va_get (D := (dC, dI)) (ci := 0) (v := .int σ.2.2.2.2.1) (C := RX0) (T := TX0) (N := 8) hx hb hts in_X0 hown hK hP 0 rfl rfl 4 (by decide) q_2 (fun _ h9 => h9) rfl dX0_pickUp_35 ?_
            have hPc := hP.sub (ws' := [(a1, .inl (cI, 6, .inl σ.1))]) [1] rfl
            have hDc := hD.sub (ws' := [(a1, .inl (cI, 6, .inl σ.1))]) [1] (by decide) rfl
            have hFc := va_free (wc := [(a1, .inl (cI, 6, .inl σ.1))]) hD hS hA [1] rfl
            refine va_callv (va_runSN (As := [.ref a1, .int (nI k), .int σ.2.2.2.2.1]) (rest := []) ⟨hx, hb, hml, hown, hts⟩ (c_X3_setCell l dC dI cI cR _ a1 6 σ.1 (by decide) (nI k) σ.2.2.2.2.1) ⟨va_cnB 3 hts gX0_pickUp_X3_setCell_n32 rfl rfl rfl (hE.2 (.methodLinkNest RX0 32 yX3_setCell "Cascadecourt") (by decide +kernel)) q_3 (by decide +kernel) ⟨Nat.le_of_ble_eq_true rfl, Nat.le_of_ble_eq_true rfl⟩, q_4, trivial⟩ ⟨fun a U g mk q => by obtain ⟨q0, q1, qP, qE, qD⟩ := q; exact ⟨q0, q1, qP, cE.same (s := U) rfl qE, qD⟩, fun U hU hW => ⟨rfl, by rw [hU], by rw [hU]; exact hPc, hE.warm hW, hDc.weaken (fun _ _ _ _ => trivial)⟩⟩ rfl rfl hl.1 rfl (lv_room (Nat.le_of_ble_eq_true rfl)) dX0_pickUp_38 ⟨Nat.zero_le _, Nat.zero_le _⟩) hS (fun q _ h => hFc q h) hFc (fun u t H1 locs ht hvm h_38 hB hz1 hk1 hS => ?_)
            obtain ⟨hP1, -, hD1⟩ := hB
            rw [ht] at hP1
            obtain ⟨hP, hD⟩ := va_join (wr := [(j, .inr (0, [.ref a1, .ref a2, .ref a3, .int σ.2.2.2.1, .int σ.2.2.2.2.1, .int σ.2.2.2.2.2.1, .int σ.2.2.2.2.2.2.1, .double σ.2.2.2.2.2.2.2])), (a2, .inl (cI, 6, .inl σ.2.1)), (a3, .inl (cI, 6, .inl σ.2.2.1))]) (w1 := [(a1, .inl (cI, 6, .inl (S_X3_setCell 6 σ.1 (nI k) σ.2.2.2.2.1)))]) hP hD [1] [0, 2, 3] rfl rfl (by decide) (by decide) hk1 hFc hP1 hD1
            have hP := hP.sub (ws' := [(j, .inr (0, [.ref a1, .ref a2, .ref a3, .int σ.2.2.2.1, .int σ.2.2.2.2.1, .int σ.2.2.2.2.2.1, .int σ.2.2.2.2.2.2.1, .double σ.2.2.2.2.2.2.2])), (a1, .inl (cI, 6, .inl (S_X3_setCell 6 σ.1 (nI k) σ.2.2.2.2.1))), (a2, .inl (cI, 6, .inl σ.2.1)), (a3, .inl (cI, 6, .inl σ.2.2.1))]) [0, 3, 1, 2] rfl
            have hD := hD.sub (ws' := [(j, .inr (0, [.ref a1, .ref a2, .ref a3, .int σ.2.2.2.1, .int σ.2.2.2.2.1, .int σ.2.2.2.2.2.1, .int σ.2.2.2.2.2.2.1, .double σ.2.2.2.2.2.2.2])), (a1, .inl (cI, 6, .inl (S_X3_setCell 6 σ.1 (nI k) σ.2.2.2.2.1))), (a2, .inl (cI, 6, .inl σ.2.1)), (a3, .inl (cI, 6, .inl σ.2.2.1))]) [0, 3, 1, 2] (by decide) rfl
            clear hPc hDc hP1 hD1 hk1 hFc hz1 ht hvm
            generalize H1 = H at hP hS ⊢
            refine lv_iload_n hx hb dX0_pickUp_41 rfl (lv_at hl 0 rfl) ?_
            have e9 : S_X0_pickUp σ = (nI k, ((S_X3_setCell 6 σ.1 (nI k) σ.2.2.2.2.1), σ.2.1, σ.2.2.1, σ.2.2.2.1, σ.2.2.2.2.1, σ.2.2.2.2.2.1, σ.2.2.2.2.2.2.1, σ.2.2.2.2.2.2.2)) := by rw [← hG13]; simp only [G_X0_pickUp_13, if_neg c_26]
            exact W.iret (v := (nI k)) hx hb hr (fun t ht hW => ⟨⟨(nI k), (), rfl, by rw [e9], by rw [ht, e9]; exact hP, hE.warm hW, by rw [e9]; exact hD⟩, hS.F ht⟩) hS.2.2 dX0_pickUp_42
    exact loop13 σ.2.2.2.1.toNatClampNeg 0 _ _ ls (by omega) (by simp only [S_X0_pickUp, if_pos c_6]) (lv_sub hl [0, 1] rfl) hP hD hS
  · refine lv_iconst (v := (-1)) hx hb dX0_pickUp_9 (by decide) ?_
    have e9 : S_X0_pickUp σ = ((-1), σ) := by simp only [S_X0_pickUp, if_neg c_6]
    exact W.iret (v := (-1)) hx hb hr (fun t ht hW => ⟨⟨(-1), (), rfl, by rw [e9], by rw [ht, e9]; exact hP, hE.warm hW, by rw [e9]; exact hD⟩, hS.F ht⟩) hS.2.2 dX0_pickUp_10
end
section
/-! LAID BY MY PROGRAM wip/gen/p26.py: contracts, method by method -/
def S_X1_length (ρ : RS) : Int32 := ρ.2.2.2.2.2.1
set_option maxHeartbeats 4000000 in
set_option maxRecDepth 100000 in
theorem c_X1_length (l : Launch) (dC : Nat → ClassId) (dI : Nat → Nat → Nat) (cI cR : ClassId) (h h1 h2 h3 h4 h5 : Nat) (ρ : RS)   : Met l yX1_length wsX1_length ({ frames := 0, cells := 0, slots := 0, locals := 0 }) (va_Pc [.ref h] (fun U => va_P (dC, dI) vwCl (wR cI h h1 h2 h3 h4 h5 ρ) U.heap ∧ cE (dC, dI) cI cR U)) (vp_Si (fun r => r = S_X1_length ρ)) 0 0 (fun _ => False) := by
  refine Met.ofW (cc := cX1_length) (maxL := 1) (ret := (some .int)) (by decide) rfl ?_
  intro p e s m args below meth c s₁ B hml hv
  obtain ⟨rfl, hP, hE⟩ := hv
  have hK := hE.1
  have hx := B.exec
  have hb := B.bytes
  have hr := B.returns
  have hts := atoms_spec (ws := wsX1_length) B.pre
  have hown : s.vm.findClass RX1 = some m.cls := findClass_of_methodNamed B.named
  have hlocks := B.notSynchronized
  have hP : va_P (dC, dI) vwCl [(h, .inr (1, [.ref h1, .ref h2, .ref h3, .ref h4, .ref h5, .int ρ.2.2.2.2.2.1, .int ρ.2.2.2.2.2.2])), (h1, .inl (cI, 8, .inl ρ.1)), (h2, .inl (cI, 8, .inl ρ.2.1)), (h3, .inl (cI, 8, .inl ρ.2.2.1)), (h4, .inl (cI, 8, .inl ρ.2.2.2.1)), (h5, .inl (cI, 8, .inl ρ.2.2.2.2.1))] s.heap := hP
  have hl := lv_entry ([.ref h]) (n := 1) (Nat.le_of_ble_eq_true rfl)
  rw [lg_entry_eq]
  generalize (lg_sl ([.ref h]) ++ List.replicate (1 - (lg_sl ([.ref h])).length) Slot.unset).toArray = ls at hl ⊢
  have hl : lv_has ls 1 [(0, .ref h)] := hl
  have q_0 := hts (.fieldLink RX1 27 "Cascadecourt$Row" "length" "I") (by decide +kernel)
  have in_X1 : ∀ w ∈ wsX10, w ∈ wsX1_length := by decide +kernel
  refine lv_aload_n hx hb dX1_length_0 rfl (lv_at hl 0 rfl) ?_
  refine va_get (D := (dC, dI)) (ci := 1) (v := .int ρ.2.2.2.2.2.1) (C := RX1) (T := TX1) (N := 7) hx hb hts in_X1 hown hK hP 0 rfl rfl 5 (by decide) q_0 (fun _ h9 => h9) rfl dX1_length_1 ?_
  exact W.iret (v := ρ.2.2.2.2.2.1) hx hb hr (fun t ht hW => ⟨ρ.2.2.2.2.2.1, rfl, by simp only [S_X1_length], ht⟩) (fun q h => by cases h) dX1_length_4
def S_X1_hasSite (ρ : RS) (p0 : Int32) : Int32 := (if p0 < 0 then 0 else (if ρ.2.2.2.2.2.1 ≤ p0 then 0 else 1))
set_option maxHeartbeats 4000000 in
set_option maxRecDepth 100000 in
theorem c_X1_hasSite (l : Launch) (dC : Nat → ClassId) (dI : Nat → Nat → Nat) (cI cR : ClassId) (h h1 h2 h3 h4 h5 : Nat) (ρ : RS) (p0 : Int32)  : Met l yX1_hasSite wsX1_hasSite ({ frames := 0, cells := 0, slots := 0, locals := 0 }) (va_Pc [.ref h, .int p0] (fun U => va_P (dC, dI) vwCl (wR cI h h1 h2 h3 h4 h5 ρ) U.heap ∧ cE (dC, dI) cI cR U)) (vp_Si (fun r => r = S_X1_hasSite ρ p0 ∧ (r = 0 ∨ r = 1))) 0 0 (fun _ => False) := by
  refine Met.ofW (cc := cX1_hasSite) (maxL := 2) (ret := (some .boolean)) (by decide) rfl ?_
  intro p e s m args below meth c s₁ B hml hv
  obtain ⟨rfl, hP, hE⟩ := hv
  have hK := hE.1
  have hx := B.exec
  have hb := B.bytes
  have hr := B.returns
  have hts := atoms_spec (ws := wsX1_hasSite) B.pre
  have hown : s.vm.findClass RX1 = some m.cls := findClass_of_methodNamed B.named
  have hlocks := B.notSynchronized
  have hP : va_P (dC, dI) vwCl [(h, .inr (1, [.ref h1, .ref h2, .ref h3, .ref h4, .ref h5, .int ρ.2.2.2.2.2.1, .int ρ.2.2.2.2.2.2])), (h1, .inl (cI, 8, .inl ρ.1)), (h2, .inl (cI, 8, .inl ρ.2.1)), (h3, .inl (cI, 8, .inl ρ.2.2.1)), (h4, .inl (cI, 8, .inl ρ.2.2.2.1)), (h5, .inl (cI, 8, .inl ρ.2.2.2.2.1))] s.heap := hP
  have hl := lv_entry ([.ref h, .int p0]) (n := 2) (Nat.le_of_ble_eq_true rfl)
  rw [lg_entry_eq]
  generalize (lg_sl ([.ref h, .int p0]) ++ List.replicate (2 - (lg_sl ([.ref h, .int p0])).length) Slot.unset).toArray = ls at hl ⊢
  have hl : lv_has ls 2 [(0, .ref h), (1, .int p0)] := hl
  have q_0 := hts (.fieldLink RX1 27 "Cascadecourt$Row" "length" "I") (by decide +kernel)
  have in_X1 : ∀ w ∈ wsX10, w ∈ wsX1_hasSite := by decide +kernel
  refine lv_iload_n hx hb dX1_hasSite_0 rfl (lv_at hl 1 rfl) ?_
  refine lv_if_lt (tgt := 16) hx hb dX1_hasSite_1 (by decide) (fun c_1 => ?_) (fun c_1 => ?_)
  · refine lv_iconst (v := 0) hx hb dX1_hasSite_16 (by decide) ?_
    exact W.zret (v := 0) (ty := .boolean) hx hb hr (p_nar (Or.inl rfl)) (fun t ht hW => ⟨0, rfl, ⟨by simp only [S_X1_hasSite, if_pos c_1], (Or.inl rfl)⟩, ht⟩) (fun q h => by cases h) dX1_hasSite_17
  · refine lv_iload_n hx hb dX1_hasSite_4 rfl (lv_at hl 1 rfl) ?_
    refine lv_aload_n hx hb dX1_hasSite_5 rfl (lv_at hl 0 rfl) ?_
    refine va_get (D := (dC, dI)) (ci := 1) (v := .int ρ.2.2.2.2.2.1) (C := RX1) (T := TX1) (N := 7) hx hb hts in_X1 hown hK hP 0 rfl rfl 5 (by decide) q_0 (fun _ h9 => h9) rfl dX1_hasSite_6 ?_
    refine lv_icmp_ge (tgt := 16) hx hb dX1_hasSite_9 (by decide) (fun c_9 => ?_) (fun c_9 => ?_)
    · refine lv_iconst (v := 0) hx hb dX1_hasSite_16 (by decide) ?_
      exact W.zret (v := 0) (ty := .boolean) hx hb hr (p_nar (Or.inl rfl)) (fun t ht hW => ⟨0, rfl, ⟨by simp only [S_X1_hasSite, if_neg c_1, if_pos c_9], (Or.inl rfl)⟩, ht⟩) (fun q h => by cases h) dX1_hasSite_17
    · refine lv_iconst (v := 1) hx hb dX1_hasSite_12 (by decide) ?_
      refine lv_goto (tgt := 17) hx hb dX1_hasSite_13 (by decide) ?_
      exact W.zret (v := 1) (ty := .boolean) hx hb hr (p_nar (Or.inr rfl)) (fun t ht hW => ⟨1, rfl, ⟨by simp only [S_X1_hasSite, if_neg c_1, if_neg c_9], (Or.inr rfl)⟩, ht⟩) (fun q h => by cases h) dX1_hasSite_17
def S_X1_siteOf (ρ : RS) (p0 : Int32) : Int32 := (if ρ.2.2.2.2.2.1 ≤ 0 then 0 else S_J9_floorMod_7cf53 p0 ρ.2.2.2.2.2.1)
set_option maxHeartbeats 4000000 in
set_option maxRecDepth 100000 in
theorem c_X1_siteOf (l : Launch) (dC : Nat → ClassId) (dI : Nat → Nat → Nat) (cI cR : ClassId) (h h1 h2 h3 h4 h5 : Nat) (ρ : RS) (p0 : Int32)  : Met l yX1_siteOf wsX1_siteOf ({ frames := 1, cells := 0, slots := 0, locals := 22 }) (va_Pc [.ref h, .int p0] (fun U => va_P (dC, dI) vwCl (wR cI h h1 h2 h3 h4 h5 ρ) U.heap ∧ cE (dC, dI) cI cR U)) (vp_Si (fun r => r = S_X1_siteOf ρ p0)) 0 0 (fun _ => False) := by
  refine Met.ofW (cc := cX1_siteOf) (maxL := 2) (ret := (some .int)) (by decide) rfl ?_
  intro p e s m args below meth c s₁ B hml hv
  obtain ⟨rfl, hP, hE⟩ := hv
  have hK := hE.1
  have hx := B.exec
  have hb := B.bytes
  have hr := B.returns
  have hts := atoms_spec (ws := wsX1_siteOf) B.pre
  have hown : s.vm.findClass RX1 = some m.cls := findClass_of_methodNamed B.named
  have hlocks := B.notSynchronized
  have hP : va_P (dC, dI) vwCl [(h, .inr (1, [.ref h1, .ref h2, .ref h3, .ref h4, .ref h5, .int ρ.2.2.2.2.2.1, .int ρ.2.2.2.2.2.2])), (h1, .inl (cI, 8, .inl ρ.1)), (h2, .inl (cI, 8, .inl ρ.2.1)), (h3, .inl (cI, 8, .inl ρ.2.2.1)), (h4, .inl (cI, 8, .inl ρ.2.2.2.1)), (h5, .inl (cI, 8, .inl ρ.2.2.2.2.1))] s.heap := hP
  have hl := lv_entry ([.ref h, .int p0]) (n := 2) (Nat.le_of_ble_eq_true rfl)
  rw [lg_entry_eq]
  generalize (lg_sl ([.ref h, .int p0]) ++ List.replicate (2 - (lg_sl ([.ref h, .int p0])).length) Slot.unset).toArray = ls at hl ⊢
  have hl : lv_has ls 2 [(0, .ref h), (1, .int p0)] := hl
  have q_0 := hts (.fieldLink RX1 27 "Cascadecourt$Row" "length" "I") (by decide +kernel)
  have in_X1 : ∀ w ∈ wsX10, w ∈ wsX1_siteOf := by decide +kernel
  refine lv_aload_n hx hb dX1_siteOf_0 rfl (lv_at hl 0 rfl) ?_
  refine va_get (D := (dC, dI)) (ci := 1) (v := .int ρ.2.2.2.2.2.1) (C := RX1) (T := TX1) (N := 7) hx hb hts in_X1 hown hK hP 0 rfl rfl 5 (by decide) q_0 (fun _ h9 => h9) rfl dX1_siteOf_1 ?_
  refine lv_if_le (tgt := 18) hx hb dX1_siteOf_4 (by decide) (fun c_4 => ?_) (fun c_4 => ?_)
  · refine lv_iconst (v := 0) hx hb dX1_siteOf_18 (by decide) ?_
    exact W.iret (v := 0) hx hb hr (fun t ht hW => ⟨0, rfl, by simp only [S_X1_siteOf, if_pos c_4], ht⟩) (fun q h => by cases h) dX1_siteOf_19
  · refine lv_iload_n hx hb dX1_siteOf_7 rfl (lv_at hl 1 rfl) ?_
    refine lv_aload_n hx hb dX1_siteOf_8 rfl (lv_at hl 0 rfl) ?_
    refine va_get (D := (dC, dI)) (ci := 1) (v := .int ρ.2.2.2.2.2.1) (C := RX1) (T := TX1) (N := 7) hx hb hts in_X1 hown hK hP 0 rfl rfl 5 (by decide) q_0 (fun _ h9 => h9) rfl dX1_siteOf_9 ?_
    refine vp_callSi (va_Run.run (va_runS (As := [.int p0, .int ρ.2.2.2.2.2.1]) (rest := []) ⟨hx, hb, hml, hown, hts⟩ (c_J9_floorMod_7cf53 l p0 ρ.2.2.2.2.2.1 (p_pos c_4)) (va_cwS 2 hts gX1_siteOf_J9_floorMod_7cf53 rfl rfl rfl (by decide +kernel) ⟨Nat.le_of_ble_eq_true rfl, Nat.le_of_ble_eq_true rfl⟩) ⟨fun a U g mk q => q, fun U hU hW => ⟨rfl, trivial⟩⟩ rfl rfl hl.1 rfl (lv_room (Nat.le_of_ble_eq_true rfl)) dX1_siteOf_12 ⟨Nat.zero_le _, Nat.zero_le _⟩)) (fun r_12 h_12 => ?_)
    subst h_12
    refine lv_goto (tgt := 19) hx hb dX1_siteOf_15 (by decide) ?_
    exact W.iret (v := (S_J9_floorMod_7cf53 p0 ρ.2.2.2.2.2.1)) hx hb hr (fun t ht hW => ⟨(S_J9_floorMod_7cf53 p0 ρ.2.2.2.2.2.1), rfl, by simp only [S_X1_siteOf, if_neg c_4], ht⟩) (fun q h => by cases h) dX1_siteOf_19
def S_X1_throwAt (ρ : RS) (p0 : Int32) : Int32 := S_X3_cell 8 ρ.1 (S_X1_siteOf ρ p0)
set_option maxHeartbeats 4000000 in
set_option maxRecDepth 100000 in
theorem c_X1_throwAt (l : Launch) (dC : Nat → ClassId) (dI : Nat → Nat → Nat) (cI cR : ClassId) (h h1 h2 h3 h4 h5 : Nat) (ρ : RS) (p0 : Int32)  : Met l yX1_throwAt wsX1_throwAt ({ frames := 2, cells := 0, slots := 0, locals := 43 }) (va_Pc [.ref h, .int p0] (fun U => va_P (dC, dI) vwCl (wR cI h h1 h2 h3 h4 h5 ρ) U.heap ∧ cE (dC, dI) cI cR U)) (vp_Si (fun r => r = S_X1_throwAt ρ p0)) 0 0 (fun _ => False) := by
  refine Met.ofW (cc := cX1_throwAt) (maxL := 2) (ret := (some .int)) (by decide) rfl ?_
  intro p e s m args below meth c s₁ B hml hv
  obtain ⟨rfl, hP, hE⟩ := hv
  have hK := hE.1
  have hx := B.exec
  have hb := B.bytes
  have hr := B.returns
  have hts := atoms_spec (ws := wsX1_throwAt) B.pre
  have hown : s.vm.findClass RX1 = some m.cls := findClass_of_methodNamed B.named
  have hlocks := B.notSynchronized
  have hP : va_P (dC, dI) vwCl [(h, .inr (1, [.ref h1, .ref h2, .ref h3, .ref h4, .ref h5, .int ρ.2.2.2.2.2.1, .int ρ.2.2.2.2.2.2])), (h1, .inl (cI, 8, .inl ρ.1)), (h2, .inl (cI, 8, .inl ρ.2.1)), (h3, .inl (cI, 8, .inl ρ.2.2.1)), (h4, .inl (cI, 8, .inl ρ.2.2.2.1)), (h5, .inl (cI, 8, .inl ρ.2.2.2.2.1))] s.heap := hP
  have hl := lv_entry ([.ref h, .int p0]) (n := 2) (Nat.le_of_ble_eq_true rfl)
  rw [lg_entry_eq]
  generalize (lg_sl ([.ref h, .int p0]) ++ List.replicate (2 - (lg_sl ([.ref h, .int p0])).length) Slot.unset).toArray = ls at hl ⊢
  have hl : lv_has ls 2 [(0, .ref h), (1, .int p0)] := hl
  have q_0 := hts (.fieldLink RX1 9 "Cascadecourt$Row" "heights" "[I") (by decide +kernel)
  have in_X1 : ∀ w ∈ wsX10, w ∈ wsX1_throwAt := by decide +kernel
  have q_1 := hts (.initialized RX3) (by decide +kernel)
  have q_2 := hts (.static yX3_cell) (by decide +kernel)
  refine lv_aload_n hx hb dX1_throwAt_0 rfl (lv_at hl 0 rfl) ?_
  refine va_get (D := (dC, dI)) (ci := 1) (v := .ref h1) (C := RX1) (T := TX1) (N := 7) hx hb hts in_X1 hown hK hP 0 rfl rfl 0 (by decide) q_0 (fun _ h9 => h9) rfl dX1_throwAt_1 ?_
  refine lv_aload_n hx hb dX1_throwAt_4 rfl (lv_at hl 0 rfl) ?_
  refine lv_iload_n hx hb dX1_throwAt_5 rfl (lv_at hl 1 rfl) ?_
  refine vp_callSi (va_Run.run (va_runV (As := [.int p0]) (rest := [.ref h1]) ⟨hx, hb, hml, hown, hts⟩ (c_X1_siteOf l dC dI cI cR h h1 h2 h3 h4 h5 ρ p0) (cwV 1 hts gX1_throwAt_X1_siteOf rfl rfl rfl (by decide +kernel) ⟨Nat.le_of_ble_eq_true rfl, Nat.le_of_ble_eq_true rfl⟩) ⟨fun a U g mk q => by obtain ⟨q0, qP, qE⟩ := q; exact ⟨q0, qP, cE.same (s := U) rfl qE⟩, va_recv hK hP (ci := 1) (q0 := 0) rfl rfl, fun U hU hW => ⟨rfl, by rw [hU]; exact hP.sub (ws' := (wR cI h h1 h2 h3 h4 h5 ρ)) [0, 1, 2, 3, 4, 5] rfl, hE.warm hW⟩⟩ rfl rfl hl.1 rfl (lv_room (Nat.le_of_ble_eq_true rfl)) dX1_throwAt_6 ⟨Nat.zero_le _, Nat.zero_le _⟩)) (fun r_6 h_6 => ?_)
  subst h_6
  refine vp_callSi (va_Run.run (va_runSN (As := [.ref h1, .int (S_X1_siteOf ρ p0)]) (rest := []) ⟨hx, hb, hml, hown, hts⟩ (c_X3_cell l dC dI cI cR h1 8 ρ.1 (by decide) (S_X1_siteOf ρ p0)) ⟨va_cnB 2 hts gX1_throwAt_X3_cell_n52 rfl rfl rfl (hE.2 (.methodLinkNest RX1 52 yX3_cell "Cascadecourt") (by decide +kernel)) q_1 (by decide +kernel) ⟨Nat.le_of_ble_eq_true rfl, Nat.le_of_ble_eq_true rfl⟩, q_2, trivial⟩ ⟨fun a U g mk q => by obtain ⟨q0, qP, qE⟩ := q; exact ⟨q0, qP, cE.same (s := U) rfl qE⟩, fun U hU hW => ⟨rfl, by rw [hU]; exact hP.sub (ws' := [(h1, .inl (cI, 8, .inl ρ.1))]) [1] rfl, hE.warm hW⟩⟩ rfl rfl hl.1 rfl (lv_room (Nat.le_of_ble_eq_true rfl)) dX1_throwAt_9 ⟨Nat.zero_le _, Nat.zero_le _⟩)) (fun r_9 h_9 => ?_)
  subst h_9
  exact W.iret (v := (S_X3_cell 8 ρ.1 (S_X1_siteOf ρ p0))) hx hb hr (fun t ht hW => ⟨(S_X3_cell 8 ρ.1 (S_X1_siteOf ρ p0)), rfl, by simp only [S_X1_throwAt], ht⟩) (fun q h => by cases h) dX1_throwAt_12
def S_X1_stateAt (ρ : RS) (p0 : Int32) : Int32 := S_X3_cell 8 ρ.2.2.2.2.1 p0
set_option maxHeartbeats 4000000 in
set_option maxRecDepth 100000 in
theorem c_X1_stateAt (l : Launch) (dC : Nat → ClassId) (dI : Nat → Nat → Nat) (cI cR : ClassId) (h h1 h2 h3 h4 h5 : Nat) (ρ : RS) (p0 : Int32)  : Met l yX1_stateAt wsX1_stateAt ({ frames := 1, cells := 0, slots := 0, locals := 21 }) (va_Pc [.ref h, .int p0] (fun U => va_P (dC, dI) vwCl (wR cI h h1 h2 h3 h4 h5 ρ) U.heap ∧ cE (dC, dI) cI cR U)) (vp_Si (fun r => r = S_X1_stateAt ρ p0)) 0 0 (fun _ => False) := by
  refine Met.ofW (cc := cX1_stateAt) (maxL := 2) (ret := (some .int)) (by decide) rfl ?_
  intro p e s m args below meth c s₁ B hml hv
  obtain ⟨rfl, hP, hE⟩ := hv
  have hK := hE.1
  have hx := B.exec
  have hb := B.bytes
  have hr := B.returns
  have hts := atoms_spec (ws := wsX1_stateAt) B.pre
  have hown : s.vm.findClass RX1 = some m.cls := findClass_of_methodNamed B.named
  have hlocks := B.notSynchronized
  have hP : va_P (dC, dI) vwCl [(h, .inr (1, [.ref h1, .ref h2, .ref h3, .ref h4, .ref h5, .int ρ.2.2.2.2.2.1, .int ρ.2.2.2.2.2.2])), (h1, .inl (cI, 8, .inl ρ.1)), (h2, .inl (cI, 8, .inl ρ.2.1)), (h3, .inl (cI, 8, .inl ρ.2.2.1)), (h4, .inl (cI, 8, .inl ρ.2.2.2.1)), (h5, .inl (cI, 8, .inl ρ.2.2.2.2.1))] s.heap := hP
  have hl := lv_entry ([.ref h, .int p0]) (n := 2) (Nat.le_of_ble_eq_true rfl)
  rw [lg_entry_eq]
  generalize (lg_sl ([.ref h, .int p0]) ++ List.replicate (2 - (lg_sl ([.ref h, .int p0])).length) Slot.unset).toArray = ls at hl ⊢
  have hl : lv_has ls 2 [(0, .ref h), (1, .int p0)] := hl
  have q_0 := hts (.fieldLink RX1 24 "Cascadecourt$Row" "states" "[I") (by decide +kernel)
  have in_X1 : ∀ w ∈ wsX10, w ∈ wsX1_stateAt := by decide +kernel
  have q_1 := hts (.initialized RX3) (by decide +kernel)
  have q_2 := hts (.static yX3_cell) (by decide +kernel)
  refine lv_aload_n hx hb dX1_stateAt_0 rfl (lv_at hl 0 rfl) ?_
  refine va_get (D := (dC, dI)) (ci := 1) (v := .ref h5) (C := RX1) (T := TX1) (N := 7) hx hb hts in_X1 hown hK hP 0 rfl rfl 4 (by decide) q_0 (fun _ h9 => h9) rfl dX1_stateAt_1 ?_
  refine lv_iload_n hx hb dX1_stateAt_4 rfl (lv_at hl 1 rfl) ?_
  refine vp_callSi (va_Run.run (va_runSN (As := [.ref h5, .int p0]) (rest := []) ⟨hx, hb, hml, hown, hts⟩ (c_X3_cell l dC dI cI cR h5 8 ρ.2.2.2.2.1 (by decide) p0) ⟨va_cnB 2 hts gX1_stateAt_X3_cell_n52 rfl rfl rfl (hE.2 (.methodLinkNest RX1 52 yX3_cell "Cascadecourt") (by decide +kernel)) q_1 (by decide +kernel) ⟨Nat.le_of_ble_eq_true rfl, Nat.le_of_ble_eq_true rfl⟩, q_2, trivial⟩ ⟨fun a U g mk q => by obtain ⟨q0, qP, qE⟩ := q; exact ⟨q0, qP, cE.same (s := U) rfl qE⟩, fun U hU hW => ⟨rfl, by rw [hU]; exact hP.sub (ws' := [(h5, .inl (cI, 8, .inl ρ.2.2.2.2.1))]) [5] rfl, hE.warm hW⟩⟩ rfl rfl hl.1 rfl (lv_room (Nat.le_of_ble_eq_true rfl)) dX1_stateAt_5 ⟨Nat.zero_le _, Nat.zero_le _⟩)) (fun r_5 h_5 => ?_)
  subst h_5
  exact W.iret (v := (S_X3_cell 8 ρ.2.2.2.2.1 p0)) hx hb hr (fun t ht hW => ⟨(S_X3_cell 8 ρ.2.2.2.2.1 p0), rfl, by simp only [S_X1_stateAt], ht⟩) (fun q h => by cases h) dX1_stateAt_8
def G_X1_turnFrom_7 (ρ : RS) (p0 : Int32) : Nat → Nat → Int32 → Int32 → Int32
  | 0, k, v2, v3 => v2
  | mm + 1, k, v2, v3 => (if (S_X3_cell 8 ρ.2.2.1 v3) = p0 then v2 + (S_X3_cell 8 ρ.1 v3) else G_X1_turnFrom_7 ρ p0 mm (k + 1) (v2 + (S_X3_cell 8 ρ.1 v3)) (S_X3_cell 8 ρ.2.2.1 v3))
def S_X1_turnFrom (ρ : RS) (p0 : Int32) : Int32 := G_X1_turnFrom_7 ρ p0 ρ.2.2.2.2.2.1.toNatClampNeg 0 0 p0
set_option maxHeartbeats 4000000 in
set_option maxRecDepth 100000 in
theorem c_X1_turnFrom (l : Launch) (dC : Nat → ClassId) (dI : Nat → Nat → Nat) (cI cR : ClassId) (h h1 h2 h3 h4 h5 : Nat) (ρ : RS) (p0 : Int32)  : Met l yX1_turnFrom wsX1_turnFrom ({ frames := 1, cells := 0, slots := 0, locals := 21 }) (va_Pc [.ref h, .int p0] (fun U => va_P (dC, dI) vwCl (wR cI h h1 h2 h3 h4 h5 ρ) U.heap ∧ cE (dC, dI) cI cR U)) (vp_Si (fun r => r = S_X1_turnFrom ρ p0)) 0 0 (fun _ => False) := by
  refine Met.ofW (cc := cX1_turnFrom) (maxL := 5) (ret := (some .int)) (by decide) rfl ?_
  intro p e s m args below meth c s₁ B hml hv
  obtain ⟨rfl, hP, hE⟩ := hv
  have hK := hE.1
  have hx := B.exec
  have hb := B.bytes
  have hr := B.returns
  have hts := atoms_spec (ws := wsX1_turnFrom) B.pre
  have hown : s.vm.findClass RX1 = some m.cls := findClass_of_methodNamed B.named
  have hlocks := B.notSynchronized
  have hP : va_P (dC, dI) vwCl [(h, .inr (1, [.ref h1, .ref h2, .ref h3, .ref h4, .ref h5, .int ρ.2.2.2.2.2.1, .int ρ.2.2.2.2.2.2])), (h1, .inl (cI, 8, .inl ρ.1)), (h2, .inl (cI, 8, .inl ρ.2.1)), (h3, .inl (cI, 8, .inl ρ.2.2.1)), (h4, .inl (cI, 8, .inl ρ.2.2.2.1)), (h5, .inl (cI, 8, .inl ρ.2.2.2.2.1))] s.heap := hP
  have hl := lv_entry ([.ref h, .int p0]) (n := 5) (Nat.le_of_ble_eq_true rfl)
  rw [lg_entry_eq]
  generalize (lg_sl ([.ref h, .int p0]) ++ List.replicate (5 - (lg_sl ([.ref h, .int p0])).length) Slot.unset).toArray = ls at hl ⊢
  have hl : lv_has ls 5 [(0, .ref h), (1, .int p0)] := hl
  have q_0 := hts (.fieldLink RX1 27 "Cascadecourt$Row" "length" "I") (by decide +kernel)
  have in_X1 : ∀ w ∈ wsX10, w ∈ wsX1_turnFrom := by decide +kernel
  have q_1 := hts (.fieldLink RX1 9 "Cascadecourt$Row" "heights" "[I") (by decide +kernel)
  have q_2 := hts (.initialized RX3) (by decide +kernel)
  have q_3 := hts (.static yX3_cell) (by decide +kernel)
  have q_4 := hts (.fieldLink RX1 18 "Cascadecourt$Row" "landings" "[I") (by decide +kernel)
  refine lv_iconst (v := 0) hx hb dX1_turnFrom_0 (by decide) ?_
  refine lv_istore_n (lv' := [(2, .int 0), (0, .ref h), (1, .int p0)]) hx hb dX1_turnFrom_1 rfl hl (by decide) rfl (fun ls hl => ?_)
  refine lv_iload_n hx hb dX1_turnFrom_2 rfl (lv_at hl 2 rfl) ?_
  refine lv_istore_n (lv' := [(3, .int p0), (2, .int 0), (0, .ref h), (1, .int p0)]) hx hb dX1_turnFrom_3 rfl hl (by decide) rfl (fun ls hl => ?_)
  refine lv_iconst (v := 0) hx hb dX1_turnFrom_4 (by decide) ?_
  refine lv_istore (lv' := [(4, .int 0), (3, .int p0), (2, .int 0), (0, .ref h), (1, .int p0)]) hx hb dX1_turnFrom_5 hl (by decide) rfl (fun ls hl => ?_)
  have hn7 := p_clt ρ.2.2.2.2.2.1
  have loop7 : ∀ (mm k : Nat) (v2 : Int32) (v3 : Int32) (ls : Array Slot), k + mm = ρ.2.2.2.2.2.1.toNatClampNeg → G_X1_turnFrom_7 ρ p0 mm k v2 v3 = S_X1_turnFrom ρ p0 → lv_has ls 5 [(4, .int (nI k)), (3, .int v3), (2, .int v2), (0, .ref h), (1, .int p0)] → W p l e (headSpec wsX1_turnFrom ({ frames := 1, cells := 0, slots := 0, locals := 21 })).room s m (([.ref h, .int p0] : List Value).toArray) below meth c s.heap [] 0 0 (MQ below (vp_Si (fun r => r = S_X1_turnFrom ρ p0)) (([.ref h, .int p0] : List Value).toArray) s 0 0 (fun _ => False)) (F0 m 7 ls []) := by
    intro mm
    induction mm with
    | zero =>
      intro k v2 v3 ls hk7 hG7 hl
      refine lv_iload hx hb dX1_turnFrom_7 (lv_at hl 0 rfl) ?_
      refine lv_aload_n hx hb dX1_turnFrom_9 rfl (lv_at hl 3 rfl) ?_
      refine va_get (D := (dC, dI)) (ci := 1) (v := .int ρ.2.2.2.2.2.1) (C := RX1) (T := TX1) (N := 7) hx hb hts in_X1 hown hK hP 0 rfl rfl 5 (by decide) q_0 (fun _ h9 => h9) rfl dX1_turnFrom_10 ?_
      refine lv_icmp_ge (tgt := 49) hx hb dX1_turnFrom_13 (by decide) (fun c_13 => ?_) (fun c_13 => ?_)
      · refine lv_iload_n hx hb dX1_turnFrom_49 rfl (lv_at hl 2 rfl) ?_
        exact W.iret (v := v2) hx hb hr (fun t ht hW => ⟨v2, rfl, by rw [← hG7]; simp only [G_X1_turnFrom_7], ht⟩) (fun q h => by cases h) dX1_turnFrom_50
      · exact absurd ((p_le (by omega)).mpr (by omega)) c_13
    | succ mm ih7 =>
      intro k v2 v3 ls hk7 hG7 hl
      refine lv_iload hx hb dX1_turnFrom_7 (lv_at hl 0 rfl) ?_
      refine lv_aload_n hx hb dX1_turnFrom_9 rfl (lv_at hl 3 rfl) ?_
      refine va_get (D := (dC, dI)) (ci := 1) (v := .int ρ.2.2.2.2.2.1) (C := RX1) (T := TX1) (N := 7) hx hb hts in_X1 hown hK hP 0 rfl rfl 5 (by decide) q_0 (fun _ h9 => h9) rfl dX1_turnFrom_10 ?_
      refine lv_icmp_ge (tgt := 49) hx hb dX1_turnFrom_13 (by decide) (fun c_13 => ?_) (fun c_13 => ?_)
      · exact absurd ((p_le (by omega)).mp c_13) (by omega)
      · refine lv_iload_n hx hb dX1_turnFrom_16 rfl (lv_at hl 2 rfl) ?_
        refine lv_aload_n hx hb dX1_turnFrom_17 rfl (lv_at hl 3 rfl) ?_
        refine va_get (D := (dC, dI)) (ci := 1) (v := .ref h1) (C := RX1) (T := TX1) (N := 7) hx hb hts in_X1 hown hK hP 0 rfl rfl 0 (by decide) q_1 (fun _ h9 => h9) rfl dX1_turnFrom_18 ?_
        refine lv_iload_n hx hb dX1_turnFrom_21 rfl (lv_at hl 1 rfl) ?_
        refine vp_callSi (va_Run.run (va_runSN (As := [.ref h1, .int v3]) (rest := [.int v2]) ⟨hx, hb, hml, hown, hts⟩ (c_X3_cell l dC dI cI cR h1 8 ρ.1 (by decide) v3) ⟨va_cnB 2 hts gX1_turnFrom_X3_cell_n52 rfl rfl rfl (hE.2 (.methodLinkNest RX1 52 yX3_cell "Cascadecourt") (by decide +kernel)) q_2 (by decide +kernel) ⟨Nat.le_of_ble_eq_true rfl, Nat.le_of_ble_eq_true rfl⟩, q_3, trivial⟩ ⟨fun a U g mk q => by obtain ⟨q0, qP, qE⟩ := q; exact ⟨q0, qP, cE.same (s := U) rfl qE⟩, fun U hU hW => ⟨rfl, by rw [hU]; exact hP.sub (ws' := [(h1, .inl (cI, 8, .inl ρ.1))]) [1] rfl, hE.warm hW⟩⟩ rfl rfl hl.1 rfl (lv_room (Nat.le_of_ble_eq_true rfl)) dX1_turnFrom_22 ⟨Nat.zero_le _, Nat.zero_le _⟩)) (fun r_22 h_22 => ?_)
        subst h_22
        refine lv_iadd hx hb dX1_turnFrom_25 ?_
        refine lv_istore_n (lv' := [(2, .int (v2 + (S_X3_cell 8 ρ.1 v3))), (4, .int (nI k)), (3, .int v3), (0, .ref h), (1, .int p0)]) hx hb dX1_turnFrom_26 rfl hl (by decide) rfl (fun ls hl => ?_)
        refine lv_aload_n hx hb dX1_turnFrom_27 rfl (lv_at hl 3 rfl) ?_
        refine va_get (D := (dC, dI)) (ci := 1) (v := .ref h3) (C := RX1) (T := TX1) (N := 7) hx hb hts in_X1 hown hK hP 0 rfl rfl 2 (by decide) q_4 (fun _ h9 => h9) rfl dX1_turnFrom_28 ?_
        refine lv_iload_n hx hb dX1_turnFrom_31 rfl (lv_at hl 2 rfl) ?_
        refine vp_callSi (va_Run.run (va_runSN (As := [.ref h3, .int v3]) (rest := []) ⟨hx, hb, hml, hown, hts⟩ (c_X3_cell l dC dI cI cR h3 8 ρ.2.2.1 (by decide) v3) ⟨va_cnB 2 hts gX1_turnFrom_X3_cell_n52 rfl rfl rfl (hE.2 (.methodLinkNest RX1 52 yX3_cell "Cascadecourt") (by decide +kernel)) q_2 (by decide +kernel) ⟨Nat.le_of_ble_eq_true rfl, Nat.le_of_ble_eq_true rfl⟩, q_3, trivial⟩ ⟨fun a U g mk q => by obtain ⟨q0, qP, qE⟩ := q; exact ⟨q0, qP, cE.same (s := U) rfl qE⟩, fun U hU hW => ⟨rfl, by rw [hU]; exact hP.sub (ws' := [(h3, .inl (cI, 8, .inl ρ.2.2.1))]) [3] rfl, hE.warm hW⟩⟩ rfl rfl hl.1 rfl (lv_room (Nat.le_of_ble_eq_true rfl)) dX1_turnFrom_32 ⟨Nat.zero_le _, Nat.zero_le _⟩)) (fun r_32 h_32 => ?_)
        subst h_32
        refine lv_istore_n (lv' := [(3, .int (S_X3_cell 8 ρ.2.2.1 v3)), (2, .int (v2 + (S_X3_cell 8 ρ.1 v3))), (4, .int (nI k)), (0, .ref h), (1, .int p0)]) hx hb dX1_turnFrom_35 rfl hl (by decide) rfl (fun ls hl => ?_)
        refine lv_iload_n hx hb dX1_turnFrom_36 rfl (lv_at hl 0 rfl) ?_
        refine lv_iload_n hx hb dX1_turnFrom_37 rfl (lv_at hl 4 rfl) ?_
        refine lv_icmp_ne (tgt := 43) hx hb dX1_turnFrom_38 (by decide) (fun c_38 => ?_) (fun c_38 => ?_)
        · refine lv_iinc (v := nI (k + 1)) (lv' := [(4, .int (nI (k + 1))), (3, .int (S_X3_cell 8 ρ.2.2.1 v3)), (2, .int (v2 + (S_X3_cell 8 ρ.1 v3))), (0, .ref h), (1, .int p0)]) hx hb dX1_turnFrom_43 hl (k := 2) rfl ((nI_succ _).symm) (by decide) rfl (fun ls hl => ?_)
          refine lv_goto (tgt := 7) hx hb dX1_turnFrom_46 (by decide) ?_
          exact ih7 (k + 1) (v2 + (S_X3_cell 8 ρ.1 v3)) (S_X3_cell 8 ρ.2.2.1 v3) ls (by omega) (by rw [← hG7]; simp only [G_X1_turnFrom_7, if_neg c_38]) (lv_sub hl [0, 1, 2, 3, 4] rfl)
        · refine lv_iload_n hx hb dX1_turnFrom_41 rfl (lv_at hl 1 rfl) ?_
          exact W.iret (v := (v2 + (S_X3_cell 8 ρ.1 v3))) hx hb hr (fun t ht hW => ⟨(v2 + (S_X3_cell 8 ρ.1 v3)), rfl, by rw [← hG7]; simp only [G_X1_turnFrom_7, if_pos c_38], ht⟩) (fun q h => by cases h) dX1_turnFrom_42
  exact loop7 ρ.2.2.2.2.2.1.toNatClampNeg 0 0 p0 ls (by omega) (by simp only [S_X1_turnFrom]) (lv_sub hl [0, 1, 2, 3, 4] rfl)
def G_X1_stateBefore_4 (ρ : RS) (p0 : Int32) : Nat → Nat → Int32 → Int32
  | 0, k, v2 => v2
  | mm + 1, k, v2 => (if ((S_X1_throwAt ρ (p0 - (nI k))) - (nI k)) < 0 then G_X1_stateBefore_4 ρ p0 mm (k + 1) v2 else G_X1_stateBefore_4 ρ p0 mm (k + 1) (v2 ||| (1 <<< (((S_X1_throwAt ρ (p0 - (nI k))) - (nI k)) &&& 31))))
def S_X1_stateBefore (ρ : RS) (p0 : Int32) : Int32 := G_X1_stateBefore_4 ρ p0 (10 - 1) 1 0
set_option maxHeartbeats 4000000 in
set_option maxRecDepth 100000 in
theorem c_X1_stateBefore (l : Launch) (dC : Nat → ClassId) (dI : Nat → Nat → Nat) (cI cR : ClassId) (h h1 h2 h3 h4 h5 : Nat) (ρ : RS) (p0 : Int32)  : Met l yX1_stateBefore wsX1_stateBefore ({ frames := 3, cells := 0, slots := 0, locals := 64 }) (va_Pc [.ref h, .int p0] (fun U => va_P (dC, dI) vwCl (wR cI h h1 h2 h3 h4 h5 ρ) U.heap ∧ cE (dC, dI) cI cR U)) (vp_Si (fun r => r = S_X1_stateBefore ρ p0)) 0 0 (fun _ => False) := by
  refine Met.ofW (cc := cX1_stateBefore) (maxL := 5) (ret := (some .int)) (by decide) rfl ?_
  intro p e s m args below meth c s₁ B hml hv
  obtain ⟨rfl, hP, hE⟩ := hv
  have hK := hE.1
  have hx := B.exec
  have hb := B.bytes
  have hr := B.returns
  have hts := atoms_spec (ws := wsX1_stateBefore) B.pre
  have hown : s.vm.findClass RX1 = some m.cls := findClass_of_methodNamed B.named
  have hlocks := B.notSynchronized
  have hP : va_P (dC, dI) vwCl [(h, .inr (1, [.ref h1, .ref h2, .ref h3, .ref h4, .ref h5, .int ρ.2.2.2.2.2.1, .int ρ.2.2.2.2.2.2])), (h1, .inl (cI, 8, .inl ρ.1)), (h2, .inl (cI, 8, .inl ρ.2.1)), (h3, .inl (cI, 8, .inl ρ.2.2.1)), (h4, .inl (cI, 8, .inl ρ.2.2.2.1)), (h5, .inl (cI, 8, .inl ρ.2.2.2.2.1))] s.heap := hP
  have hl := lv_entry ([.ref h, .int p0]) (n := 5) (Nat.le_of_ble_eq_true rfl)
  rw [lg_entry_eq]
  generalize (lg_sl ([.ref h, .int p0]) ++ List.replicate (5 - (lg_sl ([.ref h, .int p0])).length) Slot.unset).toArray = ls at hl ⊢
  have hl : lv_has ls 5 [(0, .ref h), (1, .int p0)] := hl
  refine lv_iconst (v := 0) hx hb dX1_stateBefore_0 (by decide) ?_
  refine lv_istore_n (lv' := [(2, .int 0), (0, .ref h), (1, .int p0)]) hx hb dX1_stateBefore_1 rfl hl (by decide) rfl (fun ls hl => ?_)
  refine lv_iconst (v := 1) hx hb dX1_stateBefore_2 (by decide) ?_
  refine lv_istore_n (lv' := [(3, .int 1), (2, .int 0), (0, .ref h), (1, .int p0)]) hx hb dX1_stateBefore_3 rfl hl (by decide) rfl (fun ls hl => ?_)
  have loop4 : ∀ (mm k : Nat) (v2 : Int32) (ls : Array Slot), k + mm = 10 → G_X1_stateBefore_4 ρ p0 mm k v2 = S_X1_stateBefore ρ p0 → lv_has ls 5 [(3, .int (nI k)), (2, .int v2), (0, .ref h), (1, .int p0)] → W p l e (headSpec wsX1_stateBefore ({ frames := 3, cells := 0, slots := 0, locals := 64 })).room s m (([.ref h, .int p0] : List Value).toArray) below meth c s.heap [] 0 0 (MQ below (vp_Si (fun r => r = S_X1_stateBefore ρ p0)) (([.ref h, .int p0] : List Value).toArray) s 0 0 (fun _ => False)) (F0 m 4 ls []) := by
    intro mm
    induction mm with
    | zero =>
      intro k v2 ls hk4 hG4 hl
      refine lv_iload_n hx hb dX1_stateBefore_4 rfl (lv_at hl 0 rfl) ?_
      refine lv_bipush (v := 9) hx hb dX1_stateBefore_5 (by decide) ?_
      refine lv_icmp_gt (tgt := 39) hx hb dX1_stateBefore_7 (by decide) (fun c_7 => ?_) (fun c_7 => ?_)
      · refine lv_iload_n hx hb dX1_stateBefore_39 rfl (lv_at hl 1 rfl) ?_
        exact W.iret (v := v2) hx hb hr (fun t ht hW => ⟨v2, rfl, by rw [← hG4]; simp only [G_X1_stateBefore_4], ht⟩) (fun q h => by cases h) dX1_stateBefore_40
      · exact absurd (p_9 (by omega) (by omega)) c_7
    | succ mm ih4 =>
      intro k v2 ls hk4 hG4 hl
      refine lv_iload_n hx hb dX1_stateBefore_4 rfl (lv_at hl 0 rfl) ?_
      refine lv_bipush (v := 9) hx hb dX1_stateBefore_5 (by decide) ?_
      refine lv_icmp_gt (tgt := 39) hx hb dX1_stateBefore_7 (by decide) (fun c_7 => ?_) (fun c_7 => ?_)
      · exact absurd c_7 (p_9n (by omega))
      · refine lv_aload_n hx hb dX1_stateBefore_10 rfl (lv_at hl 2 rfl) ?_
        refine lv_iload_n hx hb dX1_stateBefore_11 rfl (lv_at hl 3 rfl) ?_
        refine lv_iload_n hx hb dX1_stateBefore_12 rfl (lv_at hl 0 rfl) ?_
        refine lv_isub hx hb dX1_stateBefore_13 ?_
        refine vp_callSi (va_Run.run (va_runV (As := [.int (p0 - (nI k))]) (rest := []) ⟨hx, hb, hml, hown, hts⟩ (c_X1_throwAt l dC dI cI cR h h1 h2 h3 h4 h5 ρ (p0 - (nI k))) (cwV 1 hts gX1_stateBefore_X1_throwAt rfl rfl rfl (by decide +kernel) ⟨Nat.le_of_ble_eq_true rfl, Nat.le_of_ble_eq_true rfl⟩) ⟨fun a U g mk q => by obtain ⟨q0, qP, qE⟩ := q; exact ⟨q0, qP, cE.same (s := U) rfl qE⟩, va_recv hK hP (ci := 1) (q0 := 0) rfl rfl, fun U hU hW => ⟨rfl, by rw [hU]; exact hP.sub (ws' := (wR cI h h1 h2 h3 h4 h5 ρ)) [0, 1, 2, 3, 4, 5] rfl, hE.warm hW⟩⟩ rfl rfl hl.1 rfl (lv_room (Nat.le_of_ble_eq_true rfl)) dX1_stateBefore_14 ⟨Nat.zero_le _, Nat.zero_le _⟩)) (fun r_14 h_14 => ?_)
        subst h_14
        refine lv_iload_n hx hb dX1_stateBefore_17 rfl (lv_at hl 0 rfl) ?_
        refine lv_isub hx hb dX1_stateBefore_18 ?_
        refine lv_istore (lv' := [(4, .int ((S_X1_throwAt ρ (p0 - (nI k))) - (nI k))), (3, .int (nI k)), (2, .int v2), (0, .ref h), (1, .int p0)]) hx hb dX1_stateBefore_19 hl (by decide) rfl (fun ls hl => ?_)
        refine lv_iload hx hb dX1_stateBefore_21 (lv_at hl 0 rfl) ?_
        refine lv_if_lt (tgt := 33) hx hb dX1_stateBefore_23 (by decide) (fun c_23 => ?_) (fun c_23 => ?_)
        · refine lv_iinc (v := nI (k + 1)) (lv' := [(3, .int (nI (k + 1))), (4, .int ((S_X1_throwAt ρ (p0 - (nI k))) - (nI k))), (2, .int v2), (0, .ref h), (1, .int p0)]) hx hb dX1_stateBefore_33 hl (k := 1) rfl ((nI_succ _).symm) (by decide) rfl (fun ls hl => ?_)
          refine lv_goto (tgt := 4) hx hb dX1_stateBefore_36 (by decide) ?_
          exact ih4 (k + 1) v2 ls (by omega) (by rw [← hG4]; simp only [G_X1_stateBefore_4, if_pos c_23]) (lv_sub hl [0, 2, 3, 4] rfl)
        · refine lv_iload_n hx hb dX1_stateBefore_26 rfl (lv_at hl 2 rfl) ?_
          refine lv_iconst (v := 1) hx hb dX1_stateBefore_27 (by decide) ?_
          refine lv_iload hx hb dX1_stateBefore_28 (lv_at hl 0 rfl) ?_
          refine lv_ishl hx hb dX1_stateBefore_30 ?_
          refine lv_ior hx hb dX1_stateBefore_31 ?_
          refine lv_istore_n (lv' := [(2, .int (v2 ||| (1 <<< (((S_X1_throwAt ρ (p0 - (nI k))) - (nI k)) &&& 31)))), (4, .int ((S_X1_throwAt ρ (p0 - (nI k))) - (nI k))), (3, .int (nI k)), (0, .ref h), (1, .int p0)]) hx hb dX1_stateBefore_32 rfl hl (by decide) rfl (fun ls hl => ?_)
          refine lv_iinc (v := nI (k + 1)) (lv' := [(3, .int (nI (k + 1))), (2, .int (v2 ||| (1 <<< (((S_X1_throwAt ρ (p0 - (nI k))) - (nI k)) &&& 31)))), (4, .int ((S_X1_throwAt ρ (p0 - (nI k))) - (nI k))), (0, .ref h), (1, .int p0)]) hx hb dX1_stateBefore_33 hl (k := 2) rfl ((nI_succ _).symm) (by decide) rfl (fun ls hl => ?_)
          refine lv_goto (tgt := 4) hx hb dX1_stateBefore_36 (by decide) ?_
          exact ih4 (k + 1) (v2 ||| (1 <<< (((S_X1_throwAt ρ (p0 - (nI k))) - (nI k)) &&& 31))) ls (by omega) (by rw [← hG4]; simp only [G_X1_stateBefore_4, if_neg c_23]) (lv_sub hl [0, 1, 3, 4] rfl)
  exact loop4 (10 - 1) 1 0 ls (by omega) (by simp only [S_X1_stateBefore]) (lv_sub hl [0, 1, 2, 3] rfl)
def G_X1_sumOfThrows_4 (ρ : RS) : Nat → Nat → Int32 → Int32
  | 0, k, v1 => v1
  | mm + 1, k, v1 => G_X1_sumOfThrows_4 ρ mm (k + 1) (v1 + (S_X3_cell 8 ρ.1 (nI k)))
def S_X1_sumOfThrows (ρ : RS) : Int32 := G_X1_sumOfThrows_4 ρ ρ.2.2.2.2.2.1.toNatClampNeg 0 0
set_option maxHeartbeats 4000000 in
set_option maxRecDepth 100000 in
theorem c_X1_sumOfThrows (l : Launch) (dC : Nat → ClassId) (dI : Nat → Nat → Nat) (cI cR : ClassId) (h h1 h2 h3 h4 h5 : Nat) (ρ : RS)   : Met l yX1_sumOfThrows wsX1_sumOfThrows ({ frames := 1, cells := 0, slots := 0, locals := 21 }) (va_Pc [.ref h] (fun U => va_P (dC, dI) vwCl (wR cI h h1 h2 h3 h4 h5 ρ) U.heap ∧ cE (dC, dI) cI cR U)) (vp_Si (fun r => r = S_X1_sumOfThrows ρ)) 0 0 (fun _ => False) := by
  refine Met.ofW (cc := cX1_sumOfThrows) (maxL := 3) (ret := (some .int)) (by decide) rfl ?_
  intro p e s m args below meth c s₁ B hml hv
  obtain ⟨rfl, hP, hE⟩ := hv
  have hK := hE.1
  have hx := B.exec
  have hb := B.bytes
  have hr := B.returns
  have hts := atoms_spec (ws := wsX1_sumOfThrows) B.pre
  have hown : s.vm.findClass RX1 = some m.cls := findClass_of_methodNamed B.named
  have hlocks := B.notSynchronized
  have hP : va_P (dC, dI) vwCl [(h, .inr (1, [.ref h1, .ref h2, .ref h3, .ref h4, .ref h5, .int ρ.2.2.2.2.2.1, .int ρ.2.2.2.2.2.2])), (h1, .inl (cI, 8, .inl ρ.1)), (h2, .inl (cI, 8, .inl ρ.2.1)), (h3, .inl (cI, 8, .inl ρ.2.2.1)), (h4, .inl (cI, 8, .inl ρ.2.2.2.1)), (h5, .inl (cI, 8, .inl ρ.2.2.2.2.1))] s.heap := hP
  have hl := lv_entry ([.ref h]) (n := 3) (Nat.le_of_ble_eq_true rfl)
  rw [lg_entry_eq]
  generalize (lg_sl ([.ref h]) ++ List.replicate (3 - (lg_sl ([.ref h])).length) Slot.unset).toArray = ls at hl ⊢
  have hl : lv_has ls 3 [(0, .ref h)] := hl
  have q_0 := hts (.fieldLink RX1 27 "Cascadecourt$Row" "length" "I") (by decide +kernel)
  have in_X1 : ∀ w ∈ wsX10, w ∈ wsX1_sumOfThrows := by decide +kernel
  have q_1 := hts (.fieldLink RX1 9 "Cascadecourt$Row" "heights" "[I") (by decide +kernel)
  have q_2 := hts (.initialized RX3) (by decide +kernel)
  have q_3 := hts (.static yX3_cell) (by decide +kernel)
  refine lv_iconst (v := 0) hx hb dX1_sumOfThrows_0 (by decide) ?_
  refine lv_istore_n (lv' := [(1, .int 0), (0, .ref h)]) hx hb dX1_sumOfThrows_1 rfl hl (by decide) rfl (fun ls hl => ?_)
  refine lv_iconst (v := 0) hx hb dX1_sumOfThrows_2 (by decide) ?_
  refine lv_istore_n (lv' := [(2, .int 0), (1, .int 0), (0, .ref h)]) hx hb dX1_sumOfThrows_3 rfl hl (by decide) rfl (fun ls hl => ?_)
  have hn4 := p_clt ρ.2.2.2.2.2.1
  have loop4 : ∀ (mm k : Nat) (v1 : Int32) (ls : Array Slot), k + mm = ρ.2.2.2.2.2.1.toNatClampNeg → G_X1_sumOfThrows_4 ρ mm k v1 = S_X1_sumOfThrows ρ → lv_has ls 3 [(2, .int (nI k)), (1, .int v1), (0, .ref h)] → W p l e (headSpec wsX1_sumOfThrows ({ frames := 1, cells := 0, slots := 0, locals := 21 })).room s m (([.ref h] : List Value).toArray) below meth c s.heap [] 0 0 (MQ below (vp_Si (fun r => r = S_X1_sumOfThrows ρ)) (([.ref h] : List Value).toArray) s 0 0 (fun _ => False)) (F0 m 4 ls []) := by
    intro mm
    induction mm with
    | zero =>
      intro k v1 ls hk4 hG4 hl
      refine lv_iload_n hx hb dX1_sumOfThrows_4 rfl (lv_at hl 0 rfl) ?_
      refine lv_aload_n hx hb dX1_sumOfThrows_5 rfl (lv_at hl 2 rfl) ?_
      refine va_get (D := (dC, dI)) (ci := 1) (v := .int ρ.2.2.2.2.2.1) (C := RX1) (T := TX1) (N := 7) hx hb hts in_X1 hown hK hP 0 rfl rfl 5 (by decide) q_0 (fun _ h9 => h9) rfl dX1_sumOfThrows_6 ?_
      refine lv_icmp_ge (tgt := 29) hx hb dX1_sumOfThrows_9 (by decide) (fun c_9 => ?_) (fun c_9 => ?_)
      · refine lv_iload_n hx hb dX1_sumOfThrows_29 rfl (lv_at hl 1 rfl) ?_
        exact W.iret (v := v1) hx hb hr (fun t ht hW => ⟨v1, rfl, by rw [← hG4]; simp only [G_X1_sumOfThrows_4], ht⟩) (fun q h => by cases h) dX1_sumOfThrows_30
      · exact absurd ((p_le (by omega)).mpr (by omega)) c_9
    | succ mm ih4 =>
      intro k v1 ls hk4 hG4 hl
      refine lv_iload_n hx hb dX1_sumOfThrows_4 rfl (lv_at hl 0 rfl) ?_
      refine lv_aload_n hx hb dX1_sumOfThrows_5 rfl (lv_at hl 2 rfl) ?_
      refine va_get (D := (dC, dI)) (ci := 1) (v := .int ρ.2.2.2.2.2.1) (C := RX1) (T := TX1) (N := 7) hx hb hts in_X1 hown hK hP 0 rfl rfl 5 (by decide) q_0 (fun _ h9 => h9) rfl dX1_sumOfThrows_6 ?_
      refine lv_icmp_ge (tgt := 29) hx hb dX1_sumOfThrows_9 (by decide) (fun c_9 => ?_) (fun c_9 => ?_)
      · exact absurd ((p_le (by omega)).mp c_9) (by omega)
      · refine lv_iload_n hx hb dX1_sumOfThrows_12 rfl (lv_at hl 1 rfl) ?_
        refine lv_aload_n hx hb dX1_sumOfThrows_13 rfl (lv_at hl 2 rfl) ?_
        refine va_get (D := (dC, dI)) (ci := 1) (v := .ref h1) (C := RX1) (T := TX1) (N := 7) hx hb hts in_X1 hown hK hP 0 rfl rfl 0 (by decide) q_1 (fun _ h9 => h9) rfl dX1_sumOfThrows_14 ?_
        refine lv_iload_n hx hb dX1_sumOfThrows_17 rfl (lv_at hl 0 rfl) ?_
        refine vp_callSi (va_Run.run (va_runSN (As := [.ref h1, .int (nI k)]) (rest := [.int v1]) ⟨hx, hb, hml, hown, hts⟩ (c_X3_cell l dC dI cI cR h1 8 ρ.1 (by decide) (nI k)) ⟨va_cnB 2 hts gX1_sumOfThrows_X3_cell_n52 rfl rfl rfl (hE.2 (.methodLinkNest RX1 52 yX3_cell "Cascadecourt") (by decide +kernel)) q_2 (by decide +kernel) ⟨Nat.le_of_ble_eq_true rfl, Nat.le_of_ble_eq_true rfl⟩, q_3, trivial⟩ ⟨fun a U g mk q => by obtain ⟨q0, qP, qE⟩ := q; exact ⟨q0, qP, cE.same (s := U) rfl qE⟩, fun U hU hW => ⟨rfl, by rw [hU]; exact hP.sub (ws' := [(h1, .inl (cI, 8, .inl ρ.1))]) [1] rfl, hE.warm hW⟩⟩ rfl rfl hl.1 rfl (lv_room (Nat.le_of_ble_eq_true rfl)) dX1_sumOfThrows_18 ⟨Nat.zero_le _, Nat.zero_le _⟩)) (fun r_18 h_18 => ?_)
        subst h_18
        refine lv_iadd hx hb dX1_sumOfThrows_21 ?_
        refine lv_istore_n (lv' := [(1, .int (v1 + (S_X3_cell 8 ρ.1 (nI k)))), (2, .int (nI k)), (0, .ref h)]) hx hb dX1_sumOfThrows_22 rfl hl (by decide) rfl (fun ls hl => ?_)
        refine lv_iinc (v := nI (k + 1)) (lv' := [(2, .int (nI (k + 1))), (1, .int (v1 + (S_X3_cell 8 ρ.1 (nI k)))), (0, .ref h)]) hx hb dX1_sumOfThrows_23 hl (k := 1) rfl ((nI_succ _).symm) (by decide) rfl (fun ls hl => ?_)
        refine lv_goto (tgt := 4) hx hb dX1_sumOfThrows_26 (by decide) ?_
        exact ih4 (k + 1) (v1 + (S_X3_cell 8 ρ.1 (nI k))) ls (by omega) (by rw [← hG4]; simp only [G_X1_sumOfThrows_4]) (lv_sub hl [0, 1, 2] rfl)
  exact loop4 ρ.2.2.2.2.2.1.toNatClampNeg 0 0 ls (by omega) (by simp only [S_X1_sumOfThrows]) (lv_sub hl [0, 1, 2] rfl)
def G_X1_crossingThrows_4 (ρ : RS) : Nat → Nat → Int32 → Int32
  | 0, k, v1 => v1
  | mm + 1, k, v1 => G_X1_crossingThrows_4 ρ mm (k + 1) (v1 + ((S_X3_cell 8 ρ.1 (nI k)) - (S_X3_cell 8 ρ.1 (nI k)) / 2 * 2))
def S_X1_crossingThrows (ρ : RS) : Int32 := G_X1_crossingThrows_4 ρ ρ.2.2.2.2.2.1.toNatClampNeg 0 0
set_option maxHeartbeats 4000000 in
set_option maxRecDepth 100000 in
theorem c_X1_crossingThrows (l : Launch) (dC : Nat → ClassId) (dI : Nat → Nat → Nat) (cI cR : ClassId) (h h1 h2 h3 h4 h5 : Nat) (ρ : RS)   : Met l yX1_crossingThrows wsX1_crossingThrows ({ frames := 1, cells := 0, slots := 0, locals := 21 }) (va_Pc [.ref h] (fun U => va_P (dC, dI) vwCl (wR cI h h1 h2 h3 h4 h5 ρ) U.heap ∧ cE (dC, dI) cI cR U)) (vp_Si (fun r => r = S_X1_crossingThrows ρ)) 0 0 (fun _ => False) := by
  refine Met.ofW (cc := cX1_crossingThrows) (maxL := 3) (ret := (some .int)) (by decide) rfl ?_
  intro p e s m args below meth c s₁ B hml hv
  obtain ⟨rfl, hP, hE⟩ := hv
  have hK := hE.1
  have hx := B.exec
  have hb := B.bytes
  have hr := B.returns
  have hts := atoms_spec (ws := wsX1_crossingThrows) B.pre
  have hown : s.vm.findClass RX1 = some m.cls := findClass_of_methodNamed B.named
  have hlocks := B.notSynchronized
  have hP : va_P (dC, dI) vwCl [(h, .inr (1, [.ref h1, .ref h2, .ref h3, .ref h4, .ref h5, .int ρ.2.2.2.2.2.1, .int ρ.2.2.2.2.2.2])), (h1, .inl (cI, 8, .inl ρ.1)), (h2, .inl (cI, 8, .inl ρ.2.1)), (h3, .inl (cI, 8, .inl ρ.2.2.1)), (h4, .inl (cI, 8, .inl ρ.2.2.2.1)), (h5, .inl (cI, 8, .inl ρ.2.2.2.2.1))] s.heap := hP
  have hl := lv_entry ([.ref h]) (n := 3) (Nat.le_of_ble_eq_true rfl)
  rw [lg_entry_eq]
  generalize (lg_sl ([.ref h]) ++ List.replicate (3 - (lg_sl ([.ref h])).length) Slot.unset).toArray = ls at hl ⊢
  have hl : lv_has ls 3 [(0, .ref h)] := hl
  have q_0 := hts (.fieldLink RX1 27 "Cascadecourt$Row" "length" "I") (by decide +kernel)
  have in_X1 : ∀ w ∈ wsX10, w ∈ wsX1_crossingThrows := by decide +kernel
  have q_1 := hts (.fieldLink RX1 9 "Cascadecourt$Row" "heights" "[I") (by decide +kernel)
  have q_2 := hts (.initialized RX3) (by decide +kernel)
  have q_3 := hts (.static yX3_cell) (by decide +kernel)
  refine lv_iconst (v := 0) hx hb dX1_crossingThrows_0 (by decide) ?_
  refine lv_istore_n (lv' := [(1, .int 0), (0, .ref h)]) hx hb dX1_crossingThrows_1 rfl hl (by decide) rfl (fun ls hl => ?_)
  refine lv_iconst (v := 0) hx hb dX1_crossingThrows_2 (by decide) ?_
  refine lv_istore_n (lv' := [(2, .int 0), (1, .int 0), (0, .ref h)]) hx hb dX1_crossingThrows_3 rfl hl (by decide) rfl (fun ls hl => ?_)
  have hn4 := p_clt ρ.2.2.2.2.2.1
  have loop4 : ∀ (mm k : Nat) (v1 : Int32) (ls : Array Slot), k + mm = ρ.2.2.2.2.2.1.toNatClampNeg → G_X1_crossingThrows_4 ρ mm k v1 = S_X1_crossingThrows ρ → lv_has ls 3 [(2, .int (nI k)), (1, .int v1), (0, .ref h)] → W p l e (headSpec wsX1_crossingThrows ({ frames := 1, cells := 0, slots := 0, locals := 21 })).room s m (([.ref h] : List Value).toArray) below meth c s.heap [] 0 0 (MQ below (vp_Si (fun r => r = S_X1_crossingThrows ρ)) (([.ref h] : List Value).toArray) s 0 0 (fun _ => False)) (F0 m 4 ls []) := by
    intro mm
    induction mm with
    | zero =>
      intro k v1 ls hk4 hG4 hl
      refine lv_iload_n hx hb dX1_crossingThrows_4 rfl (lv_at hl 0 rfl) ?_
      refine lv_aload_n hx hb dX1_crossingThrows_5 rfl (lv_at hl 2 rfl) ?_
      refine va_get (D := (dC, dI)) (ci := 1) (v := .int ρ.2.2.2.2.2.1) (C := RX1) (T := TX1) (N := 7) hx hb hts in_X1 hown hK hP 0 rfl rfl 5 (by decide) q_0 (fun _ h9 => h9) rfl dX1_crossingThrows_6 ?_
      refine lv_icmp_ge (tgt := 31) hx hb dX1_crossingThrows_9 (by decide) (fun c_9 => ?_) (fun c_9 => ?_)
      · refine lv_iload_n hx hb dX1_crossingThrows_31 rfl (lv_at hl 1 rfl) ?_
        exact W.iret (v := v1) hx hb hr (fun t ht hW => ⟨v1, rfl, by rw [← hG4]; simp only [G_X1_crossingThrows_4], ht⟩) (fun q h => by cases h) dX1_crossingThrows_32
      · exact absurd ((p_le (by omega)).mpr (by omega)) c_9
    | succ mm ih4 =>
      intro k v1 ls hk4 hG4 hl
      refine lv_iload_n hx hb dX1_crossingThrows_4 rfl (lv_at hl 0 rfl) ?_
      refine lv_aload_n hx hb dX1_crossingThrows_5 rfl (lv_at hl 2 rfl) ?_
      refine va_get (D := (dC, dI)) (ci := 1) (v := .int ρ.2.2.2.2.2.1) (C := RX1) (T := TX1) (N := 7) hx hb hts in_X1 hown hK hP 0 rfl rfl 5 (by decide) q_0 (fun _ h9 => h9) rfl dX1_crossingThrows_6 ?_
      refine lv_icmp_ge (tgt := 31) hx hb dX1_crossingThrows_9 (by decide) (fun c_9 => ?_) (fun c_9 => ?_)
      · exact absurd ((p_le (by omega)).mp c_9) (by omega)
      · refine lv_iload_n hx hb dX1_crossingThrows_12 rfl (lv_at hl 1 rfl) ?_
        refine lv_aload_n hx hb dX1_crossingThrows_13 rfl (lv_at hl 2 rfl) ?_
        refine va_get (D := (dC, dI)) (ci := 1) (v := .ref h1) (C := RX1) (T := TX1) (N := 7) hx hb hts in_X1 hown hK hP 0 rfl rfl 0 (by decide) q_1 (fun _ h9 => h9) rfl dX1_crossingThrows_14 ?_
        refine lv_iload_n hx hb dX1_crossingThrows_17 rfl (lv_at hl 0 rfl) ?_
        refine vp_callSi (va_Run.run (va_runSN (As := [.ref h1, .int (nI k)]) (rest := [.int v1]) ⟨hx, hb, hml, hown, hts⟩ (c_X3_cell l dC dI cI cR h1 8 ρ.1 (by decide) (nI k)) ⟨va_cnB 2 hts gX1_crossingThrows_X3_cell_n52 rfl rfl rfl (hE.2 (.methodLinkNest RX1 52 yX3_cell "Cascadecourt") (by decide +kernel)) q_2 (by decide +kernel) ⟨Nat.le_of_ble_eq_true rfl, Nat.le_of_ble_eq_true rfl⟩, q_3, trivial⟩ ⟨fun a U g mk q => by obtain ⟨q0, qP, qE⟩ := q; exact ⟨q0, qP, cE.same (s := U) rfl qE⟩, fun U hU hW => ⟨rfl, by rw [hU]; exact hP.sub (ws' := [(h1, .inl (cI, 8, .inl ρ.1))]) [1] rfl, hE.warm hW⟩⟩ rfl rfl hl.1 rfl (lv_room (Nat.le_of_ble_eq_true rfl)) dX1_crossingThrows_18 ⟨Nat.zero_le _, Nat.zero_le _⟩)) (fun r_18 h_18 => ?_)
        subst h_18
        refine lv_iconst (v := 2) hx hb dX1_crossingThrows_21 (by decide) ?_
        refine lv_irem hx hb dX1_crossingThrows_22 (by decide) ?_
        refine lv_iadd hx hb dX1_crossingThrows_23 ?_
        refine lv_istore_n (lv' := [(1, .int (v1 + ((S_X3_cell 8 ρ.1 (nI k)) - (S_X3_cell 8 ρ.1 (nI k)) / 2 * 2))), (2, .int (nI k)), (0, .ref h)]) hx hb dX1_crossingThrows_24 rfl hl (by decide) rfl (fun ls hl => ?_)
        refine lv_iinc (v := nI (k + 1)) (lv' := [(2, .int (nI (k + 1))), (1, .int (v1 + ((S_X3_cell 8 ρ.1 (nI k)) - (S_X3_cell 8 ρ.1 (nI k)) / 2 * 2))), (0, .ref h)]) hx hb dX1_crossingThrows_25 hl (k := 1) rfl ((nI_succ _).symm) (by decide) rfl (fun ls hl => ?_)
        refine lv_goto (tgt := 4) hx hb dX1_crossingThrows_28 (by decide) ?_
        exact ih4 (k + 1) (v1 + ((S_X3_cell 8 ρ.1 (nI k)) - (S_X3_cell 8 ρ.1 (nI k)) / 2 * 2)) ls (by omega) (by rw [← hG4]; simp only [G_X1_crossingThrows_4]) (lv_sub hl [0, 1, 2] rfl)
  exact loop4 ρ.2.2.2.2.2.1.toNatClampNeg 0 0 ls (by omega) (by simp only [S_X1_crossingThrows]) (lv_sub hl [0, 1, 2] rfl)
def S_X1_props (ρ : RS) : Int32 := (if ρ.2.2.2.2.2.2 = 0 then (-1) else (if ρ.2.2.2.2.2.1 ≤ 0 then (-1) else (S_X1_sumOfThrows ρ) / ρ.2.2.2.2.2.1))
set_option maxHeartbeats 4000000 in
set_option maxRecDepth 100000 in
theorem c_X1_props (l : Launch) (dC : Nat → ClassId) (dI : Nat → Nat → Nat) (cI cR : ClassId) (h h1 h2 h3 h4 h5 : Nat) (ρ : RS)   : Met l yX1_props wsX1_props ({ frames := 2, cells := 0, slots := 0, locals := 43 }) (va_Pc [.ref h] (fun U => va_P (dC, dI) vwCl (wR cI h h1 h2 h3 h4 h5 ρ) U.heap ∧ cE (dC, dI) cI cR U)) (vp_Si (fun r => r = S_X1_props ρ)) 0 0 (fun _ => False) := by
  refine Met.ofW (cc := cX1_props) (maxL := 1) (ret := (some .int)) (by decide) rfl ?_
  intro p e s m args below meth c s₁ B hml hv
  obtain ⟨rfl, hP, hE⟩ := hv
  have hK := hE.1
  have hx := B.exec
  have hb := B.bytes
  have hr := B.returns
  have hts := atoms_spec (ws := wsX1_props) B.pre
  have hown : s.vm.findClass RX1 = some m.cls := findClass_of_methodNamed B.named
  have hlocks := B.notSynchronized
  have hP : va_P (dC, dI) vwCl [(h, .inr (1, [.ref h1, .ref h2, .ref h3, .ref h4, .ref h5, .int ρ.2.2.2.2.2.1, .int ρ.2.2.2.2.2.2])), (h1, .inl (cI, 8, .inl ρ.1)), (h2, .inl (cI, 8, .inl ρ.2.1)), (h3, .inl (cI, 8, .inl ρ.2.2.1)), (h4, .inl (cI, 8, .inl ρ.2.2.2.1)), (h5, .inl (cI, 8, .inl ρ.2.2.2.2.1))] s.heap := hP
  have hl := lv_entry ([.ref h]) (n := 1) (Nat.le_of_ble_eq_true rfl)
  rw [lg_entry_eq]
  generalize (lg_sl ([.ref h]) ++ List.replicate (1 - (lg_sl ([.ref h])).length) Slot.unset).toArray = ls at hl ⊢
  have hl : lv_has ls 1 [(0, .ref h)] := hl
  have q_0 := hts (.fieldLink RX1 38 "Cascadecourt$Row" "sound" "Z") (by decide +kernel)
  have in_X1 : ∀ w ∈ wsX10, w ∈ wsX1_props := by decide +kernel
  have q_1 := hts (.fieldLink RX1 27 "Cascadecourt$Row" "length" "I") (by decide +kernel)
  refine lv_aload_n hx hb dX1_props_0 rfl (lv_at hl 0 rfl) ?_
  refine va_get (D := (dC, dI)) (ci := 1) (v := .int ρ.2.2.2.2.2.2) (C := RX1) (T := TX1) (N := 7) hx hb hts in_X1 hown hK hP 0 rfl rfl 6 (by decide) q_0 (fun _ h9 => h9) rfl dX1_props_1 ?_
  refine lv_if_eq (tgt := 26) hx hb dX1_props_4 (by decide) (fun c_4 => ?_) (fun c_4 => ?_)
  · refine lv_iconst (v := (-1)) hx hb dX1_props_26 (by decide) ?_
    exact W.iret (v := (-1)) hx hb hr (fun t ht hW => ⟨(-1), rfl, by simp only [S_X1_props, if_pos c_4], ht⟩) (fun q h => by cases h) dX1_props_27
  · refine lv_aload_n hx hb dX1_props_7 rfl (lv_at hl 0 rfl) ?_
    refine va_get (D := (dC, dI)) (ci := 1) (v := .int ρ.2.2.2.2.2.1) (C := RX1) (T := TX1) (N := 7) hx hb hts in_X1 hown hK hP 0 rfl rfl 5 (by decide) q_1 (fun _ h9 => h9) rfl dX1_props_8 ?_
    refine lv_if_le (tgt := 26) hx hb dX1_props_11 (by decide) (fun c_11 => ?_) (fun c_11 => ?_)
    · refine lv_iconst (v := (-1)) hx hb dX1_props_26 (by decide) ?_
      exact W.iret (v := (-1)) hx hb hr (fun t ht hW => ⟨(-1), rfl, by simp only [S_X1_props, if_neg c_4, if_pos c_11], ht⟩) (fun q h => by cases h) dX1_props_27
    · refine lv_aload_n hx hb dX1_props_14 rfl (lv_at hl 0 rfl) ?_
      refine vp_callSi (va_Run.run (va_runV (As := []) (rest := []) ⟨hx, hb, hml, hown, hts⟩ (c_X1_sumOfThrows l dC dI cI cR h h1 h2 h3 h4 h5 ρ) (cwV 0 hts gX1_props_X1_sumOfThrows rfl rfl rfl (by decide +kernel) ⟨Nat.le_of_ble_eq_true rfl, Nat.le_of_ble_eq_true rfl⟩) ⟨fun a U g mk q => by obtain ⟨q0, qP, qE⟩ := q; exact ⟨q0, qP, cE.same (s := U) rfl qE⟩, va_recv hK hP (ci := 1) (q0 := 0) rfl rfl, fun U hU hW => ⟨rfl, by rw [hU]; exact hP.sub (ws' := (wR cI h h1 h2 h3 h4 h5 ρ)) [0, 1, 2, 3, 4, 5] rfl, hE.warm hW⟩⟩ rfl rfl hl.1 rfl (lv_room (Nat.le_of_ble_eq_true rfl)) dX1_props_15 ⟨Nat.zero_le _, Nat.zero_le _⟩)) (fun r_15 h_15 => ?_)
      subst h_15
      refine lv_aload_n hx hb dX1_props_18 rfl (lv_at hl 0 rfl) ?_
      refine va_get (D := (dC, dI)) (ci := 1) (v := .int ρ.2.2.2.2.2.1) (C := RX1) (T := TX1) (N := 7) hx hb hts in_X1 hown hK hP 0 rfl rfl 5 (by decide) q_1 (fun _ h9 => h9) rfl dX1_props_19 ?_
      refine lv_idiv hx hb dX1_props_22 (p_pos c_11) ?_
      refine lv_goto (tgt := 27) hx hb dX1_props_23 (by decide) ?_
      exact W.iret (v := ((S_X1_sumOfThrows ρ) / ρ.2.2.2.2.2.1)) hx hb hr (fun t ht hW => ⟨((S_X1_sumOfThrows ρ) / ρ.2.2.2.2.2.1), rfl, by simp only [S_X1_props, if_neg c_4, if_neg c_11], ht⟩) (fun q h => by cases h) dX1_props_27
def G_X1_isShiftedTo_15 (ρ : RS) (τ : RS) (p1 : Int32) : Nat → Nat → Int32
  | 0, k => 1
  | mm + 1, k => (if (S_X1_throwAt ρ ((nI k) + p1)) = (S_X3_cell 8 τ.1 (nI k)) then G_X1_isShiftedTo_15 ρ τ p1 mm (k + 1) else 0)
def S_X1_isShiftedTo (ρ : RS) (τ : RS) (p1 : Int32) : Int32 := (if ρ.2.2.2.2.2.1 = τ.2.2.2.2.2.1 then G_X1_isShiftedTo_15 ρ τ p1 ρ.2.2.2.2.2.1.toNatClampNeg 0 else 0)
set_option maxHeartbeats 4000000 in
set_option maxRecDepth 100000 in
theorem c_X1_isShiftedTo (l : Launch) (dC : Nat → ClassId) (dI : Nat → Nat → Nat) (cI cR : ClassId) (h h1 h2 h3 h4 h5 : Nat) (ρ : RS) (i i1 i2 i3 i4 i5 : Nat) (τ : RS) (p1 : Int32)  : Met l yX1_isShiftedTo wsX1_isShiftedTo ({ frames := 3, cells := 0, slots := 0, locals := 64 }) (va_Pc [.ref h, .ref i, .int p1] (fun U => va_P (dC, dI) vwCl ((wR cI h h1 h2 h3 h4 h5 ρ) ++ (wR cI i i1 i2 i3 i4 i5 τ)) U.heap ∧ cE (dC, dI) cI cR U)) (vp_Si (fun r => r = S_X1_isShiftedTo ρ τ p1 ∧ (r = 0 ∨ r = 1))) 0 0 (fun _ => False) := by
  refine Met.ofW (cc := cX1_isShiftedTo) (maxL := 4) (ret := (some .boolean)) (by decide) rfl ?_
  intro p e s m args below meth c s₁ B hml hv
  obtain ⟨rfl, hP, hE⟩ := hv
  have hK := hE.1
  have hx := B.exec
  have hb := B.bytes
  have hr := B.returns
  have hts := atoms_spec (ws := wsX1_isShiftedTo) B.pre
  have hown : s.vm.findClass RX1 = some m.cls := findClass_of_methodNamed B.named
  have hlocks := B.notSynchronized
  have hP : va_P (dC, dI) vwCl [(h, .inr (1, [.ref h1, .ref h2, .ref h3, .ref h4, .ref h5, .int ρ.2.2.2.2.2.1, .int ρ.2.2.2.2.2.2])), (h1, .inl (cI, 8, .inl ρ.1)), (h2, .inl (cI, 8, .inl ρ.2.1)), (h3, .inl (cI, 8, .inl ρ.2.2.1)), (h4, .inl (cI, 8, .inl ρ.2.2.2.1)), (h5, .inl (cI, 8, .inl ρ.2.2.2.2.1)), (i, .inr (1, [.ref i1, .ref i2, .ref i3, .ref i4, .ref i5, .int τ.2.2.2.2.2.1, .int τ.2.2.2.2.2.2])), (i1, .inl (cI, 8, .inl τ.1)), (i2, .inl (cI, 8, .inl τ.2.1)), (i3, .inl (cI, 8, .inl τ.2.2.1)), (i4, .inl (cI, 8, .inl τ.2.2.2.1)), (i5, .inl (cI, 8, .inl τ.2.2.2.2.1))] s.heap := hP
  have hl := lv_entry ([.ref h, .ref i, .int p1]) (n := 4) (Nat.le_of_ble_eq_true rfl)
  rw [lg_entry_eq]
  generalize (lg_sl ([.ref h, .ref i, .int p1]) ++ List.replicate (4 - (lg_sl ([.ref h, .ref i, .int p1])).length) Slot.unset).toArray = ls at hl ⊢
  have hl : lv_has ls 4 [(0, .ref h), (1, .ref i), (2, .int p1)] := hl
  have q_0 := hts (.fieldLink RX1 27 "Cascadecourt$Row" "length" "I") (by decide +kernel)
  have in_X1 : ∀ w ∈ wsX10, w ∈ wsX1_isShiftedTo := by decide +kernel
  have q_1 := hts (.fieldLink RX1 9 "Cascadecourt$Row" "heights" "[I") (by decide +kernel)
  have q_2 := hts (.initialized RX3) (by decide +kernel)
  have q_3 := hts (.static yX3_cell) (by decide +kernel)
  refine lv_aload_n hx hb dX1_isShiftedTo_0 rfl (lv_at hl 0 rfl) ?_
  refine va_get (D := (dC, dI)) (ci := 1) (v := .int ρ.2.2.2.2.2.1) (C := RX1) (T := TX1) (N := 7) hx hb hts in_X1 hown hK hP 0 rfl rfl 5 (by decide) q_0 (fun _ h9 => h9) rfl dX1_isShiftedTo_1 ?_
  refine lv_aload_n hx hb dX1_isShiftedTo_4 rfl (lv_at hl 1 rfl) ?_
  refine va_get (D := (dC, dI)) (ci := 1) (v := .int τ.2.2.2.2.2.1) (C := RX1) (T := TX1) (N := 7) hx hb hts in_X1 hown hK hP 6 rfl rfl 5 (by decide) q_0 (fun _ h9 => h9) rfl dX1_isShiftedTo_5 ?_
  refine lv_icmp_eq (tgt := 13) hx hb dX1_isShiftedTo_8 (by decide) (fun c_8 => ?_) (fun c_8 => ?_)
  · refine lv_iconst (v := 0) hx hb dX1_isShiftedTo_13 (by decide) ?_
    refine lv_istore_n (lv' := [(3, .int 0), (0, .ref h), (1, .ref i), (2, .int p1)]) hx hb dX1_isShiftedTo_14 rfl hl (by decide) rfl (fun ls hl => ?_)
    have hn15 := p_clt ρ.2.2.2.2.2.1
    have loop15 : ∀ (mm k : Nat) (ls : Array Slot), k + mm = ρ.2.2.2.2.2.1.toNatClampNeg → G_X1_isShiftedTo_15 ρ τ p1 mm k = S_X1_isShiftedTo ρ τ p1 → lv_has ls 4 [(3, .int (nI k)), (0, .ref h), (1, .ref i), (2, .int p1)] → W p l e (headSpec wsX1_isShiftedTo ({ frames := 3, cells := 0, slots := 0, locals := 64 })).room s m (([.ref h, .ref i, .int p1] : List Value).toArray) below meth c s.heap [] 0 0 (MQ below (vp_Si (fun r => r = S_X1_isShiftedTo ρ τ p1 ∧ (r = 0 ∨ r = 1))) (([.ref h, .ref i, .int p1] : List Value).toArray) s 0 0 (fun _ => False)) (F0 m 15 ls []) := by
      intro mm
      induction mm with
      | zero =>
        intro k ls hk15 hG15 hl
        refine lv_iload_n hx hb dX1_isShiftedTo_15 rfl (lv_at hl 0 rfl) ?_
        refine lv_aload_n hx hb dX1_isShiftedTo_16 rfl (lv_at hl 1 rfl) ?_
        refine va_get (D := (dC, dI)) (ci := 1) (v := .int ρ.2.2.2.2.2.1) (C := RX1) (T := TX1) (N := 7) hx hb hts in_X1 hown hK hP 0 rfl rfl 5 (by decide) q_0 (fun _ h9 => h9) rfl dX1_isShiftedTo_17 ?_
        refine lv_icmp_ge (tgt := 49) hx hb dX1_isShiftedTo_20 (by decide) (fun c_20 => ?_) (fun c_20 => ?_)
        · refine lv_iconst (v := 1) hx hb dX1_isShiftedTo_49 (by decide) ?_
          exact W.zret (v := 1) (ty := .boolean) hx hb hr (p_nar (Or.inr rfl)) (fun t ht hW => ⟨1, rfl, ⟨by rw [← hG15]; simp only [G_X1_isShiftedTo_15], (Or.inr rfl)⟩, ht⟩) (fun q h => by cases h) dX1_isShiftedTo_50
        · exact absurd ((p_le (by omega)).mpr (by omega)) c_20
      | succ mm ih15 =>
        intro k ls hk15 hG15 hl
        refine lv_iload_n hx hb dX1_isShiftedTo_15 rfl (lv_at hl 0 rfl) ?_
        refine lv_aload_n hx hb dX1_isShiftedTo_16 rfl (lv_at hl 1 rfl) ?_
        refine va_get (D := (dC, dI)) (ci := 1) (v := .int ρ.2.2.2.2.2.1) (C := RX1) (T := TX1) (N := 7) hx hb hts in_X1 hown hK hP 0 rfl rfl 5 (by decide) q_0 (fun _ h9 => h9) rfl dX1_isShiftedTo_17 ?_
        refine lv_icmp_ge (tgt := 49) hx hb dX1_isShiftedTo_20 (by decide) (fun c_20 => ?_) (fun c_20 => ?_)
        · exact absurd ((p_le (by omega)).mp c_20) (by omega)
        · refine lv_aload_n hx hb dX1_isShiftedTo_23 rfl (lv_at hl 1 rfl) ?_
          refine lv_iload_n hx hb dX1_isShiftedTo_24 rfl (lv_at hl 0 rfl) ?_
          refine lv_iload_n hx hb dX1_isShiftedTo_25 rfl (lv_at hl 3 rfl) ?_
          refine lv_iadd hx hb dX1_isShiftedTo_26 ?_
          refine vp_callSi (va_Run.run (va_runV (As := [.int ((nI k) + p1)]) (rest := []) ⟨hx, hb, hml, hown, hts⟩ (c_X1_throwAt l dC dI cI cR h h1 h2 h3 h4 h5 ρ ((nI k) + p1)) (cwV 1 hts gX1_isShiftedTo_X1_throwAt rfl rfl rfl (by decide +kernel) ⟨Nat.le_of_ble_eq_true rfl, Nat.le_of_ble_eq_true rfl⟩) ⟨fun a U g mk q => by obtain ⟨q0, qP, qE⟩ := q; exact ⟨q0, qP, cE.same (s := U) rfl qE⟩, va_recv hK hP (ci := 1) (q0 := 0) rfl rfl, fun U hU hW => ⟨rfl, by rw [hU]; exact hP.sub (ws' := (wR cI h h1 h2 h3 h4 h5 ρ)) [0, 1, 2, 3, 4, 5] rfl, hE.warm hW⟩⟩ rfl rfl hl.1 rfl (lv_room (Nat.le_of_ble_eq_true rfl)) dX1_isShiftedTo_27 ⟨Nat.zero_le _, Nat.zero_le _⟩)) (fun r_27 h_27 => ?_)
          subst h_27
          refine lv_aload_n hx hb dX1_isShiftedTo_30 rfl (lv_at hl 2 rfl) ?_
          refine va_get (D := (dC, dI)) (ci := 1) (v := .ref i1) (C := RX1) (T := TX1) (N := 7) hx hb hts in_X1 hown hK hP 6 rfl rfl 0 (by decide) q_1 (fun _ h9 => h9) rfl dX1_isShiftedTo_31 ?_
          refine lv_iload_n hx hb dX1_isShiftedTo_34 rfl (lv_at hl 0 rfl) ?_
          refine vp_callSi (va_Run.run (va_runSN (As := [.ref i1, .int (nI k)]) (rest := [.int (S_X1_throwAt ρ ((nI k) + p1))]) ⟨hx, hb, hml, hown, hts⟩ (c_X3_cell l dC dI cI cR i1 8 τ.1 (by decide) (nI k)) ⟨va_cnB 2 hts gX1_isShiftedTo_X3_cell_n52 rfl rfl rfl (hE.2 (.methodLinkNest RX1 52 yX3_cell "Cascadecourt") (by decide +kernel)) q_2 (by decide +kernel) ⟨Nat.le_of_ble_eq_true rfl, Nat.le_of_ble_eq_true rfl⟩, q_3, trivial⟩ ⟨fun a U g mk q => by obtain ⟨q0, qP, qE⟩ := q; exact ⟨q0, qP, cE.same (s := U) rfl qE⟩, fun U hU hW => ⟨rfl, by rw [hU]; exact hP.sub (ws' := [(i1, .inl (cI, 8, .inl τ.1))]) [7] rfl, hE.warm hW⟩⟩ rfl rfl hl.1 rfl (lv_room (Nat.le_of_ble_eq_true rfl)) dX1_isShiftedTo_35 ⟨Nat.zero_le _, Nat.zero_le _⟩)) (fun r_35 h_35 => ?_)
          subst h_35
          refine lv_icmp_eq (tgt := 43) hx hb dX1_isShiftedTo_38 (by decide) (fun c_38 => ?_) (fun c_38 => ?_)
          · refine lv_iinc (v := nI (k + 1)) (lv' := [(3, .int (nI (k + 1))), (0, .ref h), (1, .ref i), (2, .int p1)]) hx hb dX1_isShiftedTo_43 hl (k := 0) rfl ((nI_succ _).symm) (by decide) rfl (fun ls hl => ?_)
            refine lv_goto (tgt := 15) hx hb dX1_isShiftedTo_46 (by decide) ?_
            exact ih15 (k + 1) ls (by omega) (by rw [← hG15]; simp only [G_X1_isShiftedTo_15, if_pos c_38]) (lv_sub hl [0, 1, 2, 3] rfl)
          · refine lv_iconst (v := 0) hx hb dX1_isShiftedTo_41 (by decide) ?_
            exact W.zret (v := 0) (ty := .boolean) hx hb hr (p_nar (Or.inl rfl)) (fun t ht hW => ⟨0, rfl, ⟨by rw [← hG15]; simp only [G_X1_isShiftedTo_15, if_neg c_38], (Or.inl rfl)⟩, ht⟩) (fun q h => by cases h) dX1_isShiftedTo_42
    exact loop15 ρ.2.2.2.2.2.1.toNatClampNeg 0 ls (by omega) (by simp only [S_X1_isShiftedTo, if_pos c_8]) (lv_sub hl [0, 1, 2, 3] rfl)
  · refine lv_iconst (v := 0) hx hb dX1_isShiftedTo_11 (by decide) ?_
    exact W.zret (v := 0) (ty := .boolean) hx hb hr (p_nar (Or.inl rfl)) (fun t ht hW => ⟨0, rfl, ⟨by simp only [S_X1_isShiftedTo, if_neg c_8], (Or.inl rfl)⟩, ht⟩) (fun q h => by cases h) dX1_isShiftedTo_12
def G_X1_period_2 (ρ : RS) : Nat → Nat → Int32
  | 0, k => ρ.2.2.2.2.2.1
  | mm + 1, k => (if (S_X1_isShiftedTo ρ ρ (nI k)) = 0 then G_X1_period_2 ρ mm (k + 1) else nI k)
def S_X1_period (ρ : RS) : Int32 := G_X1_period_2 ρ (ρ.2.2.2.2.2.1.toNatClampNeg - 1) 1
set_option maxHeartbeats 4000000 in
set_option maxRecDepth 100000 in
theorem c_X1_period (l : Launch) (dC : Nat → ClassId) (dI : Nat → Nat → Nat) (cI cR : ClassId) (h h1 h2 h3 h4 h5 : Nat) (ρ : RS)  (hL : 1 ≤ ρ.2.2.2.2.2.1.toNatClampNeg) : Met l yX1_period wsX1_period ({ frames := 4, cells := 0, slots := 0, locals := 87 }) (va_Pc [.ref h] (fun U => va_P (dC, dI) vwCl (wR cI h h1 h2 h3 h4 h5 ρ) U.heap ∧ cE (dC, dI) cI cR U)) (vp_Si (fun r => r = S_X1_period ρ)) 0 0 (fun _ => False) := by
  refine Met.ofW (cc := cX1_period) (maxL := 2) (ret := (some .int)) (by decide) rfl ?_
  intro p e s m args below meth c s₁ B hml hv
  obtain ⟨rfl, hP, hE⟩ := hv
  have hK := hE.1
  have hx := B.exec
  have hb := B.bytes
  have hr := B.returns
  have hts := atoms_spec (ws := wsX1_period) B.pre
  have hown : s.vm.findClass RX1 = some m.cls := findClass_of_methodNamed B.named
  have hlocks := B.notSynchronized
  have hP : va_P (dC, dI) vwCl [(h, .inr (1, [.ref h1, .ref h2, .ref h3, .ref h4, .ref h5, .int ρ.2.2.2.2.2.1, .int ρ.2.2.2.2.2.2])), (h1, .inl (cI, 8, .inl ρ.1)), (h2, .inl (cI, 8, .inl ρ.2.1)), (h3, .inl (cI, 8, .inl ρ.2.2.1)), (h4, .inl (cI, 8, .inl ρ.2.2.2.1)), (h5, .inl (cI, 8, .inl ρ.2.2.2.2.1))] s.heap := hP
  have hl := lv_entry ([.ref h]) (n := 2) (Nat.le_of_ble_eq_true rfl)
  rw [lg_entry_eq]
  generalize (lg_sl ([.ref h]) ++ List.replicate (2 - (lg_sl ([.ref h])).length) Slot.unset).toArray = ls at hl ⊢
  have hl : lv_has ls 2 [(0, .ref h)] := hl
  have q_0 := hts (.fieldLink RX1 27 "Cascadecourt$Row" "length" "I") (by decide +kernel)
  have in_X1 : ∀ w ∈ wsX10, w ∈ wsX1_period := by decide +kernel
  refine lv_iconst (v := 1) hx hb dX1_period_0 (by decide) ?_
  refine lv_istore_n (lv' := [(1, .int 1), (0, .ref h)]) hx hb dX1_period_1 rfl hl (by decide) rfl (fun ls hl => ?_)
  have hn2 := p_clt ρ.2.2.2.2.2.1
  have loop2 : ∀ (mm k : Nat) (ls : Array Slot), k + mm = ρ.2.2.2.2.2.1.toNatClampNeg → G_X1_period_2 ρ mm k = S_X1_period ρ → lv_has ls 2 [(1, .int (nI k)), (0, .ref h)] → W p l e (headSpec wsX1_period ({ frames := 4, cells := 0, slots := 0, locals := 87 })).room s m (([.ref h] : List Value).toArray) below meth c s.heap [] 0 0 (MQ below (vp_Si (fun r => r = S_X1_period ρ)) (([.ref h] : List Value).toArray) s 0 0 (fun _ => False)) (F0 m 2 ls []) := by
    intro mm
    induction mm with
    | zero =>
      intro k ls hk2 hG2 hl
      refine lv_iload_n hx hb dX1_period_2 rfl (lv_at hl 0 rfl) ?_
      refine lv_aload_n hx hb dX1_period_3 rfl (lv_at hl 1 rfl) ?_
      refine va_get (D := (dC, dI)) (ci := 1) (v := .int ρ.2.2.2.2.2.1) (C := RX1) (T := TX1) (N := 7) hx hb hts in_X1 hown hK hP 0 rfl rfl 5 (by decide) q_0 (fun _ h9 => h9) rfl dX1_period_4 ?_
      refine lv_icmp_ge (tgt := 27) hx hb dX1_period_7 (by decide) (fun c_7 => ?_) (fun c_7 => ?_)
      · refine lv_aload_n hx hb dX1_period_27 rfl (lv_at hl 1 rfl) ?_
        refine va_get (D := (dC, dI)) (ci := 1) (v := .int ρ.2.2.2.2.2.1) (C := RX1) (T := TX1) (N := 7) hx hb hts in_X1 hown hK hP 0 rfl rfl 5 (by decide) q_0 (fun _ h9 => h9) rfl dX1_period_28 ?_
        exact W.iret (v := ρ.2.2.2.2.2.1) hx hb hr (fun t ht hW => ⟨ρ.2.2.2.2.2.1, rfl, by rw [← hG2]; simp only [G_X1_period_2], ht⟩) (fun q h => by cases h) dX1_period_31
      · exact absurd ((p_le (by omega)).mpr (by omega)) c_7
    | succ mm ih2 =>
      intro k ls hk2 hG2 hl
      refine lv_iload_n hx hb dX1_period_2 rfl (lv_at hl 0 rfl) ?_
      refine lv_aload_n hx hb dX1_period_3 rfl (lv_at hl 1 rfl) ?_
      refine va_get (D := (dC, dI)) (ci := 1) (v := .int ρ.2.2.2.2.2.1) (C := RX1) (T := TX1) (N := 7) hx hb hts in_X1 hown hK hP 0 rfl rfl 5 (by decide) q_0 (fun _ h9 => h9) rfl dX1_period_4 ?_
      refine lv_icmp_ge (tgt := 27) hx hb dX1_period_7 (by decide) (fun c_7 => ?_) (fun c_7 => ?_)
      · exact absurd ((p_le (by omega)).mp c_7) (by omega)
      · refine lv_aload_n hx hb dX1_period_10 rfl (lv_at hl 1 rfl) ?_
        refine lv_aload_n hx hb dX1_period_11 rfl (lv_at hl 1 rfl) ?_
        refine lv_iload_n hx hb dX1_period_12 rfl (lv_at hl 0 rfl) ?_
        refine vp_callSi (va_Run.run (va_runV (As := [.ref h, .int (nI k)]) (rest := []) ⟨hx, hb, hml, hown, hts⟩ (c_X1_isShiftedTo l dC dI cI cR h h1 h2 h3 h4 h5 ρ h h1 h2 h3 h4 h5 ρ (nI k)) (cwV 2 hts gX1_period_X1_isShiftedTo rfl rfl rfl (by decide +kernel) ⟨Nat.le_of_ble_eq_true rfl, Nat.le_of_ble_eq_true rfl⟩) ⟨fun a U g mk q => by obtain ⟨q0, qP, qE⟩ := q; exact ⟨q0, qP, cE.same (s := U) rfl qE⟩, va_recv hK hP (ci := 1) (q0 := 0) rfl rfl, fun U hU hW => ⟨rfl, by rw [hU]; exact hP.sub (ws' := ((wR cI h h1 h2 h3 h4 h5 ρ) ++ (wR cI h h1 h2 h3 h4 h5 ρ))) [0, 1, 2, 3, 4, 5, 0, 1, 2, 3, 4, 5] rfl, hE.warm hW⟩⟩ rfl rfl hl.1 rfl (lv_room (Nat.le_of_ble_eq_true rfl)) dX1_period_13 ⟨Nat.zero_le _, Nat.zero_le _⟩)) (fun r_13 h_13 => ?_)
        obtain ⟨rfl, hz_13⟩ := h_13
        refine lv_if_eq (tgt := 21) hx hb dX1_period_16 (by decide) (fun c_16 => ?_) (fun c_16 => ?_)
        · refine lv_iinc (v := nI (k + 1)) (lv' := [(1, .int (nI (k + 1))), (0, .ref h)]) hx hb dX1_period_21 hl (k := 0) rfl ((nI_succ _).symm) (by decide) rfl (fun ls hl => ?_)
          refine lv_goto (tgt := 2) hx hb dX1_period_24 (by decide) ?_
          exact ih2 (k + 1) ls (by omega) (by rw [← hG2]; simp only [G_X1_period_2, if_pos c_16]) (lv_sub hl [0, 1] rfl)
        · refine lv_iload_n hx hb dX1_period_19 rfl (lv_at hl 0 rfl) ?_
          exact W.iret (v := (nI k)) hx hb hr (fun t ht hW => ⟨(nI k), rfl, by rw [← hG2]; simp only [G_X1_period_2, if_neg c_16], ht⟩) (fun q h => by cases h) dX1_period_20
  exact loop2 (ρ.2.2.2.2.2.1.toNatClampNeg - 1) 1 ls (by omega) (by simp only [S_X1_period]) (lv_sub hl [0, 1] rfl)
def G_X1_isFirstOfOrbit_4 (ρ : RS) (p0 : Int32) : Nat → Nat → Int32 → Int32
  | 0, k, v2 => 1
  | mm + 1, k, v2 => (if p0 ≤ (S_X3_cell 8 ρ.2.2.1 v2) then G_X1_isFirstOfOrbit_4 ρ p0 mm (k + 1) (S_X3_cell 8 ρ.2.2.1 v2) else 0)
def S_X1_isFirstOfOrbit (ρ : RS) (p0 : Int32) : Int32 := G_X1_isFirstOfOrbit_4 ρ p0 ρ.2.2.2.2.2.1.toNatClampNeg 0 p0
set_option maxHeartbeats 4000000 in
set_option maxRecDepth 100000 in
theorem c_X1_isFirstOfOrbit (l : Launch) (dC : Nat → ClassId) (dI : Nat → Nat → Nat) (cI cR : ClassId) (h h1 h2 h3 h4 h5 : Nat) (ρ : RS) (p0 : Int32)  : Met l yX1_isFirstOfOrbit wsX1_isFirstOfOrbit ({ frames := 1, cells := 0, slots := 0, locals := 21 }) (va_Pc [.ref h, .int p0] (fun U => va_P (dC, dI) vwCl (wR cI h h1 h2 h3 h4 h5 ρ) U.heap ∧ cE (dC, dI) cI cR U)) (vp_Si (fun r => r = S_X1_isFirstOfOrbit ρ p0 ∧ (r = 0 ∨ r = 1))) 0 0 (fun _ => False) := by
  refine Met.ofW (cc := cX1_isFirstOfOrbit) (maxL := 4) (ret := (some .boolean)) (by decide) rfl ?_
  intro p e s m args below meth c s₁ B hml hv
  obtain ⟨rfl, hP, hE⟩ := hv
  have hK := hE.1
  have hx := B.exec
  have hb := B.bytes
  have hr := B.returns
  have hts := atoms_spec (ws := wsX1_isFirstOfOrbit) B.pre
  have hown : s.vm.findClass RX1 = some m.cls := findClass_of_methodNamed B.named
  have hlocks := B.notSynchronized
  have hP : va_P (dC, dI) vwCl [(h, .inr (1, [.ref h1, .ref h2, .ref h3, .ref h4, .ref h5, .int ρ.2.2.2.2.2.1, .int ρ.2.2.2.2.2.2])), (h1, .inl (cI, 8, .inl ρ.1)), (h2, .inl (cI, 8, .inl ρ.2.1)), (h3, .inl (cI, 8, .inl ρ.2.2.1)), (h4, .inl (cI, 8, .inl ρ.2.2.2.1)), (h5, .inl (cI, 8, .inl ρ.2.2.2.2.1))] s.heap := hP
  have hl := lv_entry ([.ref h, .int p0]) (n := 4) (Nat.le_of_ble_eq_true rfl)
  rw [lg_entry_eq]
  generalize (lg_sl ([.ref h, .int p0]) ++ List.replicate (4 - (lg_sl ([.ref h, .int p0])).length) Slot.unset).toArray = ls at hl ⊢
  have hl : lv_has ls 4 [(0, .ref h), (1, .int p0)] := hl
  have q_0 := hts (.fieldLink RX1 27 "Cascadecourt$Row" "length" "I") (by decide +kernel)
  have in_X1 : ∀ w ∈ wsX10, w ∈ wsX1_isFirstOfOrbit := by decide +kernel
  have q_1 := hts (.fieldLink RX1 18 "Cascadecourt$Row" "landings" "[I") (by decide +kernel)
  have q_2 := hts (.initialized RX3) (by decide +kernel)
  have q_3 := hts (.static yX3_cell) (by decide +kernel)
  refine lv_iload_n hx hb dX1_isFirstOfOrbit_0 rfl (lv_at hl 1 rfl) ?_
  refine lv_istore_n (lv' := [(2, .int p0), (0, .ref h), (1, .int p0)]) hx hb dX1_isFirstOfOrbit_1 rfl hl (by decide) rfl (fun ls hl => ?_)
  refine lv_iconst (v := 0) hx hb dX1_isFirstOfOrbit_2 (by decide) ?_
  refine lv_istore_n (lv' := [(3, .int 0), (2, .int p0), (0, .ref h), (1, .int p0)]) hx hb dX1_isFirstOfOrbit_3 rfl hl (by decide) rfl (fun ls hl => ?_)
  have hn4 := p_clt ρ.2.2.2.2.2.1
  have loop4 : ∀ (mm k : Nat) (v2 : Int32) (ls : Array Slot), k + mm = ρ.2.2.2.2.2.1.toNatClampNeg → G_X1_isFirstOfOrbit_4 ρ p0 mm k v2 = S_X1_isFirstOfOrbit ρ p0 → lv_has ls 4 [(3, .int (nI k)), (2, .int v2), (0, .ref h), (1, .int p0)] → W p l e (headSpec wsX1_isFirstOfOrbit ({ frames := 1, cells := 0, slots := 0, locals := 21 })).room s m (([.ref h, .int p0] : List Value).toArray) below meth c s.heap [] 0 0 (MQ below (vp_Si (fun r => r = S_X1_isFirstOfOrbit ρ p0 ∧ (r = 0 ∨ r = 1))) (([.ref h, .int p0] : List Value).toArray) s 0 0 (fun _ => False)) (F0 m 4 ls []) := by
    intro mm
    induction mm with
    | zero =>
      intro k v2 ls hk4 hG4 hl
      refine lv_iload_n hx hb dX1_isFirstOfOrbit_4 rfl (lv_at hl 0 rfl) ?_
      refine lv_aload_n hx hb dX1_isFirstOfOrbit_5 rfl (lv_at hl 2 rfl) ?_
      refine va_get (D := (dC, dI)) (ci := 1) (v := .int ρ.2.2.2.2.2.1) (C := RX1) (T := TX1) (N := 7) hx hb hts in_X1 hown hK hP 0 rfl rfl 5 (by decide) q_0 (fun _ h9 => h9) rfl dX1_isFirstOfOrbit_6 ?_
      refine lv_icmp_ge (tgt := 34) hx hb dX1_isFirstOfOrbit_9 (by decide) (fun c_9 => ?_) (fun c_9 => ?_)
      · refine lv_iconst (v := 1) hx hb dX1_isFirstOfOrbit_34 (by decide) ?_
        exact W.zret (v := 1) (ty := .boolean) hx hb hr (p_nar (Or.inr rfl)) (fun t ht hW => ⟨1, rfl, ⟨by rw [← hG4]; simp only [G_X1_isFirstOfOrbit_4], (Or.inr rfl)⟩, ht⟩) (fun q h => by cases h) dX1_isFirstOfOrbit_35
      · exact absurd ((p_le (by omega)).mpr (by omega)) c_9
    | succ mm ih4 =>
      intro k v2 ls hk4 hG4 hl
      refine lv_iload_n hx hb dX1_isFirstOfOrbit_4 rfl (lv_at hl 0 rfl) ?_
      refine lv_aload_n hx hb dX1_isFirstOfOrbit_5 rfl (lv_at hl 2 rfl) ?_
      refine va_get (D := (dC, dI)) (ci := 1) (v := .int ρ.2.2.2.2.2.1) (C := RX1) (T := TX1) (N := 7) hx hb hts in_X1 hown hK hP 0 rfl rfl 5 (by decide) q_0 (fun _ h9 => h9) rfl dX1_isFirstOfOrbit_6 ?_
      refine lv_icmp_ge (tgt := 34) hx hb dX1_isFirstOfOrbit_9 (by decide) (fun c_9 => ?_) (fun c_9 => ?_)
      · exact absurd ((p_le (by omega)).mp c_9) (by omega)
      · refine lv_aload_n hx hb dX1_isFirstOfOrbit_12 rfl (lv_at hl 2 rfl) ?_
        refine va_get (D := (dC, dI)) (ci := 1) (v := .ref h3) (C := RX1) (T := TX1) (N := 7) hx hb hts in_X1 hown hK hP 0 rfl rfl 2 (by decide) q_1 (fun _ h9 => h9) rfl dX1_isFirstOfOrbit_13 ?_
        refine lv_iload_n hx hb dX1_isFirstOfOrbit_16 rfl (lv_at hl 1 rfl) ?_
        refine vp_callSi (va_Run.run (va_runSN (As := [.ref h3, .int v2]) (rest := []) ⟨hx, hb, hml, hown, hts⟩ (c_X3_cell l dC dI cI cR h3 8 ρ.2.2.1 (by decide) v2) ⟨va_cnB 2 hts gX1_isFirstOfOrbit_X3_cell_n52 rfl rfl rfl (hE.2 (.methodLinkNest RX1 52 yX3_cell "Cascadecourt") (by decide +kernel)) q_2 (by decide +kernel) ⟨Nat.le_of_ble_eq_true rfl, Nat.le_of_ble_eq_true rfl⟩, q_3, trivial⟩ ⟨fun a U g mk q => by obtain ⟨q0, qP, qE⟩ := q; exact ⟨q0, qP, cE.same (s := U) rfl qE⟩, fun U hU hW => ⟨rfl, by rw [hU]; exact hP.sub (ws' := [(h3, .inl (cI, 8, .inl ρ.2.2.1))]) [3] rfl, hE.warm hW⟩⟩ rfl rfl hl.1 rfl (lv_room (Nat.le_of_ble_eq_true rfl)) dX1_isFirstOfOrbit_17 ⟨Nat.zero_le _, Nat.zero_le _⟩)) (fun r_17 h_17 => ?_)
        subst h_17
        refine lv_istore_n (lv' := [(2, .int (S_X3_cell 8 ρ.2.2.1 v2)), (3, .int (nI k)), (0, .ref h), (1, .int p0)]) hx hb dX1_isFirstOfOrbit_20 rfl hl (by decide) rfl (fun ls hl => ?_)
        refine lv_iload_n hx hb dX1_isFirstOfOrbit_21 rfl (lv_at hl 0 rfl) ?_
        refine lv_iload_n hx hb dX1_isFirstOfOrbit_22 rfl (lv_at hl 3 rfl) ?_
        refine lv_icmp_ge (tgt := 28) hx hb dX1_isFirstOfOrbit_23 (by decide) (fun c_23 => ?_) (fun c_23 => ?_)
        · refine lv_iinc (v := nI (k + 1)) (lv' := [(3, .int (nI (k + 1))), (2, .int (S_X3_cell 8 ρ.2.2.1 v2)), (0, .ref h), (1, .int p0)]) hx hb dX1_isFirstOfOrbit_28 hl (k := 1) rfl ((nI_succ _).symm) (by decide) rfl (fun ls hl => ?_)
          refine lv_goto (tgt := 4) hx hb dX1_isFirstOfOrbit_31 (by decide) ?_
          exact ih4 (k + 1) (S_X3_cell 8 ρ.2.2.1 v2) ls (by omega) (by rw [← hG4]; simp only [G_X1_isFirstOfOrbit_4, if_pos c_23]) (lv_sub hl [0, 1, 2, 3] rfl)
        · refine lv_iconst (v := 0) hx hb dX1_isFirstOfOrbit_26 (by decide) ?_
          exact W.zret (v := 0) (ty := .boolean) hx hb hr (p_nar (Or.inl rfl)) (fun t ht hW => ⟨0, rfl, ⟨by rw [← hG4]; simp only [G_X1_isFirstOfOrbit_4, if_neg c_23], (Or.inl rfl)⟩, ht⟩) (fun q h => by cases h) dX1_isFirstOfOrbit_27
  exact loop4 ρ.2.2.2.2.2.1.toNatClampNeg 0 p0 ls (by omega) (by simp only [S_X1_isFirstOfOrbit]) (lv_sub hl [0, 1, 2, 3] rfl)
def G_X1_orbits_4 (ρ : RS) : Nat → Nat → Int32 → Int32
  | 0, k, v1 => v1
  | mm + 1, k, v1 => (if (S_X3_cell 8 ρ.1 (nI k)) ≤ 0 then G_X1_orbits_4 ρ mm (k + 1) v1 else (if (S_X1_isFirstOfOrbit ρ (nI k)) = 0 then G_X1_orbits_4 ρ mm (k + 1) v1 else G_X1_orbits_4 ρ mm (k + 1) (v1 + 1)))
def S_X1_orbits (ρ : RS) : Int32 := G_X1_orbits_4 ρ ρ.2.2.2.2.2.1.toNatClampNeg 0 0
set_option maxHeartbeats 4000000 in
set_option maxRecDepth 100000 in
theorem c_X1_orbits (l : Launch) (dC : Nat → ClassId) (dI : Nat → Nat → Nat) (cI cR : ClassId) (h h1 h2 h3 h4 h5 : Nat) (ρ : RS)   : Met l yX1_orbits wsX1_orbits ({ frames := 2, cells := 0, slots := 0, locals := 44 }) (va_Pc [.ref h] (fun U => va_P (dC, dI) vwCl (wR cI h h1 h2 h3 h4 h5 ρ) U.heap ∧ cE (dC, dI) cI cR U)) (vp_Si (fun r => r = S_X1_orbits ρ)) 0 0 (fun _ => False) := by
  refine Met.ofW (cc := cX1_orbits) (maxL := 3) (ret := (some .int)) (by decide) rfl ?_
  intro p e s m args below meth c s₁ B hml hv
  obtain ⟨rfl, hP, hE⟩ := hv
  have hK := hE.1
  have hx := B.exec
  have hb := B.bytes
  have hr := B.returns
  have hts := atoms_spec (ws := wsX1_orbits) B.pre
  have hown : s.vm.findClass RX1 = some m.cls := findClass_of_methodNamed B.named
  have hlocks := B.notSynchronized
  have hP : va_P (dC, dI) vwCl [(h, .inr (1, [.ref h1, .ref h2, .ref h3, .ref h4, .ref h5, .int ρ.2.2.2.2.2.1, .int ρ.2.2.2.2.2.2])), (h1, .inl (cI, 8, .inl ρ.1)), (h2, .inl (cI, 8, .inl ρ.2.1)), (h3, .inl (cI, 8, .inl ρ.2.2.1)), (h4, .inl (cI, 8, .inl ρ.2.2.2.1)), (h5, .inl (cI, 8, .inl ρ.2.2.2.2.1))] s.heap := hP
  have hl := lv_entry ([.ref h]) (n := 3) (Nat.le_of_ble_eq_true rfl)
  rw [lg_entry_eq]
  generalize (lg_sl ([.ref h]) ++ List.replicate (3 - (lg_sl ([.ref h])).length) Slot.unset).toArray = ls at hl ⊢
  have hl : lv_has ls 3 [(0, .ref h)] := hl
  have q_0 := hts (.fieldLink RX1 27 "Cascadecourt$Row" "length" "I") (by decide +kernel)
  have in_X1 : ∀ w ∈ wsX10, w ∈ wsX1_orbits := by decide +kernel
  have q_1 := hts (.fieldLink RX1 9 "Cascadecourt$Row" "heights" "[I") (by decide +kernel)
  have q_2 := hts (.initialized RX3) (by decide +kernel)
  have q_3 := hts (.static yX3_cell) (by decide +kernel)
  refine lv_iconst (v := 0) hx hb dX1_orbits_0 (by decide) ?_
  refine lv_istore_n (lv' := [(1, .int 0), (0, .ref h)]) hx hb dX1_orbits_1 rfl hl (by decide) rfl (fun ls hl => ?_)
  refine lv_iconst (v := 0) hx hb dX1_orbits_2 (by decide) ?_
  refine lv_istore_n (lv' := [(2, .int 0), (1, .int 0), (0, .ref h)]) hx hb dX1_orbits_3 rfl hl (by decide) rfl (fun ls hl => ?_)
  have hn4 := p_clt ρ.2.2.2.2.2.1
  have loop4 : ∀ (mm k : Nat) (v1 : Int32) (ls : Array Slot), k + mm = ρ.2.2.2.2.2.1.toNatClampNeg → G_X1_orbits_4 ρ mm k v1 = S_X1_orbits ρ → lv_has ls 3 [(2, .int (nI k)), (1, .int v1), (0, .ref h)] → W p l e (headSpec wsX1_orbits ({ frames := 2, cells := 0, slots := 0, locals := 44 })).room s m (([.ref h] : List Value).toArray) below meth c s.heap [] 0 0 (MQ below (vp_Si (fun r => r = S_X1_orbits ρ)) (([.ref h] : List Value).toArray) s 0 0 (fun _ => False)) (F0 m 4 ls []) := by
    intro mm
    induction mm with
    | zero =>
      intro k v1 ls hk4 hG4 hl
      refine lv_iload_n hx hb dX1_orbits_4 rfl (lv_at hl 0 rfl) ?_
      refine lv_aload_n hx hb dX1_orbits_5 rfl (lv_at hl 2 rfl) ?_
      refine va_get (D := (dC, dI)) (ci := 1) (v := .int ρ.2.2.2.2.2.1) (C := RX1) (T := TX1) (N := 7) hx hb hts in_X1 hown hK hP 0 rfl rfl 5 (by decide) q_0 (fun _ h9 => h9) rfl dX1_orbits_6 ?_
      refine lv_icmp_ge (tgt := 40) hx hb dX1_orbits_9 (by decide) (fun c_9 => ?_) (fun c_9 => ?_)
      · refine lv_iload_n hx hb dX1_orbits_40 rfl (lv_at hl 1 rfl) ?_
        exact W.iret (v := v1) hx hb hr (fun t ht hW => ⟨v1, rfl, by rw [← hG4]; simp only [G_X1_orbits_4], ht⟩) (fun q h => by cases h) dX1_orbits_41
      · exact absurd ((p_le (by omega)).mpr (by omega)) c_9
    | succ mm ih4 =>
      intro k v1 ls hk4 hG4 hl
      refine lv_iload_n hx hb dX1_orbits_4 rfl (lv_at hl 0 rfl) ?_
      refine lv_aload_n hx hb dX1_orbits_5 rfl (lv_at hl 2 rfl) ?_
      refine va_get (D := (dC, dI)) (ci := 1) (v := .int ρ.2.2.2.2.2.1) (C := RX1) (T := TX1) (N := 7) hx hb hts in_X1 hown hK hP 0 rfl rfl 5 (by decide) q_0 (fun _ h9 => h9) rfl dX1_orbits_6 ?_
      refine lv_icmp_ge (tgt := 40) hx hb dX1_orbits_9 (by decide) (fun c_9 => ?_) (fun c_9 => ?_)
      · exact absurd ((p_le (by omega)).mp c_9) (by omega)
      · refine lv_aload_n hx hb dX1_orbits_12 rfl (lv_at hl 2 rfl) ?_
        refine va_get (D := (dC, dI)) (ci := 1) (v := .ref h1) (C := RX1) (T := TX1) (N := 7) hx hb hts in_X1 hown hK hP 0 rfl rfl 0 (by decide) q_1 (fun _ h9 => h9) rfl dX1_orbits_13 ?_
        refine lv_iload_n hx hb dX1_orbits_16 rfl (lv_at hl 0 rfl) ?_
        refine vp_callSi (va_Run.run (va_runSN (As := [.ref h1, .int (nI k)]) (rest := []) ⟨hx, hb, hml, hown, hts⟩ (c_X3_cell l dC dI cI cR h1 8 ρ.1 (by decide) (nI k)) ⟨va_cnB 2 hts gX1_orbits_X3_cell_n52 rfl rfl rfl (hE.2 (.methodLinkNest RX1 52 yX3_cell "Cascadecourt") (by decide +kernel)) q_2 (by decide +kernel) ⟨Nat.le_of_ble_eq_true rfl, Nat.le_of_ble_eq_true rfl⟩, q_3, trivial⟩ ⟨fun a U g mk q => by obtain ⟨q0, qP, qE⟩ := q; exact ⟨q0, qP, cE.same (s := U) rfl qE⟩, fun U hU hW => ⟨rfl, by rw [hU]; exact hP.sub (ws' := [(h1, .inl (cI, 8, .inl ρ.1))]) [1] rfl, hE.warm hW⟩⟩ rfl rfl hl.1 rfl (lv_room (Nat.le_of_ble_eq_true rfl)) dX1_orbits_17 ⟨Nat.zero_le _, Nat.zero_le _⟩)) (fun r_17 h_17 => ?_)
        subst h_17
        refine lv_if_le (tgt := 34) hx hb dX1_orbits_20 (by decide) (fun c_20 => ?_) (fun c_20 => ?_)
        · refine lv_iinc (v := nI (k + 1)) (lv' := [(2, .int (nI (k + 1))), (1, .int v1), (0, .ref h)]) hx hb dX1_orbits_34 hl (k := 0) rfl ((nI_succ _).symm) (by decide) rfl (fun ls hl => ?_)
          refine lv_goto (tgt := 4) hx hb dX1_orbits_37 (by decide) ?_
          exact ih4 (k + 1) v1 ls (by omega) (by rw [← hG4]; simp only [G_X1_orbits_4, if_pos c_20]) (lv_sub hl [0, 1, 2] rfl)
        · refine lv_aload_n hx hb dX1_orbits_23 rfl (lv_at hl 2 rfl) ?_
          refine lv_iload_n hx hb dX1_orbits_24 rfl (lv_at hl 0 rfl) ?_
          refine vp_callSi (va_Run.run (va_runV (As := [.int (nI k)]) (rest := []) ⟨hx, hb, hml, hown, hts⟩ (c_X1_isFirstOfOrbit l dC dI cI cR h h1 h2 h3 h4 h5 ρ (nI k)) (cwV 1 hts gX1_orbits_X1_isFirstOfOrbit rfl rfl rfl (by decide +kernel) ⟨Nat.le_of_ble_eq_true rfl, Nat.le_of_ble_eq_true rfl⟩) ⟨fun a U g mk q => by obtain ⟨q0, qP, qE⟩ := q; exact ⟨q0, qP, cE.same (s := U) rfl qE⟩, va_recv hK hP (ci := 1) (q0 := 0) rfl rfl, fun U hU hW => ⟨rfl, by rw [hU]; exact hP.sub (ws' := (wR cI h h1 h2 h3 h4 h5 ρ)) [0, 1, 2, 3, 4, 5] rfl, hE.warm hW⟩⟩ rfl rfl hl.1 rfl (lv_room (Nat.le_of_ble_eq_true rfl)) dX1_orbits_25 ⟨Nat.zero_le _, Nat.zero_le _⟩)) (fun r_25 h_25 => ?_)
          obtain ⟨rfl, hz_25⟩ := h_25
          refine lv_if_eq (tgt := 34) hx hb dX1_orbits_28 (by decide) (fun c_28 => ?_) (fun c_28 => ?_)
          · refine lv_iinc (v := nI (k + 1)) (lv' := [(2, .int (nI (k + 1))), (1, .int v1), (0, .ref h)]) hx hb dX1_orbits_34 hl (k := 0) rfl ((nI_succ _).symm) (by decide) rfl (fun ls hl => ?_)
            refine lv_goto (tgt := 4) hx hb dX1_orbits_37 (by decide) ?_
            exact ih4 (k + 1) v1 ls (by omega) (by rw [← hG4]; simp only [G_X1_orbits_4, if_neg c_20, if_pos c_28]) (lv_sub hl [0, 1, 2] rfl)
          · refine lv_iinc (v := v1 + 1) (lv' := [(1, .int (v1 + 1)), (2, .int (nI k)), (0, .ref h)]) hx hb dX1_orbits_31 hl (k := 1) rfl (rfl) (by decide) rfl (fun ls hl => ?_)
            refine lv_iinc (v := nI (k + 1)) (lv' := [(2, .int (nI (k + 1))), (1, .int (v1 + 1)), (0, .ref h)]) hx hb dX1_orbits_34 hl (k := 1) rfl ((nI_succ _).symm) (by decide) rfl (fun ls hl => ?_)
            refine lv_goto (tgt := 4) hx hb dX1_orbits_37 (by decide) ?_
            exact ih4 (k + 1) (v1 + 1) ls (by omega) (by rw [← hG4]; simp only [G_X1_orbits_4, if_neg c_20, if_neg c_28]) (lv_sub hl [0, 1, 2] rfl)
  exact loop4 ρ.2.2.2.2.2.1.toNatClampNeg 0 0 ls (by omega) (by simp only [S_X1_orbits]) (lv_sub hl [0, 1, 2] rfl)
end
section
/-! LAID BY MY PROGRAM wip/gen/p26.py: contracts, method by method -/
def G_X1_highestThrow_4 (ρ : RS) : Nat → Nat → Int32 → Int32
  | 0, k, v1 => v1
  | mm + 1, k, v1 => G_X1_highestThrow_4 ρ mm (k + 1) (if v1 < (S_X3_cell 8 ρ.1 (nI k)) then (S_X3_cell 8 ρ.1 (nI k)) else v1)
def S_X1_highestThrow (ρ : RS) : Int32 := G_X1_highestThrow_4 ρ ρ.2.2.2.2.2.1.toNatClampNeg 0 0
set_option maxHeartbeats 4000000 in
set_option maxRecDepth 100000 in
theorem c_X1_highestThrow (l : Launch) (dC : Nat → ClassId) (dI : Nat → Nat → Nat) (cI cR : ClassId) (h h1 h2 h3 h4 h5 : Nat) (ρ : RS)   : Met l yX1_highestThrow wsX1_highestThrow ({ frames := 1, cells := 0, slots := 0, locals := 21 }) (va_Pc [.ref h] (fun U => va_P (dC, dI) vwCl (wR cI h h1 h2 h3 h4 h5 ρ) U.heap ∧ cE (dC, dI) cI cR U)) (vp_Si (fun r => r = S_X1_highestThrow ρ)) 0 0 (fun _ => False) := by
  refine Met.ofW (cc := cX1_highestThrow) (maxL := 3) (ret := (some .int)) (by decide) rfl ?_
  intro p e s m args below meth c s₁ B hml hv
  obtain ⟨rfl, hP, hE⟩ := hv
  have hK := hE.1
  have hx := B.exec
  have hb := B.bytes
  have hr := B.returns
  have hts := atoms_spec (ws := wsX1_highestThrow) B.pre
  have hown : s.vm.findClass RX1 = some m.cls := findClass_of_methodNamed B.named
  have hlocks := B.notSynchronized
  have hP : va_P (dC, dI) vwCl [(h, .inr (1, [.ref h1, .ref h2, .ref h3, .ref h4, .ref h5, .int ρ.2.2.2.2.2.1, .int ρ.2.2.2.2.2.2])), (h1, .inl (cI, 8, .inl ρ.1)), (h2, .inl (cI, 8, .inl ρ.2.1)), (h3, .inl (cI, 8, .inl ρ.2.2.1)), (h4, .inl (cI, 8, .inl ρ.2.2.2.1)), (h5, .inl (cI, 8, .inl ρ.2.2.2.2.1))] s.heap := hP
  have hl := lv_entry ([.ref h]) (n := 3) (Nat.le_of_ble_eq_true rfl)
  rw [lg_entry_eq]
  generalize (lg_sl ([.ref h]) ++ List.replicate (3 - (lg_sl ([.ref h])).length) Slot.unset).toArray = ls at hl ⊢
  have hl : lv_has ls 3 [(0, .ref h)] := hl
  have q_0 := hts (.fieldLink RX1 27 "Cascadecourt$Row" "length" "I") (by decide +kernel)
  have in_X1 : ∀ w ∈ wsX10, w ∈ wsX1_highestThrow := by decide +kernel
  have q_1 := hts (.fieldLink RX1 9 "Cascadecourt$Row" "heights" "[I") (by decide +kernel)
  have q_2 := hts (.initialized RX3) (by decide +kernel)
  have q_3 := hts (.static yX3_cell) (by decide +kernel)
  have q_4 := hts (.methodLink RX1 105 Lib.Math.max.name) (by decide +kernel)
  have q_5 := hts (.static Lib.Math.max.name) (by decide +kernel)
  have q_6 := hts (.initialized "java/lang/Math") (by decide +kernel)
  have q_7 := hts (.code Lib.Math.max.name Lib.Math.max.code 2 (some .int)) (by decide +kernel)
  refine lv_iconst (v := 0) hx hb dX1_highestThrow_0 (by decide) ?_
  refine lv_istore_n (lv' := [(1, .int 0), (0, .ref h)]) hx hb dX1_highestThrow_1 rfl hl (by decide) rfl (fun ls hl => ?_)
  refine lv_iconst (v := 0) hx hb dX1_highestThrow_2 (by decide) ?_
  refine lv_istore_n (lv' := [(2, .int 0), (1, .int 0), (0, .ref h)]) hx hb dX1_highestThrow_3 rfl hl (by decide) rfl (fun ls hl => ?_)
  have hn4 := p_clt ρ.2.2.2.2.2.1
  have loop4 : ∀ (mm k : Nat) (v1 : Int32) (ls : Array Slot), k + mm = ρ.2.2.2.2.2.1.toNatClampNeg → G_X1_highestThrow_4 ρ mm k v1 = S_X1_highestThrow ρ → lv_has ls 3 [(2, .int (nI k)), (1, .int v1), (0, .ref h)] → W p l e (headSpec wsX1_highestThrow ({ frames := 1, cells := 0, slots := 0, locals := 21 })).room s m (([.ref h] : List Value).toArray) below meth c s.heap [] 0 0 (MQ below (vp_Si (fun r => r = S_X1_highestThrow ρ)) (([.ref h] : List Value).toArray) s 0 0 (fun _ => False)) (F0 m 4 ls []) := by
    intro mm
    induction mm with
    | zero =>
      intro k v1 ls hk4 hG4 hl
      refine lv_iload_n hx hb dX1_highestThrow_4 rfl (lv_at hl 0 rfl) ?_
      refine lv_aload_n hx hb dX1_highestThrow_5 rfl (lv_at hl 2 rfl) ?_
      refine va_get (D := (dC, dI)) (ci := 1) (v := .int ρ.2.2.2.2.2.1) (C := RX1) (T := TX1) (N := 7) hx hb hts in_X1 hown hK hP 0 rfl rfl 5 (by decide) q_0 (fun _ h9 => h9) rfl dX1_highestThrow_6 ?_
      refine lv_icmp_ge (tgt := 31) hx hb dX1_highestThrow_9 (by decide) (fun c_9 => ?_) (fun c_9 => ?_)
      · refine lv_iload_n hx hb dX1_highestThrow_31 rfl (lv_at hl 1 rfl) ?_
        exact W.iret (v := v1) hx hb hr (fun t ht hW => ⟨v1, rfl, by rw [← hG4]; simp only [G_X1_highestThrow_4], ht⟩) (fun q h => by cases h) dX1_highestThrow_32
      · exact absurd ((p_le (by omega)).mpr (by omega)) c_9
    | succ mm ih4 =>
      intro k v1 ls hk4 hG4 hl
      refine lv_iload_n hx hb dX1_highestThrow_4 rfl (lv_at hl 0 rfl) ?_
      refine lv_aload_n hx hb dX1_highestThrow_5 rfl (lv_at hl 2 rfl) ?_
      refine va_get (D := (dC, dI)) (ci := 1) (v := .int ρ.2.2.2.2.2.1) (C := RX1) (T := TX1) (N := 7) hx hb hts in_X1 hown hK hP 0 rfl rfl 5 (by decide) q_0 (fun _ h9 => h9) rfl dX1_highestThrow_6 ?_
      refine lv_icmp_ge (tgt := 31) hx hb dX1_highestThrow_9 (by decide) (fun c_9 => ?_) (fun c_9 => ?_)
      · exact absurd ((p_le (by omega)).mp c_9) (by omega)
      · refine lv_iload_n hx hb dX1_highestThrow_12 rfl (lv_at hl 1 rfl) ?_
        refine lv_aload_n hx hb dX1_highestThrow_13 rfl (lv_at hl 2 rfl) ?_
        refine va_get (D := (dC, dI)) (ci := 1) (v := .ref h1) (C := RX1) (T := TX1) (N := 7) hx hb hts in_X1 hown hK hP 0 rfl rfl 0 (by decide) q_1 (fun _ h9 => h9) rfl dX1_highestThrow_14 ?_
        refine lv_iload_n hx hb dX1_highestThrow_17 rfl (lv_at hl 0 rfl) ?_
        refine vp_callSi (va_Run.run (va_runSN (As := [.ref h1, .int (nI k)]) (rest := [.int v1]) ⟨hx, hb, hml, hown, hts⟩ (c_X3_cell l dC dI cI cR h1 8 ρ.1 (by decide) (nI k)) ⟨va_cnB 2 hts gX1_highestThrow_X3_cell_n52 rfl rfl rfl (hE.2 (.methodLinkNest RX1 52 yX3_cell "Cascadecourt") (by decide +kernel)) q_2 (by decide +kernel) ⟨Nat.le_of_ble_eq_true rfl, Nat.le_of_ble_eq_true rfl⟩, q_3, trivial⟩ ⟨fun a U g mk q => by obtain ⟨q0, qP, qE⟩ := q; exact ⟨q0, qP, cE.same (s := U) rfl qE⟩, fun U hU hW => ⟨rfl, by rw [hU]; exact hP.sub (ws' := [(h1, .inl (cI, 8, .inl ρ.1))]) [1] rfl, hE.warm hW⟩⟩ rfl rfl hl.1 rfl (lv_room (Nat.le_of_ble_eq_true rfl)) dX1_highestThrow_18 ⟨Nat.zero_le _, Nat.zero_le _⟩)) (fun r_18 h_18 => ?_)
        subst h_18
        refine va_mmax hx hb (hml.trans hl.1.symm) hown q_4 q_5 q_6 q_7 (Nat.le_of_ble_eq_true rfl) (Nat.le_of_ble_eq_true rfl) (Nat.zero_le _) (Nat.zero_le _) dX1_highestThrow_21 ?_
        refine lv_istore_n (lv' := [(1, .int (if v1 < (S_X3_cell 8 ρ.1 (nI k)) then (S_X3_cell 8 ρ.1 (nI k)) else v1)), (2, .int (nI k)), (0, .ref h)]) hx hb dX1_highestThrow_24 rfl hl (by decide) rfl (fun ls hl => ?_)
        refine lv_iinc (v := nI (k + 1)) (lv' := [(2, .int (nI (k + 1))), (1, .int (if v1 < (S_X3_cell 8 ρ.1 (nI k)) then (S_X3_cell 8 ρ.1 (nI k)) else v1)), (0, .ref h)]) hx hb dX1_highestThrow_25 hl (k := 1) rfl ((nI_succ _).symm) (by decide) rfl (fun ls hl => ?_)
        refine lv_goto (tgt := 4) hx hb dX1_highestThrow_28 (by decide) ?_
        exact ih4 (k + 1) (if v1 < (S_X3_cell 8 ρ.1 (nI k)) then (S_X3_cell 8 ρ.1 (nI k)) else v1) ls (by omega) (by rw [← hG4]; simp only [G_X1_highestThrow_4]) (lv_sub hl [0, 1, 2] rfl)
  exact loop4 ρ.2.2.2.2.2.1.toNatClampNeg 0 0 ls (by omega) (by simp only [S_X1_highestThrow]) (lv_sub hl [0, 1, 2] rfl)
def G_X1_greatestTurn_4 (ρ : RS) : Nat → Nat → Int32 → Int32
  | 0, k, v1 => v1
  | mm + 1, k, v1 => G_X1_greatestTurn_4 ρ mm (k + 1) (if v1 < (S_X3_cell 8 ρ.2.2.2.1 (nI k)) then (S_X3_cell 8 ρ.2.2.2.1 (nI k)) else v1)
def S_X1_greatestTurn (ρ : RS) : Int32 := G_X1_greatestTurn_4 ρ ρ.2.2.2.2.2.1.toNatClampNeg 0 0
set_option maxHeartbeats 4000000 in
set_option maxRecDepth 100000 in
theorem c_X1_greatestTurn (l : Launch) (dC : Nat → ClassId) (dI : Nat → Nat → Nat) (cI cR : ClassId) (h h1 h2 h3 h4 h5 : Nat) (ρ : RS)   : Met l yX1_greatestTurn wsX1_greatestTurn ({ frames := 1, cells := 0, slots := 0, locals := 21 }) (va_Pc [.ref h] (fun U => va_P (dC, dI) vwCl (wR cI h h1 h2 h3 h4 h5 ρ) U.heap ∧ cE (dC, dI) cI cR U)) (vp_Si (fun r => r = S_X1_greatestTurn ρ)) 0 0 (fun _ => False) := by
  refine Met.ofW (cc := cX1_greatestTurn) (maxL := 3) (ret := (some .int)) (by decide) rfl ?_
  intro p e s m args below meth c s₁ B hml hv
  obtain ⟨rfl, hP, hE⟩ := hv
  have hK := hE.1
  have hx := B.exec
  have hb := B.bytes
  have hr := B.returns
  have hts := atoms_spec (ws := wsX1_greatestTurn) B.pre
  have hown : s.vm.findClass RX1 = some m.cls := findClass_of_methodNamed B.named
  have hlocks := B.notSynchronized
  have hP : va_P (dC, dI) vwCl [(h, .inr (1, [.ref h1, .ref h2, .ref h3, .ref h4, .ref h5, .int ρ.2.2.2.2.2.1, .int ρ.2.2.2.2.2.2])), (h1, .inl (cI, 8, .inl ρ.1)), (h2, .inl (cI, 8, .inl ρ.2.1)), (h3, .inl (cI, 8, .inl ρ.2.2.1)), (h4, .inl (cI, 8, .inl ρ.2.2.2.1)), (h5, .inl (cI, 8, .inl ρ.2.2.2.2.1))] s.heap := hP
  have hl := lv_entry ([.ref h]) (n := 3) (Nat.le_of_ble_eq_true rfl)
  rw [lg_entry_eq]
  generalize (lg_sl ([.ref h]) ++ List.replicate (3 - (lg_sl ([.ref h])).length) Slot.unset).toArray = ls at hl ⊢
  have hl : lv_has ls 3 [(0, .ref h)] := hl
  have q_0 := hts (.fieldLink RX1 27 "Cascadecourt$Row" "length" "I") (by decide +kernel)
  have in_X1 : ∀ w ∈ wsX10, w ∈ wsX1_greatestTurn := by decide +kernel
  have q_1 := hts (.fieldLink RX1 21 "Cascadecourt$Row" "turns" "[I") (by decide +kernel)
  have q_2 := hts (.initialized RX3) (by decide +kernel)
  have q_3 := hts (.static yX3_cell) (by decide +kernel)
  have q_4 := hts (.methodLink RX1 105 Lib.Math.max.name) (by decide +kernel)
  have q_5 := hts (.static Lib.Math.max.name) (by decide +kernel)
  have q_6 := hts (.initialized "java/lang/Math") (by decide +kernel)
  have q_7 := hts (.code Lib.Math.max.name Lib.Math.max.code 2 (some .int)) (by decide +kernel)
  refine lv_iconst (v := 0) hx hb dX1_greatestTurn_0 (by decide) ?_
  refine lv_istore_n (lv' := [(1, .int 0), (0, .ref h)]) hx hb dX1_greatestTurn_1 rfl hl (by decide) rfl (fun ls hl => ?_)
  refine lv_iconst (v := 0) hx hb dX1_greatestTurn_2 (by decide) ?_
  refine lv_istore_n (lv' := [(2, .int 0), (1, .int 0), (0, .ref h)]) hx hb dX1_greatestTurn_3 rfl hl (by decide) rfl (fun ls hl => ?_)
  have hn4 := p_clt ρ.2.2.2.2.2.1
  have loop4 : ∀ (mm k : Nat) (v1 : Int32) (ls : Array Slot), k + mm = ρ.2.2.2.2.2.1.toNatClampNeg → G_X1_greatestTurn_4 ρ mm k v1 = S_X1_greatestTurn ρ → lv_has ls 3 [(2, .int (nI k)), (1, .int v1), (0, .ref h)] → W p l e (headSpec wsX1_greatestTurn ({ frames := 1, cells := 0, slots := 0, locals := 21 })).room s m (([.ref h] : List Value).toArray) below meth c s.heap [] 0 0 (MQ below (vp_Si (fun r => r = S_X1_greatestTurn ρ)) (([.ref h] : List Value).toArray) s 0 0 (fun _ => False)) (F0 m 4 ls []) := by
    intro mm
    induction mm with
    | zero =>
      intro k v1 ls hk4 hG4 hl
      refine lv_iload_n hx hb dX1_greatestTurn_4 rfl (lv_at hl 0 rfl) ?_
      refine lv_aload_n hx hb dX1_greatestTurn_5 rfl (lv_at hl 2 rfl) ?_
      refine va_get (D := (dC, dI)) (ci := 1) (v := .int ρ.2.2.2.2.2.1) (C := RX1) (T := TX1) (N := 7) hx hb hts in_X1 hown hK hP 0 rfl rfl 5 (by decide) q_0 (fun _ h9 => h9) rfl dX1_greatestTurn_6 ?_
      refine lv_icmp_ge (tgt := 31) hx hb dX1_greatestTurn_9 (by decide) (fun c_9 => ?_) (fun c_9 => ?_)
      · refine lv_iload_n hx hb dX1_greatestTurn_31 rfl (lv_at hl 1 rfl) ?_
        exact W.iret (v := v1) hx hb hr (fun t ht hW => ⟨v1, rfl, by rw [← hG4]; simp only [G_X1_greatestTurn_4], ht⟩) (fun q h => by cases h) dX1_greatestTurn_32
      · exact absurd ((p_le (by omega)).mpr (by omega)) c_9
    | succ mm ih4 =>
      intro k v1 ls hk4 hG4 hl
      refine lv_iload_n hx hb dX1_greatestTurn_4 rfl (lv_at hl 0 rfl) ?_
      refine lv_aload_n hx hb dX1_greatestTurn_5 rfl (lv_at hl 2 rfl) ?_
      refine va_get (D := (dC, dI)) (ci := 1) (v := .int ρ.2.2.2.2.2.1) (C := RX1) (T := TX1) (N := 7) hx hb hts in_X1 hown hK hP 0 rfl rfl 5 (by decide) q_0 (fun _ h9 => h9) rfl dX1_greatestTurn_6 ?_
      refine lv_icmp_ge (tgt := 31) hx hb dX1_greatestTurn_9 (by decide) (fun c_9 => ?_) (fun c_9 => ?_)
      · exact absurd ((p_le (by omega)).mp c_9) (by omega)
      · refine lv_iload_n hx hb dX1_greatestTurn_12 rfl (lv_at hl 1 rfl) ?_
        refine lv_aload_n hx hb dX1_greatestTurn_13 rfl (lv_at hl 2 rfl) ?_
        refine va_get (D := (dC, dI)) (ci := 1) (v := .ref h4) (C := RX1) (T := TX1) (N := 7) hx hb hts in_X1 hown hK hP 0 rfl rfl 3 (by decide) q_1 (fun _ h9 => h9) rfl dX1_greatestTurn_14 ?_
        refine lv_iload_n hx hb dX1_greatestTurn_17 rfl (lv_at hl 0 rfl) ?_
        refine vp_callSi (va_Run.run (va_runSN (As := [.ref h4, .int (nI k)]) (rest := [.int v1]) ⟨hx, hb, hml, hown, hts⟩ (c_X3_cell l dC dI cI cR h4 8 ρ.2.2.2.1 (by decide) (nI k)) ⟨va_cnB 2 hts gX1_greatestTurn_X3_cell_n52 rfl rfl rfl (hE.2 (.methodLinkNest RX1 52 yX3_cell "Cascadecourt") (by decide +kernel)) q_2 (by decide +kernel) ⟨Nat.le_of_ble_eq_true rfl, Nat.le_of_ble_eq_true rfl⟩, q_3, trivial⟩ ⟨fun a U g mk q => by obtain ⟨q0, qP, qE⟩ := q; exact ⟨q0, qP, cE.same (s := U) rfl qE⟩, fun U hU hW => ⟨rfl, by rw [hU]; exact hP.sub (ws' := [(h4, .inl (cI, 8, .inl ρ.2.2.2.1))]) [4] rfl, hE.warm hW⟩⟩ rfl rfl hl.1 rfl (lv_room (Nat.le_of_ble_eq_true rfl)) dX1_greatestTurn_18 ⟨Nat.zero_le _, Nat.zero_le _⟩)) (fun r_18 h_18 => ?_)
        subst h_18
        refine va_mmax hx hb (hml.trans hl.1.symm) hown q_4 q_5 q_6 q_7 (Nat.le_of_ble_eq_true rfl) (Nat.le_of_ble_eq_true rfl) (Nat.zero_le _) (Nat.zero_le _) dX1_greatestTurn_21 ?_
        refine lv_istore_n (lv' := [(1, .int (if v1 < (S_X3_cell 8 ρ.2.2.2.1 (nI k)) then (S_X3_cell 8 ρ.2.2.2.1 (nI k)) else v1)), (2, .int (nI k)), (0, .ref h)]) hx hb dX1_greatestTurn_24 rfl hl (by decide) rfl (fun ls hl => ?_)
        refine lv_iinc (v := nI (k + 1)) (lv' := [(2, .int (nI (k + 1))), (1, .int (if v1 < (S_X3_cell 8 ρ.2.2.2.1 (nI k)) then (S_X3_cell 8 ρ.2.2.2.1 (nI k)) else v1)), (0, .ref h)]) hx hb dX1_greatestTurn_25 hl (k := 1) rfl ((nI_succ _).symm) (by decide) rfl (fun ls hl => ?_)
        refine lv_goto (tgt := 4) hx hb dX1_greatestTurn_28 (by decide) ?_
        exact ih4 (k + 1) (if v1 < (S_X3_cell 8 ρ.2.2.2.1 (nI k)) then (S_X3_cell 8 ρ.2.2.2.1 (nI k)) else v1) ls (by omega) (by rw [← hG4]; simp only [G_X1_greatestTurn_4]) (lv_sub hl [0, 1, 2] rfl)
  exact loop4 ρ.2.2.2.2.2.1.toNatClampNeg 0 0 ls (by omega) (by simp only [S_X1_greatestTurn]) (lv_sub hl [0, 1, 2] rfl)
def G_X1_oneIfPrime_12 (ρ : RS) (k : Nat) (kont : Int32) : Nat → Nat → Int32
  | 0, k2 => kont
  | mm2 + 1, k2 => (if (S_X1_stateAt ρ (nI k)) = (S_X1_stateAt ρ (nI k2)) then 0 else G_X1_oneIfPrime_12 ρ k kont mm2 (k2 + 1))
def G_X1_oneIfPrime_2 (ρ : RS) : Nat → Nat → Int32
  | 0, k => 1
  | mm + 1, k => G_X1_oneIfPrime_12 ρ k (G_X1_oneIfPrime_2 ρ mm (k + 1)) ((nI k).toNatClampNeg) 0
def S_X1_oneIfPrime (ρ : RS) : Int32 := G_X1_oneIfPrime_2 ρ ρ.2.2.2.2.2.1.toNatClampNeg 0
set_option maxHeartbeats 4000000 in
set_option maxRecDepth 100000 in
theorem c_X1_oneIfPrime (l : Launch) (dC : Nat → ClassId) (dI : Nat → Nat → Nat) (cI cR : ClassId) (h h1 h2 h3 h4 h5 : Nat) (ρ : RS)   : Met l yX1_oneIfPrime wsX1_oneIfPrime ({ frames := 2, cells := 0, slots := 0, locals := 42 }) (va_Pc [.ref h] (fun U => va_P (dC, dI) vwCl (wR cI h h1 h2 h3 h4 h5 ρ) U.heap ∧ cE (dC, dI) cI cR U)) (vp_Si (fun r => r = S_X1_oneIfPrime ρ)) 0 0 (fun _ => False) := by
  refine Met.ofW (cc := cX1_oneIfPrime) (maxL := 3) (ret := (some .int)) (by decide) rfl ?_
  intro p e s m args below meth c s₁ B hml hv
  obtain ⟨rfl, hP, hE⟩ := hv
  have hK := hE.1
  have hx := B.exec
  have hb := B.bytes
  have hr := B.returns
  have hts := atoms_spec (ws := wsX1_oneIfPrime) B.pre
  have hown : s.vm.findClass RX1 = some m.cls := findClass_of_methodNamed B.named
  have hlocks := B.notSynchronized
  have hP : va_P (dC, dI) vwCl [(h, .inr (1, [.ref h1, .ref h2, .ref h3, .ref h4, .ref h5, .int ρ.2.2.2.2.2.1, .int ρ.2.2.2.2.2.2])), (h1, .inl (cI, 8, .inl ρ.1)), (h2, .inl (cI, 8, .inl ρ.2.1)), (h3, .inl (cI, 8, .inl ρ.2.2.1)), (h4, .inl (cI, 8, .inl ρ.2.2.2.1)), (h5, .inl (cI, 8, .inl ρ.2.2.2.2.1))] s.heap := hP
  have hl := lv_entry ([.ref h]) (n := 3) (Nat.le_of_ble_eq_true rfl)
  rw [lg_entry_eq]
  generalize (lg_sl ([.ref h]) ++ List.replicate (3 - (lg_sl ([.ref h])).length) Slot.unset).toArray = ls at hl ⊢
  have hl : lv_has ls 3 [(0, .ref h)] := hl
  have q_0 := hts (.fieldLink RX1 27 "Cascadecourt$Row" "length" "I") (by decide +kernel)
  have in_X1 : ∀ w ∈ wsX10, w ∈ wsX1_oneIfPrime := by decide +kernel
  refine lv_iconst (v := 0) hx hb dX1_oneIfPrime_0 (by decide) ?_
  refine lv_istore_n (lv' := [(1, .int 0), (0, .ref h)]) hx hb dX1_oneIfPrime_1 rfl hl (by decide) rfl (fun ls hl => ?_)
  have hn2 := p_clt ρ.2.2.2.2.2.1
  have loop2 : ∀ (mm k : Nat) (ls : Array Slot), k + mm = ρ.2.2.2.2.2.1.toNatClampNeg → G_X1_oneIfPrime_2 ρ mm k = S_X1_oneIfPrime ρ → lv_has ls 3 [(1, .int (nI k)), (0, .ref h)] → W p l e (headSpec wsX1_oneIfPrime ({ frames := 2, cells := 0, slots := 0, locals := 42 })).room s m (([.ref h] : List Value).toArray) below meth c s.heap [] 0 0 (MQ below (vp_Si (fun r => r = S_X1_oneIfPrime ρ)) (([.ref h] : List Value).toArray) s 0 0 (fun _ => False)) (F0 m 2 ls []) := by
    intro mm
    induction mm with
    | zero =>
      intro k ls hk2 hG2 hl
      refine lv_iload_n hx hb dX1_oneIfPrime_2 rfl (lv_at hl 0 rfl) ?_
      refine lv_aload_n hx hb dX1_oneIfPrime_3 rfl (lv_at hl 1 rfl) ?_
      refine va_get (D := (dC, dI)) (ci := 1) (v := .int ρ.2.2.2.2.2.1) (C := RX1) (T := TX1) (N := 7) hx hb hts in_X1 hown hK hP 0 rfl rfl 5 (by decide) q_0 (fun _ h9 => h9) rfl dX1_oneIfPrime_4 ?_
      refine lv_icmp_ge (tgt := 44) hx hb dX1_oneIfPrime_7 (by decide) (fun c_7 => ?_) (fun c_7 => ?_)
      · refine lv_iconst (v := 1) hx hb dX1_oneIfPrime_44 (by decide) ?_
        exact W.iret (v := 1) hx hb hr (fun t ht hW => ⟨1, rfl, by rw [← hG2]; simp only [G_X1_oneIfPrime_2], ht⟩) (fun q h => by cases h) dX1_oneIfPrime_45
      · exact absurd ((p_le (by omega)).mpr (by omega)) c_7
    | succ mm ih2 =>
      intro k ls hk2 hG2 hl
      refine lv_iload_n hx hb dX1_oneIfPrime_2 rfl (lv_at hl 0 rfl) ?_
      refine lv_aload_n hx hb dX1_oneIfPrime_3 rfl (lv_at hl 1 rfl) ?_
      refine va_get (D := (dC, dI)) (ci := 1) (v := .int ρ.2.2.2.2.2.1) (C := RX1) (T := TX1) (N := 7) hx hb hts in_X1 hown hK hP 0 rfl rfl 5 (by decide) q_0 (fun _ h9 => h9) rfl dX1_oneIfPrime_4 ?_
      refine lv_icmp_ge (tgt := 44) hx hb dX1_oneIfPrime_7 (by decide) (fun c_7 => ?_) (fun c_7 => ?_)
      · exact absurd ((p_le (by omega)).mp c_7) (by omega)
      · refine lv_iconst (v := 0) hx hb dX1_oneIfPrime_10 (by decide) ?_
        refine lv_istore_n (lv' := [(2, .int 0), (1, .int (nI k)), (0, .ref h)]) hx hb dX1_oneIfPrime_11 rfl hl (by decide) rfl (fun ls hl => ?_)
        have hn12 := p_clt (nI k)
        have loop12 : ∀ (mm2 k2 : Nat) (ls : Array Slot), k2 + mm2 = (nI k).toNatClampNeg → G_X1_oneIfPrime_12 ρ k (G_X1_oneIfPrime_2 ρ mm (k + 1)) mm2 k2 = S_X1_oneIfPrime ρ → lv_has ls 3 [(2, .int (nI k2)), (1, .int (nI k)), (0, .ref h)] → W p l e (headSpec wsX1_oneIfPrime ({ frames := 2, cells := 0, slots := 0, locals := 42 })).room s m (([.ref h] : List Value).toArray) below meth c s.heap [] 0 0 (MQ below (vp_Si (fun r => r = S_X1_oneIfPrime ρ)) (([.ref h] : List Value).toArray) s 0 0 (fun _ => False)) (F0 m 12 ls []) := by
          intro mm2
          induction mm2 with
          | zero =>
            intro k2 ls hk12 hG12 hl
            refine lv_iload_n hx hb dX1_oneIfPrime_12 rfl (lv_at hl 0 rfl) ?_
            refine lv_iload_n hx hb dX1_oneIfPrime_13 rfl (lv_at hl 1 rfl) ?_
            refine lv_icmp_ge (tgt := 38) hx hb dX1_oneIfPrime_14 (by decide) (fun c_14 => ?_) (fun c_14 => ?_)
            · refine lv_iinc (v := nI (k + 1)) (lv' := [(1, .int (nI (k + 1))), (2, .int (nI k2)), (0, .ref h)]) hx hb dX1_oneIfPrime_38 hl (k := 1) rfl ((nI_succ _).symm) (by decide) rfl (fun ls hl => ?_)
              refine lv_goto (tgt := 2) hx hb dX1_oneIfPrime_41 (by decide) ?_
              exact ih2 (k + 1) ls (by omega) (by rw [← hG12]; simp only [G_X1_oneIfPrime_12]) (lv_sub hl [0, 2] rfl)
            · exact absurd ((p_le (by omega)).mpr (by omega)) c_14
          | succ mm2 ih12 =>
            intro k2 ls hk12 hG12 hl
            refine lv_iload_n hx hb dX1_oneIfPrime_12 rfl (lv_at hl 0 rfl) ?_
            refine lv_iload_n hx hb dX1_oneIfPrime_13 rfl (lv_at hl 1 rfl) ?_
            refine lv_icmp_ge (tgt := 38) hx hb dX1_oneIfPrime_14 (by decide) (fun c_14 => ?_) (fun c_14 => ?_)
            · exact absurd ((p_le (by omega)).mp c_14) (by omega)
            · refine lv_aload_n hx hb dX1_oneIfPrime_17 rfl (lv_at hl 2 rfl) ?_
              refine lv_iload_n hx hb dX1_oneIfPrime_18 rfl (lv_at hl 1 rfl) ?_
              refine vp_callSi (va_Run.run (va_runV (As := [.int (nI k)]) (rest := []) ⟨hx, hb, hml, hown, hts⟩ (c_X1_stateAt l dC dI cI cR h h1 h2 h3 h4 h5 ρ (nI k)) (cwV 1 hts gX1_oneIfPrime_X1_stateAt rfl rfl rfl (by decide +kernel) ⟨Nat.le_of_ble_eq_true rfl, Nat.le_of_ble_eq_true rfl⟩) ⟨fun a U g mk q => by obtain ⟨q0, qP, qE⟩ := q; exact ⟨q0, qP, cE.same (s := U) rfl qE⟩, va_recv hK hP (ci := 1) (q0 := 0) rfl rfl, fun U hU hW => ⟨rfl, by rw [hU]; exact hP.sub (ws' := (wR cI h h1 h2 h3 h4 h5 ρ)) [0, 1, 2, 3, 4, 5] rfl, hE.warm hW⟩⟩ rfl rfl hl.1 rfl (lv_room (Nat.le_of_ble_eq_true rfl)) dX1_oneIfPrime_19 ⟨Nat.zero_le _, Nat.zero_le _⟩)) (fun r_19 h_19 => ?_)
              subst h_19
              refine lv_aload_n hx hb dX1_oneIfPrime_22 rfl (lv_at hl 2 rfl) ?_
              refine lv_iload_n hx hb dX1_oneIfPrime_23 rfl (lv_at hl 0 rfl) ?_
              refine vp_callSi (va_Run.run (va_runV (As := [.int (nI k2)]) (rest := [.int (S_X1_stateAt ρ (nI k))]) ⟨hx, hb, hml, hown, hts⟩ (c_X1_stateAt l dC dI cI cR h h1 h2 h3 h4 h5 ρ (nI k2)) (cwV 1 hts gX1_oneIfPrime_X1_stateAt rfl rfl rfl (by decide +kernel) ⟨Nat.le_of_ble_eq_true rfl, Nat.le_of_ble_eq_true rfl⟩) ⟨fun a U g mk q => by obtain ⟨q0, qP, qE⟩ := q; exact ⟨q0, qP, cE.same (s := U) rfl qE⟩, va_recv hK hP (ci := 1) (q0 := 0) rfl rfl, fun U hU hW => ⟨rfl, by rw [hU]; exact hP.sub (ws' := (wR cI h h1 h2 h3 h4 h5 ρ)) [0, 1, 2, 3, 4, 5] rfl, hE.warm hW⟩⟩ rfl rfl hl.1 rfl (lv_room (Nat.le_of_ble_eq_true rfl)) dX1_oneIfPrime_24 ⟨Nat.zero_le _, Nat.zero_le _⟩)) (fun r_24 h_24 => ?_)
              subst h_24
              refine lv_icmp_ne (tgt := 32) hx hb dX1_oneIfPrime_27 (by decide) (fun c_27 => ?_) (fun c_27 => ?_)
              · refine lv_iinc (v := nI (k2 + 1)) (lv' := [(2, .int (nI (k2 + 1))), (1, .int (nI k)), (0, .ref h)]) hx hb dX1_oneIfPrime_32 hl (k := 0) rfl ((nI_succ _).symm) (by decide) rfl (fun ls hl => ?_)
                refine lv_goto (tgt := 12) hx hb dX1_oneIfPrime_35 (by decide) ?_
                exact ih12 (k2 + 1) ls (by omega) (by rw [← hG12]; simp only [G_X1_oneIfPrime_12, if_neg c_27]) (lv_sub hl [0, 1, 2] rfl)
              · refine lv_iconst (v := 0) hx hb dX1_oneIfPrime_30 (by decide) ?_
                exact W.iret (v := 0) hx hb hr (fun t ht hW => ⟨0, rfl, by rw [← hG12]; simp only [G_X1_oneIfPrime_12, if_pos c_27], ht⟩) (fun q h => by cases h) dX1_oneIfPrime_31
        exact loop12 ((nI k).toNatClampNeg) 0 ls (by omega) (by rw [← hG2]; simp only [G_X1_oneIfPrime_2]) (lv_sub hl [0, 1, 2] rfl)
  exact loop2 ρ.2.2.2.2.2.1.toNatClampNeg 0 ls (by omega) (by simp only [S_X1_oneIfPrime]) (lv_sub hl [0, 1] rfl)
def G_X1_oneIfGround_11 (ρ : RS) : Nat → Nat → Int32
  | 0, k => 0
  | mm + 1, k => (if (S_X1_stateAt ρ (nI k)) = ((1 <<< ((S_X1_props ρ) &&& 31)) - 1) then 1 else G_X1_oneIfGround_11 ρ mm (k + 1))
def S_X1_oneIfGround (ρ : RS) : Int32 := G_X1_oneIfGround_11 ρ ρ.2.2.2.2.2.1.toNatClampNeg 0
set_option maxHeartbeats 4000000 in
set_option maxRecDepth 100000 in
theorem c_X1_oneIfGround (l : Launch) (dC : Nat → ClassId) (dI : Nat → Nat → Nat) (cI cR : ClassId) (h h1 h2 h3 h4 h5 : Nat) (ρ : RS)   : Met l yX1_oneIfGround wsX1_oneIfGround ({ frames := 3, cells := 0, slots := 0, locals := 63 }) (va_Pc [.ref h] (fun U => va_P (dC, dI) vwCl (wR cI h h1 h2 h3 h4 h5 ρ) U.heap ∧ cE (dC, dI) cI cR U)) (vp_Si (fun r => r = S_X1_oneIfGround ρ)) 0 0 (fun _ => False) := by
  refine Met.ofW (cc := cX1_oneIfGround) (maxL := 3) (ret := (some .int)) (by decide) rfl ?_
  intro p e s m args below meth c s₁ B hml hv
  obtain ⟨rfl, hP, hE⟩ := hv
  have hK := hE.1
  have hx := B.exec
  have hb := B.bytes
  have hr := B.returns
  have hts := atoms_spec (ws := wsX1_oneIfGround) B.pre
  have hown : s.vm.findClass RX1 = some m.cls := findClass_of_methodNamed B.named
  have hlocks := B.notSynchronized
  have hP : va_P (dC, dI) vwCl [(h, .inr (1, [.ref h1, .ref h2, .ref h3, .ref h4, .ref h5, .int ρ.2.2.2.2.2.1, .int ρ.2.2.2.2.2.2])), (h1, .inl (cI, 8, .inl ρ.1)), (h2, .inl (cI, 8, .inl ρ.2.1)), (h3, .inl (cI, 8, .inl ρ.2.2.1)), (h4, .inl (cI, 8, .inl ρ.2.2.2.1)), (h5, .inl (cI, 8, .inl ρ.2.2.2.2.1))] s.heap := hP
  have hl := lv_entry ([.ref h]) (n := 3) (Nat.le_of_ble_eq_true rfl)
  rw [lg_entry_eq]
  generalize (lg_sl ([.ref h]) ++ List.replicate (3 - (lg_sl ([.ref h])).length) Slot.unset).toArray = ls at hl ⊢
  have hl : lv_has ls 3 [(0, .ref h)] := hl
  have q_0 := hts (.fieldLink RX1 27 "Cascadecourt$Row" "length" "I") (by decide +kernel)
  have in_X1 : ∀ w ∈ wsX10, w ∈ wsX1_oneIfGround := by decide +kernel
  refine lv_iconst (v := 1) hx hb dX1_oneIfGround_0 (by decide) ?_
  refine lv_aload_n hx hb dX1_oneIfGround_1 rfl (lv_at hl 0 rfl) ?_
  refine vp_callSi (va_Run.run (va_runV (As := []) (rest := [.int 1]) ⟨hx, hb, hml, hown, hts⟩ (c_X1_props l dC dI cI cR h h1 h2 h3 h4 h5 ρ) (cwV 0 hts gX1_oneIfGround_X1_props rfl rfl rfl (by decide +kernel) ⟨Nat.le_of_ble_eq_true rfl, Nat.le_of_ble_eq_true rfl⟩) ⟨fun a U g mk q => by obtain ⟨q0, qP, qE⟩ := q; exact ⟨q0, qP, cE.same (s := U) rfl qE⟩, va_recv hK hP (ci := 1) (q0 := 0) rfl rfl, fun U hU hW => ⟨rfl, by rw [hU]; exact hP.sub (ws' := (wR cI h h1 h2 h3 h4 h5 ρ)) [0, 1, 2, 3, 4, 5] rfl, hE.warm hW⟩⟩ rfl rfl hl.1 rfl (lv_room (Nat.le_of_ble_eq_true rfl)) dX1_oneIfGround_2 ⟨Nat.zero_le _, Nat.zero_le _⟩)) (fun r_2 h_2 => ?_)
  subst h_2
  refine lv_ishl hx hb dX1_oneIfGround_5 ?_
  refine lv_iconst (v := 1) hx hb dX1_oneIfGround_6 (by decide) ?_
  refine lv_isub hx hb dX1_oneIfGround_7 ?_
  refine lv_istore_n (lv' := [(1, .int ((1 <<< ((S_X1_props ρ) &&& 31)) - 1)), (0, .ref h)]) hx hb dX1_oneIfGround_8 rfl hl (by decide) rfl (fun ls hl => ?_)
  refine lv_iconst (v := 0) hx hb dX1_oneIfGround_9 (by decide) ?_
  refine lv_istore_n (lv' := [(2, .int 0), (1, .int ((1 <<< ((S_X1_props ρ) &&& 31)) - 1)), (0, .ref h)]) hx hb dX1_oneIfGround_10 rfl hl (by decide) rfl (fun ls hl => ?_)
  have hn11 := p_clt ρ.2.2.2.2.2.1
  have loop11 : ∀ (mm k : Nat) (ls : Array Slot), k + mm = ρ.2.2.2.2.2.1.toNatClampNeg → G_X1_oneIfGround_11 ρ mm k = S_X1_oneIfGround ρ → lv_has ls 3 [(2, .int (nI k)), (1, .int ((1 <<< ((S_X1_props ρ) &&& 31)) - 1)), (0, .ref h)] → W p l e (headSpec wsX1_oneIfGround ({ frames := 3, cells := 0, slots := 0, locals := 63 })).room s m (([.ref h] : List Value).toArray) below meth c s.heap [] 0 0 (MQ below (vp_Si (fun r => r = S_X1_oneIfGround ρ)) (([.ref h] : List Value).toArray) s 0 0 (fun _ => False)) (F0 m 11 ls []) := by
    intro mm
    induction mm with
    | zero =>
      intro k ls hk11 hG11 hl
      refine lv_iload_n hx hb dX1_oneIfGround_11 rfl (lv_at hl 0 rfl) ?_
      refine lv_aload_n hx hb dX1_oneIfGround_12 rfl (lv_at hl 2 rfl) ?_
      refine va_get (D := (dC, dI)) (ci := 1) (v := .int ρ.2.2.2.2.2.1) (C := RX1) (T := TX1) (N := 7) hx hb hts in_X1 hown hK hP 0 rfl rfl 5 (by decide) q_0 (fun _ h9 => h9) rfl dX1_oneIfGround_13 ?_
      refine lv_icmp_ge (tgt := 36) hx hb dX1_oneIfGround_16 (by decide) (fun c_16 => ?_) (fun c_16 => ?_)
      · refine lv_iconst (v := 0) hx hb dX1_oneIfGround_36 (by decide) ?_
        exact W.iret (v := 0) hx hb hr (fun t ht hW => ⟨0, rfl, by rw [← hG11]; simp only [G_X1_oneIfGround_11], ht⟩) (fun q h => by cases h) dX1_oneIfGround_37
      · exact absurd ((p_le (by omega)).mpr (by omega)) c_16
    | succ mm ih11 =>
      intro k ls hk11 hG11 hl
      refine lv_iload_n hx hb dX1_oneIfGround_11 rfl (lv_at hl 0 rfl) ?_
      refine lv_aload_n hx hb dX1_oneIfGround_12 rfl (lv_at hl 2 rfl) ?_
      refine va_get (D := (dC, dI)) (ci := 1) (v := .int ρ.2.2.2.2.2.1) (C := RX1) (T := TX1) (N := 7) hx hb hts in_X1 hown hK hP 0 rfl rfl 5 (by decide) q_0 (fun _ h9 => h9) rfl dX1_oneIfGround_13 ?_
      refine lv_icmp_ge (tgt := 36) hx hb dX1_oneIfGround_16 (by decide) (fun c_16 => ?_) (fun c_16 => ?_)
      · exact absurd ((p_le (by omega)).mp c_16) (by omega)
      · refine lv_aload_n hx hb dX1_oneIfGround_19 rfl (lv_at hl 2 rfl) ?_
        refine lv_iload_n hx hb dX1_oneIfGround_20 rfl (lv_at hl 0 rfl) ?_
        refine vp_callSi (va_Run.run (va_runV (As := [.int (nI k)]) (rest := []) ⟨hx, hb, hml, hown, hts⟩ (c_X1_stateAt l dC dI cI cR h h1 h2 h3 h4 h5 ρ (nI k)) (cwV 1 hts gX1_oneIfGround_X1_stateAt rfl rfl rfl (by decide +kernel) ⟨Nat.le_of_ble_eq_true rfl, Nat.le_of_ble_eq_true rfl⟩) ⟨fun a U g mk q => by obtain ⟨q0, qP, qE⟩ := q; exact ⟨q0, qP, cE.same (s := U) rfl qE⟩, va_recv hK hP (ci := 1) (q0 := 0) rfl rfl, fun U hU hW => ⟨rfl, by rw [hU]; exact hP.sub (ws' := (wR cI h h1 h2 h3 h4 h5 ρ)) [0, 1, 2, 3, 4, 5] rfl, hE.warm hW⟩⟩ rfl rfl hl.1 rfl (lv_room (Nat.le_of_ble_eq_true rfl)) dX1_oneIfGround_21 ⟨Nat.zero_le _, Nat.zero_le _⟩)) (fun r_21 h_21 => ?_)
        subst h_21
        refine lv_iload_n hx hb dX1_oneIfGround_24 rfl (lv_at hl 1 rfl) ?_
        refine lv_icmp_ne (tgt := 30) hx hb dX1_oneIfGround_25 (by decide) (fun c_25 => ?_) (fun c_25 => ?_)
        · refine lv_iinc (v := nI (k + 1)) (lv' := [(2, .int (nI (k + 1))), (1, .int ((1 <<< ((S_X1_props ρ) &&& 31)) - 1)), (0, .ref h)]) hx hb dX1_oneIfGround_30 hl (k := 0) rfl ((nI_succ _).symm) (by decide) rfl (fun ls hl => ?_)
          refine lv_goto (tgt := 11) hx hb dX1_oneIfGround_33 (by decide) ?_
          exact ih11 (k + 1) ls (by omega) (by rw [← hG11]; simp only [G_X1_oneIfGround_11, if_neg c_25]) (lv_sub hl [0, 1, 2] rfl)
        · refine lv_iconst (v := 1) hx hb dX1_oneIfGround_28 (by decide) ?_
          exact W.iret (v := 1) hx hb hr (fun t ht hW => ⟨1, rfl, by rw [← hG11]; simp only [G_X1_oneIfGround_11, if_pos c_25], ht⟩) (fun q h => by cases h) dX1_oneIfGround_29
  exact loop11 ρ.2.2.2.2.2.1.toNatClampNeg 0 ls (by omega) (by simp only [S_X1_oneIfGround]) (lv_sub hl [0, 1, 2] rfl)
def S_X1_answer (ρ : RS) (p0 : Int32) : Int32 := (if p0 = 0 then ρ.2.2.2.2.2.1 else (if p0 = 1 then (if ρ.2.2.2.2.2.2 = 0 then 0 else 1) else (if p0 = 2 then S_X1_props ρ else (if p0 = 3 then S_X1_highestThrow ρ else (if p0 = 4 then S_X1_crossingThrows ρ else (if p0 = 5 then (if ρ.2.2.2.2.2.2 = 0 then (-1) else S_X1_orbits ρ) else (if p0 = 6 then (if ρ.2.2.2.2.2.2 = 0 then (-1) else S_X1_oneIfPrime ρ) else (if p0 = 7 then (if ρ.2.2.2.2.2.2 = 0 then (-1) else S_X1_oneIfGround ρ) else (if p0 = 8 then S_X1_period ρ else (if ρ.2.2.2.2.2.2 = 0 then (-1) else S_X1_greatestTurn ρ))))))))))
set_option maxHeartbeats 4000000 in
set_option maxRecDepth 100000 in
theorem c_X1_answer (l : Launch) (dC : Nat → ClassId) (dI : Nat → Nat → Nat) (cI cR : ClassId) (h h1 h2 h3 h4 h5 : Nat) (ρ : RS) (p0 : Int32) (hL : 1 ≤ ρ.2.2.2.2.2.1.toNatClampNeg) : Met l yX1_answer wsX1_answer ({ frames := 5, cells := 0, slots := 0, locals := 108 }) (va_Pc [.ref h, .int p0] (fun U => va_P (dC, dI) vwCl (wR cI h h1 h2 h3 h4 h5 ρ) U.heap ∧ cE (dC, dI) cI cR U)) (vp_Si (fun r => r = S_X1_answer ρ p0)) 0 0 (fun _ => False) := by
  refine Met.ofW (cc := cX1_answer) (maxL := 2) (ret := (some .int)) (by decide) rfl ?_
  intro p e s m args below meth c s₁ B hml hv
  obtain ⟨rfl, hP, hE⟩ := hv
  have hK := hE.1
  have hx := B.exec
  have hb := B.bytes
  have hr := B.returns
  have hts := atoms_spec (ws := wsX1_answer) B.pre
  have hown : s.vm.findClass RX1 = some m.cls := findClass_of_methodNamed B.named
  have hlocks := B.notSynchronized
  have hP : va_P (dC, dI) vwCl [(h, .inr (1, [.ref h1, .ref h2, .ref h3, .ref h4, .ref h5, .int ρ.2.2.2.2.2.1, .int ρ.2.2.2.2.2.2])), (h1, .inl (cI, 8, .inl ρ.1)), (h2, .inl (cI, 8, .inl ρ.2.1)), (h3, .inl (cI, 8, .inl ρ.2.2.1)), (h4, .inl (cI, 8, .inl ρ.2.2.2.1)), (h5, .inl (cI, 8, .inl ρ.2.2.2.2.1))] s.heap := hP
  have hl := lv_entry ([.ref h, .int p0]) (n := 2) (Nat.le_of_ble_eq_true rfl)
  rw [lg_entry_eq]
  generalize (lg_sl ([.ref h, .int p0]) ++ List.replicate (2 - (lg_sl ([.ref h, .int p0])).length) Slot.unset).toArray = ls at hl ⊢
  have hl : lv_has ls 2 [(0, .ref h), (1, .int p0)] := hl
  have q_0 := hts (.fieldLink RX1 27 "Cascadecourt$Row" "length" "I") (by decide +kernel)
  have in_X1 : ∀ w ∈ wsX10, w ∈ wsX1_answer := by decide +kernel
  have q_1 := hts (.fieldLink RX1 38 "Cascadecourt$Row" "sound" "Z") (by decide +kernel)
  refine lv_iload_n hx hb dX1_answer_0 rfl (lv_at hl 1 rfl) ?_
  by_cases k_1_0 : p0 = 0
  · refine lv_tableIn (off := 51) (tgt := 52) hx hb dX1_answer_1 (by rw [k_1_0]; decide) (by rw [k_1_0]; decide) (by rw [k_1_0]; rfl) (by decide) ?_
    refine lv_aload_n hx hb dX1_answer_52 rfl (lv_at hl 0 rfl) ?_
    refine va_get (D := (dC, dI)) (ci := 1) (v := .int ρ.2.2.2.2.2.1) (C := RX1) (T := TX1) (N := 7) hx hb hts in_X1 hown hK hP 0 rfl rfl 5 (by decide) q_0 (fun _ h9 => h9) rfl dX1_answer_53 ?_
    exact W.iret (v := ρ.2.2.2.2.2.1) hx hb hr (fun t ht hW => ⟨ρ.2.2.2.2.2.1, rfl, by simp only [S_X1_answer, if_pos k_1_0], ht⟩) (fun q h => by cases h) dX1_answer_56
  by_cases k_1_1 : p0 = 1
  · refine lv_tableIn (off := 56) (tgt := 57) hx hb dX1_answer_1 (by rw [k_1_1]; decide) (by rw [k_1_1]; decide) (by rw [k_1_1]; rfl) (by decide) ?_
    refine lv_aload_n hx hb dX1_answer_57 rfl (lv_at hl 0 rfl) ?_
    refine va_get (D := (dC, dI)) (ci := 1) (v := .int ρ.2.2.2.2.2.2) (C := RX1) (T := TX1) (N := 7) hx hb hts in_X1 hown hK hP 0 rfl rfl 6 (by decide) q_1 (fun _ h9 => h9) rfl dX1_answer_58 ?_
    refine lv_if_eq (tgt := 68) hx hb dX1_answer_61 (by decide) (fun c_61 => ?_) (fun c_61 => ?_)
    · refine lv_iconst (v := 0) hx hb dX1_answer_68 (by decide) ?_
      exact W.iret (v := 0) hx hb hr (fun t ht hW => ⟨0, rfl, by simp only [S_X1_answer, if_neg k_1_0, if_pos k_1_1, if_pos c_61], ht⟩) (fun q h => by cases h) dX1_answer_69
    · refine lv_iconst (v := 1) hx hb dX1_answer_64 (by decide) ?_
      refine lv_goto (tgt := 69) hx hb dX1_answer_65 (by decide) ?_
      exact W.iret (v := 1) hx hb hr (fun t ht hW => ⟨1, rfl, by simp only [S_X1_answer, if_neg k_1_0, if_pos k_1_1, if_neg c_61], ht⟩) (fun q h => by cases h) dX1_answer_69
  by_cases k_1_2 : p0 = 2
  · refine lv_tableIn (off := 69) (tgt := 70) hx hb dX1_answer_1 (by rw [k_1_2]; decide) (by rw [k_1_2]; decide) (by rw [k_1_2]; rfl) (by decide) ?_
    refine lv_aload_n hx hb dX1_answer_70 rfl (lv_at hl 0 rfl) ?_
    refine vp_callSi (va_Run.run (va_runV (As := []) (rest := []) ⟨hx, hb, hml, hown, hts⟩ (c_X1_props l dC dI cI cR h h1 h2 h3 h4 h5 ρ) (cwV 0 hts gX1_answer_X1_props rfl rfl rfl (by decide +kernel) ⟨Nat.le_of_ble_eq_true rfl, Nat.le_of_ble_eq_true rfl⟩) ⟨fun a U g mk q => by obtain ⟨q0, qP, qE⟩ := q; exact ⟨q0, qP, cE.same (s := U) rfl qE⟩, va_recv hK hP (ci := 1) (q0 := 0) rfl rfl, fun U hU hW => ⟨rfl, by rw [hU]; exact hP.sub (ws' := (wR cI h h1 h2 h3 h4 h5 ρ)) [0, 1, 2, 3, 4, 5] rfl, hE.warm hW⟩⟩ rfl rfl hl.1 rfl (lv_room (Nat.le_of_ble_eq_true rfl)) dX1_answer_71 ⟨Nat.zero_le _, Nat.zero_le _⟩)) (fun r_71 h_71 => ?_)
    subst h_71
    exact W.iret (v := (S_X1_props ρ)) hx hb hr (fun t ht hW => ⟨(S_X1_props ρ), rfl, by simp only [S_X1_answer, if_neg k_1_0, if_neg k_1_1, if_pos k_1_2], ht⟩) (fun q h => by cases h) dX1_answer_74
  by_cases k_1_3 : p0 = 3
  · refine lv_tableIn (off := 74) (tgt := 75) hx hb dX1_answer_1 (by rw [k_1_3]; decide) (by rw [k_1_3]; decide) (by rw [k_1_3]; rfl) (by decide) ?_
    refine lv_aload_n hx hb dX1_answer_75 rfl (lv_at hl 0 rfl) ?_
    refine vp_callSi (va_Run.run (va_runV (As := []) (rest := []) ⟨hx, hb, hml, hown, hts⟩ (c_X1_highestThrow l dC dI cI cR h h1 h2 h3 h4 h5 ρ) (cwV 0 hts gX1_answer_X1_highestThrow rfl rfl rfl (by decide +kernel) ⟨Nat.le_of_ble_eq_true rfl, Nat.le_of_ble_eq_true rfl⟩) ⟨fun a U g mk q => by obtain ⟨q0, qP, qE⟩ := q; exact ⟨q0, qP, cE.same (s := U) rfl qE⟩, va_recv hK hP (ci := 1) (q0 := 0) rfl rfl, fun U hU hW => ⟨rfl, by rw [hU]; exact hP.sub (ws' := (wR cI h h1 h2 h3 h4 h5 ρ)) [0, 1, 2, 3, 4, 5] rfl, hE.warm hW⟩⟩ rfl rfl hl.1 rfl (lv_room (Nat.le_of_ble_eq_true rfl)) dX1_answer_76 ⟨Nat.zero_le _, Nat.zero_le _⟩)) (fun r_76 h_76 => ?_)
    subst h_76
    exact W.iret (v := (S_X1_highestThrow ρ)) hx hb hr (fun t ht hW => ⟨(S_X1_highestThrow ρ), rfl, by simp only [S_X1_answer, if_neg k_1_0, if_neg k_1_1, if_neg k_1_2, if_pos k_1_3], ht⟩) (fun q h => by cases h) dX1_answer_79
  by_cases k_1_4 : p0 = 4
  · refine lv_tableIn (off := 79) (tgt := 80) hx hb dX1_answer_1 (by rw [k_1_4]; decide) (by rw [k_1_4]; decide) (by rw [k_1_4]; rfl) (by decide) ?_
    refine lv_aload_n hx hb dX1_answer_80 rfl (lv_at hl 0 rfl) ?_
    refine vp_callSi (va_Run.run (va_runV (As := []) (rest := []) ⟨hx, hb, hml, hown, hts⟩ (c_X1_crossingThrows l dC dI cI cR h h1 h2 h3 h4 h5 ρ) (cwV 0 hts gX1_answer_X1_crossingThrows rfl rfl rfl (by decide +kernel) ⟨Nat.le_of_ble_eq_true rfl, Nat.le_of_ble_eq_true rfl⟩) ⟨fun a U g mk q => by obtain ⟨q0, qP, qE⟩ := q; exact ⟨q0, qP, cE.same (s := U) rfl qE⟩, va_recv hK hP (ci := 1) (q0 := 0) rfl rfl, fun U hU hW => ⟨rfl, by rw [hU]; exact hP.sub (ws' := (wR cI h h1 h2 h3 h4 h5 ρ)) [0, 1, 2, 3, 4, 5] rfl, hE.warm hW⟩⟩ rfl rfl hl.1 rfl (lv_room (Nat.le_of_ble_eq_true rfl)) dX1_answer_81 ⟨Nat.zero_le _, Nat.zero_le _⟩)) (fun r_81 h_81 => ?_)
    subst h_81
    exact W.iret (v := (S_X1_crossingThrows ρ)) hx hb hr (fun t ht hW => ⟨(S_X1_crossingThrows ρ), rfl, by simp only [S_X1_answer, if_neg k_1_0, if_neg k_1_1, if_neg k_1_2, if_neg k_1_3, if_pos k_1_4], ht⟩) (fun q h => by cases h) dX1_answer_84
  by_cases k_1_5 : p0 = 5
  · refine lv_tableIn (off := 84) (tgt := 85) hx hb dX1_answer_1 (by rw [k_1_5]; decide) (by rw [k_1_5]; decide) (by rw [k_1_5]; rfl) (by decide) ?_
    refine lv_aload_n hx hb dX1_answer_85 rfl (lv_at hl 0 rfl) ?_
    refine va_get (D := (dC, dI)) (ci := 1) (v := .int ρ.2.2.2.2.2.2) (C := RX1) (T := TX1) (N := 7) hx hb hts in_X1 hown hK hP 0 rfl rfl 6 (by decide) q_1 (fun _ h9 => h9) rfl dX1_answer_86 ?_
    refine lv_if_eq (tgt := 99) hx hb dX1_answer_89 (by decide) (fun c_89 => ?_) (fun c_89 => ?_)
    · refine lv_iconst (v := (-1)) hx hb dX1_answer_99 (by decide) ?_
      exact W.iret (v := (-1)) hx hb hr (fun t ht hW => ⟨(-1), rfl, by simp only [S_X1_answer, if_neg k_1_0, if_neg k_1_1, if_neg k_1_2, if_neg k_1_3, if_neg k_1_4, if_pos k_1_5, if_pos c_89], ht⟩) (fun q h => by cases h) dX1_answer_100
    · refine lv_aload_n hx hb dX1_answer_92 rfl (lv_at hl 0 rfl) ?_
      refine vp_callSi (va_Run.run (va_runV (As := []) (rest := []) ⟨hx, hb, hml, hown, hts⟩ (c_X1_orbits l dC dI cI cR h h1 h2 h3 h4 h5 ρ) (cwV 0 hts gX1_answer_X1_orbits rfl rfl rfl (by decide +kernel) ⟨Nat.le_of_ble_eq_true rfl, Nat.le_of_ble_eq_true rfl⟩) ⟨fun a U g mk q => by obtain ⟨q0, qP, qE⟩ := q; exact ⟨q0, qP, cE.same (s := U) rfl qE⟩, va_recv hK hP (ci := 1) (q0 := 0) rfl rfl, fun U hU hW => ⟨rfl, by rw [hU]; exact hP.sub (ws' := (wR cI h h1 h2 h3 h4 h5 ρ)) [0, 1, 2, 3, 4, 5] rfl, hE.warm hW⟩⟩ rfl rfl hl.1 rfl (lv_room (Nat.le_of_ble_eq_true rfl)) dX1_answer_93 ⟨Nat.zero_le _, Nat.zero_le _⟩)) (fun r_93 h_93 => ?_)
      subst h_93
      refine lv_goto (tgt := 100) hx hb dX1_answer_96 (by decide) ?_
      exact W.iret (v := (S_X1_orbits ρ)) hx hb hr (fun t ht hW => ⟨(S_X1_orbits ρ), rfl, by simp only [S_X1_answer, if_neg k_1_0, if_neg k_1_1, if_neg k_1_2, if_neg k_1_3, if_neg k_1_4, if_pos k_1_5, if_neg c_89], ht⟩) (fun q h => by cases h) dX1_answer_100
  by_cases k_1_6 : p0 = 6
  · refine lv_tableIn (off := 100) (tgt := 101) hx hb dX1_answer_1 (by rw [k_1_6]; decide) (by rw [k_1_6]; decide) (by rw [k_1_6]; rfl) (by decide) ?_
    refine lv_aload_n hx hb dX1_answer_101 rfl (lv_at hl 0 rfl) ?_
    refine va_get (D := (dC, dI)) (ci := 1) (v := .int ρ.2.2.2.2.2.2) (C := RX1) (T := TX1) (N := 7) hx hb hts in_X1 hown hK hP 0 rfl rfl 6 (by decide) q_1 (fun _ h9 => h9) rfl dX1_answer_102 ?_
    refine lv_if_eq (tgt := 115) hx hb dX1_answer_105 (by decide) (fun c_105 => ?_) (fun c_105 => ?_)
    · refine lv_iconst (v := (-1)) hx hb dX1_answer_115 (by decide) ?_
      exact W.iret (v := (-1)) hx hb hr (fun t ht hW => ⟨(-1), rfl, by simp only [S_X1_answer, if_neg k_1_0, if_neg k_1_1, if_neg k_1_2, if_neg k_1_3, if_neg k_1_4, if_neg k_1_5, if_pos k_1_6, if_pos c_105], ht⟩) (fun q h => by cases h) dX1_answer_116
    · refine lv_aload_n hx hb dX1_answer_108 rfl (lv_at hl 0 rfl) ?_
      refine vp_callSi (va_Run.run (va_runV (As := []) (rest := []) ⟨hx, hb, hml, hown, hts⟩ (c_X1_oneIfPrime l dC dI cI cR h h1 h2 h3 h4 h5 ρ) (cwV 0 hts gX1_answer_X1_oneIfPrime rfl rfl rfl (by decide +kernel) ⟨Nat.le_of_ble_eq_true rfl, Nat.le_of_ble_eq_true rfl⟩) ⟨fun a U g mk q => by obtain ⟨q0, qP, qE⟩ := q; exact ⟨q0, qP, cE.same (s := U) rfl qE⟩, va_recv hK hP (ci := 1) (q0 := 0) rfl rfl, fun U hU hW => ⟨rfl, by rw [hU]; exact hP.sub (ws' := (wR cI h h1 h2 h3 h4 h5 ρ)) [0, 1, 2, 3, 4, 5] rfl, hE.warm hW⟩⟩ rfl rfl hl.1 rfl (lv_room (Nat.le_of_ble_eq_true rfl)) dX1_answer_109 ⟨Nat.zero_le _, Nat.zero_le _⟩)) (fun r_109 h_109 => ?_)
      subst h_109
      refine lv_goto (tgt := 116) hx hb dX1_answer_112 (by decide) ?_
      exact W.iret (v := (S_X1_oneIfPrime ρ)) hx hb hr (fun t ht hW => ⟨(S_X1_oneIfPrime ρ), rfl, by simp only [S_X1_answer, if_neg k_1_0, if_neg k_1_1, if_neg k_1_2, if_neg k_1_3, if_neg k_1_4, if_neg k_1_5, if_pos k_1_6, if_neg c_105], ht⟩) (fun q h => by cases h) dX1_answer_116
  by_cases k_1_7 : p0 = 7
  · refine lv_tableIn (off := 116) (tgt := 117) hx hb dX1_answer_1 (by rw [k_1_7]; decide) (by rw [k_1_7]; decide) (by rw [k_1_7]; rfl) (by decide) ?_
    refine lv_aload_n hx hb dX1_answer_117 rfl (lv_at hl 0 rfl) ?_
    refine va_get (D := (dC, dI)) (ci := 1) (v := .int ρ.2.2.2.2.2.2) (C := RX1) (T := TX1) (N := 7) hx hb hts in_X1 hown hK hP 0 rfl rfl 6 (by decide) q_1 (fun _ h9 => h9) rfl dX1_answer_118 ?_
    refine lv_if_eq (tgt := 131) hx hb dX1_answer_121 (by decide) (fun c_121 => ?_) (fun c_121 => ?_)
    · refine lv_iconst (v := (-1)) hx hb dX1_answer_131 (by decide) ?_
      exact W.iret (v := (-1)) hx hb hr (fun t ht hW => ⟨(-1), rfl, by simp only [S_X1_answer, if_neg k_1_0, if_neg k_1_1, if_neg k_1_2, if_neg k_1_3, if_neg k_1_4, if_neg k_1_5, if_neg k_1_6, if_pos k_1_7, if_pos c_121], ht⟩) (fun q h => by cases h) dX1_answer_132
    · refine lv_aload_n hx hb dX1_answer_124 rfl (lv_at hl 0 rfl) ?_
      refine vp_callSi (va_Run.run (va_runV (As := []) (rest := []) ⟨hx, hb, hml, hown, hts⟩ (c_X1_oneIfGround l dC dI cI cR h h1 h2 h3 h4 h5 ρ) (cwV 0 hts gX1_answer_X1_oneIfGround rfl rfl rfl (by decide +kernel) ⟨Nat.le_of_ble_eq_true rfl, Nat.le_of_ble_eq_true rfl⟩) ⟨fun a U g mk q => by obtain ⟨q0, qP, qE⟩ := q; exact ⟨q0, qP, cE.same (s := U) rfl qE⟩, va_recv hK hP (ci := 1) (q0 := 0) rfl rfl, fun U hU hW => ⟨rfl, by rw [hU]; exact hP.sub (ws' := (wR cI h h1 h2 h3 h4 h5 ρ)) [0, 1, 2, 3, 4, 5] rfl, hE.warm hW⟩⟩ rfl rfl hl.1 rfl (lv_room (Nat.le_of_ble_eq_true rfl)) dX1_answer_125 ⟨Nat.zero_le _, Nat.zero_le _⟩)) (fun r_125 h_125 => ?_)
      subst h_125
      refine lv_goto (tgt := 132) hx hb dX1_answer_128 (by decide) ?_
      exact W.iret (v := (S_X1_oneIfGround ρ)) hx hb hr (fun t ht hW => ⟨(S_X1_oneIfGround ρ), rfl, by simp only [S_X1_answer, if_neg k_1_0, if_neg k_1_1, if_neg k_1_2, if_neg k_1_3, if_neg k_1_4, if_neg k_1_5, if_neg k_1_6, if_pos k_1_7, if_neg c_121], ht⟩) (fun q h => by cases h) dX1_answer_132
  by_cases k_1_8 : p0 = 8
  · refine lv_tableIn (off := 132) (tgt := 133) hx hb dX1_answer_1 (by rw [k_1_8]; decide) (by rw [k_1_8]; decide) (by rw [k_1_8]; rfl) (by decide) ?_
    refine lv_aload_n hx hb dX1_answer_133 rfl (lv_at hl 0 rfl) ?_
    refine vp_callSi (va_Run.run (va_runV (As := []) (rest := []) ⟨hx, hb, hml, hown, hts⟩ (c_X1_period l dC dI cI cR h h1 h2 h3 h4 h5 ρ hL) (cwV 0 hts gX1_answer_X1_period rfl rfl rfl (by decide +kernel) ⟨Nat.le_of_ble_eq_true rfl, Nat.le_of_ble_eq_true rfl⟩) ⟨fun a U g mk q => by obtain ⟨q0, qP, qE⟩ := q; exact ⟨q0, qP, cE.same (s := U) rfl qE⟩, va_recv hK hP (ci := 1) (q0 := 0) rfl rfl, fun U hU hW => ⟨rfl, by rw [hU]; exact hP.sub (ws' := (wR cI h h1 h2 h3 h4 h5 ρ)) [0, 1, 2, 3, 4, 5] rfl, hE.warm hW⟩⟩ rfl rfl hl.1 rfl (lv_room (Nat.le_of_ble_eq_true rfl)) dX1_answer_134 ⟨Nat.zero_le _, Nat.zero_le _⟩)) (fun r_134 h_134 => ?_)
    subst h_134
    exact W.iret (v := (S_X1_period ρ)) hx hb hr (fun t ht hW => ⟨(S_X1_period ρ), rfl, by simp only [S_X1_answer, if_neg k_1_0, if_neg k_1_1, if_neg k_1_2, if_neg k_1_3, if_neg k_1_4, if_neg k_1_5, if_neg k_1_6, if_neg k_1_7, if_pos k_1_8], ht⟩) (fun q h => by cases h) dX1_answer_137
  refine lv_tableOut (tgt := 138) hx hb dX1_answer_1 (p_out9 k_1_0 k_1_1 k_1_2 k_1_3 k_1_4 k_1_5 k_1_6 k_1_7 k_1_8) (by decide) ?_
  refine lv_aload_n hx hb dX1_answer_138 rfl (lv_at hl 0 rfl) ?_
  refine va_get (D := (dC, dI)) (ci := 1) (v := .int ρ.2.2.2.2.2.2) (C := RX1) (T := TX1) (N := 7) hx hb hts in_X1 hown hK hP 0 rfl rfl 6 (by decide) q_1 (fun _ h9 => h9) rfl dX1_answer_139 ?_
  refine lv_if_eq (tgt := 152) hx hb dX1_answer_142 (by decide) (fun c_142 => ?_) (fun c_142 => ?_)
  · refine lv_iconst (v := (-1)) hx hb dX1_answer_152 (by decide) ?_
    exact W.iret (v := (-1)) hx hb hr (fun t ht hW => ⟨(-1), rfl, by simp only [S_X1_answer, if_neg k_1_0, if_neg k_1_1, if_neg k_1_2, if_neg k_1_3, if_neg k_1_4, if_neg k_1_5, if_neg k_1_6, if_neg k_1_7, if_neg k_1_8, if_pos c_142], ht⟩) (fun q h => by cases h) dX1_answer_153
  · refine lv_aload_n hx hb dX1_answer_145 rfl (lv_at hl 0 rfl) ?_
    refine vp_callSi (va_Run.run (va_runV (As := []) (rest := []) ⟨hx, hb, hml, hown, hts⟩ (c_X1_greatestTurn l dC dI cI cR h h1 h2 h3 h4 h5 ρ) (cwV 0 hts gX1_answer_X1_greatestTurn rfl rfl rfl (by decide +kernel) ⟨Nat.le_of_ble_eq_true rfl, Nat.le_of_ble_eq_true rfl⟩) ⟨fun a U g mk q => by obtain ⟨q0, qP, qE⟩ := q; exact ⟨q0, qP, cE.same (s := U) rfl qE⟩, va_recv hK hP (ci := 1) (q0 := 0) rfl rfl, fun U hU hW => ⟨rfl, by rw [hU]; exact hP.sub (ws' := (wR cI h h1 h2 h3 h4 h5 ρ)) [0, 1, 2, 3, 4, 5] rfl, hE.warm hW⟩⟩ rfl rfl hl.1 rfl (lv_room (Nat.le_of_ble_eq_true rfl)) dX1_answer_146 ⟨Nat.zero_le _, Nat.zero_le _⟩)) (fun r_146 h_146 => ?_)
    subst h_146
    refine lv_goto (tgt := 153) hx hb dX1_answer_149 (by decide) ?_
    exact W.iret (v := (S_X1_greatestTurn ρ)) hx hb hr (fun t ht hW => ⟨(S_X1_greatestTurn ρ), rfl, by simp only [S_X1_answer, if_neg k_1_0, if_neg k_1_1, if_neg k_1_2, if_neg k_1_3, if_neg k_1_4, if_neg k_1_5, if_neg k_1_6, if_neg k_1_7, if_neg k_1_8, if_neg c_142], ht⟩) (fun q h => by cases h) dX1_answer_153
def S_X1_answerAt (ρ : RS) (p0 : Int32) (p1 : Int32) : Int32 := (if p1 = 0 then S_X3_cell 8 ρ.1 p0 else (if p1 = 1 then S_X3_cell 8 ρ.2.2.1 p0 else (if p1 = 2 then (if ρ.2.2.2.2.2.2 = 0 then (-1) else S_X1_stateAt ρ p0) else (if p1 = 3 then (if ρ.2.2.2.2.2.2 = 0 then (-1) else S_X3_cell 8 ρ.2.2.2.1 p0) else (if ρ.2.2.2.2.2.2 = 0 then (-1) else (if ρ.2.2.2.2.2.1 ≤ 0 then (-1) else (S_X3_cell 8 ρ.2.2.2.1 p0) / ρ.2.2.2.2.2.1))))))
set_option maxHeartbeats 4000000 in
set_option maxRecDepth 100000 in
theorem c_X1_answerAt (l : Launch) (dC : Nat → ClassId) (dI : Nat → Nat → Nat) (cI cR : ClassId) (h h1 h2 h3 h4 h5 : Nat) (ρ : RS) (p0 : Int32) (p1 : Int32)  : Met l yX1_answerAt wsX1_answerAt ({ frames := 2, cells := 0, slots := 0, locals := 42 }) (va_Pc [.ref h, .int p0, .int p1] (fun U => va_P (dC, dI) vwCl (wR cI h h1 h2 h3 h4 h5 ρ) U.heap ∧ cE (dC, dI) cI cR U)) (vp_Si (fun r => r = S_X1_answerAt ρ p0 p1)) 0 0 (fun _ => False) := by
  refine Met.ofW (cc := cX1_answerAt) (maxL := 3) (ret := (some .int)) (by decide) rfl ?_
  intro p e s m args below meth c s₁ B hml hv
  obtain ⟨rfl, hP, hE⟩ := hv
  have hK := hE.1
  have hx := B.exec
  have hb := B.bytes
  have hr := B.returns
  have hts := atoms_spec (ws := wsX1_answerAt) B.pre
  have hown : s.vm.findClass RX1 = some m.cls := findClass_of_methodNamed B.named
  have hlocks := B.notSynchronized
  have hP : va_P (dC, dI) vwCl [(h, .inr (1, [.ref h1, .ref h2, .ref h3, .ref h4, .ref h5, .int ρ.2.2.2.2.2.1, .int ρ.2.2.2.2.2.2])), (h1, .inl (cI, 8, .inl ρ.1)), (h2, .inl (cI, 8, .inl ρ.2.1)), (h3, .inl (cI, 8, .inl ρ.2.2.1)), (h4, .inl (cI, 8, .inl ρ.2.2.2.1)), (h5, .inl (cI, 8, .inl ρ.2.2.2.2.1))] s.heap := hP
  have hl := lv_entry ([.ref h, .int p0, .int p1]) (n := 3) (Nat.le_of_ble_eq_true rfl)
  rw [lg_entry_eq]
  generalize (lg_sl ([.ref h, .int p0, .int p1]) ++ List.replicate (3 - (lg_sl ([.ref h, .int p0, .int p1])).length) Slot.unset).toArray = ls at hl ⊢
  have hl : lv_has ls 3 [(0, .ref h), (1, .int p0), (2, .int p1)] := hl
  have q_0 := hts (.fieldLink RX1 9 "Cascadecourt$Row" "heights" "[I") (by decide +kernel)
  have in_X1 : ∀ w ∈ wsX10, w ∈ wsX1_answerAt := by decide +kernel
  have q_1 := hts (.initialized RX3) (by decide +kernel)
  have q_2 := hts (.static yX3_cell) (by decide +kernel)
  have q_3 := hts (.fieldLink RX1 18 "Cascadecourt$Row" "landings" "[I") (by decide +kernel)
  have q_4 := hts (.fieldLink RX1 38 "Cascadecourt$Row" "sound" "Z") (by decide +kernel)
  have q_5 := hts (.fieldLink RX1 21 "Cascadecourt$Row" "turns" "[I") (by decide +kernel)
  have q_6 := hts (.fieldLink RX1 27 "Cascadecourt$Row" "length" "I") (by decide +kernel)
  refine lv_iload_n hx hb dX1_answerAt_0 rfl (lv_at hl 2 rfl) ?_
  by_cases k_1_0 : p1 = 0
  · refine lv_tableIn (off := 31) (tgt := 32) hx hb dX1_answerAt_1 (by rw [k_1_0]; decide) (by rw [k_1_0]; decide) (by rw [k_1_0]; rfl) (by decide) ?_
    refine lv_aload_n hx hb dX1_answerAt_32 rfl (lv_at hl 0 rfl) ?_
    refine va_get (D := (dC, dI)) (ci := 1) (v := .ref h1) (C := RX1) (T := TX1) (N := 7) hx hb hts in_X1 hown hK hP 0 rfl rfl 0 (by decide) q_0 (fun _ h9 => h9) rfl dX1_answerAt_33 ?_
    refine lv_iload_n hx hb dX1_answerAt_36 rfl (lv_at hl 1 rfl) ?_
    refine vp_callSi (va_Run.run (va_runSN (As := [.ref h1, .int p0]) (rest := []) ⟨hx, hb, hml, hown, hts⟩ (c_X3_cell l dC dI cI cR h1 8 ρ.1 (by decide) p0) ⟨va_cnB 2 hts gX1_answerAt_X3_cell_n52 rfl rfl rfl (hE.2 (.methodLinkNest RX1 52 yX3_cell "Cascadecourt") (by decide +kernel)) q_1 (by decide +kernel) ⟨Nat.le_of_ble_eq_true rfl, Nat.le_of_ble_eq_true rfl⟩, q_2, trivial⟩ ⟨fun a U g mk q => by obtain ⟨q0, qP, qE⟩ := q; exact ⟨q0, qP, cE.same (s := U) rfl qE⟩, fun U hU hW => ⟨rfl, by rw [hU]; exact hP.sub (ws' := [(h1, .inl (cI, 8, .inl ρ.1))]) [1] rfl, hE.warm hW⟩⟩ rfl rfl hl.1 rfl (lv_room (Nat.le_of_ble_eq_true rfl)) dX1_answerAt_37 ⟨Nat.zero_le _, Nat.zero_le _⟩)) (fun r_37 h_37 => ?_)
    subst h_37
    exact W.iret (v := (S_X3_cell 8 ρ.1 p0)) hx hb hr (fun t ht hW => ⟨(S_X3_cell 8 ρ.1 p0), rfl, by simp only [S_X1_answerAt, if_pos k_1_0], ht⟩) (fun q h => by cases h) dX1_answerAt_40
  by_cases k_1_1 : p1 = 1
  · refine lv_tableIn (off := 40) (tgt := 41) hx hb dX1_answerAt_1 (by rw [k_1_1]; decide) (by rw [k_1_1]; decide) (by rw [k_1_1]; rfl) (by decide) ?_
    refine lv_aload_n hx hb dX1_answerAt_41 rfl (lv_at hl 0 rfl) ?_
    refine va_get (D := (dC, dI)) (ci := 1) (v := .ref h3) (C := RX1) (T := TX1) (N := 7) hx hb hts in_X1 hown hK hP 0 rfl rfl 2 (by decide) q_3 (fun _ h9 => h9) rfl dX1_answerAt_42 ?_
    refine lv_iload_n hx hb dX1_answerAt_45 rfl (lv_at hl 1 rfl) ?_
    refine vp_callSi (va_Run.run (va_runSN (As := [.ref h3, .int p0]) (rest := []) ⟨hx, hb, hml, hown, hts⟩ (c_X3_cell l dC dI cI cR h3 8 ρ.2.2.1 (by decide) p0) ⟨va_cnB 2 hts gX1_answerAt_X3_cell_n52 rfl rfl rfl (hE.2 (.methodLinkNest RX1 52 yX3_cell "Cascadecourt") (by decide +kernel)) q_1 (by decide +kernel) ⟨Nat.le_of_ble_eq_true rfl, Nat.le_of_ble_eq_true rfl⟩, q_2, trivial⟩ ⟨fun a U g mk q => by obtain ⟨q0, qP, qE⟩ := q; exact ⟨q0, qP, cE.same (s := U) rfl qE⟩, fun U hU hW => ⟨rfl, by rw [hU]; exact hP.sub (ws' := [(h3, .inl (cI, 8, .inl ρ.2.2.1))]) [3] rfl, hE.warm hW⟩⟩ rfl rfl hl.1 rfl (lv_room (Nat.le_of_ble_eq_true rfl)) dX1_answerAt_46 ⟨Nat.zero_le _, Nat.zero_le _⟩)) (fun r_46 h_46 => ?_)
    subst h_46
    exact W.iret (v := (S_X3_cell 8 ρ.2.2.1 p0)) hx hb hr (fun t ht hW => ⟨(S_X3_cell 8 ρ.2.2.1 p0), rfl, by simp only [S_X1_answerAt, if_neg k_1_0, if_pos k_1_1], ht⟩) (fun q h => by cases h) dX1_answerAt_49
  by_cases k_1_2 : p1 = 2
  · refine lv_tableIn (off := 49) (tgt := 50) hx hb dX1_answerAt_1 (by rw [k_1_2]; decide) (by rw [k_1_2]; decide) (by rw [k_1_2]; rfl) (by decide) ?_
    refine lv_aload_n hx hb dX1_answerAt_50 rfl (lv_at hl 0 rfl) ?_
    refine va_get (D := (dC, dI)) (ci := 1) (v := .int ρ.2.2.2.2.2.2) (C := RX1) (T := TX1) (N := 7) hx hb hts in_X1 hown hK hP 0 rfl rfl 6 (by decide) q_4 (fun _ h9 => h9) rfl dX1_answerAt_51 ?_
    refine lv_if_eq (tgt := 65) hx hb dX1_answerAt_54 (by decide) (fun c_54 => ?_) (fun c_54 => ?_)
    · refine lv_iconst (v := (-1)) hx hb dX1_answerAt_65 (by decide) ?_
      exact W.iret (v := (-1)) hx hb hr (fun t ht hW => ⟨(-1), rfl, by simp only [S_X1_answerAt, if_neg k_1_0, if_neg k_1_1, if_pos k_1_2, if_pos c_54], ht⟩) (fun q h => by cases h) dX1_answerAt_66
    · refine lv_aload_n hx hb dX1_answerAt_57 rfl (lv_at hl 0 rfl) ?_
      refine lv_iload_n hx hb dX1_answerAt_58 rfl (lv_at hl 1 rfl) ?_
      refine vp_callSi (va_Run.run (va_runV (As := [.int p0]) (rest := []) ⟨hx, hb, hml, hown, hts⟩ (c_X1_stateAt l dC dI cI cR h h1 h2 h3 h4 h5 ρ p0) (cwV 1 hts gX1_answerAt_X1_stateAt rfl rfl rfl (by decide +kernel) ⟨Nat.le_of_ble_eq_true rfl, Nat.le_of_ble_eq_true rfl⟩) ⟨fun a U g mk q => by obtain ⟨q0, qP, qE⟩ := q; exact ⟨q0, qP, cE.same (s := U) rfl qE⟩, va_recv hK hP (ci := 1) (q0 := 0) rfl rfl, fun U hU hW => ⟨rfl, by rw [hU]; exact hP.sub (ws' := (wR cI h h1 h2 h3 h4 h5 ρ)) [0, 1, 2, 3, 4, 5] rfl, hE.warm hW⟩⟩ rfl rfl hl.1 rfl (lv_room (Nat.le_of_ble_eq_true rfl)) dX1_answerAt_59 ⟨Nat.zero_le _, Nat.zero_le _⟩)) (fun r_59 h_59 => ?_)
      subst h_59
      refine lv_goto (tgt := 66) hx hb dX1_answerAt_62 (by decide) ?_
      exact W.iret (v := (S_X1_stateAt ρ p0)) hx hb hr (fun t ht hW => ⟨(S_X1_stateAt ρ p0), rfl, by simp only [S_X1_answerAt, if_neg k_1_0, if_neg k_1_1, if_pos k_1_2, if_neg c_54], ht⟩) (fun q h => by cases h) dX1_answerAt_66
  by_cases k_1_3 : p1 = 3
  · refine lv_tableIn (off := 66) (tgt := 67) hx hb dX1_answerAt_1 (by rw [k_1_3]; decide) (by rw [k_1_3]; decide) (by rw [k_1_3]; rfl) (by decide) ?_
    refine lv_aload_n hx hb dX1_answerAt_67 rfl (lv_at hl 0 rfl) ?_
    refine va_get (D := (dC, dI)) (ci := 1) (v := .int ρ.2.2.2.2.2.2) (C := RX1) (T := TX1) (N := 7) hx hb hts in_X1 hown hK hP 0 rfl rfl 6 (by decide) q_4 (fun _ h9 => h9) rfl dX1_answerAt_68 ?_
    refine lv_if_eq (tgt := 85) hx hb dX1_answerAt_71 (by decide) (fun c_71 => ?_) (fun c_71 => ?_)
    · refine lv_iconst (v := (-1)) hx hb dX1_answerAt_85 (by decide) ?_
      exact W.iret (v := (-1)) hx hb hr (fun t ht hW => ⟨(-1), rfl, by simp only [S_X1_answerAt, if_neg k_1_0, if_neg k_1_1, if_neg k_1_2, if_pos k_1_3, if_pos c_71], ht⟩) (fun q h => by cases h) dX1_answerAt_86
    · refine lv_aload_n hx hb dX1_answerAt_74 rfl (lv_at hl 0 rfl) ?_
      refine va_get (D := (dC, dI)) (ci := 1) (v := .ref h4) (C := RX1) (T := TX1) (N := 7) hx hb hts in_X1 hown hK hP 0 rfl rfl 3 (by decide) q_5 (fun _ h9 => h9) rfl dX1_answerAt_75 ?_
      refine lv_iload_n hx hb dX1_answerAt_78 rfl (lv_at hl 1 rfl) ?_
      refine vp_callSi (va_Run.run (va_runSN (As := [.ref h4, .int p0]) (rest := []) ⟨hx, hb, hml, hown, hts⟩ (c_X3_cell l dC dI cI cR h4 8 ρ.2.2.2.1 (by decide) p0) ⟨va_cnB 2 hts gX1_answerAt_X3_cell_n52 rfl rfl rfl (hE.2 (.methodLinkNest RX1 52 yX3_cell "Cascadecourt") (by decide +kernel)) q_1 (by decide +kernel) ⟨Nat.le_of_ble_eq_true rfl, Nat.le_of_ble_eq_true rfl⟩, q_2, trivial⟩ ⟨fun a U g mk q => by obtain ⟨q0, qP, qE⟩ := q; exact ⟨q0, qP, cE.same (s := U) rfl qE⟩, fun U hU hW => ⟨rfl, by rw [hU]; exact hP.sub (ws' := [(h4, .inl (cI, 8, .inl ρ.2.2.2.1))]) [4] rfl, hE.warm hW⟩⟩ rfl rfl hl.1 rfl (lv_room (Nat.le_of_ble_eq_true rfl)) dX1_answerAt_79 ⟨Nat.zero_le _, Nat.zero_le _⟩)) (fun r_79 h_79 => ?_)
      subst h_79
      refine lv_goto (tgt := 86) hx hb dX1_answerAt_82 (by decide) ?_
      exact W.iret (v := (S_X3_cell 8 ρ.2.2.2.1 p0)) hx hb hr (fun t ht hW => ⟨(S_X3_cell 8 ρ.2.2.2.1 p0), rfl, by simp only [S_X1_answerAt, if_neg k_1_0, if_neg k_1_1, if_neg k_1_2, if_pos k_1_3, if_neg c_71], ht⟩) (fun q h => by cases h) dX1_answerAt_86
  refine lv_tableOut (tgt := 87) hx hb dX1_answerAt_1 (p_out4 k_1_0 k_1_1 k_1_2 k_1_3) (by decide) ?_
  refine lv_aload_n hx hb dX1_answerAt_87 rfl (lv_at hl 0 rfl) ?_
  refine va_get (D := (dC, dI)) (ci := 1) (v := .int ρ.2.2.2.2.2.2) (C := RX1) (T := TX1) (N := 7) hx hb hts in_X1 hown hK hP 0 rfl rfl 6 (by decide) q_4 (fun _ h9 => h9) rfl dX1_answerAt_88 ?_
  refine lv_if_eq (tgt := 117) hx hb dX1_answerAt_91 (by decide) (fun c_91 => ?_) (fun c_91 => ?_)
  · refine lv_iconst (v := (-1)) hx hb dX1_answerAt_117 (by decide) ?_
    exact W.iret (v := (-1)) hx hb hr (fun t ht hW => ⟨(-1), rfl, by simp only [S_X1_answerAt, if_neg k_1_0, if_neg k_1_1, if_neg k_1_2, if_neg k_1_3, if_pos c_91], ht⟩) (fun q h => by cases h) dX1_answerAt_118
  · refine lv_aload_n hx hb dX1_answerAt_94 rfl (lv_at hl 0 rfl) ?_
    refine va_get (D := (dC, dI)) (ci := 1) (v := .int ρ.2.2.2.2.2.1) (C := RX1) (T := TX1) (N := 7) hx hb hts in_X1 hown hK hP 0 rfl rfl 5 (by decide) q_6 (fun _ h9 => h9) rfl dX1_answerAt_95 ?_
    refine lv_if_le (tgt := 117) hx hb dX1_answerAt_98 (by decide) (fun c_98 => ?_) (fun c_98 => ?_)
    · refine lv_iconst (v := (-1)) hx hb dX1_answerAt_117 (by decide) ?_
      exact W.iret (v := (-1)) hx hb hr (fun t ht hW => ⟨(-1), rfl, by simp only [S_X1_answerAt, if_neg k_1_0, if_neg k_1_1, if_neg k_1_2, if_neg k_1_3, if_neg c_91, if_pos c_98], ht⟩) (fun q h => by cases h) dX1_answerAt_118
    · refine lv_aload_n hx hb dX1_answerAt_101 rfl (lv_at hl 0 rfl) ?_
      refine va_get (D := (dC, dI)) (ci := 1) (v := .ref h4) (C := RX1) (T := TX1) (N := 7) hx hb hts in_X1 hown hK hP 0 rfl rfl 3 (by decide) q_5 (fun _ h9 => h9) rfl dX1_answerAt_102 ?_
      refine lv_iload_n hx hb dX1_answerAt_105 rfl (lv_at hl 1 rfl) ?_
      refine vp_callSi (va_Run.run (va_runSN (As := [.ref h4, .int p0]) (rest := []) ⟨hx, hb, hml, hown, hts⟩ (c_X3_cell l dC dI cI cR h4 8 ρ.2.2.2.1 (by decide) p0) ⟨va_cnB 2 hts gX1_answerAt_X3_cell_n52 rfl rfl rfl (hE.2 (.methodLinkNest RX1 52 yX3_cell "Cascadecourt") (by decide +kernel)) q_1 (by decide +kernel) ⟨Nat.le_of_ble_eq_true rfl, Nat.le_of_ble_eq_true rfl⟩, q_2, trivial⟩ ⟨fun a U g mk q => by obtain ⟨q0, qP, qE⟩ := q; exact ⟨q0, qP, cE.same (s := U) rfl qE⟩, fun U hU hW => ⟨rfl, by rw [hU]; exact hP.sub (ws' := [(h4, .inl (cI, 8, .inl ρ.2.2.2.1))]) [4] rfl, hE.warm hW⟩⟩ rfl rfl hl.1 rfl (lv_room (Nat.le_of_ble_eq_true rfl)) dX1_answerAt_106 ⟨Nat.zero_le _, Nat.zero_le _⟩)) (fun r_106 h_106 => ?_)
      subst h_106
      refine lv_aload_n hx hb dX1_answerAt_109 rfl (lv_at hl 0 rfl) ?_
      refine va_get (D := (dC, dI)) (ci := 1) (v := .int ρ.2.2.2.2.2.1) (C := RX1) (T := TX1) (N := 7) hx hb hts in_X1 hown hK hP 0 rfl rfl 5 (by decide) q_6 (fun _ h9 => h9) rfl dX1_answerAt_110 ?_
      refine lv_idiv hx hb dX1_answerAt_113 (p_pos c_98) ?_
      refine lv_goto (tgt := 118) hx hb dX1_answerAt_114 (by decide) ?_
      exact W.iret (v := ((S_X3_cell 8 ρ.2.2.2.1 p0) / ρ.2.2.2.2.2.1)) hx hb hr (fun t ht hW => ⟨((S_X3_cell 8 ρ.2.2.2.1 p0) / ρ.2.2.2.2.2.1), rfl, by simp only [S_X1_answerAt, if_neg k_1_0, if_neg k_1_1, if_neg k_1_2, if_neg k_1_3, if_neg c_91, if_neg c_98], ht⟩) (fun q h => by cases h) dX1_answerAt_118
end
