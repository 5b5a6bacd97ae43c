section
-- ===== PART A: goes FIRST, ahead of the names: the tables' words, and 'selects' of the private methods out of them =====
/-- a private method of a class that the tables say can be made, by its rows of tables_1 -/
def lw_okq (q : MethodName × Nat) : Prop := (q.1.cls ≠ "java/lang/invoke/MethodHandle" ∧ q.1.cls ≠ "java/lang/invoke/VarHandle") ∧ Cond.instantiable q.1.cls q.2 ∈ tables_1 ∧ Cond.privateMethod q.1 ∈ tables_1 ∧ Cond.instanceMethod q.1 ∈ tables_1
theorem lw_p0 : lw_okq (⟨"java/lang/Throwable", "fillInStackTrace", "(I)Ljava/lang/Throwable;"⟩, 6) := ⟨⟨by decide +kernel, by decide +kernel⟩, List.mem_of_getElem? (i := 73) (by decide +kernel), List.mem_of_getElem? (i := 71) (by decide +kernel), List.mem_of_getElem? (i := 72) (by decide +kernel)⟩
theorem lw_p1 : lw_okq (⟨"Usewise$Lease", "layDebts", "()V"⟩, 11) := ⟨⟨by decide +kernel, by decide +kernel⟩, List.mem_of_getElem? (i := 118) (by decide +kernel), List.mem_of_getElem? (i := 133) (by decide +kernel), List.mem_of_getElem? (i := 134) (by decide +kernel)⟩
theorem lw_p2 : lw_okq (⟨"Usewise$Lease", "passOneMonth", "()V"⟩, 11) := ⟨⟨by decide +kernel, by decide +kernel⟩, List.mem_of_getElem? (i := 118) (by decide +kernel), List.mem_of_getElem? (i := 201) (by decide +kernel), List.mem_of_getElem? (i := 202) (by decide +kernel)⟩
theorem lw_p3 : lw_okq (⟨"Usewise", "leaseOf", "(I)LUsewise$Lease;"⟩, 2) := ⟨⟨by decide +kernel, by decide +kernel⟩, List.mem_of_getElem? (i := 11) (by decide +kernel), List.mem_of_getElem? (i := 209) (by decide +kernel), List.mem_of_getElem? (i := 210) (by decide +kernel)⟩
theorem lw_p4 : lw_okq (⟨"Usewise$Lease", "scalePayments", "(I)V"⟩, 11) := ⟨⟨by decide +kernel, by decide +kernel⟩, List.mem_of_getElem? (i := 118) (by decide +kernel), List.mem_of_getElem? (i := 247) (by decide +kernel), List.mem_of_getElem? (i := 248) (by decide +kernel)⟩
theorem lw_p5 : lw_okq (⟨"Usewise$Lease", "followDebt", "()V"⟩, 11) := ⟨⟨by decide +kernel, by decide +kernel⟩, List.mem_of_getElem? (i := 118) (by decide +kernel), List.mem_of_getElem? (i := 251) (by decide +kernel), List.mem_of_getElem? (i := 252) (by decide +kernel)⟩
theorem lw_p6 : lw_okq (⟨"Usewise$Lease", "giveUp", "(J)I"⟩, 11) := ⟨⟨by decide +kernel, by decide +kernel⟩, List.mem_of_getElem? (i := 118) (by decide +kernel), List.mem_of_getElem? (i := 278) (by decide +kernel), List.mem_of_getElem? (i := 279) (by decide +kernel)⟩
def lw_privs_1 : List (MethodName × Nat) := [(⟨"java/lang/Throwable", "fillInStackTrace", "(I)Ljava/lang/Throwable;"⟩, 6), (⟨"Usewise$Lease", "layDebts", "()V"⟩, 11), (⟨"Usewise$Lease", "passOneMonth", "()V"⟩, 11), (⟨"Usewise", "leaseOf", "(I)LUsewise$Lease;"⟩, 2), (⟨"Usewise$Lease", "scalePayments", "(I)V"⟩, 11), (⟨"Usewise$Lease", "followDebt", "()V"⟩, 11), (⟨"Usewise$Lease", "giveUp", "(J)I"⟩, 11)]
theorem lw_r1 : ∀ q ∈ lw_privs_1, lw_okq q := List.forall_mem_cons.mpr ⟨lw_p0, List.forall_mem_cons.mpr ⟨lw_p1, List.forall_mem_cons.mpr ⟨lw_p2, List.forall_mem_cons.mpr ⟨lw_p3, List.forall_mem_cons.mpr ⟨lw_p4, List.forall_mem_cons.mpr ⟨lw_p5, List.forall_mem_cons.mpr ⟨lw_p6, fun _ h => absurd h List.not_mem_nil⟩⟩⟩⟩⟩⟩⟩
def lw_privs : List (MethodName × Nat) := lw_privs_1
def lw_tbl : List Cond := k2_sels lw_privs ++ tables_1
theorem lw_privs_ok : ∀ q ∈ lw_privs, lw_okq q := lw_r1
-- ===== end of PART A; then your names; then what follows =====
end
section
/-! ===== BEGIN words of one list among another's, by their places ===== -/
theorem goodIn_r {big : List Cond} (ws : List Cond) (ps : List Nat) (hp : ws = ps.filterMap (fun i => big[i]?)) (h : ws.all goodWord = true) : GoodIn big ws := by
  intro w hw
  have h1 := List.all_eq_true.mp h w hw
  rw [hp] at hw
  obtain ⟨i, -, hi⟩ := List.mem_filterMap.mp hw
  have hm : w ∈ big := by first | exact List.mem_of_getElem? hi | exact List.getElem?_mem hi
  exact ⟨hm, good_of_word h1⟩
theorem goodIn_app {big a b : List Cond} (ha : GoodIn big a) (hb : GoodIn big b) : GoodIn big (a ++ b) := fun w h => (List.mem_append.mp h).elim (ha w) (hb w)
theorem goodIn_ca {big a b : List Cond} {c : Cond} (ha : GoodIn big (c :: a)) (hb : GoodIn big b) : GoodIn big (c :: (a ++ b)) := fun w h => (List.mem_cons.mp h).elim (fun e => ha w (List.mem_cons.mpr (Or.inl e))) (fun h => (List.mem_append.mp h).elim (fun h => ha w (List.mem_cons.mpr (Or.inr h))) (hb w))
theorem goodIn_sub {big ws : List Cond} (hm : ∀ w ∈ ws, w ∈ big) (h : ws.all goodWord = true) : GoodIn big ws := fun w hw => ⟨hm w hw, good_of_word (List.all_eq_true.mp h w hw)⟩
/-! ===== END ===== -/

/-! ===== BEGIN exceptions that leave a method, and their catching by the caller (launches without stack traces) ===== -/
section VXA
/-! The laws vx_back, vx_callV, vx_callS, vx_callSW, vx_throw0, vx_throwS follow proofs of the library, with one case more: JvmDerived/Free/Laws.lean (Back.of_free), Shelf42/LK1.lean (callV, callS), Shelf/KitTraced.lean (throwNew0V, throwNewS). -/
/-- where a method has thrown q: the class by its name, the cell, what was written, the world -/
def vx_T (XC : String → State → State → Prop) (st : State) (q : Addr) (t : State) (mc ms : Nat) (free : Addr → Prop) : Prop :=
  ∃ (E : String) (ce : Cell) (L : List Loc), XC E st t ∧ t.heap[q]? = some ce ∧ ce.vm = .none ∧ st.vm.findClass E = some ce.cls ∧ st.WarmedH t.vm ∧ st.sameButNew ({ t with vm := st.vm } : State) L mc ms ∧ ∀ z ∈ L, free z.base
def vx_Q (Qc : Array Value → State → Outcome → State → Prop) (XC : String → State → State → Prop) (mc ms : Nat) (free : Addr → Prop) : Array Value → State → Outcome → State → Prop := fun a st o t =>
  (Qc a st o t ∧ ∃ L, FrameEnd st o t L mc ms ∧ ∀ q ∈ L, free q.base) ∨ ∃ q, o = .threw q ∧ vx_T XC st q t mc ms free
/-- a callee that returns or throws -/
def vx_Met (l : Launch) (y : MethodName) (ws : List Cond) (rm : Room) (Pc : Array Value → State → Prop) (Qc : Array Value → State → Outcome → State → Prop) (XC : String → State → State → Prop) (mc ms : Nat) (free : Addr → Prop) : Prop :=
  MetFree l y (headSpec ws rm) Pc (fun _ _ _ _ _ => True) (vx_Q Qc XC mc ms free)
def vx_Post (XC : String → State → State → Prop) (mc ms : Nat) (free : Addr → Prop) : Pt → Array Value → Addr → Pt → Prop := fun A a q B =>
  ∃ (g : JFrame) (mk : MethodId) (t : State) (L : List Loc) (E : String) (ce : Cell), B.U.heap = t.heap ∧ B.U.vm = t.vm ∧ XC E (A.U.calling g mk a) t ∧ t.heap[q]? = some ce ∧ ce.vm = .none ∧ A.U.vm.findClass E = some ce.cls ∧ B.locs = A.locs ++ L ∧ (∀ z ∈ L, free z.base) ∧ B.cells = A.cells + mc ∧ B.slots = A.slots + ms
def vx_Back (l : Launch) (R : Room) (p : Program) (e : Env) (below : List Frame) (s : State) (sargs : Array Value) (y : MethodName) (len W9 : Nat)
    (Pre : Pt → Array Value → Prop) (Post : Pt → Array Value → Option Value → Pt → Prop) (PostX : Pt → Array Value → Addr → Pt → Prop) : Prop :=
  ∀ (m : MethodId) (meth : Method) (c : Code) (A : Pt) (g : JFrame) (ig : Instr) (mk : MethodId) (a : Array Value),
    Stand p l e R s m sargs below meth c A.U A.locs A.cells A.slots → g.method = m → g.locals.size = c.maxLocals → decode c.code g.pc = .ok (ig, len) →
    2 * g.monitorRoom + (g.stack.map fun v => v.category).sum ≤ W9 → A.U.methodNamed? y = some mk → Pre A a →
    (∃ (v : Option Value) (B : Pt), Stand p l e R s m sargs below meth c B.U B.locs B.cells B.slots ∧ Post A a v B ∧
      Steps p.tables e below (doInvoke e (A.U.setTop g) [] mk a).1 (B.U.setTop { g with pc := g.pc + len, stack := v.toList ++ g.stack })) ∨
    (∃ (q : Addr) (B : Pt), Stand p l e R s m sargs below meth c B.U B.locs B.cells B.slots ∧ PostX A a q B ∧
      Steps p.tables e below (doInvoke e (A.U.setTop g) [] mk a).1 ((B.U.setTop g).pushFrame (.throwing q)))
section Payer
variable {l : Launch} {R : Room} {p : Program} {e : Env} {below : List Frame} {s : State} {sargs : Array Value} {y : MethodName} {len W9 : Nat}
theorem vx_back {ws : List Cond} {rm : Room} {Pc : Array Value → State → Prop} {Qc : Array Value → State → Outcome → State → Prop} {XC : String → State → State → Prop} {mc ms : Nat} {free : Addr → Prop} {bytes : ByteArray} {maxL : Nat} {ret : Option FieldType}
    (hM : vx_Met l y ws rm Pc Qc XC mc ms free) (hblind : FrameBlind Pc) (hrc : rm.cells = mc) (hrs : rm.slots = ms)
    (hframes : rm.frames + 1 ≤ R.frames) (hlocals : W9 + (maxL + 11) + rm.locals ≤ R.locals)
    (hws : ∀ w ∈ ws, ∀ a' U, s.WarmedH U.vm → w.before a' U = true) (hcode : Cond.code y bytes maxL ret ∈ ws) (hinit : ∀ a' U, s.WarmedH U.vm → (Cond.initialized y.cls).before a' U = true) :
    vx_Back l R p e below s sargs y len W9 (PreOf R mc ms Pc) (PostOf Qc mc ms free) (vx_Post XC mc ms free) := by
  intro m meth c A g ig mk a X hg hsize hdg hW hn hp
  have h1 : (headSpec ws rm).pre.before a A.U = true := atoms_intro fun w hw => hws w hw _ _ X.warmed
  have h2 : (Cond.code y bytes maxL ret).before a A.U = true := hws _ hcode _ _ X.warmed
  have h3 : (Cond.initialized y.cls).before a A.U = true := hinit _ _ X.warmed
  have h4 : A.cells + (headSpec ws rm).room.cells ≤ R.cells := by rw [show (headSpec ws rm).room.cells = mc from hrc]; exact hp.1
  have h5 : A.slots + (headSpec ws rm).room.slots ≤ R.slots := by rw [show (headSpec ws rm).room.slots = ms from hrs]; exact hp.2.1
  have hPc : Pc a (A.U.calling g mk a) := hblind _ _ _ _ hp.2.2
  obtain ⟨U, Ls, c0, s0⟩ := A
  dsimp only [Pt.U, Pt.locs, Pt.cells, Pt.slots] at h1 h2 h3 h4 h5 X hn hPc ⊢
  obtain ⟨methY, cY, hmY, hcY, -, hlY, -, -, -, -⟩ := Cond.code_spec hn h2
  obtain ⟨kY, hkY, -⟩ := className_of_methodNamed hn
  have hinitY : kY.init = .initialized := Cond.initialized_spec (findClass_of_methodNamed hn) hkY h3
  have h : At U g.method c below := by rw [hg]; exact X.here
  have hlocals9 : W9 + (maxL + 11) + (headSpec ws rm).room.locals ≤ R.locals := hlocals
  have happ : (headSpec ws rm).appliesLoose y e.platform (U.calling g mk a) = true :=
    Spec.appliesLoose_calling (g := g) h hdg hn hkY hinitY
      (X.room_calling (g := g) (R' := (headSpec ws rm).room) hsize hmY hcY hframes (by rw [hlY]; omega) h4 h5) h1
  obtain ⟨mid, hmid⟩ := h.above
  have hfr : (U.setTop g).frames = (.java g :: mid) ++ below := by rw [State.frames_setTop' g h.top, hmid]; rfl
  obtain ⟨o, s₂, hsteps, -, hend, hq⟩ := Steps.callFree hM p X.admits X.cas X.clock (acts := []) hfr happ hPc trivial
  have hq' : vx_Q Qc XC mc ms free a (U.calling g mk a) o s₂ := hq
  rw [State.frames_setTop' g h.top] at hend
  obtain ⟨g₀, hg0⟩ := Option.isSome_iff_exists.mp h.top
  obtain ⟨r, hr⟩ := State.topJava?_eq_some.mp hg0
  have hr' : (({ U with heap := s₂.heap, slotsUsed := s₂.slotsUsed } : State).setVm s₂.vm).frames = .java g₀ :: r := hr
  rcases hq' with ⟨hqc, L, hfe, hL⟩ | ⟨q, rfl, E, ce, L, hx, hce, hcv, hcl, hW₂, hsm, hL⟩
  · obtain ⟨⟨v, rfl⟩, hW₂, e2, q2, q3, q4, q5, q6⟩ := id hfe
    have e3 : s₂ = ({ (U.calling g mk a).setFrames s₂.frames with heap := s₂.heap, slotsUsed := s₂.slotsUsed } : State).setVm s₂.vm := by
      have : s₂ = ({ s₂ with vm := (U.calling g mk a).vm } : State).setVm s₂.vm := rfl
      rw [e2] at this
      exact this
    obtain ⟨c₂, i₂, len₂, hc₂, hd₂, hf₂⟩ := hend
    have hW' : U.WarmedH s₂.vm := hW₂
    have hcc : c₂ = c := by
      have h1 : s₂.code? g.method = U.code? g.method := by
        rw [State.code?_eq, State.code?_eq, hW'.alike.method?]
      exact Option.some.inj (hc₂.symm.trans (h1.trans h.code))
    subst hcc
    have hlen : len₂ = len := by rw [hdg] at hd₂; cases hd₂; rfl
    subst hlen
    have hs₂ : s₂ = (({ U with heap := s₂.heap, slotsUsed := s₂.slotsUsed } : State).setVm s₂.vm).setTop { g with pc := g.pc + len₂, stack := v.toList ++ g.stack } := by
      refine e3.trans ?_
      rw [hf₂, State.calling_eq h.top, State.setFrames_setFrames, State.setTop_of_frames _ hr', hr]
      rfl
    have hsame : U.sameButNew ({ U with heap := s₂.heap, slotsUsed := s₂.slotsUsed } : State) L mc ms := by
      refine ⟨?_, q2, q3, q4, q5, q6⟩
      obtain ⟨t, ht, -⟩ := State.frames_cons hr
      show ({ U with heap := s₂.heap, slotsUsed := s₂.slotsUsed } : State) = { U.setFrames U.frames with heap := s₂.heap, slotsUsed := s₂.slotsUsed }
      rw [State.setFrames_self ht]
    subst hg
    refine Or.inl ⟨v, ⟨(({ U with heap := s₂.heap, slotsUsed := s₂.slotsUsed } : State).setVm s₂.vm), Ls ++ L, c0 + mc, s0 + ms⟩,
      ⟨X.admits, X.cas, X.clock, X.frames, X.room, X.hears, X.method, X.code, (X.here.setHeapUsed s₂.heap s₂.slotsUsed).setVm hW'.alike, X.tail, State.WarmedH.trans X.warmed hW', X.limits, X.bytes, X.same.trans (hsame.setVm s.vm)⟩,
      ⟨g, mk, s₂, L, rfl, rfl, hqc, rfl, hL, rfl, rfl⟩, ?_⟩
    show Steps p.tables e below _ ((({ U with heap := s₂.heap, slotsUsed := s₂.slotsUsed } : State).setVm s₂.vm).setTop { g with pc := g.pc + len₂, stack := v.toList ++ g.stack })
    rw [← hs₂]
    exact hsteps
  · obtain ⟨e2, q2, q3, q4, q5, q6⟩ := id hsm
    have e3 : s₂ = ({ (U.calling g mk a).setFrames s₂.frames with heap := s₂.heap, slotsUsed := s₂.slotsUsed } : State).setVm s₂.vm := by
      have : s₂ = ({ s₂ with vm := (U.calling g mk a).vm } : State).setVm s₂.vm := rfl
      rw [e2] at this
      exact this
    have hf₂ : s₂.frames = .throwing q :: .java g :: U.frames.tail := hend
    have hW' : U.WarmedH s₂.vm := hW₂
    have hs₂ : s₂ = ((({ U with heap := s₂.heap, slotsUsed := s₂.slotsUsed } : State).setVm s₂.vm).setTop g).pushFrame (.throwing q) := by
      refine e3.trans ?_
      rw [hf₂, State.calling_eq h.top, State.setFrames_setFrames, State.pushFrame, State.frames_setTop _ hr', State.setTop_of_frames _ hr', State.setFrames_setFrames, hr]
      rfl
    have hsame : U.sameButNew ({ U with heap := s₂.heap, slotsUsed := s₂.slotsUsed } : State) L mc ms := by
      refine ⟨?_, q2, q3, q4, q5, q6⟩
      obtain ⟨t, ht, -⟩ := State.frames_cons hr
      show ({ U with heap := s₂.heap, slotsUsed := s₂.slotsUsed } : State) = { U.setFrames U.frames with heap := s₂.heap, slotsUsed := s₂.slotsUsed }
      rw [State.setFrames_self ht]
    subst hg
    refine Or.inr ⟨q, ⟨(({ U with heap := s₂.heap, slotsUsed := s₂.slotsUsed } : State).setVm s₂.vm), Ls ++ L, c0 + mc, s0 + ms⟩,
      ⟨X.admits, X.cas, X.clock, X.frames, X.room, X.hears, X.method, X.code, (X.here.setHeapUsed s₂.heap s₂.slotsUsed).setVm hW'.alike, X.tail, State.WarmedH.trans X.warmed hW', X.limits, X.bytes, X.same.trans (hsame.setVm s.vm)⟩,
      ⟨g, mk, s₂, L, E, ce, rfl, rfl, hx, hce, hcv, hcl, rfl, hL, rfl, rfl⟩, ?_⟩
    show Steps p.tables e below _ (((({ U with heap := s₂.heap, slotsUsed := s₂.slotsUsed } : State).setVm s₂.vm).setTop g).pushFrame (.throwing q))
    rw [← hs₂]
    exact hsteps
end Payer
section Calls
variable {p : Program} {l : Launch} {e : Env} {R : Room} {s : State} {m : MethodId} {args : Array Value} {below : List Frame} {meth : Method} {c : Code} {T : State} {locs : List Loc} {cells slots : Nat}
theorem vx_callV (X : Stand p l e R s m args below meth c T locs cells slots) (hexec : p.tables.exec = Jvm.exec) {own C : String} {index : Nat} {y : MethodName} {bytes : ByteArray} {maxL : Nat} {ret : Option FieldType}
    (hown : s.vm.findClass own = some m.cls) (hlink : (Cond.methodLink own index y).before args s = true) (hinst : (Cond.instanceMethod y).before args s = true) (hsel : (Cond.selects C y y).before args s = true)
    (hcode : (Cond.code y bytes maxL ret).before args s = true) (hy : y.cls ≠ "java/lang/invoke/MethodHandle" ∧ y.cls ≠ "java/lang/invoke/VarHandle")
    {W9 : Nat} {Pre : Pt → Array Value → Prop} {Post : Pt → Array Value → Option Value → Pt → Prop} {PostX : Pt → Array Value → Addr → Pt → Prop} (hK : vx_Back l R p e below s args y 3 W9 Pre Post PostX)
    {b : Addr} {cellB : Cell} (hcell : T.heap[b]? = some cellB) (hobj : cellB.vm.isStatics = false) (hcls : s.vm.findClass C = some cellB.cls)
    {g : JFrame} (hg : g.method = m) (hsize : g.locals.size = c.maxLocals) {argsL rest : List Value} (hlen : ∀ sig, parseMethodDescriptor y.desc = some sig → argsL.length = sig.parameters.length)
    (hstack : g.stack = argsL.reverse ++ .ref b :: rest) (hW : 2 * g.monitorRoom + (rest.map fun v => v.category).sum ≤ W9) (hdg : decode c.code g.pc = .ok (.invokevirtual index, 3))
    (hpre : ∀ vm₁, s.WarmedH vm₁ → Pre ⟨T.setVm vm₁, locs, cells, slots⟩ (Value.ref b :: argsL).toArray) :
    (∃ (v : Option Value) (vm₁ : Vm) (B : Pt), s.WarmedH vm₁ ∧ Stand p l e R s m args below meth c B.U B.locs B.cells B.slots ∧ Post ⟨T.setVm vm₁, locs, cells, slots⟩ (Value.ref b :: argsL).toArray v B ∧
      ∀ target, Steps p.tables e below (B.U.setTop { g with pc := g.pc + 3, stack := v.toList ++ rest }) target → Steps p.tables e below (T.setTop g) target) ∨
    (∃ (q : Addr) (vm₁ : Vm) (B : Pt), s.WarmedH vm₁ ∧ Stand p l e R s m args below meth c B.U B.locs B.cells B.slots ∧ PostX ⟨T.setVm vm₁, locs, cells, slots⟩ (Value.ref b :: argsL).toArray q B ∧
      Steps p.tables e below (T.setTop g) ((B.U.setTop { g with stack := rest }).pushFrame (.throwing q))) := by
  obtain ⟨mk, methM, hnamed, hmethM, hstM, habM⟩ := Cond.instanceMethod_spec hinst
  obtain ⟨methM', cM, hmethM', -, -, -, -, -, -, hsigM⟩ := Cond.code_spec hnamed hcode
  cases hmethM.symm.trans hmethM'
  obtain ⟨c2, r2, m2, q1, q2, q3, q4, kP, hkP, hkPi⟩ := Cond.selects_spec hsel
  cases hcls.symm.trans q1
  cases (State.methodFound?_of_named hnamed hy).symm.trans q2
  cases hnamed.symm.trans q3
  have hselP : selectMethod e.platform s.vm cellB.cls mk = .method mk := by rw [Launch.admits_selectMethod X.admits]; exact q4
  obtain ⟨vm₁, X₁, hstep₁⟩ := X.invokevirtual hexec hown hlink hnamed hmethM hstM hkP hkPi hy (a := b) (cell := cellB) hcell
    (fun z h => by rw [h] at hobj; cases hobj) hselP hmethM habM hkP hkPi (g := g) hg (argsL := argsL) (rest := rest) (hlen _ hsigM) hstack hdg
  rcases hK m meth c ⟨T.setVm vm₁, locs, cells, slots⟩ { g with stack := rest } (.invokevirtual index) mk (Value.ref b :: argsL).toArray X₁ hg hsize hdg hW (X₁.named hnamed) (hpre vm₁ X₁.warmed) with ⟨v, B, X', hpost, hsteps⟩ | ⟨q, B, X', hpost, hsteps⟩
  · exact Or.inl ⟨v, vm₁, B, X₁.warmed, X', hpost, fun target h => hstep₁ _ fun acts => by rw [doInvoke_state]; exact hsteps.trans h⟩
  · exact Or.inr ⟨q, vm₁, B, X₁.warmed, X', hpost, hstep₁ _ fun acts => by rw [doInvoke_state]; exact hsteps⟩
theorem vx_callS (X : Stand p l e R s m args below meth c T locs cells slots) (hexec : p.tables.exec = Jvm.exec) {own : String} {index : Nat} {y : MethodName} {bytes : ByteArray} {maxL : Nat} {ret : Option FieldType}
    (hown : s.vm.findClass own = some m.cls) (hlink : (Cond.methodLink own index y).before args s = true) (hstat : (Cond.static y).before args s = true) (hinit : (Cond.initialized y.cls).before args s = true)
    (hcode : (Cond.code y bytes maxL ret).before args s = true) (hy : y.cls ≠ "java/lang/invoke/MethodHandle" ∧ y.cls ≠ "java/lang/invoke/VarHandle")
    {W9 : Nat} {Pre : Pt → Array Value → Prop} {Post : Pt → Array Value → Option Value → Pt → Prop} {PostX : Pt → Array Value → Addr → Pt → Prop} (hK : vx_Back l R p e below s args y 3 W9 Pre Post PostX)
    {g : JFrame} (hg : g.method = m) (hsize : g.locals.size = c.maxLocals) {argsL rest : List Value} (hlen : ∀ sig, parseMethodDescriptor y.desc = some sig → argsL.length = sig.parameters.length)
    (hstack : g.stack = argsL.reverse ++ rest) (hW : 2 * g.monitorRoom + (rest.map fun v => v.category).sum ≤ W9) (hdg : decode c.code g.pc = .ok (.invokestatic index, 3))
    (hpre : ∀ vm₁, s.WarmedH vm₁ → Pre ⟨T.setVm vm₁, locs, cells, slots⟩ argsL.toArray) :
    (∃ (v : Option Value) (vm₁ : Vm) (B : Pt), s.WarmedH vm₁ ∧ Stand p l e R s m args below meth c B.U B.locs B.cells B.slots ∧ Post ⟨T.setVm vm₁, locs, cells, slots⟩ argsL.toArray v B ∧
      ∀ target, Steps p.tables e below (B.U.setTop { g with pc := g.pc + 3, stack := v.toList ++ rest }) target → Steps p.tables e below (T.setTop g) target) ∨
    (∃ (q : Addr) (vm₁ : Vm) (B : Pt), s.WarmedH vm₁ ∧ Stand p l e R s m args below meth c B.U B.locs B.cells B.slots ∧ PostX ⟨T.setVm vm₁, locs, cells, slots⟩ argsL.toArray q B ∧
      Steps p.tables e below (T.setTop g) ((B.U.setTop { g with stack := rest }).pushFrame (.throwing q))) := by
  obtain ⟨mk, hnamed⟩ := Cond.code_named hcode
  obtain ⟨methM, cM, hmethM, -, -, -, -, -, -, hsigM⟩ := Cond.code_spec hnamed hcode
  have hstatic : methM.isStatic = true := Cond.static_spec hnamed hmethM hstat
  obtain ⟨kP, hkP, -⟩ := className_of_methodNamed hnamed
  have hinitP : kP.init = .initialized := Cond.initialized_spec (findClass_of_methodNamed hnamed) hkP hinit
  obtain ⟨vm₁, X₁, hstep₁⟩ := X.invokestatic hexec hown hlink hnamed hmethM hstatic hkP hinitP hy (g := g) hg (argsL := argsL) (rest := rest) (hlen _ hsigM) hstack hdg
  rcases hK m meth c ⟨T.setVm vm₁, locs, cells, slots⟩ { g with stack := rest } (.invokestatic index) mk argsL.toArray X₁ hg hsize hdg hW (X₁.named hnamed) (hpre vm₁ X₁.warmed) with ⟨v, B, X', hpost, hsteps⟩ | ⟨q, B, X', hpost, hsteps⟩
  · exact Or.inl ⟨v, vm₁, B, X₁.warmed, X', hpost, fun target h => hstep₁ _ fun acts => by rw [doInvoke_state]; exact hsteps.trans h⟩
  · exact Or.inr ⟨q, vm₁, B, X₁.warmed, X', hpost, hstep₁ _ fun acts => by rw [doInvoke_state]; exact hsteps⟩
end Calls
theorem vx_cls {s : State} {T : State} {vm₁ : Vm} {E : String} {k : ClassId} (hW : s.WarmedH vm₁) (h : (T.setVm vm₁).vm.findClass E = some k) : s.vm.findClass E = some k := by
  have h1 : vm₁.findClass E = some k := h
  rw [hW.alike.findClass] at h1
  exact h1
/-- the method's frame g, with q thrown over it -/
def vx_W (p : Program) (l : Launch) (e : Env) (R : Room) (s : State) (m : MethodId) (args : Array Value) (below : List Frame) (meth : Method) (c : Code) (H : Heap) (locs : List Loc) (cells slots : Nat) (Q : State → Prop) (g : JFrame) (q : Addr) : Prop :=
  ∀ T : State, T.heap = H → Stand p l e R s m args below meth c T locs cells slots → ∃ t, Steps p.tables e below ((T.setTop g).pushFrame (.throwing q)) t ∧ Q t
def vx_Run (p : Program) (l : Launch) (e : Env) (R : Room) (s : State) (m : MethodId) (args : Array Value) (below : List Frame) (meth : Method) (c : Code) (H : Heap) (locs : List Loc) (cells slots mc ms : Nat) (g : JFrame) (rest : List Value) (Qa : State → Outcome → State → Prop) (XC : String → State → State → Prop) (free : Addr → Prop) : Prop :=
  ∀ T : State, T.heap = H → Stand p l e R s m args below meth c T locs cells slots →
    (∃ (v : Option Value) (st₀ t T' : State) (L : List Loc), st₀.heap = H ∧ Stand p l e R s m args below meth c T' (locs ++ L) (cells + mc) (slots + ms) ∧ (∀ q ∈ L, free q.base) ∧ T'.heap = t.heap ∧ T'.vm = t.vm ∧ Qa st₀ (.returned v) t ∧
      Goes p e below T g T' { g with pc := g.pc + 3, stack := v.toList ++ rest }) ∨
    (∃ (q : Addr) (st₀ t T' : State) (L : List Loc) (E : String) (ce : Cell), st₀.heap = H ∧ Stand p l e R s m args below meth c T' (locs ++ L) (cells + mc) (slots + ms) ∧ (∀ z ∈ L, free z.base) ∧ T'.heap = t.heap ∧ T'.vm = t.vm ∧ XC E st₀ t ∧ t.heap[q]? = some ce ∧ ce.vm = .none ∧ s.vm.findClass E = some ce.cls ∧
      Steps p.tables e below (T.setTop g) ((T'.setTop { g with stack := rest }).pushFrame (.throwing q)))
def vx_X {S : Type} (px : S → Prop) (B : String → S → State → Prop) (A : Nat → Prop) : String → State → State → Prop := fun E st t => ∃ u : S, px u ∧ B E u t ∧ va_F A st t
section Runs
variable {p : Program} {l : Launch} {e : Env} {R : Room} {s : State} {m : MethodId} {args : Array Value} {below : List Frame} {meth : Method} {c : Code} {H : Heap} {locs : List Loc} {cells slots : Nat}
variable {y : MethodName} {bytes cc : ByteArray} {maxL nL mc ms n index : Nat} {ret : Option FieldType} {ws : List Cond} {rm : Room} {Pc : Array Value → State → Prop} {Qc : Array Value → State → Outcome → State → Prop} {XC : String → State → State → Prop} {free : Addr → Prop} {Ts : List Cond} {own C : String} {b : Addr} {As rest : List Value} {g : JFrame}
theorem vx_callBack (cb : CallB R s args own index y bytes maxL ret ws rm mc ms n) (hM : vx_Met l y ws rm Pc Qc XC mc ms free) (hbl : FrameBlind Pc) : vx_Back l R p e below s args y 3 8 (PreOf R mc ms Pc) (PostOf Qc mc ms free) (vx_Post XC mc ms free) := by
  obtain ⟨hrc, hrs, hfr, hlo, hws, hcw, -, hini, -⟩ := cb
  exact vx_back (bytes := bytes) (maxL := maxL) (ret := ret) hM hbl hrc hrs hfr hlo hws hcw (fun a' U hW => word_at hW (Or.inl (by first | rfl | simp [Cond.onTables, Cond.keeps, Cond.steady])) hini)
theorem vx_runV (S : CallFix p m c cc nL s args Ts own) (hM : vx_Met l y ws rm Pc Qc XC mc ms free) (cw : CallW R s args own C index y bytes maxL ret ws rm mc ms n) (hp : PreV s H C b Pc As)
    (hg : g.method = m) (hn : As.length = n) (hsize : g.locals.size = nL) (hstack : g.stack = As.reverse ++ .ref b :: rest) (hW : 2 * g.monitorRoom + (rest.map fun v => v.category).sum ≤ 8) (hdg : decode cc g.pc = .ok (.invokevirtual index, 3)) (hf : cells + mc ≤ R.cells ∧ slots + ms ≤ R.slots) :
    vx_Run p l e R s m args below meth c H locs cells slots mc ms g rest (Qc (Value.ref b :: As).toArray) XC free := by
  have hK : vx_Back l R p e below s args y 3 8 (PreOf R mc ms Pc) (PostOf Qc mc ms free) (vx_Post XC mc ms free) := vx_callBack cw.1 hM hp.1
  obtain ⟨⟨-, -, -, -, -, -, hcode, -, hy, hlen, hl⟩, hin, hse⟩ := cw
  obtain ⟨hx, hb, hml, ho, -⟩ := S
  obtain ⟨-, ⟨cellB, hcB, hoB, hclB⟩, hPc⟩ := hp
  intro T hT X
  rcases vx_callV X hx (C := C) (bytes := bytes) (maxL := maxL) (ret := ret) ho hl hin hse hcode hy hK (by rw [hT]; exact hcB) hoB hclB hg (hsize.trans hml.symm) (argsL := As) (rest := rest) (fun sig h => hn.trans (hlen sig h)) hstack hW (by rw [hb]; exact hdg)
    (fun vm₁ hW₁ => ⟨hf.1, hf.2, hPc (T.setVm vm₁) hT hW₁⟩) with ⟨v, vm₁, ⟨U', l2, c2, s2⟩, hW₁, X', ⟨g', mk, t, L, e1, e2, hq, h1, hL, h2, h3⟩, st⟩ | ⟨q, vm₁, ⟨U', l2, c2, s2⟩, hW₁, X', ⟨g', mk, t, L, E, ce, e1, e2, hq, hce, hcv, hcl, h1, hL, h2, h3⟩, st⟩
  · dsimp only [Pt.U, Pt.locs, Pt.cells, Pt.slots] at X' e1 e2 h1 h2 h3 st
    subst h1; subst h2; subst h3
    exact Or.inl ⟨v, (T.setVm vm₁).calling g' mk (Value.ref b :: As).toArray, t, U', L, hT, X', hL, e1, e2, hq, st⟩
  · dsimp only [Pt.U, Pt.locs, Pt.cells, Pt.slots] at X' e1 e2 h1 h2 h3 st hcl
    subst h1; subst h2; subst h3
    exact Or.inr ⟨q, (T.setVm vm₁).calling g' mk (Value.ref b :: As).toArray, t, U', L, E, ce, hT, X', hL, e1, e2, hq, hce, hcv, vx_cls hW₁ hcl, st⟩
theorem vx_runS (S : CallFix p m c cc nL s args Ts own) (hM : vx_Met l y ws rm Pc Qc XC mc ms free) (cw : CallB R s args own index y bytes maxL ret ws rm mc ms n ∧ (Cond.static y).before args s = true) (hp : PreS s H Pc As)
    (hg : g.method = m) (hn : As.length = n) (hsize : g.locals.size = nL) (hstack : g.stack = As.reverse ++ rest) (hW : 2 * g.monitorRoom + (rest.map fun v => v.category).sum ≤ 8) (hdg : decode cc g.pc = .ok (.invokestatic index, 3)) (hf : cells + mc ≤ R.cells ∧ slots + ms ≤ R.slots) :
    vx_Run p l e R s m args below meth c H locs cells slots mc ms g rest (Qc As.toArray) XC free := by
  have hK : vx_Back l R p e below s args y 3 8 (PreOf R mc ms Pc) (PostOf Qc mc ms free) (vx_Post XC mc ms free) := vx_callBack cw.1 hM hp.1
  obtain ⟨⟨-, -, -, -, -, -, hcode, hini, hy, hlen, hl⟩, hstt⟩ := cw
  obtain ⟨hx, hb, hml, ho, -⟩ := S
  intro T hT X
  rcases vx_callS X hx (bytes := bytes) (maxL := maxL) (ret := ret) ho hl hstt hini hcode hy hK hg (hsize.trans hml.symm) (argsL := As) (rest := rest) (fun sig h => hn.trans (hlen sig h)) hstack hW (by rw [hb]; exact hdg)
    (fun vm₁ hW₁ => ⟨hf.1, hf.2, hp.2 (T.setVm vm₁) hT hW₁⟩) with ⟨v, vm₁, ⟨U', l2, c2, s2⟩, hW₁, X', ⟨g', mk, t, L, e1, e2, hq, h1, hL, h2, h3⟩, st⟩ | ⟨q, vm₁, ⟨U', l2, c2, s2⟩, hW₁, X', ⟨g', mk, t, L, E, ce, e1, e2, hq, hce, hcv, hcl, h1, hL, h2, h3⟩, st⟩
  · dsimp only [Pt.U, Pt.locs, Pt.cells, Pt.slots] at X' e1 e2 h1 h2 h3 st
    subst h1; subst h2; subst h3
    exact Or.inl ⟨v, (T.setVm vm₁).calling g' mk As.toArray, t, U', L, hT, X', hL, e1, e2, hq, st⟩
  · dsimp only [Pt.U, Pt.locs, Pt.cells, Pt.slots] at X' e1 e2 h1 h2 h3 st hcl
    subst h1; subst h2; subst h3
    exact Or.inr ⟨q, (T.setVm vm₁).calling g' mk As.toArray, t, U', L, E, ce, hT, X', hL, e1, e2, hq, hce, hcv, vx_cls hW₁ hcl, st⟩
end Runs
section Rows
variable {p : Program} {l : Launch} {e : Env} {R : Room} {s : State} {m : MethodId} {args : Array Value} {below : List Frame} {meth : Method} {c : Code} {H : Heap} {locs : List Loc} {cells slots : Nat} {Q : State → Prop}
variable {mc ms : Nat} {free : Addr → Prop} {A0 A1 : Nat → Prop} {H0 : Heap} {a : Array Value} {pc : Nat} {ls : Array Slot} {st0 rest : List Value}
theorem vx_keep {st₀ t T' : State} {L : List Loc} (h0 : st₀.heap = H) (e1 : T'.heap = t.heap) (hS : va_S A0 H0 H locs) (hA : ∀ q, q < H.size → A1 q → A0 q) (hf : ∀ q, free q → A0 q) (hL : ∀ q ∈ L, free q.base) (hF : va_F A1 st₀ t) :
    H.size ≤ T'.heap.size ∧ (∀ q : Nat, q < H.size → ¬ A1 q → T'.heap[q]? = H[q]?) ∧ va_S A0 H0 T'.heap (locs ++ L) := by
  obtain ⟨hz, hk⟩ := hF
  rw [h0] at hz hk
  exact ⟨by rw [e1]; exact hz, fun q h1 h2 => by rw [e1]; exact hk q h1 h2,
    ⟨Nat.le_trans hS.1 (by rw [e1]; exact hz), fun q h1 h2 => by rw [e1, hk q (Nat.lt_of_lt_of_le h1 hS.1) (fun z => h2 (hA q (Nat.lt_of_lt_of_le h1 hS.1) z))]; exact hS.2.1 q h1 h2, fun q hq => by
      rcases List.mem_append.mp hq with h | h
      · exact hS.2.2 q h
      · exact hf _ (hL q h)⟩⟩
theorem vx_calli {S SX : Type} {post : Int32 → S → Prop} {px : SX → Prop} {B : S → State → Prop} {BX : String → SX → State → Prop} {AX : Nat → Prop} (hr : vx_Run p l e R s m args below meth c H locs cells slots mc ms (F0 m pc ls st0) rest (va_Qi post B A1 a) (vx_X px BX AX) free) (hS : va_S A0 H0 H locs) (hA : ∀ q, q < H.size → A1 q → A0 q) (hf : ∀ q, free q → A0 q) (hAX : ∀ q, q < H.size → AX q → A0 q)
    (kx : ∀ (E : String) (ce : Cell) (q9 : Addr) (u : SX) (t : State) (H1 : Heap) (locs1 : List Loc), t.heap = H1 → s.vm.Alike t.vm → px u → BX E u t → H.size ≤ H1.size → (∀ q : Nat, q < H.size → ¬ AX q → H1[q]? = H[q]?) → va_S A0 H0 H1 locs1 → H1[q9]? = some ce → ce.vm = .none → s.vm.findClass E = some ce.cls → vx_W p l e R s m args below meth c H1 locs1 (cells + mc) (slots + ms) Q (F0 m pc ls rest) q9)
    (kk : ∀ (r : Int32) (u : S) (t : State) (H1 : Heap) (locs1 : List Loc), t.heap = H1 → s.vm.Alike t.vm → post r u → B u t → H.size ≤ H1.size → (∀ q : Nat, q < H.size → ¬ A1 q → H1[q]? = H[q]?) → va_S A0 H0 H1 locs1 → W p l e R s m args below meth c H1 locs1 (cells + mc) (slots + ms) Q (F0 m (pc + 3) ls (.int r :: rest))) : W p l e R s m args below meth c H locs cells slots Q (F0 m pc ls st0) := by
  intro T hT X
  rcases hr T hT X with ⟨v, st₀, t, T', L, h0, X', hL, e1, e2, ⟨⟨r, u, hv, hp, hb⟩, hF⟩, st⟩ | ⟨q, st₀, t, T', L, E, ce, h0, X', hL, e1, e2, ⟨u, hp, hb, hF⟩, hce, hcv, hcl, st⟩
  · cases hv
    obtain ⟨k1, k2, k3⟩ := vx_keep h0 e1 hS hA hf hL hF
    obtain ⟨t2, a1, b1⟩ := kk r u t T'.heap (locs ++ L) e1.symm (by rw [← e2]; exact X'.warmed.alike) hp hb k1 k2 k3 T' rfl X'
    exact ⟨t2, st t2 a1, b1⟩
  · obtain ⟨k1, k2, k3⟩ := vx_keep h0 e1 hS hAX hf hL hF
    obtain ⟨t2, a1, b1⟩ := kx E ce q u t T'.heap (locs ++ L) e1.symm (by rw [← e2]; exact X'.warmed.alike) hp hb k1 k2 k3 (by rw [e1]; exact hce) hcv hcl T' rfl X'
    exact ⟨t2, st.trans a1, b1⟩
theorem vx_calll {S SX : Type} {post : Int64 → S → Prop} {px : SX → Prop} {B : S → State → Prop} {BX : String → SX → State → Prop} {AX : Nat → Prop} (hr : vx_Run p l e R s m args below meth c H locs cells slots mc ms (F0 m pc ls st0) rest (va_Ql post B A1 a) (vx_X px BX AX) free) (hS : va_S A0 H0 H locs) (hA : ∀ q, q < H.size → A1 q → A0 q) (hf : ∀ q, free q → A0 q) (hAX : ∀ q, q < H.size → AX q → A0 q)
    (kx : ∀ (E : String) (ce : Cell) (q9 : Addr) (u : SX) (t : State) (H1 : Heap) (locs1 : List Loc), t.heap = H1 → s.vm.Alike t.vm → px u → BX E u t → H.size ≤ H1.size → (∀ q : Nat, q < H.size → ¬ AX q → H1[q]? = H[q]?) → va_S A0 H0 H1 locs1 → H1[q9]? = some ce → ce.vm = .none → s.vm.findClass E = some ce.cls → vx_W p l e R s m args below meth c H1 locs1 (cells + mc) (slots + ms) Q (F0 m pc ls rest) q9)
    (kk : ∀ (r : Int64) (u : S) (t : State) (H1 : Heap) (locs1 : List Loc), t.heap = H1 → s.vm.Alike t.vm → post r u → B u t → H.size ≤ H1.size → (∀ q : Nat, q < H.size → ¬ A1 q → H1[q]? = H[q]?) → va_S A0 H0 H1 locs1 → W p l e R s m args below meth c H1 locs1 (cells + mc) (slots + ms) Q (F0 m (pc + 3) ls (.long r :: rest))) : W p l e R s m args below meth c H locs cells slots Q (F0 m pc ls st0) := by
  intro T hT X
  rcases hr T hT X with ⟨v, st₀, t, T', L, h0, X', hL, e1, e2, ⟨⟨r, u, hv, hp, hb⟩, hF⟩, st⟩ | ⟨q, st₀, t, T', L, E, ce, h0, X', hL, e1, e2, ⟨u, hp, hb, hF⟩, hce, hcv, hcl, st⟩
  · cases hv
    obtain ⟨k1, k2, k3⟩ := vx_keep h0 e1 hS hA hf hL hF
    obtain ⟨t2, a1, b1⟩ := kk r u t T'.heap (locs ++ L) e1.symm (by rw [← e2]; exact X'.warmed.alike) hp hb k1 k2 k3 T' rfl X'
    exact ⟨t2, st t2 a1, b1⟩
  · obtain ⟨k1, k2, k3⟩ := vx_keep h0 e1 hS hAX hf hL hF
    obtain ⟨t2, a1, b1⟩ := kx E ce q u t T'.heap (locs ++ L) e1.symm (by rw [← e2]; exact X'.warmed.alike) hp hb k1 k2 k3 (by rw [e1]; exact hce) hcv hcl T' rfl X'
    exact ⟨t2, st.trans a1, b1⟩
theorem vx_callf {S SX : Type} {post : UInt32 → S → Prop} {px : SX → Prop} {B : S → State → Prop} {BX : String → SX → State → Prop} {AX : Nat → Prop} (hr : vx_Run p l e R s m args below meth c H locs cells slots mc ms (F0 m pc ls st0) rest (va_Qf post B A1 a) (vx_X px BX AX) free) (hS : va_S A0 H0 H locs) (hA : ∀ q, q < H.size → A1 q → A0 q) (hf : ∀ q, free q → A0 q) (hAX : ∀ q, q < H.size → AX q → A0 q)
    (kx : ∀ (E : String) (ce : Cell) (q9 : Addr) (u : SX) (t : State) (H1 : Heap) (locs1 : List Loc), t.heap = H1 → s.vm.Alike t.vm → px u → BX E u t → H.size ≤ H1.size → (∀ q : Nat, q < H.size → ¬ AX q → H1[q]? = H[q]?) → va_S A0 H0 H1 locs1 → H1[q9]? = some ce → ce.vm = .none → s.vm.findClass E = some ce.cls → vx_W p l e R s m args below meth c H1 locs1 (cells + mc) (slots + ms) Q (F0 m pc ls rest) q9)
    (kk : ∀ (r : UInt32) (u : S) (t : State) (H1 : Heap) (locs1 : List Loc), t.heap = H1 → s.vm.Alike t.vm → post r u → B u t → H.size ≤ H1.size → (∀ q : Nat, q < H.size → ¬ A1 q → H1[q]? = H[q]?) → va_S A0 H0 H1 locs1 → W p l e R s m args below meth c H1 locs1 (cells + mc) (slots + ms) Q (F0 m (pc + 3) ls (.float r :: rest))) : W p l e R s m args below meth c H locs cells slots Q (F0 m pc ls st0) := by
  intro T hT X
  rcases hr T hT X with ⟨v, st₀, t, T', L, h0, X', hL, e1, e2, ⟨⟨r, u, hv, hp, hb⟩, hF⟩, st⟩ | ⟨q, st₀, t, T', L, E, ce, h0, X', hL, e1, e2, ⟨u, hp, hb, hF⟩, hce, hcv, hcl, st⟩
  · cases hv
    obtain ⟨k1, k2, k3⟩ := vx_keep h0 e1 hS hA hf hL hF
    obtain ⟨t2, a1, b1⟩ := kk r u t T'.heap (locs ++ L) e1.symm (by rw [← e2]; exact X'.warmed.alike) hp hb k1 k2 k3 T' rfl X'
    exact ⟨t2, st t2 a1, b1⟩
  · obtain ⟨k1, k2, k3⟩ := vx_keep h0 e1 hS hAX hf hL hF
    obtain ⟨t2, a1, b1⟩ := kx E ce q u t T'.heap (locs ++ L) e1.symm (by rw [← e2]; exact X'.warmed.alike) hp hb k1 k2 k3 (by rw [e1]; exact hce) hcv hcl T' rfl X'
    exact ⟨t2, st.trans a1, b1⟩
theorem vx_calld {S SX : Type} {post : UInt64 → S → Prop} {px : SX → Prop} {B : S → State → Prop} {BX : String → SX → State → Prop} {AX : Nat → Prop} (hr : vx_Run p l e R s m args below meth c H locs cells slots mc ms (F0 m pc ls st0) rest (va_Qd post B A1 a) (vx_X px BX AX) free) (hS : va_S A0 H0 H locs) (hA : ∀ q, q < H.size → A1 q → A0 q) (hf : ∀ q, free q → A0 q) (hAX : ∀ q, q < H.size → AX q → A0 q)
    (kx : ∀ (E : String) (ce : Cell) (q9 : Addr) (u : SX) (t : State) (H1 : Heap) (locs1 : List Loc), t.heap = H1 → s.vm.Alike t.vm → px u → BX E u t → H.size ≤ H1.size → (∀ q : Nat, q < H.size → ¬ AX q → H1[q]? = H[q]?) → va_S A0 H0 H1 locs1 → H1[q9]? = some ce → ce.vm = .none → s.vm.findClass E = some ce.cls → vx_W p l e R s m args below meth c H1 locs1 (cells + mc) (slots + ms) Q (F0 m pc ls rest) q9)
    (kk : ∀ (r : UInt64) (u : S) (t : State) (H1 : Heap) (locs1 : List Loc), t.heap = H1 → s.vm.Alike t.vm → post r u → B u t → H.size ≤ H1.size → (∀ q : Nat, q < H.size → ¬ A1 q → H1[q]? = H[q]?) → va_S A0 H0 H1 locs1 → W p l e R s m args below meth c H1 locs1 (cells + mc) (slots + ms) Q (F0 m (pc + 3) ls (.double r :: rest))) : W p l e R s m args below meth c H locs cells slots Q (F0 m pc ls st0) := by
  intro T hT X
  rcases hr T hT X with ⟨v, st₀, t, T', L, h0, X', hL, e1, e2, ⟨⟨r, u, hv, hp, hb⟩, hF⟩, st⟩ | ⟨q, st₀, t, T', L, E, ce, h0, X', hL, e1, e2, ⟨u, hp, hb, hF⟩, hce, hcv, hcl, st⟩
  · cases hv
    obtain ⟨k1, k2, k3⟩ := vx_keep h0 e1 hS hA hf hL hF
    obtain ⟨t2, a1, b1⟩ := kk r u t T'.heap (locs ++ L) e1.symm (by rw [← e2]; exact X'.warmed.alike) hp hb k1 k2 k3 T' rfl X'
    exact ⟨t2, st t2 a1, b1⟩
  · obtain ⟨k1, k2, k3⟩ := vx_keep h0 e1 hS hAX hf hL hF
    obtain ⟨t2, a1, b1⟩ := kx E ce q u t T'.heap (locs ++ L) e1.symm (by rw [← e2]; exact X'.warmed.alike) hp hb k1 k2 k3 (by rw [e1]; exact hce) hcv hcl T' rfl X'
    exact ⟨t2, st.trans a1, b1⟩
theorem vx_callv {S SX : Type} {post : S → Prop} {px : SX → Prop} {B : S → State → Prop} {BX : String → SX → State → Prop} {AX : Nat → Prop} (hr : vx_Run p l e R s m args below meth c H locs cells slots mc ms (F0 m pc ls st0) rest (va_Qv post B A1 a) (vx_X px BX AX) free) (hS : va_S A0 H0 H locs) (hA : ∀ q, q < H.size → A1 q → A0 q) (hf : ∀ q, free q → A0 q) (hAX : ∀ q, q < H.size → AX q → A0 q)
    (kx : ∀ (E : String) (ce : Cell) (q9 : Addr) (u : SX) (t : State) (H1 : Heap) (locs1 : List Loc), t.heap = H1 → s.vm.Alike t.vm → px u → BX E u t → H.size ≤ H1.size → (∀ q : Nat, q < H.size → ¬ AX q → H1[q]? = H[q]?) → va_S A0 H0 H1 locs1 → H1[q9]? = some ce → ce.vm = .none → s.vm.findClass E = some ce.cls → vx_W p l e R s m args below meth c H1 locs1 (cells + mc) (slots + ms) Q (F0 m pc ls rest) q9)
    (kk : ∀ (u : S) (t : State) (H1 : Heap) (locs1 : List Loc), t.heap = H1 → s.vm.Alike t.vm → post u → B u t → H.size ≤ H1.size → (∀ q : Nat, q < H.size → ¬ A1 q → H1[q]? = H[q]?) → va_S A0 H0 H1 locs1 → W p l e R s m args below meth c H1 locs1 (cells + mc) (slots + ms) Q (F0 m (pc + 3) ls (rest))) : W p l e R s m args below meth c H locs cells slots Q (F0 m pc ls st0) := by
  intro T hT X
  rcases hr T hT X with ⟨v, st₀, t, T', L, h0, X', hL, e1, e2, ⟨⟨u, hv, hp, hb⟩, hF⟩, st⟩ | ⟨q, st₀, t, T', L, E, ce, h0, X', hL, e1, e2, ⟨u, hp, hb, hF⟩, hce, hcv, hcl, st⟩
  · cases hv
    obtain ⟨k1, k2, k3⟩ := vx_keep h0 e1 hS hA hf hL hF
    obtain ⟨t2, a1, b1⟩ := kk u t T'.heap (locs ++ L) e1.symm (by rw [← e2]; exact X'.warmed.alike) hp hb k1 k2 k3 T' rfl X'
    exact ⟨t2, st t2 a1, b1⟩
  · obtain ⟨k1, k2, k3⟩ := vx_keep h0 e1 hS hAX hf hL hF
    obtain ⟨t2, a1, b1⟩ := kx E ce q u t T'.heap (locs ++ L) e1.symm (by rw [← e2]; exact X'.warmed.alike) hp hb k1 k2 k3 (by rw [e1]; exact hce) hcv hcl T' rfl X'
    exact ⟨t2, st.trans a1, b1⟩
/-- caught by the row x of this method's table; the rows ahead don't take it -/
theorem vx_catch {own name : String} {E : String} {ce : Cell} {q : Addr} (hown : s.vm.findClass own = some m.cls) (pre : List ExceptionTableEntry) (x : ExceptionTableEntry) (suf : List ExceptionTableEntry) (hsplit : c.exceptionTable.toList = pre ++ x :: suf)
    (hpass : ∀ z ∈ pre, covers z pc = false ∨ (z.catchType ≠ 0 ∧ ∃ nm : String, (Cond.classLink own z.catchType nm).before args s = true ∧ va_Nc E nm s)) (hx : covers x pc = true) (h0 : x.catchType ≠ 0)
    (hlink : (Cond.classLink own x.catchType name).before args s = true) (hcast : (Cond.castable E name).before args s = true) (hcell : H[q]? = some ce) (hv : ce.vm = .none) (hcl : s.vm.findClass E = some ce.cls)
    (kk : W p l e R s m args below meth c H locs cells slots Q (F0 m x.handlerPc ls [.ref q])) : vx_W p l e R s m args below meth c H locs cells slots Q (F0 m pc ls rest) q := by
  intro T hT X
  have hpl : e.platform.magicAccessors = ({} : Platform).magicAccessors := by rw [X.admits.platform]
  obtain ⟨c3, c4, hc3, hc4, hasg⟩ := Cond.castable_spec hcast
  cases Option.some.inj (hc3.symm.trans hcl)
  obtain ⟨c5, hc5, hcl5⟩ := Cond.classLink_spec hown hlink e.platform hpl
  cases Option.some.inj (hc4.symm.trans hc5)
  obtain ⟨vm', X', st⟩ := X.thenCaughtThrough q (g := F0 m pc ls rest) rfl (Steps.refl _) (by rw [hT]; exact hcell) (by rw [hv]; rfl) (by obtain ⟨k9, h9, -⟩ := Vm.findClass_spec hcl; exact ⟨k9, h9⟩) pre x suf hsplit
    (fun z hz => by
      rcases hpass z hz with h | ⟨hz0, nm, hl1, hn1⟩
      · exact Or.inl h
      · obtain ⟨c6, hc6, hcl6⟩ := Cond.classLink_spec hown hl1 e.platform hpl
        obtain ⟨a8, b8, h1, h2, h3⟩ := hn1
        cases Option.some.inj (h1.symm.trans hcl)
        cases Option.some.inj (h2.symm.trans hc6)
        exact Or.inr ⟨hz0, _, hcl6, h3⟩) hx (Or.inr ⟨h0, c4, hcl5, hasg⟩)
  obtain ⟨t, a1, b1⟩ := kk (T.setVm vm') hT X'
  exact ⟨t, st.trans a1, b1⟩
end Rows
section Ends
variable {p : Program} {l : Launch} {e : Env} {R : Room} {s : State} {m : MethodId} {args : Array Value} {below : List Frame} {meth : Method} {c : Code} {H : Heap} {locs : List Loc} {cells slots : Nat} {Q : State → Prop}
variable {mc ms : Nat} {free : Addr → Prop} {A0 A1 : Nat → Prop} {H0 : Heap} {a : Array Value} {ls : Array Slot} {st0 rest : List Value}
variable {Qc : Array Value → State → Outcome → State → Prop} {XC : String → State → State → Prop}
/-- what a body that may throw owes at its end -/
def vx_MQ (below : List Frame) (Qc : Array Value → State → Outcome → State → Prop) (XC : String → State → State → Prop) (a : Array Value) (s : State) (mc ms : Nat) (free : Addr → Prop) : State → Prop := fun t =>
  ∃ o, t.status = .running ∧ Ended t below o ∧ vx_Q Qc XC mc ms free a s o t
theorem vx_ret {g : JFrame} {mc ms : Nat} (k : W p l e R s m args below meth c H locs cells slots (MQ below Qc args s mc ms free) g) : W p l e R s m args below meth c H locs cells slots (vx_MQ below Qc XC args s mc ms free) g := by
  intro T hT X
  obtain ⟨t, a1, o, b1, b2, b3, b4⟩ := k T hT X
  exact ⟨t, a1, o, b1, b2, Or.inl ⟨b3, b4⟩⟩
/-- not caught here: it goes on to the caller -/
theorem vx_widen {g : JFrame} {q : Addr} {k n : Nat} (h1 : cells ≤ k) (h2 : slots ≤ n) (kk : vx_W p l e R s m args below meth c H locs k n Q g q) : vx_W p l e R s m args below meth c H locs cells slots Q g q := fun T hT X => kk T hT (stand_widen X h1 h2)
theorem vx_out {pc : Nat} {E : String} {ce : Cell} {q : Addr} {mc ms : Nat} (hout : ∀ x ∈ c.exceptionTable.toList, covers x pc = false) (hlocks : meth.locks = false) (hcell : H[q]? = some ce) (hv : ce.vm = .none) (hcl : s.vm.findClass E = some ce.cls)
    (hx : ∀ t : State, t.heap = H → s.vm.Alike t.vm → XC E s t) (hf : ∀ z ∈ locs, free z.base) (hc : cells ≤ mc) (hs : slots ≤ ms) :
    vx_W p l e R s m args below meth c H locs cells slots (vx_MQ below Qc XC args s mc ms free) (F0 m pc ls rest) q := by
  intro T hT X
  obtain ⟨st1, hrun, hend, hW, hsm⟩ := X.leaveThrown q (g := F0 m pc ls rest) rfl rfl rfl hout hlocks
  have hcell9 : (T.setFrames (.throwing q :: below)).heap[q]? = some ce := by
    show T.heap[q]? = some ce
    rw [hT]; exact hcell
  exact ⟨_, st1, .threw q, hrun, hend, Or.inr ⟨q, rfl, E, ce, locs, hx _ hT hW.alike, hcell9, hv, hcl, hW, hsm.mono hc hs, hf⟩⟩
theorem vx_frame {U : State} {k n : Nat} (h : s.sameButNew ({ U with vm := s.vm } : State) locs k n) : s.heap.size ≤ U.heap.size ∧ ∀ q : Nat, q < s.heap.size → (∀ z ∈ locs, z.base ≠ q) → U.heap[q]? = s.heap[q]? := by
  obtain ⟨-, h2, -, -, -, h6⟩ := h
  refine ⟨h2, fun q hq hz => ?_⟩
  obtain ⟨c9, e1, e2, e3, e4⟩ := h6 q _ (Array.getElem?_eq_getElem hq)
  have hs : c9.slots = (s.heap[q]).slots := Array.ext_getElem? fun i => e4 i fun hm => hz _ hm rfl
  have h9 : c9 = s.heap[q] := by
    rw [hs] at e2
    exact e2
  have e5 : U.heap[q]? = some c9 := e1
  rw [e5, h9, Array.getElem?_eq_getElem hq]
/-- the words of a throw but the four that speak of the heap -/
def vx_no (w : Cond) : Bool := decide (w ≠ .isRef (.static Bundle.tN "UNASSIGNED_STACK" Bundle.steD)) && decide (w ≠ .isRef (.static Bundle.tN "SUPPRESSED_SENTINEL" Bundle.listD)) && decide (w ≠ .laysStatic Bundle.tN "UNASSIGNED_STACK" Bundle.steD) && decide (w ≠ .laysStatic Bundle.tN "SUPPRESSED_SENTINEL" Bundle.listD)
def vx_at0 (own : String) (ic : Nat) (X : String) (names : List String) : List Cond := (Bundle.ownAtoms0 own ic X names).filter vx_no
def vx_atS (own : String) (ic : Nat) (X : String) (names : List String) : List Cond := (Bundle.ownAtoms own ic X names).filter vx_no
/-- a word that the tables alone decide, or a good one -/
def vx_ot (w : Cond) : Bool := w.onTables || goodWord w
theorem vx_ot_at {args a' : Array Value} {s U : State} {w : Cond} (hW : s.WarmedH U.vm) (hvm : s.vm = U.vm) (hg : vx_ot w = true) (h : w.before args s = true) : w.before a' U = true := by
  simp only [vx_ot, Bool.or_eq_true] at hg
  rcases hg with hg | hg
  · exact va_tabs hg hvm h
  · exact word_at hW (good_of_word hg) h
/-- a list's words: the good ones out of the method's own list, the others by premises of their own -/
theorem vx_hat {args : Array Value} {s : State} {L B : List Cond} (h1 : ∀ w ∈ L.filter goodWord, w.before args s = true) (h2 : ∀ w ∈ L.filter (fun w => !goodWord w), w ∈ B) (h3 : ∀ w ∈ B, w.before args s = true) : ∀ w ∈ L, w.before args s = true := by
  intro w hw
  by_cases g : goodWord w = true
  · exact h1 w (List.mem_filter.mpr ⟨hw, g⟩)
  · refine h3 w (h2 w (List.mem_filter.mpr ⟨hw, ?_⟩))
    show (!goodWord w) = true
    cases hgw : goodWord w
    · rfl
    · exact absurd hgw g
theorem vx_c {args : Array Value} {s : State} {w : Cond} {B : List Cond} (h : w.before args s = true) (t : ∀ w ∈ B, w.before args s = true) : ∀ w' ∈ w :: B, w'.before args s = true := fun w' h' => (List.mem_cons.mp h').elim (fun e => by rw [e]; exact h) (t w')
theorem vx_n {args : Array Value} {s : State} : ∀ w ∈ ([] : List Cond), w.before args s = true := fun _ h => nomatch h
theorem vx_own {args : Array Value} {s : State} {L : List Cond} (h1 : ∀ w ∈ L.filter vx_no, w.before args s = true)
    (hU : (Cond.isRef (.static Bundle.tN "UNASSIGNED_STACK" Bundle.steD)).before args s = true) (hN : (Cond.isRef (.static Bundle.tN "SUPPRESSED_SENTINEL" Bundle.listD)).before args s = true)
    (lU : (Cond.laysStatic Bundle.tN "UNASSIGNED_STACK" Bundle.steD).before args s = true) (lN : (Cond.laysStatic Bundle.tN "SUPPRESSED_SENTINEL" Bundle.listD).before args s = true) : ∀ w ∈ L, w.before args s = true := by
  intro w hw
  by_cases e1 : w = .isRef (.static Bundle.tN "UNASSIGNED_STACK" Bundle.steD)
  · rw [e1]; exact hU
  · by_cases e2 : w = .isRef (.static Bundle.tN "SUPPRESSED_SENTINEL" Bundle.listD)
    · rw [e2]; exact hN
    · by_cases e3 : w = .laysStatic Bundle.tN "UNASSIGNED_STACK" Bundle.steD
      · rw [e3]; exact lU
      · by_cases e4 : w = .laysStatic Bundle.tN "SUPPRESSED_SENTINEL" Bundle.listD
        · rw [e4]; exact lN
        · exact h1 w (List.mem_filter.mpr ⟨hw, by unfold vx_no; rw [decide_eq_true e1, decide_eq_true e2, decide_eq_true e3, decide_eq_true e4]; rfl⟩)
/-- where a static field lies, its class's statics cell in H -/
def vx_L (C n d : String) (A : Nat → Prop) (U : State) (H : Heap) : Prop := ∃ (c : ClassId) (k : Class) (i : Nat) (f : Field) (a : Nat) (cell : Cell), U.vm.findClass C = some c ∧ U.fieldFound? C n d = some (c, k, i, f) ∧ f.isStatic = true ∧ k.statics = some a ∧ H[a]? = some cell ∧ cell.vm.isStatics = true ∧ cell.cls = c ∧ f.slot < cell.slots.size ∧ k.staticTypes[f.slot]? = some f.type ∧ ¬ A a
theorem vx_L.moved {C n d : String} {A : Nat → Prop} {u U : State} {H : Heap} (hvm : u.vm.Alike U.vm) (h : vx_L C n d A u H) : vx_L C n d A U H := by
  obtain ⟨c, k, i, f, a, cell, h1, h2, h3, h4, h5, h6, h7, h8, h9, h10⟩ := h
  obtain ⟨k', hi', he⟩ := State.fieldFound?_setVm hvm h2
  exact ⟨c, k', i, f, a, cell, by rw [hvm.findClass]; exact h1, hi', h3, by rw [he]; exact h4, h5, h6, h7, h8, by rw [he]; exact h9, h10⟩
theorem vx_L.kept {C n d : String} {A : Nat → Prop} {U : State} {H H1 : Heap} (h : vx_L C n d A U H) (hq : ∀ a : Nat, a < H.size → ¬ A a → H1[a]? = H[a]?) : vx_L C n d A U H1 := by
  obtain ⟨c, k, i, f, a, cell, h1, h2, h3, h4, h5, h6, h7, h8, h9, h10⟩ := h
  exact ⟨c, k, i, f, a, cell, h1, h2, h3, h4, by rw [hq a (Array.getElem?_eq_some_iff.mp h5).1 h10]; exact h5, h6, h7, h8, h9, h10⟩
theorem vx_L.narrow {C n d : String} {A B : Nat → Prop} {U : State} {H : Heap} (h : vx_L C n d A U H) (hAB : ∀ q, B q → A q) : vx_L C n d B U H := by
  obtain ⟨c, k, i, f, a, cell, h1, h2, h3, h4, h5, h6, h7, h8, h9, h10⟩ := h
  exact ⟨c, k, i, f, a, cell, h1, h2, h3, h4, h5, h6, h7, h8, h9, fun z => h10 (hAB _ z)⟩
theorem vx_L.word {C n d : String} {A : Nat → Prop} {s : State} {args : Array Value} (h : vx_L C n d A s s.heap) : (Cond.laysStatic C n d).before args s = true := by
  obtain ⟨c, k, i, f, a, cell, h1, h2, h3, h4, h5, h6, h7, h8, h9, -⟩ := h
  show (Cond.laysStatic C n d).holds args s none s [] = true
  exact Cond.laysStatic_of h1 h2 h3 h4 h5 h6 h7 h8 h9
/-- .. and what it holds: null or some reference -/
def vx_Zq (C n d : String) (A : Nat → Prop) (U : State) (H : Heap) : Prop := va_Zq C n d A U H ∧ vx_L C n d A U H
theorem vx_Zq.moved {C n d : String} {A : Nat → Prop} {u U : State} {H : Heap} (hvm : u.vm.Alike U.vm) (h : vx_Zq C n d A u H) : vx_Zq C n d A U H := ⟨va_Zq.moved hvm h.1, vx_L.moved hvm h.2⟩
theorem vx_Zq.kept {C n d : String} {A : Nat → Prop} {U : State} {H H1 : Heap} (h : vx_Zq C n d A U H) (hq : ∀ a : Nat, a < H.size → ¬ A a → H1[a]? = H[a]?) : vx_Zq C n d A U H1 := ⟨va_Zq.kept h.1 hq, vx_L.kept h.2 hq⟩
theorem vx_Zq.narrow {C n d : String} {A B : Nat → Prop} {U : State} {H : Heap} (h : vx_Zq C n d A U H) (hAB : ∀ q, B q → A q) : vx_Zq C n d B U H := ⟨va_Zq.narrow h.1 hAB, vx_L.narrow h.2 hAB⟩
theorem vx_Zqof {args : Array Value} {s : State} {C n d : String} {A : Nat → Prop} (hl : (Cond.laysStatic C n d).before args s = true) (hini : (Cond.initialized C).before args s = true) (h : (Cond.isRef (.static C n d)).before args s = true) (hA : ∀ a : Nat, a < s.heap.size → ¬ A a) : vx_Zq C n d A s s.heap := by
  refine ⟨va_Zqof hl hini h hA, ?_⟩
  obtain ⟨c, k, i, f, a, cell, h1, h2, h3, h4, h5, h6, h7, h8, h9⟩ := Cond.laysStatic_spec hl
  exact ⟨c, k, i, f, a, cell, h1, h2, h3, h4, h5, h6, h7, h8, h9, hA a (Array.getElem?_eq_some_iff.mp h5).1⟩
theorem vx_isRef {C n d : String} {v : Value} {A : Nat → Prop} {s : State} {args : Array Value} (h : va_Z C n d v A s s.heap) (hv : v.isRef = true) : (Cond.isRef (.static C n d)).before args s = true := by
  obtain ⟨cf, kf, fi, f, a, cell, h1, h2, h3, h4, h5, h6, h7, -⟩ := h
  have he : (Term.static C n d).eval args s none [] s = some v := by
    simp [Term.eval, State.fieldNamed?, h1, h2, h4, h5, h6, h7]
  simp only [Cond.before, Cond.holds, Cond.value, he]
  cases v <;> simp_all [Value.isRef]
theorem vx_isRefq {C n d : String} {A : Nat → Prop} {s : State} {args : Array Value} (h : va_Zq C n d A s s.heap) : (Cond.isRef (.static C n d)).before args s = true := by
  rcases h with h | ⟨t, h⟩
  · exact vx_isRef h rfl
  · exact vx_isRef h rfl
/-- the same frame, seen from here: as if the method were called anew in this heap -/
theorem vx_rebase {T : State} (X : Stand p l e R s m args below meth c T locs cells slots) {R' : Room} (hf : R'.frames ≤ R.frames) (hl : R'.locals ≤ R.locals) (hc : cells + R'.cells ≤ R.cells) (hs : slots + R'.slots ≤ R.slots) :
    Stand p l e R' ((T.setVm s.vm).setFrames (.invoking m args :: below)) m args below meth c T [] 0 0 := by
  have htop : (T.setVm s.vm).topJava?.isSome := X.here.top
  have hF : ((T.setVm s.vm).setFrames (.invoking m args :: below)).frames = .invoking m args :: below := State.frames_setFrames _ (State.cur_lt_of_top htop)
  obtain ⟨g₀, hg0⟩ := Option.isSome_iff_exists.mp htop
  obtain ⟨r, hr⟩ := State.topJava?_eq_some.mp hg0
  have hl9 : e.platform.stackLimits (T.setVm s.vm).me = e.platform.stackLimits s.me := X.limits
  have hb9 : (T.setVm s.vm).me.stackBytes = s.me.stackBytes := X.bytes
  refine ⟨X.admits, X.cas, X.clock, hF, ?_, X.hears, X.method, X.code, X.here, X.tail, X.warmed, ?_, ?_, ?_⟩
  · have h := X.room
    have hU : ((T.setVm s.vm).setFrames (.invoking m args :: below)).localsInUse = s.localsInUse := by
      rw [State.localsInUse_invoking hF (meth := meth) (c := c) X.method X.code, State.localsInUse_invoking X.frames X.method X.code]
    simp only [State.hasRoom, Bool.and_eq_true, decide_eq_true_eq] at h ⊢
    obtain ⟨⟨⟨⟨h1, h2, h3, h4, h5, h6⟩, h7⟩, h8⟩, h9⟩ := h
    rw [X.frames, List.length_cons] at h2 h3
    have q1 := X.heapSize
    have q2 := X.used
    simp only [hF, hU, List.length_cons, State.stackLimits_setFrames, State.stackBytes_setFrames, hl9, hb9]
    refine ⟨⟨⟨⟨by omega, by omega, by omega, by omega, by omega, h6⟩, ?_⟩, ?_⟩, X.book⟩
    · show T.heap.size + R'.cells ≤ e.platform.maxCells
      omega
    · show T.slotsUsed + R'.slots ≤ e.platform.maxSlots
      omega
  · rw [State.stackLimits_setFrames]; rfl
  · rw [State.stackBytes_setFrames]; rfl
  · refine ⟨?_, Nat.le_refl _, Nat.le_refl _, ?_, ?_, fun a c9 h9 => ⟨c9, h9, rfl, rfl, fun _ _ => rfl⟩⟩
    · obtain ⟨t, ht, -⟩ := State.frames_cons hr
      show T.setVm s.vm = { ((T.setVm s.vm).setFrames (.invoking m args :: below)).setFrames (T.setVm s.vm).frames with heap := T.heap, slotsUsed := T.slotsUsed }
      rw [State.setFrames_setFrames, State.setFrames_self ht]
      rfl
    · show T.slotsUsed = T.slotsUsed + ((T.heap.toList.drop T.heap.size).map (·.slots.size)).sum
      rw [List.drop_eq_nil_of_le (Nat.le_of_eq Array.length_toList)]
      rfl
    · show ((T.heap.toList.drop T.heap.size).map (·.slots.size)).sum ≤ 0
      rw [List.drop_eq_nil_of_le (Nat.le_of_eq Array.length_toList)]
      exact Nat.le_refl _
/-- 'throw new E()': new; dup; invokespecial; athrow -/
theorem vx_throw0 {cc : ByteArray} {pc : Nat} (hexec : p.tables.exec = Jvm.exec) (hb : c.code = cc) (hl : l.stackTraces = false) {own cls : String} {names : List String} {ik ic mc ms : Nat} {A : Nat → Prop}
    (hown : s.vm.findClass own = some m.cls) (hcls : Bundle.fit cls = true) (hnames : ∀ n ∈ names, Bundle.fit n = true)
    (hk : (Cond.classLink own ik cls).before args s = true) (hini : (Cond.initialized cls).before args s = true) (hat : ∀ w ∈ vx_at0 own ic cls names, w.before args s = true)
    (hgood : ∀ w ∈ Cond.classLink own ik cls :: Cond.initialized cls :: vx_at0 own ic cls names, vx_ot w = true)
    (hU : vx_Zq Bundle.tN "UNASSIGNED_STACK" Bundle.steD A s s.heap) (hN : vx_Zq Bundle.tN "SUPPRESSED_SENTINEL" Bundle.listD A s s.heap) (hS : va_S A s.heap H locs) (hsize : ls.size = c.maxLocals)
    (d0 : decode cc pc = .ok (.new ik, 3)) (d3 : decode cc (pc + 3) = .ok (.dup, 1)) (d4 : decode cc (pc + 4) = .ok (.invokespecial ic, 3)) (d7 : decode cc (pc + 7) = .ok (.athrow, 1))
    (hout : ∀ x ∈ c.exceptionTable.toList, covers x (pc + 7) = false)
    (hRframes : names.length + 3 < R.frames) (hRlocals : (rest.map fun v => v.category).sum + (13 * (names.length + 1) + 42) ≤ R.locals) (hRcells : cells + 1 ≤ R.cells) (hRslots : slots + 6 ≤ R.slots) (hlocks : meth.locks = false)
    (hx : ∀ t : State, s.vm.Alike t.vm → H.size ≤ t.heap.size → (∀ q : Nat, q < H.size → t.heap[q]? = H[q]?) → XC cls s t)
    (hf : ∀ z ∈ locs, free z.base) (hc : cells + 1 ≤ mc) (hs : slots + 6 ≤ ms) :
    W p l e R s m args below meth c H locs cells slots (vx_MQ below Qc XC args s mc ms free) (F0 m pc ls rest) := by
  intro T hT X
  have htr : e.platform.stackTraces = false := (show e.platform.stackTraces = l.stackTraces by rw [X.admits.platform]).trans hl
  have Y := vx_rebase X (R' := { frames := R.frames, locals := R.locals, cells := 1, slots := 6 }) (Nat.le_refl _) (Nat.le_refl _) hRcells hRslots
  obtain ⟨s', hA⟩ : ∃ z, z = (T.setVm s.vm).setFrames (.invoking m args :: below) := ⟨_, rfl⟩
  rw [← hA] at Y
  have hvm : s'.vm = s.vm := by rw [hA]; rfl
  have hhp : s'.heap = H := by rw [hA]; exact hT
  have hW0 : s.WarmedH s'.vm := by rw [hvm]; exact State.WarmedH.refl s
  have hat' : ∀ w ∈ vx_at0 own ic cls names, w.before args s' = true := fun w hw => vx_ot_at hW0 hvm.symm (hgood w (List.mem_cons_of_mem _ (List.mem_cons_of_mem _ hw))) (hat w hw)
  have hk' : (Cond.classLink own ik cls).before args s' = true := vx_ot_at hW0 hvm.symm (hgood _ List.mem_cons_self) hk
  have hini' : (Cond.initialized cls).before args s' = true := vx_ot_at hW0 hvm.symm (hgood _ (List.mem_cons_of_mem _ List.mem_cons_self)) hini
  have hU' : vx_Zq Bundle.tN "UNASSIGNED_STACK" Bundle.steD A s' s'.heap := by rw [hhp]; exact vx_Zq.moved hW0.alike (hU.kept hS.2.1)
  have hN' : vx_Zq Bundle.tN "SUPPRESSED_SENTINEL" Bundle.listD A s' s'.heap := by rw [hhp]; exact vx_Zq.moved hW0.alike (hN.kept hS.2.1)
  have h : ∀ w ∈ Bundle.ownAtoms0 own ic cls names, w.before args s' = true := vx_own hat' (vx_isRefq hU'.1) (vx_isRefq hN'.1) hU'.2.word hN'.2.word
  have hown' : s'.vm.findClass own = some m.cls := by rw [hvm]; exact hown
  have hins : (Cond.instantiable cls 6).before args s' = true := h _ (by simp [Bundle.ownAtoms0])
  obtain ⟨vm₁, cX, kX, hfX, hkX, -, -, X₁, st1⟩ := Y.newCold hexec (own := own) (C := cls) (index := ik) (n := 6) hown' hk' hins hini'
    (g := F0 m pc ls rest) rfl (by rw [hb]; exact d0) (Nat.le_refl _) (Nat.le_refl _)
  generalize hT1 : (T.setVm vm₁).pushCell { cls := cX, slots := kX.instanceTypes.map defaultValue, vm := .none } = T1 at X₁ st1
  have hcat : (Value.ref T.heap.size).category = 1 := rfl
  have hcellA : T1.heap[T.heap.size]? = some (freshCell cX kX) := by rw [← hT1]; exact State.heap_pushCell_size _ _
  have d3' : decode c.code (pc + 3) = .ok (.dup, 1) := by rw [hb]; exact d3
  obtain ⟨U, hsteps, hrun, hend, hW, hsame, ce, hce, hO⟩ := X₁.ctorThrow0 hexec htr (own := own) (cls := cls) (names := names) (ic := ic) hown' hcls hnames h (fun x hx => nomatch hx) hfX hkX hcellA (by rw [hhp, hT]; exact Nat.le_refl _)
    (g := { method := m, pc := pc + 4, locals := ls, stack := .ref T.heap.size :: .ref T.heap.size :: rest, locked := none }) rfl hsize rfl rfl (rest := rest) rfl
    (by rw [hb]; exact d4) (by rw [hb]; exact d7) hout hRframes (by simp only [List.map_cons, List.sum_cons, hcat]; omega) hlocks
  obtain ⟨f1, f2⟩ := vx_frame hsame
  rw [hhp] at f1 f2
  have hWs : s.WarmedH U.vm := State.WarmedH.trans hW0 hW
  have hcl : s.vm.findClass cls = some ce.cls := by
    have h9 := hO.cls
    rw [hvm] at h9
    exact h9
  have hall : s.sameButNew ({ U with vm := s.vm } : State) locs mc ms := by
    subst hA
    obtain ⟨e1, e2⟩ := hsame
    rw [State.setFrames_setFrames] at e1
    have h2 : (T.setVm s.vm).sameButNew ({ U with vm := s.vm } : State) [] (0 + 1) (0 + 6) := ⟨e1, e2⟩
    have h3 := X.same.trans h2
    rw [List.append_nil] at h3
    exact h3.mono hc hs
  refine ⟨U, ?_, .threw T.heap.size, hrun, hend, Or.inr ⟨T.heap.size, rfl, cls, ce, locs, hx U hWs.alike f1 (fun q hq => f2 q hq (fun z hz => nomatch hz)), hce, hO.vm, hcl, hWs, hall, hf⟩⟩
  refine st1 _ ?_
  show Steps p.tables e below (T1.setTop { method := m, pc := pc + 3, locals := ls, stack := .ref T.heap.size :: rest, locked := none }) _
  jvm_step X₁.here [X₁.here.top, hexec, d3', Value.category]
  exact hsteps
/-- 'throw new E("text")': new; dup; ldc; invokespecial; athrow -/
theorem vx_throwS {cc : ByteArray} {pc : Nat} (hexec : p.tables.exec = Jvm.exec) (hb : c.code = cc) (hl : l.stackTraces = false) {own cls text : String} {names : List String} {ik is ic mc ms sa : Nat} {A : Nat → Prop}
    (hown : s.vm.findClass own = some m.cls) (hcls : Bundle.fit cls = true) (hnames : ∀ n ∈ names, Bundle.fit n = true)
    (hk : (Cond.classLink own ik cls).before args s = true) (hini : (Cond.initialized cls).before args s = true) (hstr : vk_R own is text sa s) (hat : ∀ w ∈ vx_atS own ic cls names, w.before args s = true)
    (hgood : ∀ w ∈ Cond.classLink own ik cls :: Cond.initialized cls :: vx_atS own ic cls names, vx_ot w = true)
    (hU : vx_Zq Bundle.tN "UNASSIGNED_STACK" Bundle.steD A s s.heap) (hN : vx_Zq Bundle.tN "SUPPRESSED_SENTINEL" Bundle.listD A s s.heap) (hS : va_S A s.heap H locs) (hsize : ls.size = c.maxLocals)
    (d0 : decode cc pc = .ok (.new ik, 3)) (d3 : decode cc (pc + 3) = .ok (.dup, 1)) (d4 : decode cc (pc + 4) = .ok (.ldc is, 2)) (d6 : decode cc (pc + 6) = .ok (.invokespecial ic, 3)) (d9 : decode cc (pc + 9) = .ok (.athrow, 1))
    (hout : ∀ x ∈ c.exceptionTable.toList, covers x (pc + 9) = false)
    (hRframes : names.length + 3 < R.frames) (hRlocals : (rest.map fun v => v.category).sum + (13 * (names.length + 1) + 43) ≤ R.locals) (hRcells : cells + 1 ≤ R.cells) (hRslots : slots + 6 ≤ R.slots) (hlocks : meth.locks = false)
    (hx : ∀ t : State, s.vm.Alike t.vm → H.size ≤ t.heap.size → (∀ q : Nat, q < H.size → t.heap[q]? = H[q]?) → XC cls s t)
    (hf : ∀ z ∈ locs, free z.base) (hc : cells + 1 ≤ mc) (hs : slots + 6 ≤ ms) :
    W p l e R s m args below meth c H locs cells slots (vx_MQ below Qc XC args s mc ms free) (F0 m pc ls rest) := by
  intro T hT X
  have htr : e.platform.stackTraces = false := (show e.platform.stackTraces = l.stackTraces by rw [X.admits.platform]).trans hl
  have Y := vx_rebase X (R' := { frames := R.frames, locals := R.locals, cells := 1, slots := 6 }) (Nat.le_refl _) (Nat.le_refl _) hRcells hRslots
  obtain ⟨s', hA⟩ : ∃ z, z = (T.setVm s.vm).setFrames (.invoking m args :: below) := ⟨_, rfl⟩
  rw [← hA] at Y
  have hvm : s'.vm = s.vm := by rw [hA]; rfl
  have hhp : s'.heap = H := by rw [hA]; exact hT
  have hW0 : s.WarmedH s'.vm := by rw [hvm]; exact State.WarmedH.refl s
  have hat' : ∀ w ∈ vx_atS own ic cls names, w.before args s' = true := fun w hw => vx_ot_at hW0 hvm.symm (hgood w (List.mem_cons_of_mem _ (List.mem_cons_of_mem _ hw))) (hat w hw)
  have hk' : (Cond.classLink own ik cls).before args s' = true := vx_ot_at hW0 hvm.symm (hgood _ List.mem_cons_self) hk
  have hini' : (Cond.initialized cls).before args s' = true := vx_ot_at hW0 hvm.symm (hgood _ (List.mem_cons_of_mem _ List.mem_cons_self)) hini
  have hU' : vx_Zq Bundle.tN "UNASSIGNED_STACK" Bundle.steD A s' s'.heap := by rw [hhp]; exact vx_Zq.moved hW0.alike (hU.kept hS.2.1)
  have hN' : vx_Zq Bundle.tN "SUPPRESSED_SENTINEL" Bundle.listD A s' s'.heap := by rw [hhp]; exact vx_Zq.moved hW0.alike (hN.kept hS.2.1)
  have h : ∀ w ∈ Bundle.ownAtoms own ic cls names, w.before args s' = true := vx_own hat' (vx_isRefq hU'.1) (vx_isRefq hN'.1) hU'.2.word hN'.2.word
  have hown' : s'.vm.findClass own = some m.cls := by rw [hvm]; exact hown
  have hins : (Cond.instantiable cls 6).before args s' = true := h _ (by simp [Bundle.ownAtoms])
  obtain ⟨vm₁, cX, kX, hfX, hkX, -, -, X₁, st1⟩ := Y.newCold hexec (own := own) (C := cls) (index := ik) (n := 6) hown' hk' hins hini'
    (g := F0 m pc ls rest) rfl (by rw [hb]; exact d0) (Nat.le_refl _) (Nat.le_refl _)
  generalize hT1 : (T.setVm vm₁).pushCell { cls := cX, slots := kX.instanceTypes.map defaultValue, vm := .none } = T1 at X₁ st1
  have hcat : (Value.ref T.heap.size).category = 1 := rfl
  have hcellA : T1.heap[T.heap.size]? = some (freshCell cX kX) := by rw [← hT1]; exact State.heap_pushCell_size _ _
  have d3' : decode c.code (pc + 3) = .ok (.dup, 1) := by rw [hb]; exact d3
  have d4' : decode c.code (pc + 4) = .ok (.ldc is, 2) := by rw [hb]; exact d4
  have hstr' : vk_R own is text sa s' := vk_R.warm hW0 hstr
  obtain ⟨U, hsteps, hrun, hend, hW, hsame, ce, hce, hO⟩ := X₁.ctorThrowS hexec htr (own := own) (cls := cls) (names := names) (ic := ic) hown' hcls hnames h (fun x hx => nomatch hx) hfX hkX hcellA (by rw [hhp, hT]; exact Nat.le_refl _) (msg := .ref sa) rfl
    (g := { method := m, pc := pc + 6, locals := ls, stack := .ref sa :: .ref T.heap.size :: .ref T.heap.size :: rest, locked := none }) rfl hsize rfl rfl (rest := rest) rfl
    (by rw [hb]; exact d6) (by rw [hb]; exact d9) hout hRframes (by simp only [List.map_cons, List.sum_cons, hcat]; omega) hlocks
  obtain ⟨f1, f2⟩ := vx_frame hsame
  rw [hhp] at f1 f2
  have hWs : s.WarmedH U.vm := State.WarmedH.trans hW0 hW
  have hcl : s.vm.findClass cls = some ce.cls := by
    have h9 := hO.cls
    rw [hvm] at h9
    exact h9
  have hall : s.sameButNew ({ U with vm := s.vm } : State) locs mc ms := by
    subst hA
    obtain ⟨e1, e2⟩ := hsame
    rw [State.setFrames_setFrames] at e1
    have h2 : (T.setVm s.vm).sameButNew ({ U with vm := s.vm } : State) [] (0 + 1) (0 + 6) := ⟨e1, e2⟩
    have h3 := X.same.trans h2
    rw [List.append_nil] at h3
    exact h3.mono hc hs
  refine ⟨U, ?_, .threw T.heap.size, hrun, hend, Or.inr ⟨T.heap.size, rfl, cls, ce, locs, hx U hWs.alike f1 (fun q hq => f2 q hq (fun z hz => nomatch hz)), hce, hO.vm, hcl, hWs, hall, hf⟩⟩
  refine st1 _ ?_
  show Steps p.tables e below (T1.setTop { method := m, pc := pc + 3, locals := ls, stack := .ref T.heap.size :: rest, locked := none }) _
  jvm_step X₁.here [X₁.here.top, hexec, d3', Value.category]
  exact X₁.ldcString hexec (own := own) (text := text) (index := is) (a := sa) hown' hstr'.1 hstr'.2
    (g := { method := m, pc := pc + 4, locals := ls, stack := .ref T.heap.size :: .ref T.heap.size :: rest, locked := none }) rfl d4' _ hsteps
/-- 'throw new E("text")', the text by a wide index -/
theorem vx_throwSW {cc : ByteArray} {pc : Nat} (hexec : p.tables.exec = Jvm.exec) (hb : c.code = cc) (hl : l.stackTraces = false) {own cls text : String} {names : List String} {ik is ic mc ms sa : Nat} {A : Nat → Prop}
    (hown : s.vm.findClass own = some m.cls) (hcls : Bundle.fit cls = true) (hnames : ∀ n ∈ names, Bundle.fit n = true)
    (hk : (Cond.classLink own ik cls).before args s = true) (hini : (Cond.initialized cls).before args s = true) (hstr : vk_R own is text sa s) (hat : ∀ w ∈ vx_atS own ic cls names, w.before args s = true)
    (hgood : ∀ w ∈ Cond.classLink own ik cls :: Cond.initialized cls :: vx_atS own ic cls names, vx_ot w = true)
    (hU : vx_Zq Bundle.tN "UNASSIGNED_STACK" Bundle.steD A s s.heap) (hN : vx_Zq Bundle.tN "SUPPRESSED_SENTINEL" Bundle.listD A s s.heap) (hS : va_S A s.heap H locs) (hsize : ls.size = c.maxLocals)
    (d0 : decode cc pc = .ok (.new ik, 3)) (d3 : decode cc (pc + 3) = .ok (.dup, 1)) (d4 : decode cc (pc + 4) = .ok (.ldc_w is, 3)) (d7 : decode cc (pc + 7) = .ok (.invokespecial ic, 3)) (d10 : decode cc (pc + 10) = .ok (.athrow, 1))
    (hout : ∀ x ∈ c.exceptionTable.toList, covers x (pc + 10) = false)
    (hRframes : names.length + 3 < R.frames) (hRlocals : (rest.map fun v => v.category).sum + (13 * (names.length + 1) + 43) ≤ R.locals) (hRcells : cells + 1 ≤ R.cells) (hRslots : slots + 6 ≤ R.slots) (hlocks : meth.locks = false)
    (hx : ∀ t : State, s.vm.Alike t.vm → H.size ≤ t.heap.size → (∀ q : Nat, q < H.size → t.heap[q]? = H[q]?) → XC cls s t)
    (hf : ∀ z ∈ locs, free z.base) (hc : cells + 1 ≤ mc) (hs : slots + 6 ≤ ms) :
    W p l e R s m args below meth c H locs cells slots (vx_MQ below Qc XC args s mc ms free) (F0 m pc ls rest) := by
  intro T hT X
  have htr : e.platform.stackTraces = false := (show e.platform.stackTraces = l.stackTraces by rw [X.admits.platform]).trans hl
  have Y := vx_rebase X (R' := { frames := R.frames, locals := R.locals, cells := 1, slots := 6 }) (Nat.le_refl _) (Nat.le_refl _) hRcells hRslots
  obtain ⟨s', hA⟩ : ∃ z, z = (T.setVm s.vm).setFrames (.invoking m args :: below) := ⟨_, rfl⟩
  rw [← hA] at Y
  have hvm : s'.vm = s.vm := by rw [hA]; rfl
  have hhp : s'.heap = H := by rw [hA]; exact hT
  have hW0 : s.WarmedH s'.vm := by rw [hvm]; exact State.WarmedH.refl s
  have hat' : ∀ w ∈ vx_atS own ic cls names, w.before args s' = true := fun w hw => vx_ot_at hW0 hvm.symm (hgood w (List.mem_cons_of_mem _ (List.mem_cons_of_mem _ hw))) (hat w hw)
  have hk' : (Cond.classLink own ik cls).before args s' = true := vx_ot_at hW0 hvm.symm (hgood _ List.mem_cons_self) hk
  have hini' : (Cond.initialized cls).before args s' = true := vx_ot_at hW0 hvm.symm (hgood _ (List.mem_cons_of_mem _ List.mem_cons_self)) hini
  have hU' : vx_Zq Bundle.tN "UNASSIGNED_STACK" Bundle.steD A s' s'.heap := by rw [hhp]; exact vx_Zq.moved hW0.alike (hU.kept hS.2.1)
  have hN' : vx_Zq Bundle.tN "SUPPRESSED_SENTINEL" Bundle.listD A s' s'.heap := by rw [hhp]; exact vx_Zq.moved hW0.alike (hN.kept hS.2.1)
  have h : ∀ w ∈ Bundle.ownAtoms own ic cls names, w.before args s' = true := vx_own hat' (vx_isRefq hU'.1) (vx_isRefq hN'.1) hU'.2.word hN'.2.word
  have hown' : s'.vm.findClass own = some m.cls := by rw [hvm]; exact hown
  have hins : (Cond.instantiable cls 6).before args s' = true := h _ (by simp [Bundle.ownAtoms])
  obtain ⟨vm₁, cX, kX, hfX, hkX, -, -, X₁, st1⟩ := Y.newCold hexec (own := own) (C := cls) (index := ik) (n := 6) hown' hk' hins hini'
    (g := F0 m pc ls rest) rfl (by rw [hb]; exact d0) (Nat.le_refl _) (Nat.le_refl _)
  generalize hT1 : (T.setVm vm₁).pushCell { cls := cX, slots := kX.instanceTypes.map defaultValue, vm := .none } = T1 at X₁ st1
  have hcat : (Value.ref T.heap.size).category = 1 := rfl
  have hcellA : T1.heap[T.heap.size]? = some (freshCell cX kX) := by rw [← hT1]; exact State.heap_pushCell_size _ _
  have d3' : decode c.code (pc + 3) = .ok (.dup, 1) := by rw [hb]; exact d3
  have d4' : decode c.code (pc + 4) = .ok (.ldc_w is, 3) := by rw [hb]; exact d4
  have hstr' : vk_R own is text sa s' := vk_R.warm hW0 hstr
  obtain ⟨U, hsteps, hrun, hend, hW, hsame, ce, hce, hO⟩ := X₁.ctorThrowS hexec htr (own := own) (cls := cls) (names := names) (ic := ic) hown' hcls hnames h (fun x hx => nomatch hx) hfX hkX hcellA (by rw [hhp, hT]; exact Nat.le_refl _) (msg := .ref sa) rfl
    (g := { method := m, pc := pc + 7, locals := ls, stack := .ref sa :: .ref T.heap.size :: .ref T.heap.size :: rest, locked := none }) rfl hsize rfl rfl (rest := rest) rfl
    (by rw [hb]; exact d7) (by rw [hb]; exact d10) hout hRframes (by simp only [List.map_cons, List.sum_cons, hcat]; omega) hlocks
  obtain ⟨f1, f2⟩ := vx_frame hsame
  rw [hhp] at f1 f2
  have hWs : s.WarmedH U.vm := State.WarmedH.trans hW0 hW
  have hcl : s.vm.findClass cls = some ce.cls := by
    have h9 := hO.cls
    rw [hvm] at h9
    exact h9
  have hall : s.sameButNew ({ U with vm := s.vm } : State) locs mc ms := by
    subst hA
    obtain ⟨e1, e2⟩ := hsame
    rw [State.setFrames_setFrames] at e1
    have h2 : (T.setVm s.vm).sameButNew ({ U with vm := s.vm } : State) [] (0 + 1) (0 + 6) := ⟨e1, e2⟩
    have h3 := X.same.trans h2
    rw [List.append_nil] at h3
    exact h3.mono hc hs
  refine ⟨U, ?_, .threw T.heap.size, hrun, hend, Or.inr ⟨T.heap.size, rfl, cls, ce, locs, hx U hWs.alike f1 (fun q hq => f2 q hq (fun z hz => nomatch hz)), hce, hO.vm, hcl, hWs, hall, hf⟩⟩
  refine st1 _ ?_
  show Steps p.tables e below (T1.setTop { method := m, pc := pc + 3, locals := ls, stack := .ref T.heap.size :: rest, locked := none }) _
  jvm_step X₁.here [X₁.here.top, hexec, d3', Value.category]
  exact X₁.ldcStringW hexec (own := own) (text := text) (index := is) (a := sa) hown' hstr'.1 hstr'.2
    (g := { method := m, pc := pc + 4, locals := ls, stack := .ref T.heap.size :: .ref T.heap.size :: rest, locked := none }) rfl d4' _ hsteps
end Ends
section Bodies
variable {l : Launch}
theorem vx_ofW {y : MethodName} {ws ws' : List Cond} {rm : Room} {Pc : Array Value → State → Prop} {Qc : Array Value → State → Outcome → State → Prop} {XC : String → State → State → Prop} {mc ms : Nat} {free : Addr → Prop} {cc : ByteArray} {maxL : Nat} {ret : Option FieldType}
    (hy : plainName y.cls = true) (hw : ws = Cond.code y cc maxL ret :: ws')
    (body : ∀ p e s m args below meth c s₁, BodyLoose p l y (headSpec ws rm) cc maxL ret e s m args below meth c s₁ → c.maxLocals = maxL → (∀ x ∈ c.exceptionTable.toList, False) → Pc args s →
      W p l e (headSpec ws rm).room s m args below meth c s.heap [] 0 0 (vx_MQ below Qc XC args s mc ms free) (entryFrame m args maxL)) : vx_Met l y ws rm Pc Qc XC mc ms free := by
  refine MetFree.of_bodyS (code := cc) (maxLocals := maxL) (ret := ret) hy ?_ ?_
  · intro args s m h hn
    obtain ⟨meth, c, h1, h2, h3, h4, h5, h6, -, -⟩ := Cond.code_spec hn (atoms_spec (ws := ws) h _ (by rw [hw]; exact List.mem_cons_self))
    exact ⟨meth, c, h1, h2, h3, h4, h5, h6⟩
  · intro p e s m args below meth c s₁ B hml hP _
    have hh0 : s₁.heap = s.heap := by rw [B.state]; rfl
    have ht : ∀ x ∈ c.exceptionTable.toList, False := by
      obtain ⟨meth9, c9, h1, h2, -, -, -, -, h7, -⟩ := Cond.code_spec B.named (atoms_spec (ws := ws) B.pre _ (by rw [hw]; exact List.mem_cons_self))
      cases Option.some.inj (h1.symm.trans B.method)
      cases Option.some.inj (h2.symm.trans (Stand.of_body B).code)
      intro x hx
      rw [Array.isEmpty_iff.mp h7] at hx
      cases hx
    obtain ⟨t, a1, o, b1, b2, b3⟩ := body p e s m args below meth c s₁ B hml ht hP s₁ hh0 (Stand.of_body B)
    exact ⟨t, o, a1, b1, b2, b3⟩
/-- the table of a body with handlers -/
theorem vx_table {p : Program} {x y : MethodName} {S : Spec} {cc bytes : ByteArray} {maxL maxL' : Nat} {ret ret' : Option FieldType} {e : Env} {s s₁ : State} {m : MethodId} {args : Array Value} {below : List Frame} {meth : Method} {c : Code} {hh : List (Nat × Nat × Nat × Nat)}
    (B : BodyLoose p l y S cc maxL ret e s m args below meth c s₁) (h : (Cond.codeWith y bytes maxL' ret' hh).before args s = true) : c.exceptionTable.toList = tableOf hh := by
  obtain ⟨m9, meth9, c9, hn9, h1, h2, -, -, h6, -⟩ := Cond.codeWith_spec h
  cases Option.some.inj (hn9.symm.trans B.named)
  cases Option.some.inj (h1.symm.trans B.method)
  cases Option.some.inj (h2.symm.trans (Stand.of_body B).code)
  rw [← h6, table_eq]
end Bodies
end VXA
/-! ===== END ===== -/
/-! ===== BEGIN a static call of a method with an exception table ===== -/
section VXS
variable {p : Program} {l : Launch} {e : Env} {R : Room} {s : State} {m : MethodId} {args : Array Value} {below : List Frame} {meth : Method} {c : Code} {T : State} {H : Heap} {locs : List Loc} {cells slots : Nat}
abbrev vx_CSW (R : Room) (s : State) (args : Array Value) (own : String) (index : Nat) (y : MethodName) (bytes : ByteArray) (maxL : Nat) (ret : Option FieldType) (hh : List (Nat × Nat × Nat × Nat)) (ws : List Cond) (rm : Room) (mc ms n : Nat) : Prop :=
  (rm.cells = mc ∧ rm.slots = ms ∧ rm.frames + 1 ≤ R.frames ∧ 8 + (maxL + 11) + rm.locals ≤ R.locals ∧ (∀ w ∈ ws, ∀ (a' : Array Value) (U : State), s.WarmedH U.vm → w.before a' U = true) ∧ Cond.codeWith y bytes maxL ret hh ∈ ws) ∧
  (Cond.codeWith y bytes maxL ret hh).before args s = true ∧ (Cond.initialized y.cls).before args s = true ∧ (y.cls ≠ "java/lang/invoke/MethodHandle" ∧ y.cls ≠ "java/lang/invoke/VarHandle") ∧
  (∀ sig, parseMethodDescriptor y.desc = some sig → n = sig.parameters.length) ∧ (Cond.methodLink own index y).before args s = true ∧ (Cond.static y).before args s = true
theorem vx_cwSW {own : String} {index maxL mc ms : Nat} {y : MethodName} {bytes : ByteArray} {ret : Option FieldType} {hh : List (Nat × Nat × Nat × Nat)} {Ts ws ws' : List Cond} {rm : Room} (n : Nat) (ht : ∀ w ∈ Ts, w.before args s = true) (hT : GoodIn Ts (va_wsS own index y ws)) (hw : ws = Cond.codeWith y bytes maxL ret hh :: ws') (hrc : rm.cells = mc) (hrs : rm.slots = ms)
    (hd : y.cls ≠ "java/lang/invoke/MethodHandle" ∧ y.cls ≠ "java/lang/invoke/VarHandle" ∧ (parseMethodDescriptor y.desc).map (fun d => d.parameters.length) = some n) (hR : rm.frames + 1 ≤ R.frames ∧ 8 + (maxL + 11) + rm.locals ≤ R.locals) :
    vx_CSW R s args own index y bytes maxL ret hh ws rm mc ms n := by
  have ok : ∀ w ∈ va_wsS own index y ws, w.before args s = true := fun w h => ht w (hT w h).1
  have hG : GoodIn Ts ws := fun w h => hT w (by unfold va_wsS; exact List.mem_append_right _ h)
  have hc : Cond.codeWith y bytes maxL ret hh ∈ ws := by rw [hw]; exact List.mem_cons_self
  refine ⟨⟨hrc, hrs, hR.1, hR.2, pay_in ht hG, hc⟩, ht _ (hG _ hc).1, ok _ (by simp [va_wsS]), ⟨hd.1, hd.2.1⟩, fun sig h => ?_, ok _ (by simp [va_wsS]), ok _ (by simp [va_wsS])⟩
  have h2 := hd.2.2
  rw [h] at h2
  exact (Option.some.inj h2).symm
theorem vx_callSW (X : Stand p l e R s m args below meth c T locs cells slots) (hexec : p.tables.exec = Jvm.exec) {own : String} {index : Nat} {y : MethodName} {bytes : ByteArray} {maxL : Nat} {ret : Option FieldType} {hh : List (Nat × Nat × Nat × Nat)}
    (hown : s.vm.findClass own = some m.cls) (hlink : (Cond.methodLink own index y).before args s = true) (hstat : (Cond.static y).before args s = true) (hinit : (Cond.initialized y.cls).before args s = true)
    (hcode : (Cond.codeWith y bytes maxL ret hh).before args s = true) (hy : y.cls ≠ "java/lang/invoke/MethodHandle" ∧ y.cls ≠ "java/lang/invoke/VarHandle")
    {W9 : Nat} {Pre : Pt → Array Value → Prop} {Post : Pt → Array Value → Option Value → Pt → Prop} (hK : Back l R p e below s args y 3 W9 Pre Post)
    {g : JFrame} (hg : g.method = m) (hsize : g.locals.size = c.maxLocals) {argsL rest : List Value} (hlen : ∀ sig, parseMethodDescriptor y.desc = some sig → argsL.length = sig.parameters.length)
    (hstack : g.stack = argsL.reverse ++ rest) (hW : 2 * g.monitorRoom + (rest.map fun v => v.category).sum ≤ W9) (hdg : decode c.code g.pc = .ok (.invokestatic index, 3))
    (hpre : ∀ vm₁, s.WarmedH vm₁ → Pre ⟨T.setVm vm₁, locs, cells, slots⟩ argsL.toArray) :
    ∃ (v : Option Value) (vm₁ : Vm) (B : Pt), s.WarmedH vm₁ ∧ Stand p l e R s m args below meth c B.U B.locs B.cells B.slots ∧ Post ⟨T.setVm vm₁, locs, cells, slots⟩ argsL.toArray v B ∧
      ∀ target, Steps p.tables e below (B.U.setTop { g with pc := g.pc + 3, stack := v.toList ++ rest }) target → Steps p.tables e below (T.setTop g) target := by
  obtain ⟨mk, methM, cM, hnamed, hmethM, -, -, -, -, -, -, hsigM⟩ := Cond.codeWith_spec hcode
  have hstatic : methM.isStatic = true := Cond.static_spec hnamed hmethM hstat
  obtain ⟨kP, hkP, -⟩ := className_of_methodNamed hnamed
  have hinitP : kP.init = .initialized := Cond.initialized_spec (findClass_of_methodNamed hnamed) hkP hinit
  obtain ⟨vm₁, X₁, hstep₁⟩ := X.invokestatic hexec hown hlink hnamed hmethM hstatic hkP hinitP hy (g := g) hg (argsL := argsL) (rest := rest) (hlen _ hsigM) hstack hdg
  obtain ⟨v, B, X', hpost, hsteps⟩ := hK m meth c ⟨T.setVm vm₁, locs, cells, slots⟩ { g with stack := rest } (.invokestatic index) mk argsL.toArray X₁ hg hsize hdg hW (X₁.named hnamed) (hpre vm₁ X₁.warmed)
  exact ⟨v, vm₁, B, X₁.warmed, X', hpost, fun target h => hstep₁ _ fun acts => by rw [doInvoke_state]; exact hsteps.trans h⟩
theorem vx_runSW {y : MethodName} {bytes cc : ByteArray} {maxL nL mc ms n index : Nat} {ret : Option FieldType} {hh : List (Nat × Nat × Nat × Nat)} {ws : List Cond} {rm : Room} {Pc : Array Value → State → Prop} {Qc : Array Value → State → Outcome → State → Prop} {free : Addr → Prop} {Ts : List Cond} {own : String} {As rest : List Value} {g : JFrame}
    (S : CallFix p m c cc nL s args Ts own) (hM : Met l y ws rm Pc Qc mc ms free) (cw : vx_CSW R s args own index y bytes maxL ret hh ws rm mc ms n) (hp : PreS s H Pc As)
    (hg : g.method = m) (hn : As.length = n) (hsize : g.locals.size = nL) (hstack : g.stack = As.reverse ++ rest) (hW : 2 * g.monitorRoom + (rest.map fun v => v.category).sum ≤ 8) (hdg : decode cc g.pc = .ok (.invokestatic index, 3)) (hf : cells + mc ≤ R.cells ∧ slots + ms ≤ R.slots) :
    va_Run p l e R s m args below meth c H locs cells slots mc ms g rest (Qc As.toArray) (free) := by
  obtain ⟨⟨hrc, hrs, hfr, hlo, hws, hcw⟩, hcode, hini, hy, hlen, hl, hstt⟩ := cw
  have hK : Back l R p e below s args y 3 8 (PreOf R mc ms Pc) (PostOf Qc mc ms free) := va_backW (hh := hh) (bytes := bytes) (maxL := maxL) (ret := ret) hM hp.1 hrc hrs hfr hlo hws hcw (fun a' U hW => word_at hW (Or.inl (by first | rfl | simp [Cond.onTables, Cond.keeps, Cond.steady])) hini)
  obtain ⟨hx, hb, hml, ho, -⟩ := S
  intro T hT X
  obtain ⟨v, vm₁, ⟨U', l2, c2, s2⟩, hW₁, X', ⟨g', mk, t, L, e1, e2, hq, h1, hL, h2, h3⟩, st⟩ := vx_callSW X hx (hh := hh) (bytes := bytes) (maxL := maxL) (ret := ret) ho hl hstt hini hcode hy hK hg (hsize.trans hml.symm) (argsL := As) (rest := rest) (fun sig h => hn.trans (hlen sig h)) hstack hW (by rw [hb]; exact hdg)
    (fun vm₁ hW₁ => ⟨hf.1, hf.2, hp.2 (T.setVm vm₁) hT hW₁⟩)
  dsimp only [Pt.U, Pt.locs, Pt.cells, Pt.slots] at X' e1 e2 h1 h2 h3 st
  subst h1; subst h2; subst h3
  exact ⟨v, (T.setVm vm₁).calling g' mk As.toArray, t, U', L, hT, X', hL, e1, e2, hq, st⟩
/-- not caught here, past rows that name other classes: it goes on to the caller -/
theorem vx_outP {p : Program} {l : Launch} {e : Env} {R : Room} {s : State} {m : MethodId} {args : Array Value} {below : List Frame} {meth : Method} {c : Code} {H : Heap} {locs : List Loc} {cells slots : Nat} {free : Addr → Prop} {ls : Array Slot} {rest : List Value} {Qc : Array Value → State → Outcome → State → Prop} {XC : String → State → State → Prop}
    {pc : Nat} {own E : String} {ce : Cell} {q : Addr} {mc ms : Nat} (hown : s.vm.findClass own = some m.cls) (hlocks : meth.locks = false)
    (hpass : ∀ z ∈ c.exceptionTable.toList, covers z pc = false ∨ (z.catchType ≠ 0 ∧ ∃ nm : String, (Cond.classLink own z.catchType nm).before args s = true ∧ va_Nc E nm s)) (hcell : H[q]? = some ce) (hv : ce.vm = .none) (hcl : s.vm.findClass E = some ce.cls)
    (hx : ∀ t : State, t.heap = H → s.vm.Alike t.vm → XC E s t) (hf : ∀ z ∈ locs, free z.base) (hc : cells ≤ mc) (hs : slots ≤ ms) :
    vx_W p l e R s m args below meth c H locs cells slots (vx_MQ below Qc XC args s mc ms free) (F0 m pc ls rest) q := by
  intro T hT X
  have hpl : e.platform.magicAccessors = ({} : Platform).magicAccessors := by rw [X.admits.platform]
  obtain ⟨vm', hW', X', st⟩ := X.outThrough hlocks q (g := F0 m pc ls rest) rfl rfl rfl (cell := ce) (by rw [hT]; exact hcell) (by rw [hv]; rfl)
    (by obtain ⟨k9, h9, -⟩ := Vm.findClass_spec hcl; exact ⟨k9, h9⟩) (fun z hz => by
      rcases hpass z hz with h | ⟨hz0, nm, hl1, hn1⟩
      · exact Or.inl h
      · obtain ⟨c6, hc6, hcl6⟩ := Cond.classLink_spec hown hl1 e.platform hpl
        obtain ⟨a8, b8, h1, h2, h3⟩ := hn1
        cases Option.some.inj (h1.symm.trans hcl)
        cases Option.some.inj (h2.symm.trans hc6)
        exact Or.inr ⟨hz0, _, hcl6, h3⟩)
  obtain ⟨g₀, hfr⟩ := X'.frames_eq
  have hcell9 : ((T.setVm vm').setFrames (.throwing q :: below)).heap[q]? = some ce := by
    show T.heap[q]? = some ce
    rw [hT]; exact hcell
  have hend : Ended ((T.setVm vm').setFrames (.throwing q :: below)) below (.threw q) := State.frames_setFrames _ (State.cur_lt_of_frames hfr)
  refine ⟨(T.setVm vm').setFrames (.throwing q :: below), ?_, .threw q, X'.here.running, hend, Or.inr ⟨q, rfl, E, ce, locs, hx _ hT (X'.ends _).1.alike, hcell9, hv, hcl, (X'.ends _).1, (X'.ends _).2.mono hc hs, hf⟩⟩
  rw [X.pushThrowing_eq]
  exact st
/-- a thing of a world lies in the heap -/
theorem vx_lt {D : va_G} {cl : List vw_C} {ws : va_W} {H1 : Heap} (h : va_P D cl ws H1) {k : Nat} {q : Nat × va_E} (hk : ws[k]? = some q) : q.1 < H1.size := (h k q hk).lt
end VXS
/-! ===== END ===== -/
/-! ===== BEGIN methods with a table of their own: called by a name, returning or throwing ===== -/
section VXH
/-! vx_backW, vx_callVX, vx_callSX, vx_callVW, vx_runVW, vx_runVX, vx_runSX, vx_ofWH follow the same proofs as their sisters above (Free/Laws.lean, Shelf42/LK1.lean); vx_outP calls Shelf42/NT130.lean (outThrough). -/
section
variable {l : Launch} {R : Room} {p : Program} {e : Env} {below : List Frame} {s : State} {sargs : Array Value} {y : MethodName} {len W9 : Nat}
theorem vx_backW {ws : List Cond} {rm : Room} {Pc : Array Value → State → Prop} {Qc : Array Value → State → Outcome → State → Prop} {XC : String → State → State → Prop} {mc ms : Nat} {free : Addr → Prop} {bytes : ByteArray} {maxL : Nat} {ret : Option FieldType} {hh : List (Nat × Nat × Nat × Nat)}
    (hM : vx_Met l y ws rm Pc Qc XC mc ms free) (hblind : FrameBlind Pc) (hrc : rm.cells = mc) (hrs : rm.slots = ms)
    (hframes : rm.frames + 1 ≤ R.frames) (hlocals : W9 + (maxL + 11) + rm.locals ≤ R.locals)
    (hws : ∀ w ∈ ws, ∀ a' U, s.WarmedH U.vm → w.before a' U = true) (hcode : Cond.codeWith y bytes maxL ret hh ∈ ws) (hinit : ∀ a' U, s.WarmedH U.vm → (Cond.initialized y.cls).before a' U = true) :
    vx_Back l R p e below s sargs y len W9 (PreOf R mc ms Pc) (PostOf Qc mc ms free) (vx_Post XC mc ms free) := by
  intro m meth c A g ig mk a X hg hsize hdg hW hn hp
  have h1 : (headSpec ws rm).pre.before a A.U = true := atoms_intro fun w hw => hws w hw _ _ X.warmed
  have h2 : (Cond.codeWith y bytes maxL ret hh).before a A.U = true := hws _ hcode _ _ X.warmed
  have h3 : (Cond.initialized y.cls).before a A.U = true := hinit _ _ X.warmed
  have h4 : A.cells + (headSpec ws rm).room.cells ≤ R.cells := by rw [show (headSpec ws rm).room.cells = mc from hrc]; exact hp.1
  have h5 : A.slots + (headSpec ws rm).room.slots ≤ R.slots := by rw [show (headSpec ws rm).room.slots = ms from hrs]; exact hp.2.1
  have hPc : Pc a (A.U.calling g mk a) := hblind _ _ _ _ hp.2.2
  obtain ⟨U, Ls, c0, s0⟩ := A
  dsimp only [Pt.U, Pt.locs, Pt.cells, Pt.slots] at h1 h2 h3 h4 h5 X hn hPc ⊢
  obtain ⟨m9, methY, cY, hn9, hmY, hcY, -, hlY, -⟩ := Cond.codeWith_spec h2
  cases Option.some.inj (hn9.symm.trans hn)
  obtain ⟨kY, hkY, -⟩ := className_of_methodNamed hn
  have hinitY : kY.init = .initialized := Cond.initialized_spec (findClass_of_methodNamed hn) hkY h3
  have h : At U g.method c below := by rw [hg]; exact X.here
  have hlocals9 : W9 + (maxL + 11) + (headSpec ws rm).room.locals ≤ R.locals := hlocals
  have happ : (headSpec ws rm).appliesLoose y e.platform (U.calling g mk a) = true :=
    Spec.appliesLoose_calling (g := g) h hdg hn hkY hinitY
      (X.room_calling (g := g) (R' := (headSpec ws rm).room) hsize hmY hcY hframes (by rw [hlY]; omega) h4 h5) h1
  obtain ⟨mid, hmid⟩ := h.above
  have hfr : (U.setTop g).frames = (.java g :: mid) ++ below := by rw [State.frames_setTop' g h.top, hmid]; rfl
  obtain ⟨o, s₂, hsteps, -, hend, hq⟩ := Steps.callFree hM p X.admits X.cas X.clock (acts := []) hfr happ hPc trivial
  have hq' : vx_Q Qc XC mc ms free a (U.calling g mk a) o s₂ := hq
  rw [State.frames_setTop' g h.top] at hend
  obtain ⟨g₀, hg0⟩ := Option.isSome_iff_exists.mp h.top
  obtain ⟨r, hr⟩ := State.topJava?_eq_some.mp hg0
  have hr' : (({ U with heap := s₂.heap, slotsUsed := s₂.slotsUsed } : State).setVm s₂.vm).frames = .java g₀ :: r := hr
  rcases hq' with ⟨hqc, L, hfe, hL⟩ | ⟨q, rfl, E, ce, L, hx, hce, hcv, hcl, hW₂, hsm, hL⟩
  · obtain ⟨⟨v, rfl⟩, hW₂, e2, q2, q3, q4, q5, q6⟩ := id hfe
    have e3 : s₂ = ({ (U.calling g mk a).setFrames s₂.frames with heap := s₂.heap, slotsUsed := s₂.slotsUsed } : State).setVm s₂.vm := by
      have : s₂ = ({ s₂ with vm := (U.calling g mk a).vm } : State).setVm s₂.vm := rfl
      rw [e2] at this
      exact this
    obtain ⟨c₂, i₂, len₂, hc₂, hd₂, hf₂⟩ := hend
    have hW' : U.WarmedH s₂.vm := hW₂
    have hcc : c₂ = c := by
      have h1 : s₂.code? g.method = U.code? g.method := by
        rw [State.code?_eq, State.code?_eq, hW'.alike.method?]
      exact Option.some.inj (hc₂.symm.trans (h1.trans h.code))
    subst hcc
    have hlen : len₂ = len := by rw [hdg] at hd₂; cases hd₂; rfl
    subst hlen
    have hs₂ : s₂ = (({ U with heap := s₂.heap, slotsUsed := s₂.slotsUsed } : State).setVm s₂.vm).setTop { g with pc := g.pc + len₂, stack := v.toList ++ g.stack } := by
      refine e3.trans ?_
      rw [hf₂, State.calling_eq h.top, State.setFrames_setFrames, State.setTop_of_frames _ hr', hr]
      rfl
    have hsame : U.sameButNew ({ U with heap := s₂.heap, slotsUsed := s₂.slotsUsed } : State) L mc ms := by
      refine ⟨?_, q2, q3, q4, q5, q6⟩
      obtain ⟨t, ht, -⟩ := State.frames_cons hr
      show ({ U with heap := s₂.heap, slotsUsed := s₂.slotsUsed } : State) = { U.setFrames U.frames with heap := s₂.heap, slotsUsed := s₂.slotsUsed }
      rw [State.setFrames_self ht]
    subst hg
    refine Or.inl ⟨v, ⟨(({ U with heap := s₂.heap, slotsUsed := s₂.slotsUsed } : State).setVm s₂.vm), Ls ++ L, c0 + mc, s0 + ms⟩,
      ⟨X.admits, X.cas, X.clock, X.frames, X.room, X.hears, X.method, X.code, (X.here.setHeapUsed s₂.heap s₂.slotsUsed).setVm hW'.alike, X.tail, State.WarmedH.trans X.warmed hW', X.limits, X.bytes, X.same.trans (hsame.setVm s.vm)⟩,
      ⟨g, mk, s₂, L, rfl, rfl, hqc, rfl, hL, rfl, rfl⟩, ?_⟩
    show Steps p.tables e below _ ((({ U with heap := s₂.heap, slotsUsed := s₂.slotsUsed } : State).setVm s₂.vm).setTop { g with pc := g.pc + len₂, stack := v.toList ++ g.stack })
    rw [← hs₂]
    exact hsteps
  · obtain ⟨e2, q2, q3, q4, q5, q6⟩ := id hsm
    have e3 : s₂ = ({ (U.calling g mk a).setFrames s₂.frames with heap := s₂.heap, slotsUsed := s₂.slotsUsed } : State).setVm s₂.vm := by
      have : s₂ = ({ s₂ with vm := (U.calling g mk a).vm } : State).setVm s₂.vm := rfl
      rw [e2] at this
      exact this
    have hf₂ : s₂.frames = .throwing q :: .java g :: U.frames.tail := hend
    have hW' : U.WarmedH s₂.vm := hW₂
    have hs₂ : s₂ = ((({ U with heap := s₂.heap, slotsUsed := s₂.slotsUsed } : State).setVm s₂.vm).setTop g).pushFrame (.throwing q) := by
      refine e3.trans ?_
      rw [hf₂, State.calling_eq h.top, State.setFrames_setFrames, State.pushFrame, State.frames_setTop _ hr', State.setTop_of_frames _ hr', State.setFrames_setFrames, hr]
      rfl
    have hsame : U.sameButNew ({ U with heap := s₂.heap, slotsUsed := s₂.slotsUsed } : State) L mc ms := by
      refine ⟨?_, q2, q3, q4, q5, q6⟩
      obtain ⟨t, ht, -⟩ := State.frames_cons hr
      show ({ U with heap := s₂.heap, slotsUsed := s₂.slotsUsed } : State) = { U.setFrames U.frames with heap := s₂.heap, slotsUsed := s₂.slotsUsed }
      rw [State.setFrames_self ht]
    subst hg
    refine Or.inr ⟨q, ⟨(({ U with heap := s₂.heap, slotsUsed := s₂.slotsUsed } : State).setVm s₂.vm), Ls ++ L, c0 + mc, s0 + ms⟩,
      ⟨X.admits, X.cas, X.clock, X.frames, X.room, X.hears, X.method, X.code, (X.here.setHeapUsed s₂.heap s₂.slotsUsed).setVm hW'.alike, X.tail, State.WarmedH.trans X.warmed hW', X.limits, X.bytes, X.same.trans (hsame.setVm s.vm)⟩,
      ⟨g, mk, s₂, L, E, ce, rfl, rfl, hx, hce, hcv, hcl, rfl, hL, rfl, rfl⟩, ?_⟩
    show Steps p.tables e below _ (((({ U with heap := s₂.heap, slotsUsed := s₂.slotsUsed } : State).setVm s₂.vm).setTop g).pushFrame (.throwing q))
    rw [← hs₂]
    exact hsteps
end
variable {p : Program} {l : Launch} {e : Env} {R : Room} {s : State} {m : MethodId} {args : Array Value} {below : List Frame} {meth : Method} {c : Code} {T : State} {H : Heap} {locs : List Loc} {cells slots : Nat}
theorem vx_callVX (X : Stand p l e R s m args below meth c T locs cells slots) (hexec : p.tables.exec = Jvm.exec) {own C : String} {index : Nat} {y : MethodName} {bytes : ByteArray} {maxL : Nat} {ret : Option FieldType} {hh : List (Nat × Nat × Nat × Nat)}
    (hown : s.vm.findClass own = some m.cls) (hlink : (Cond.methodLink own index y).before args s = true) (hinst : (Cond.instanceMethod y).before args s = true) (hsel : (Cond.selects C y y).before args s = true)
    (hcode : (Cond.codeWith y bytes maxL ret hh).before args s = true) (hy : y.cls ≠ "java/lang/invoke/MethodHandle" ∧ y.cls ≠ "java/lang/invoke/VarHandle")
    {W9 : Nat} {Pre : Pt → Array Value → Prop} {Post : Pt → Array Value → Option Value → Pt → Prop} {PostX : Pt → Array Value → Addr → Pt → Prop} (hK : vx_Back l R p e below s args y 3 W9 Pre Post PostX)
    {b : Addr} {cellB : Cell} (hcell : T.heap[b]? = some cellB) (hobj : cellB.vm.isStatics = false) (hcls : s.vm.findClass C = some cellB.cls)
    {g : JFrame} (hg : g.method = m) (hsize : g.locals.size = c.maxLocals) {argsL rest : List Value} (hlen : ∀ sig, parseMethodDescriptor y.desc = some sig → argsL.length = sig.parameters.length)
    (hstack : g.stack = argsL.reverse ++ .ref b :: rest) (hW : 2 * g.monitorRoom + (rest.map fun v => v.category).sum ≤ W9) (hdg : decode c.code g.pc = .ok (.invokevirtual index, 3))
    (hpre : ∀ vm₁, s.WarmedH vm₁ → Pre ⟨T.setVm vm₁, locs, cells, slots⟩ (Value.ref b :: argsL).toArray) :
    (∃ (v : Option Value) (vm₁ : Vm) (B : Pt), s.WarmedH vm₁ ∧ Stand p l e R s m args below meth c B.U B.locs B.cells B.slots ∧ Post ⟨T.setVm vm₁, locs, cells, slots⟩ (Value.ref b :: argsL).toArray v B ∧
      ∀ target, Steps p.tables e below (B.U.setTop { g with pc := g.pc + 3, stack := v.toList ++ rest }) target → Steps p.tables e below (T.setTop g) target) ∨
    (∃ (q : Addr) (vm₁ : Vm) (B : Pt), s.WarmedH vm₁ ∧ Stand p l e R s m args below meth c B.U B.locs B.cells B.slots ∧ PostX ⟨T.setVm vm₁, locs, cells, slots⟩ (Value.ref b :: argsL).toArray q B ∧
      Steps p.tables e below (T.setTop g) ((B.U.setTop { g with stack := rest }).pushFrame (.throwing q))) := by
  obtain ⟨mk, methM, hnamed, hmethM, hstM, habM⟩ := Cond.instanceMethod_spec hinst
  obtain ⟨m8, methM', cM, hn8, hmethM', -, -, -, -, -, -, hsigM⟩ := Cond.codeWith_spec hcode
  cases Option.some.inj (hn8.symm.trans hnamed)
  cases hmethM.symm.trans hmethM'
  obtain ⟨c2, r2, m2, q1, q2, q3, q4, kP, hkP, hkPi⟩ := Cond.selects_spec hsel
  cases hcls.symm.trans q1
  cases (State.methodFound?_of_named hnamed hy).symm.trans q2
  cases hnamed.symm.trans q3
  have hselP : selectMethod e.platform s.vm cellB.cls mk = .method mk := by rw [Launch.admits_selectMethod X.admits]; exact q4
  obtain ⟨vm₁, X₁, hstep₁⟩ := X.invokevirtual hexec hown hlink hnamed hmethM hstM hkP hkPi hy (a := b) (cell := cellB) hcell
    (fun z h => by rw [h] at hobj; cases hobj) hselP hmethM habM hkP hkPi (g := g) hg (argsL := argsL) (rest := rest) (hlen _ hsigM) hstack hdg
  rcases hK m meth c ⟨T.setVm vm₁, locs, cells, slots⟩ { g with stack := rest } (.invokevirtual index) mk (Value.ref b :: argsL).toArray X₁ hg hsize hdg hW (X₁.named hnamed) (hpre vm₁ X₁.warmed) with ⟨v, B, X', hpost, hsteps⟩ | ⟨q, B, X', hpost, hsteps⟩
  · exact Or.inl ⟨v, vm₁, B, X₁.warmed, X', hpost, fun target h => hstep₁ _ fun acts => by rw [doInvoke_state]; exact hsteps.trans h⟩
  · exact Or.inr ⟨q, vm₁, B, X₁.warmed, X', hpost, hstep₁ _ fun acts => by rw [doInvoke_state]; exact hsteps⟩
theorem vx_callSX (X : Stand p l e R s m args below meth c T locs cells slots) (hexec : p.tables.exec = Jvm.exec) {own : String} {index : Nat} {y : MethodName} {bytes : ByteArray} {maxL : Nat} {ret : Option FieldType} {hh : List (Nat × Nat × Nat × Nat)}
    (hown : s.vm.findClass own = some m.cls) (hlink : (Cond.methodLink own index y).before args s = true) (hstat : (Cond.static y).before args s = true) (hinit : (Cond.initialized y.cls).before args s = true)
    (hcode : (Cond.codeWith y bytes maxL ret hh).before args s = true) (hy : y.cls ≠ "java/lang/invoke/MethodHandle" ∧ y.cls ≠ "java/lang/invoke/VarHandle")
    {W9 : Nat} {Pre : Pt → Array Value → Prop} {Post : Pt → Array Value → Option Value → Pt → Prop} {PostX : Pt → Array Value → Addr → Pt → Prop} (hK : vx_Back l R p e below s args y 3 W9 Pre Post PostX)
    {g : JFrame} (hg : g.method = m) (hsize : g.locals.size = c.maxLocals) {argsL rest : List Value} (hlen : ∀ sig, parseMethodDescriptor y.desc = some sig → argsL.length = sig.parameters.length)
    (hstack : g.stack = argsL.reverse ++ rest) (hW : 2 * g.monitorRoom + (rest.map fun v => v.category).sum ≤ W9) (hdg : decode c.code g.pc = .ok (.invokestatic index, 3))
    (hpre : ∀ vm₁, s.WarmedH vm₁ → Pre ⟨T.setVm vm₁, locs, cells, slots⟩ argsL.toArray) :
    (∃ (v : Option Value) (vm₁ : Vm) (B : Pt), s.WarmedH vm₁ ∧ Stand p l e R s m args below meth c B.U B.locs B.cells B.slots ∧ Post ⟨T.setVm vm₁, locs, cells, slots⟩ argsL.toArray v B ∧
      ∀ target, Steps p.tables e below (B.U.setTop { g with pc := g.pc + 3, stack := v.toList ++ rest }) target → Steps p.tables e below (T.setTop g) target) ∨
    (∃ (q : Addr) (vm₁ : Vm) (B : Pt), s.WarmedH vm₁ ∧ Stand p l e R s m args below meth c B.U B.locs B.cells B.slots ∧ PostX ⟨T.setVm vm₁, locs, cells, slots⟩ argsL.toArray q B ∧
      Steps p.tables e below (T.setTop g) ((B.U.setTop { g with stack := rest }).pushFrame (.throwing q))) := by
  obtain ⟨mk, methM, cM, hnamed, hmethM, -, -, -, -, -, -, hsigM⟩ := Cond.codeWith_spec hcode
  have hstatic : methM.isStatic = true := Cond.static_spec hnamed hmethM hstat
  obtain ⟨kP, hkP, -⟩ := className_of_methodNamed hnamed
  have hinitP : kP.init = .initialized := Cond.initialized_spec (findClass_of_methodNamed hnamed) hkP hinit
  obtain ⟨vm₁, X₁, hstep₁⟩ := X.invokestatic hexec hown hlink hnamed hmethM hstatic hkP hinitP hy (g := g) hg (argsL := argsL) (rest := rest) (hlen _ hsigM) hstack hdg
  rcases hK m meth c ⟨T.setVm vm₁, locs, cells, slots⟩ { g with stack := rest } (.invokestatic index) mk argsL.toArray X₁ hg hsize hdg hW (X₁.named hnamed) (hpre vm₁ X₁.warmed) with ⟨v, B, X', hpost, hsteps⟩ | ⟨q, B, X', hpost, hsteps⟩
  · exact Or.inl ⟨v, vm₁, B, X₁.warmed, X', hpost, fun target h => hstep₁ _ fun acts => by rw [doInvoke_state]; exact hsteps.trans h⟩
  · exact Or.inr ⟨q, vm₁, B, X₁.warmed, X', hpost, hstep₁ _ fun acts => by rw [doInvoke_state]; exact hsteps⟩
theorem vx_callVW (X : Stand p l e R s m args below meth c T locs cells slots) (hexec : p.tables.exec = Jvm.exec) {own C : String} {index : Nat} {y : MethodName} {bytes : ByteArray} {maxL : Nat} {ret : Option FieldType} {hh : List (Nat × Nat × Nat × Nat)}
    (hown : s.vm.findClass own = some m.cls) (hlink : (Cond.methodLink own index y).before args s = true) (hinst : (Cond.instanceMethod y).before args s = true) (hsel : (Cond.selects C y y).before args s = true)
    (hcode : (Cond.codeWith y bytes maxL ret hh).before args s = true) (hy : y.cls ≠ "java/lang/invoke/MethodHandle" ∧ y.cls ≠ "java/lang/invoke/VarHandle")
    {W9 : Nat} {Pre : Pt → Array Value → Prop} {Post : Pt → Array Value → Option Value → Pt → Prop} (hK : Back l R p e below s args y 3 W9 Pre Post)
    {b : Addr} {cellB : Cell} (hcell : T.heap[b]? = some cellB) (hobj : cellB.vm.isStatics = false) (hcls : s.vm.findClass C = some cellB.cls)
    {g : JFrame} (hg : g.method = m) (hsize : g.locals.size = c.maxLocals) {argsL rest : List Value} (hlen : ∀ sig, parseMethodDescriptor y.desc = some sig → argsL.length = sig.parameters.length)
    (hstack : g.stack = argsL.reverse ++ .ref b :: rest) (hW : 2 * g.monitorRoom + (rest.map fun v => v.category).sum ≤ W9) (hdg : decode c.code g.pc = .ok (.invokevirtual index, 3))
    (hpre : ∀ vm₁, s.WarmedH vm₁ → Pre ⟨T.setVm vm₁, locs, cells, slots⟩ (Value.ref b :: argsL).toArray) :
    ∃ (v : Option Value) (vm₁ : Vm) (B : Pt), s.WarmedH vm₁ ∧ Stand p l e R s m args below meth c B.U B.locs B.cells B.slots ∧ Post ⟨T.setVm vm₁, locs, cells, slots⟩ (Value.ref b :: argsL).toArray v B ∧
      ∀ target, Steps p.tables e below (B.U.setTop { g with pc := g.pc + 3, stack := v.toList ++ rest }) target → Steps p.tables e below (T.setTop g) target := by
  obtain ⟨mk, methM, hnamed, hmethM, hstM, habM⟩ := Cond.instanceMethod_spec hinst
  obtain ⟨m8, methM', cM, hn8, hmethM', -, -, -, -, -, -, hsigM⟩ := Cond.codeWith_spec hcode
  cases Option.some.inj (hn8.symm.trans hnamed)
  cases hmethM.symm.trans hmethM'
  obtain ⟨c2, r2, m2, q1, q2, q3, q4, kP, hkP, hkPi⟩ := Cond.selects_spec hsel
  cases hcls.symm.trans q1
  cases (State.methodFound?_of_named hnamed hy).symm.trans q2
  cases hnamed.symm.trans q3
  have hselP : selectMethod e.platform s.vm cellB.cls mk = .method mk := by rw [Launch.admits_selectMethod X.admits]; exact q4
  obtain ⟨vm₁, X₁, hstep₁⟩ := X.invokevirtual hexec hown hlink hnamed hmethM hstM hkP hkPi hy (a := b) (cell := cellB) hcell
    (fun z h => by rw [h] at hobj; cases hobj) hselP hmethM habM hkP hkPi (g := g) hg (argsL := argsL) (rest := rest) (hlen _ hsigM) hstack hdg
  obtain ⟨v, B, X', hpost, hsteps⟩ := hK m meth c ⟨T.setVm vm₁, locs, cells, slots⟩ { g with stack := rest } (.invokevirtual index) mk (Value.ref b :: argsL).toArray X₁ hg hsize hdg hW (X₁.named hnamed) (hpre vm₁ X₁.warmed)
  exact ⟨v, vm₁, B, X₁.warmed, X', hpost, fun target h => hstep₁ _ fun acts => by rw [doInvoke_state]; exact hsteps.trans h⟩
abbrev vx_CVW (R : Room) (s : State) (args : Array Value) (own C : String) (index : Nat) (y : MethodName) (bytes : ByteArray) (maxL : Nat) (ret : Option FieldType) (hh : List (Nat × Nat × Nat × Nat)) (ws : List Cond) (rm : Room) (mc ms n : Nat) : Prop :=
  (rm.cells = mc ∧ rm.slots = ms ∧ rm.frames + 1 ≤ R.frames ∧ 8 + (maxL + 11) + rm.locals ≤ R.locals ∧ (∀ w ∈ ws, ∀ (a' : Array Value) (U : State), s.WarmedH U.vm → w.before a' U = true) ∧ Cond.codeWith y bytes maxL ret hh ∈ ws) ∧
  (Cond.codeWith y bytes maxL ret hh).before args s = true ∧ (Cond.initialized y.cls).before args s = true ∧ (y.cls ≠ "java/lang/invoke/MethodHandle" ∧ y.cls ≠ "java/lang/invoke/VarHandle") ∧
  (∀ sig, parseMethodDescriptor y.desc = some sig → n = sig.parameters.length) ∧ (Cond.methodLink own index y).before args s = true ∧ (Cond.instanceMethod y).before args s = true ∧ (Cond.selects C y y).before args s = true
theorem vx_cwVW {own C : String} {index maxL mc ms : Nat} {y : MethodName} {bytes : ByteArray} {ret : Option FieldType} {hh : List (Nat × Nat × Nat × Nat)} {Ts ws ws' : List Cond} {rm : Room} (n : Nat) (ht : ∀ w ∈ Ts, w.before args s = true) (hT : GoodIn Ts (wsV own index C y ws)) (hw : ws = Cond.codeWith y bytes maxL ret hh :: ws') (hrc : rm.cells = mc) (hrs : rm.slots = ms)
    (hd : y.cls = C ∧ y.cls ≠ "java/lang/invoke/MethodHandle" ∧ y.cls ≠ "java/lang/invoke/VarHandle" ∧ (parseMethodDescriptor y.desc).map (fun d => d.parameters.length) = some n) (hR : rm.frames + 1 ≤ R.frames ∧ 8 + (maxL + 11) + rm.locals ≤ R.locals) :
    vx_CVW R s args own C index y bytes maxL ret hh ws rm mc ms n := by
  obtain ⟨hC, hd⟩ := hd
  subst hC
  have ok : ∀ w ∈ wsV own index y.cls y ws, w.before args s = true := fun w h => ht w (hT w h).1
  have hG : GoodIn Ts ws := fun w h => hT w (by unfold wsV; exact List.mem_append_right _ h)
  have hc : Cond.codeWith y bytes maxL ret hh ∈ ws := by rw [hw]; exact List.mem_cons_self
  refine ⟨⟨hrc, hrs, hR.1, hR.2, pay_in ht hG, hc⟩, ht _ (hG _ hc).1, ok _ (by simp [wsV]), ⟨hd.1, hd.2.1⟩, fun sig h => ?_, ok _ (by simp [wsV]), ok _ (by simp [wsV]), ok _ (by simp [wsV])⟩
  have h2 := hd.2.2
  rw [h] at h2
  exact (Option.some.inj h2).symm
theorem vx_runVW {y : MethodName} {bytes cc : ByteArray} {maxL nL mc ms n index : Nat} {ret : Option FieldType} {hh : List (Nat × Nat × Nat × Nat)} {ws : List Cond} {rm : Room} {Pc : Array Value → State → Prop} {Qc : Array Value → State → Outcome → State → Prop} {free : Addr → Prop} {Ts : List Cond} {own C : String} {b : Addr} {As rest : List Value} {g : JFrame}
    (S : CallFix p m c cc nL s args Ts own) (hM : Met l y ws rm Pc Qc mc ms free) (cw : vx_CVW R s args own C index y bytes maxL ret hh ws rm mc ms n) (hp : PreV s H C b Pc As)
    (hg : g.method = m) (hn : As.length = n) (hsize : g.locals.size = nL) (hstack : g.stack = As.reverse ++ .ref b :: rest) (hW : 2 * g.monitorRoom + (rest.map fun v => v.category).sum ≤ 8) (hdg : decode cc g.pc = .ok (.invokevirtual index, 3)) (hf : cells + mc ≤ R.cells ∧ slots + ms ≤ R.slots) :
    va_Run p l e R s m args below meth c H locs cells slots mc ms g rest (Qc (Value.ref b :: As).toArray) free := by
  obtain ⟨⟨hrc, hrs, hfr, hlo, hws, hcw⟩, hcode, hini, hy, hlen, hl, hin, hse⟩ := cw
  have hK : Back l R p e below s args y 3 8 (PreOf R mc ms Pc) (PostOf Qc mc ms free) := va_backW (hh := hh) (bytes := bytes) (maxL := maxL) (ret := ret) hM hp.1 hrc hrs hfr hlo hws hcw (fun a' U hW => word_at hW (Or.inl (by first | rfl | simp [Cond.onTables, Cond.keeps, Cond.steady])) hini)
  obtain ⟨hx, hb, hml, ho, -⟩ := S
  obtain ⟨-, ⟨cellB, hcB, hoB, hclB⟩, hPc⟩ := hp
  intro T hT X
  obtain ⟨v, vm₁, ⟨U', l2, c2, s2⟩, hW₁, X', ⟨g', mk, t, L, e1, e2, hq, h1, hL, h2, h3⟩, st⟩ := vx_callVW X hx (C := C) (hh := hh) (bytes := bytes) (maxL := maxL) (ret := ret) ho hl hin hse hcode hy hK (by rw [hT]; exact hcB) hoB hclB hg (hsize.trans hml.symm) (argsL := As) (rest := rest) (fun sig h => hn.trans (hlen sig h)) hstack hW (by rw [hb]; exact hdg)
    (fun vm₁ hW₁ => ⟨hf.1, hf.2, hPc (T.setVm vm₁) hT hW₁⟩)
  dsimp only [Pt.U, Pt.locs, Pt.cells, Pt.slots] at X' e1 e2 h1 h2 h3 st
  subst h1; subst h2; subst h3
  exact ⟨v, (T.setVm vm₁).calling g' mk (Value.ref b :: As).toArray, t, U', L, hT, X', hL, e1, e2, hq, st⟩
section
variable {y : MethodName} {bytes cc : ByteArray} {maxL nL mc ms n index : Nat} {ret : Option FieldType} {ws : List Cond} {rm : Room} {Pc : Array Value → State → Prop} {Qc : Array Value → State → Outcome → State → Prop} {XC : String → State → State → Prop} {free : Addr → Prop} {Ts : List Cond} {own C : String} {b : Addr} {As rest : List Value} {g : JFrame}
theorem vx_runVX {hh : List (Nat × Nat × Nat × Nat)} (S : CallFix p m c cc nL s args Ts own) (hM : vx_Met l y ws rm Pc Qc XC mc ms free) (cw : vx_CVW R s args own C index y bytes maxL ret hh ws rm mc ms n) (hp : PreV s H C b Pc As)
    (hg : g.method = m) (hn : As.length = n) (hsize : g.locals.size = nL) (hstack : g.stack = As.reverse ++ .ref b :: rest) (hW : 2 * g.monitorRoom + (rest.map fun v => v.category).sum ≤ 8) (hdg : decode cc g.pc = .ok (.invokevirtual index, 3)) (hf : cells + mc ≤ R.cells ∧ slots + ms ≤ R.slots) :
    vx_Run p l e R s m args below meth c H locs cells slots mc ms g rest (Qc (Value.ref b :: As).toArray) XC free := by
  obtain ⟨⟨hrc, hrs, hfr, hlo, hws, hcw⟩, hcode, hini, hy, hlen, hl, hin, hse⟩ := cw
  have hK : vx_Back l R p e below s args y 3 8 (PreOf R mc ms Pc) (PostOf Qc mc ms free) (vx_Post XC mc ms free) := vx_backW (hh := hh) (bytes := bytes) (maxL := maxL) (ret := ret) hM hp.1 hrc hrs hfr hlo hws hcw (fun a' U hW => word_at hW (Or.inl (by first | rfl | simp [Cond.onTables, Cond.keeps, Cond.steady])) hini)
  obtain ⟨hx, hb, hml, ho, -⟩ := S
  obtain ⟨-, ⟨cellB, hcB, hoB, hclB⟩, hPc⟩ := hp
  intro T hT X
  rcases vx_callVX X hx (C := C) (hh := hh) (bytes := bytes) (maxL := maxL) (ret := ret) ho hl hin hse hcode hy hK (by rw [hT]; exact hcB) hoB hclB hg (hsize.trans hml.symm) (argsL := As) (rest := rest) (fun sig h => hn.trans (hlen sig h)) hstack hW (by rw [hb]; exact hdg)
    (fun vm₁ hW₁ => ⟨hf.1, hf.2, hPc (T.setVm vm₁) hT hW₁⟩) with ⟨v, vm₁, ⟨U', l2, c2, s2⟩, hW₁, X', ⟨g', mk, t, L, e1, e2, hq, h1, hL, h2, h3⟩, st⟩ | ⟨q, vm₁, ⟨U', l2, c2, s2⟩, hW₁, X', ⟨g', mk, t, L, E, ce, e1, e2, hq, hce, hcv, hcl, h1, hL, h2, h3⟩, st⟩
  · dsimp only [Pt.U, Pt.locs, Pt.cells, Pt.slots] at X' e1 e2 h1 h2 h3 st
    subst h1; subst h2; subst h3
    exact Or.inl ⟨v, (T.setVm vm₁).calling g' mk (Value.ref b :: As).toArray, t, U', L, hT, X', hL, e1, e2, hq, st⟩
  · dsimp only [Pt.U, Pt.locs, Pt.cells, Pt.slots] at X' e1 e2 h1 h2 h3 st hcl
    subst h1; subst h2; subst h3
    exact Or.inr ⟨q, (T.setVm vm₁).calling g' mk (Value.ref b :: As).toArray, t, U', L, E, ce, hT, X', hL, e1, e2, hq, hce, hcv, vx_cls hW₁ hcl, st⟩
theorem vx_runSX {hh : List (Nat × Nat × Nat × Nat)} (S : CallFix p m c cc nL s args Ts own) (hM : vx_Met l y ws rm Pc Qc XC mc ms free) (cw : vx_CSW R s args own index y bytes maxL ret hh ws rm mc ms n) (hp : PreS s H Pc As)
    (hg : g.method = m) (hn : As.length = n) (hsize : g.locals.size = nL) (hstack : g.stack = As.reverse ++ rest) (hW : 2 * g.monitorRoom + (rest.map fun v => v.category).sum ≤ 8) (hdg : decode cc g.pc = .ok (.invokestatic index, 3)) (hf : cells + mc ≤ R.cells ∧ slots + ms ≤ R.slots) :
    vx_Run p l e R s m args below meth c H locs cells slots mc ms g rest (Qc As.toArray) XC free := by
  obtain ⟨⟨hrc, hrs, hfr, hlo, hws, hcw⟩, hcode, hini, hy, hlen, hl, hstt⟩ := cw
  have hK : vx_Back l R p e below s args y 3 8 (PreOf R mc ms Pc) (PostOf Qc mc ms free) (vx_Post XC mc ms free) := vx_backW (hh := hh) (bytes := bytes) (maxL := maxL) (ret := ret) hM hp.1 hrc hrs hfr hlo hws hcw (fun a' U hW => word_at hW (Or.inl (by first | rfl | simp [Cond.onTables, Cond.keeps, Cond.steady])) hini)
  obtain ⟨hx, hb, hml, ho, -⟩ := S
  intro T hT X
  rcases vx_callSX X hx (hh := hh) (bytes := bytes) (maxL := maxL) (ret := ret) ho hl hstt hini hcode hy hK hg (hsize.trans hml.symm) (argsL := As) (rest := rest) (fun sig h => hn.trans (hlen sig h)) hstack hW (by rw [hb]; exact hdg)
    (fun vm₁ hW₁ => ⟨hf.1, hf.2, hp.2 (T.setVm vm₁) hT hW₁⟩) with ⟨v, vm₁, ⟨U', l2, c2, s2⟩, hW₁, X', ⟨g', mk, t, L, e1, e2, hq, h1, hL, h2, h3⟩, st⟩ | ⟨q, vm₁, ⟨U', l2, c2, s2⟩, hW₁, X', ⟨g', mk, t, L, E, ce, e1, e2, hq, hce, hcv, hcl, h1, hL, h2, h3⟩, st⟩
  · dsimp only [Pt.U, Pt.locs, Pt.cells, Pt.slots] at X' e1 e2 h1 h2 h3 st
    subst h1; subst h2; subst h3
    exact Or.inl ⟨v, (T.setVm vm₁).calling g' mk As.toArray, t, U', L, hT, X', hL, e1, e2, hq, st⟩
  · dsimp only [Pt.U, Pt.locs, Pt.cells, Pt.slots] at X' e1 e2 h1 h2 h3 st hcl
    subst h1; subst h2; subst h3
    exact Or.inr ⟨q, (T.setVm vm₁).calling g' mk As.toArray, t, U', L, E, ce, hT, X', hL, e1, e2, hq, hce, hcv, vx_cls hW₁ hcl, st⟩
end
end VXH
theorem vx_ofWH {l : Launch} {y : MethodName} {ws ws' : List Cond} {rm : Room} {Pc : Array Value → State → Prop} {Qc : Array Value → State → Outcome → State → Prop} {XC : String → State → State → Prop} {mc ms : Nat} {free : Addr → Prop} {cc : ByteArray} {maxL : Nat} {ret : Option FieldType} {hh : List (Nat × Nat × Nat × Nat)}
    (hy : plainName y.cls = true) (hw : ws = Cond.codeWith y cc maxL ret hh :: ws')
    (body : ∀ p e s m args below meth c s₁, BodyLoose p l y (headSpec ws rm) cc maxL ret e s m args below meth c s₁ → c.maxLocals = maxL → Pc args s →
      W p l e (headSpec ws rm).room s m args below meth c s.heap [] 0 0 (vx_MQ below Qc XC args s mc ms free) (entryFrame m args maxL)) : vx_Met l y ws rm Pc Qc XC mc ms free := by
  refine MetFree.of_bodyS (code := cc) (maxLocals := maxL) (ret := ret) hy ?_ ?_
  · intro args s m h hn
    obtain ⟨m9, meth, c, hn9, h1, h2, h3, h4, -, h5, h6, -⟩ := Cond.codeWith_spec (atoms_spec (ws := ws) h _ (by rw [hw]; exact List.mem_cons_self))
    cases hn.symm.trans hn9
    exact ⟨meth, c, h1, h2, h3, h4, h5, h6⟩
  · intro p e s m args below meth c s₁ B hml hP _
    have hh0 : s₁.heap = s.heap := by rw [B.state]; rfl
    obtain ⟨t, a1, o, b1, b2, b3⟩ := body p e s m args below meth c s₁ B hml hP s₁ hh0 (Stand.of_body B)
    exact ⟨t, o, a1, b1, b2, b3⟩
/-! ===== END ===== -/
end
section
/-! ===== BEGIN printed: names, fields, word lists, decode rows ===== -/
def RX0 : String := "Usewise$Lease"
def TX0 : u_T := fun k => match k with
  | 0 => ("Usewise$Lease", "rate", "I", true)
  | 1 => ("Usewise$Lease", "life", "I", true)
  | 2 => ("Usewise$Lease", "payments", "[I", true)
  | 3 => ("Usewise$Lease", "debts", "[I", true)
  | 4 => ("Usewise$Lease", "term", "I", false)
  | 5 => ("Usewise$Lease", "past", "I", false)
  | 6 => ("Usewise$Lease", "right", "J", false)
  | 7 => ("Usewise$Lease", "interest", "J", false)
  | 8 => ("Usewise$Lease", "paid", "J", false)
  | 9 => ("Usewise$Lease", "written", "J", false)
  | _ => ("Usewise$Lease", "gains", "J", false)
def tyX0 : Nat → FieldType := fun k => match k with
  | 0 => .int
  | 1 => .int
  | 2 => .array .int
  | 3 => .array .int
  | 4 => .int
  | 5 => .int
  | 6 => .long
  | 7 => .long
  | 8 => .long
  | 9 => .long
  | _ => .long
abbrev wsX00 : List Cond := u_ws RX0 TX0 11
theorem nmX0 : ∀ a, a < 11 → ∀ b, b < 11 → a ≠ b → (TX0 a).2.1 ≠ (TX0 b).2.1 := by decide +kernel
theorem tyX0_ok : ∀ k, k < 11 → parseFieldDescriptor (TX0 k).2.2.1 = some (tyX0 k) := by decide +kernel
abbrev cX0_init : ByteArray := prog_2_method_1_code
def yX0_init : MethodName := ⟨RX0, "<init>", "(IIIIIII)V"⟩
abbrev cX0_at : ByteArray := prog_2_method_2_code
def yX0_at : MethodName := ⟨RX0, "at", "([II)I"⟩
abbrev cX0_put : ByteArray := prog_2_method_3_code
def yX0_put : MethodName := ⟨RX0, "put", "([III)V"⟩
abbrev cX0_monthsLeft : ByteArray := prog_2_method_4_code
def yX0_monthsLeft : MethodName := ⟨RX0, "monthsLeft", "()I"⟩
abbrev cX0_debtNow : ByteArray := prog_2_method_5_code
def yX0_debtNow : MethodName := ⟨RX0, "debtNow", "()I"⟩
abbrev cX0_hasRoomFor : ByteArray := prog_2_method_7_code
def yX0_hasRoomFor : MethodName := ⟨RX0, "hasRoomFor", "(I)Z"⟩
abbrev cX0_worthAt : ByteArray := prog_2_method_8_code
def yX0_worthAt : MethodName := ⟨RX0, "worthAt", "(I)J"⟩
abbrev cX0_worthBefore : ByteArray := prog_2_method_9_code
def yX0_worthBefore : MethodName := ⟨RX0, "worthBefore", "(JI)J"⟩
abbrev cX0_layDebts : ByteArray := prog_2_method_10_code
def yX0_layDebts : MethodName := ⟨RX0, "layDebts", "()V"⟩
abbrev cX0_endsWithin : ByteArray := prog_2_method_11_code
def yX0_endsWithin : MethodName := ⟨RX0, "endsWithin", "(I)Z"⟩
abbrev cX0_passOneMonth : ByteArray := prog_2_method_12_code
def yX0_passOneMonth : MethodName := ⟨RX0, "passOneMonth", "()V"⟩
abbrev cX0_wouldPassTheMost : ByteArray := prog_2_method_13_code
def yX0_wouldPassTheMost : MethodName := ⟨RX0, "wouldPassTheMost", "(I)Z"⟩
abbrev cX0_reviewPayments : ByteArray := prog_2_method_14_code
def yX0_reviewPayments : MethodName := ⟨RX0, "reviewPayments", "(I)V"⟩
abbrev cX0_putBehind : ByteArray := prog_2_method_15_code
def yX0_putBehind : MethodName := ⟨RX0, "putBehind", "(II)V"⟩
abbrev cX0_takeOffTheEnd : ByteArray := prog_2_method_16_code
def yX0_takeOffTheEnd : MethodName := ⟨RX0, "takeOffTheEnd", "(I)I"⟩
abbrev cX0_keepPart : ByteArray := prog_2_method_17_code
def yX0_keepPart : MethodName := ⟨RX0, "keepPart", "(I)I"⟩
abbrev cX0_scalePayments : ByteArray := prog_2_method_18_code
def yX0_scalePayments : MethodName := ⟨RX0, "scalePayments", "(I)V"⟩
abbrev cX0_percentOf : ByteArray := prog_2_method_19_code
def yX0_percentOf : MethodName := ⟨RX0, "percentOf", "(JI)J"⟩
abbrev cX0_followDebt : ByteArray := prog_2_method_20_code
def yX0_followDebt : MethodName := ⟨RX0, "followDebt", "()V"⟩
abbrev cX0_giveUp : ByteArray := prog_2_method_21_code
def yX0_giveUp : MethodName := ⟨RX0, "giveUp", "(J)I"⟩
def RX1 : String := "Usewise"
def TX1 : u_T := fun k => match k with
  | 0 => ("Usewise", "leases", "[LUsewise$Lease;", true)
  | _ => ("Usewise", "count", "I", false)
def tyX1 : Nat → FieldType := fun k => match k with
  | 0 => .array (.object "Usewise$Lease")
  | _ => .int
abbrev wsX10 : List Cond := u_ws RX1 TX1 2
theorem nmX1 : ∀ a, a < 2 → ∀ b, b < 2 → a ≠ b → (TX1 a).2.1 ≠ (TX1 b).2.1 := by decide +kernel
theorem tyX1_ok : ∀ k, k < 2 → parseFieldDescriptor (TX1 k).2.2.1 = some (tyX1 k) := by decide +kernel
abbrev cX1_init : ByteArray := prog_1_method_1_code
def yX1_init : MethodName := ⟨RX1, "<init>", "()V"⟩
abbrev cX1_add : ByteArray := prog_1_method_2_code
def yX1_add : MethodName := ⟨RX1, "add", "(IIIIIII)I"⟩
abbrev cX1_pass : ByteArray := prog_1_method_3_code
def yX1_pass : MethodName := ⟨RX1, "pass", "(I)I"⟩
abbrev cX1_review : ByteArray := prog_1_method_4_code
def yX1_review : MethodName := ⟨RX1, "review", "(II)I"⟩
abbrev cX1_lengthen : ByteArray := prog_1_method_5_code
def yX1_lengthen : MethodName := ⟨RX1, "lengthen", "(III)I"⟩
abbrev cX1_shorten : ByteArray := prog_1_method_6_code
def yX1_shorten : MethodName := ⟨RX1, "shorten", "(II)I"⟩
abbrev cX1_cut : ByteArray := prog_1_method_7_code
def yX1_cut : MethodName := ⟨RX1, "cut", "(II)I"⟩
abbrev cX1_toCome : ByteArray := prog_1_method_8_code
def yX1_toCome : MethodName := ⟨RX1, "toCome", "(I)I"⟩
abbrev cX1_debt : ByteArray := prog_1_method_10_code
def yX1_debt : MethodName := ⟨RX1, "debt", "(I)I"⟩
abbrev cX1_debtByWorth : ByteArray := prog_1_method_11_code
def yX1_debtByWorth : MethodName := ⟨RX1, "debtByWorth", "(I)I"⟩
abbrev cX1_right : ByteArray := prog_1_method_12_code
def yX1_right : MethodName := ⟨RX1, "right", "(I)I"⟩
abbrev cX1_interest : ByteArray := prog_1_method_13_code
def yX1_interest : MethodName := ⟨RX1, "interest", "(I)I"⟩
abbrev cX1_written : ByteArray := prog_1_method_14_code
def yX1_written : MethodName := ⟨RX1, "written", "(I)I"⟩
abbrev cX1_paid : ByteArray := prog_1_method_15_code
def yX1_paid : MethodName := ⟨RX1, "paid", "(I)I"⟩
abbrev cX1_gains : ByteArray := prog_1_method_16_code
def yX1_gains : MethodName := ⟨RX1, "gains", "(I)I"⟩
abbrev cX1_mustBeWithin : ByteArray := prog_1_method_19_code
def yX1_mustBeWithin : MethodName := ⟨RX1, "mustBeWithin", "(III)V"⟩
abbrev cX1_mustGoOn : ByteArray := prog_1_method_20_code
def yX1_mustGoOn : MethodName := ⟨RX1, "mustGoOn", "(LUsewise$Lease;)V"⟩
abbrev cX1_leaseOf : ByteArray := prog_1_method_21_code
def yX1_leaseOf : MethodName := ⟨RX1, "leaseOf", "(I)LUsewise$Lease;"⟩
def RX2 : String := "UsewiseModel"
def TX2 : u_T := fun k => match k with
  | _ => ("", "", "", false)
def tyX2 : Nat → FieldType := fun k => match k with
  | _ => .int
abbrev wsX20 : List Cond := u_ws RX2 TX2 0
theorem nmX2 : ∀ a, a < 0 → ∀ b, b < 0 → a ≠ b → (TX2 a).2.1 ≠ (TX2 b).2.1 := by decide +kernel
theorem tyX2_ok : ∀ k, k < 0 → parseFieldDescriptor (TX2 k).2.2.1 = some (tyX2 k) := by decide +kernel
def RJ9 : String := "java/lang/Math"
def TJ9 : u_T := fun k => match k with
  | _ => ("", "", "", false)
def tyJ9 : Nat → FieldType := fun k => match k with
  | _ => .int
abbrev wsJ90 : List Cond := u_ws RJ9 TJ9 0
theorem nmJ9 : ∀ a, a < 0 → ∀ b, b < 0 → a ≠ b → (TJ9 a).2.1 ≠ (TJ9 b).2.1 := by decide +kernel
theorem tyJ9_ok : ∀ k, k < 0 → parseFieldDescriptor (TJ9 k).2.2.1 = some (tyJ9 k) := by decide +kernel
abbrev cJ9_max_7cf53 : ByteArray := prog_9_method_65_code
def yJ9_max_7cf53 : MethodName := ⟨RJ9, "max", "(II)I"⟩
abbrev cJ9_min_7cf53 : ByteArray := prog_9_method_69_code
def yJ9_min_7cf53 : MethodName := ⟨RJ9, "min", "(II)I"⟩
def RJ0 : String := "java/lang/String"
def TJ0 : u_T := fun k => match k with
  | _ => ("", "", "", false)
def tyJ0 : Nat → FieldType := fun k => match k with
  | _ => .int
abbrev wsJ00 : List Cond := u_ws RJ0 TJ0 0
theorem nmJ0 : ∀ a, a < 0 → ∀ b, b < 0 → a ≠ b → (TJ0 a).2.1 ≠ (TJ0 b).2.1 := by decide +kernel
theorem tyJ0_ok : ∀ k, k < 0 → parseFieldDescriptor (TJ0 k).2.2.1 = some (tyJ0 k) := by decide +kernel
def RL : String := "UsewiseLaw"
abbrev cL_cell : ByteArray := method_2_code
def yL_cell : MethodName := ⟨RL, "cell", "([II)I"⟩
abbrev cL_low : ByteArray := method_3_code
def yL_low : MethodName := ⟨RL, "low", "(II)I"⟩
abbrev cL_adds : ByteArray := method_4_code
def yL_adds : MethodName := ⟨RL, "adds", "(LUsewise;II)Z"⟩
abbrev cL_law : ByteArray := code
def yL_law : MethodName := ⟨RL, "law", "([I)Z"⟩
def wsX0_put : List Cond := .code yX0_put cX0_put 3 none :: ([])
def wsX0_at : List Cond := .code yX0_at cX0_at 2 (some .int) :: ([])
def wsX0_worthBefore : List Cond := .code yX0_worthBefore cX0_worthBefore 5 (some .long) :: ([.constantLong RX0 63 (1000000)])
def wsX0_layDebts : List Cond := .code yX0_layDebts cX0_layDebts 4 none :: ([.fieldLink RX0 34 "Usewise$Lease" "debts" "[I", .fieldLink RX0 27 "Usewise$Lease" "term" "I", .fieldLink RX0 52 "Usewise$Lease" "past" "I", .fieldLink RX0 30 "Usewise$Lease" "payments" "[I", .fieldLink RX0 9 "Usewise$Lease" "rate" "I", .methodLink RX0 37 yX0_put, .static yX0_put, .initialized RX0, .code yX0_put cX0_put 3 none, .methodLink RX0 55 yX0_at, .static yX0_at, .code yX0_at cX0_at 2 (some .int), .methodLink RX0 59 yX0_worthBefore, .static yX0_worthBefore, .code yX0_worthBefore cX0_worthBefore 5 (some .long), .constantLong RX0 63 (1000000)] ++ wsX00)
def wsX0_debtNow : List Cond := .code yX0_debtNow cX0_debtNow 1 (some .int) :: ([.fieldLink RX0 34 "Usewise$Lease" "debts" "[I", .fieldLink RX0 52 "Usewise$Lease" "past" "I", .methodLink RX0 55 yX0_at, .static yX0_at, .initialized RX0, .code yX0_at cX0_at 2 (some .int)] ++ wsX00)
def wsX0_init_r1 : List Cond := [Cond.methodLink RX0 3 objectInit, Cond.instanceMethod objectInit, Cond.code objectInit ⟨#[0xb1]⟩ 1 none, Cond.fieldLink RX0 9 "Usewise$Lease" "rate" "I", Cond.fieldLink RX0 15 "Usewise$Lease" "life" "I", Cond.methodLink RX0 18 Lib.Math.min.name, Cond.static Lib.Math.min.name, Cond.initialized "java/lang/Math", Cond.code Lib.Math.min.name Lib.Math.min.code 2 (some .int), Cond.methodLink RX0 24 Lib.Math.max.name, Cond.static Lib.Math.max.name, Cond.code Lib.Math.max.name Lib.Math.max.code 2 (some .int), Cond.fieldLink RX0 27 "Usewise$Lease" "term" "I", Cond.arrayClass .int, Cond.fieldLink RX0 30 "Usewise$Lease" "payments" "[I", Cond.fieldLink RX0 34 "Usewise$Lease" "debts" "[I", Cond.fieldLink RX0 48 "Usewise$Lease" "right" "J", Cond.methodLink RX0 37 yX0_put, Cond.static yX0_put, Cond.initialized RX0, Cond.code yX0_put cX0_put 3 none, Cond.methodLink RX0 41 yX0_layDebts, Cond.instanceMethod yX0_layDebts, Cond.selects RX0 yX0_layDebts yX0_layDebts]
def wsX0_init_r2 : List Cond := [Cond.code yX0_layDebts cX0_layDebts 4 none, Cond.fieldLink RX0 52 "Usewise$Lease" "past" "I", Cond.methodLink RX0 55 yX0_at, Cond.static yX0_at, Cond.code yX0_at cX0_at 2 (some .int), Cond.methodLink RX0 59 yX0_worthBefore, Cond.static yX0_worthBefore, Cond.code yX0_worthBefore cX0_worthBefore 5 (some .long), Cond.constantLong RX0 63 (1000000), Cond.methodLink RX0 44 yX0_debtNow, Cond.instanceMethod yX0_debtNow, Cond.selects RX0 yX0_debtNow yX0_debtNow, Cond.code yX0_debtNow cX0_debtNow 1 (some .int)]
def wsX0_init : List Cond := .code yX0_init cX0_init 9 none :: ((wsX0_init_r1 ++ wsX0_init_r2) ++ wsX00)
def wsX0_monthsLeft : List Cond := .code yX0_monthsLeft cX0_monthsLeft 1 (some .int) :: ([.fieldLink RX0 27 "Usewise$Lease" "term" "I", .fieldLink RX0 52 "Usewise$Lease" "past" "I"] ++ wsX00)
def wsX0_hasRoomFor : List Cond := .code yX0_hasRoomFor cX0_hasRoomFor 2 (some .boolean) :: ([.fieldLink RX0 27 "Usewise$Lease" "term" "I"] ++ wsX00)
def wsX0_worthAt : List Cond := .code yX0_worthAt cX0_worthAt 5 (some .long) :: ([.fieldLink RX0 27 "Usewise$Lease" "term" "I", .fieldLink RX0 52 "Usewise$Lease" "past" "I", .fieldLink RX0 30 "Usewise$Lease" "payments" "[I", .methodLink RX0 55 yX0_at, .static yX0_at, .initialized RX0, .code yX0_at cX0_at 2 (some .int), .methodLink RX0 59 yX0_worthBefore, .static yX0_worthBefore, .code yX0_worthBefore cX0_worthBefore 5 (some .long), .constantLong RX0 63 (1000000)] ++ wsX00)
def wsX0_passOneMonth : List Cond := .code yX0_passOneMonth cX0_passOneMonth 5 none :: ([.fieldLink RX0 30 "Usewise$Lease" "payments" "[I", .fieldLink RX0 52 "Usewise$Lease" "past" "I", .fieldLink RX0 71 "Usewise$Lease" "interest" "J", .fieldLink RX0 34 "Usewise$Lease" "debts" "[I", .fieldLink RX0 74 "Usewise$Lease" "paid" "J", .fieldLink RX0 27 "Usewise$Lease" "term" "I", .fieldLink RX0 15 "Usewise$Lease" "life" "I", .methodLink RX0 18 Lib.Math.min.name, .static Lib.Math.min.name, .initialized "java/lang/Math", .code Lib.Math.min.name Lib.Math.min.code 2 (some .int), .fieldLink RX0 48 "Usewise$Lease" "right" "J", .fieldLink RX0 77 "Usewise$Lease" "written" "J", .methodLink RX0 55 yX0_at, .static yX0_at, .initialized RX0, .code yX0_at cX0_at 2 (some .int)] ++ wsX00)
def wsX0_endsWithin_r1 : List Cond := [Cond.methodLink RX0 18 Lib.Math.min.name, Cond.static Lib.Math.min.name, Cond.initialized "java/lang/Math", Cond.code Lib.Math.min.name Lib.Math.min.code 2 (some .int), Cond.methodLink RX0 65 yX0_monthsLeft, Cond.instanceMethod yX0_monthsLeft, Cond.selects RX0 yX0_monthsLeft yX0_monthsLeft, Cond.initialized RX0, Cond.code yX0_monthsLeft cX0_monthsLeft 1 (some .int), Cond.fieldLink RX0 27 "Usewise$Lease" "term" "I", Cond.fieldLink RX0 52 "Usewise$Lease" "past" "I", Cond.methodLink RX0 68 yX0_passOneMonth, Cond.instanceMethod yX0_passOneMonth, Cond.selects RX0 yX0_passOneMonth yX0_passOneMonth, Cond.code yX0_passOneMonth cX0_passOneMonth 5 none, Cond.fieldLink RX0 30 "Usewise$Lease" "payments" "[I", Cond.fieldLink RX0 71 "Usewise$Lease" "interest" "J", Cond.fieldLink RX0 34 "Usewise$Lease" "debts" "[I", Cond.fieldLink RX0 74 "Usewise$Lease" "paid" "J", Cond.fieldLink RX0 15 "Usewise$Lease" "life" "I", Cond.fieldLink RX0 48 "Usewise$Lease" "right" "J", Cond.fieldLink RX0 77 "Usewise$Lease" "written" "J", Cond.methodLink RX0 55 yX0_at, Cond.static yX0_at]
def wsX0_endsWithin_r2 : List Cond := [Cond.code yX0_at cX0_at 2 (some .int)]
def wsX0_endsWithin : List Cond := .code yX0_endsWithin cX0_endsWithin 4 (some .boolean) :: ((wsX0_endsWithin_r1 ++ wsX0_endsWithin_r2) ++ wsX00)
def wsX0_percentOf : List Cond := .code yX0_percentOf cX0_percentOf 3 (some .long) :: ([.constantLong RX0 94 (100)])
def wsX0_wouldPassTheMost : List Cond := .code yX0_wouldPassTheMost cX0_wouldPassTheMost 3 (some .boolean) :: ([.fieldLink RX0 52 "Usewise$Lease" "past" "I", .fieldLink RX0 27 "Usewise$Lease" "term" "I", .fieldLink RX0 30 "Usewise$Lease" "payments" "[I", .constantLong RX0 63 (1000000), .methodLink RX0 55 yX0_at, .static yX0_at, .initialized RX0, .code yX0_at cX0_at 2 (some .int), .methodLink RX0 80 yX0_percentOf, .static yX0_percentOf, .code yX0_percentOf cX0_percentOf 3 (some .long), .constantLong RX0 94 (100)] ++ wsX00)
def wsX0_scalePayments : List Cond := .code yX0_scalePayments cX0_scalePayments 3 none :: ([.fieldLink RX0 52 "Usewise$Lease" "past" "I", .fieldLink RX0 27 "Usewise$Lease" "term" "I", .fieldLink RX0 30 "Usewise$Lease" "payments" "[I", .methodLink RX0 55 yX0_at, .static yX0_at, .initialized RX0, .code yX0_at cX0_at 2 (some .int), .methodLink RX0 80 yX0_percentOf, .static yX0_percentOf, .code yX0_percentOf cX0_percentOf 3 (some .long), .constantLong RX0 94 (100), .methodLink RX0 37 yX0_put, .static yX0_put, .code yX0_put cX0_put 3 none] ++ wsX00)
def wsX0_followDebt_r1 : List Cond := [Cond.fieldLink RX0 48 "Usewise$Lease" "right" "J", Cond.fieldLink RX0 96 "Usewise$Lease" "gains" "J", Cond.methodLink RX0 44 yX0_debtNow, Cond.instanceMethod yX0_debtNow, Cond.selects RX0 yX0_debtNow yX0_debtNow, Cond.initialized RX0, Cond.code yX0_debtNow cX0_debtNow 1 (some .int), Cond.fieldLink RX0 34 "Usewise$Lease" "debts" "[I", Cond.fieldLink RX0 52 "Usewise$Lease" "past" "I", Cond.methodLink RX0 55 yX0_at, Cond.static yX0_at, Cond.code yX0_at cX0_at 2 (some .int), Cond.methodLink RX0 41 yX0_layDebts, Cond.instanceMethod yX0_layDebts, Cond.selects RX0 yX0_layDebts yX0_layDebts, Cond.code yX0_layDebts cX0_layDebts 4 none, Cond.fieldLink RX0 27 "Usewise$Lease" "term" "I", Cond.fieldLink RX0 30 "Usewise$Lease" "payments" "[I", Cond.fieldLink RX0 9 "Usewise$Lease" "rate" "I", Cond.methodLink RX0 37 yX0_put, Cond.static yX0_put, Cond.code yX0_put cX0_put 3 none, Cond.methodLink RX0 59 yX0_worthBefore, Cond.static yX0_worthBefore]
def wsX0_followDebt_r2 : List Cond := [Cond.code yX0_worthBefore cX0_worthBefore 5 (some .long), Cond.constantLong RX0 63 (1000000)]
def wsX0_followDebt : List Cond := .code yX0_followDebt cX0_followDebt 3 none :: ((wsX0_followDebt_r1 ++ wsX0_followDebt_r2) ++ wsX00)
def wsX0_reviewPayments_r1 : List Cond := [Cond.methodLink RX0 83 yX0_scalePayments, Cond.instanceMethod yX0_scalePayments, Cond.selects RX0 yX0_scalePayments yX0_scalePayments, Cond.initialized RX0, Cond.code yX0_scalePayments cX0_scalePayments 3 none, Cond.fieldLink RX0 52 "Usewise$Lease" "past" "I", Cond.fieldLink RX0 27 "Usewise$Lease" "term" "I", Cond.fieldLink RX0 30 "Usewise$Lease" "payments" "[I", Cond.methodLink RX0 55 yX0_at, Cond.static yX0_at, Cond.code yX0_at cX0_at 2 (some .int), Cond.methodLink RX0 80 yX0_percentOf, Cond.static yX0_percentOf, Cond.code yX0_percentOf cX0_percentOf 3 (some .long), Cond.constantLong RX0 94 (100), Cond.methodLink RX0 37 yX0_put, Cond.static yX0_put, Cond.code yX0_put cX0_put 3 none, Cond.methodLink RX0 87 yX0_followDebt, Cond.instanceMethod yX0_followDebt, Cond.selects RX0 yX0_followDebt yX0_followDebt, Cond.code yX0_followDebt cX0_followDebt 3 none, Cond.fieldLink RX0 48 "Usewise$Lease" "right" "J", Cond.fieldLink RX0 96 "Usewise$Lease" "gains" "J"]
def wsX0_reviewPayments_r2 : List Cond := [Cond.methodLink RX0 44 yX0_debtNow, Cond.instanceMethod yX0_debtNow, Cond.selects RX0 yX0_debtNow yX0_debtNow, Cond.code yX0_debtNow cX0_debtNow 1 (some .int), Cond.fieldLink RX0 34 "Usewise$Lease" "debts" "[I", Cond.methodLink RX0 41 yX0_layDebts, Cond.instanceMethod yX0_layDebts, Cond.selects RX0 yX0_layDebts yX0_layDebts, Cond.code yX0_layDebts cX0_layDebts 4 none, Cond.fieldLink RX0 9 "Usewise$Lease" "rate" "I", Cond.methodLink RX0 59 yX0_worthBefore, Cond.static yX0_worthBefore, Cond.code yX0_worthBefore cX0_worthBefore 5 (some .long), Cond.constantLong RX0 63 (1000000)]
def wsX0_reviewPayments : List Cond := .code yX0_reviewPayments cX0_reviewPayments 2 none :: ((wsX0_reviewPayments_r1 ++ wsX0_reviewPayments_r2) ++ wsX00)
def wsX0_putBehind_r1 : List Cond := [Cond.fieldLink RX0 27 "Usewise$Lease" "term" "I", Cond.methodLink RX0 18 Lib.Math.min.name, Cond.static Lib.Math.min.name, Cond.initialized "java/lang/Math", Cond.code Lib.Math.min.name Lib.Math.min.code 2 (some .int), Cond.fieldLink RX0 30 "Usewise$Lease" "payments" "[I", Cond.methodLink RX0 37 yX0_put, Cond.static yX0_put, Cond.initialized RX0, Cond.code yX0_put cX0_put 3 none, Cond.methodLink RX0 87 yX0_followDebt, Cond.instanceMethod yX0_followDebt, Cond.selects RX0 yX0_followDebt yX0_followDebt, Cond.code yX0_followDebt cX0_followDebt 3 none, Cond.fieldLink RX0 48 "Usewise$Lease" "right" "J", Cond.fieldLink RX0 96 "Usewise$Lease" "gains" "J", Cond.methodLink RX0 44 yX0_debtNow, Cond.instanceMethod yX0_debtNow, Cond.selects RX0 yX0_debtNow yX0_debtNow, Cond.code yX0_debtNow cX0_debtNow 1 (some .int), Cond.fieldLink RX0 34 "Usewise$Lease" "debts" "[I", Cond.fieldLink RX0 52 "Usewise$Lease" "past" "I", Cond.methodLink RX0 55 yX0_at, Cond.static yX0_at]
def wsX0_putBehind_r2 : List Cond := [Cond.code yX0_at cX0_at 2 (some .int), Cond.methodLink RX0 41 yX0_layDebts, Cond.instanceMethod yX0_layDebts, Cond.selects RX0 yX0_layDebts yX0_layDebts, Cond.code yX0_layDebts cX0_layDebts 4 none, Cond.fieldLink RX0 9 "Usewise$Lease" "rate" "I", Cond.methodLink RX0 59 yX0_worthBefore, Cond.static yX0_worthBefore, Cond.code yX0_worthBefore cX0_worthBefore 5 (some .long), Cond.constantLong RX0 63 (1000000)]
def wsX0_putBehind : List Cond := .code yX0_putBehind cX0_putBehind 5 none :: ((wsX0_putBehind_r1 ++ wsX0_putBehind_r2) ++ wsX00)
def wsX0_giveUp_r1 : List Cond := [Cond.fieldLink RX0 48 "Usewise$Lease" "right" "J", Cond.fieldLink RX0 96 "Usewise$Lease" "gains" "J", Cond.methodLink RX0 44 yX0_debtNow, Cond.instanceMethod yX0_debtNow, Cond.selects RX0 yX0_debtNow yX0_debtNow, Cond.initialized RX0, Cond.code yX0_debtNow cX0_debtNow 1 (some .int), Cond.fieldLink RX0 34 "Usewise$Lease" "debts" "[I", Cond.fieldLink RX0 52 "Usewise$Lease" "past" "I", Cond.methodLink RX0 55 yX0_at, Cond.static yX0_at, Cond.code yX0_at cX0_at 2 (some .int), Cond.methodLink RX0 41 yX0_layDebts, Cond.instanceMethod yX0_layDebts, Cond.selects RX0 yX0_layDebts yX0_layDebts, Cond.code yX0_layDebts cX0_layDebts 4 none, Cond.fieldLink RX0 27 "Usewise$Lease" "term" "I", Cond.fieldLink RX0 30 "Usewise$Lease" "payments" "[I", Cond.fieldLink RX0 9 "Usewise$Lease" "rate" "I", Cond.methodLink RX0 37 yX0_put, Cond.static yX0_put, Cond.code yX0_put cX0_put 3 none, Cond.methodLink RX0 59 yX0_worthBefore, Cond.static yX0_worthBefore]
def wsX0_giveUp_r2 : List Cond := [Cond.code yX0_worthBefore cX0_worthBefore 5 (some .long), Cond.constantLong RX0 63 (1000000)]
def wsX0_giveUp : List Cond := .code yX0_giveUp cX0_giveUp 7 (some .int) :: ((wsX0_giveUp_r1 ++ wsX0_giveUp_r2) ++ wsX00)
def wsX0_takeOffTheEnd_r1 : List Cond := [Cond.fieldLink RX0 27 "Usewise$Lease" "term" "I", Cond.fieldLink RX0 48 "Usewise$Lease" "right" "J", Cond.methodLink RX0 65 yX0_monthsLeft, Cond.instanceMethod yX0_monthsLeft, Cond.selects RX0 yX0_monthsLeft yX0_monthsLeft, Cond.initialized RX0, Cond.code yX0_monthsLeft cX0_monthsLeft 1 (some .int), Cond.fieldLink RX0 52 "Usewise$Lease" "past" "I", Cond.methodLink RX0 90 yX0_giveUp, Cond.instanceMethod yX0_giveUp, Cond.selects RX0 yX0_giveUp yX0_giveUp, Cond.code yX0_giveUp cX0_giveUp 7 (some .int), Cond.fieldLink RX0 96 "Usewise$Lease" "gains" "J", Cond.methodLink RX0 44 yX0_debtNow, Cond.instanceMethod yX0_debtNow, Cond.selects RX0 yX0_debtNow yX0_debtNow, Cond.code yX0_debtNow cX0_debtNow 1 (some .int), Cond.fieldLink RX0 34 "Usewise$Lease" "debts" "[I", Cond.methodLink RX0 55 yX0_at, Cond.static yX0_at, Cond.code yX0_at cX0_at 2 (some .int), Cond.methodLink RX0 41 yX0_layDebts, Cond.instanceMethod yX0_layDebts, Cond.selects RX0 yX0_layDebts yX0_layDebts]
def wsX0_takeOffTheEnd_r2 : List Cond := [Cond.code yX0_layDebts cX0_layDebts 4 none, Cond.fieldLink RX0 30 "Usewise$Lease" "payments" "[I", Cond.fieldLink RX0 9 "Usewise$Lease" "rate" "I", Cond.methodLink RX0 37 yX0_put, Cond.static yX0_put, Cond.code yX0_put cX0_put 3 none, Cond.methodLink RX0 59 yX0_worthBefore, Cond.static yX0_worthBefore, Cond.code yX0_worthBefore cX0_worthBefore 5 (some .long), Cond.constantLong RX0 63 (1000000)]
def wsX0_takeOffTheEnd : List Cond := .code yX0_takeOffTheEnd cX0_takeOffTheEnd 3 (some .int) :: ((wsX0_takeOffTheEnd_r1 ++ wsX0_takeOffTheEnd_r2) ++ wsX00)
def wsX0_keepPart_r1 : List Cond := [Cond.fieldLink RX0 48 "Usewise$Lease" "right" "J", Cond.methodLink RX0 83 yX0_scalePayments, Cond.instanceMethod yX0_scalePayments, Cond.selects RX0 yX0_scalePayments yX0_scalePayments, Cond.initialized RX0, Cond.code yX0_scalePayments cX0_scalePayments 3 none, Cond.fieldLink RX0 52 "Usewise$Lease" "past" "I", Cond.fieldLink RX0 27 "Usewise$Lease" "term" "I", Cond.fieldLink RX0 30 "Usewise$Lease" "payments" "[I", Cond.methodLink RX0 55 yX0_at, Cond.static yX0_at, Cond.code yX0_at cX0_at 2 (some .int), Cond.methodLink RX0 80 yX0_percentOf, Cond.static yX0_percentOf, Cond.code yX0_percentOf cX0_percentOf 3 (some .long), Cond.constantLong RX0 94 (100), Cond.methodLink RX0 37 yX0_put, Cond.static yX0_put, Cond.code yX0_put cX0_put 3 none, Cond.methodLink RX0 90 yX0_giveUp, Cond.instanceMethod yX0_giveUp, Cond.selects RX0 yX0_giveUp yX0_giveUp, Cond.code yX0_giveUp cX0_giveUp 7 (some .int), Cond.fieldLink RX0 96 "Usewise$Lease" "gains" "J"]
def wsX0_keepPart_r2 : List Cond := [Cond.methodLink RX0 44 yX0_debtNow, Cond.instanceMethod yX0_debtNow, Cond.selects RX0 yX0_debtNow yX0_debtNow, Cond.code yX0_debtNow cX0_debtNow 1 (some .int), Cond.fieldLink RX0 34 "Usewise$Lease" "debts" "[I", Cond.methodLink RX0 41 yX0_layDebts, Cond.instanceMethod yX0_layDebts, Cond.selects RX0 yX0_layDebts yX0_layDebts, Cond.code yX0_layDebts cX0_layDebts 4 none, Cond.fieldLink RX0 9 "Usewise$Lease" "rate" "I", Cond.methodLink RX0 59 yX0_worthBefore, Cond.static yX0_worthBefore, Cond.code yX0_worthBefore cX0_worthBefore 5 (some .long), Cond.constantLong RX0 63 (1000000)]
def wsX0_keepPart : List Cond := .code yX0_keepPart cX0_keepPart 2 (some .int) :: ((wsX0_keepPart_r1 ++ wsX0_keepPart_r2) ++ wsX00)
def wsX1_init : List Cond := .code yX1_init cX1_init 1 none :: ([.methodLink RX1 1 objectInit, .instanceMethod objectInit, .code objectInit ⟨#[0xb1]⟩ 1 none, .classLink RX1 9 RX0, .fieldLink RX1 11 "Usewise" "leases" "[LUsewise$Lease;", .fieldLink RX1 15 "Usewise" "count" "I"] ++ wsX10)
def wsX1_mustBeWithin : List Cond := .code yX1_mustBeWithin cX1_mustBeWithin 3 none :: ([.classLink RX1 111 "java/lang/IllegalArgumentException", .initialized "java/lang/IllegalArgumentException"] ++ (vx_atS RX1 115 "java/lang/IllegalArgumentException" ["java/lang/RuntimeException", "java/lang/Exception"]).filter goodWord)
def wsX1_add_r1 : List Cond := [Cond.classLink RX1 23 "java/lang/IllegalStateException", Cond.initialized "java/lang/IllegalStateException", Cond.fieldLink RX1 15 "Usewise" "count" "I", Cond.fieldLink RX1 11 "Usewise" "leases" "[LUsewise$Lease;", Cond.classLink RX1 9 RX0, Cond.instantiable RX0 11, Cond.initialized RX0, Cond.methodLink RX1 19 yX1_mustBeWithin, Cond.static yX1_mustBeWithin, Cond.initialized RX1, Cond.code yX1_mustBeWithin cX1_mustBeWithin 3 none, Cond.classLink RX1 111 "java/lang/IllegalArgumentException", Cond.initialized "java/lang/IllegalArgumentException", Cond.methodLink RX1 30 yX0_init, Cond.instanceMethod yX0_init, Cond.code yX0_init cX0_init 9 none, Cond.methodLink RX0 3 objectInit, Cond.instanceMethod objectInit, Cond.code objectInit ⟨#[0xb1]⟩ 1 none, Cond.fieldLink RX0 9 "Usewise$Lease" "rate" "I", Cond.fieldLink RX0 15 "Usewise$Lease" "life" "I", Cond.methodLink RX0 18 Lib.Math.min.name, Cond.static Lib.Math.min.name, Cond.initialized "java/lang/Math"]
def wsX1_add_r2 : List Cond := [Cond.code Lib.Math.min.name Lib.Math.min.code 2 (some .int), Cond.methodLink RX0 24 Lib.Math.max.name, Cond.static Lib.Math.max.name, Cond.code Lib.Math.max.name Lib.Math.max.code 2 (some .int), Cond.fieldLink RX0 27 "Usewise$Lease" "term" "I", Cond.arrayClass .int, Cond.fieldLink RX0 30 "Usewise$Lease" "payments" "[I", Cond.fieldLink RX0 34 "Usewise$Lease" "debts" "[I", Cond.fieldLink RX0 48 "Usewise$Lease" "right" "J", Cond.methodLink RX0 37 yX0_put, Cond.static yX0_put, Cond.code yX0_put cX0_put 3 none, Cond.methodLink RX0 41 yX0_layDebts, Cond.instanceMethod yX0_layDebts, Cond.selects RX0 yX0_layDebts yX0_layDebts, Cond.code yX0_layDebts cX0_layDebts 4 none, Cond.fieldLink RX0 52 "Usewise$Lease" "past" "I", Cond.methodLink RX0 55 yX0_at, Cond.static yX0_at, Cond.code yX0_at cX0_at 2 (some .int), Cond.methodLink RX0 59 yX0_worthBefore, Cond.static yX0_worthBefore, Cond.code yX0_worthBefore cX0_worthBefore 5 (some .long), Cond.constantLong RX0 63 (1000000)]
def wsX1_add_r3 : List Cond := [Cond.methodLink RX0 44 yX0_debtNow, Cond.instanceMethod yX0_debtNow, Cond.selects RX0 yX0_debtNow yX0_debtNow, Cond.code yX0_debtNow cX0_debtNow 1 (some .int)]
def wsX1_add : List Cond := .code yX1_add cX1_add 9 (some .int) :: ((wsX1_add_r1 ++ (wsX1_add_r2 ++ wsX1_add_r3)) ++ wsX10 ++ wsX00 ++ (vx_atS RX1 27 "java/lang/IllegalStateException" ["java/lang/RuntimeException", "java/lang/Exception"]).filter goodWord ++ (vx_atS RX1 115 "java/lang/IllegalArgumentException" ["java/lang/RuntimeException", "java/lang/Exception"]).filter goodWord)
def wsX1_pass_r1 : List Cond := [Cond.fieldLink RX1 11 "Usewise" "leases" "[LUsewise$Lease;", Cond.methodLink RX1 19 yX1_mustBeWithin, Cond.static yX1_mustBeWithin, Cond.initialized RX1, Cond.code yX1_mustBeWithin cX1_mustBeWithin 3 none, Cond.classLink RX1 111 "java/lang/IllegalArgumentException", Cond.initialized "java/lang/IllegalArgumentException", Cond.methodLink RX1 33 yX0_endsWithin, Cond.instanceMethod yX0_endsWithin, Cond.selects RX0 yX0_endsWithin yX0_endsWithin, Cond.initialized RX0, Cond.code yX0_endsWithin cX0_endsWithin 4 (some .boolean), Cond.methodLink RX0 18 Lib.Math.min.name, Cond.static Lib.Math.min.name, Cond.initialized "java/lang/Math", Cond.code Lib.Math.min.name Lib.Math.min.code 2 (some .int), Cond.methodLink RX0 65 yX0_monthsLeft, Cond.instanceMethod yX0_monthsLeft, Cond.selects RX0 yX0_monthsLeft yX0_monthsLeft, Cond.code yX0_monthsLeft cX0_monthsLeft 1 (some .int), Cond.fieldLink RX0 27 "Usewise$Lease" "term" "I", Cond.fieldLink RX0 52 "Usewise$Lease" "past" "I", Cond.methodLink RX0 68 yX0_passOneMonth, Cond.instanceMethod yX0_passOneMonth]
def wsX1_pass_r2 : List Cond := [Cond.selects RX0 yX0_passOneMonth yX0_passOneMonth, Cond.code yX0_passOneMonth cX0_passOneMonth 5 none, Cond.fieldLink RX0 30 "Usewise$Lease" "payments" "[I", Cond.fieldLink RX0 71 "Usewise$Lease" "interest" "J", Cond.fieldLink RX0 34 "Usewise$Lease" "debts" "[I", Cond.fieldLink RX0 74 "Usewise$Lease" "paid" "J", Cond.fieldLink RX0 15 "Usewise$Lease" "life" "I", Cond.fieldLink RX0 48 "Usewise$Lease" "right" "J", Cond.fieldLink RX0 77 "Usewise$Lease" "written" "J", Cond.methodLink RX0 55 yX0_at, Cond.static yX0_at, Cond.code yX0_at cX0_at 2 (some .int)]
def wsX1_pass : List Cond := .code yX1_pass cX1_pass 7 (some .int) :: ((wsX1_pass_r1 ++ wsX1_pass_r2) ++ wsX10 ++ wsX00 ++ (vx_atS RX1 115 "java/lang/IllegalArgumentException" ["java/lang/RuntimeException", "java/lang/Exception"]).filter goodWord)
def wsX1_leaseOf : List Cond := .code yX1_leaseOf cX1_leaseOf 3 (some (.object "Usewise$Lease")) :: ([.classLink RX1 79 "java/lang/IndexOutOfBoundsException", .initialized "java/lang/IndexOutOfBoundsException", .fieldLink RX1 11 "Usewise" "leases" "[LUsewise$Lease;"] ++ wsX10 ++ (vx_atS RX1 83 "java/lang/IndexOutOfBoundsException" ["java/lang/RuntimeException", "java/lang/Exception"]).filter goodWord)
def wsX1_mustGoOn : List Cond := .code yX1_mustGoOn cX1_mustGoOn 1 none :: ([.classLink RX1 23 "java/lang/IllegalStateException", .initialized "java/lang/IllegalStateException", .methodLink RX1 67 yX0_monthsLeft, .instanceMethod yX0_monthsLeft, .selects RX0 yX0_monthsLeft yX0_monthsLeft, .initialized RX0, .code yX0_monthsLeft cX0_monthsLeft 1 (some .int), .fieldLink RX0 27 "Usewise$Lease" "term" "I", .fieldLink RX0 52 "Usewise$Lease" "past" "I"] ++ wsX00 ++ (vx_atS RX1 27 "java/lang/IllegalStateException" ["java/lang/RuntimeException", "java/lang/Exception"]).filter goodWord)
def wsX1_review_r1 : List Cond := [Cond.classLink RX1 23 "java/lang/IllegalStateException", Cond.initialized "java/lang/IllegalStateException", Cond.methodLink RX1 37 yX1_leaseOf, Cond.instanceMethod yX1_leaseOf, Cond.selects RX1 yX1_leaseOf yX1_leaseOf, Cond.initialized RX1, Cond.code yX1_leaseOf cX1_leaseOf 3 (some (.object "Usewise$Lease")), Cond.classLink RX1 79 "java/lang/IndexOutOfBoundsException", Cond.initialized "java/lang/IndexOutOfBoundsException", Cond.fieldLink RX1 11 "Usewise" "leases" "[LUsewise$Lease;", Cond.methodLink RX1 19 yX1_mustBeWithin, Cond.static yX1_mustBeWithin, Cond.code yX1_mustBeWithin cX1_mustBeWithin 3 none, Cond.classLink RX1 111 "java/lang/IllegalArgumentException", Cond.initialized "java/lang/IllegalArgumentException", Cond.methodLink RX1 41 yX1_mustGoOn, Cond.static yX1_mustGoOn, Cond.code yX1_mustGoOn cX1_mustGoOn 1 none, Cond.methodLink RX1 67 yX0_monthsLeft, Cond.instanceMethod yX0_monthsLeft, Cond.selects RX0 yX0_monthsLeft yX0_monthsLeft, Cond.initialized RX0, Cond.code yX0_monthsLeft cX0_monthsLeft 1 (some .int), Cond.fieldLink RX0 27 "Usewise$Lease" "term" "I"]
def wsX1_review_r2 : List Cond := [Cond.fieldLink RX0 52 "Usewise$Lease" "past" "I", Cond.methodLink RX1 45 yX0_wouldPassTheMost, Cond.instanceMethod yX0_wouldPassTheMost, Cond.selects RX0 yX0_wouldPassTheMost yX0_wouldPassTheMost, Cond.code yX0_wouldPassTheMost cX0_wouldPassTheMost 3 (some .boolean), Cond.fieldLink RX0 30 "Usewise$Lease" "payments" "[I", Cond.constantLong RX0 63 (1000000), Cond.methodLink RX0 55 yX0_at, Cond.static yX0_at, Cond.code yX0_at cX0_at 2 (some .int), Cond.methodLink RX0 80 yX0_percentOf, Cond.static yX0_percentOf, Cond.code yX0_percentOf cX0_percentOf 3 (some .long), Cond.constantLong RX0 94 (100), Cond.methodLink RX1 50 yX0_reviewPayments, Cond.instanceMethod yX0_reviewPayments, Cond.selects RX0 yX0_reviewPayments yX0_reviewPayments, Cond.code yX0_reviewPayments cX0_reviewPayments 2 none, Cond.methodLink RX0 83 yX0_scalePayments, Cond.instanceMethod yX0_scalePayments, Cond.selects RX0 yX0_scalePayments yX0_scalePayments, Cond.code yX0_scalePayments cX0_scalePayments 3 none, Cond.methodLink RX0 37 yX0_put, Cond.static yX0_put]
def wsX1_review_r3 : List Cond := [Cond.code yX0_put cX0_put 3 none, Cond.methodLink RX0 87 yX0_followDebt, Cond.instanceMethod yX0_followDebt, Cond.selects RX0 yX0_followDebt yX0_followDebt, Cond.code yX0_followDebt cX0_followDebt 3 none, Cond.fieldLink RX0 48 "Usewise$Lease" "right" "J", Cond.fieldLink RX0 96 "Usewise$Lease" "gains" "J", Cond.methodLink RX0 44 yX0_debtNow, Cond.instanceMethod yX0_debtNow, Cond.selects RX0 yX0_debtNow yX0_debtNow, Cond.code yX0_debtNow cX0_debtNow 1 (some .int), Cond.fieldLink RX0 34 "Usewise$Lease" "debts" "[I", Cond.methodLink RX0 41 yX0_layDebts, Cond.instanceMethod yX0_layDebts, Cond.selects RX0 yX0_layDebts yX0_layDebts, Cond.code yX0_layDebts cX0_layDebts 4 none, Cond.fieldLink RX0 9 "Usewise$Lease" "rate" "I", Cond.methodLink RX0 59 yX0_worthBefore, Cond.static yX0_worthBefore, Cond.code yX0_worthBefore cX0_worthBefore 5 (some .long), Cond.methodLink RX1 54 yX0_debtNow]
def wsX1_review : List Cond := .code yX1_review cX1_review 4 (some .int) :: ((wsX1_review_r1 ++ (wsX1_review_r2 ++ wsX1_review_r3)) ++ wsX10 ++ wsX00 ++ (vx_atS RX1 27 "java/lang/IllegalStateException" ["java/lang/RuntimeException", "java/lang/Exception"]).filter goodWord ++ (vx_atS RX1 83 "java/lang/IndexOutOfBoundsException" ["java/lang/RuntimeException", "java/lang/Exception"]).filter goodWord ++ (vx_atS RX1 115 "java/lang/IllegalArgumentException" ["java/lang/RuntimeException", "java/lang/Exception"]).filter goodWord)
def wsX1_lengthen_r1 : List Cond := [Cond.classLink RX1 23 "java/lang/IllegalStateException", Cond.initialized "java/lang/IllegalStateException", Cond.methodLink RX1 37 yX1_leaseOf, Cond.instanceMethod yX1_leaseOf, Cond.selects RX1 yX1_leaseOf yX1_leaseOf, Cond.initialized RX1, Cond.code yX1_leaseOf cX1_leaseOf 3 (some (.object "Usewise$Lease")), Cond.classLink RX1 79 "java/lang/IndexOutOfBoundsException", Cond.initialized "java/lang/IndexOutOfBoundsException", Cond.fieldLink RX1 11 "Usewise" "leases" "[LUsewise$Lease;", Cond.methodLink RX1 19 yX1_mustBeWithin, Cond.static yX1_mustBeWithin, Cond.code yX1_mustBeWithin cX1_mustBeWithin 3 none, Cond.classLink RX1 111 "java/lang/IllegalArgumentException", Cond.initialized "java/lang/IllegalArgumentException", Cond.methodLink RX1 41 yX1_mustGoOn, Cond.static yX1_mustGoOn, Cond.code yX1_mustGoOn cX1_mustGoOn 1 none, Cond.methodLink RX1 67 yX0_monthsLeft, Cond.instanceMethod yX0_monthsLeft, Cond.selects RX0 yX0_monthsLeft yX0_monthsLeft, Cond.initialized RX0, Cond.code yX0_monthsLeft cX0_monthsLeft 1 (some .int), Cond.fieldLink RX0 27 "Usewise$Lease" "term" "I"]
def wsX1_lengthen_r2 : List Cond := [Cond.fieldLink RX0 52 "Usewise$Lease" "past" "I", Cond.methodLink RX1 58 yX0_hasRoomFor, Cond.instanceMethod yX0_hasRoomFor, Cond.selects RX0 yX0_hasRoomFor yX0_hasRoomFor, Cond.code yX0_hasRoomFor cX0_hasRoomFor 2 (some .boolean), Cond.methodLink RX1 63 yX0_putBehind, Cond.instanceMethod yX0_putBehind, Cond.selects RX0 yX0_putBehind yX0_putBehind, Cond.code yX0_putBehind cX0_putBehind 5 none, Cond.methodLink RX0 18 Lib.Math.min.name, Cond.static Lib.Math.min.name, Cond.initialized "java/lang/Math", Cond.code Lib.Math.min.name Lib.Math.min.code 2 (some .int), Cond.fieldLink RX0 30 "Usewise$Lease" "payments" "[I", Cond.methodLink RX0 37 yX0_put, Cond.static yX0_put, Cond.code yX0_put cX0_put 3 none, Cond.methodLink RX0 87 yX0_followDebt, Cond.instanceMethod yX0_followDebt, Cond.selects RX0 yX0_followDebt yX0_followDebt, Cond.code yX0_followDebt cX0_followDebt 3 none, Cond.fieldLink RX0 48 "Usewise$Lease" "right" "J", Cond.fieldLink RX0 96 "Usewise$Lease" "gains" "J", Cond.methodLink RX0 44 yX0_debtNow]
def wsX1_lengthen_r3 : List Cond := [Cond.instanceMethod yX0_debtNow, Cond.selects RX0 yX0_debtNow yX0_debtNow, Cond.code yX0_debtNow cX0_debtNow 1 (some .int), Cond.fieldLink RX0 34 "Usewise$Lease" "debts" "[I", Cond.methodLink RX0 55 yX0_at, Cond.static yX0_at, Cond.code yX0_at cX0_at 2 (some .int), Cond.methodLink RX0 41 yX0_layDebts, Cond.instanceMethod yX0_layDebts, Cond.selects RX0 yX0_layDebts yX0_layDebts, Cond.code yX0_layDebts cX0_layDebts 4 none, Cond.fieldLink RX0 9 "Usewise$Lease" "rate" "I", Cond.methodLink RX0 59 yX0_worthBefore, Cond.static yX0_worthBefore, Cond.code yX0_worthBefore cX0_worthBefore 5 (some .long), Cond.constantLong RX0 63 (1000000), Cond.methodLink RX1 54 yX0_debtNow]
def wsX1_lengthen : List Cond := .code yX1_lengthen cX1_lengthen 5 (some .int) :: ((wsX1_lengthen_r1 ++ (wsX1_lengthen_r2 ++ wsX1_lengthen_r3)) ++ wsX10 ++ wsX00 ++ (vx_atS RX1 27 "java/lang/IllegalStateException" ["java/lang/RuntimeException", "java/lang/Exception"]).filter goodWord ++ (vx_atS RX1 83 "java/lang/IndexOutOfBoundsException" ["java/lang/RuntimeException", "java/lang/Exception"]).filter goodWord ++ (vx_atS RX1 115 "java/lang/IllegalArgumentException" ["java/lang/RuntimeException", "java/lang/Exception"]).filter goodWord)
def wsX1_shorten_r1 : List Cond := [Cond.classLink RX1 23 "java/lang/IllegalStateException", Cond.initialized "java/lang/IllegalStateException", Cond.methodLink RX1 37 yX1_leaseOf, Cond.instanceMethod yX1_leaseOf, Cond.selects RX1 yX1_leaseOf yX1_leaseOf, Cond.initialized RX1, Cond.code yX1_leaseOf cX1_leaseOf 3 (some (.object "Usewise$Lease")), Cond.classLink RX1 79 "java/lang/IndexOutOfBoundsException", Cond.initialized "java/lang/IndexOutOfBoundsException", Cond.fieldLink RX1 11 "Usewise" "leases" "[LUsewise$Lease;", Cond.methodLink RX1 19 yX1_mustBeWithin, Cond.static yX1_mustBeWithin, Cond.code yX1_mustBeWithin cX1_mustBeWithin 3 none, Cond.classLink RX1 111 "java/lang/IllegalArgumentException", Cond.initialized "java/lang/IllegalArgumentException", Cond.methodLink RX1 67 yX0_monthsLeft, Cond.instanceMethod yX0_monthsLeft, Cond.selects RX0 yX0_monthsLeft yX0_monthsLeft, Cond.initialized RX0, Cond.code yX0_monthsLeft cX0_monthsLeft 1 (some .int), Cond.fieldLink RX0 27 "Usewise$Lease" "term" "I", Cond.fieldLink RX0 52 "Usewise$Lease" "past" "I", Cond.methodLink RX1 72 yX0_takeOffTheEnd, Cond.instanceMethod yX0_takeOffTheEnd]
def wsX1_shorten_r2 : List Cond := [Cond.selects RX0 yX0_takeOffTheEnd yX0_takeOffTheEnd, Cond.code yX0_takeOffTheEnd cX0_takeOffTheEnd 3 (some .int), Cond.fieldLink RX0 48 "Usewise$Lease" "right" "J", Cond.methodLink RX0 65 yX0_monthsLeft, Cond.methodLink RX0 90 yX0_giveUp, Cond.instanceMethod yX0_giveUp, Cond.selects RX0 yX0_giveUp yX0_giveUp, Cond.code yX0_giveUp cX0_giveUp 7 (some .int), Cond.fieldLink RX0 96 "Usewise$Lease" "gains" "J", Cond.methodLink RX0 44 yX0_debtNow, Cond.instanceMethod yX0_debtNow, Cond.selects RX0 yX0_debtNow yX0_debtNow, Cond.code yX0_debtNow cX0_debtNow 1 (some .int), Cond.fieldLink RX0 34 "Usewise$Lease" "debts" "[I", Cond.methodLink RX0 55 yX0_at, Cond.static yX0_at, Cond.code yX0_at cX0_at 2 (some .int), Cond.methodLink RX0 41 yX0_layDebts, Cond.instanceMethod yX0_layDebts, Cond.selects RX0 yX0_layDebts yX0_layDebts, Cond.code yX0_layDebts cX0_layDebts 4 none, Cond.fieldLink RX0 30 "Usewise$Lease" "payments" "[I", Cond.fieldLink RX0 9 "Usewise$Lease" "rate" "I", Cond.methodLink RX0 37 yX0_put]
def wsX1_shorten_r3 : List Cond := [Cond.static yX0_put, Cond.code yX0_put cX0_put 3 none, Cond.methodLink RX0 59 yX0_worthBefore, Cond.static yX0_worthBefore, Cond.code yX0_worthBefore cX0_worthBefore 5 (some .long), Cond.constantLong RX0 63 (1000000)]
def wsX1_shorten : List Cond := .code yX1_shorten cX1_shorten 4 (some .int) :: ((wsX1_shorten_r1 ++ (wsX1_shorten_r2 ++ wsX1_shorten_r3)) ++ wsX10 ++ wsX00 ++ (vx_atS RX1 27 "java/lang/IllegalStateException" ["java/lang/RuntimeException", "java/lang/Exception"]).filter goodWord ++ (vx_atS RX1 83 "java/lang/IndexOutOfBoundsException" ["java/lang/RuntimeException", "java/lang/Exception"]).filter goodWord ++ (vx_atS RX1 115 "java/lang/IllegalArgumentException" ["java/lang/RuntimeException", "java/lang/Exception"]).filter goodWord)
def wsX1_cut_r1 : List Cond := [Cond.methodLink RX1 37 yX1_leaseOf, Cond.instanceMethod yX1_leaseOf, Cond.selects RX1 yX1_leaseOf yX1_leaseOf, Cond.initialized RX1, Cond.code yX1_leaseOf cX1_leaseOf 3 (some (.object "Usewise$Lease")), Cond.classLink RX1 79 "java/lang/IndexOutOfBoundsException", Cond.initialized "java/lang/IndexOutOfBoundsException", Cond.fieldLink RX1 11 "Usewise" "leases" "[LUsewise$Lease;", Cond.methodLink RX1 19 yX1_mustBeWithin, Cond.static yX1_mustBeWithin, Cond.code yX1_mustBeWithin cX1_mustBeWithin 3 none, Cond.classLink RX1 111 "java/lang/IllegalArgumentException", Cond.initialized "java/lang/IllegalArgumentException", Cond.methodLink RX1 41 yX1_mustGoOn, Cond.static yX1_mustGoOn, Cond.code yX1_mustGoOn cX1_mustGoOn 1 none, Cond.classLink RX1 23 "java/lang/IllegalStateException", Cond.initialized "java/lang/IllegalStateException", Cond.methodLink RX1 67 yX0_monthsLeft, Cond.instanceMethod yX0_monthsLeft, Cond.selects RX0 yX0_monthsLeft yX0_monthsLeft, Cond.initialized RX0, Cond.code yX0_monthsLeft cX0_monthsLeft 1 (some .int), Cond.fieldLink RX0 27 "Usewise$Lease" "term" "I"]
def wsX1_cut_r2 : List Cond := [Cond.fieldLink RX0 52 "Usewise$Lease" "past" "I", Cond.methodLink RX1 76 yX0_keepPart, Cond.instanceMethod yX0_keepPart, Cond.selects RX0 yX0_keepPart yX0_keepPart, Cond.code yX0_keepPart cX0_keepPart 2 (some .int), Cond.fieldLink RX0 48 "Usewise$Lease" "right" "J", Cond.methodLink RX0 83 yX0_scalePayments, Cond.instanceMethod yX0_scalePayments, Cond.selects RX0 yX0_scalePayments yX0_scalePayments, Cond.code yX0_scalePayments cX0_scalePayments 3 none, Cond.fieldLink RX0 30 "Usewise$Lease" "payments" "[I", Cond.methodLink RX0 55 yX0_at, Cond.static yX0_at, Cond.code yX0_at cX0_at 2 (some .int), Cond.methodLink RX0 80 yX0_percentOf, Cond.static yX0_percentOf, Cond.code yX0_percentOf cX0_percentOf 3 (some .long), Cond.constantLong RX0 94 (100), Cond.methodLink RX0 37 yX0_put, Cond.static yX0_put, Cond.code yX0_put cX0_put 3 none, Cond.methodLink RX0 90 yX0_giveUp, Cond.instanceMethod yX0_giveUp, Cond.selects RX0 yX0_giveUp yX0_giveUp]
def wsX1_cut_r3 : List Cond := [Cond.code yX0_giveUp cX0_giveUp 7 (some .int), Cond.fieldLink RX0 96 "Usewise$Lease" "gains" "J", Cond.methodLink RX0 44 yX0_debtNow, Cond.instanceMethod yX0_debtNow, Cond.selects RX0 yX0_debtNow yX0_debtNow, Cond.code yX0_debtNow cX0_debtNow 1 (some .int), Cond.fieldLink RX0 34 "Usewise$Lease" "debts" "[I", Cond.methodLink RX0 41 yX0_layDebts, Cond.instanceMethod yX0_layDebts, Cond.selects RX0 yX0_layDebts yX0_layDebts, Cond.code yX0_layDebts cX0_layDebts 4 none, Cond.fieldLink RX0 9 "Usewise$Lease" "rate" "I", Cond.methodLink RX0 59 yX0_worthBefore, Cond.static yX0_worthBefore, Cond.code yX0_worthBefore cX0_worthBefore 5 (some .long), Cond.constantLong RX0 63 (1000000)]
def wsX1_cut : List Cond := .code yX1_cut cX1_cut 4 (some .int) :: ((wsX1_cut_r1 ++ (wsX1_cut_r2 ++ wsX1_cut_r3)) ++ wsX10 ++ wsX00 ++ (vx_atS RX1 83 "java/lang/IndexOutOfBoundsException" ["java/lang/RuntimeException", "java/lang/Exception"]).filter goodWord ++ (vx_atS RX1 115 "java/lang/IllegalArgumentException" ["java/lang/RuntimeException", "java/lang/Exception"]).filter goodWord ++ (vx_atS RX1 27 "java/lang/IllegalStateException" ["java/lang/RuntimeException", "java/lang/Exception"]).filter goodWord)
def wsX1_toCome : List Cond := .code yX1_toCome cX1_toCome 2 (some .int) :: ([.methodLink RX1 37 yX1_leaseOf, .instanceMethod yX1_leaseOf, .selects RX1 yX1_leaseOf yX1_leaseOf, .initialized RX1, .code yX1_leaseOf cX1_leaseOf 3 (some (.object "Usewise$Lease")), .classLink RX1 79 "java/lang/IndexOutOfBoundsException", .initialized "java/lang/IndexOutOfBoundsException", .fieldLink RX1 11 "Usewise" "leases" "[LUsewise$Lease;", .methodLink RX1 67 yX0_monthsLeft, .instanceMethod yX0_monthsLeft, .selects RX0 yX0_monthsLeft yX0_monthsLeft, .initialized RX0, .code yX0_monthsLeft cX0_monthsLeft 1 (some .int), .fieldLink RX0 27 "Usewise$Lease" "term" "I", .fieldLink RX0 52 "Usewise$Lease" "past" "I"] ++ wsX10 ++ wsX00 ++ (vx_atS RX1 83 "java/lang/IndexOutOfBoundsException" ["java/lang/RuntimeException", "java/lang/Exception"]).filter goodWord)
def wsX1_debt : List Cond := .code yX1_debt cX1_debt 2 (some .int) :: ([.methodLink RX1 37 yX1_leaseOf, .instanceMethod yX1_leaseOf, .selects RX1 yX1_leaseOf yX1_leaseOf, .initialized RX1, .code yX1_leaseOf cX1_leaseOf 3 (some (.object "Usewise$Lease")), .classLink RX1 79 "java/lang/IndexOutOfBoundsException", .initialized "java/lang/IndexOutOfBoundsException", .fieldLink RX1 11 "Usewise" "leases" "[LUsewise$Lease;", .methodLink RX1 54 yX0_debtNow, .instanceMethod yX0_debtNow, .selects RX0 yX0_debtNow yX0_debtNow, .initialized RX0, .code yX0_debtNow cX0_debtNow 1 (some .int), .fieldLink RX0 34 "Usewise$Lease" "debts" "[I", .fieldLink RX0 52 "Usewise$Lease" "past" "I", .methodLink RX0 55 yX0_at, .static yX0_at, .code yX0_at cX0_at 2 (some .int)] ++ wsX10 ++ wsX00 ++ (vx_atS RX1 83 "java/lang/IndexOutOfBoundsException" ["java/lang/RuntimeException", "java/lang/Exception"]).filter goodWord)
def wsX1_debtByWorth : List Cond := .code yX1_debtByWorth cX1_debtByWorth 3 (some .int) :: ([.methodLink RX1 37 yX1_leaseOf, .instanceMethod yX1_leaseOf, .selects RX1 yX1_leaseOf yX1_leaseOf, .initialized RX1, .code yX1_leaseOf cX1_leaseOf 3 (some (.object "Usewise$Lease")), .classLink RX1 79 "java/lang/IndexOutOfBoundsException", .initialized "java/lang/IndexOutOfBoundsException", .fieldLink RX1 11 "Usewise" "leases" "[LUsewise$Lease;", .methodLink RX1 90 yX0_worthAt, .instanceMethod yX0_worthAt, .selects RX0 yX0_worthAt yX0_worthAt, .initialized RX0, .code yX0_worthAt cX0_worthAt 5 (some .long), .fieldLink RX0 27 "Usewise$Lease" "term" "I", .fieldLink RX0 52 "Usewise$Lease" "past" "I", .fieldLink RX0 30 "Usewise$Lease" "payments" "[I", .methodLink RX0 55 yX0_at, .static yX0_at, .code yX0_at cX0_at 2 (some .int), .methodLink RX0 59 yX0_worthBefore, .static yX0_worthBefore, .code yX0_worthBefore cX0_worthBefore 5 (some .long), .constantLong RX0 63 (1000000)] ++ wsX00 ++ wsX10 ++ (vx_atS RX1 83 "java/lang/IndexOutOfBoundsException" ["java/lang/RuntimeException", "java/lang/Exception"]).filter goodWord)
def wsX1_right : List Cond := .code yX1_right cX1_right 2 (some .int) :: ([.methodLink RX1 37 yX1_leaseOf, .instanceMethod yX1_leaseOf, .selects RX1 yX1_leaseOf yX1_leaseOf, .initialized RX1, .code yX1_leaseOf cX1_leaseOf 3 (some (.object "Usewise$Lease")), .classLink RX1 79 "java/lang/IndexOutOfBoundsException", .initialized "java/lang/IndexOutOfBoundsException", .fieldLink RX1 11 "Usewise" "leases" "[LUsewise$Lease;"] ++ wsX00 ++ wsX10 ++ (vx_atS RX1 83 "java/lang/IndexOutOfBoundsException" ["java/lang/RuntimeException", "java/lang/Exception"]).filter goodWord)
def wsX1_interest : List Cond := .code yX1_interest cX1_interest 2 (some .int) :: ([.methodLink RX1 37 yX1_leaseOf, .instanceMethod yX1_leaseOf, .selects RX1 yX1_leaseOf yX1_leaseOf, .initialized RX1, .code yX1_leaseOf cX1_leaseOf 3 (some (.object "Usewise$Lease")), .classLink RX1 79 "java/lang/IndexOutOfBoundsException", .initialized "java/lang/IndexOutOfBoundsException", .fieldLink RX1 11 "Usewise" "leases" "[LUsewise$Lease;"] ++ wsX00 ++ wsX10 ++ (vx_atS RX1 83 "java/lang/IndexOutOfBoundsException" ["java/lang/RuntimeException", "java/lang/Exception"]).filter goodWord)
def wsX1_written : List Cond := .code yX1_written cX1_written 2 (some .int) :: ([.methodLink RX1 37 yX1_leaseOf, .instanceMethod yX1_leaseOf, .selects RX1 yX1_leaseOf yX1_leaseOf, .initialized RX1, .code yX1_leaseOf cX1_leaseOf 3 (some (.object "Usewise$Lease")), .classLink RX1 79 "java/lang/IndexOutOfBoundsException", .initialized "java/lang/IndexOutOfBoundsException", .fieldLink RX1 11 "Usewise" "leases" "[LUsewise$Lease;"] ++ wsX00 ++ wsX10 ++ (vx_atS RX1 83 "java/lang/IndexOutOfBoundsException" ["java/lang/RuntimeException", "java/lang/Exception"]).filter goodWord)
def wsX1_paid : List Cond := .code yX1_paid cX1_paid 2 (some .int) :: ([.methodLink RX1 37 yX1_leaseOf, .instanceMethod yX1_leaseOf, .selects RX1 yX1_leaseOf yX1_leaseOf, .initialized RX1, .code yX1_leaseOf cX1_leaseOf 3 (some (.object "Usewise$Lease")), .classLink RX1 79 "java/lang/IndexOutOfBoundsException", .initialized "java/lang/IndexOutOfBoundsException", .fieldLink RX1 11 "Usewise" "leases" "[LUsewise$Lease;"] ++ wsX00 ++ wsX10 ++ (vx_atS RX1 83 "java/lang/IndexOutOfBoundsException" ["java/lang/RuntimeException", "java/lang/Exception"]).filter goodWord)
def wsX1_gains : List Cond := .code yX1_gains cX1_gains 2 (some .int) :: ([.methodLink RX1 37 yX1_leaseOf, .instanceMethod yX1_leaseOf, .selects RX1 yX1_leaseOf yX1_leaseOf, .initialized RX1, .code yX1_leaseOf cX1_leaseOf 3 (some (.object "Usewise$Lease")), .classLink RX1 79 "java/lang/IndexOutOfBoundsException", .initialized "java/lang/IndexOutOfBoundsException", .fieldLink RX1 11 "Usewise" "leases" "[LUsewise$Lease;"] ++ wsX00 ++ wsX10 ++ (vx_atS RX1 83 "java/lang/IndexOutOfBoundsException" ["java/lang/RuntimeException", "java/lang/Exception"]).filter goodWord)
def wsJ9_max_7cf53 : List Cond := .code yJ9_max_7cf53 cJ9_max_7cf53 2 (some .int) :: ([])
def wsJ9_min_7cf53 : List Cond := .code yJ9_min_7cf53 cJ9_min_7cf53 2 (some .int) :: ([])
def wsL_cell : List Cond := .code yL_cell cL_cell 2 (some .int) :: ([.constant RL 7 (26810017), .constant RL 8 (50119)])
def wsL_low : List Cond := .code yL_low cL_low 2 (some .int) :: ([.constant RL 9 (2147483647)])
def wsL_adds_r1 : List Cond := [Cond.methodLink RL 10 yX1_right, Cond.instanceMethod yX1_right, Cond.selects RX1 yX1_right yX1_right, Cond.initialized RX1, Cond.code yX1_right cX1_right 2 (some .int), Cond.methodLink RX1 37 yX1_leaseOf, Cond.instanceMethod yX1_leaseOf, Cond.selects RX1 yX1_leaseOf yX1_leaseOf, Cond.code yX1_leaseOf cX1_leaseOf 3 (some (.object "Usewise$Lease")), Cond.classLink RX1 79 "java/lang/IndexOutOfBoundsException", Cond.initialized "java/lang/IndexOutOfBoundsException", Cond.fieldLink RX1 11 "Usewise" "leases" "[LUsewise$Lease;", Cond.methodLink RL 16 yX1_written, Cond.instanceMethod yX1_written, Cond.selects RX1 yX1_written yX1_written, Cond.code yX1_written cX1_written 2 (some .int), Cond.methodLink RL 19 yX1_interest, Cond.instanceMethod yX1_interest, Cond.selects RX1 yX1_interest yX1_interest, Cond.code yX1_interest cX1_interest 2 (some .int), Cond.methodLink RL 22 yX1_debt, Cond.instanceMethod yX1_debt, Cond.selects RX1 yX1_debt yX1_debt, Cond.code yX1_debt cX1_debt 2 (some .int)]
def wsL_adds_r2 : List Cond := [Cond.methodLink RX1 54 yX0_debtNow, Cond.instanceMethod yX0_debtNow, Cond.selects RX0 yX0_debtNow yX0_debtNow, Cond.initialized RX0, Cond.code yX0_debtNow cX0_debtNow 1 (some .int), Cond.fieldLink RX0 34 "Usewise$Lease" "debts" "[I", Cond.fieldLink RX0 52 "Usewise$Lease" "past" "I", Cond.methodLink RX0 55 yX0_at, Cond.static yX0_at, Cond.code yX0_at cX0_at 2 (some .int), Cond.methodLink RL 25 yX1_paid, Cond.instanceMethod yX1_paid, Cond.selects RX1 yX1_paid yX1_paid, Cond.code yX1_paid cX1_paid 2 (some .int), Cond.methodLink RL 28 yX1_gains, Cond.instanceMethod yX1_gains, Cond.selects RX1 yX1_gains yX1_gains, Cond.code yX1_gains cX1_gains 2 (some .int), Cond.methodLink RL 31 yX1_toCome, Cond.instanceMethod yX1_toCome, Cond.selects RX1 yX1_toCome yX1_toCome, Cond.code yX1_toCome cX1_toCome 2 (some .int), Cond.methodLink RX1 67 yX0_monthsLeft, Cond.instanceMethod yX0_monthsLeft]
def wsL_adds_r3 : List Cond := [Cond.selects RX0 yX0_monthsLeft yX0_monthsLeft, Cond.code yX0_monthsLeft cX0_monthsLeft 1 (some .int), Cond.fieldLink RX0 27 "Usewise$Lease" "term" "I", Cond.methodLink RL 34 yX1_debtByWorth, Cond.instanceMethod yX1_debtByWorth, Cond.selects RX1 yX1_debtByWorth yX1_debtByWorth, Cond.code yX1_debtByWorth cX1_debtByWorth 3 (some .int), Cond.methodLink RX1 90 yX0_worthAt, Cond.instanceMethod yX0_worthAt, Cond.selects RX0 yX0_worthAt yX0_worthAt, Cond.code yX0_worthAt cX0_worthAt 5 (some .long), Cond.fieldLink RX0 30 "Usewise$Lease" "payments" "[I", Cond.methodLink RX0 59 yX0_worthBefore, Cond.static yX0_worthBefore, Cond.code yX0_worthBefore cX0_worthBefore 5 (some .long), Cond.constantLong RX0 63 (1000000)]
def wsL_adds : List Cond := .code yL_adds cL_adds 6 (some .boolean) :: ((wsL_adds_r1 ++ (wsL_adds_r2 ++ wsL_adds_r3)) ++ wsX00 ++ wsX10 ++ (vx_atS RX1 83 "java/lang/IndexOutOfBoundsException" ["java/lang/RuntimeException", "java/lang/Exception"]).filter goodWord)
def wsL_law0_r1 : List Cond := [Cond.classLink RL 11 RX1, Cond.instantiable RX1 2, Cond.initialized RX1, Cond.arrayClass .int, Cond.methodLink RL 37 yX1_init, Cond.instanceMethod yX1_init, Cond.code yX1_init cX1_init 1 none, Cond.methodLink RX1 1 objectInit, Cond.instanceMethod objectInit, Cond.code objectInit ⟨#[0xb1]⟩ 1 none, Cond.classLink RX1 9 RX0, Cond.fieldLink RX1 11 "Usewise" "leases" "[LUsewise$Lease;", Cond.fieldLink RX1 15 "Usewise" "count" "I", Cond.methodLink RL 38 yL_cell, Cond.static yL_cell, Cond.initialized RL, Cond.code yL_cell cL_cell 2 (some .int), Cond.constant RL 7 (26810017), Cond.constant RL 8 (50119), Cond.methodLink RL 44 yL_low, Cond.static yL_low, Cond.code yL_low cL_low 2 (some .int), Cond.constant RL 9 (2147483647), Cond.methodLink RL 31 yX1_toCome]
def wsL_law0_r2 : List Cond := [Cond.instanceMethod yX1_toCome, Cond.selects RX1 yX1_toCome yX1_toCome, Cond.code yX1_toCome cX1_toCome 2 (some .int), Cond.methodLink RX1 37 yX1_leaseOf, Cond.instanceMethod yX1_leaseOf, Cond.selects RX1 yX1_leaseOf yX1_leaseOf, Cond.code yX1_leaseOf cX1_leaseOf 3 (some (.object "Usewise$Lease")), Cond.classLink RX1 79 "java/lang/IndexOutOfBoundsException", Cond.initialized "java/lang/IndexOutOfBoundsException", Cond.methodLink RX1 67 yX0_monthsLeft, Cond.instanceMethod yX0_monthsLeft, Cond.selects RX0 yX0_monthsLeft yX0_monthsLeft, Cond.initialized RX0, Cond.code yX0_monthsLeft cX0_monthsLeft 1 (some .int), Cond.fieldLink RX0 27 "Usewise$Lease" "term" "I", Cond.fieldLink RX0 52 "Usewise$Lease" "past" "I", Cond.methodLink RL 48 yX1_add, Cond.instanceMethod yX1_add, Cond.selects RX1 yX1_add yX1_add, Cond.code yX1_add cX1_add 9 (some .int), Cond.classLink RX1 23 "java/lang/IllegalStateException", Cond.initialized "java/lang/IllegalStateException", Cond.instantiable RX0 11, Cond.methodLink RX1 19 yX1_mustBeWithin]
def wsL_law0_r3 : List Cond := [Cond.static yX1_mustBeWithin, Cond.code yX1_mustBeWithin cX1_mustBeWithin 3 none, Cond.classLink RX1 111 "java/lang/IllegalArgumentException", Cond.initialized "java/lang/IllegalArgumentException", Cond.methodLink RX1 30 yX0_init, Cond.instanceMethod yX0_init, Cond.code yX0_init cX0_init 9 none, Cond.methodLink RX0 3 objectInit, Cond.fieldLink RX0 9 "Usewise$Lease" "rate" "I", Cond.fieldLink RX0 15 "Usewise$Lease" "life" "I", Cond.methodLink RX0 18 Lib.Math.min.name, Cond.static Lib.Math.min.name, Cond.initialized "java/lang/Math", Cond.code Lib.Math.min.name Lib.Math.min.code 2 (some .int), Cond.methodLink RX0 24 Lib.Math.max.name, Cond.static Lib.Math.max.name, Cond.code Lib.Math.max.name Lib.Math.max.code 2 (some .int), Cond.fieldLink RX0 30 "Usewise$Lease" "payments" "[I", Cond.fieldLink RX0 34 "Usewise$Lease" "debts" "[I", Cond.fieldLink RX0 48 "Usewise$Lease" "right" "J", Cond.methodLink RX0 37 yX0_put, Cond.static yX0_put, Cond.code yX0_put cX0_put 3 none, Cond.methodLink RX0 41 yX0_layDebts]
def wsL_law0_r4 : List Cond := [Cond.instanceMethod yX0_layDebts, Cond.selects RX0 yX0_layDebts yX0_layDebts, Cond.code yX0_layDebts cX0_layDebts 4 none, Cond.methodLink RX0 55 yX0_at, Cond.static yX0_at, Cond.code yX0_at cX0_at 2 (some .int), Cond.methodLink RX0 59 yX0_worthBefore, Cond.static yX0_worthBefore, Cond.code yX0_worthBefore cX0_worthBefore 5 (some .long), Cond.constantLong RX0 63 (1000000), Cond.methodLink RX0 44 yX0_debtNow, Cond.instanceMethod yX0_debtNow, Cond.selects RX0 yX0_debtNow yX0_debtNow, Cond.code yX0_debtNow cX0_debtNow 1 (some .int), Cond.methodLink RL 52 yX1_pass, Cond.instanceMethod yX1_pass, Cond.selects RX1 yX1_pass yX1_pass, Cond.code yX1_pass cX1_pass 7 (some .int), Cond.methodLink RX1 33 yX0_endsWithin, Cond.instanceMethod yX0_endsWithin, Cond.selects RX0 yX0_endsWithin yX0_endsWithin, Cond.code yX0_endsWithin cX0_endsWithin 4 (some .boolean), Cond.methodLink RX0 65 yX0_monthsLeft, Cond.methodLink RX0 68 yX0_passOneMonth]
def wsL_law0_r5 : List Cond := [Cond.instanceMethod yX0_passOneMonth, Cond.selects RX0 yX0_passOneMonth yX0_passOneMonth, Cond.code yX0_passOneMonth cX0_passOneMonth 5 none, Cond.fieldLink RX0 71 "Usewise$Lease" "interest" "J", Cond.fieldLink RX0 74 "Usewise$Lease" "paid" "J", Cond.fieldLink RX0 77 "Usewise$Lease" "written" "J", Cond.methodLink RL 55 yX1_review, Cond.instanceMethod yX1_review, Cond.selects RX1 yX1_review yX1_review, Cond.code yX1_review cX1_review 4 (some .int), Cond.methodLink RX1 41 yX1_mustGoOn, Cond.static yX1_mustGoOn, Cond.code yX1_mustGoOn cX1_mustGoOn 1 none, Cond.methodLink RX1 45 yX0_wouldPassTheMost, Cond.instanceMethod yX0_wouldPassTheMost, Cond.selects RX0 yX0_wouldPassTheMost yX0_wouldPassTheMost, Cond.code yX0_wouldPassTheMost cX0_wouldPassTheMost 3 (some .boolean), Cond.methodLink RX0 80 yX0_percentOf, Cond.static yX0_percentOf, Cond.code yX0_percentOf cX0_percentOf 3 (some .long), Cond.constantLong RX0 94 (100), Cond.methodLink RX1 50 yX0_reviewPayments, Cond.instanceMethod yX0_reviewPayments, Cond.selects RX0 yX0_reviewPayments yX0_reviewPayments]
def wsL_law0_r6 : List Cond := [Cond.code yX0_reviewPayments cX0_reviewPayments 2 none, Cond.methodLink RX0 83 yX0_scalePayments, Cond.instanceMethod yX0_scalePayments, Cond.selects RX0 yX0_scalePayments yX0_scalePayments, Cond.code yX0_scalePayments cX0_scalePayments 3 none, Cond.methodLink RX0 87 yX0_followDebt, Cond.instanceMethod yX0_followDebt, Cond.selects RX0 yX0_followDebt yX0_followDebt, Cond.code yX0_followDebt cX0_followDebt 3 none, Cond.fieldLink RX0 96 "Usewise$Lease" "gains" "J", Cond.methodLink RX1 54 yX0_debtNow, Cond.methodLink RL 22 yX1_debt, Cond.instanceMethod yX1_debt, Cond.selects RX1 yX1_debt yX1_debt, Cond.code yX1_debt cX1_debt 2 (some .int), Cond.methodLink RL 58 yX1_lengthen, Cond.instanceMethod yX1_lengthen, Cond.selects RX1 yX1_lengthen yX1_lengthen, Cond.code yX1_lengthen cX1_lengthen 5 (some .int), Cond.methodLink RX1 58 yX0_hasRoomFor, Cond.instanceMethod yX0_hasRoomFor, Cond.selects RX0 yX0_hasRoomFor yX0_hasRoomFor, Cond.code yX0_hasRoomFor cX0_hasRoomFor 2 (some .boolean), Cond.methodLink RX1 63 yX0_putBehind]
def wsL_law0_r7 : List Cond := [Cond.instanceMethod yX0_putBehind, Cond.selects RX0 yX0_putBehind yX0_putBehind, Cond.code yX0_putBehind cX0_putBehind 5 none, Cond.methodLink RL 28 yX1_gains, Cond.instanceMethod yX1_gains, Cond.selects RX1 yX1_gains yX1_gains, Cond.code yX1_gains cX1_gains 2 (some .int), Cond.methodLink RL 62 yX1_shorten, Cond.instanceMethod yX1_shorten, Cond.selects RX1 yX1_shorten yX1_shorten, Cond.code yX1_shorten cX1_shorten 4 (some .int), Cond.methodLink RX1 72 yX0_takeOffTheEnd, Cond.instanceMethod yX0_takeOffTheEnd, Cond.selects RX0 yX0_takeOffTheEnd yX0_takeOffTheEnd, Cond.code yX0_takeOffTheEnd cX0_takeOffTheEnd 3 (some .int), Cond.methodLink RX0 90 yX0_giveUp, Cond.instanceMethod yX0_giveUp, Cond.selects RX0 yX0_giveUp yX0_giveUp, Cond.code yX0_giveUp cX0_giveUp 7 (some .int), Cond.methodLink RL 65 yX1_cut, Cond.instanceMethod yX1_cut, Cond.selects RX1 yX1_cut yX1_cut, Cond.code yX1_cut cX1_cut 4 (some .int), Cond.methodLink RX1 76 yX0_keepPart]
def wsL_law0_r8 : List Cond := [Cond.instanceMethod yX0_keepPart, Cond.selects RX0 yX0_keepPart yX0_keepPart, Cond.code yX0_keepPart cX0_keepPart 2 (some .int), Cond.methodLink RL 68 yL_adds, Cond.static yL_adds, Cond.code yL_adds cL_adds 6 (some .boolean), Cond.methodLink RL 10 yX1_right, Cond.instanceMethod yX1_right, Cond.selects RX1 yX1_right yX1_right, Cond.code yX1_right cX1_right 2 (some .int), Cond.methodLink RL 16 yX1_written, Cond.instanceMethod yX1_written, Cond.selects RX1 yX1_written yX1_written, Cond.code yX1_written cX1_written 2 (some .int), Cond.methodLink RL 19 yX1_interest, Cond.instanceMethod yX1_interest, Cond.selects RX1 yX1_interest yX1_interest, Cond.code yX1_interest cX1_interest 2 (some .int), Cond.methodLink RL 25 yX1_paid, Cond.instanceMethod yX1_paid, Cond.selects RX1 yX1_paid yX1_paid, Cond.code yX1_paid cX1_paid 2 (some .int), Cond.methodLink RL 34 yX1_debtByWorth, Cond.instanceMethod yX1_debtByWorth]
def wsL_law0_r9 : List Cond := [Cond.selects RX1 yX1_debtByWorth yX1_debtByWorth, Cond.code yX1_debtByWorth cX1_debtByWorth 3 (some .int), Cond.methodLink RX1 90 yX0_worthAt, Cond.instanceMethod yX0_worthAt, Cond.selects RX0 yX0_worthAt yX0_worthAt, Cond.code yX0_worthAt cX0_worthAt 5 (some .long)]
def wsL_law0 : List Cond := (wsL_law0_r1 ++ (wsL_law0_r2 ++ (wsL_law0_r3 ++ (wsL_law0_r4 ++ (wsL_law0_r5 ++ (wsL_law0_r6 ++ (wsL_law0_r7 ++ (wsL_law0_r8 ++ wsL_law0_r9)))))))) ++ wsX10 ++ wsX00 ++ ([] : List Cond)
def wsL_law : List Cond := wsL_law0 ++ (vx_atS RX1 83 "java/lang/IndexOutOfBoundsException" ["java/lang/RuntimeException", "java/lang/Exception"]).filter goodWord ++ (vx_atS RX1 27 "java/lang/IllegalStateException" ["java/lang/RuntimeException", "java/lang/Exception"]).filter goodWord ++ (vx_atS RX1 115 "java/lang/IllegalArgumentException" ["java/lang/RuntimeException", "java/lang/Exception"]).filter goodWord
set_option maxRecDepth 20000 in
theorem wsL_law_in0 : ∀ w ∈ wsL_law0, w ∈ lw_tbl := fun w h => (goodIn_p wsL_law0 [21, 24, 310, 315, 299, 218, 206, 37, 40, 128, 132, 135, 138, 142, 145, 148, 153, 198, 202, 210, 214, 237, 243, 246, 252, 256, 260, 303, 265, 269, 274, 307, 278, 283, 287, 291, 295, 319, 323, 327, 331, 335, 339, 343] (by decide +kernel) (by decide +kernel) w h).1
theorem wsL_law_x0 : ∀ w ∈ (vx_atS RX1 83 "java/lang/IndexOutOfBoundsException" ["java/lang/RuntimeException", "java/lang/Exception"]).filter goodWord, w ∈ lw_tbl := by decide +kernel
theorem wsL_law_x1 : ∀ w ∈ (vx_atS RX1 27 "java/lang/IllegalStateException" ["java/lang/RuntimeException", "java/lang/Exception"]).filter goodWord, w ∈ lw_tbl := by decide +kernel
theorem wsL_law_x2 : ∀ w ∈ (vx_atS RX1 115 "java/lang/IllegalArgumentException" ["java/lang/RuntimeException", "java/lang/Exception"]).filter goodWord, w ∈ lw_tbl := by decide +kernel
theorem wsL_law_in : ∀ w ∈ wsL_law, w ∈ lw_tbl := fun w h => (List.mem_append.mp h).elim (fun h => (List.mem_append.mp h).elim (fun h => (List.mem_append.mp h).elim (fun h => wsL_law_in0 w h) (fun h => wsL_law_x0 w h)) (fun h => wsL_law_x1 w h)) (fun h => wsL_law_x2 w h)
theorem inlX0 : ∀ w ∈ wsX00, w ∈ wsL_law := fun _ h => List.mem_append_left _ (List.mem_append_left _ (List.mem_append_left _ (List.mem_append_left _ (List.mem_append_right _ h))))
theorem inX0 : ∀ w ∈ wsX00, w ∈ lw_tbl := fun w h => wsL_law_in w (inlX0 w h)
theorem inlX1 : ∀ w ∈ wsX10, w ∈ wsL_law := fun _ h => List.mem_append_left _ (List.mem_append_left _ (List.mem_append_left _ (List.mem_append_left _ (List.mem_append_left _ (List.mem_append_right _ h)))))
theorem inX1 : ∀ w ∈ wsX10, w ∈ lw_tbl := fun w h => wsL_law_in w (inlX1 w h)
theorem inX2 : ∀ w ∈ wsX20, w ∈ lw_tbl := by decide +kernel
theorem inJ9 : ∀ w ∈ wsJ90, w ∈ lw_tbl := by decide +kernel
theorem inJ0 : ∀ w ∈ wsJ00, w ∈ lw_tbl := by decide +kernel
end
section
set_option maxRecDepth 20000 in
theorem ggX0_init_X0_put : GoodIn wsX0_init wsX0_put := goodIn_r _ [21] (by decide +kernel) (by decide +kernel)
set_option maxRecDepth 20000 in
theorem gX0_init_X0_put : GoodIn wsX0_init (va_wsS RX0 37 yX0_put wsX0_put) := goodIn_app (goodIn_of _ (by decide +kernel)) ggX0_init_X0_put
set_option maxRecDepth 20000 in
theorem ggX0_init_X0_layDebts : GoodIn wsX0_init wsX0_layDebts := goodIn_r _ [25, 16, 13, 26, 15, 4, 18, 19, 20, 21, 27, 28, 29, 30, 31, 32, 33, 38, 39, 40, 41, 42, 43, 44, 45, 46, 47, 48] (by decide +kernel) (by decide +kernel)
set_option maxRecDepth 20000 in
theorem gX0_init_X0_layDebts : GoodIn wsX0_init (wsV RX0 41 RX0 yX0_layDebts wsX0_layDebts) := goodIn_app (goodIn_of _ (by decide +kernel)) ggX0_init_X0_layDebts
set_option maxRecDepth 20000 in
theorem ggX0_init_X0_debtNow : GoodIn wsX0_init wsX0_debtNow := goodIn_r _ [37, 16, 26, 27, 28, 20, 29, 38, 39, 40, 41, 42, 43, 44, 45, 46, 47, 48] (by decide +kernel) (by decide +kernel)
set_option maxRecDepth 20000 in
theorem gX0_init_X0_debtNow : GoodIn wsX0_init (wsV RX0 44 RX0 yX0_debtNow wsX0_debtNow) := goodIn_app (goodIn_of _ (by decide +kernel)) ggX0_init_X0_debtNow
theorem dX0_init_0 : decode cX0_init 0 = .ok (.aload_n 0, 1) := by decide +kernel
theorem dX0_init_1 : decode cX0_init 1 = .ok (.invokespecial 3, 3) := by decide +kernel
theorem dX0_init_4 : decode cX0_init 4 = .ok (.aload_n 0, 1) := by decide +kernel
theorem dX0_init_5 : decode cX0_init 5 = .ok (.iload 5, 2) := by decide +kernel
theorem dX0_init_7 : decode cX0_init 7 = .ok (.putfield 9, 3) := by decide +kernel
theorem dX0_init_10 : decode cX0_init 10 = .ok (.aload_n 0, 1) := by decide +kernel
theorem dX0_init_11 : decode cX0_init 11 = .ok (.iload 6, 2) := by decide +kernel
theorem dX0_init_13 : decode cX0_init 13 = .ok (.putfield 15, 3) := by decide +kernel
theorem dX0_init_16 : decode cX0_init 16 = .ok (.aload_n 0, 1) := by decide +kernel
theorem dX0_init_17 : decode cX0_init 17 = .ok (.iconst 0, 1) := by decide +kernel
theorem dX0_init_18 : decode cX0_init 18 = .ok (.iload_n 1, 1) := by decide +kernel
theorem dX0_init_19 : decode cX0_init 19 = .ok (.bipush 120, 2) := by decide +kernel
theorem dX0_init_21 : decode cX0_init 21 = .ok (.invokestatic 18, 3) := by decide +kernel
theorem dX0_init_24 : decode cX0_init 24 = .ok (.invokestatic 24, 3) := by decide +kernel
theorem dX0_init_27 : decode cX0_init 27 = .ok (.putfield 27, 3) := by decide +kernel
theorem dX0_init_30 : decode cX0_init 30 = .ok (.aload_n 0, 1) := by decide +kernel
theorem dX0_init_31 : decode cX0_init 31 = .ok (.bipush 120, 2) := by decide +kernel
theorem dX0_init_33 : decode cX0_init 33 = .ok (.newarray .int, 2) := by decide +kernel
theorem dX0_init_35 : decode cX0_init 35 = .ok (.putfield 30, 3) := by decide +kernel
theorem dX0_init_38 : decode cX0_init 38 = .ok (.aload_n 0, 1) := by decide +kernel
theorem dX0_init_39 : decode cX0_init 39 = .ok (.bipush 121, 2) := by decide +kernel
theorem dX0_init_41 : decode cX0_init 41 = .ok (.newarray .int, 2) := by decide +kernel
theorem dX0_init_43 : decode cX0_init 43 = .ok (.putfield 34, 3) := by decide +kernel
theorem dX0_init_46 : decode cX0_init 46 = .ok (.iload_n 3, 1) := by decide +kernel
theorem dX0_init_47 : decode cX0_init 47 = .ok (.istore 8, 2) := by decide +kernel
theorem dX0_init_49 : decode cX0_init 49 = .ok (.iload 8, 2) := by decide +kernel
theorem dX0_init_51 : decode cX0_init 51 = .ok (.aload_n 0, 1) := by decide +kernel
theorem dX0_init_52 : decode cX0_init 52 = .ok (.getfield 27, 3) := by decide +kernel
theorem dX0_init_55 : decode cX0_init 55 = .ok (.if_icmp .ge 28, 3) := by decide +kernel
theorem dX0_init_58 : decode cX0_init 58 = .ok (.aload_n 0, 1) := by decide +kernel
theorem dX0_init_59 : decode cX0_init 59 = .ok (.getfield 30, 3) := by decide +kernel
theorem dX0_init_62 : decode cX0_init 62 = .ok (.iload 8, 2) := by decide +kernel
theorem dX0_init_64 : decode cX0_init 64 = .ok (.iload_n 2, 1) := by decide +kernel
theorem dX0_init_65 : decode cX0_init 65 = .ok (.iload 4, 2) := by decide +kernel
theorem dX0_init_67 : decode cX0_init 67 = .ok (.iload 8, 2) := by decide +kernel
theorem dX0_init_69 : decode cX0_init 69 = .ok (.bipush 12, 2) := by decide +kernel
theorem dX0_init_71 : decode cX0_init 71 = .ok (.idiv, 1) := by decide +kernel
theorem dX0_init_72 : decode cX0_init 72 = .ok (.imul, 1) := by decide +kernel
theorem dX0_init_73 : decode cX0_init 73 = .ok (.iadd, 1) := by decide +kernel
theorem dX0_init_74 : decode cX0_init 74 = .ok (.invokestatic 37, 3) := by decide +kernel
theorem dX0_init_77 : decode cX0_init 77 = .ok (.iinc 8 1, 3) := by decide +kernel
theorem dX0_init_80 : decode cX0_init 80 = .ok (.goto (-31), 3) := by decide +kernel
theorem dX0_init_83 : decode cX0_init 83 = .ok (.aload_n 0, 1) := by decide +kernel
theorem dX0_init_84 : decode cX0_init 84 = .ok (.invokevirtual 41, 3) := by decide +kernel
theorem dX0_init_87 : decode cX0_init 87 = .ok (.aload_n 0, 1) := by decide +kernel
theorem dX0_init_88 : decode cX0_init 88 = .ok (.aload_n 0, 1) := by decide +kernel
theorem dX0_init_89 : decode cX0_init 89 = .ok (.invokevirtual 44, 3) := by decide +kernel
theorem dX0_init_92 : decode cX0_init 92 = .ok (.i2l, 1) := by decide +kernel
theorem dX0_init_93 : decode cX0_init 93 = .ok (.iload 7, 2) := by decide +kernel
theorem dX0_init_95 : decode cX0_init 95 = .ok (.i2l, 1) := by decide +kernel
theorem dX0_init_96 : decode cX0_init 96 = .ok (.ladd, 1) := by decide +kernel
theorem dX0_init_97 : decode cX0_init 97 = .ok (.putfield 48, 3) := by decide +kernel
theorem dX0_init_100 : decode cX0_init 100 = .ok (.return_, 1) := by decide +kernel
theorem dX0_at_0 : decode cX0_at 0 = .ok (.iload_n 1, 1) := by decide +kernel
theorem dX0_at_1 : decode cX0_at 1 = .ok (.ifCond .lt 15, 3) := by decide +kernel
theorem dX0_at_4 : decode cX0_at 4 = .ok (.iload_n 1, 1) := by decide +kernel
theorem dX0_at_5 : decode cX0_at 5 = .ok (.aload_n 0, 1) := by decide +kernel
theorem dX0_at_6 : decode cX0_at 6 = .ok (.arraylength, 1) := by decide +kernel
theorem dX0_at_7 : decode cX0_at 7 = .ok (.if_icmp .ge 9, 3) := by decide +kernel
theorem dX0_at_10 : decode cX0_at 10 = .ok (.aload_n 0, 1) := by decide +kernel
theorem dX0_at_11 : decode cX0_at 11 = .ok (.iload_n 1, 1) := by decide +kernel
theorem dX0_at_12 : decode cX0_at 12 = .ok (.iaload, 1) := by decide +kernel
theorem dX0_at_13 : decode cX0_at 13 = .ok (.goto 4, 3) := by decide +kernel
theorem dX0_at_16 : decode cX0_at 16 = .ok (.iconst 0, 1) := by decide +kernel
theorem dX0_at_17 : decode cX0_at 17 = .ok (.ireturn, 1) := by decide +kernel
theorem dX0_put_0 : decode cX0_put 0 = .ok (.iload_n 1, 1) := by decide +kernel
theorem dX0_put_1 : decode cX0_put 1 = .ok (.ifCond .lt 13, 3) := by decide +kernel
theorem dX0_put_4 : decode cX0_put 4 = .ok (.iload_n 1, 1) := by decide +kernel
theorem dX0_put_5 : decode cX0_put 5 = .ok (.aload_n 0, 1) := by decide +kernel
theorem dX0_put_6 : decode cX0_put 6 = .ok (.arraylength, 1) := by decide +kernel
theorem dX0_put_7 : decode cX0_put 7 = .ok (.if_icmp .ge 7, 3) := by decide +kernel
theorem dX0_put_10 : decode cX0_put 10 = .ok (.aload_n 0, 1) := by decide +kernel
theorem dX0_put_11 : decode cX0_put 11 = .ok (.iload_n 1, 1) := by decide +kernel
theorem dX0_put_12 : decode cX0_put 12 = .ok (.iload_n 2, 1) := by decide +kernel
theorem dX0_put_13 : decode cX0_put 13 = .ok (.iastore, 1) := by decide +kernel
theorem dX0_put_14 : decode cX0_put 14 = .ok (.return_, 1) := by decide +kernel
theorem dX0_monthsLeft_0 : decode cX0_monthsLeft 0 = .ok (.aload_n 0, 1) := by decide +kernel
theorem dX0_monthsLeft_1 : decode cX0_monthsLeft 1 = .ok (.getfield 27, 3) := by decide +kernel
theorem dX0_monthsLeft_4 : decode cX0_monthsLeft 4 = .ok (.aload_n 0, 1) := by decide +kernel
theorem dX0_monthsLeft_5 : decode cX0_monthsLeft 5 = .ok (.getfield 52, 3) := by decide +kernel
theorem dX0_monthsLeft_8 : decode cX0_monthsLeft 8 = .ok (.isub, 1) := by decide +kernel
theorem dX0_monthsLeft_9 : decode cX0_monthsLeft 9 = .ok (.ireturn, 1) := by decide +kernel
set_option maxRecDepth 20000 in
theorem ggX0_debtNow_X0_at : GoodIn wsX0_debtNow wsX0_at := goodIn_r _ [6] (by decide +kernel) (by decide +kernel)
set_option maxRecDepth 20000 in
theorem gX0_debtNow_X0_at : GoodIn wsX0_debtNow (va_wsS RX0 55 yX0_at wsX0_at) := goodIn_app (goodIn_of _ (by decide +kernel)) ggX0_debtNow_X0_at
theorem dX0_debtNow_0 : decode cX0_debtNow 0 = .ok (.aload_n 0, 1) := by decide +kernel
theorem dX0_debtNow_1 : decode cX0_debtNow 1 = .ok (.getfield 34, 3) := by decide +kernel
theorem dX0_debtNow_4 : decode cX0_debtNow 4 = .ok (.aload_n 0, 1) := by decide +kernel
theorem dX0_debtNow_5 : decode cX0_debtNow 5 = .ok (.getfield 52, 3) := by decide +kernel
theorem dX0_debtNow_8 : decode cX0_debtNow 8 = .ok (.invokestatic 55, 3) := by decide +kernel
theorem dX0_debtNow_11 : decode cX0_debtNow 11 = .ok (.ireturn, 1) := by decide +kernel
theorem dX0_hasRoomFor_0 : decode cX0_hasRoomFor 0 = .ok (.aload_n 0, 1) := by decide +kernel
theorem dX0_hasRoomFor_1 : decode cX0_hasRoomFor 1 = .ok (.getfield 27, 3) := by decide +kernel
theorem dX0_hasRoomFor_4 : decode cX0_hasRoomFor 4 = .ok (.iload_n 1, 1) := by decide +kernel
theorem dX0_hasRoomFor_5 : decode cX0_hasRoomFor 5 = .ok (.iadd, 1) := by decide +kernel
theorem dX0_hasRoomFor_6 : decode cX0_hasRoomFor 6 = .ok (.bipush 120, 2) := by decide +kernel
theorem dX0_hasRoomFor_8 : decode cX0_hasRoomFor 8 = .ok (.if_icmp .gt 7, 3) := by decide +kernel
theorem dX0_hasRoomFor_11 : decode cX0_hasRoomFor 11 = .ok (.iconst 1, 1) := by decide +kernel
theorem dX0_hasRoomFor_12 : decode cX0_hasRoomFor 12 = .ok (.goto 4, 3) := by decide +kernel
theorem dX0_hasRoomFor_15 : decode cX0_hasRoomFor 15 = .ok (.iconst 0, 1) := by decide +kernel
theorem dX0_hasRoomFor_16 : decode cX0_hasRoomFor 16 = .ok (.ireturn, 1) := by decide +kernel
set_option maxRecDepth 20000 in
theorem ggX0_worthAt_X0_at : GoodIn wsX0_worthAt wsX0_at := goodIn_r _ [7] (by decide +kernel) (by decide +kernel)
set_option maxRecDepth 20000 in
theorem gX0_worthAt_X0_at : GoodIn wsX0_worthAt (va_wsS RX0 55 yX0_at wsX0_at) := goodIn_app (goodIn_of _ (by decide +kernel)) ggX0_worthAt_X0_at
set_option maxRecDepth 20000 in
theorem ggX0_worthAt_X0_worthBefore : GoodIn wsX0_worthAt wsX0_worthBefore := goodIn_r _ [10, 11] (by decide +kernel) (by decide +kernel)
set_option maxRecDepth 20000 in
theorem gX0_worthAt_X0_worthBefore : GoodIn wsX0_worthAt (va_wsS RX0 59 yX0_worthBefore wsX0_worthBefore) := goodIn_app (goodIn_of _ (by decide +kernel)) ggX0_worthAt_X0_worthBefore
theorem dX0_worthAt_0 : decode cX0_worthAt 0 = .ok (.lconst 0, 1) := by decide +kernel
theorem dX0_worthAt_1 : decode cX0_worthAt 1 = .ok (.lstore_n 2, 1) := by decide +kernel
theorem dX0_worthAt_2 : decode cX0_worthAt 2 = .ok (.aload_n 0, 1) := by decide +kernel
theorem dX0_worthAt_3 : decode cX0_worthAt 3 = .ok (.getfield 27, 3) := by decide +kernel
theorem dX0_worthAt_6 : decode cX0_worthAt 6 = .ok (.iconst 1, 1) := by decide +kernel
theorem dX0_worthAt_7 : decode cX0_worthAt 7 = .ok (.isub, 1) := by decide +kernel
theorem dX0_worthAt_8 : decode cX0_worthAt 8 = .ok (.istore 4, 2) := by decide +kernel
theorem dX0_worthAt_10 : decode cX0_worthAt 10 = .ok (.iload 4, 2) := by decide +kernel
theorem dX0_worthAt_12 : decode cX0_worthAt 12 = .ok (.aload_n 0, 1) := by decide +kernel
theorem dX0_worthAt_13 : decode cX0_worthAt 13 = .ok (.getfield 52, 3) := by decide +kernel
theorem dX0_worthAt_16 : decode cX0_worthAt 16 = .ok (.if_icmp .lt 26, 3) := by decide +kernel
theorem dX0_worthAt_19 : decode cX0_worthAt 19 = .ok (.lload_n 2, 1) := by decide +kernel
theorem dX0_worthAt_20 : decode cX0_worthAt 20 = .ok (.aload_n 0, 1) := by decide +kernel
theorem dX0_worthAt_21 : decode cX0_worthAt 21 = .ok (.getfield 30, 3) := by decide +kernel
theorem dX0_worthAt_24 : decode cX0_worthAt 24 = .ok (.iload 4, 2) := by decide +kernel
theorem dX0_worthAt_26 : decode cX0_worthAt 26 = .ok (.invokestatic 55, 3) := by decide +kernel
theorem dX0_worthAt_29 : decode cX0_worthAt 29 = .ok (.i2l, 1) := by decide +kernel
theorem dX0_worthAt_30 : decode cX0_worthAt 30 = .ok (.ladd, 1) := by decide +kernel
theorem dX0_worthAt_31 : decode cX0_worthAt 31 = .ok (.iload_n 1, 1) := by decide +kernel
theorem dX0_worthAt_32 : decode cX0_worthAt 32 = .ok (.invokestatic 59, 3) := by decide +kernel
theorem dX0_worthAt_35 : decode cX0_worthAt 35 = .ok (.lstore_n 2, 1) := by decide +kernel
theorem dX0_worthAt_36 : decode cX0_worthAt 36 = .ok (.iinc 4 (-1), 3) := by decide +kernel
theorem dX0_worthAt_39 : decode cX0_worthAt 39 = .ok (.goto (-29), 3) := by decide +kernel
theorem dX0_worthAt_42 : decode cX0_worthAt 42 = .ok (.lload_n 2, 1) := by decide +kernel
theorem dX0_worthAt_43 : decode cX0_worthAt 43 = .ok (.lreturn, 1) := by decide +kernel
theorem dX0_worthBefore_0 : decode cX0_worthBefore 0 = .ok (.ldc2_w 63, 3) := by decide +kernel
theorem dX0_worthBefore_3 : decode cX0_worthBefore 3 = .ok (.iload_n 2, 1) := by decide +kernel
theorem dX0_worthBefore_4 : decode cX0_worthBefore 4 = .ok (.i2l, 1) := by decide +kernel
theorem dX0_worthBefore_5 : decode cX0_worthBefore 5 = .ok (.ladd, 1) := by decide +kernel
theorem dX0_worthBefore_6 : decode cX0_worthBefore 6 = .ok (.lstore_n 3, 1) := by decide +kernel
theorem dX0_worthBefore_7 : decode cX0_worthBefore 7 = .ok (.lload_n 3, 1) := by decide +kernel
theorem dX0_worthBefore_8 : decode cX0_worthBefore 8 = .ok (.lconst 1, 1) := by decide +kernel
theorem dX0_worthBefore_9 : decode cX0_worthBefore 9 = .ok (.lcmp, 1) := by decide +kernel
theorem dX0_worthBefore_10 : decode cX0_worthBefore 10 = .ok (.ifCond .ge 7, 3) := by decide +kernel
theorem dX0_worthBefore_13 : decode cX0_worthBefore 13 = .ok (.lconst 0, 1) := by decide +kernel
theorem dX0_worthBefore_14 : decode cX0_worthBefore 14 = .ok (.goto 14, 3) := by decide +kernel
theorem dX0_worthBefore_17 : decode cX0_worthBefore 17 = .ok (.lload_n 0, 1) := by decide +kernel
theorem dX0_worthBefore_18 : decode cX0_worthBefore 18 = .ok (.ldc2_w 63, 3) := by decide +kernel
theorem dX0_worthBefore_21 : decode cX0_worthBefore 21 = .ok (.lmul, 1) := by decide +kernel
theorem dX0_worthBefore_22 : decode cX0_worthBefore 22 = .ok (.lload_n 3, 1) := by decide +kernel
theorem dX0_worthBefore_23 : decode cX0_worthBefore 23 = .ok (.ladd, 1) := by decide +kernel
theorem dX0_worthBefore_24 : decode cX0_worthBefore 24 = .ok (.lconst 1, 1) := by decide +kernel
theorem dX0_worthBefore_25 : decode cX0_worthBefore 25 = .ok (.lsub, 1) := by decide +kernel
theorem dX0_worthBefore_26 : decode cX0_worthBefore 26 = .ok (.lload_n 3, 1) := by decide +kernel
theorem dX0_worthBefore_27 : decode cX0_worthBefore 27 = .ok (.ldiv, 1) := by decide +kernel
theorem dX0_worthBefore_28 : decode cX0_worthBefore 28 = .ok (.lreturn, 1) := by decide +kernel
set_option maxRecDepth 20000 in
theorem ggX0_layDebts_X0_put : GoodIn wsX0_layDebts wsX0_put := goodIn_r _ [9] (by decide +kernel) (by decide +kernel)
set_option maxRecDepth 20000 in
theorem gX0_layDebts_X0_put : GoodIn wsX0_layDebts (va_wsS RX0 37 yX0_put wsX0_put) := goodIn_app (goodIn_of _ (by decide +kernel)) ggX0_layDebts_X0_put
set_option maxRecDepth 20000 in
theorem ggX0_layDebts_X0_at : GoodIn wsX0_layDebts wsX0_at := goodIn_r _ [12] (by decide +kernel) (by decide +kernel)
set_option maxRecDepth 20000 in
theorem gX0_layDebts_X0_at : GoodIn wsX0_layDebts (va_wsS RX0 55 yX0_at wsX0_at) := goodIn_app (goodIn_of _ (by decide +kernel)) ggX0_layDebts_X0_at
set_option maxRecDepth 20000 in
theorem ggX0_layDebts_X0_worthBefore : GoodIn wsX0_layDebts wsX0_worthBefore := goodIn_r _ [15, 16] (by decide +kernel) (by decide +kernel)
set_option maxRecDepth 20000 in
theorem gX0_layDebts_X0_worthBefore : GoodIn wsX0_layDebts (va_wsS RX0 59 yX0_worthBefore wsX0_worthBefore) := goodIn_app (goodIn_of _ (by decide +kernel)) ggX0_layDebts_X0_worthBefore
theorem dX0_layDebts_0 : decode cX0_layDebts 0 = .ok (.aload_n 0, 1) := by decide +kernel
theorem dX0_layDebts_1 : decode cX0_layDebts 1 = .ok (.getfield 34, 3) := by decide +kernel
theorem dX0_layDebts_4 : decode cX0_layDebts 4 = .ok (.aload_n 0, 1) := by decide +kernel
theorem dX0_layDebts_5 : decode cX0_layDebts 5 = .ok (.getfield 27, 3) := by decide +kernel
theorem dX0_layDebts_8 : decode cX0_layDebts 8 = .ok (.iconst 0, 1) := by decide +kernel
theorem dX0_layDebts_9 : decode cX0_layDebts 9 = .ok (.invokestatic 37, 3) := by decide +kernel
theorem dX0_layDebts_12 : decode cX0_layDebts 12 = .ok (.aload_n 0, 1) := by decide +kernel
theorem dX0_layDebts_13 : decode cX0_layDebts 13 = .ok (.getfield 27, 3) := by decide +kernel
theorem dX0_layDebts_16 : decode cX0_layDebts 16 = .ok (.iconst 1, 1) := by decide +kernel
theorem dX0_layDebts_17 : decode cX0_layDebts 17 = .ok (.isub, 1) := by decide +kernel
theorem dX0_layDebts_18 : decode cX0_layDebts 18 = .ok (.istore_n 1, 1) := by decide +kernel
theorem dX0_layDebts_19 : decode cX0_layDebts 19 = .ok (.iload_n 1, 1) := by decide +kernel
theorem dX0_layDebts_20 : decode cX0_layDebts 20 = .ok (.aload_n 0, 1) := by decide +kernel
theorem dX0_layDebts_21 : decode cX0_layDebts 21 = .ok (.getfield 52, 3) := by decide +kernel
theorem dX0_layDebts_24 : decode cX0_layDebts 24 = .ok (.if_icmp .lt 48, 3) := by decide +kernel
theorem dX0_layDebts_27 : decode cX0_layDebts 27 = .ok (.aload_n 0, 1) := by decide +kernel
theorem dX0_layDebts_28 : decode cX0_layDebts 28 = .ok (.getfield 34, 3) := by decide +kernel
theorem dX0_layDebts_31 : decode cX0_layDebts 31 = .ok (.iload_n 1, 1) := by decide +kernel
theorem dX0_layDebts_32 : decode cX0_layDebts 32 = .ok (.iconst 1, 1) := by decide +kernel
theorem dX0_layDebts_33 : decode cX0_layDebts 33 = .ok (.iadd, 1) := by decide +kernel
theorem dX0_layDebts_34 : decode cX0_layDebts 34 = .ok (.invokestatic 55, 3) := by decide +kernel
theorem dX0_layDebts_37 : decode cX0_layDebts 37 = .ok (.i2l, 1) := by decide +kernel
theorem dX0_layDebts_38 : decode cX0_layDebts 38 = .ok (.aload_n 0, 1) := by decide +kernel
theorem dX0_layDebts_39 : decode cX0_layDebts 39 = .ok (.getfield 30, 3) := by decide +kernel
theorem dX0_layDebts_42 : decode cX0_layDebts 42 = .ok (.iload_n 1, 1) := by decide +kernel
theorem dX0_layDebts_43 : decode cX0_layDebts 43 = .ok (.invokestatic 55, 3) := by decide +kernel
theorem dX0_layDebts_46 : decode cX0_layDebts 46 = .ok (.i2l, 1) := by decide +kernel
theorem dX0_layDebts_47 : decode cX0_layDebts 47 = .ok (.ladd, 1) := by decide +kernel
theorem dX0_layDebts_48 : decode cX0_layDebts 48 = .ok (.lstore_n 2, 1) := by decide +kernel
theorem dX0_layDebts_49 : decode cX0_layDebts 49 = .ok (.aload_n 0, 1) := by decide +kernel
theorem dX0_layDebts_50 : decode cX0_layDebts 50 = .ok (.getfield 34, 3) := by decide +kernel
theorem dX0_layDebts_53 : decode cX0_layDebts 53 = .ok (.iload_n 1, 1) := by decide +kernel
theorem dX0_layDebts_54 : decode cX0_layDebts 54 = .ok (.lload_n 2, 1) := by decide +kernel
theorem dX0_layDebts_55 : decode cX0_layDebts 55 = .ok (.aload_n 0, 1) := by decide +kernel
theorem dX0_layDebts_56 : decode cX0_layDebts 56 = .ok (.getfield 9, 3) := by decide +kernel
theorem dX0_layDebts_59 : decode cX0_layDebts 59 = .ok (.invokestatic 59, 3) := by decide +kernel
theorem dX0_layDebts_62 : decode cX0_layDebts 62 = .ok (.l2i, 1) := by decide +kernel
theorem dX0_layDebts_63 : decode cX0_layDebts 63 = .ok (.invokestatic 37, 3) := by decide +kernel
theorem dX0_layDebts_66 : decode cX0_layDebts 66 = .ok (.iinc 1 (-1), 3) := by decide +kernel
theorem dX0_layDebts_69 : decode cX0_layDebts 69 = .ok (.goto (-50), 3) := by decide +kernel
theorem dX0_layDebts_72 : decode cX0_layDebts 72 = .ok (.return_, 1) := by decide +kernel
set_option maxRecDepth 20000 in
theorem ggX0_endsWithin_X0_monthsLeft : GoodIn wsX0_endsWithin wsX0_monthsLeft := goodIn_r _ [9, 10, 11, 26, 27, 28, 29, 30, 31, 32, 33, 34, 35, 36] (by decide +kernel) (by decide +kernel)
set_option maxRecDepth 20000 in
theorem gX0_endsWithin_X0_monthsLeft : GoodIn wsX0_endsWithin (wsV RX0 65 RX0 yX0_monthsLeft wsX0_monthsLeft) := goodIn_app (goodIn_of _ (by decide +kernel)) ggX0_endsWithin_X0_monthsLeft
set_option maxRecDepth 20000 in
theorem ggX0_endsWithin_X0_passOneMonth : GoodIn wsX0_endsWithin wsX0_passOneMonth := goodIn_r _ [15, 16, 11, 17, 18, 19, 10, 20, 1, 2, 3, 4, 21, 22, 23, 24, 8, 25, 26, 27, 28, 29, 30, 31, 32, 33, 34, 35, 36] (by decide +kernel) (by decide +kernel)
set_option maxRecDepth 20000 in
theorem gX0_endsWithin_X0_passOneMonth : GoodIn wsX0_endsWithin (wsV RX0 68 RX0 yX0_passOneMonth wsX0_passOneMonth) := goodIn_app (goodIn_of _ (by decide +kernel)) ggX0_endsWithin_X0_passOneMonth
theorem dX0_endsWithin_0 : decode cX0_endsWithin 0 = .ok (.iload_n 1, 1) := by decide +kernel
theorem dX0_endsWithin_1 : decode cX0_endsWithin 1 = .ok (.aload_n 0, 1) := by decide +kernel
theorem dX0_endsWithin_2 : decode cX0_endsWithin 2 = .ok (.invokevirtual 65, 3) := by decide +kernel
theorem dX0_endsWithin_5 : decode cX0_endsWithin 5 = .ok (.invokestatic 18, 3) := by decide +kernel
theorem dX0_endsWithin_8 : decode cX0_endsWithin 8 = .ok (.istore_n 2, 1) := by decide +kernel
theorem dX0_endsWithin_9 : decode cX0_endsWithin 9 = .ok (.iconst 0, 1) := by decide +kernel
theorem dX0_endsWithin_10 : decode cX0_endsWithin 10 = .ok (.istore_n 3, 1) := by decide +kernel
theorem dX0_endsWithin_11 : decode cX0_endsWithin 11 = .ok (.iload_n 3, 1) := by decide +kernel
theorem dX0_endsWithin_12 : decode cX0_endsWithin 12 = .ok (.iload_n 2, 1) := by decide +kernel
theorem dX0_endsWithin_13 : decode cX0_endsWithin 13 = .ok (.if_icmp .ge 13, 3) := by decide +kernel
theorem dX0_endsWithin_16 : decode cX0_endsWithin 16 = .ok (.aload_n 0, 1) := by decide +kernel
theorem dX0_endsWithin_17 : decode cX0_endsWithin 17 = .ok (.invokevirtual 68, 3) := by decide +kernel
theorem dX0_endsWithin_20 : decode cX0_endsWithin 20 = .ok (.iinc 3 1, 3) := by decide +kernel
theorem dX0_endsWithin_23 : decode cX0_endsWithin 23 = .ok (.goto (-12), 3) := by decide +kernel
theorem dX0_endsWithin_26 : decode cX0_endsWithin 26 = .ok (.iload_n 2, 1) := by decide +kernel
theorem dX0_endsWithin_27 : decode cX0_endsWithin 27 = .ok (.ifCond .le 14, 3) := by decide +kernel
theorem dX0_endsWithin_30 : decode cX0_endsWithin 30 = .ok (.aload_n 0, 1) := by decide +kernel
theorem dX0_endsWithin_31 : decode cX0_endsWithin 31 = .ok (.invokevirtual 65, 3) := by decide +kernel
theorem dX0_endsWithin_34 : decode cX0_endsWithin 34 = .ok (.ifCond .ne 7, 3) := by decide +kernel
theorem dX0_endsWithin_37 : decode cX0_endsWithin 37 = .ok (.iconst 1, 1) := by decide +kernel
theorem dX0_endsWithin_38 : decode cX0_endsWithin 38 = .ok (.goto 4, 3) := by decide +kernel
theorem dX0_endsWithin_41 : decode cX0_endsWithin 41 = .ok (.iconst 0, 1) := by decide +kernel
theorem dX0_endsWithin_42 : decode cX0_endsWithin 42 = .ok (.ireturn, 1) := by decide +kernel
set_option maxRecDepth 20000 in
theorem ggX0_passOneMonth_X0_at : GoodIn wsX0_passOneMonth wsX0_at := goodIn_r _ [17] (by decide +kernel) (by decide +kernel)
set_option maxRecDepth 20000 in
theorem gX0_passOneMonth_X0_at : GoodIn wsX0_passOneMonth (va_wsS RX0 55 yX0_at wsX0_at) := goodIn_app (goodIn_of _ (by decide +kernel)) ggX0_passOneMonth_X0_at
theorem dX0_passOneMonth_0 : decode cX0_passOneMonth 0 = .ok (.aload_n 0, 1) := by decide +kernel
theorem dX0_passOneMonth_1 : decode cX0_passOneMonth 1 = .ok (.getfield 30, 3) := by decide +kernel
theorem dX0_passOneMonth_4 : decode cX0_passOneMonth 4 = .ok (.aload_n 0, 1) := by decide +kernel
theorem dX0_passOneMonth_5 : decode cX0_passOneMonth 5 = .ok (.getfield 52, 3) := by decide +kernel
theorem dX0_passOneMonth_8 : decode cX0_passOneMonth 8 = .ok (.invokestatic 55, 3) := by decide +kernel
theorem dX0_passOneMonth_11 : decode cX0_passOneMonth 11 = .ok (.istore_n 1, 1) := by decide +kernel
theorem dX0_passOneMonth_12 : decode cX0_passOneMonth 12 = .ok (.aload_n 0, 1) := by decide +kernel
theorem dX0_passOneMonth_13 : decode cX0_passOneMonth 13 = .ok (.dup, 1) := by decide +kernel
theorem dX0_passOneMonth_14 : decode cX0_passOneMonth 14 = .ok (.getfield 71, 3) := by decide +kernel
theorem dX0_passOneMonth_17 : decode cX0_passOneMonth 17 = .ok (.aload_n 0, 1) := by decide +kernel
theorem dX0_passOneMonth_18 : decode cX0_passOneMonth 18 = .ok (.getfield 34, 3) := by decide +kernel
theorem dX0_passOneMonth_21 : decode cX0_passOneMonth 21 = .ok (.aload_n 0, 1) := by decide +kernel
theorem dX0_passOneMonth_22 : decode cX0_passOneMonth 22 = .ok (.getfield 52, 3) := by decide +kernel
theorem dX0_passOneMonth_25 : decode cX0_passOneMonth 25 = .ok (.iconst 1, 1) := by decide +kernel
theorem dX0_passOneMonth_26 : decode cX0_passOneMonth 26 = .ok (.iadd, 1) := by decide +kernel
theorem dX0_passOneMonth_27 : decode cX0_passOneMonth 27 = .ok (.invokestatic 55, 3) := by decide +kernel
theorem dX0_passOneMonth_30 : decode cX0_passOneMonth 30 = .ok (.iload_n 1, 1) := by decide +kernel
theorem dX0_passOneMonth_31 : decode cX0_passOneMonth 31 = .ok (.iadd, 1) := by decide +kernel
theorem dX0_passOneMonth_32 : decode cX0_passOneMonth 32 = .ok (.aload_n 0, 1) := by decide +kernel
theorem dX0_passOneMonth_33 : decode cX0_passOneMonth 33 = .ok (.getfield 34, 3) := by decide +kernel
theorem dX0_passOneMonth_36 : decode cX0_passOneMonth 36 = .ok (.aload_n 0, 1) := by decide +kernel
theorem dX0_passOneMonth_37 : decode cX0_passOneMonth 37 = .ok (.getfield 52, 3) := by decide +kernel
theorem dX0_passOneMonth_40 : decode cX0_passOneMonth 40 = .ok (.invokestatic 55, 3) := by decide +kernel
theorem dX0_passOneMonth_43 : decode cX0_passOneMonth 43 = .ok (.isub, 1) := by decide +kernel
theorem dX0_passOneMonth_44 : decode cX0_passOneMonth 44 = .ok (.i2l, 1) := by decide +kernel
theorem dX0_passOneMonth_45 : decode cX0_passOneMonth 45 = .ok (.ladd, 1) := by decide +kernel
theorem dX0_passOneMonth_46 : decode cX0_passOneMonth 46 = .ok (.putfield 71, 3) := by decide +kernel
theorem dX0_passOneMonth_49 : decode cX0_passOneMonth 49 = .ok (.aload_n 0, 1) := by decide +kernel
theorem dX0_passOneMonth_50 : decode cX0_passOneMonth 50 = .ok (.dup, 1) := by decide +kernel
theorem dX0_passOneMonth_51 : decode cX0_passOneMonth 51 = .ok (.getfield 74, 3) := by decide +kernel
theorem dX0_passOneMonth_54 : decode cX0_passOneMonth 54 = .ok (.iload_n 1, 1) := by decide +kernel
theorem dX0_passOneMonth_55 : decode cX0_passOneMonth 55 = .ok (.i2l, 1) := by decide +kernel
theorem dX0_passOneMonth_56 : decode cX0_passOneMonth 56 = .ok (.ladd, 1) := by decide +kernel
theorem dX0_passOneMonth_57 : decode cX0_passOneMonth 57 = .ok (.putfield 74, 3) := by decide +kernel
theorem dX0_passOneMonth_60 : decode cX0_passOneMonth 60 = .ok (.aload_n 0, 1) := by decide +kernel
theorem dX0_passOneMonth_61 : decode cX0_passOneMonth 61 = .ok (.getfield 27, 3) := by decide +kernel
theorem dX0_passOneMonth_64 : decode cX0_passOneMonth 64 = .ok (.aload_n 0, 1) := by decide +kernel
theorem dX0_passOneMonth_65 : decode cX0_passOneMonth 65 = .ok (.getfield 15, 3) := by decide +kernel
theorem dX0_passOneMonth_68 : decode cX0_passOneMonth 68 = .ok (.invokestatic 18, 3) := by decide +kernel
theorem dX0_passOneMonth_71 : decode cX0_passOneMonth 71 = .ok (.aload_n 0, 1) := by decide +kernel
theorem dX0_passOneMonth_72 : decode cX0_passOneMonth 72 = .ok (.getfield 52, 3) := by decide +kernel
theorem dX0_passOneMonth_75 : decode cX0_passOneMonth 75 = .ok (.isub, 1) := by decide +kernel
theorem dX0_passOneMonth_76 : decode cX0_passOneMonth 76 = .ok (.istore_n 2, 1) := by decide +kernel
theorem dX0_passOneMonth_77 : decode cX0_passOneMonth 77 = .ok (.iload_n 2, 1) := by decide +kernel
theorem dX0_passOneMonth_78 : decode cX0_passOneMonth 78 = .ok (.iconst 1, 1) := by decide +kernel
theorem dX0_passOneMonth_79 : decode cX0_passOneMonth 79 = .ok (.if_icmp .le 13, 3) := by decide +kernel
theorem dX0_passOneMonth_82 : decode cX0_passOneMonth 82 = .ok (.aload_n 0, 1) := by decide +kernel
theorem dX0_passOneMonth_83 : decode cX0_passOneMonth 83 = .ok (.getfield 48, 3) := by decide +kernel
theorem dX0_passOneMonth_86 : decode cX0_passOneMonth 86 = .ok (.iload_n 2, 1) := by decide +kernel
theorem dX0_passOneMonth_87 : decode cX0_passOneMonth 87 = .ok (.i2l, 1) := by decide +kernel
theorem dX0_passOneMonth_88 : decode cX0_passOneMonth 88 = .ok (.ldiv, 1) := by decide +kernel
theorem dX0_passOneMonth_89 : decode cX0_passOneMonth 89 = .ok (.goto 7, 3) := by decide +kernel
theorem dX0_passOneMonth_92 : decode cX0_passOneMonth 92 = .ok (.aload_n 0, 1) := by decide +kernel
theorem dX0_passOneMonth_93 : decode cX0_passOneMonth 93 = .ok (.getfield 48, 3) := by decide +kernel
theorem dX0_passOneMonth_96 : decode cX0_passOneMonth 96 = .ok (.lstore_n 3, 1) := by decide +kernel
theorem dX0_passOneMonth_97 : decode cX0_passOneMonth 97 = .ok (.aload_n 0, 1) := by decide +kernel
theorem dX0_passOneMonth_98 : decode cX0_passOneMonth 98 = .ok (.dup, 1) := by decide +kernel
theorem dX0_passOneMonth_99 : decode cX0_passOneMonth 99 = .ok (.getfield 77, 3) := by decide +kernel
theorem dX0_passOneMonth_102 : decode cX0_passOneMonth 102 = .ok (.lload_n 3, 1) := by decide +kernel
theorem dX0_passOneMonth_103 : decode cX0_passOneMonth 103 = .ok (.ladd, 1) := by decide +kernel
theorem dX0_passOneMonth_104 : decode cX0_passOneMonth 104 = .ok (.putfield 77, 3) := by decide +kernel
theorem dX0_passOneMonth_107 : decode cX0_passOneMonth 107 = .ok (.aload_n 0, 1) := by decide +kernel
theorem dX0_passOneMonth_108 : decode cX0_passOneMonth 108 = .ok (.dup, 1) := by decide +kernel
theorem dX0_passOneMonth_109 : decode cX0_passOneMonth 109 = .ok (.getfield 48, 3) := by decide +kernel
theorem dX0_passOneMonth_112 : decode cX0_passOneMonth 112 = .ok (.lload_n 3, 1) := by decide +kernel
theorem dX0_passOneMonth_113 : decode cX0_passOneMonth 113 = .ok (.lsub, 1) := by decide +kernel
theorem dX0_passOneMonth_114 : decode cX0_passOneMonth 114 = .ok (.putfield 48, 3) := by decide +kernel
theorem dX0_passOneMonth_117 : decode cX0_passOneMonth 117 = .ok (.aload_n 0, 1) := by decide +kernel
theorem dX0_passOneMonth_118 : decode cX0_passOneMonth 118 = .ok (.dup, 1) := by decide +kernel
theorem dX0_passOneMonth_119 : decode cX0_passOneMonth 119 = .ok (.getfield 52, 3) := by decide +kernel
theorem dX0_passOneMonth_122 : decode cX0_passOneMonth 122 = .ok (.iconst 1, 1) := by decide +kernel
theorem dX0_passOneMonth_123 : decode cX0_passOneMonth 123 = .ok (.iadd, 1) := by decide +kernel
theorem dX0_passOneMonth_124 : decode cX0_passOneMonth 124 = .ok (.putfield 52, 3) := by decide +kernel
theorem dX0_passOneMonth_127 : decode cX0_passOneMonth 127 = .ok (.return_, 1) := by decide +kernel
set_option maxRecDepth 20000 in
theorem ggX0_wouldPassTheMost_X0_at : GoodIn wsX0_wouldPassTheMost wsX0_at := goodIn_r _ [8] (by decide +kernel) (by decide +kernel)
set_option maxRecDepth 20000 in
theorem gX0_wouldPassTheMost_X0_at : GoodIn wsX0_wouldPassTheMost (va_wsS RX0 55 yX0_at wsX0_at) := goodIn_app (goodIn_of _ (by decide +kernel)) ggX0_wouldPassTheMost_X0_at
set_option maxRecDepth 20000 in
theorem ggX0_wouldPassTheMost_X0_percentOf : GoodIn wsX0_wouldPassTheMost wsX0_percentOf := goodIn_r _ [11, 12] (by decide +kernel) (by decide +kernel)
set_option maxRecDepth 20000 in
theorem gX0_wouldPassTheMost_X0_percentOf : GoodIn wsX0_wouldPassTheMost (va_wsS RX0 80 yX0_percentOf wsX0_percentOf) := goodIn_app (goodIn_of _ (by decide +kernel)) ggX0_wouldPassTheMost_X0_percentOf
theorem dX0_wouldPassTheMost_0 : decode cX0_wouldPassTheMost 0 = .ok (.aload_n 0, 1) := by decide +kernel
theorem dX0_wouldPassTheMost_1 : decode cX0_wouldPassTheMost 1 = .ok (.getfield 52, 3) := by decide +kernel
theorem dX0_wouldPassTheMost_4 : decode cX0_wouldPassTheMost 4 = .ok (.istore_n 2, 1) := by decide +kernel
theorem dX0_wouldPassTheMost_5 : decode cX0_wouldPassTheMost 5 = .ok (.iload_n 2, 1) := by decide +kernel
theorem dX0_wouldPassTheMost_6 : decode cX0_wouldPassTheMost 6 = .ok (.aload_n 0, 1) := by decide +kernel
theorem dX0_wouldPassTheMost_7 : decode cX0_wouldPassTheMost 7 = .ok (.getfield 27, 3) := by decide +kernel
theorem dX0_wouldPassTheMost_10 : decode cX0_wouldPassTheMost 10 = .ok (.if_icmp .ge 31, 3) := by decide +kernel
theorem dX0_wouldPassTheMost_13 : decode cX0_wouldPassTheMost 13 = .ok (.aload_n 0, 1) := by decide +kernel
theorem dX0_wouldPassTheMost_14 : decode cX0_wouldPassTheMost 14 = .ok (.getfield 30, 3) := by decide +kernel
theorem dX0_wouldPassTheMost_17 : decode cX0_wouldPassTheMost 17 = .ok (.iload_n 2, 1) := by decide +kernel
theorem dX0_wouldPassTheMost_18 : decode cX0_wouldPassTheMost 18 = .ok (.invokestatic 55, 3) := by decide +kernel
theorem dX0_wouldPassTheMost_21 : decode cX0_wouldPassTheMost 21 = .ok (.i2l, 1) := by decide +kernel
theorem dX0_wouldPassTheMost_22 : decode cX0_wouldPassTheMost 22 = .ok (.iload_n 1, 1) := by decide +kernel
theorem dX0_wouldPassTheMost_23 : decode cX0_wouldPassTheMost 23 = .ok (.invokestatic 80, 3) := by decide +kernel
theorem dX0_wouldPassTheMost_26 : decode cX0_wouldPassTheMost 26 = .ok (.ldc2_w 63, 3) := by decide +kernel
theorem dX0_wouldPassTheMost_29 : decode cX0_wouldPassTheMost 29 = .ok (.lcmp, 1) := by decide +kernel
theorem dX0_wouldPassTheMost_30 : decode cX0_wouldPassTheMost 30 = .ok (.ifCond .le 5, 3) := by decide +kernel
theorem dX0_wouldPassTheMost_33 : decode cX0_wouldPassTheMost 33 = .ok (.iconst 1, 1) := by decide +kernel
theorem dX0_wouldPassTheMost_34 : decode cX0_wouldPassTheMost 34 = .ok (.ireturn, 1) := by decide +kernel
theorem dX0_wouldPassTheMost_35 : decode cX0_wouldPassTheMost 35 = .ok (.iinc 2 1, 3) := by decide +kernel
theorem dX0_wouldPassTheMost_38 : decode cX0_wouldPassTheMost 38 = .ok (.goto (-33), 3) := by decide +kernel
theorem dX0_wouldPassTheMost_41 : decode cX0_wouldPassTheMost 41 = .ok (.iconst 0, 1) := by decide +kernel
theorem dX0_wouldPassTheMost_42 : decode cX0_wouldPassTheMost 42 = .ok (.ireturn, 1) := by decide +kernel
set_option maxRecDepth 20000 in
theorem ggX0_reviewPayments_X0_scalePayments : GoodIn wsX0_reviewPayments wsX0_scalePayments := goodIn_r _ [5, 6, 7, 8, 9, 10, 4, 11, 12, 13, 14, 15, 16, 17, 18, 39, 40, 41, 42, 43, 44, 45, 46, 47, 48, 49] (by decide +kernel) (by decide +kernel)
set_option maxRecDepth 20000 in
theorem gX0_reviewPayments_X0_scalePayments : GoodIn wsX0_reviewPayments (wsV RX0 83 RX0 yX0_scalePayments wsX0_scalePayments) := goodIn_app (goodIn_of _ (by decide +kernel)) ggX0_reviewPayments_X0_scalePayments
set_option maxRecDepth 20000 in
theorem ggX0_reviewPayments_X0_followDebt : GoodIn wsX0_reviewPayments wsX0_followDebt := goodIn_r _ [22, 23, 24, 25, 26, 27, 4, 28, 29, 6, 9, 10, 11, 30, 31, 32, 33, 7, 8, 34, 16, 17, 18, 35, 36, 37, 38, 39, 40, 41, 42, 43, 44, 45, 46, 47, 48, 49] (by decide +kernel) (by decide +kernel)
set_option maxRecDepth 20000 in
theorem gX0_reviewPayments_X0_followDebt : GoodIn wsX0_reviewPayments (wsV RX0 87 RX0 yX0_followDebt wsX0_followDebt) := goodIn_app (goodIn_of _ (by decide +kernel)) ggX0_reviewPayments_X0_followDebt
theorem dX0_reviewPayments_0 : decode cX0_reviewPayments 0 = .ok (.aload_n 0, 1) := by decide +kernel
theorem dX0_reviewPayments_1 : decode cX0_reviewPayments 1 = .ok (.iload_n 1, 1) := by decide +kernel
theorem dX0_reviewPayments_2 : decode cX0_reviewPayments 2 = .ok (.invokevirtual 83, 3) := by decide +kernel
theorem dX0_reviewPayments_5 : decode cX0_reviewPayments 5 = .ok (.aload_n 0, 1) := by decide +kernel
theorem dX0_reviewPayments_6 : decode cX0_reviewPayments 6 = .ok (.invokevirtual 87, 3) := by decide +kernel
theorem dX0_reviewPayments_9 : decode cX0_reviewPayments 9 = .ok (.return_, 1) := by decide +kernel
set_option maxRecDepth 20000 in
theorem ggX0_putBehind_X0_put : GoodIn wsX0_putBehind wsX0_put := goodIn_r _ [10] (by decide +kernel) (by decide +kernel)
set_option maxRecDepth 20000 in
theorem gX0_putBehind_X0_put : GoodIn wsX0_putBehind (va_wsS RX0 37 yX0_put wsX0_put) := goodIn_app (goodIn_of _ (by decide +kernel)) ggX0_putBehind_X0_put
set_option maxRecDepth 20000 in
theorem ggX0_putBehind_X0_followDebt : GoodIn wsX0_putBehind wsX0_followDebt := goodIn_r _ [14, 15, 16, 17, 18, 19, 9, 20, 21, 22, 23, 24, 25, 26, 27, 28, 29, 1, 6, 30, 7, 8, 10, 31, 32, 33, 34, 35, 36, 37, 38, 39, 40, 41, 42, 43, 44, 45] (by decide +kernel) (by decide +kernel)
set_option maxRecDepth 20000 in
theorem gX0_putBehind_X0_followDebt : GoodIn wsX0_putBehind (wsV RX0 87 RX0 yX0_followDebt wsX0_followDebt) := goodIn_app (goodIn_of _ (by decide +kernel)) ggX0_putBehind_X0_followDebt
theorem dX0_putBehind_0 : decode cX0_putBehind 0 = .ok (.aload_n 0, 1) := by decide +kernel
theorem dX0_putBehind_1 : decode cX0_putBehind 1 = .ok (.getfield 27, 3) := by decide +kernel
theorem dX0_putBehind_4 : decode cX0_putBehind 4 = .ok (.iload_n 1, 1) := by decide +kernel
theorem dX0_putBehind_5 : decode cX0_putBehind 5 = .ok (.iadd, 1) := by decide +kernel
theorem dX0_putBehind_6 : decode cX0_putBehind 6 = .ok (.bipush 120, 2) := by decide +kernel
theorem dX0_putBehind_8 : decode cX0_putBehind 8 = .ok (.invokestatic 18, 3) := by decide +kernel
theorem dX0_putBehind_11 : decode cX0_putBehind 11 = .ok (.istore_n 3, 1) := by decide +kernel
theorem dX0_putBehind_12 : decode cX0_putBehind 12 = .ok (.aload_n 0, 1) := by decide +kernel
theorem dX0_putBehind_13 : decode cX0_putBehind 13 = .ok (.getfield 27, 3) := by decide +kernel
theorem dX0_putBehind_16 : decode cX0_putBehind 16 = .ok (.istore 4, 2) := by decide +kernel
theorem dX0_putBehind_18 : decode cX0_putBehind 18 = .ok (.iload 4, 2) := by decide +kernel
theorem dX0_putBehind_20 : decode cX0_putBehind 20 = .ok (.iload_n 3, 1) := by decide +kernel
theorem dX0_putBehind_21 : decode cX0_putBehind 21 = .ok (.if_icmp .ge 19, 3) := by decide +kernel
theorem dX0_putBehind_24 : decode cX0_putBehind 24 = .ok (.aload_n 0, 1) := by decide +kernel
theorem dX0_putBehind_25 : decode cX0_putBehind 25 = .ok (.getfield 30, 3) := by decide +kernel
theorem dX0_putBehind_28 : decode cX0_putBehind 28 = .ok (.iload 4, 2) := by decide +kernel
theorem dX0_putBehind_30 : decode cX0_putBehind 30 = .ok (.iload_n 2, 1) := by decide +kernel
theorem dX0_putBehind_31 : decode cX0_putBehind 31 = .ok (.invokestatic 37, 3) := by decide +kernel
theorem dX0_putBehind_34 : decode cX0_putBehind 34 = .ok (.iinc 4 1, 3) := by decide +kernel
theorem dX0_putBehind_37 : decode cX0_putBehind 37 = .ok (.goto (-19), 3) := by decide +kernel
theorem dX0_putBehind_40 : decode cX0_putBehind 40 = .ok (.aload_n 0, 1) := by decide +kernel
theorem dX0_putBehind_41 : decode cX0_putBehind 41 = .ok (.iload_n 3, 1) := by decide +kernel
theorem dX0_putBehind_42 : decode cX0_putBehind 42 = .ok (.putfield 27, 3) := by decide +kernel
theorem dX0_putBehind_45 : decode cX0_putBehind 45 = .ok (.aload_n 0, 1) := by decide +kernel
theorem dX0_putBehind_46 : decode cX0_putBehind 46 = .ok (.invokevirtual 87, 3) := by decide +kernel
theorem dX0_putBehind_49 : decode cX0_putBehind 49 = .ok (.return_, 1) := by decide +kernel
set_option maxRecDepth 20000 in
theorem ggX0_takeOffTheEnd_X0_monthsLeft : GoodIn wsX0_takeOffTheEnd wsX0_monthsLeft := goodIn_r _ [7, 1, 8, 35, 36, 37, 38, 39, 40, 41, 42, 43, 44, 45] (by decide +kernel) (by decide +kernel)
set_option maxRecDepth 20000 in
theorem gX0_takeOffTheEnd_X0_monthsLeft : GoodIn wsX0_takeOffTheEnd (wsV RX0 65 RX0 yX0_monthsLeft wsX0_monthsLeft) := goodIn_app (goodIn_of _ (by decide +kernel)) ggX0_takeOffTheEnd_X0_monthsLeft
set_option maxRecDepth 20000 in
theorem ggX0_takeOffTheEnd_X0_giveUp : GoodIn wsX0_takeOffTheEnd wsX0_giveUp := goodIn_r _ [12, 2, 13, 14, 15, 16, 6, 17, 18, 8, 19, 20, 21, 22, 23, 24, 25, 1, 26, 27, 28, 29, 30, 31, 32, 33, 34, 35, 36, 37, 38, 39, 40, 41, 42, 43, 44, 45] (by decide +kernel) (by decide +kernel)
set_option maxRecDepth 20000 in
theorem gX0_takeOffTheEnd_X0_giveUp : GoodIn wsX0_takeOffTheEnd (wsV RX0 90 RX0 yX0_giveUp wsX0_giveUp) := goodIn_app (goodIn_of _ (by decide +kernel)) ggX0_takeOffTheEnd_X0_giveUp
theorem dX0_takeOffTheEnd_0 : decode cX0_takeOffTheEnd 0 = .ok (.aload_n 0, 1) := by decide +kernel
theorem dX0_takeOffTheEnd_1 : decode cX0_takeOffTheEnd 1 = .ok (.invokevirtual 65, 3) := by decide +kernel
theorem dX0_takeOffTheEnd_4 : decode cX0_takeOffTheEnd 4 = .ok (.istore_n 2, 1) := by decide +kernel
theorem dX0_takeOffTheEnd_5 : decode cX0_takeOffTheEnd 5 = .ok (.aload_n 0, 1) := by decide +kernel
theorem dX0_takeOffTheEnd_6 : decode cX0_takeOffTheEnd 6 = .ok (.dup, 1) := by decide +kernel
theorem dX0_takeOffTheEnd_7 : decode cX0_takeOffTheEnd 7 = .ok (.getfield 27, 3) := by decide +kernel
theorem dX0_takeOffTheEnd_10 : decode cX0_takeOffTheEnd 10 = .ok (.iload_n 1, 1) := by decide +kernel
theorem dX0_takeOffTheEnd_11 : decode cX0_takeOffTheEnd 11 = .ok (.isub, 1) := by decide +kernel
theorem dX0_takeOffTheEnd_12 : decode cX0_takeOffTheEnd 12 = .ok (.putfield 27, 3) := by decide +kernel
theorem dX0_takeOffTheEnd_15 : decode cX0_takeOffTheEnd 15 = .ok (.aload_n 0, 1) := by decide +kernel
theorem dX0_takeOffTheEnd_16 : decode cX0_takeOffTheEnd 16 = .ok (.iload_n 2, 1) := by decide +kernel
theorem dX0_takeOffTheEnd_17 : decode cX0_takeOffTheEnd 17 = .ok (.iconst 1, 1) := by decide +kernel
theorem dX0_takeOffTheEnd_18 : decode cX0_takeOffTheEnd 18 = .ok (.if_icmp .ge 7, 3) := by decide +kernel
theorem dX0_takeOffTheEnd_21 : decode cX0_takeOffTheEnd 21 = .ok (.lconst 0, 1) := by decide +kernel
theorem dX0_takeOffTheEnd_22 : decode cX0_takeOffTheEnd 22 = .ok (.goto 16, 3) := by decide +kernel
theorem dX0_takeOffTheEnd_25 : decode cX0_takeOffTheEnd 25 = .ok (.aload_n 0, 1) := by decide +kernel
theorem dX0_takeOffTheEnd_26 : decode cX0_takeOffTheEnd 26 = .ok (.getfield 48, 3) := by decide +kernel
theorem dX0_takeOffTheEnd_29 : decode cX0_takeOffTheEnd 29 = .ok (.aload_n 0, 1) := by decide +kernel
theorem dX0_takeOffTheEnd_30 : decode cX0_takeOffTheEnd 30 = .ok (.invokevirtual 65, 3) := by decide +kernel
theorem dX0_takeOffTheEnd_33 : decode cX0_takeOffTheEnd 33 = .ok (.i2l, 1) := by decide +kernel
theorem dX0_takeOffTheEnd_34 : decode cX0_takeOffTheEnd 34 = .ok (.lmul, 1) := by decide +kernel
theorem dX0_takeOffTheEnd_35 : decode cX0_takeOffTheEnd 35 = .ok (.iload_n 2, 1) := by decide +kernel
theorem dX0_takeOffTheEnd_36 : decode cX0_takeOffTheEnd 36 = .ok (.i2l, 1) := by decide +kernel
theorem dX0_takeOffTheEnd_37 : decode cX0_takeOffTheEnd 37 = .ok (.ldiv, 1) := by decide +kernel
theorem dX0_takeOffTheEnd_38 : decode cX0_takeOffTheEnd 38 = .ok (.invokevirtual 90, 3) := by decide +kernel
theorem dX0_takeOffTheEnd_41 : decode cX0_takeOffTheEnd 41 = .ok (.ireturn, 1) := by decide +kernel
set_option maxRecDepth 20000 in
theorem ggX0_keepPart_X0_scalePayments : GoodIn wsX0_keepPart wsX0_scalePayments := goodIn_r _ [6, 7, 8, 9, 10, 11, 5, 12, 13, 14, 15, 16, 17, 18, 19, 39, 40, 41, 42, 43, 44, 45, 46, 47, 48, 49] (by decide +kernel) (by decide +kernel)
set_option maxRecDepth 20000 in
theorem gX0_keepPart_X0_scalePayments : GoodIn wsX0_keepPart (wsV RX0 83 RX0 yX0_scalePayments wsX0_scalePayments) := goodIn_app (goodIn_of _ (by decide +kernel)) ggX0_keepPart_X0_scalePayments
set_option maxRecDepth 20000 in
theorem ggX0_keepPart_X0_percentOf : GoodIn wsX0_keepPart wsX0_percentOf := goodIn_r _ [15, 16] (by decide +kernel) (by decide +kernel)
set_option maxRecDepth 20000 in
theorem gX0_keepPart_X0_percentOf : GoodIn wsX0_keepPart (va_wsS RX0 80 yX0_percentOf wsX0_percentOf) := goodIn_app (goodIn_of _ (by decide +kernel)) ggX0_keepPart_X0_percentOf
set_option maxRecDepth 20000 in
theorem ggX0_keepPart_X0_giveUp : GoodIn wsX0_keepPart wsX0_giveUp := goodIn_r _ [23, 1, 24, 25, 26, 27, 5, 28, 29, 7, 10, 11, 12, 30, 31, 32, 33, 8, 9, 34, 17, 18, 19, 35, 36, 37, 38, 39, 40, 41, 42, 43, 44, 45, 46, 47, 48, 49] (by decide +kernel) (by decide +kernel)
set_option maxRecDepth 20000 in
theorem gX0_keepPart_X0_giveUp : GoodIn wsX0_keepPart (wsV RX0 90 RX0 yX0_giveUp wsX0_giveUp) := goodIn_app (goodIn_of _ (by decide +kernel)) ggX0_keepPart_X0_giveUp
theorem dX0_keepPart_0 : decode cX0_keepPart 0 = .ok (.aload_n 0, 1) := by decide +kernel
theorem dX0_keepPart_1 : decode cX0_keepPart 1 = .ok (.iload_n 1, 1) := by decide +kernel
theorem dX0_keepPart_2 : decode cX0_keepPart 2 = .ok (.invokevirtual 83, 3) := by decide +kernel
theorem dX0_keepPart_5 : decode cX0_keepPart 5 = .ok (.aload_n 0, 1) := by decide +kernel
theorem dX0_keepPart_6 : decode cX0_keepPart 6 = .ok (.aload_n 0, 1) := by decide +kernel
theorem dX0_keepPart_7 : decode cX0_keepPart 7 = .ok (.getfield 48, 3) := by decide +kernel
theorem dX0_keepPart_10 : decode cX0_keepPart 10 = .ok (.iload_n 1, 1) := by decide +kernel
theorem dX0_keepPart_11 : decode cX0_keepPart 11 = .ok (.invokestatic 80, 3) := by decide +kernel
theorem dX0_keepPart_14 : decode cX0_keepPart 14 = .ok (.invokevirtual 90, 3) := by decide +kernel
theorem dX0_keepPart_17 : decode cX0_keepPart 17 = .ok (.ireturn, 1) := by decide +kernel
set_option maxRecDepth 20000 in
theorem ggX0_scalePayments_X0_at : GoodIn wsX0_scalePayments wsX0_at := goodIn_r _ [7] (by decide +kernel) (by decide +kernel)
set_option maxRecDepth 20000 in
theorem gX0_scalePayments_X0_at : GoodIn wsX0_scalePayments (va_wsS RX0 55 yX0_at wsX0_at) := goodIn_app (goodIn_of _ (by decide +kernel)) ggX0_scalePayments_X0_at
set_option maxRecDepth 20000 in
theorem ggX0_scalePayments_X0_percentOf : GoodIn wsX0_scalePayments wsX0_percentOf := goodIn_r _ [10, 11] (by decide +kernel) (by decide +kernel)
set_option maxRecDepth 20000 in
theorem gX0_scalePayments_X0_percentOf : GoodIn wsX0_scalePayments (va_wsS RX0 80 yX0_percentOf wsX0_percentOf) := goodIn_app (goodIn_of _ (by decide +kernel)) ggX0_scalePayments_X0_percentOf
set_option maxRecDepth 20000 in
theorem ggX0_scalePayments_X0_put : GoodIn wsX0_scalePayments wsX0_put := goodIn_r _ [14] (by decide +kernel) (by decide +kernel)
set_option maxRecDepth 20000 in
theorem gX0_scalePayments_X0_put : GoodIn wsX0_scalePayments (va_wsS RX0 37 yX0_put wsX0_put) := goodIn_app (goodIn_of _ (by decide +kernel)) ggX0_scalePayments_X0_put
theorem dX0_scalePayments_0 : decode cX0_scalePayments 0 = .ok (.aload_n 0, 1) := by decide +kernel
theorem dX0_scalePayments_1 : decode cX0_scalePayments 1 = .ok (.getfield 52, 3) := by decide +kernel
theorem dX0_scalePayments_4 : decode cX0_scalePayments 4 = .ok (.istore_n 2, 1) := by decide +kernel
theorem dX0_scalePayments_5 : decode cX0_scalePayments 5 = .ok (.iload_n 2, 1) := by decide +kernel
theorem dX0_scalePayments_6 : decode cX0_scalePayments 6 = .ok (.aload_n 0, 1) := by decide +kernel
theorem dX0_scalePayments_7 : decode cX0_scalePayments 7 = .ok (.getfield 27, 3) := by decide +kernel
theorem dX0_scalePayments_10 : decode cX0_scalePayments 10 = .ok (.if_icmp .ge 31, 3) := by decide +kernel
theorem dX0_scalePayments_13 : decode cX0_scalePayments 13 = .ok (.aload_n 0, 1) := by decide +kernel
theorem dX0_scalePayments_14 : decode cX0_scalePayments 14 = .ok (.getfield 30, 3) := by decide +kernel
theorem dX0_scalePayments_17 : decode cX0_scalePayments 17 = .ok (.iload_n 2, 1) := by decide +kernel
theorem dX0_scalePayments_18 : decode cX0_scalePayments 18 = .ok (.aload_n 0, 1) := by decide +kernel
theorem dX0_scalePayments_19 : decode cX0_scalePayments 19 = .ok (.getfield 30, 3) := by decide +kernel
theorem dX0_scalePayments_22 : decode cX0_scalePayments 22 = .ok (.iload_n 2, 1) := by decide +kernel
theorem dX0_scalePayments_23 : decode cX0_scalePayments 23 = .ok (.invokestatic 55, 3) := by decide +kernel
theorem dX0_scalePayments_26 : decode cX0_scalePayments 26 = .ok (.i2l, 1) := by decide +kernel
theorem dX0_scalePayments_27 : decode cX0_scalePayments 27 = .ok (.iload_n 1, 1) := by decide +kernel
theorem dX0_scalePayments_28 : decode cX0_scalePayments 28 = .ok (.invokestatic 80, 3) := by decide +kernel
theorem dX0_scalePayments_31 : decode cX0_scalePayments 31 = .ok (.l2i, 1) := by decide +kernel
theorem dX0_scalePayments_32 : decode cX0_scalePayments 32 = .ok (.invokestatic 37, 3) := by decide +kernel
theorem dX0_scalePayments_35 : decode cX0_scalePayments 35 = .ok (.iinc 2 1, 3) := by decide +kernel
theorem dX0_scalePayments_38 : decode cX0_scalePayments 38 = .ok (.goto (-33), 3) := by decide +kernel
theorem dX0_scalePayments_41 : decode cX0_scalePayments 41 = .ok (.return_, 1) := by decide +kernel
theorem dX0_percentOf_0 : decode cX0_percentOf 0 = .ok (.lload_n 0, 1) := by decide +kernel
theorem dX0_percentOf_1 : decode cX0_percentOf 1 = .ok (.iload_n 2, 1) := by decide +kernel
theorem dX0_percentOf_2 : decode cX0_percentOf 2 = .ok (.i2l, 1) := by decide +kernel
theorem dX0_percentOf_3 : decode cX0_percentOf 3 = .ok (.lmul, 1) := by decide +kernel
theorem dX0_percentOf_4 : decode cX0_percentOf 4 = .ok (.ldc2_w 94, 3) := by decide +kernel
theorem dX0_percentOf_7 : decode cX0_percentOf 7 = .ok (.ldiv, 1) := by decide +kernel
theorem dX0_percentOf_8 : decode cX0_percentOf 8 = .ok (.lreturn, 1) := by decide +kernel
set_option maxRecDepth 20000 in
theorem ggX0_followDebt_X0_debtNow : GoodIn wsX0_followDebt wsX0_debtNow := goodIn_r _ [7, 8, 9, 10, 11, 6, 12, 27, 28, 29, 30, 31, 32, 33, 34, 35, 36, 37] (by decide +kernel) (by decide +kernel)
set_option maxRecDepth 20000 in
theorem gX0_followDebt_X0_debtNow : GoodIn wsX0_followDebt (wsV RX0 44 RX0 yX0_debtNow wsX0_debtNow) := goodIn_app (goodIn_of _ (by decide +kernel)) ggX0_followDebt_X0_debtNow
set_option maxRecDepth 20000 in
theorem ggX0_followDebt_X0_layDebts : GoodIn wsX0_followDebt wsX0_layDebts := goodIn_r _ [16, 8, 17, 9, 18, 19, 20, 21, 6, 22, 10, 11, 12, 23, 24, 25, 26, 27, 28, 29, 30, 31, 32, 33, 34, 35, 36, 37] (by decide +kernel) (by decide +kernel)
set_option maxRecDepth 20000 in
theorem gX0_followDebt_X0_layDebts : GoodIn wsX0_followDebt (wsV RX0 41 RX0 yX0_layDebts wsX0_layDebts) := goodIn_app (goodIn_of _ (by decide +kernel)) ggX0_followDebt_X0_layDebts
theorem dX0_followDebt_0 : decode cX0_followDebt 0 = .ok (.aload_n 0, 1) := by decide +kernel
theorem dX0_followDebt_1 : decode cX0_followDebt 1 = .ok (.invokevirtual 44, 3) := by decide +kernel
theorem dX0_followDebt_4 : decode cX0_followDebt 4 = .ok (.i2l, 1) := by decide +kernel
theorem dX0_followDebt_5 : decode cX0_followDebt 5 = .ok (.lstore_n 1, 1) := by decide +kernel
theorem dX0_followDebt_6 : decode cX0_followDebt 6 = .ok (.aload_n 0, 1) := by decide +kernel
theorem dX0_followDebt_7 : decode cX0_followDebt 7 = .ok (.invokevirtual 41, 3) := by decide +kernel
theorem dX0_followDebt_10 : decode cX0_followDebt 10 = .ok (.aload_n 0, 1) := by decide +kernel
theorem dX0_followDebt_11 : decode cX0_followDebt 11 = .ok (.dup, 1) := by decide +kernel
theorem dX0_followDebt_12 : decode cX0_followDebt 12 = .ok (.getfield 48, 3) := by decide +kernel
theorem dX0_followDebt_15 : decode cX0_followDebt 15 = .ok (.aload_n 0, 1) := by decide +kernel
theorem dX0_followDebt_16 : decode cX0_followDebt 16 = .ok (.invokevirtual 44, 3) := by decide +kernel
theorem dX0_followDebt_19 : decode cX0_followDebt 19 = .ok (.i2l, 1) := by decide +kernel
theorem dX0_followDebt_20 : decode cX0_followDebt 20 = .ok (.lload_n 1, 1) := by decide +kernel
theorem dX0_followDebt_21 : decode cX0_followDebt 21 = .ok (.lsub, 1) := by decide +kernel
theorem dX0_followDebt_22 : decode cX0_followDebt 22 = .ok (.ladd, 1) := by decide +kernel
theorem dX0_followDebt_23 : decode cX0_followDebt 23 = .ok (.putfield 48, 3) := by decide +kernel
theorem dX0_followDebt_26 : decode cX0_followDebt 26 = .ok (.aload_n 0, 1) := by decide +kernel
theorem dX0_followDebt_27 : decode cX0_followDebt 27 = .ok (.getfield 48, 3) := by decide +kernel
theorem dX0_followDebt_30 : decode cX0_followDebt 30 = .ok (.lconst 0, 1) := by decide +kernel
theorem dX0_followDebt_31 : decode cX0_followDebt 31 = .ok (.lcmp, 1) := by decide +kernel
theorem dX0_followDebt_32 : decode cX0_followDebt 32 = .ok (.ifCond .ge 21, 3) := by decide +kernel
theorem dX0_followDebt_35 : decode cX0_followDebt 35 = .ok (.aload_n 0, 1) := by decide +kernel
theorem dX0_followDebt_36 : decode cX0_followDebt 36 = .ok (.dup, 1) := by decide +kernel
theorem dX0_followDebt_37 : decode cX0_followDebt 37 = .ok (.getfield 96, 3) := by decide +kernel
theorem dX0_followDebt_40 : decode cX0_followDebt 40 = .ok (.aload_n 0, 1) := by decide +kernel
theorem dX0_followDebt_41 : decode cX0_followDebt 41 = .ok (.getfield 48, 3) := by decide +kernel
theorem dX0_followDebt_44 : decode cX0_followDebt 44 = .ok (.lsub, 1) := by decide +kernel
theorem dX0_followDebt_45 : decode cX0_followDebt 45 = .ok (.putfield 96, 3) := by decide +kernel
theorem dX0_followDebt_48 : decode cX0_followDebt 48 = .ok (.aload_n 0, 1) := by decide +kernel
theorem dX0_followDebt_49 : decode cX0_followDebt 49 = .ok (.lconst 0, 1) := by decide +kernel
theorem dX0_followDebt_50 : decode cX0_followDebt 50 = .ok (.putfield 48, 3) := by decide +kernel
theorem dX0_followDebt_53 : decode cX0_followDebt 53 = .ok (.return_, 1) := by decide +kernel
set_option maxRecDepth 20000 in
theorem ggX0_giveUp_X0_debtNow : GoodIn wsX0_giveUp wsX0_debtNow := goodIn_r _ [7, 8, 9, 10, 11, 6, 12, 27, 28, 29, 30, 31, 32, 33, 34, 35, 36, 37] (by decide +kernel) (by decide +kernel)
set_option maxRecDepth 20000 in
theorem gX0_giveUp_X0_debtNow : GoodIn wsX0_giveUp (wsV RX0 44 RX0 yX0_debtNow wsX0_debtNow) := goodIn_app (goodIn_of _ (by decide +kernel)) ggX0_giveUp_X0_debtNow
set_option maxRecDepth 20000 in
theorem ggX0_giveUp_X0_layDebts : GoodIn wsX0_giveUp wsX0_layDebts := goodIn_r _ [16, 8, 17, 9, 18, 19, 20, 21, 6, 22, 10, 11, 12, 23, 24, 25, 26, 27, 28, 29, 30, 31, 32, 33, 34, 35, 36, 37] (by decide +kernel) (by decide +kernel)
set_option maxRecDepth 20000 in
theorem gX0_giveUp_X0_layDebts : GoodIn wsX0_giveUp (wsV RX0 41 RX0 yX0_layDebts wsX0_layDebts) := goodIn_app (goodIn_of _ (by decide +kernel)) ggX0_giveUp_X0_layDebts
theorem dX0_giveUp_0 : decode cX0_giveUp 0 = .ok (.aload_n 0, 1) := by decide +kernel
theorem dX0_giveUp_1 : decode cX0_giveUp 1 = .ok (.invokevirtual 44, 3) := by decide +kernel
theorem dX0_giveUp_4 : decode cX0_giveUp 4 = .ok (.i2l, 1) := by decide +kernel
theorem dX0_giveUp_5 : decode cX0_giveUp 5 = .ok (.lstore_n 3, 1) := by decide +kernel
theorem dX0_giveUp_6 : decode cX0_giveUp 6 = .ok (.aload_n 0, 1) := by decide +kernel
theorem dX0_giveUp_7 : decode cX0_giveUp 7 = .ok (.invokevirtual 41, 3) := by decide +kernel
theorem dX0_giveUp_10 : decode cX0_giveUp 10 = .ok (.lload_n 3, 1) := by decide +kernel
theorem dX0_giveUp_11 : decode cX0_giveUp 11 = .ok (.aload_n 0, 1) := by decide +kernel
theorem dX0_giveUp_12 : decode cX0_giveUp 12 = .ok (.invokevirtual 44, 3) := by decide +kernel
theorem dX0_giveUp_15 : decode cX0_giveUp 15 = .ok (.i2l, 1) := by decide +kernel
theorem dX0_giveUp_16 : decode cX0_giveUp 16 = .ok (.lsub, 1) := by decide +kernel
theorem dX0_giveUp_17 : decode cX0_giveUp 17 = .ok (.aload_n 0, 1) := by decide +kernel
theorem dX0_giveUp_18 : decode cX0_giveUp 18 = .ok (.getfield 48, 3) := by decide +kernel
theorem dX0_giveUp_21 : decode cX0_giveUp 21 = .ok (.lload_n 1, 1) := by decide +kernel
theorem dX0_giveUp_22 : decode cX0_giveUp 22 = .ok (.lsub, 1) := by decide +kernel
theorem dX0_giveUp_23 : decode cX0_giveUp 23 = .ok (.lsub, 1) := by decide +kernel
theorem dX0_giveUp_24 : decode cX0_giveUp 24 = .ok (.lstore 5, 2) := by decide +kernel
theorem dX0_giveUp_26 : decode cX0_giveUp 26 = .ok (.aload_n 0, 1) := by decide +kernel
theorem dX0_giveUp_27 : decode cX0_giveUp 27 = .ok (.lload_n 1, 1) := by decide +kernel
theorem dX0_giveUp_28 : decode cX0_giveUp 28 = .ok (.putfield 48, 3) := by decide +kernel
theorem dX0_giveUp_31 : decode cX0_giveUp 31 = .ok (.aload_n 0, 1) := by decide +kernel
theorem dX0_giveUp_32 : decode cX0_giveUp 32 = .ok (.dup, 1) := by decide +kernel
theorem dX0_giveUp_33 : decode cX0_giveUp 33 = .ok (.getfield 96, 3) := by decide +kernel
theorem dX0_giveUp_36 : decode cX0_giveUp 36 = .ok (.lload 5, 2) := by decide +kernel
theorem dX0_giveUp_38 : decode cX0_giveUp 38 = .ok (.ladd, 1) := by decide +kernel
theorem dX0_giveUp_39 : decode cX0_giveUp 39 = .ok (.putfield 96, 3) := by decide +kernel
theorem dX0_giveUp_42 : decode cX0_giveUp 42 = .ok (.lload 5, 2) := by decide +kernel
theorem dX0_giveUp_44 : decode cX0_giveUp 44 = .ok (.l2i, 1) := by decide +kernel
theorem dX0_giveUp_45 : decode cX0_giveUp 45 = .ok (.ireturn, 1) := by decide +kernel
end
section
theorem dX1_init_0 : decode cX1_init 0 = .ok (.aload_n 0, 1) := by decide +kernel
theorem dX1_init_1 : decode cX1_init 1 = .ok (.invokespecial 1, 3) := by decide +kernel
theorem dX1_init_4 : decode cX1_init 4 = .ok (.aload_n 0, 1) := by decide +kernel
theorem dX1_init_5 : decode cX1_init 5 = .ok (.bipush 6, 2) := by decide +kernel
theorem dX1_init_7 : decode cX1_init 7 = .ok (.anewarray 9, 3) := by decide +kernel
theorem dX1_init_10 : decode cX1_init 10 = .ok (.putfield 11, 3) := by decide +kernel
theorem dX1_init_13 : decode cX1_init 13 = .ok (.aload_n 0, 1) := by decide +kernel
theorem dX1_init_14 : decode cX1_init 14 = .ok (.iconst 0, 1) := by decide +kernel
theorem dX1_init_15 : decode cX1_init 15 = .ok (.putfield 15, 3) := by decide +kernel
theorem dX1_init_18 : decode cX1_init 18 = .ok (.return_, 1) := by decide +kernel
set_option maxRecDepth 20000 in
theorem ggX1_add_X1_mustBeWithin : GoodIn wsX1_add wsX1_mustBeWithin := goodIn_ca (goodIn_r _ [11, 12, 13] (by decide +kernel) (by decide +kernel)) (goodIn_sub (fun _ h => List.mem_cons_of_mem _ (List.mem_append_right _ h)) (by decide +kernel))
set_option maxRecDepth 20000 in
theorem gX1_add_X1_mustBeWithin : GoodIn wsX1_add (va_wsS RX1 19 yX1_mustBeWithin wsX1_mustBeWithin) := goodIn_app (goodIn_of _ (by decide +kernel)) ggX1_add_X1_mustBeWithin
set_option maxRecDepth 20000 in
theorem ggX1_add_X0_init : GoodIn wsX1_add wsX0_init := goodIn_r _ [16, 17, 18, 19, 20, 21, 22, 23, 24, 25, 26, 27, 28, 29, 30, 31, 32, 33, 34, 35, 7, 36, 37, 38, 39, 40, 41, 42, 43, 44, 45, 46, 47, 48, 49, 50, 51, 52, 55, 56, 57, 58, 59, 60, 61, 62, 63, 64, 65] (by decide +kernel) (by decide +kernel)
set_option maxRecDepth 20000 in
theorem gX1_add_X0_init : GoodIn wsX1_add (wsX0_init) := ggX1_add_X0_init
theorem dX1_add_0 : decode cX1_add 0 = .ok (.iload_n 1, 1) := by decide +kernel
theorem dX1_add_1 : decode cX1_add 1 = .ok (.iconst 1, 1) := by decide +kernel
theorem dX1_add_2 : decode cX1_add 2 = .ok (.bipush 60, 2) := by decide +kernel
theorem dX1_add_4 : decode cX1_add 4 = .ok (.invokestatic 19, 3) := by decide +kernel
theorem dX1_add_7 : decode cX1_add 7 = .ok (.iload_n 2, 1) := by decide +kernel
theorem dX1_add_8 : decode cX1_add 8 = .ok (.iconst 1, 1) := by decide +kernel
theorem dX1_add_9 : decode cX1_add 9 = .ok (.sipush 10000, 3) := by decide +kernel
theorem dX1_add_12 : decode cX1_add 12 = .ok (.invokestatic 19, 3) := by decide +kernel
theorem dX1_add_15 : decode cX1_add 15 = .ok (.iload_n 3, 1) := by decide +kernel
theorem dX1_add_16 : decode cX1_add 16 = .ok (.iconst 0, 1) := by decide +kernel
theorem dX1_add_17 : decode cX1_add 17 = .ok (.bipush 12, 2) := by decide +kernel
theorem dX1_add_19 : decode cX1_add 19 = .ok (.invokestatic 19, 3) := by decide +kernel
theorem dX1_add_22 : decode cX1_add 22 = .ok (.iload 4, 2) := by decide +kernel
theorem dX1_add_24 : decode cX1_add 24 = .ok (.iconst 0, 1) := by decide +kernel
theorem dX1_add_25 : decode cX1_add 25 = .ok (.sipush 1000, 3) := by decide +kernel
theorem dX1_add_28 : decode cX1_add 28 = .ok (.invokestatic 19, 3) := by decide +kernel
theorem dX1_add_31 : decode cX1_add 31 = .ok (.iload 5, 2) := by decide +kernel
theorem dX1_add_33 : decode cX1_add 33 = .ok (.iconst 0, 1) := by decide +kernel
theorem dX1_add_34 : decode cX1_add 34 = .ok (.sipush 20000, 3) := by decide +kernel
theorem dX1_add_37 : decode cX1_add 37 = .ok (.invokestatic 19, 3) := by decide +kernel
theorem dX1_add_40 : decode cX1_add 40 = .ok (.iload 6, 2) := by decide +kernel
theorem dX1_add_42 : decode cX1_add 42 = .ok (.iconst 1, 1) := by decide +kernel
theorem dX1_add_43 : decode cX1_add 43 = .ok (.bipush 120, 2) := by decide +kernel
theorem dX1_add_45 : decode cX1_add 45 = .ok (.invokestatic 19, 3) := by decide +kernel
theorem dX1_add_48 : decode cX1_add 48 = .ok (.iload 7, 2) := by decide +kernel
theorem dX1_add_50 : decode cX1_add 50 = .ok (.iconst 0, 1) := by decide +kernel
theorem dX1_add_51 : decode cX1_add 51 = .ok (.sipush 10000, 3) := by decide +kernel
theorem dX1_add_54 : decode cX1_add 54 = .ok (.invokestatic 19, 3) := by decide +kernel
theorem dX1_add_57 : decode cX1_add 57 = .ok (.aload_n 0, 1) := by decide +kernel
theorem dX1_add_58 : decode cX1_add 58 = .ok (.getfield 15, 3) := by decide +kernel
theorem dX1_add_61 : decode cX1_add 61 = .ok (.istore 8, 2) := by decide +kernel
theorem dX1_add_63 : decode cX1_add 63 = .ok (.iload 8, 2) := by decide +kernel
theorem dX1_add_65 : decode cX1_add 65 = .ok (.ifCond .lt 13, 3) := by decide +kernel
theorem dX1_add_68 : decode cX1_add 68 = .ok (.iload 8, 2) := by decide +kernel
theorem dX1_add_70 : decode cX1_add 70 = .ok (.aload_n 0, 1) := by decide +kernel
theorem dX1_add_71 : decode cX1_add 71 = .ok (.getfield 11, 3) := by decide +kernel
theorem dX1_add_74 : decode cX1_add 74 = .ok (.arraylength, 1) := by decide +kernel
theorem dX1_add_75 : decode cX1_add 75 = .ok (.if_icmp .lt 13, 3) := by decide +kernel
theorem dX1_add_78 : decode cX1_add 78 = .ok (.new 23, 3) := by decide +kernel
theorem dX1_add_81 : decode cX1_add 81 = .ok (.dup, 1) := by decide +kernel
theorem dX1_add_82 : decode cX1_add 82 = .ok (.ldc 25, 2) := by decide +kernel
theorem dX1_add_84 : decode cX1_add 84 = .ok (.invokespecial 27, 3) := by decide +kernel
theorem dX1_add_87 : decode cX1_add 87 = .ok (.athrow, 1) := by decide +kernel
theorem dX1_add_88 : decode cX1_add 88 = .ok (.aload_n 0, 1) := by decide +kernel
theorem dX1_add_89 : decode cX1_add 89 = .ok (.getfield 11, 3) := by decide +kernel
theorem dX1_add_92 : decode cX1_add 92 = .ok (.iload 8, 2) := by decide +kernel
theorem dX1_add_94 : decode cX1_add 94 = .ok (.new 9, 3) := by decide +kernel
theorem dX1_add_97 : decode cX1_add 97 = .ok (.dup, 1) := by decide +kernel
theorem dX1_add_98 : decode cX1_add 98 = .ok (.iload_n 1, 1) := by decide +kernel
theorem dX1_add_99 : decode cX1_add 99 = .ok (.iload_n 2, 1) := by decide +kernel
theorem dX1_add_100 : decode cX1_add 100 = .ok (.iload_n 3, 1) := by decide +kernel
theorem dX1_add_101 : decode cX1_add 101 = .ok (.iload 4, 2) := by decide +kernel
theorem dX1_add_103 : decode cX1_add 103 = .ok (.iload 5, 2) := by decide +kernel
theorem dX1_add_105 : decode cX1_add 105 = .ok (.iload 6, 2) := by decide +kernel
theorem dX1_add_107 : decode cX1_add 107 = .ok (.iload 7, 2) := by decide +kernel
theorem dX1_add_109 : decode cX1_add 109 = .ok (.invokespecial 30, 3) := by decide +kernel
theorem dX1_add_112 : decode cX1_add 112 = .ok (.aastore, 1) := by decide +kernel
theorem dX1_add_113 : decode cX1_add 113 = .ok (.aload_n 0, 1) := by decide +kernel
theorem dX1_add_114 : decode cX1_add 114 = .ok (.iload 8, 2) := by decide +kernel
theorem dX1_add_116 : decode cX1_add 116 = .ok (.iconst 1, 1) := by decide +kernel
theorem dX1_add_117 : decode cX1_add 117 = .ok (.iadd, 1) := by decide +kernel
theorem dX1_add_118 : decode cX1_add 118 = .ok (.putfield 15, 3) := by decide +kernel
theorem dX1_add_121 : decode cX1_add 121 = .ok (.iload 8, 2) := by decide +kernel
theorem dX1_add_123 : decode cX1_add 123 = .ok (.ireturn, 1) := by decide +kernel
set_option maxRecDepth 20000 in
theorem ggX1_pass_X1_mustBeWithin : GoodIn wsX1_pass wsX1_mustBeWithin := goodIn_ca (goodIn_r _ [5, 6, 7] (by decide +kernel) (by decide +kernel)) (goodIn_sub (fun _ h => List.mem_cons_of_mem _ (List.mem_append_right _ h)) (by decide +kernel))
set_option maxRecDepth 20000 in
theorem gX1_pass_X1_mustBeWithin : GoodIn wsX1_pass (va_wsS RX1 19 yX1_mustBeWithin wsX1_mustBeWithin) := goodIn_app (goodIn_of _ (by decide +kernel)) ggX1_pass_X1_mustBeWithin
set_option maxRecDepth 20000 in
theorem ggX1_pass_X0_endsWithin : GoodIn wsX1_pass wsX0_endsWithin := goodIn_r _ [12, 13, 14, 15, 16, 17, 18, 19, 11, 20, 21, 22, 23, 24, 25, 26, 27, 28, 29, 30, 31, 32, 33, 34, 35, 36, 39, 40, 41, 42, 43, 44, 45, 46, 47, 48, 49] (by decide +kernel) (by decide +kernel)
set_option maxRecDepth 20000 in
theorem gX1_pass_X0_endsWithin : GoodIn wsX1_pass (wsV RX1 33 RX0 yX0_endsWithin wsX0_endsWithin) := goodIn_app (goodIn_of _ (by decide +kernel)) ggX1_pass_X0_endsWithin
theorem dX1_pass_0 : decode cX1_pass 0 = .ok (.iload_n 1, 1) := by decide +kernel
theorem dX1_pass_1 : decode cX1_pass 1 = .ok (.iconst 1, 1) := by decide +kernel
theorem dX1_pass_2 : decode cX1_pass 2 = .ok (.bipush 24, 2) := by decide +kernel
theorem dX1_pass_4 : decode cX1_pass 4 = .ok (.invokestatic 19, 3) := by decide +kernel
theorem dX1_pass_7 : decode cX1_pass 7 = .ok (.iconst 0, 1) := by decide +kernel
theorem dX1_pass_8 : decode cX1_pass 8 = .ok (.istore_n 2, 1) := by decide +kernel
theorem dX1_pass_9 : decode cX1_pass 9 = .ok (.aload_n 0, 1) := by decide +kernel
theorem dX1_pass_10 : decode cX1_pass 10 = .ok (.getfield 11, 3) := by decide +kernel
theorem dX1_pass_13 : decode cX1_pass 13 = .ok (.astore_n 3, 1) := by decide +kernel
theorem dX1_pass_14 : decode cX1_pass 14 = .ok (.aload_n 3, 1) := by decide +kernel
theorem dX1_pass_15 : decode cX1_pass 15 = .ok (.arraylength, 1) := by decide +kernel
theorem dX1_pass_16 : decode cX1_pass 16 = .ok (.istore 4, 2) := by decide +kernel
theorem dX1_pass_18 : decode cX1_pass 18 = .ok (.iconst 0, 1) := by decide +kernel
theorem dX1_pass_19 : decode cX1_pass 19 = .ok (.istore 5, 2) := by decide +kernel
theorem dX1_pass_21 : decode cX1_pass 21 = .ok (.iload 5, 2) := by decide +kernel
theorem dX1_pass_23 : decode cX1_pass 23 = .ok (.iload 4, 2) := by decide +kernel
theorem dX1_pass_25 : decode cX1_pass 25 = .ok (.if_icmp .ge 32, 3) := by decide +kernel
theorem dX1_pass_28 : decode cX1_pass 28 = .ok (.aload_n 3, 1) := by decide +kernel
theorem dX1_pass_29 : decode cX1_pass 29 = .ok (.iload 5, 2) := by decide +kernel
theorem dX1_pass_31 : decode cX1_pass 31 = .ok (.aaload, 1) := by decide +kernel
theorem dX1_pass_32 : decode cX1_pass 32 = .ok (.astore 6, 2) := by decide +kernel
theorem dX1_pass_34 : decode cX1_pass 34 = .ok (.aload 6, 2) := by decide +kernel
theorem dX1_pass_36 : decode cX1_pass 36 = .ok (.ifnull 15, 3) := by decide +kernel
theorem dX1_pass_39 : decode cX1_pass 39 = .ok (.aload 6, 2) := by decide +kernel
theorem dX1_pass_41 : decode cX1_pass 41 = .ok (.iload_n 1, 1) := by decide +kernel
theorem dX1_pass_42 : decode cX1_pass 42 = .ok (.invokevirtual 33, 3) := by decide +kernel
theorem dX1_pass_45 : decode cX1_pass 45 = .ok (.ifCond .eq 6, 3) := by decide +kernel
theorem dX1_pass_48 : decode cX1_pass 48 = .ok (.iinc 2 1, 3) := by decide +kernel
theorem dX1_pass_51 : decode cX1_pass 51 = .ok (.iinc 5 1, 3) := by decide +kernel
theorem dX1_pass_54 : decode cX1_pass 54 = .ok (.goto (-33), 3) := by decide +kernel
theorem dX1_pass_57 : decode cX1_pass 57 = .ok (.iload_n 2, 1) := by decide +kernel
theorem dX1_pass_58 : decode cX1_pass 58 = .ok (.ireturn, 1) := by decide +kernel
set_option maxRecDepth 20000 in
theorem ggX1_review_X1_leaseOf : GoodIn wsX1_review wsX1_leaseOf := goodIn_ca (goodIn_r _ [7, 8, 9, 10, 70, 71] (by decide +kernel) (by decide +kernel)) (goodIn_sub (fun _ h => List.mem_cons_of_mem _ (List.mem_append_left _ (List.mem_append_right _ h))) (by decide +kernel))
set_option maxRecDepth 20000 in
theorem gX1_review_X1_leaseOf : GoodIn wsX1_review (wsV RX1 37 RX1 yX1_leaseOf wsX1_leaseOf) := goodIn_app (goodIn_of _ (by decide +kernel)) ggX1_review_X1_leaseOf
set_option maxRecDepth 20000 in
theorem ggX1_review_X1_mustBeWithin : GoodIn wsX1_review wsX1_mustBeWithin := goodIn_ca (goodIn_r _ [13, 14, 15] (by decide +kernel) (by decide +kernel)) (goodIn_sub (fun _ h => List.mem_cons_of_mem _ (List.mem_append_right _ h)) (by decide +kernel))
set_option maxRecDepth 20000 in
theorem gX1_review_X1_mustBeWithin : GoodIn wsX1_review (va_wsS RX1 19 yX1_mustBeWithin wsX1_mustBeWithin) := goodIn_app (goodIn_of _ (by decide +kernel)) ggX1_review_X1_mustBeWithin
set_option maxRecDepth 20000 in
theorem ggX1_review_X1_mustGoOn : GoodIn wsX1_review wsX1_mustGoOn := goodIn_ca (goodIn_r _ [18, 1, 2, 19, 20, 21, 22, 23, 24, 25, 72, 73, 74, 75, 76, 77, 78, 79, 80, 81, 82] (by decide +kernel) (by decide +kernel)) (goodIn_sub (fun _ h => List.mem_cons_of_mem _ (List.mem_append_left _ (List.mem_append_left _ (List.mem_append_right _ h)))) (by decide +kernel))
set_option maxRecDepth 20000 in
theorem gX1_review_X1_mustGoOn : GoodIn wsX1_review (va_wsS RX1 41 yX1_mustGoOn wsX1_mustGoOn) := goodIn_app (goodIn_of _ (by decide +kernel)) ggX1_review_X1_mustGoOn
set_option maxRecDepth 20000 in
theorem ggX1_review_X0_wouldPassTheMost : GoodIn wsX1_review wsX0_wouldPassTheMost := goodIn_r _ [29, 25, 24, 30, 31, 32, 33, 22, 34, 35, 36, 37, 38, 72, 73, 74, 75, 76, 77, 78, 79, 80, 81, 82] (by decide +kernel) (by decide +kernel)
set_option maxRecDepth 20000 in
theorem gX1_review_X0_wouldPassTheMost : GoodIn wsX1_review (wsV RX1 45 RX0 yX0_wouldPassTheMost wsX0_wouldPassTheMost) := goodIn_app (goodIn_of _ (by decide +kernel)) ggX1_review_X0_wouldPassTheMost
set_option maxRecDepth 20000 in
theorem ggX1_review_X0_reviewPayments : GoodIn wsX1_review wsX0_reviewPayments := goodIn_r _ [42, 43, 44, 45, 22, 46, 25, 24, 30, 32, 33, 34, 35, 36, 37, 38, 47, 48, 49, 50, 51, 52, 53, 54, 55, 56, 57, 58, 59, 60, 61, 62, 63, 64, 65, 66, 67, 68, 31, 72, 73, 74, 75, 76, 77, 78, 79, 80, 81, 82] (by decide +kernel) (by decide +kernel)
set_option maxRecDepth 20000 in
theorem gX1_review_X0_reviewPayments : GoodIn wsX1_review (wsV RX1 50 RX0 yX0_reviewPayments wsX0_reviewPayments) := goodIn_app (goodIn_of _ (by decide +kernel)) ggX1_review_X0_reviewPayments
set_option maxRecDepth 20000 in
theorem ggX1_review_X0_debtNow : GoodIn wsX1_review wsX0_debtNow := goodIn_r _ [59, 60, 25, 32, 33, 22, 34, 72, 73, 74, 75, 76, 77, 78, 79, 80, 81, 82] (by decide +kernel) (by decide +kernel)
set_option maxRecDepth 20000 in
theorem gX1_review_X0_debtNow : GoodIn wsX1_review (wsV RX1 54 RX0 yX0_debtNow wsX0_debtNow) := goodIn_app (goodIn_of _ (by decide +kernel)) ggX1_review_X0_debtNow
theorem dX1_review_0 : decode cX1_review 0 = .ok (.aload_n 0, 1) := by decide +kernel
theorem dX1_review_1 : decode cX1_review 1 = .ok (.iload_n 1, 1) := by decide +kernel
theorem dX1_review_2 : decode cX1_review 2 = .ok (.invokevirtual 37, 3) := by decide +kernel
theorem dX1_review_5 : decode cX1_review 5 = .ok (.astore_n 3, 1) := by decide +kernel
theorem dX1_review_6 : decode cX1_review 6 = .ok (.iload_n 2, 1) := by decide +kernel
theorem dX1_review_7 : decode cX1_review 7 = .ok (.bipush (-50), 2) := by decide +kernel
theorem dX1_review_9 : decode cX1_review 9 = .ok (.bipush 100, 2) := by decide +kernel
theorem dX1_review_11 : decode cX1_review 11 = .ok (.invokestatic 19, 3) := by decide +kernel
theorem dX1_review_14 : decode cX1_review 14 = .ok (.aload_n 3, 1) := by decide +kernel
theorem dX1_review_15 : decode cX1_review 15 = .ok (.invokestatic 41, 3) := by decide +kernel
theorem dX1_review_18 : decode cX1_review 18 = .ok (.aload_n 3, 1) := by decide +kernel
theorem dX1_review_19 : decode cX1_review 19 = .ok (.bipush 100, 2) := by decide +kernel
theorem dX1_review_21 : decode cX1_review 21 = .ok (.iload_n 2, 1) := by decide +kernel
theorem dX1_review_22 : decode cX1_review 22 = .ok (.iadd, 1) := by decide +kernel
theorem dX1_review_23 : decode cX1_review 23 = .ok (.invokevirtual 45, 3) := by decide +kernel
theorem dX1_review_26 : decode cX1_review 26 = .ok (.ifCond .eq 13, 3) := by decide +kernel
theorem dX1_review_29 : decode cX1_review 29 = .ok (.new 23, 3) := by decide +kernel
theorem dX1_review_32 : decode cX1_review 32 = .ok (.dup, 1) := by decide +kernel
theorem dX1_review_33 : decode cX1_review 33 = .ok (.ldc 48, 2) := by decide +kernel
theorem dX1_review_35 : decode cX1_review 35 = .ok (.invokespecial 27, 3) := by decide +kernel
theorem dX1_review_38 : decode cX1_review 38 = .ok (.athrow, 1) := by decide +kernel
theorem dX1_review_39 : decode cX1_review 39 = .ok (.aload_n 3, 1) := by decide +kernel
theorem dX1_review_40 : decode cX1_review 40 = .ok (.bipush 100, 2) := by decide +kernel
theorem dX1_review_42 : decode cX1_review 42 = .ok (.iload_n 2, 1) := by decide +kernel
theorem dX1_review_43 : decode cX1_review 43 = .ok (.iadd, 1) := by decide +kernel
theorem dX1_review_44 : decode cX1_review 44 = .ok (.invokevirtual 50, 3) := by decide +kernel
theorem dX1_review_47 : decode cX1_review 47 = .ok (.aload_n 3, 1) := by decide +kernel
theorem dX1_review_48 : decode cX1_review 48 = .ok (.invokevirtual 54, 3) := by decide +kernel
theorem dX1_review_51 : decode cX1_review 51 = .ok (.ireturn, 1) := by decide +kernel
set_option maxRecDepth 20000 in
theorem ggX1_lengthen_X1_leaseOf : GoodIn wsX1_lengthen wsX1_leaseOf := goodIn_ca (goodIn_r _ [7, 8, 9, 10, 66, 67] (by decide +kernel) (by decide +kernel)) (goodIn_sub (fun _ h => List.mem_cons_of_mem _ (List.mem_append_left _ (List.mem_append_right _ h))) (by decide +kernel))
set_option maxRecDepth 20000 in
theorem gX1_lengthen_X1_leaseOf : GoodIn wsX1_lengthen (wsV RX1 37 RX1 yX1_leaseOf wsX1_leaseOf) := goodIn_app (goodIn_of _ (by decide +kernel)) ggX1_lengthen_X1_leaseOf
set_option maxRecDepth 20000 in
theorem ggX1_lengthen_X1_mustBeWithin : GoodIn wsX1_lengthen wsX1_mustBeWithin := goodIn_ca (goodIn_r _ [13, 14, 15] (by decide +kernel) (by decide +kernel)) (goodIn_sub (fun _ h => List.mem_cons_of_mem _ (List.mem_append_right _ h)) (by decide +kernel))
set_option maxRecDepth 20000 in
theorem gX1_lengthen_X1_mustBeWithin : GoodIn wsX1_lengthen (va_wsS RX1 19 yX1_mustBeWithin wsX1_mustBeWithin) := goodIn_app (goodIn_of _ (by decide +kernel)) ggX1_lengthen_X1_mustBeWithin
set_option maxRecDepth 20000 in
theorem ggX1_lengthen_X1_mustGoOn : GoodIn wsX1_lengthen wsX1_mustGoOn := goodIn_ca (goodIn_r _ [18, 1, 2, 19, 20, 21, 22, 23, 24, 25, 68, 69, 70, 71, 72, 73, 74, 75, 76, 77, 78] (by decide +kernel) (by decide +kernel)) (goodIn_sub (fun _ h => List.mem_cons_of_mem _ (List.mem_append_left _ (List.mem_append_left _ (List.mem_append_right _ h)))) (by decide +kernel))
set_option maxRecDepth 20000 in
theorem gX1_lengthen_X1_mustGoOn : GoodIn wsX1_lengthen (va_wsS RX1 41 yX1_mustGoOn wsX1_mustGoOn) := goodIn_app (goodIn_of _ (by decide +kernel)) ggX1_lengthen_X1_mustGoOn
set_option maxRecDepth 20000 in
theorem ggX1_lengthen_X0_hasRoomFor : GoodIn wsX1_lengthen wsX0_hasRoomFor := goodIn_r _ [29, 24, 68, 69, 70, 71, 72, 73, 74, 75, 76, 77, 78] (by decide +kernel) (by decide +kernel)
set_option maxRecDepth 20000 in
theorem gX1_lengthen_X0_hasRoomFor : GoodIn wsX1_lengthen (wsV RX1 58 RX0 yX0_hasRoomFor wsX0_hasRoomFor) := goodIn_app (goodIn_of _ (by decide +kernel)) ggX1_lengthen_X0_hasRoomFor
set_option maxRecDepth 20000 in
theorem ggX1_lengthen_X0_putBehind : GoodIn wsX1_lengthen wsX0_putBehind := goodIn_r _ [33, 24, 34, 35, 36, 37, 38, 39, 40, 22, 41, 42, 43, 44, 45, 46, 47, 48, 49, 50, 51, 52, 25, 53, 54, 55, 56, 57, 58, 59, 60, 61, 62, 63, 64, 68, 69, 70, 71, 72, 73, 74, 75, 76, 77, 78] (by decide +kernel) (by decide +kernel)
set_option maxRecDepth 20000 in
theorem gX1_lengthen_X0_putBehind : GoodIn wsX1_lengthen (wsV RX1 63 RX0 yX0_putBehind wsX0_putBehind) := goodIn_app (goodIn_of _ (by decide +kernel)) ggX1_lengthen_X0_putBehind
set_option maxRecDepth 20000 in
theorem ggX1_lengthen_X0_debtNow : GoodIn wsX1_lengthen wsX0_debtNow := goodIn_r _ [51, 52, 25, 53, 54, 22, 55, 68, 69, 70, 71, 72, 73, 74, 75, 76, 77, 78] (by decide +kernel) (by decide +kernel)
set_option maxRecDepth 20000 in
theorem gX1_lengthen_X0_debtNow : GoodIn wsX1_lengthen (wsV RX1 54 RX0 yX0_debtNow wsX0_debtNow) := goodIn_app (goodIn_of _ (by decide +kernel)) ggX1_lengthen_X0_debtNow
theorem dX1_lengthen_0 : decode cX1_lengthen 0 = .ok (.aload_n 0, 1) := by decide +kernel
theorem dX1_lengthen_1 : decode cX1_lengthen 1 = .ok (.iload_n 1, 1) := by decide +kernel
theorem dX1_lengthen_2 : decode cX1_lengthen 2 = .ok (.invokevirtual 37, 3) := by decide +kernel
theorem dX1_lengthen_5 : decode cX1_lengthen 5 = .ok (.astore 4, 2) := by decide +kernel
theorem dX1_lengthen_7 : decode cX1_lengthen 7 = .ok (.iload_n 2, 1) := by decide +kernel
theorem dX1_lengthen_8 : decode cX1_lengthen 8 = .ok (.iconst 1, 1) := by decide +kernel
theorem dX1_lengthen_9 : decode cX1_lengthen 9 = .ok (.bipush 36, 2) := by decide +kernel
theorem dX1_lengthen_11 : decode cX1_lengthen 11 = .ok (.invokestatic 19, 3) := by decide +kernel
theorem dX1_lengthen_14 : decode cX1_lengthen 14 = .ok (.iload_n 3, 1) := by decide +kernel
theorem dX1_lengthen_15 : decode cX1_lengthen 15 = .ok (.iconst 0, 1) := by decide +kernel
theorem dX1_lengthen_16 : decode cX1_lengthen 16 = .ok (.sipush 10000, 3) := by decide +kernel
theorem dX1_lengthen_19 : decode cX1_lengthen 19 = .ok (.invokestatic 19, 3) := by decide +kernel
theorem dX1_lengthen_22 : decode cX1_lengthen 22 = .ok (.aload 4, 2) := by decide +kernel
theorem dX1_lengthen_24 : decode cX1_lengthen 24 = .ok (.invokestatic 41, 3) := by decide +kernel
theorem dX1_lengthen_27 : decode cX1_lengthen 27 = .ok (.aload 4, 2) := by decide +kernel
theorem dX1_lengthen_29 : decode cX1_lengthen 29 = .ok (.iload_n 2, 1) := by decide +kernel
theorem dX1_lengthen_30 : decode cX1_lengthen 30 = .ok (.invokevirtual 58, 3) := by decide +kernel
theorem dX1_lengthen_33 : decode cX1_lengthen 33 = .ok (.ifCond .ne 13, 3) := by decide +kernel
theorem dX1_lengthen_36 : decode cX1_lengthen 36 = .ok (.new 23, 3) := by decide +kernel
theorem dX1_lengthen_39 : decode cX1_lengthen 39 = .ok (.dup, 1) := by decide +kernel
theorem dX1_lengthen_40 : decode cX1_lengthen 40 = .ok (.ldc 61, 2) := by decide +kernel
theorem dX1_lengthen_42 : decode cX1_lengthen 42 = .ok (.invokespecial 27, 3) := by decide +kernel
theorem dX1_lengthen_45 : decode cX1_lengthen 45 = .ok (.athrow, 1) := by decide +kernel
theorem dX1_lengthen_46 : decode cX1_lengthen 46 = .ok (.aload 4, 2) := by decide +kernel
theorem dX1_lengthen_48 : decode cX1_lengthen 48 = .ok (.iload_n 2, 1) := by decide +kernel
theorem dX1_lengthen_49 : decode cX1_lengthen 49 = .ok (.iload_n 3, 1) := by decide +kernel
theorem dX1_lengthen_50 : decode cX1_lengthen 50 = .ok (.invokevirtual 63, 3) := by decide +kernel
theorem dX1_lengthen_53 : decode cX1_lengthen 53 = .ok (.aload 4, 2) := by decide +kernel
theorem dX1_lengthen_55 : decode cX1_lengthen 55 = .ok (.invokevirtual 54, 3) := by decide +kernel
theorem dX1_lengthen_58 : decode cX1_lengthen 58 = .ok (.ireturn, 1) := by decide +kernel
set_option maxRecDepth 20000 in
theorem ggX1_shorten_X1_leaseOf : GoodIn wsX1_shorten wsX1_leaseOf := goodIn_ca (goodIn_r _ [7, 8, 9, 10, 55, 56] (by decide +kernel) (by decide +kernel)) (goodIn_sub (fun _ h => List.mem_cons_of_mem _ (List.mem_append_left _ (List.mem_append_right _ h))) (by decide +kernel))
set_option maxRecDepth 20000 in
theorem gX1_shorten_X1_leaseOf : GoodIn wsX1_shorten (wsV RX1 37 RX1 yX1_leaseOf wsX1_leaseOf) := goodIn_app (goodIn_of _ (by decide +kernel)) ggX1_shorten_X1_leaseOf
set_option maxRecDepth 20000 in
theorem ggX1_shorten_X1_mustBeWithin : GoodIn wsX1_shorten wsX1_mustBeWithin := goodIn_ca (goodIn_r _ [13, 14, 15] (by decide +kernel) (by decide +kernel)) (goodIn_sub (fun _ h => List.mem_cons_of_mem _ (List.mem_append_right _ h)) (by decide +kernel))
set_option maxRecDepth 20000 in
theorem gX1_shorten_X1_mustBeWithin : GoodIn wsX1_shorten (va_wsS RX1 19 yX1_mustBeWithin wsX1_mustBeWithin) := goodIn_app (goodIn_of _ (by decide +kernel)) ggX1_shorten_X1_mustBeWithin
set_option maxRecDepth 20000 in
theorem ggX1_shorten_X0_monthsLeft : GoodIn wsX1_shorten wsX0_monthsLeft := goodIn_r _ [20, 21, 22, 57, 58, 59, 60, 61, 62, 63, 64, 65, 66, 67] (by decide +kernel) (by decide +kernel)
set_option maxRecDepth 20000 in
theorem gX1_shorten_X0_monthsLeft : GoodIn wsX1_shorten (wsV RX1 67 RX0 yX0_monthsLeft wsX0_monthsLeft) := goodIn_app (goodIn_of _ (by decide +kernel)) ggX1_shorten_X0_monthsLeft
set_option maxRecDepth 20000 in
theorem ggX1_shorten_X0_takeOffTheEnd : GoodIn wsX1_shorten wsX0_takeOffTheEnd := goodIn_r _ [26, 21, 27, 28, 17, 18, 19, 20, 22, 29, 30, 31, 32, 33, 34, 35, 36, 37, 38, 39, 40, 41, 42, 43, 44, 45, 46, 47, 48, 49, 50, 51, 52, 53, 54, 57, 58, 59, 60, 61, 62, 63, 64, 65, 66, 67] (by decide +kernel) (by decide +kernel)
set_option maxRecDepth 20000 in
theorem gX1_shorten_X0_takeOffTheEnd : GoodIn wsX1_shorten (wsV RX1 72 RX0 yX0_takeOffTheEnd wsX0_takeOffTheEnd) := goodIn_app (goodIn_of _ (by decide +kernel)) ggX1_shorten_X0_takeOffTheEnd
theorem dX1_shorten_0 : decode cX1_shorten 0 = .ok (.aload_n 0, 1) := by decide +kernel
theorem dX1_shorten_1 : decode cX1_shorten 1 = .ok (.iload_n 1, 1) := by decide +kernel
theorem dX1_shorten_2 : decode cX1_shorten 2 = .ok (.invokevirtual 37, 3) := by decide +kernel
theorem dX1_shorten_5 : decode cX1_shorten 5 = .ok (.astore_n 3, 1) := by decide +kernel
theorem dX1_shorten_6 : decode cX1_shorten 6 = .ok (.iload_n 2, 1) := by decide +kernel
theorem dX1_shorten_7 : decode cX1_shorten 7 = .ok (.iconst 1, 1) := by decide +kernel
theorem dX1_shorten_8 : decode cX1_shorten 8 = .ok (.bipush 60, 2) := by decide +kernel
theorem dX1_shorten_10 : decode cX1_shorten 10 = .ok (.invokestatic 19, 3) := by decide +kernel
theorem dX1_shorten_13 : decode cX1_shorten 13 = .ok (.aload_n 3, 1) := by decide +kernel
theorem dX1_shorten_14 : decode cX1_shorten 14 = .ok (.invokevirtual 67, 3) := by decide +kernel
theorem dX1_shorten_17 : decode cX1_shorten 17 = .ok (.iload_n 2, 1) := by decide +kernel
theorem dX1_shorten_18 : decode cX1_shorten 18 = .ok (.if_icmp .gt 13, 3) := by decide +kernel
theorem dX1_shorten_21 : decode cX1_shorten 21 = .ok (.new 23, 3) := by decide +kernel
theorem dX1_shorten_24 : decode cX1_shorten 24 = .ok (.dup, 1) := by decide +kernel
theorem dX1_shorten_25 : decode cX1_shorten 25 = .ok (.ldc 70, 2) := by decide +kernel
theorem dX1_shorten_27 : decode cX1_shorten 27 = .ok (.invokespecial 27, 3) := by decide +kernel
theorem dX1_shorten_30 : decode cX1_shorten 30 = .ok (.athrow, 1) := by decide +kernel
theorem dX1_shorten_31 : decode cX1_shorten 31 = .ok (.aload_n 3, 1) := by decide +kernel
theorem dX1_shorten_32 : decode cX1_shorten 32 = .ok (.iload_n 2, 1) := by decide +kernel
theorem dX1_shorten_33 : decode cX1_shorten 33 = .ok (.invokevirtual 72, 3) := by decide +kernel
theorem dX1_shorten_36 : decode cX1_shorten 36 = .ok (.ireturn, 1) := by decide +kernel
set_option maxRecDepth 20000 in
theorem ggX1_cut_X1_leaseOf : GoodIn wsX1_cut wsX1_leaseOf := goodIn_ca (goodIn_r _ [5, 6, 7, 8, 65, 66] (by decide +kernel) (by decide +kernel)) (goodIn_sub (fun _ h => List.mem_cons_of_mem _ (List.mem_append_left _ (List.mem_append_left _ (List.mem_append_right _ h)))) (by decide +kernel))
set_option maxRecDepth 20000 in
theorem gX1_cut_X1_leaseOf : GoodIn wsX1_cut (wsV RX1 37 RX1 yX1_leaseOf wsX1_leaseOf) := goodIn_app (goodIn_of _ (by decide +kernel)) ggX1_cut_X1_leaseOf
set_option maxRecDepth 20000 in
theorem ggX1_cut_X1_mustBeWithin : GoodIn wsX1_cut wsX1_mustBeWithin := goodIn_ca (goodIn_r _ [11, 12, 13] (by decide +kernel) (by decide +kernel)) (goodIn_sub (fun _ h => List.mem_cons_of_mem _ (List.mem_append_left _ (List.mem_append_right _ h))) (by decide +kernel))
set_option maxRecDepth 20000 in
theorem gX1_cut_X1_mustBeWithin : GoodIn wsX1_cut (va_wsS RX1 19 yX1_mustBeWithin wsX1_mustBeWithin) := goodIn_app (goodIn_of _ (by decide +kernel)) ggX1_cut_X1_mustBeWithin
set_option maxRecDepth 20000 in
theorem ggX1_cut_X1_mustGoOn : GoodIn wsX1_cut wsX1_mustGoOn := goodIn_ca (goodIn_r _ [16, 17, 18, 19, 20, 21, 22, 23, 24, 25, 67, 68, 69, 70, 71, 72, 73, 74, 75, 76, 77] (by decide +kernel) (by decide +kernel)) (goodIn_sub (fun _ h => List.mem_cons_of_mem _ (List.mem_append_right _ h)) (by decide +kernel))
set_option maxRecDepth 20000 in
theorem gX1_cut_X1_mustGoOn : GoodIn wsX1_cut (va_wsS RX1 41 yX1_mustGoOn wsX1_mustGoOn) := goodIn_app (goodIn_of _ (by decide +kernel)) ggX1_cut_X1_mustGoOn
set_option maxRecDepth 20000 in
theorem ggX1_cut_X0_keepPart : GoodIn wsX1_cut wsX0_keepPart := goodIn_r _ [29, 30, 31, 32, 33, 22, 34, 25, 24, 35, 36, 37, 38, 39, 40, 41, 42, 43, 44, 45, 46, 47, 48, 49, 50, 51, 52, 53, 54, 55, 56, 57, 58, 59, 60, 61, 62, 63, 64, 67, 68, 69, 70, 71, 72, 73, 74, 75, 76, 77] (by decide +kernel) (by decide +kernel)
set_option maxRecDepth 20000 in
theorem gX1_cut_X0_keepPart : GoodIn wsX1_cut (wsV RX1 76 RX0 yX0_keepPart wsX0_keepPart) := goodIn_app (goodIn_of _ (by decide +kernel)) ggX1_cut_X0_keepPart
theorem dX1_cut_0 : decode cX1_cut 0 = .ok (.aload_n 0, 1) := by decide +kernel
theorem dX1_cut_1 : decode cX1_cut 1 = .ok (.iload_n 1, 1) := by decide +kernel
theorem dX1_cut_2 : decode cX1_cut 2 = .ok (.invokevirtual 37, 3) := by decide +kernel
theorem dX1_cut_5 : decode cX1_cut 5 = .ok (.astore_n 3, 1) := by decide +kernel
theorem dX1_cut_6 : decode cX1_cut 6 = .ok (.iload_n 2, 1) := by decide +kernel
theorem dX1_cut_7 : decode cX1_cut 7 = .ok (.iconst 1, 1) := by decide +kernel
theorem dX1_cut_8 : decode cX1_cut 8 = .ok (.bipush 99, 2) := by decide +kernel
theorem dX1_cut_10 : decode cX1_cut 10 = .ok (.invokestatic 19, 3) := by decide +kernel
theorem dX1_cut_13 : decode cX1_cut 13 = .ok (.aload_n 3, 1) := by decide +kernel
theorem dX1_cut_14 : decode cX1_cut 14 = .ok (.invokestatic 41, 3) := by decide +kernel
theorem dX1_cut_17 : decode cX1_cut 17 = .ok (.aload_n 3, 1) := by decide +kernel
theorem dX1_cut_18 : decode cX1_cut 18 = .ok (.bipush 100, 2) := by decide +kernel
theorem dX1_cut_20 : decode cX1_cut 20 = .ok (.iload_n 2, 1) := by decide +kernel
theorem dX1_cut_21 : decode cX1_cut 21 = .ok (.isub, 1) := by decide +kernel
theorem dX1_cut_22 : decode cX1_cut 22 = .ok (.invokevirtual 76, 3) := by decide +kernel
theorem dX1_cut_25 : decode cX1_cut 25 = .ok (.ireturn, 1) := by decide +kernel
set_option maxRecDepth 20000 in
theorem ggX1_toCome_X1_leaseOf : GoodIn wsX1_toCome wsX1_leaseOf := goodIn_ca (goodIn_r _ [5, 6, 7, 8, 16, 17] (by decide +kernel) (by decide +kernel)) (goodIn_sub (fun _ h => List.mem_cons_of_mem _ (List.mem_append_right _ h)) (by decide +kernel))
set_option maxRecDepth 20000 in
theorem gX1_toCome_X1_leaseOf : GoodIn wsX1_toCome (wsV RX1 37 RX1 yX1_leaseOf wsX1_leaseOf) := goodIn_app (goodIn_of _ (by decide +kernel)) ggX1_toCome_X1_leaseOf
set_option maxRecDepth 20000 in
theorem ggX1_toCome_X0_monthsLeft : GoodIn wsX1_toCome wsX0_monthsLeft := goodIn_r _ [13, 14, 15, 18, 19, 20, 21, 22, 23, 24, 25, 26, 27, 28] (by decide +kernel) (by decide +kernel)
set_option maxRecDepth 20000 in
theorem gX1_toCome_X0_monthsLeft : GoodIn wsX1_toCome (wsV RX1 67 RX0 yX0_monthsLeft wsX0_monthsLeft) := goodIn_app (goodIn_of _ (by decide +kernel)) ggX1_toCome_X0_monthsLeft
theorem dX1_toCome_0 : decode cX1_toCome 0 = .ok (.aload_n 0, 1) := by decide +kernel
theorem dX1_toCome_1 : decode cX1_toCome 1 = .ok (.iload_n 1, 1) := by decide +kernel
theorem dX1_toCome_2 : decode cX1_toCome 2 = .ok (.invokevirtual 37, 3) := by decide +kernel
theorem dX1_toCome_5 : decode cX1_toCome 5 = .ok (.invokevirtual 67, 3) := by decide +kernel
theorem dX1_toCome_8 : decode cX1_toCome 8 = .ok (.ireturn, 1) := by decide +kernel
set_option maxRecDepth 20000 in
theorem ggX1_debt_X1_leaseOf : GoodIn wsX1_debt wsX1_leaseOf := goodIn_ca (goodIn_r _ [5, 6, 7, 8, 19, 20] (by decide +kernel) (by decide +kernel)) (goodIn_sub (fun _ h => List.mem_cons_of_mem _ (List.mem_append_right _ h)) (by decide +kernel))
set_option maxRecDepth 20000 in
theorem gX1_debt_X1_leaseOf : GoodIn wsX1_debt (wsV RX1 37 RX1 yX1_leaseOf wsX1_leaseOf) := goodIn_app (goodIn_of _ (by decide +kernel)) ggX1_debt_X1_leaseOf
set_option maxRecDepth 20000 in
theorem ggX1_debt_X0_debtNow : GoodIn wsX1_debt wsX0_debtNow := goodIn_r _ [13, 14, 15, 16, 17, 12, 18, 21, 22, 23, 24, 25, 26, 27, 28, 29, 30, 31] (by decide +kernel) (by decide +kernel)
set_option maxRecDepth 20000 in
theorem gX1_debt_X0_debtNow : GoodIn wsX1_debt (wsV RX1 54 RX0 yX0_debtNow wsX0_debtNow) := goodIn_app (goodIn_of _ (by decide +kernel)) ggX1_debt_X0_debtNow
theorem dX1_debt_0 : decode cX1_debt 0 = .ok (.aload_n 0, 1) := by decide +kernel
theorem dX1_debt_1 : decode cX1_debt 1 = .ok (.iload_n 1, 1) := by decide +kernel
theorem dX1_debt_2 : decode cX1_debt 2 = .ok (.invokevirtual 37, 3) := by decide +kernel
theorem dX1_debt_5 : decode cX1_debt 5 = .ok (.invokevirtual 54, 3) := by decide +kernel
theorem dX1_debt_8 : decode cX1_debt 8 = .ok (.ireturn, 1) := by decide +kernel
set_option maxRecDepth 20000 in
theorem ggX1_debtByWorth_X1_leaseOf : GoodIn wsX1_debtByWorth wsX1_leaseOf := goodIn_ca (goodIn_r _ [5, 6, 7, 8, 35, 36] (by decide +kernel) (by decide +kernel)) (goodIn_sub (fun _ h => List.mem_cons_of_mem _ (List.mem_append_right _ h)) (by decide +kernel))
set_option maxRecDepth 20000 in
theorem gX1_debtByWorth_X1_leaseOf : GoodIn wsX1_debtByWorth (wsV RX1 37 RX1 yX1_leaseOf wsX1_leaseOf) := goodIn_app (goodIn_of _ (by decide +kernel)) ggX1_debtByWorth_X1_leaseOf
set_option maxRecDepth 20000 in
theorem ggX1_debtByWorth_X0_worthAt : GoodIn wsX1_debtByWorth wsX0_worthAt := goodIn_r _ [13, 14, 15, 16, 17, 18, 12, 19, 20, 21, 22, 23, 24, 25, 26, 27, 28, 29, 30, 31, 32, 33, 34] (by decide +kernel) (by decide +kernel)
set_option maxRecDepth 20000 in
theorem gX1_debtByWorth_X0_worthAt : GoodIn wsX1_debtByWorth (wsV RX1 90 RX0 yX0_worthAt wsX0_worthAt) := goodIn_app (goodIn_of _ (by decide +kernel)) ggX1_debtByWorth_X0_worthAt
theorem dX1_debtByWorth_0 : decode cX1_debtByWorth 0 = .ok (.aload_n 0, 1) := by decide +kernel
theorem dX1_debtByWorth_1 : decode cX1_debtByWorth 1 = .ok (.iload_n 1, 1) := by decide +kernel
theorem dX1_debtByWorth_2 : decode cX1_debtByWorth 2 = .ok (.invokevirtual 37, 3) := by decide +kernel
theorem dX1_debtByWorth_5 : decode cX1_debtByWorth 5 = .ok (.astore_n 2, 1) := by decide +kernel
theorem dX1_debtByWorth_6 : decode cX1_debtByWorth 6 = .ok (.aload_n 2, 1) := by decide +kernel
theorem dX1_debtByWorth_7 : decode cX1_debtByWorth 7 = .ok (.aload_n 2, 1) := by decide +kernel
theorem dX1_debtByWorth_8 : decode cX1_debtByWorth 8 = .ok (.getfield 87, 3) := by decide +kernel
theorem dX1_debtByWorth_11 : decode cX1_debtByWorth 11 = .ok (.invokevirtual 90, 3) := by decide +kernel
theorem dX1_debtByWorth_14 : decode cX1_debtByWorth 14 = .ok (.l2i, 1) := by decide +kernel
theorem dX1_debtByWorth_15 : decode cX1_debtByWorth 15 = .ok (.ireturn, 1) := by decide +kernel
set_option maxRecDepth 20000 in
theorem ggX1_right_X1_leaseOf : GoodIn wsX1_right wsX1_leaseOf := goodIn_ca (goodIn_r _ [5, 6, 7, 8, 20, 21] (by decide +kernel) (by decide +kernel)) (goodIn_sub (fun _ h => List.mem_cons_of_mem _ (List.mem_append_right _ h)) (by decide +kernel))
set_option maxRecDepth 20000 in
theorem gX1_right_X1_leaseOf : GoodIn wsX1_right (wsV RX1 37 RX1 yX1_leaseOf wsX1_leaseOf) := goodIn_app (goodIn_of _ (by decide +kernel)) ggX1_right_X1_leaseOf
theorem dX1_right_0 : decode cX1_right 0 = .ok (.aload_n 0, 1) := by decide +kernel
theorem dX1_right_1 : decode cX1_right 1 = .ok (.iload_n 1, 1) := by decide +kernel
theorem dX1_right_2 : decode cX1_right 2 = .ok (.invokevirtual 37, 3) := by decide +kernel
theorem dX1_right_5 : decode cX1_right 5 = .ok (.getfield 94, 3) := by decide +kernel
theorem dX1_right_8 : decode cX1_right 8 = .ok (.l2i, 1) := by decide +kernel
theorem dX1_right_9 : decode cX1_right 9 = .ok (.ireturn, 1) := by decide +kernel
set_option maxRecDepth 20000 in
theorem ggX1_interest_X1_leaseOf : GoodIn wsX1_interest wsX1_leaseOf := goodIn_ca (goodIn_r _ [5, 6, 7, 8, 20, 21] (by decide +kernel) (by decide +kernel)) (goodIn_sub (fun _ h => List.mem_cons_of_mem _ (List.mem_append_right _ h)) (by decide +kernel))
set_option maxRecDepth 20000 in
theorem gX1_interest_X1_leaseOf : GoodIn wsX1_interest (wsV RX1 37 RX1 yX1_leaseOf wsX1_leaseOf) := goodIn_app (goodIn_of _ (by decide +kernel)) ggX1_interest_X1_leaseOf
theorem dX1_interest_0 : decode cX1_interest 0 = .ok (.aload_n 0, 1) := by decide +kernel
theorem dX1_interest_1 : decode cX1_interest 1 = .ok (.iload_n 1, 1) := by decide +kernel
theorem dX1_interest_2 : decode cX1_interest 2 = .ok (.invokevirtual 37, 3) := by decide +kernel
theorem dX1_interest_5 : decode cX1_interest 5 = .ok (.getfield 98, 3) := by decide +kernel
theorem dX1_interest_8 : decode cX1_interest 8 = .ok (.l2i, 1) := by decide +kernel
theorem dX1_interest_9 : decode cX1_interest 9 = .ok (.ireturn, 1) := by decide +kernel
set_option maxRecDepth 20000 in
theorem ggX1_written_X1_leaseOf : GoodIn wsX1_written wsX1_leaseOf := goodIn_ca (goodIn_r _ [5, 6, 7, 8, 20, 21] (by decide +kernel) (by decide +kernel)) (goodIn_sub (fun _ h => List.mem_cons_of_mem _ (List.mem_append_right _ h)) (by decide +kernel))
set_option maxRecDepth 20000 in
theorem gX1_written_X1_leaseOf : GoodIn wsX1_written (wsV RX1 37 RX1 yX1_leaseOf wsX1_leaseOf) := goodIn_app (goodIn_of _ (by decide +kernel)) ggX1_written_X1_leaseOf
theorem dX1_written_0 : decode cX1_written 0 = .ok (.aload_n 0, 1) := by decide +kernel
theorem dX1_written_1 : decode cX1_written 1 = .ok (.iload_n 1, 1) := by decide +kernel
theorem dX1_written_2 : decode cX1_written 2 = .ok (.invokevirtual 37, 3) := by decide +kernel
theorem dX1_written_5 : decode cX1_written 5 = .ok (.getfield 101, 3) := by decide +kernel
theorem dX1_written_8 : decode cX1_written 8 = .ok (.l2i, 1) := by decide +kernel
theorem dX1_written_9 : decode cX1_written 9 = .ok (.ireturn, 1) := by decide +kernel
set_option maxRecDepth 20000 in
theorem ggX1_paid_X1_leaseOf : GoodIn wsX1_paid wsX1_leaseOf := goodIn_ca (goodIn_r _ [5, 6, 7, 8, 20, 21] (by decide +kernel) (by decide +kernel)) (goodIn_sub (fun _ h => List.mem_cons_of_mem _ (List.mem_append_right _ h)) (by decide +kernel))
set_option maxRecDepth 20000 in
theorem gX1_paid_X1_leaseOf : GoodIn wsX1_paid (wsV RX1 37 RX1 yX1_leaseOf wsX1_leaseOf) := goodIn_app (goodIn_of _ (by decide +kernel)) ggX1_paid_X1_leaseOf
theorem dX1_paid_0 : decode cX1_paid 0 = .ok (.aload_n 0, 1) := by decide +kernel
theorem dX1_paid_1 : decode cX1_paid 1 = .ok (.iload_n 1, 1) := by decide +kernel
theorem dX1_paid_2 : decode cX1_paid 2 = .ok (.invokevirtual 37, 3) := by decide +kernel
theorem dX1_paid_5 : decode cX1_paid 5 = .ok (.getfield 104, 3) := by decide +kernel
theorem dX1_paid_8 : decode cX1_paid 8 = .ok (.l2i, 1) := by decide +kernel
theorem dX1_paid_9 : decode cX1_paid 9 = .ok (.ireturn, 1) := by decide +kernel
set_option maxRecDepth 20000 in
theorem ggX1_gains_X1_leaseOf : GoodIn wsX1_gains wsX1_leaseOf := goodIn_ca (goodIn_r _ [5, 6, 7, 8, 20, 21] (by decide +kernel) (by decide +kernel)) (goodIn_sub (fun _ h => List.mem_cons_of_mem _ (List.mem_append_right _ h)) (by decide +kernel))
set_option maxRecDepth 20000 in
theorem gX1_gains_X1_leaseOf : GoodIn wsX1_gains (wsV RX1 37 RX1 yX1_leaseOf wsX1_leaseOf) := goodIn_app (goodIn_of _ (by decide +kernel)) ggX1_gains_X1_leaseOf
theorem dX1_gains_0 : decode cX1_gains 0 = .ok (.aload_n 0, 1) := by decide +kernel
theorem dX1_gains_1 : decode cX1_gains 1 = .ok (.iload_n 1, 1) := by decide +kernel
theorem dX1_gains_2 : decode cX1_gains 2 = .ok (.invokevirtual 37, 3) := by decide +kernel
theorem dX1_gains_5 : decode cX1_gains 5 = .ok (.getfield 107, 3) := by decide +kernel
theorem dX1_gains_8 : decode cX1_gains 8 = .ok (.l2i, 1) := by decide +kernel
theorem dX1_gains_9 : decode cX1_gains 9 = .ok (.ireturn, 1) := by decide +kernel
theorem dX1_mustBeWithin_0 : decode cX1_mustBeWithin 0 = .ok (.iload_n 0, 1) := by decide +kernel
theorem dX1_mustBeWithin_1 : decode cX1_mustBeWithin 1 = .ok (.iload_n 1, 1) := by decide +kernel
theorem dX1_mustBeWithin_2 : decode cX1_mustBeWithin 2 = .ok (.if_icmp .lt 8, 3) := by decide +kernel
theorem dX1_mustBeWithin_5 : decode cX1_mustBeWithin 5 = .ok (.iload_n 0, 1) := by decide +kernel
theorem dX1_mustBeWithin_6 : decode cX1_mustBeWithin 6 = .ok (.iload_n 2, 1) := by decide +kernel
theorem dX1_mustBeWithin_7 : decode cX1_mustBeWithin 7 = .ok (.if_icmp .le 13, 3) := by decide +kernel
theorem dX1_mustBeWithin_10 : decode cX1_mustBeWithin 10 = .ok (.new 111, 3) := by decide +kernel
theorem dX1_mustBeWithin_13 : decode cX1_mustBeWithin 13 = .ok (.dup, 1) := by decide +kernel
theorem dX1_mustBeWithin_14 : decode cX1_mustBeWithin 14 = .ok (.ldc 113, 2) := by decide +kernel
theorem dX1_mustBeWithin_16 : decode cX1_mustBeWithin 16 = .ok (.invokespecial 115, 3) := by decide +kernel
theorem dX1_mustBeWithin_19 : decode cX1_mustBeWithin 19 = .ok (.athrow, 1) := by decide +kernel
theorem dX1_mustBeWithin_20 : decode cX1_mustBeWithin 20 = .ok (.return_, 1) := by decide +kernel
set_option maxRecDepth 20000 in
theorem ggX1_mustGoOn_X0_monthsLeft : GoodIn wsX1_mustGoOn wsX0_monthsLeft := goodIn_r _ [7, 8, 9, 10, 11, 12, 13, 14, 15, 16, 17, 18, 19, 20] (by decide +kernel) (by decide +kernel)
set_option maxRecDepth 20000 in
theorem gX1_mustGoOn_X0_monthsLeft : GoodIn wsX1_mustGoOn (wsV RX1 67 RX0 yX0_monthsLeft wsX0_monthsLeft) := goodIn_app (goodIn_of _ (by decide +kernel)) ggX1_mustGoOn_X0_monthsLeft
theorem dX1_mustGoOn_0 : decode cX1_mustGoOn 0 = .ok (.aload_n 0, 1) := by decide +kernel
theorem dX1_mustGoOn_1 : decode cX1_mustGoOn 1 = .ok (.invokevirtual 67, 3) := by decide +kernel
theorem dX1_mustGoOn_4 : decode cX1_mustGoOn 4 = .ok (.ifCond .ne 13, 3) := by decide +kernel
theorem dX1_mustGoOn_7 : decode cX1_mustGoOn 7 = .ok (.new 23, 3) := by decide +kernel
theorem dX1_mustGoOn_10 : decode cX1_mustGoOn 10 = .ok (.dup, 1) := by decide +kernel
theorem dX1_mustGoOn_11 : decode cX1_mustGoOn 11 = .ok (.ldc 116, 2) := by decide +kernel
theorem dX1_mustGoOn_13 : decode cX1_mustGoOn 13 = .ok (.invokespecial 27, 3) := by decide +kernel
theorem dX1_mustGoOn_16 : decode cX1_mustGoOn 16 = .ok (.athrow, 1) := by decide +kernel
theorem dX1_mustGoOn_17 : decode cX1_mustGoOn 17 = .ok (.return_, 1) := by decide +kernel
theorem dX1_leaseOf_0 : decode cX1_leaseOf 0 = .ok (.iload_n 1, 1) := by decide +kernel
theorem dX1_leaseOf_1 : decode cX1_leaseOf 1 = .ok (.ifCond .lt 12, 3) := by decide +kernel
theorem dX1_leaseOf_4 : decode cX1_leaseOf 4 = .ok (.iload_n 1, 1) := by decide +kernel
theorem dX1_leaseOf_5 : decode cX1_leaseOf 5 = .ok (.aload_n 0, 1) := by decide +kernel
theorem dX1_leaseOf_6 : decode cX1_leaseOf 6 = .ok (.getfield 11, 3) := by decide +kernel
theorem dX1_leaseOf_9 : decode cX1_leaseOf 9 = .ok (.arraylength, 1) := by decide +kernel
theorem dX1_leaseOf_10 : decode cX1_leaseOf 10 = .ok (.if_icmp .lt 13, 3) := by decide +kernel
theorem dX1_leaseOf_13 : decode cX1_leaseOf 13 = .ok (.new 79, 3) := by decide +kernel
theorem dX1_leaseOf_16 : decode cX1_leaseOf 16 = .ok (.dup, 1) := by decide +kernel
theorem dX1_leaseOf_17 : decode cX1_leaseOf 17 = .ok (.ldc 118, 2) := by decide +kernel
theorem dX1_leaseOf_19 : decode cX1_leaseOf 19 = .ok (.invokespecial 83, 3) := by decide +kernel
theorem dX1_leaseOf_22 : decode cX1_leaseOf 22 = .ok (.athrow, 1) := by decide +kernel
theorem dX1_leaseOf_23 : decode cX1_leaseOf 23 = .ok (.aload_n 0, 1) := by decide +kernel
theorem dX1_leaseOf_24 : decode cX1_leaseOf 24 = .ok (.getfield 11, 3) := by decide +kernel
theorem dX1_leaseOf_27 : decode cX1_leaseOf 27 = .ok (.iload_n 1, 1) := by decide +kernel
theorem dX1_leaseOf_28 : decode cX1_leaseOf 28 = .ok (.aaload, 1) := by decide +kernel
theorem dX1_leaseOf_29 : decode cX1_leaseOf 29 = .ok (.astore_n 2, 1) := by decide +kernel
theorem dX1_leaseOf_30 : decode cX1_leaseOf 30 = .ok (.aload_n 2, 1) := by decide +kernel
theorem dX1_leaseOf_31 : decode cX1_leaseOf 31 = .ok (.ifnonnull 13, 3) := by decide +kernel
theorem dX1_leaseOf_34 : decode cX1_leaseOf 34 = .ok (.new 79, 3) := by decide +kernel
theorem dX1_leaseOf_37 : decode cX1_leaseOf 37 = .ok (.dup, 1) := by decide +kernel
theorem dX1_leaseOf_38 : decode cX1_leaseOf 38 = .ok (.ldc 118, 2) := by decide +kernel
theorem dX1_leaseOf_40 : decode cX1_leaseOf 40 = .ok (.invokespecial 83, 3) := by decide +kernel
theorem dX1_leaseOf_43 : decode cX1_leaseOf 43 = .ok (.athrow, 1) := by decide +kernel
theorem dX1_leaseOf_44 : decode cX1_leaseOf 44 = .ok (.aload_n 2, 1) := by decide +kernel
theorem dX1_leaseOf_45 : decode cX1_leaseOf 45 = .ok (.areturn, 1) := by decide +kernel
theorem dJ9_max_7cf53_0 : decode cJ9_max_7cf53 0 = .ok (.iload_n 0, 1) := by decide +kernel
theorem dJ9_max_7cf53_1 : decode cJ9_max_7cf53 1 = .ok (.iload_n 1, 1) := by decide +kernel
theorem dJ9_max_7cf53_2 : decode cJ9_max_7cf53 2 = .ok (.if_icmp .lt 7, 3) := by decide +kernel
theorem dJ9_max_7cf53_5 : decode cJ9_max_7cf53 5 = .ok (.iload_n 0, 1) := by decide +kernel
theorem dJ9_max_7cf53_6 : decode cJ9_max_7cf53 6 = .ok (.goto 4, 3) := by decide +kernel
theorem dJ9_max_7cf53_9 : decode cJ9_max_7cf53 9 = .ok (.iload_n 1, 1) := by decide +kernel
theorem dJ9_max_7cf53_10 : decode cJ9_max_7cf53 10 = .ok (.ireturn, 1) := by decide +kernel
theorem dJ9_min_7cf53_0 : decode cJ9_min_7cf53 0 = .ok (.iload_n 0, 1) := by decide +kernel
theorem dJ9_min_7cf53_1 : decode cJ9_min_7cf53 1 = .ok (.iload_n 1, 1) := by decide +kernel
theorem dJ9_min_7cf53_2 : decode cJ9_min_7cf53 2 = .ok (.if_icmp .gt 7, 3) := by decide +kernel
theorem dJ9_min_7cf53_5 : decode cJ9_min_7cf53 5 = .ok (.iload_n 0, 1) := by decide +kernel
theorem dJ9_min_7cf53_6 : decode cJ9_min_7cf53 6 = .ok (.goto 4, 3) := by decide +kernel
theorem dJ9_min_7cf53_9 : decode cJ9_min_7cf53 9 = .ok (.iload_n 1, 1) := by decide +kernel
theorem dJ9_min_7cf53_10 : decode cJ9_min_7cf53 10 = .ok (.ireturn, 1) := by decide +kernel
theorem dL_cell_0 : decode cL_cell 0 = .ok (.iload_n 1, 1) := by decide +kernel
theorem dL_cell_1 : decode cL_cell 1 = .ok (.aload_n 0, 1) := by decide +kernel
theorem dL_cell_2 : decode cL_cell 2 = .ok (.arraylength, 1) := by decide +kernel
theorem dL_cell_3 : decode cL_cell 3 = .ok (.if_icmp .ge 9, 3) := by decide +kernel
theorem dL_cell_6 : decode cL_cell 6 = .ok (.aload_n 0, 1) := by decide +kernel
theorem dL_cell_7 : decode cL_cell 7 = .ok (.iload_n 1, 1) := by decide +kernel
theorem dL_cell_8 : decode cL_cell 8 = .ok (.iaload, 1) := by decide +kernel
theorem dL_cell_9 : decode cL_cell 9 = .ok (.goto 10, 3) := by decide +kernel
theorem dL_cell_12 : decode cL_cell 12 = .ok (.ldc 7, 2) := by decide +kernel
theorem dL_cell_14 : decode cL_cell 14 = .ok (.iload_n 1, 1) := by decide +kernel
theorem dL_cell_15 : decode cL_cell 15 = .ok (.imul, 1) := by decide +kernel
theorem dL_cell_16 : decode cL_cell 16 = .ok (.ldc 8, 2) := by decide +kernel
theorem dL_cell_18 : decode cL_cell 18 = .ok (.iadd, 1) := by decide +kernel
theorem dL_cell_19 : decode cL_cell 19 = .ok (.ireturn, 1) := by decide +kernel
theorem dL_low_0 : decode cL_low 0 = .ok (.iload_n 0, 1) := by decide +kernel
theorem dL_low_1 : decode cL_low 1 = .ok (.ldc 9, 2) := by decide +kernel
theorem dL_low_3 : decode cL_low 3 = .ok (.iand, 1) := by decide +kernel
theorem dL_low_4 : decode cL_low 4 = .ok (.iload_n 1, 1) := by decide +kernel
theorem dL_low_5 : decode cL_low 5 = .ok (.irem, 1) := by decide +kernel
theorem dL_low_6 : decode cL_low 6 = .ok (.ireturn, 1) := by decide +kernel
end
section
set_option maxRecDepth 20000 in
theorem ggL_adds_X1_right : GoodIn wsL_adds wsX1_right := goodIn_ca (goodIn_r _ [5, 6, 7, 8, 4, 9, 10, 11, 12, 65, 66, 67, 68, 69, 70, 71, 72, 73, 74, 75, 76, 77] (by decide +kernel) (by decide +kernel)) (goodIn_sub (fun _ h => List.mem_cons_of_mem _ (List.mem_append_right _ h)) (by decide +kernel))
set_option maxRecDepth 20000 in
theorem gL_adds_X1_right : GoodIn wsL_adds (wsV RL 10 RX1 yX1_right wsX1_right) := goodIn_app (goodIn_of _ (by decide +kernel)) ggL_adds_X1_right
set_option maxRecDepth 20000 in
theorem ggL_adds_X1_written : GoodIn wsL_adds wsX1_written := goodIn_ca (goodIn_r _ [16, 6, 7, 8, 4, 9, 10, 11, 12, 65, 66, 67, 68, 69, 70, 71, 72, 73, 74, 75, 76, 77] (by decide +kernel) (by decide +kernel)) (goodIn_sub (fun _ h => List.mem_cons_of_mem _ (List.mem_append_right _ h)) (by decide +kernel))
set_option maxRecDepth 20000 in
theorem gL_adds_X1_written : GoodIn wsL_adds (wsV RL 16 RX1 yX1_written wsX1_written) := goodIn_app (goodIn_of _ (by decide +kernel)) ggL_adds_X1_written
set_option maxRecDepth 20000 in
theorem ggL_adds_X1_interest : GoodIn wsL_adds wsX1_interest := goodIn_ca (goodIn_r _ [20, 6, 7, 8, 4, 9, 10, 11, 12, 65, 66, 67, 68, 69, 70, 71, 72, 73, 74, 75, 76, 77] (by decide +kernel) (by decide +kernel)) (goodIn_sub (fun _ h => List.mem_cons_of_mem _ (List.mem_append_right _ h)) (by decide +kernel))
set_option maxRecDepth 20000 in
theorem gL_adds_X1_interest : GoodIn wsL_adds (wsV RL 19 RX1 yX1_interest wsX1_interest) := goodIn_app (goodIn_of _ (by decide +kernel)) ggL_adds_X1_interest
set_option maxRecDepth 20000 in
theorem ggL_adds_X1_debt : GoodIn wsL_adds wsX1_debt := goodIn_ca (goodIn_r _ [24, 6, 7, 8, 4, 9, 10, 11, 12, 25, 26, 27, 28, 29, 30, 31, 32, 33, 34, 76, 77, 65, 66, 67, 68, 69, 70, 71, 72, 73, 74, 75] (by decide +kernel) (by decide +kernel)) (goodIn_sub (fun _ h => List.mem_cons_of_mem _ (List.mem_append_right _ h)) (by decide +kernel))
set_option maxRecDepth 20000 in
theorem gL_adds_X1_debt : GoodIn wsL_adds (wsV RL 22 RX1 yX1_debt wsX1_debt) := goodIn_app (goodIn_of _ (by decide +kernel)) ggL_adds_X1_debt
set_option maxRecDepth 20000 in
theorem ggL_adds_X1_paid : GoodIn wsL_adds wsX1_paid := goodIn_ca (goodIn_r _ [38, 6, 7, 8, 4, 9, 10, 11, 12, 65, 66, 67, 68, 69, 70, 71, 72, 73, 74, 75, 76, 77] (by decide +kernel) (by decide +kernel)) (goodIn_sub (fun _ h => List.mem_cons_of_mem _ (List.mem_append_right _ h)) (by decide +kernel))
set_option maxRecDepth 20000 in
theorem gL_adds_X1_paid : GoodIn wsL_adds (wsV RL 25 RX1 yX1_paid wsX1_paid) := goodIn_app (goodIn_of _ (by decide +kernel)) ggL_adds_X1_paid
set_option maxRecDepth 20000 in
theorem ggL_adds_X1_gains : GoodIn wsL_adds wsX1_gains := goodIn_ca (goodIn_r _ [42, 6, 7, 8, 4, 9, 10, 11, 12, 65, 66, 67, 68, 69, 70, 71, 72, 73, 74, 75, 76, 77] (by decide +kernel) (by decide +kernel)) (goodIn_sub (fun _ h => List.mem_cons_of_mem _ (List.mem_append_right _ h)) (by decide +kernel))
set_option maxRecDepth 20000 in
theorem gL_adds_X1_gains : GoodIn wsL_adds (wsV RL 28 RX1 yX1_gains wsX1_gains) := goodIn_app (goodIn_of _ (by decide +kernel)) ggL_adds_X1_gains
set_option maxRecDepth 20000 in
theorem ggL_adds_X1_toCome : GoodIn wsL_adds wsX1_toCome := goodIn_ca (goodIn_r _ [46, 6, 7, 8, 4, 9, 10, 11, 12, 47, 48, 49, 28, 50, 51, 31, 76, 77, 65, 66, 67, 68, 69, 70, 71, 72, 73, 74, 75] (by decide +kernel) (by decide +kernel)) (goodIn_sub (fun _ h => List.mem_cons_of_mem _ (List.mem_append_right _ h)) (by decide +kernel))
set_option maxRecDepth 20000 in
theorem gL_adds_X1_toCome : GoodIn wsL_adds (wsV RL 31 RX1 yX1_toCome wsX1_toCome) := goodIn_app (goodIn_of _ (by decide +kernel)) ggL_adds_X1_toCome
set_option maxRecDepth 20000 in
theorem ggL_adds_X1_debtByWorth : GoodIn wsL_adds wsX1_debtByWorth := goodIn_ca (goodIn_r _ [55, 6, 7, 8, 4, 9, 10, 11, 12, 56, 57, 58, 28, 59, 51, 31, 60, 32, 33, 34, 61, 62, 63, 64, 65, 66, 67, 68, 69, 70, 71, 72, 73, 74, 75, 76, 77] (by decide +kernel) (by decide +kernel)) (goodIn_sub (fun _ h => List.mem_cons_of_mem _ (List.mem_append_right _ h)) (by decide +kernel))
set_option maxRecDepth 20000 in
theorem gL_adds_X1_debtByWorth : GoodIn wsL_adds (wsV RL 34 RX1 yX1_debtByWorth wsX1_debtByWorth) := goodIn_app (goodIn_of _ (by decide +kernel)) ggL_adds_X1_debtByWorth
theorem dL_adds_0 : decode cL_adds 0 = .ok (.aload_n 0, 1) := by decide +kernel
theorem dL_adds_1 : decode cL_adds 1 = .ok (.iload_n 1, 1) := by decide +kernel
theorem dL_adds_2 : decode cL_adds 2 = .ok (.invokevirtual 10, 3) := by decide +kernel
theorem dL_adds_5 : decode cL_adds 5 = .ok (.aload_n 0, 1) := by decide +kernel
theorem dL_adds_6 : decode cL_adds 6 = .ok (.iload_n 1, 1) := by decide +kernel
theorem dL_adds_7 : decode cL_adds 7 = .ok (.invokevirtual 16, 3) := by decide +kernel
theorem dL_adds_10 : decode cL_adds 10 = .ok (.iadd, 1) := by decide +kernel
theorem dL_adds_11 : decode cL_adds 11 = .ok (.aload_n 0, 1) := by decide +kernel
theorem dL_adds_12 : decode cL_adds 12 = .ok (.iload_n 1, 1) := by decide +kernel
theorem dL_adds_13 : decode cL_adds 13 = .ok (.invokevirtual 19, 3) := by decide +kernel
theorem dL_adds_16 : decode cL_adds 16 = .ok (.iadd, 1) := by decide +kernel
theorem dL_adds_17 : decode cL_adds 17 = .ok (.istore_n 3, 1) := by decide +kernel
theorem dL_adds_18 : decode cL_adds 18 = .ok (.aload_n 0, 1) := by decide +kernel
theorem dL_adds_19 : decode cL_adds 19 = .ok (.iload_n 1, 1) := by decide +kernel
theorem dL_adds_20 : decode cL_adds 20 = .ok (.invokevirtual 22, 3) := by decide +kernel
theorem dL_adds_23 : decode cL_adds 23 = .ok (.iload_n 2, 1) := by decide +kernel
theorem dL_adds_24 : decode cL_adds 24 = .ok (.iadd, 1) := by decide +kernel
theorem dL_adds_25 : decode cL_adds 25 = .ok (.aload_n 0, 1) := by decide +kernel
theorem dL_adds_26 : decode cL_adds 26 = .ok (.iload_n 1, 1) := by decide +kernel
theorem dL_adds_27 : decode cL_adds 27 = .ok (.invokevirtual 25, 3) := by decide +kernel
theorem dL_adds_30 : decode cL_adds 30 = .ok (.iadd, 1) := by decide +kernel
theorem dL_adds_31 : decode cL_adds 31 = .ok (.aload_n 0, 1) := by decide +kernel
theorem dL_adds_32 : decode cL_adds 32 = .ok (.iload_n 1, 1) := by decide +kernel
theorem dL_adds_33 : decode cL_adds 33 = .ok (.invokevirtual 28, 3) := by decide +kernel
theorem dL_adds_36 : decode cL_adds 36 = .ok (.iadd, 1) := by decide +kernel
theorem dL_adds_37 : decode cL_adds 37 = .ok (.istore 4, 2) := by decide +kernel
theorem dL_adds_39 : decode cL_adds 39 = .ok (.aload_n 0, 1) := by decide +kernel
theorem dL_adds_40 : decode cL_adds 40 = .ok (.iload_n 1, 1) := by decide +kernel
theorem dL_adds_41 : decode cL_adds 41 = .ok (.invokevirtual 31, 3) := by decide +kernel
theorem dL_adds_44 : decode cL_adds 44 = .ok (.ifCond .ne 7, 3) := by decide +kernel
theorem dL_adds_47 : decode cL_adds 47 = .ok (.iconst 1, 1) := by decide +kernel
theorem dL_adds_48 : decode cL_adds 48 = .ok (.goto 4, 3) := by decide +kernel
theorem dL_adds_51 : decode cL_adds 51 = .ok (.iconst 0, 1) := by decide +kernel
theorem dL_adds_52 : decode cL_adds 52 = .ok (.istore 5, 2) := by decide +kernel
theorem dL_adds_54 : decode cL_adds 54 = .ok (.iload_n 3, 1) := by decide +kernel
theorem dL_adds_55 : decode cL_adds 55 = .ok (.iload 4, 2) := by decide +kernel
theorem dL_adds_57 : decode cL_adds 57 = .ok (.if_icmp .ne 57, 3) := by decide +kernel
theorem dL_adds_60 : decode cL_adds 60 = .ok (.aload_n 0, 1) := by decide +kernel
theorem dL_adds_61 : decode cL_adds 61 = .ok (.iload_n 1, 1) := by decide +kernel
theorem dL_adds_62 : decode cL_adds 62 = .ok (.invokevirtual 22, 3) := by decide +kernel
theorem dL_adds_65 : decode cL_adds 65 = .ok (.aload_n 0, 1) := by decide +kernel
theorem dL_adds_66 : decode cL_adds 66 = .ok (.iload_n 1, 1) := by decide +kernel
theorem dL_adds_67 : decode cL_adds 67 = .ok (.invokevirtual 34, 3) := by decide +kernel
theorem dL_adds_70 : decode cL_adds 70 = .ok (.if_icmp .ne 44, 3) := by decide +kernel
theorem dL_adds_73 : decode cL_adds 73 = .ok (.aload_n 0, 1) := by decide +kernel
theorem dL_adds_74 : decode cL_adds 74 = .ok (.iload_n 1, 1) := by decide +kernel
theorem dL_adds_75 : decode cL_adds 75 = .ok (.invokevirtual 10, 3) := by decide +kernel
theorem dL_adds_78 : decode cL_adds 78 = .ok (.ifCond .lt 36, 3) := by decide +kernel
theorem dL_adds_81 : decode cL_adds 81 = .ok (.aload_n 0, 1) := by decide +kernel
theorem dL_adds_82 : decode cL_adds 82 = .ok (.iload_n 1, 1) := by decide +kernel
theorem dL_adds_83 : decode cL_adds 83 = .ok (.invokevirtual 19, 3) := by decide +kernel
theorem dL_adds_86 : decode cL_adds 86 = .ok (.ifCond .lt 28, 3) := by decide +kernel
theorem dL_adds_89 : decode cL_adds 89 = .ok (.iload 5, 2) := by decide +kernel
theorem dL_adds_91 : decode cL_adds 91 = .ok (.ifCond .eq 19, 3) := by decide +kernel
theorem dL_adds_94 : decode cL_adds 94 = .ok (.aload_n 0, 1) := by decide +kernel
theorem dL_adds_95 : decode cL_adds 95 = .ok (.iload_n 1, 1) := by decide +kernel
theorem dL_adds_96 : decode cL_adds 96 = .ok (.invokevirtual 22, 3) := by decide +kernel
theorem dL_adds_99 : decode cL_adds 99 = .ok (.ifCond .ne 15, 3) := by decide +kernel
theorem dL_adds_102 : decode cL_adds 102 = .ok (.aload_n 0, 1) := by decide +kernel
theorem dL_adds_103 : decode cL_adds 103 = .ok (.iload_n 1, 1) := by decide +kernel
theorem dL_adds_104 : decode cL_adds 104 = .ok (.invokevirtual 10, 3) := by decide +kernel
theorem dL_adds_107 : decode cL_adds 107 = .ok (.ifCond .ne 7, 3) := by decide +kernel
theorem dL_adds_110 : decode cL_adds 110 = .ok (.iconst 1, 1) := by decide +kernel
theorem dL_adds_111 : decode cL_adds 111 = .ok (.goto 4, 3) := by decide +kernel
theorem dL_adds_114 : decode cL_adds 114 = .ok (.iconst 0, 1) := by decide +kernel
theorem dL_adds_115 : decode cL_adds 115 = .ok (.ireturn, 1) := by decide +kernel
set_option maxRecDepth 20000 in
theorem ggL_law_X1_init : GoodIn wsL_law wsX1_init := goodIn_r _ [6, 7, 8, 9, 10, 11, 12, 198, 199] (by decide +kernel) (by decide +kernel)
set_option maxRecDepth 20000 in
theorem gL_law_X1_init : GoodIn wsL_law (wsX1_init) := ggL_law_X1_init
set_option maxRecDepth 20000 in
theorem ggL_law_L_cell : GoodIn wsL_law wsL_cell := goodIn_r _ [16, 17, 18] (by decide +kernel) (by decide +kernel)
set_option maxRecDepth 20000 in
theorem gL_law_L_cell : GoodIn wsL_law (va_wsS RL 38 yL_cell wsL_cell) := goodIn_app (goodIn_of _ (by decide +kernel)) ggL_law_L_cell
set_option maxRecDepth 20000 in
theorem ggL_law_L_low : GoodIn wsL_law wsL_low := goodIn_r _ [21, 22] (by decide +kernel) (by decide +kernel)
set_option maxRecDepth 20000 in
theorem gL_law_L_low : GoodIn wsL_law (va_wsS RL 44 yL_low wsL_low) := goodIn_app (goodIn_of _ (by decide +kernel)) ggL_law_L_low
set_option maxRecDepth 20000 in
theorem ggL_law_X1_toCome : GoodIn wsL_law wsX1_toCome := goodIn_ca (goodIn_r _ [26, 27, 28, 29, 2, 30, 31, 32, 11, 33, 34, 35, 36, 37, 38, 39, 198, 199, 200, 201, 202, 203, 204, 205, 206, 207, 208, 209, 210] (by decide +kernel) (by decide +kernel)) (goodIn_sub (fun _ h => List.mem_append_left _ (List.mem_append_left _ (List.mem_append_right _ h))) (by decide +kernel))
set_option maxRecDepth 20000 in
theorem gL_law_X1_toCome : GoodIn wsL_law (wsV RL 31 RX1 yX1_toCome wsX1_toCome) := goodIn_app (goodIn_of _ (by decide +kernel)) ggL_law_X1_toCome
set_option maxRecDepth 20000 in
theorem ggL_law_X1_add : GoodIn wsL_law wsX1_add := goodIn_ca (goodIn_ca (goodIn_r _ [43, 44, 45, 12, 11, 10, 46, 36, 47, 48, 2, 49, 50, 51, 52, 53, 54, 55, 8, 9, 56, 57, 58, 59, 60, 61, 62, 63, 64, 38, 3, 65, 66, 67, 68, 69, 70, 71, 72, 73, 74, 39, 75, 76, 77, 78, 79, 80, 81, 82, 83, 84, 85, 198, 199, 200, 201, 202, 203, 204, 205, 206, 207, 208, 209, 210] (by decide +kernel) (by decide +kernel)) (goodIn_sub (fun _ h => List.mem_append_left _ (List.mem_append_right _ h)) (by decide +kernel))) (goodIn_sub (fun _ h => List.mem_append_right _ h) (by decide +kernel))
set_option maxRecDepth 20000 in
theorem gL_law_X1_add : GoodIn wsL_law (wsV RL 48 RX1 yX1_add wsX1_add) := goodIn_app (goodIn_of _ (by decide +kernel)) ggL_law_X1_add
set_option maxRecDepth 20000 in
theorem ggL_law_X1_pass : GoodIn wsL_law wsX1_pass := goodIn_ca (goodIn_r _ [89, 11, 47, 48, 2, 49, 50, 51, 90, 91, 92, 36, 93, 58, 59, 60, 61, 94, 34, 35, 37, 38, 39, 95, 96, 97, 98, 65, 99, 66, 100, 57, 67, 101, 75, 76, 77, 198, 199, 200, 201, 202, 203, 204, 205, 206, 207, 208, 209, 210] (by decide +kernel) (by decide +kernel)) (goodIn_sub (fun _ h => List.mem_append_right _ h) (by decide +kernel))
set_option maxRecDepth 20000 in
theorem gL_law_X1_pass : GoodIn wsL_law (wsV RL 52 RX1 yX1_pass wsX1_pass) := goodIn_app (goodIn_of _ (by decide +kernel)) ggL_law_X1_pass
set_option maxRecDepth 20000 in
theorem ggL_law_X1_review : GoodIn wsL_law wsX1_review := goodIn_ca (goodIn_ca (goodIn_ca (goodIn_r _ [105, 44, 45, 27, 28, 29, 2, 30, 31, 32, 11, 47, 48, 49, 50, 51, 106, 107, 108, 33, 34, 35, 36, 37, 38, 39, 109, 110, 111, 112, 65, 81, 75, 76, 77, 113, 114, 115, 116, 117, 118, 119, 120, 121, 122, 123, 124, 68, 69, 70, 125, 126, 127, 128, 67, 129, 82, 83, 84, 85, 66, 71, 72, 73, 74, 56, 78, 79, 80, 130, 198, 199, 200, 201, 202, 203, 204, 205, 206, 207, 208, 209, 210] (by decide +kernel) (by decide +kernel)) (goodIn_sub (fun _ h => List.mem_append_left _ (List.mem_append_right _ h)) (by decide +kernel))) (goodIn_sub (fun _ h => List.mem_append_left _ (List.mem_append_left _ (List.mem_append_right _ h))) (by decide +kernel))) (goodIn_sub (fun _ h => List.mem_append_right _ h) (by decide +kernel))
set_option maxRecDepth 20000 in
theorem gL_law_X1_review : GoodIn wsL_law (wsV RL 55 RX1 yX1_review wsX1_review) := goodIn_app (goodIn_of _ (by decide +kernel)) ggL_law_X1_review
set_option maxRecDepth 20000 in
theorem ggL_law_X1_debt : GoodIn wsL_law wsX1_debt := goodIn_ca (goodIn_r _ [134, 27, 28, 29, 2, 30, 31, 32, 11, 130, 83, 84, 36, 85, 66, 39, 75, 76, 77, 198, 199, 200, 201, 202, 203, 204, 205, 206, 207, 208, 209, 210] (by decide +kernel) (by decide +kernel)) (goodIn_sub (fun _ h => List.mem_append_left _ (List.mem_append_left _ (List.mem_append_right _ h))) (by decide +kernel))
set_option maxRecDepth 20000 in
theorem gL_law_X1_debt : GoodIn wsL_law (wsV RL 22 RX1 yX1_debt wsX1_debt) := goodIn_app (goodIn_of _ (by decide +kernel)) ggL_law_X1_debt
set_option maxRecDepth 20000 in
theorem ggL_law_X1_lengthen : GoodIn wsL_law wsX1_lengthen := goodIn_ca (goodIn_ca (goodIn_ca (goodIn_r _ [138, 44, 45, 27, 28, 29, 2, 30, 31, 32, 11, 47, 48, 49, 50, 51, 106, 107, 108, 33, 34, 35, 36, 37, 38, 39, 139, 140, 141, 142, 143, 144, 145, 146, 58, 59, 60, 61, 65, 68, 69, 70, 125, 126, 127, 128, 67, 129, 82, 83, 84, 85, 66, 75, 76, 77, 71, 72, 73, 74, 56, 78, 79, 80, 81, 130, 198, 199, 200, 201, 202, 203, 204, 205, 206, 207, 208, 209, 210] (by decide +kernel) (by decide +kernel)) (goodIn_sub (fun _ h => List.mem_append_left _ (List.mem_append_right _ h)) (by decide +kernel))) (goodIn_sub (fun _ h => List.mem_append_left _ (List.mem_append_left _ (List.mem_append_right _ h))) (by decide +kernel))) (goodIn_sub (fun _ h => List.mem_append_right _ h) (by decide +kernel))
set_option maxRecDepth 20000 in
theorem gL_law_X1_lengthen : GoodIn wsL_law (wsV RL 58 RX1 yX1_lengthen wsX1_lengthen) := goodIn_app (goodIn_of _ (by decide +kernel)) ggL_law_X1_lengthen
set_option maxRecDepth 20000 in
theorem ggL_law_X1_gains : GoodIn wsL_law wsX1_gains := goodIn_ca (goodIn_r _ [150, 27, 28, 29, 2, 30, 31, 32, 11, 200, 201, 202, 203, 204, 205, 206, 207, 208, 209, 210, 198, 199] (by decide +kernel) (by decide +kernel)) (goodIn_sub (fun _ h => List.mem_append_left _ (List.mem_append_left _ (List.mem_append_right _ h))) (by decide +kernel))
set_option maxRecDepth 20000 in
theorem gL_law_X1_gains : GoodIn wsL_law (wsV RL 28 RX1 yX1_gains wsX1_gains) := goodIn_app (goodIn_of _ (by decide +kernel)) ggL_law_X1_gains
set_option maxRecDepth 20000 in
theorem ggL_law_X1_shorten : GoodIn wsL_law wsX1_shorten := goodIn_ca (goodIn_ca (goodIn_ca (goodIn_r _ [154, 44, 45, 27, 28, 29, 2, 30, 31, 32, 11, 47, 48, 49, 50, 51, 33, 34, 35, 36, 37, 38, 39, 155, 156, 157, 158, 67, 94, 159, 160, 161, 162, 129, 82, 83, 84, 85, 66, 75, 76, 77, 71, 72, 73, 74, 65, 56, 68, 69, 70, 78, 79, 80, 81, 198, 199, 200, 201, 202, 203, 204, 205, 206, 207, 208, 209, 210] (by decide +kernel) (by decide +kernel)) (goodIn_sub (fun _ h => List.mem_append_left _ (List.mem_append_right _ h)) (by decide +kernel))) (goodIn_sub (fun _ h => List.mem_append_left _ (List.mem_append_left _ (List.mem_append_right _ h))) (by decide +kernel))) (goodIn_sub (fun _ h => List.mem_append_right _ h) (by decide +kernel))
set_option maxRecDepth 20000 in
theorem gL_law_X1_shorten : GoodIn wsL_law (wsV RL 62 RX1 yX1_shorten wsX1_shorten) := goodIn_app (goodIn_of _ (by decide +kernel)) ggL_law_X1_shorten
set_option maxRecDepth 20000 in
theorem ggL_law_X1_cut : GoodIn wsL_law wsX1_cut := goodIn_ca (goodIn_ca (goodIn_ca (goodIn_r _ [166, 27, 28, 29, 2, 30, 31, 32, 11, 47, 48, 49, 50, 51, 106, 107, 108, 44, 45, 33, 34, 35, 36, 37, 38, 39, 167, 168, 169, 170, 67, 121, 122, 123, 124, 65, 75, 76, 77, 113, 114, 115, 116, 68, 69, 70, 159, 160, 161, 162, 129, 82, 83, 84, 85, 66, 71, 72, 73, 74, 56, 78, 79, 80, 81, 198, 199, 200, 201, 202, 203, 204, 205, 206, 207, 208, 209, 210] (by decide +kernel) (by decide +kernel)) (goodIn_sub (fun _ h => List.mem_append_left _ (List.mem_append_left _ (List.mem_append_right _ h))) (by decide +kernel))) (goodIn_sub (fun _ h => List.mem_append_right _ h) (by decide +kernel))) (goodIn_sub (fun _ h => List.mem_append_left _ (List.mem_append_right _ h)) (by decide +kernel))
set_option maxRecDepth 20000 in
theorem gL_law_X1_cut : GoodIn wsL_law (wsV RL 65 RX1 yX1_cut wsX1_cut) := goodIn_app (goodIn_of _ (by decide +kernel)) ggL_law_X1_cut
set_option maxRecDepth 20000 in
theorem ggL_law_L_adds : GoodIn wsL_law wsL_adds := goodIn_ca (goodIn_r _ [173, 174, 175, 176, 2, 177, 27, 28, 29, 30, 31, 32, 11, 178, 179, 180, 181, 182, 183, 184, 185, 131, 132, 133, 134, 130, 83, 84, 36, 85, 66, 39, 75, 76, 77, 186, 187, 188, 189, 147, 148, 149, 150, 23, 24, 25, 26, 33, 34, 35, 37, 38, 190, 191, 192, 193, 194, 195, 196, 197, 65, 78, 79, 80, 81, 200, 201, 202, 203, 204, 205, 206, 207, 208, 209, 210, 198, 199] (by decide +kernel) (by decide +kernel)) (goodIn_sub (fun _ h => List.mem_append_left _ (List.mem_append_left _ (List.mem_append_right _ h))) (by decide +kernel))
set_option maxRecDepth 20000 in
theorem gL_law_L_adds : GoodIn wsL_law (va_wsS RL 68 yL_adds wsL_adds) := goodIn_app (goodIn_of _ (by decide +kernel)) ggL_law_L_adds
end
section
theorem dL_law_0 : decode cL_law 0 = .ok (.new 11, 3) := by decide +kernel
theorem dL_law_3 : decode cL_law 3 = .ok (.dup, 1) := by decide +kernel
theorem dL_law_4 : decode cL_law 4 = .ok (.invokespecial 37, 3) := by decide +kernel
theorem dL_law_7 : decode cL_law 7 = .ok (.astore_n 1, 1) := by decide +kernel
theorem dL_law_8 : decode cL_law 8 = .ok (.bipush 6, 2) := by decide +kernel
theorem dL_law_10 : decode cL_law 10 = .ok (.newarray .int, 2) := by decide +kernel
theorem dL_law_12 : decode cL_law 12 = .ok (.astore_n 2, 1) := by decide +kernel
theorem dL_law_13 : decode cL_law 13 = .ok (.bipush 6, 2) := by decide +kernel
theorem dL_law_15 : decode cL_law 15 = .ok (.newarray .int, 2) := by decide +kernel
theorem dL_law_17 : decode cL_law 17 = .ok (.astore_n 3, 1) := by decide +kernel
theorem dL_law_18 : decode cL_law 18 = .ok (.iconst 0, 1) := by decide +kernel
theorem dL_law_19 : decode cL_law 19 = .ok (.istore 4, 2) := by decide +kernel
theorem dL_law_21 : decode cL_law 21 = .ok (.iconst 0, 1) := by decide +kernel
theorem dL_law_22 : decode cL_law 22 = .ok (.istore 5, 2) := by decide +kernel
theorem dL_law_24 : decode cL_law 24 = .ok (.iconst 0, 1) := by decide +kernel
theorem dL_law_25 : decode cL_law 25 = .ok (.istore 6, 2) := by decide +kernel
theorem dL_law_27 : decode cL_law 27 = .ok (.iload 6, 2) := by decide +kernel
theorem dL_law_29 : decode cL_law 29 = .ok (.bipush 40, 2) := by decide +kernel
theorem dL_law_31 : decode cL_law 31 = .ok (.if_icmp .ge 547, 3) := by decide +kernel
theorem dL_law_34 : decode cL_law 34 = .ok (.aload_n 0, 1) := by decide +kernel
theorem dL_law_35 : decode cL_law 35 = .ok (.iconst 2, 1) := by decide +kernel
theorem dL_law_36 : decode cL_law 36 = .ok (.iload 6, 2) := by decide +kernel
theorem dL_law_38 : decode cL_law 38 = .ok (.imul, 1) := by decide +kernel
theorem dL_law_39 : decode cL_law 39 = .ok (.invokestatic 38, 3) := by decide +kernel
theorem dL_law_42 : decode cL_law 42 = .ok (.istore 7, 2) := by decide +kernel
theorem dL_law_44 : decode cL_law 44 = .ok (.aload_n 0, 1) := by decide +kernel
theorem dL_law_45 : decode cL_law 45 = .ok (.iconst 2, 1) := by decide +kernel
theorem dL_law_46 : decode cL_law 46 = .ok (.iload 6, 2) := by decide +kernel
theorem dL_law_48 : decode cL_law 48 = .ok (.imul, 1) := by decide +kernel
theorem dL_law_49 : decode cL_law 49 = .ok (.iconst 1, 1) := by decide +kernel
theorem dL_law_50 : decode cL_law 50 = .ok (.iadd, 1) := by decide +kernel
theorem dL_law_51 : decode cL_law 51 = .ok (.invokestatic 38, 3) := by decide +kernel
theorem dL_law_54 : decode cL_law 54 = .ok (.istore 8, 2) := by decide +kernel
theorem dL_law_56 : decode cL_law 56 = .ok (.iload 7, 2) := by decide +kernel
theorem dL_law_58 : decode cL_law 58 = .ok (.bipush 8, 2) := by decide +kernel
theorem dL_law_60 : decode cL_law 60 = .ok (.invokestatic 44, 3) := by decide +kernel
theorem dL_law_63 : decode cL_law 63 = .ok (.istore 9, 2) := by decide +kernel
theorem dL_law_65 : decode cL_law 65 = .ok (.iload 4, 2) := by decide +kernel
theorem dL_law_67 : decode cL_law 67 = .ok (.ifCond .ne 7, 3) := by decide +kernel
theorem dL_law_70 : decode cL_law 70 = .ok (.iconst 0, 1) := by decide +kernel
theorem dL_law_71 : decode cL_law 71 = .ok (.goto 12, 3) := by decide +kernel
theorem dL_law_74 : decode cL_law 74 = .ok (.iload 7, 2) := by decide +kernel
theorem dL_law_76 : decode cL_law 76 = .ok (.iconst 4, 1) := by decide +kernel
theorem dL_law_77 : decode cL_law 77 = .ok (.ishr, 1) := by decide +kernel
theorem dL_law_78 : decode cL_law 78 = .ok (.iload 4, 2) := by decide +kernel
theorem dL_law_80 : decode cL_law 80 = .ok (.invokestatic 44, 3) := by decide +kernel
theorem dL_law_83 : decode cL_law 83 = .ok (.istore 10, 2) := by decide +kernel
theorem dL_law_85 : decode cL_law 85 = .ok (.iload 4, 2) := by decide +kernel
theorem dL_law_87 : decode cL_law 87 = .ok (.ifCond .ne 7, 3) := by decide +kernel
theorem dL_law_90 : decode cL_law 90 = .ok (.iconst 0, 1) := by decide +kernel
theorem dL_law_91 : decode cL_law 91 = .ok (.goto 9, 3) := by decide +kernel
theorem dL_law_94 : decode cL_law 94 = .ok (.aload_n 1, 1) := by decide +kernel
theorem dL_law_95 : decode cL_law 95 = .ok (.iload 10, 2) := by decide +kernel
theorem dL_law_97 : decode cL_law 97 = .ok (.invokevirtual 31, 3) := by decide +kernel
theorem dL_law_100 : decode cL_law 100 = .ok (.istore 11, 2) := by decide +kernel
theorem dL_law_102 : decode cL_law 102 = .ok (.iload 4, 2) := by decide +kernel
theorem dL_law_104 : decode cL_law 104 = .ok (.ifCond .eq 15, 3) := by decide +kernel
theorem dL_law_107 : decode cL_law 107 = .ok (.iload 9, 2) := by decide +kernel
theorem dL_law_109 : decode cL_law 109 = .ok (.ifCond .ne 119, 3) := by decide +kernel
theorem dL_law_112 : decode cL_law 112 = .ok (.iload 4, 2) := by decide +kernel
theorem dL_law_114 : decode cL_law 114 = .ok (.bipush 6, 2) := by decide +kernel
theorem dL_law_116 : decode cL_law 116 = .ok (.if_icmp .ge 112, 3) := by decide +kernel
theorem dL_law_119 : decode cL_law 119 = .ok (.aload_n 2, 1) := by decide +kernel
theorem dL_law_120 : decode cL_law 120 = .ok (.iload 4, 2) := by decide +kernel
theorem dL_law_122 : decode cL_law 122 = .ok (.iload 8, 2) := by decide +kernel
theorem dL_law_124 : decode cL_law 124 = .ok (.sipush 5000, 3) := by decide +kernel
theorem dL_law_127 : decode cL_law 127 = .ok (.invokestatic 44, 3) := by decide +kernel
theorem dL_law_130 : decode cL_law 130 = .ok (.iastore, 1) := by decide +kernel
theorem dL_law_131 : decode cL_law 131 = .ok (.aload_n 3, 1) := by decide +kernel
theorem dL_law_132 : decode cL_law 132 = .ok (.iload 4, 2) := by decide +kernel
theorem dL_law_134 : decode cL_law 134 = .ok (.iconst 1, 1) := by decide +kernel
theorem dL_law_135 : decode cL_law 135 = .ok (.iload 7, 2) := by decide +kernel
theorem dL_law_137 : decode cL_law 137 = .ok (.bipush 8, 2) := by decide +kernel
theorem dL_law_139 : decode cL_law 139 = .ok (.ishr, 1) := by decide +kernel
theorem dL_law_140 : decode cL_law 140 = .ok (.bipush 60, 2) := by decide +kernel
theorem dL_law_142 : decode cL_law 142 = .ok (.invokestatic 44, 3) := by decide +kernel
theorem dL_law_145 : decode cL_law 145 = .ok (.iadd, 1) := by decide +kernel
theorem dL_law_146 : decode cL_law 146 = .ok (.iastore, 1) := by decide +kernel
theorem dL_law_147 : decode cL_law 147 = .ok (.aload_n 1, 1) := by decide +kernel
theorem dL_law_148 : decode cL_law 148 = .ok (.aload_n 3, 1) := by decide +kernel
theorem dL_law_149 : decode cL_law 149 = .ok (.iload 4, 2) := by decide +kernel
theorem dL_law_151 : decode cL_law 151 = .ok (.iaload, 1) := by decide +kernel
theorem dL_law_152 : decode cL_law 152 = .ok (.iconst 1, 1) := by decide +kernel
theorem dL_law_153 : decode cL_law 153 = .ok (.iload 8, 2) := by decide +kernel
theorem dL_law_155 : decode cL_law 155 = .ok (.bipush 8, 2) := by decide +kernel
theorem dL_law_157 : decode cL_law 157 = .ok (.ishr, 1) := by decide +kernel
theorem dL_law_158 : decode cL_law 158 = .ok (.sipush 10000, 3) := by decide +kernel
theorem dL_law_161 : decode cL_law 161 = .ok (.invokestatic 44, 3) := by decide +kernel
theorem dL_law_164 : decode cL_law 164 = .ok (.iadd, 1) := by decide +kernel
theorem dL_law_165 : decode cL_law 165 = .ok (.iload 7, 2) := by decide +kernel
theorem dL_law_167 : decode cL_law 167 = .ok (.bipush 14, 2) := by decide +kernel
theorem dL_law_169 : decode cL_law 169 = .ok (.ishr, 1) := by decide +kernel
theorem dL_law_170 : decode cL_law 170 = .ok (.bipush 13, 2) := by decide +kernel
theorem dL_law_172 : decode cL_law 172 = .ok (.invokestatic 44, 3) := by decide +kernel
theorem dL_law_175 : decode cL_law 175 = .ok (.iload 8, 2) := by decide +kernel
theorem dL_law_177 : decode cL_law 177 = .ok (.iconst 4, 1) := by decide +kernel
theorem dL_law_178 : decode cL_law 178 = .ok (.ishr, 1) := by decide +kernel
theorem dL_law_179 : decode cL_law 179 = .ok (.sipush 300, 3) := by decide +kernel
theorem dL_law_182 : decode cL_law 182 = .ok (.invokestatic 44, 3) := by decide +kernel
theorem dL_law_185 : decode cL_law 185 = .ok (.iload 7, 2) := by decide +kernel
theorem dL_law_187 : decode cL_law 187 = .ok (.bipush 6, 2) := by decide +kernel
theorem dL_law_189 : decode cL_law 189 = .ok (.ishr, 1) := by decide +kernel
theorem dL_law_190 : decode cL_law 190 = .ok (.sipush 20001, 3) := by decide +kernel
theorem dL_law_193 : decode cL_law 193 = .ok (.invokestatic 44, 3) := by decide +kernel
theorem dL_law_196 : decode cL_law 196 = .ok (.iconst 1, 1) := by decide +kernel
theorem dL_law_197 : decode cL_law 197 = .ok (.iload 8, 2) := by decide +kernel
theorem dL_law_199 : decode cL_law 199 = .ok (.bipush 12, 2) := by decide +kernel
theorem dL_law_201 : decode cL_law 201 = .ok (.ishr, 1) := by decide +kernel
theorem dL_law_202 : decode cL_law 202 = .ok (.bipush 120, 2) := by decide +kernel
theorem dL_law_204 : decode cL_law 204 = .ok (.invokestatic 44, 3) := by decide +kernel
theorem dL_law_207 : decode cL_law 207 = .ok (.iadd, 1) := by decide +kernel
theorem dL_law_208 : decode cL_law 208 = .ok (.aload_n 2, 1) := by decide +kernel
theorem dL_law_209 : decode cL_law 209 = .ok (.iload 4, 2) := by decide +kernel
theorem dL_law_211 : decode cL_law 211 = .ok (.iaload, 1) := by decide +kernel
theorem dL_law_212 : decode cL_law 212 = .ok (.invokevirtual 48, 3) := by decide +kernel
theorem dL_law_215 : decode cL_law 215 = .ok (.iload 4, 2) := by decide +kernel
theorem dL_law_217 : decode cL_law 217 = .ok (.if_icmp .eq 5, 3) := by decide +kernel
theorem dL_law_220 : decode cL_law 220 = .ok (.iconst 0, 1) := by decide +kernel
theorem dL_law_221 : decode cL_law 221 = .ok (.ireturn, 1) := by decide +kernel
theorem dL_law_222 : decode cL_law 222 = .ok (.iinc 4 1, 3) := by decide +kernel
theorem dL_law_225 : decode cL_law 225 = .ok (.goto 316, 3) := by decide +kernel
theorem dL_law_228 : decode cL_law 228 = .ok (.iload 9, 2) := by decide +kernel
theorem dL_law_230 : decode cL_law 230 = .ok (.iconst 3, 1) := by decide +kernel
theorem dL_law_231 : decode cL_law 231 = .ok (.if_icmp .ge 51, 3) := by decide +kernel
theorem dL_law_234 : decode cL_law 234 = .ok (.iconst 1, 1) := by decide +kernel
theorem dL_law_235 : decode cL_law 235 = .ok (.iload 8, 2) := by decide +kernel
theorem dL_law_237 : decode cL_law 237 = .ok (.bipush 12, 2) := by decide +kernel
theorem dL_law_239 : decode cL_law 239 = .ok (.invokestatic 44, 3) := by decide +kernel
theorem dL_law_242 : decode cL_law 242 = .ok (.iadd, 1) := by decide +kernel
theorem dL_law_243 : decode cL_law 243 = .ok (.istore 12, 2) := by decide +kernel
theorem dL_law_245 : decode cL_law 245 = .ok (.aload_n 1, 1) := by decide +kernel
theorem dL_law_246 : decode cL_law 246 = .ok (.iload 12, 2) := by decide +kernel
theorem dL_law_248 : decode cL_law 248 = .ok (.invokevirtual 52, 3) := by decide +kernel
theorem dL_law_251 : decode cL_law 251 = .ok (.pop, 1) := by decide +kernel
theorem dL_law_252 : decode cL_law 252 = .ok (.aload_n 1, 1) := by decide +kernel
theorem dL_law_253 : decode cL_law 253 = .ok (.iload 10, 2) := by decide +kernel
theorem dL_law_255 : decode cL_law 255 = .ok (.invokevirtual 31, 3) := by decide +kernel
theorem dL_law_258 : decode cL_law 258 = .ok (.iload 11, 2) := by decide +kernel
theorem dL_law_260 : decode cL_law 260 = .ok (.iload 12, 2) := by decide +kernel
theorem dL_law_262 : decode cL_law 262 = .ok (.if_icmp .le 11, 3) := by decide +kernel
theorem dL_law_265 : decode cL_law 265 = .ok (.iload 11, 2) := by decide +kernel
theorem dL_law_267 : decode cL_law 267 = .ok (.iload 12, 2) := by decide +kernel
theorem dL_law_269 : decode cL_law 269 = .ok (.isub, 1) := by decide +kernel
theorem dL_law_270 : decode cL_law 270 = .ok (.goto 4, 3) := by decide +kernel
theorem dL_law_273 : decode cL_law 273 = .ok (.iconst 0, 1) := by decide +kernel
theorem dL_law_274 : decode cL_law 274 = .ok (.if_icmp .eq 5, 3) := by decide +kernel
theorem dL_law_277 : decode cL_law 277 = .ok (.iconst 0, 1) := by decide +kernel
theorem dL_law_278 : decode cL_law 278 = .ok (.ireturn, 1) := by decide +kernel
theorem dL_law_279 : decode cL_law 279 = .ok (.goto 262, 3) := by decide +kernel
theorem dL_law_282 : decode cL_law 282 = .ok (.iload 9, 2) := by decide +kernel
theorem dL_law_284 : decode cL_law 284 = .ok (.iconst 3, 1) := by decide +kernel
theorem dL_law_285 : decode cL_law 285 = .ok (.if_icmp .ne 45, 3) := by decide +kernel
theorem dL_law_288 : decode cL_law 288 = .ok (.iload 11, 2) := by decide +kernel
theorem dL_law_290 : decode cL_law 290 = .ok (.ifCond .le 40, 3) := by decide +kernel
theorem dL_law_293 : decode cL_law 293 = .ok (.iload 5, 2) := by decide +kernel
theorem dL_law_295 : decode cL_law 295 = .ok (.bipush 8, 2) := by decide +kernel
theorem dL_law_297 : decode cL_law 297 = .ok (.if_icmp .ge 33, 3) := by decide +kernel
theorem dL_law_300 : decode cL_law 300 = .ok (.iinc 5 1, 3) := by decide +kernel
theorem dL_law_303 : decode cL_law 303 = .ok (.aload_n 1, 1) := by decide +kernel
theorem dL_law_304 : decode cL_law 304 = .ok (.iload 10, 2) := by decide +kernel
theorem dL_law_306 : decode cL_law 306 = .ok (.iload 8, 2) := by decide +kernel
theorem dL_law_308 : decode cL_law 308 = .ok (.bipush 100, 2) := by decide +kernel
theorem dL_law_310 : decode cL_law 310 = .ok (.invokestatic 44, 3) := by decide +kernel
theorem dL_law_313 : decode cL_law 313 = .ok (.bipush 50, 2) := by decide +kernel
theorem dL_law_315 : decode cL_law 315 = .ok (.isub, 1) := by decide +kernel
theorem dL_law_316 : decode cL_law 316 = .ok (.invokevirtual 55, 3) := by decide +kernel
theorem dL_law_319 : decode cL_law 319 = .ok (.aload_n 1, 1) := by decide +kernel
theorem dL_law_320 : decode cL_law 320 = .ok (.iload 10, 2) := by decide +kernel
theorem dL_law_322 : decode cL_law 322 = .ok (.invokevirtual 22, 3) := by decide +kernel
theorem dL_law_325 : decode cL_law 325 = .ok (.if_icmp .eq 216, 3) := by decide +kernel
theorem dL_law_328 : decode cL_law 328 = .ok (.iconst 0, 1) := by decide +kernel
theorem dL_law_329 : decode cL_law 329 = .ok (.ireturn, 1) := by decide +kernel
theorem dL_law_330 : decode cL_law 330 = .ok (.iload 9, 2) := by decide +kernel
theorem dL_law_332 : decode cL_law 332 = .ok (.iconst 4, 1) := by decide +kernel
theorem dL_law_333 : decode cL_law 333 = .ok (.if_icmp .ne 75, 3) := by decide +kernel
theorem dL_law_336 : decode cL_law 336 = .ok (.iload 11, 2) := by decide +kernel
theorem dL_law_338 : decode cL_law 338 = .ok (.ifCond .le 70, 3) := by decide +kernel
theorem dL_law_341 : decode cL_law 341 = .ok (.aload_n 3, 1) := by decide +kernel
theorem dL_law_342 : decode cL_law 342 = .ok (.iload 10, 2) := by decide +kernel
theorem dL_law_344 : decode cL_law 344 = .ok (.iaload, 1) := by decide +kernel
theorem dL_law_345 : decode cL_law 345 = .ok (.bipush 110, 2) := by decide +kernel
theorem dL_law_347 : decode cL_law 347 = .ok (.if_icmp .ge 61, 3) := by decide +kernel
theorem dL_law_350 : decode cL_law 350 = .ok (.iconst 1, 1) := by decide +kernel
theorem dL_law_351 : decode cL_law 351 = .ok (.iload 8, 2) := by decide +kernel
theorem dL_law_353 : decode cL_law 353 = .ok (.bipush 10, 2) := by decide +kernel
theorem dL_law_355 : decode cL_law 355 = .ok (.invokestatic 44, 3) := by decide +kernel
theorem dL_law_358 : decode cL_law 358 = .ok (.iadd, 1) := by decide +kernel
theorem dL_law_359 : decode cL_law 359 = .ok (.istore 12, 2) := by decide +kernel
theorem dL_law_361 : decode cL_law 361 = .ok (.aload_n 3, 1) := by decide +kernel
theorem dL_law_362 : decode cL_law 362 = .ok (.iload 10, 2) := by decide +kernel
theorem dL_law_364 : decode cL_law 364 = .ok (.dup2, 1) := by decide +kernel
theorem dL_law_365 : decode cL_law 365 = .ok (.iaload, 1) := by decide +kernel
theorem dL_law_366 : decode cL_law 366 = .ok (.iload 12, 2) := by decide +kernel
theorem dL_law_368 : decode cL_law 368 = .ok (.iadd, 1) := by decide +kernel
theorem dL_law_369 : decode cL_law 369 = .ok (.iastore, 1) := by decide +kernel
theorem dL_law_370 : decode cL_law 370 = .ok (.aload_n 1, 1) := by decide +kernel
theorem dL_law_371 : decode cL_law 371 = .ok (.iload 10, 2) := by decide +kernel
theorem dL_law_373 : decode cL_law 373 = .ok (.iload 12, 2) := by decide +kernel
theorem dL_law_375 : decode cL_law 375 = .ok (.iload 8, 2) := by decide +kernel
theorem dL_law_377 : decode cL_law 377 = .ok (.iconst 5, 1) := by decide +kernel
theorem dL_law_378 : decode cL_law 378 = .ok (.ishr, 1) := by decide +kernel
theorem dL_law_379 : decode cL_law 379 = .ok (.sipush 10001, 3) := by decide +kernel
theorem dL_law_382 : decode cL_law 382 = .ok (.invokestatic 44, 3) := by decide +kernel
theorem dL_law_385 : decode cL_law 385 = .ok (.invokevirtual 58, 3) := by decide +kernel
theorem dL_law_388 : decode cL_law 388 = .ok (.pop, 1) := by decide +kernel
theorem dL_law_389 : decode cL_law 389 = .ok (.aload_n 1, 1) := by decide +kernel
theorem dL_law_390 : decode cL_law 390 = .ok (.iload 10, 2) := by decide +kernel
theorem dL_law_392 : decode cL_law 392 = .ok (.invokevirtual 31, 3) := by decide +kernel
theorem dL_law_395 : decode cL_law 395 = .ok (.iload 11, 2) := by decide +kernel
theorem dL_law_397 : decode cL_law 397 = .ok (.iload 12, 2) := by decide +kernel
theorem dL_law_399 : decode cL_law 399 = .ok (.iadd, 1) := by decide +kernel
theorem dL_law_400 : decode cL_law 400 = .ok (.if_icmp .eq 5, 3) := by decide +kernel
theorem dL_law_403 : decode cL_law 403 = .ok (.iconst 0, 1) := by decide +kernel
theorem dL_law_404 : decode cL_law 404 = .ok (.ireturn, 1) := by decide +kernel
theorem dL_law_405 : decode cL_law 405 = .ok (.goto 136, 3) := by decide +kernel
theorem dL_law_408 : decode cL_law 408 = .ok (.iload 9, 2) := by decide +kernel
theorem dL_law_410 : decode cL_law 410 = .ok (.iconst 5, 1) := by decide +kernel
theorem dL_law_411 : decode cL_law 411 = .ok (.if_icmp .ne 82, 3) := by decide +kernel
theorem dL_law_414 : decode cL_law 414 = .ok (.iload 11, 2) := by decide +kernel
theorem dL_law_416 : decode cL_law 416 = .ok (.iconst 1, 1) := by decide +kernel
theorem dL_law_417 : decode cL_law 417 = .ok (.if_icmp .le 76, 3) := by decide +kernel
theorem dL_law_420 : decode cL_law 420 = .ok (.aload_n 1, 1) := by decide +kernel
theorem dL_law_421 : decode cL_law 421 = .ok (.iload 10, 2) := by decide +kernel
theorem dL_law_423 : decode cL_law 423 = .ok (.invokevirtual 28, 3) := by decide +kernel
theorem dL_law_426 : decode cL_law 426 = .ok (.istore 12, 2) := by decide +kernel
theorem dL_law_428 : decode cL_law 428 = .ok (.iconst 1, 1) := by decide +kernel
theorem dL_law_429 : decode cL_law 429 = .ok (.iload 8, 2) := by decide +kernel
theorem dL_law_431 : decode cL_law 431 = .ok (.iload 11, 2) := by decide +kernel
theorem dL_law_433 : decode cL_law 433 = .ok (.iconst 1, 1) := by decide +kernel
theorem dL_law_434 : decode cL_law 434 = .ok (.isub, 1) := by decide +kernel
theorem dL_law_435 : decode cL_law 435 = .ok (.invokestatic 44, 3) := by decide +kernel
theorem dL_law_438 : decode cL_law 438 = .ok (.iadd, 1) := by decide +kernel
theorem dL_law_439 : decode cL_law 439 = .ok (.istore 13, 2) := by decide +kernel
theorem dL_law_441 : decode cL_law 441 = .ok (.aload_n 3, 1) := by decide +kernel
theorem dL_law_442 : decode cL_law 442 = .ok (.iload 10, 2) := by decide +kernel
theorem dL_law_444 : decode cL_law 444 = .ok (.dup2, 1) := by decide +kernel
theorem dL_law_445 : decode cL_law 445 = .ok (.iaload, 1) := by decide +kernel
theorem dL_law_446 : decode cL_law 446 = .ok (.iload 13, 2) := by decide +kernel
theorem dL_law_448 : decode cL_law 448 = .ok (.bipush 60, 2) := by decide +kernel
theorem dL_law_450 : decode cL_law 450 = .ok (.if_icmp .le 7, 3) := by decide +kernel
theorem dL_law_453 : decode cL_law 453 = .ok (.iconst 0, 1) := by decide +kernel
theorem dL_law_454 : decode cL_law 454 = .ok (.goto 5, 3) := by decide +kernel
theorem dL_law_457 : decode cL_law 457 = .ok (.iload 13, 2) := by decide +kernel
theorem dL_law_459 : decode cL_law 459 = .ok (.isub, 1) := by decide +kernel
theorem dL_law_460 : decode cL_law 460 = .ok (.iastore, 1) := by decide +kernel
theorem dL_law_461 : decode cL_law 461 = .ok (.iload 13, 2) := by decide +kernel
theorem dL_law_463 : decode cL_law 463 = .ok (.bipush 60, 2) := by decide +kernel
theorem dL_law_465 : decode cL_law 465 = .ok (.if_icmp .gt 25, 3) := by decide +kernel
theorem dL_law_468 : decode cL_law 468 = .ok (.aload_n 1, 1) := by decide +kernel
theorem dL_law_469 : decode cL_law 469 = .ok (.iload 10, 2) := by decide +kernel
theorem dL_law_471 : decode cL_law 471 = .ok (.iload 13, 2) := by decide +kernel
theorem dL_law_473 : decode cL_law 473 = .ok (.invokevirtual 62, 3) := by decide +kernel
theorem dL_law_476 : decode cL_law 476 = .ok (.aload_n 1, 1) := by decide +kernel
theorem dL_law_477 : decode cL_law 477 = .ok (.iload 10, 2) := by decide +kernel
theorem dL_law_479 : decode cL_law 479 = .ok (.invokevirtual 28, 3) := by decide +kernel
theorem dL_law_482 : decode cL_law 482 = .ok (.iload 12, 2) := by decide +kernel
theorem dL_law_484 : decode cL_law 484 = .ok (.isub, 1) := by decide +kernel
theorem dL_law_485 : decode cL_law 485 = .ok (.if_icmp .eq 5, 3) := by decide +kernel
theorem dL_law_488 : decode cL_law 488 = .ok (.iconst 0, 1) := by decide +kernel
theorem dL_law_489 : decode cL_law 489 = .ok (.ireturn, 1) := by decide +kernel
theorem dL_law_490 : decode cL_law 490 = .ok (.goto 51, 3) := by decide +kernel
theorem dL_law_493 : decode cL_law 493 = .ok (.iload 9, 2) := by decide +kernel
theorem dL_law_495 : decode cL_law 495 = .ok (.iconst 5, 1) := by decide +kernel
theorem dL_law_496 : decode cL_law 496 = .ok (.if_icmp .le 45, 3) := by decide +kernel
theorem dL_law_499 : decode cL_law 499 = .ok (.iload 11, 2) := by decide +kernel
theorem dL_law_501 : decode cL_law 501 = .ok (.ifCond .le 40, 3) := by decide +kernel
theorem dL_law_504 : decode cL_law 504 = .ok (.aload_n 1, 1) := by decide +kernel
theorem dL_law_505 : decode cL_law 505 = .ok (.iload 10, 2) := by decide +kernel
theorem dL_law_507 : decode cL_law 507 = .ok (.invokevirtual 28, 3) := by decide +kernel
theorem dL_law_510 : decode cL_law 510 = .ok (.istore 12, 2) := by decide +kernel
theorem dL_law_512 : decode cL_law 512 = .ok (.aload_n 1, 1) := by decide +kernel
theorem dL_law_513 : decode cL_law 513 = .ok (.iload 10, 2) := by decide +kernel
theorem dL_law_515 : decode cL_law 515 = .ok (.iconst 1, 1) := by decide +kernel
theorem dL_law_516 : decode cL_law 516 = .ok (.iload 8, 2) := by decide +kernel
theorem dL_law_518 : decode cL_law 518 = .ok (.bipush 40, 2) := by decide +kernel
theorem dL_law_520 : decode cL_law 520 = .ok (.invokestatic 44, 3) := by decide +kernel
theorem dL_law_523 : decode cL_law 523 = .ok (.iadd, 1) := by decide +kernel
theorem dL_law_524 : decode cL_law 524 = .ok (.invokevirtual 65, 3) := by decide +kernel
theorem dL_law_527 : decode cL_law 527 = .ok (.aload_n 1, 1) := by decide +kernel
theorem dL_law_528 : decode cL_law 528 = .ok (.iload 10, 2) := by decide +kernel
theorem dL_law_530 : decode cL_law 530 = .ok (.invokevirtual 28, 3) := by decide +kernel
theorem dL_law_533 : decode cL_law 533 = .ok (.iload 12, 2) := by decide +kernel
theorem dL_law_535 : decode cL_law 535 = .ok (.isub, 1) := by decide +kernel
theorem dL_law_536 : decode cL_law 536 = .ok (.if_icmp .eq 5, 3) := by decide +kernel
theorem dL_law_539 : decode cL_law 539 = .ok (.iconst 0, 1) := by decide +kernel
theorem dL_law_540 : decode cL_law 540 = .ok (.ireturn, 1) := by decide +kernel
theorem dL_law_541 : decode cL_law 541 = .ok (.iconst 0, 1) := by decide +kernel
theorem dL_law_542 : decode cL_law 542 = .ok (.istore 12, 2) := by decide +kernel
theorem dL_law_544 : decode cL_law 544 = .ok (.iload 12, 2) := by decide +kernel
theorem dL_law_546 : decode cL_law 546 = .ok (.iload 4, 2) := by decide +kernel
theorem dL_law_548 : decode cL_law 548 = .ok (.if_icmp .ge 24, 3) := by decide +kernel
theorem dL_law_551 : decode cL_law 551 = .ok (.aload_n 1, 1) := by decide +kernel
theorem dL_law_552 : decode cL_law 552 = .ok (.iload 12, 2) := by decide +kernel
theorem dL_law_554 : decode cL_law 554 = .ok (.aload_n 2, 1) := by decide +kernel
theorem dL_law_555 : decode cL_law 555 = .ok (.iload 12, 2) := by decide +kernel
theorem dL_law_557 : decode cL_law 557 = .ok (.iaload, 1) := by decide +kernel
theorem dL_law_558 : decode cL_law 558 = .ok (.invokestatic 68, 3) := by decide +kernel
theorem dL_law_561 : decode cL_law 561 = .ok (.ifCond .ne 5, 3) := by decide +kernel
theorem dL_law_564 : decode cL_law 564 = .ok (.iconst 0, 1) := by decide +kernel
theorem dL_law_565 : decode cL_law 565 = .ok (.ireturn, 1) := by decide +kernel
theorem dL_law_566 : decode cL_law 566 = .ok (.iinc 12 1, 3) := by decide +kernel
theorem dL_law_569 : decode cL_law 569 = .ok (.goto (-25), 3) := by decide +kernel
theorem dL_law_572 : decode cL_law 572 = .ok (.iinc 6 1, 3) := by decide +kernel
theorem dL_law_575 : decode cL_law 575 = .ok (.goto (-548), 3) := by decide +kernel
theorem dL_law_578 : decode cL_law 578 = .ok (.iconst 1, 1) := by decide +kernel
theorem dL_law_579 : decode cL_law 579 = .ok (.ireturn, 1) := by decide +kernel
abbrev vwCl : List vw_C := [(RX0, TX0, 11), (RX1, TX1, 2)]
end
section
/-! rows of this claim's own: numbers as Nat, worlds in blocks, one shape of contract -/
abbrev zG : Type := va_G × ClassId × ClassId × ClassId
abbrev zT (g : zG) : List (ClassId × FieldType) := [(g.2.1, .int), (g.2.2.1, .object "Usewise$Lease"), (g.2.2.2, .int)]
def zK (g : zG) (U : State) : Prop := va_K g.1 vwCl (zT g) U
theorem zK.moved {g : zG} {u U : State} (hvm : u.vm.Alike U.vm) (h : zK g u) : zK g U := va_K.moved hvm h
def zIn (g : zG) (ws : va_W) (sz : Nat) (U : State) : Prop := U.heap.size = sz ∧ va_P g.1 vwCl ws U.heap ∧ zK g U ∧ va_D (fun _ => True) ws
def zOut (g : zG) (A : Nat → Prop) (ws : va_W) (t : State) : Prop := va_P g.1 vwCl ws t.heap ∧ zK g t ∧ va_D A ws
/-- the words beside the tables' good ones -/
def zMN (C : String) : MethodName := ⟨C, "<init>", "(Ljava/lang/String;)V"⟩
def zNW : List Cond := [.declares (zMN "java/lang/RuntimeException"), .declares (zMN "java/lang/Exception"), .declares (zMN "java/lang/Throwable"), .castable "java/lang/IllegalArgumentException" "java/lang/IllegalArgumentException", .castable "java/lang/IllegalStateException" "java/lang/IllegalStateException", .castable "java/lang/IndexOutOfBoundsException" "java/lang/IndexOutOfBoundsException", .fieldLinkNest "Usewise" 87 "Usewise$Lease" "rate" "I" "Usewise", .fieldLinkNest "Usewise" 94 "Usewise$Lease" "right" "J" "Usewise", .fieldLinkNest "Usewise" 98 "Usewise$Lease" "interest" "J" "Usewise", .fieldLinkNest "Usewise" 101 "Usewise$Lease" "written" "J" "Usewise", .fieldLinkNest "Usewise" 104 "Usewise$Lease" "paid" "J" "Usewise", .fieldLinkNest "Usewise" 107 "Usewise$Lease" "gains" "J" "Usewise"]
def zSR : List (Nat × String) := [(113, "out of range"), (116, "the lease is over"), (118, "no such lease"), (25, "there are as many leases as there can be"), (48, "a payment would be too high"), (61, "there would be too many months in all"), (70, "no month would be left to come")]
def zNC : List (String × String) := []
def zV (U : State) : Prop := (∀ w ∈ zNW, va_Nw w U) ∧ (∀ q ∈ zSR, ∃ a : Nat, vk_R "Usewise" q.1 q.2 a U) ∧ va_AO "Usewise$Lease" U ∧ ∀ q ∈ zNC, va_Nc q.1 q.2 U
def zX (A : Nat → Prop) (U : State) (H : Heap) : Prop := vx_Zq Bundle.tN "UNASSIGNED_STACK" Bundle.steD A U H ∧ vx_Zq Bundle.tN "SUPPRESSED_SENTINEL" Bundle.listD A U H ∧ zV U
theorem zV.warm {s U : State} (hW : s.WarmedH U.vm) (h : zV s) : zV U := by
  refine ⟨fun w hw => ?_, fun q hq => ?_, h.2.2.1.moved hW.alike, fun q hq => (h.2.2.2 q hq).moved hW.alike⟩
  · have h1 := h.1 w hw
    simp only [zNW, List.mem_cons, List.not_mem_nil, or_false] at hw
    rcases hw with rfl | rfl | rfl | rfl | rfl | rfl | rfl | rfl | rfl | rfl | rfl | rfl <;> first | exact va_Nw.warmC hW h1 | exact va_Nw.warmF hW h1 | exact va_Nw.warmD hW h1
  · obtain ⟨a, ha⟩ := h.2.1 q hq
    exact ⟨a, vk_R.warm hW ha⟩
theorem zX.warm {A B : Nat → Prop} {s U : State} {H0 H : Heap} {locs : List Loc} (hS : va_S A H0 H locs) (hW : s.WarmedH U.vm) (h : zX A s H0) (hB : ∀ q, B q → A q) : zX B U H :=
  ⟨((h.1.kept hS.2.1).moved hW.alike).narrow hB, ((h.2.1.kept hS.2.1).moved hW.alike).narrow hB, zV.warm hW h.2.2⟩
theorem zX.same {A : Nat → Prop} {U V : State} {H : Heap} (hv : V.vm = U.vm) (h : zX A U H) : zX A V H := by
  have hal : U.vm.Alike V.vm := by rw [hv]; exact Vm.Alike.refl U.vm
  refine ⟨h.1.moved hal, h.2.1.moved hal, fun w hw => ?_, fun q hq => ?_, h.2.2.2.2.1.moved hal, fun q hq => (h.2.2.2.2.2 q hq).moved hal⟩
  · have h1 := h.2.2.1 w hw
    simp only [zNW, List.mem_cons, List.not_mem_nil, or_false] at hw
    rcases hw with rfl | rfl | rfl | rfl | rfl | rfl | rfl | rfl | rfl | rfl | rfl | rfl <;> exact va_Nw.same rfl hv.symm h1
  · obtain ⟨a, ha⟩ := h.2.2.2.1 q hq
    exact ⟨a, vk_R.same hv ha⟩
-- the shapes of a contract
abbrev zMi (l : Launch) (y : MethodName) (wsy : List Cond) (rm : Room) (av : List Value) (g : zG) (w : va_W) (post : Int32 → va_W → Prop) (mc ms : Nat) : Prop := ∀ (sz : Nat) (A : Nat → Prop), A = va_A w sz → Met l y wsy rm (va_Pc av (zIn g w sz)) (va_Qi post (zOut g A) A) mc ms A
abbrev zMl (l : Launch) (y : MethodName) (wsy : List Cond) (rm : Room) (av : List Value) (g : zG) (w : va_W) (post : Int64 → va_W → Prop) (mc ms : Nat) : Prop := ∀ (sz : Nat) (A : Nat → Prop), A = va_A w sz → Met l y wsy rm (va_Pc av (zIn g w sz)) (va_Ql post (zOut g A) A) mc ms A
abbrev zMv (l : Launch) (y : MethodName) (wsy : List Cond) (rm : Room) (av : List Value) (g : zG) (w : va_W) (post : va_W → Prop) (mc ms : Nat) : Prop := ∀ (sz : Nat) (A : Nat → Prop), A = va_A w sz → Met l y wsy rm (va_Pc av (zIn g w sz)) (va_Qv post (zOut g A) A) mc ms A
abbrev zPX (av : List Value) (g : zG) (w : va_W) (sz : Nat) (A : Nat → Prop) : Array Value → State → Prop := va_Pc av (fun U => zIn g w sz U ∧ zX A U U.heap)
abbrev zQX (g : zG) (w : va_W) (XE : String → Prop) (A : Nat → Prop) : String → State → State → Prop := vx_X (fun u : va_W => u = w) (fun E u t => XE E ∧ zOut g A u t) A
abbrev zWi (l : Launch) (y : MethodName) (wsy : List Cond) (rm : Room) (av : List Value) (g : zG) (w : va_W) (post : Int32 → va_W → Prop) (mc ms : Nat) : Prop := ∀ (sz : Nat) (A : Nat → Prop), A = va_A w sz → Met l y wsy rm (zPX av g w sz A) (va_Qi post (zOut g A) A) mc ms A
abbrev zWv (l : Launch) (y : MethodName) (wsy : List Cond) (rm : Room) (av : List Value) (g : zG) (w : va_W) (post : va_W → Prop) (mc ms : Nat) : Prop := ∀ (sz : Nat) (A : Nat → Prop), A = va_A w sz → Met l y wsy rm (zPX av g w sz A) (va_Qv post (zOut g A) A) mc ms A
abbrev zXi (l : Launch) (y : MethodName) (wsy : List Cond) (rm : Room) (av : List Value) (g : zG) (w : va_W) (post : Int32 → va_W → Prop) (XE : String → Prop) (mc ms : Nat) : Prop := ∀ (sz : Nat) (A : Nat → Prop), A = va_A w sz → vx_Met l y wsy rm (zPX av g w sz A) (va_Qi post (zOut g A) A) (zQX g w XE A) mc ms A
abbrev zXv (l : Launch) (y : MethodName) (wsy : List Cond) (rm : Room) (av : List Value) (g : zG) (w : va_W) (post : va_W → Prop) (XE : String → Prop) (mc ms : Nat) : Prop := ∀ (sz : Nat) (A : Nat → Prop), A = va_A w sz → vx_Met l y wsy rm (zPX av g w sz A) (va_Qv post (zOut g A) A) (zQX g w XE A) mc ms A
abbrev zXq (l : Launch) (y : MethodName) (wsy : List Cond) (rm : Room) (av : List Value) (g : zG) (w : va_W) (post : Option Nat → va_W → Prop) (XE : String → Prop) (mc ms : Nat) : Prop := ∀ (sz : Nat) (A : Nat → Prop), A = va_A w sz → vx_Met l y wsy rm (zPX av g w sz A) (va_Qq post (zOut g A) A) (zQX g w XE A) mc ms A
theorem zIn.blind {av : List Value} {g : zG} {w : va_W} {sz : Nat} : FrameBlind (va_Pc av (zIn g w sz)) := fun a U f mk q => by
  obtain ⟨q0, q1, qP, qK, qD⟩ := q
  exact ⟨q0, q1, qP, zK.moved (u := U) (U := U.calling f mk a) (Vm.Alike.refl U.vm) qK, qD⟩
theorem zPX.blind {av : List Value} {g : zG} {w : va_W} {sz : Nat} {A : Nat → Prop} : FrameBlind (zPX av g w sz A) := fun a U f mk q => by
  obtain ⟨q0, ⟨q1, qP, qK, qD⟩, qX⟩ := q
  exact ⟨q0, ⟨q1, qP, zK.moved (u := U) (U := U.calling f mk a) (Vm.Alike.refl U.vm) qK, qD⟩, zX.same (U := U) rfl qX⟩
theorem z_in {s : State} {A : Nat → Prop} {w : va_W} {sz : Nat} (hsz : s.heap.size = sz) (hAe : A = va_A w sz) (hD0 : va_D (fun _ => True) w) : va_D A w ∧ (∀ q : Nat, s.heap.size ≤ q → A q) ∧ va_S A s.heap s.heap [] := by
  subst hsz; subst hAe
  exact ⟨hD0.self, fun q h => Or.inr h, va_S.rf⟩
-- worlds in blocks
theorem zP_iff {D : va_G} {cl : List vw_C} {ws : va_W} {H : Heap} : va_P D cl ws H ↔ ∀ q ∈ ws, va_at D cl q H :=
  ⟨fun h q hq => by obtain ⟨k, hk⟩ := List.getElem?_of_mem hq; exact h k q hk, fun h k q hk => h q (List.mem_of_getElem? hk)⟩
theorem zD_iff {A : Nat → Prop} {ws : va_W} : va_D A ws ↔ (ws.map Prod.fst).Nodup ∧ ∀ q ∈ ws, A q.1 := by
  constructor
  · intro h
    refine ⟨?_, fun q hq => by obtain ⟨k, hk⟩ := List.getElem?_of_mem hq; exact h.2 k q hk⟩
    rw [List.nodup_iff_pairwise_ne, List.pairwise_iff_getElem]
    intro i j hi hj hij he
    rw [List.getElem_map, List.getElem_map] at he
    rw [List.length_map] at hi hj
    have := h.1 i j ws[i] ws[j] (List.getElem?_eq_getElem hi) (List.getElem?_eq_getElem hj) he
    omega
  · intro h
    refine ⟨fun i j p q hp hq he => ?_, fun k q hk => h.2 q (List.mem_of_getElem? hk)⟩
    have h1 := h.1
    rw [List.nodup_iff_pairwise_ne, List.pairwise_iff_getElem] at h1
    obtain ⟨hi, ei⟩ := List.getElem?_eq_some_iff.mp hp
    obtain ⟨hj, ej⟩ := List.getElem?_eq_some_iff.mp hq
    rcases Nat.lt_trichotomy i j with q1 | q1 | q1
    · exact absurd (by rw [List.getElem_map, List.getElem_map, ei, ej]; exact he) (h1 i j (by rw [List.length_map]; exact hi) (by rw [List.length_map]; exact hj) q1)
    · exact q1
    · exact absurd (by rw [List.getElem_map, List.getElem_map, ei, ej]; exact he.symm) (h1 j i (by rw [List.length_map]; exact hj) (by rw [List.length_map]; exact hi) q1)
theorem zP_perm {D : va_G} {cl : List vw_C} {ws ws' : va_W} {H : Heap} (h : va_P D cl ws H) (p : ws'.Perm ws) : va_P D cl ws' H := zP_iff.mpr fun q hq => zP_iff.mp h q (p.subset hq)
theorem zD_perm {A : Nat → Prop} {ws ws' : va_W} (h : va_D A ws) (p : ws'.Perm ws) : va_D A ws' := zD_iff.mpr ⟨(p.map Prod.fst).nodup_iff.mpr (zD_iff.mp h).1, fun q hq => (zD_iff.mp h).2 q (p.subset hq)⟩
theorem zA_iff {ws : va_W} {sz q : Nat} : va_A ws sz q ↔ (∃ e, (q, e) ∈ ws) ∨ sz ≤ q := by
  constructor
  · rintro (⟨k, e, h⟩ | h)
    · exact Or.inl ⟨e, List.mem_of_getElem? h⟩
    · exact Or.inr h
  · rintro (⟨e, h⟩ | h)
    · obtain ⟨k, hk⟩ := List.getElem?_of_mem h
      exact Or.inl ⟨k, e, hk⟩
    · exact Or.inr h
theorem zP_mid {D : va_G} {cl : List vw_C} {wa wc wb : va_W} {H : Heap} (h : va_P D cl (wa ++ wc ++ wb) H) : va_P D cl wc H := zP_iff.mpr fun q hq => zP_iff.mp h q (by simp [hq])
theorem zD_mid {A : Nat → Prop} {wa wc wb : va_W} (h : va_D A (wa ++ wc ++ wb)) : va_D A wc := by
  have h' := zD_iff.mp h
  refine zD_iff.mpr ⟨?_, fun q hq => h'.2 q (by simp [hq])⟩
  have h1 := h'.1
  rw [List.map_append, List.map_append] at h1
  exact (List.nodup_append.mp (List.nodup_append.mp h1).1).2.1
theorem zfree {A : Nat → Prop} {wa wc wb : va_W} {H0 H : Heap} {locs : List Loc} (hD : va_D A (wa ++ wc ++ wb)) (hS : va_S A H0 H locs) (hA : ∀ q, H0.size ≤ q → A q) : ∀ q, va_A wc H.size q → A q := by
  intro q hq
  rcases zA_iff.mp hq with ⟨e, he⟩ | h
  · exact (zD_iff.mp hD).2 (q, e) (by simp [he])
  · exact hA q (Nat.le_trans hS.1 h)
theorem zjoin {A : Nat → Prop} {D : va_G} {cl : List vw_C} {wa wc wb w1 : va_W} {H H1 : Heap} (hP : va_P D cl (wa ++ wc ++ wb) H) (hD : va_D A (wa ++ wc ++ wb))
    (hk : ∀ q : Nat, q < H.size → ¬ va_A wc H.size q → H1[q]? = H[q]?) (hF : ∀ q, va_A wc H.size q → A q) (hP1 : va_P D cl w1 H1) (hD1 : va_D (va_A wc H.size) w1) : va_P D cl (wa ++ w1 ++ wb) H1 ∧ va_D A (wa ++ w1 ++ wb) := by
  have hP' := zP_iff.mp hP
  obtain ⟨hn, hA'⟩ := zD_iff.mp hD
  obtain ⟨hn1, hA1⟩ := zD_iff.mp hD1
  have hP1' := zP_iff.mp hP1
  simp only [List.map_append, List.nodup_append, List.mem_append, List.mem_map] at hn
  obtain ⟨⟨na, nc, nac⟩, nb, nab⟩ := hn
  have out : ∀ q ∈ wa ++ wb, q.1 < H.size ∧ ¬ va_A wc H.size q.1 := by
    intro q hq
    have hlt : q.1 < H.size := (hP' q (by rcases List.mem_append.mp hq with h | h <;> simp [h])).lt
    refine ⟨hlt, fun h => ?_⟩
    rcases zA_iff.mp h with ⟨e, he⟩ | h
    · rcases List.mem_append.mp hq with h2 | h2
      · exact nac q.1 ⟨q, h2, rfl⟩ q.1 ⟨_, he, rfl⟩ rfl
      · exact nab q.1 (Or.inr ⟨_, he, rfl⟩) q.1 ⟨q, h2, rfl⟩ rfl
    · omega
  refine ⟨zP_iff.mpr fun q hq => ?_, zD_iff.mpr ⟨?_, fun q hq => ?_⟩⟩
  · rcases List.mem_append.mp hq with h | h
    · rcases List.mem_append.mp h with h | h
      · obtain ⟨g1, g2⟩ := out q (List.mem_append_left _ h)
        exact (hP' q (by simp [h])).kept (hk q.1 g1 g2)
      · exact hP1' q h
    · obtain ⟨g1, g2⟩ := out q (List.mem_append_right _ h)
      exact (hP' q (by simp [h])).kept (hk q.1 g1 g2)
  · simp only [List.map_append, List.nodup_append, List.mem_append, List.mem_map]
    refine ⟨⟨na, hn1, ?_⟩, nb, ?_⟩
    · rintro x ⟨q, hq, rfl⟩ y ⟨q1, hq1, rfl⟩ he
      exact (out q (List.mem_append_left _ hq)).2 (by rw [he]; exact hA1 q1 hq1)
    · rintro x (⟨q, hq, rfl⟩ | ⟨q, hq, rfl⟩) y ⟨q1, hq1, rfl⟩ he
      · exact nab q.1 (Or.inl ⟨q, hq, rfl⟩) q1.1 ⟨q1, hq1, rfl⟩ he
      · exact (out q1 (List.mem_append_right _ hq1)).2 (by rw [← he]; exact hA1 q hq)
  · rcases List.mem_append.mp hq with h | h
    · rcases List.mem_append.mp h with h | h
      · exact hA' q (by simp [h])
      · exact hF q.1 (hA1 q h)
    · exact hA' q (by simp [h])
end
section
section ZQ
variable {p : Program} {l : Launch} {e : Env} {R : Room} {s : State} {m : MethodId} {args : Array Value} {below : List Frame} {meth : Method} {c : Code} {H : Heap} {locs : List Loc} {cells slots : Nat} {Q : State → Prop}
variable {mc ms : Nat} {free : Addr → Prop} {A0 A1 : Nat → Prop} {H0 : Heap} {a : Array Value} {pc : Nat} {ls : Array Slot} {st0 rest : List Value}
theorem vx_callq {S SX : Type} {post : Option Nat → S → Prop} {px : SX → Prop} {B : S → State → Prop} {BX : String → SX → State → Prop} {AX : Nat → Prop} (hr : vx_Run p l e R s m args below meth c H locs cells slots mc ms (F0 m pc ls st0) rest (va_Qq post B A1 a) (vx_X px BX AX) free) (hS : va_S A0 H0 H locs) (hA : ∀ q, q < H.size → A1 q → A0 q) (hf : ∀ q, free q → A0 q) (hAX : ∀ q, q < H.size → AX q → A0 q)
    (kx : ∀ (E : String) (ce : Cell) (q9 : Addr) (u : SX) (t : State) (H1 : Heap) (locs1 : List Loc), t.heap = H1 → s.vm.Alike t.vm → px u → BX E u t → H.size ≤ H1.size → (∀ q : Nat, q < H.size → ¬ AX q → H1[q]? = H[q]?) → va_S A0 H0 H1 locs1 → H1[q9]? = some ce → ce.vm = .none → s.vm.findClass E = some ce.cls → vx_W p l e R s m args below meth c H1 locs1 (cells + mc) (slots + ms) Q (F0 m pc ls rest) q9)
    (kk : ∀ (r : Option Nat) (u : S) (t : State) (H1 : Heap) (locs1 : List Loc), t.heap = H1 → s.vm.Alike t.vm → post r u → B u t → H.size ≤ H1.size → (∀ q : Nat, q < H.size → ¬ A1 q → H1[q]? = H[q]?) → va_S A0 H0 H1 locs1 → W p l e R s m args below meth c H1 locs1 (cells + mc) (slots + ms) Q (F0 m (pc + 3) ls (va_rf r :: rest))) : W p l e R s m args below meth c H locs cells slots Q (F0 m pc ls st0) := by
  intro T hT X
  rcases hr T hT X with ⟨v, st₀, t, T', L, h0, X', hL, e1, e2, ⟨⟨r, u, hv, hp, hb⟩, hF⟩, st⟩ | ⟨q, st₀, t, T', L, E, ce, h0, X', hL, e1, e2, ⟨u, hp, hb, hF⟩, hce, hcv, hcl, st⟩
  · cases hv
    obtain ⟨k1, k2, k3⟩ := vx_keep h0 e1 hS hA hf hL hF
    obtain ⟨t2, a1, b1⟩ := kk r u t T'.heap (locs ++ L) e1.symm (by rw [← e2]; exact X'.warmed.alike) hp hb k1 k2 k3 T' rfl X'
    exact ⟨t2, st t2 a1, b1⟩
  · obtain ⟨k1, k2, k3⟩ := vx_keep h0 e1 hS hAX hf hL hF
    obtain ⟨t2, a1, b1⟩ := kx E ce q u t T'.heap (locs ++ L) e1.symm (by rw [← e2]; exact X'.warmed.alike) hp hb k1 k2 k3 (by rw [e1]; exact hce) hcv hcl T' rfl X'
    exact ⟨t2, st.trans a1, b1⟩
end ZQ
section ZC
variable {p : Program} {l : Launch} {e : Env} {R : Room} {s : State} {m : MethodId} {args : Array Value} {below : List Frame} {meth : Method} {c : Code} {H : Heap} {locs : List Loc} {cells slots : Nat} {Q : State → Prop}
variable {cc : ByteArray} {pc : Nat} {ls : Array Slot} {rest st : List Value} {g : zG} {A : Nat → Prop} {wa wc wb : va_W}
variable {y : MethodName} {bytes : ByteArray} {maxL nL mc ms n index ci N : Nat} {wsy Ts : List Cond} {rm : Room} {own C : String} {T : u_T} {b : Addr} {As : List Value} {fs : List Value} {XE : String → Prop}
theorem zpreV (hK : zK g s) (hP : va_P g.1 vwCl (wa ++ wc ++ wb) H) (hD : va_D A (wa ++ wc ++ wb)) {q0 : Nat} (hr : wc[q0]? = some (b, .inr (ci, fs))) (hci : vwCl[ci]? = some (C, T, N)) : PreV s H C b (va_Pc (.ref b :: As) (zIn g wc H.size)) As :=
  ⟨zIn.blind, va_recv hK (zP_mid hP) hci hr, fun U hU hW => ⟨rfl, by rw [hU], by rw [hU]; exact zP_mid hP, hK.moved hW.alike, (zD_mid hD).weaken (fun _ _ _ _ => trivial)⟩⟩
theorem zpreS (hK : zK g s) (hP : va_P g.1 vwCl (wa ++ wc ++ wb) H) (hD : va_D A (wa ++ wc ++ wb)) : PreS s H (va_Pc As (zIn g wc H.size)) As :=
  ⟨zIn.blind, fun U hU hW => ⟨rfl, by rw [hU], by rw [hU]; exact zP_mid hP, hK.moved hW.alike, (zD_mid hD).weaken (fun _ _ _ _ => trivial)⟩⟩
theorem zpreXV (hK : zK g s) (hP : va_P g.1 vwCl (wa ++ wc ++ wb) H) (hD : va_D A (wa ++ wc ++ wb)) (hS : va_S A s.heap H locs) (hA : ∀ q, s.heap.size ≤ q → A q) (hX : zX A s s.heap) {q0 : Nat} (hr : wc[q0]? = some (b, .inr (ci, fs))) (hci : vwCl[ci]? = some (C, T, N)) : PreV s H C b (zPX (.ref b :: As) g wc H.size (va_A wc H.size)) As :=
  ⟨zPX.blind, va_recv hK (zP_mid hP) hci hr, fun U hU hW => ⟨rfl, ⟨by rw [hU], by rw [hU]; exact zP_mid hP, hK.moved hW.alike, (zD_mid hD).weaken (fun _ _ _ _ => trivial)⟩, by rw [hU]; exact hX.warm hS hW (zfree hD hS hA)⟩⟩
theorem zpreXS (hK : zK g s) (hP : va_P g.1 vwCl (wa ++ wc ++ wb) H) (hD : va_D A (wa ++ wc ++ wb)) (hS : va_S A s.heap H locs) (hA : ∀ q, s.heap.size ≤ q → A q) (hX : zX A s s.heap) : PreS s H (zPX As g wc H.size (va_A wc H.size)) As :=
  ⟨zPX.blind, fun U hU hW => ⟨rfl, ⟨by rw [hU], by rw [hU]; exact zP_mid hP, hK.moved hW.alike, (zD_mid hD).weaken (fun _ _ _ _ => trivial)⟩, by rw [hU]; exact hX.warm hS hW (zfree hD hS hA)⟩⟩
-- behind a run
theorem z_ai {post : Int32 → va_W → Prop} {a : Array Value} (hr : va_Run p l e R s m args below meth c H locs cells slots mc ms (F0 m pc ls st) rest (va_Qi post (zOut g (va_A wc H.size)) (va_A wc H.size) a) (va_A wc H.size)) (hP : va_P g.1 vwCl (wa ++ wc ++ wb) H) (hD : va_D A (wa ++ wc ++ wb)) (hS : va_S A s.heap H locs) (hA : ∀ q, s.heap.size ≤ q → A q)
    (kk : ∀ (r : Int32) (w1 : va_W) (H1 : Heap) (locs1 : List Loc), post r w1 → va_P g.1 vwCl (wa ++ w1 ++ wb) H1 → va_D A (wa ++ w1 ++ wb) → va_S A s.heap H1 locs1 → W p l e R s m args below meth c H1 locs1 (cells + mc) (slots + ms) Q (F0 m (pc + 3) ls (.int r :: rest))) : W p l e R s m args below meth c H locs cells slots Q (F0 m pc ls st) :=
  va_calli hr hS (fun q _ h => zfree hD hS hA q h) (zfree hD hS hA) (fun r u t H1 locs1 ht hvm hw hB hz1 hk1 hS1 => by
    obtain ⟨hP1, hK1, hD1⟩ := hB
    rw [ht] at hP1
    obtain ⟨hP2, hD2⟩ := zjoin hP hD hk1 (zfree hD hS hA) hP1 hD1
    exact kk r u H1 locs1 hw hP2 hD2 hS1)
theorem z_al {post : Int64 → va_W → Prop} {a : Array Value} (hr : va_Run p l e R s m args below meth c H locs cells slots mc ms (F0 m pc ls st) rest (va_Ql post (zOut g (va_A wc H.size)) (va_A wc H.size) a) (va_A wc H.size)) (hP : va_P g.1 vwCl (wa ++ wc ++ wb) H) (hD : va_D A (wa ++ wc ++ wb)) (hS : va_S A s.heap H locs) (hA : ∀ q, s.heap.size ≤ q → A q)
    (kk : ∀ (r : Int64) (w1 : va_W) (H1 : Heap) (locs1 : List Loc), post r w1 → va_P g.1 vwCl (wa ++ w1 ++ wb) H1 → va_D A (wa ++ w1 ++ wb) → va_S A s.heap H1 locs1 → W p l e R s m args below meth c H1 locs1 (cells + mc) (slots + ms) Q (F0 m (pc + 3) ls (.long r :: rest))) : W p l e R s m args below meth c H locs cells slots Q (F0 m pc ls st) :=
  va_calll hr hS (fun q _ h => zfree hD hS hA q h) (zfree hD hS hA) (fun r u t H1 locs1 ht hvm hw hB hz1 hk1 hS1 => by
    obtain ⟨hP1, hK1, hD1⟩ := hB
    rw [ht] at hP1
    obtain ⟨hP2, hD2⟩ := zjoin hP hD hk1 (zfree hD hS hA) hP1 hD1
    exact kk r u H1 locs1 hw hP2 hD2 hS1)
theorem z_av {post : va_W → Prop} {a : Array Value} (hr : va_Run p l e R s m args below meth c H locs cells slots mc ms (F0 m pc ls st) rest (va_Qv post (zOut g (va_A wc H.size)) (va_A wc H.size) a) (va_A wc H.size)) (hP : va_P g.1 vwCl (wa ++ wc ++ wb) H) (hD : va_D A (wa ++ wc ++ wb)) (hS : va_S A s.heap H locs) (hA : ∀ q, s.heap.size ≤ q → A q)
    (kk : ∀ (w1 : va_W) (H1 : Heap) (locs1 : List Loc), post w1 → va_P g.1 vwCl (wa ++ w1 ++ wb) H1 → va_D A (wa ++ w1 ++ wb) → va_S A s.heap H1 locs1 → W p l e R s m args below meth c H1 locs1 (cells + mc) (slots + ms) Q (F0 m (pc + 3) ls rest)) : W p l e R s m args below meth c H locs cells slots Q (F0 m pc ls st) :=
  va_callv hr hS (fun q _ h => zfree hD hS hA q h) (zfree hD hS hA) (fun u t H1 locs1 ht hvm hw hB hz1 hk1 hS1 => by
    obtain ⟨hP1, hK1, hD1⟩ := hB
    rw [ht] at hP1
    obtain ⟨hP2, hD2⟩ := zjoin hP hD hk1 (zfree hD hS hA) hP1 hD1
    exact kk u H1 locs1 hw hP2 hD2 hS1)
-- behind a run that may throw
theorem z_xx {pE : va_W → Prop} (hpE : ∀ u, pE u → u = wc) (hP : va_P g.1 vwCl (wa ++ wc ++ wb) H) (hD : va_D A (wa ++ wc ++ wb)) (hS : va_S A s.heap H locs) (hA : ∀ q, s.heap.size ≤ q → A q)
    (kx : ∀ (E : String) (ce : Cell) (q9 : Addr) (H1 : Heap) (locs1 : List Loc), XE E → va_P g.1 vwCl (wa ++ wc ++ wb) H1 → va_D A (wa ++ wc ++ wb) → va_S A s.heap H1 locs1 → H1[q9]? = some ce → ce.vm = .none → s.vm.findClass E = some ce.cls → vx_W p l e R s m args below meth c H1 locs1 (cells + mc) (slots + ms) Q (F0 m pc ls rest) q9) :
    ∀ (E : String) (ce : Cell) (q9 : Addr) (u : va_W) (t : State) (H1 : Heap) (locs1 : List Loc), t.heap = H1 → s.vm.Alike t.vm → pE u → (XE E ∧ zOut g (va_A wc H.size) u t) → H.size ≤ H1.size → (∀ q : Nat, q < H.size → ¬ va_A wc H.size q → H1[q]? = H[q]?) → va_S A s.heap H1 locs1 → H1[q9]? = some ce → ce.vm = .none → s.vm.findClass E = some ce.cls → vx_W p l e R s m args below meth c H1 locs1 (cells + mc) (slots + ms) Q (F0 m pc ls rest) q9 := by
  intro E ce q9 u t H1 locs1 ht hvm hu hB hz1 hk1 hS1 h1 h2 h3
  obtain ⟨hE, hP1, hK1, hD1⟩ := hB
  have hu := hpE u hu
  subst hu
  rw [ht] at hP1
  obtain ⟨hP2, hD2⟩ := zjoin hP hD hk1 (zfree hD hS hA) hP1 hD1
  exact kx E ce q9 H1 locs1 hE hP2 hD2 hS1 h1 h2 h3
theorem z_axi {post : Int32 → va_W → Prop} {a : Array Value} (hr : vx_Run p l e R s m args below meth c H locs cells slots mc ms (F0 m pc ls st) rest (va_Qi post (zOut g (va_A wc H.size)) (va_A wc H.size) a) (zQX g wc XE (va_A wc H.size)) (va_A wc H.size)) (hP : va_P g.1 vwCl (wa ++ wc ++ wb) H) (hD : va_D A (wa ++ wc ++ wb)) (hS : va_S A s.heap H locs) (hA : ∀ q, s.heap.size ≤ q → A q)
    (kx : ∀ (E : String) (ce : Cell) (q9 : Addr) (H1 : Heap) (locs1 : List Loc), XE E → va_P g.1 vwCl (wa ++ wc ++ wb) H1 → va_D A (wa ++ wc ++ wb) → va_S A s.heap H1 locs1 → H1[q9]? = some ce → ce.vm = .none → s.vm.findClass E = some ce.cls → vx_W p l e R s m args below meth c H1 locs1 (cells + mc) (slots + ms) Q (F0 m pc ls rest) q9)
    (kk : ∀ (r : Int32) (w1 : va_W) (H1 : Heap) (locs1 : List Loc), post r w1 → va_P g.1 vwCl (wa ++ w1 ++ wb) H1 → va_D A (wa ++ w1 ++ wb) → va_S A s.heap H1 locs1 → W p l e R s m args below meth c H1 locs1 (cells + mc) (slots + ms) Q (F0 m (pc + 3) ls (.int r :: rest))) : W p l e R s m args below meth c H locs cells slots Q (F0 m pc ls st) :=
  vx_calli hr hS (fun q _ h => zfree hD hS hA q h) (zfree hD hS hA) (fun q _ h => zfree hD hS hA q h) (z_xx (fun _ h => h) hP hD hS hA kx) (fun r u t H1 locs1 ht hvm hw hB hz1 hk1 hS1 => by
    obtain ⟨hP1, hK1, hD1⟩ := hB
    rw [ht] at hP1
    obtain ⟨hP2, hD2⟩ := zjoin hP hD hk1 (zfree hD hS hA) hP1 hD1
    exact kk r u H1 locs1 hw hP2 hD2 hS1)
theorem z_axv {post : va_W → Prop} {a : Array Value} (hr : vx_Run p l e R s m args below meth c H locs cells slots mc ms (F0 m pc ls st) rest (va_Qv post (zOut g (va_A wc H.size)) (va_A wc H.size) a) (zQX g wc XE (va_A wc H.size)) (va_A wc H.size)) (hP : va_P g.1 vwCl (wa ++ wc ++ wb) H) (hD : va_D A (wa ++ wc ++ wb)) (hS : va_S A s.heap H locs) (hA : ∀ q, s.heap.size ≤ q → A q)
    (kx : ∀ (E : String) (ce : Cell) (q9 : Addr) (H1 : Heap) (locs1 : List Loc), XE E → va_P g.1 vwCl (wa ++ wc ++ wb) H1 → va_D A (wa ++ wc ++ wb) → va_S A s.heap H1 locs1 → H1[q9]? = some ce → ce.vm = .none → s.vm.findClass E = some ce.cls → vx_W p l e R s m args below meth c H1 locs1 (cells + mc) (slots + ms) Q (F0 m pc ls rest) q9)
    (kk : ∀ (w1 : va_W) (H1 : Heap) (locs1 : List Loc), post w1 → va_P g.1 vwCl (wa ++ w1 ++ wb) H1 → va_D A (wa ++ w1 ++ wb) → va_S A s.heap H1 locs1 → W p l e R s m args below meth c H1 locs1 (cells + mc) (slots + ms) Q (F0 m (pc + 3) ls rest)) : W p l e R s m args below meth c H locs cells slots Q (F0 m pc ls st) :=
  vx_callv hr hS (fun q _ h => zfree hD hS hA q h) (zfree hD hS hA) (fun q _ h => zfree hD hS hA q h) (z_xx (fun _ h => h) hP hD hS hA kx) (fun u t H1 locs1 ht hvm hw hB hz1 hk1 hS1 => by
    obtain ⟨hP1, hK1, hD1⟩ := hB
    rw [ht] at hP1
    obtain ⟨hP2, hD2⟩ := zjoin hP hD hk1 (zfree hD hS hA) hP1 hD1
    exact kk u H1 locs1 hw hP2 hD2 hS1)
theorem z_axq {post : Option Nat → va_W → Prop} {a : Array Value} (hr : vx_Run p l e R s m args below meth c H locs cells slots mc ms (F0 m pc ls st) rest (va_Qq post (zOut g (va_A wc H.size)) (va_A wc H.size) a) (zQX g wc XE (va_A wc H.size)) (va_A wc H.size)) (hP : va_P g.1 vwCl (wa ++ wc ++ wb) H) (hD : va_D A (wa ++ wc ++ wb)) (hS : va_S A s.heap H locs) (hA : ∀ q, s.heap.size ≤ q → A q)
    (kx : ∀ (E : String) (ce : Cell) (q9 : Addr) (H1 : Heap) (locs1 : List Loc), XE E → va_P g.1 vwCl (wa ++ wc ++ wb) H1 → va_D A (wa ++ wc ++ wb) → va_S A s.heap H1 locs1 → H1[q9]? = some ce → ce.vm = .none → s.vm.findClass E = some ce.cls → vx_W p l e R s m args below meth c H1 locs1 (cells + mc) (slots + ms) Q (F0 m pc ls rest) q9)
    (kk : ∀ (r : Option Nat) (w1 : va_W) (H1 : Heap) (locs1 : List Loc), post r w1 → va_P g.1 vwCl (wa ++ w1 ++ wb) H1 → va_D A (wa ++ w1 ++ wb) → va_S A s.heap H1 locs1 → W p l e R s m args below meth c H1 locs1 (cells + mc) (slots + ms) Q (F0 m (pc + 3) ls (va_rf r :: rest))) : W p l e R s m args below meth c H locs cells slots Q (F0 m pc ls st) :=
  vx_callq hr hS (fun q _ h => zfree hD hS hA q h) (zfree hD hS hA) (fun q _ h => zfree hD hS hA q h) (z_xx (fun _ h => h) hP hD hS hA kx) (fun r u t H1 locs1 ht hvm hw hB hz1 hk1 hS1 => by
    obtain ⟨hP1, hK1, hD1⟩ := hB
    rw [ht] at hP1
    obtain ⟨hP2, hD2⟩ := zjoin hP hD hk1 (zfree hD hS hA) hP1 hD1
    exact kk r u H1 locs1 hw hP2 hD2 hS1)
end ZC
end
section
section ZR
variable {p : Program} {l : Launch} {e : Env} {R : Room} {s : State} {m : MethodId} {args : Array Value} {below : List Frame} {meth : Method} {c : Code} {H : Heap} {locs : List Loc} {cells slots : Nat} {Q : State → Prop}
variable {cc : ByteArray} {pc : Nat} {ls : Array Slot} {rest : List Value}
theorem zi {x y : Int32} (h : x = y) (k : W p l e R s m args below meth c H locs cells slots Q (F0 m pc ls (.int y :: rest))) : W p l e R s m args below meth c H locs cells slots Q (F0 m pc ls (.int x :: rest)) := by rw [h]; exact k
theorem zl {x y : Int64} (h : x = y) (k : W p l e R s m args below meth c H locs cells slots Q (F0 m pc ls (.long y :: rest))) : W p l e R s m args below meth c H locs cells slots Q (F0 m pc ls (.long x :: rest)) := by rw [h]; exact k
theorem z_iadd (hx : p.tables.exec = Jvm.exec) (hb : c.code = cc) {a b : Nat} (d : decode cc pc = .ok (.iadd, 1)) (k : W p l e R s m args below meth c H locs cells slots Q (F0 m (pc + 1) ls (.int (nI (a + b)) :: rest))) : W p l e R s m args below meth c H locs cells slots Q (F0 m pc ls (.int (nI b) :: .int (nI a) :: rest)) := lv_iadd hx hb d  (zi (nI_add a b) k)
theorem z_isub (hx : p.tables.exec = Jvm.exec) (hb : c.code = cc) {a b : Nat} (d : decode cc pc = .ok (.isub, 1)) (h : b ≤ a) (k : W p l e R s m args below meth c H locs cells slots Q (F0 m (pc + 1) ls (.int (nI (a - b)) :: rest))) : W p l e R s m args below meth c H locs cells slots Q (F0 m pc ls (.int (nI b) :: .int (nI a) :: rest)) := lv_isub hx hb d  (zi (pk_sub h) k)
theorem z_imul (hx : p.tables.exec = Jvm.exec) (hb : c.code = cc) {a b : Nat} (d : decode cc pc = .ok (.imul, 1)) (k : W p l e R s m args below meth c H locs cells slots Q (F0 m (pc + 1) ls (.int (nI (a * b)) :: rest))) : W p l e R s m args below meth c H locs cells slots Q (F0 m pc ls (.int (nI b) :: .int (nI a) :: rest)) := lv_imul hx hb d  (zi (pk_mul a b) k)
theorem z_idiv (hx : p.tables.exec = Jvm.exec) (hb : c.code = cc) {a b : Nat} (d : decode cc pc = .ok (.idiv, 1)) (ha : a < 2 ^ 31) (h0 : 0 < b) (hb2 : b < 2 ^ 31) (k : W p l e R s m args below meth c H locs cells slots Q (F0 m (pc + 1) ls (.int (nI (a / b)) :: rest))) : W p l e R s m args below meth c H locs cells slots Q (F0 m pc ls (.int (nI b) :: .int (nI a) :: rest)) := lv_idiv hx hb d (nI_ne0 h0 hb2) (zi (pk_div ha h0 hb2) k)
theorem z_ladd (hx : p.tables.exec = Jvm.exec) (hb : c.code = cc) {a b : Nat} (d : decode cc pc = .ok (.ladd, 1)) (k : W p l e R s m args below meth c H locs cells slots Q (F0 m (pc + 1) ls (.long (lN (a + b)) :: rest))) : W p l e R s m args below meth c H locs cells slots Q (F0 m pc ls (.long (lN b) :: .long (lN a) :: rest)) := lv_ladd hx hb d  (zl (lN_add a b) k)
theorem z_lsub (hx : p.tables.exec = Jvm.exec) (hb : c.code = cc) {a b : Nat} (d : decode cc pc = .ok (.lsub, 1)) (h : b ≤ a) (k : W p l e R s m args below meth c H locs cells slots Q (F0 m (pc + 1) ls (.long (lN (a - b)) :: rest))) : W p l e R s m args below meth c H locs cells slots Q (F0 m pc ls (.long (lN b) :: .long (lN a) :: rest)) := lv_lsub hx hb d  (zl (lN_sub h) k)
theorem z_lmul (hx : p.tables.exec = Jvm.exec) (hb : c.code = cc) {a b : Nat} (d : decode cc pc = .ok (.lmul, 1)) (k : W p l e R s m args below meth c H locs cells slots Q (F0 m (pc + 1) ls (.long (lN (a * b)) :: rest))) : W p l e R s m args below meth c H locs cells slots Q (F0 m pc ls (.long (lN b) :: .long (lN a) :: rest)) := lv_lmul hx hb d  (zl (lN_mul a b) k)
theorem z_ldiv (hx : p.tables.exec = Jvm.exec) (hb : c.code = cc) {a b : Nat} (d : decode cc pc = .ok (.ldiv, 1)) (ha : a < 2 ^ 63) (h0 : 0 < b) (hb2 : b < 2 ^ 63) (k : W p l e R s m args below meth c H locs cells slots Q (F0 m (pc + 1) ls (.long (lN (a / b)) :: rest))) : W p l e R s m args below meth c H locs cells slots Q (F0 m pc ls (.long (lN b) :: .long (lN a) :: rest)) := lv_ldiv hx hb d (fun q => absurd ((pk_lEQ (a := b) (b := 0) hb2 (by decide)).mp q) (by omega)) (zl (pk_lDiv ha h0 hb2) k)
theorem z_i2l (hx : p.tables.exec = Jvm.exec) (hb : c.code = cc) {a : Nat} (d : decode cc pc = .ok (.i2l, 1)) (ha : a < 2 ^ 31) (k : W p l e R s m args below meth c H locs cells slots Q (F0 m (pc + 1) ls (.long (lN a) :: rest))) : W p l e R s m args below meth c H locs cells slots Q (F0 m pc ls (.int (nI a) :: rest)) := lv_i2l hx hb d rfl (zl (nI_l ha) k)
theorem z_l2i (hx : p.tables.exec = Jvm.exec) (hb : c.code = cc) {a : Nat} (d : decode cc pc = .ok (.l2i, 1)) (k : W p l e R s m args below meth c H locs cells slots Q (F0 m (pc + 1) ls (.int (nI a) :: rest))) : W p l e R s m args below meth c H locs cells slots Q (F0 m pc ls (.long (lN a) :: rest)) := lv_l2i hx hb d rfl (zi (lN_i a) k)
theorem z_icmp_ge (hx : p.tables.exec = Jvm.exec) (hb : c.code = cc) {a b : Nat} {off : Int} {tgt : Nat} (d : decode cc pc = .ok (.if_icmp .ge off, 3)) (ht : (pc : Int) + off = (tgt : Int)) (ha : a < 2 ^ 31) (hb2 : b < 2 ^ 31) (kt : b ≤ a → W p l e R s m args below meth c H locs cells slots Q (F0 m tgt ls rest)) (kf : a < b → W p l e R s m args below meth c H locs cells slots Q (F0 m (pc + 3) ls rest)) : W p l e R s m args below meth c H locs cells slots Q (F0 m pc ls (.int (nI b) :: .int (nI a) :: rest)) := lv_icmp_ge hx hb d ht (fun h => kt ((nI_leI hb2 ha).mp h)) (fun h => kf (Nat.lt_of_not_le (fun z => h ((nI_leI hb2 ha).mpr z))))
theorem z_icmp_gt (hx : p.tables.exec = Jvm.exec) (hb : c.code = cc) {a b : Nat} {off : Int} {tgt : Nat} (d : decode cc pc = .ok (.if_icmp .gt off, 3)) (ht : (pc : Int) + off = (tgt : Int)) (ha : a < 2 ^ 31) (hb2 : b < 2 ^ 31) (kt : b < a → W p l e R s m args below meth c H locs cells slots Q (F0 m tgt ls rest)) (kf : a ≤ b → W p l e R s m args below meth c H locs cells slots Q (F0 m (pc + 3) ls rest)) : W p l e R s m args below meth c H locs cells slots Q (F0 m pc ls (.int (nI b) :: .int (nI a) :: rest)) := lv_icmp_gt hx hb d ht (fun h => kt ((nI_ltI hb2 ha).mp h)) (fun h => kf (Nat.le_of_not_lt (fun z => h ((nI_ltI hb2 ha).mpr z))))
theorem z_icmp_lt (hx : p.tables.exec = Jvm.exec) (hb : c.code = cc) {a b : Nat} {off : Int} {tgt : Nat} (d : decode cc pc = .ok (.if_icmp .lt off, 3)) (ht : (pc : Int) + off = (tgt : Int)) (ha : a < 2 ^ 31) (hb2 : b < 2 ^ 31) (kt : a < b → W p l e R s m args below meth c H locs cells slots Q (F0 m tgt ls rest)) (kf : b ≤ a → W p l e R s m args below meth c H locs cells slots Q (F0 m (pc + 3) ls rest)) : W p l e R s m args below meth c H locs cells slots Q (F0 m pc ls (.int (nI b) :: .int (nI a) :: rest)) := lv_icmp_lt hx hb d ht (fun h => kt ((nI_ltI ha hb2).mp h)) (fun h => kf (Nat.le_of_not_lt (fun z => h ((nI_ltI ha hb2).mpr z))))
theorem z_icmp_le (hx : p.tables.exec = Jvm.exec) (hb : c.code = cc) {a b : Nat} {off : Int} {tgt : Nat} (d : decode cc pc = .ok (.if_icmp .le off, 3)) (ht : (pc : Int) + off = (tgt : Int)) (ha : a < 2 ^ 31) (hb2 : b < 2 ^ 31) (kt : a ≤ b → W p l e R s m args below meth c H locs cells slots Q (F0 m tgt ls rest)) (kf : b < a → W p l e R s m args below meth c H locs cells slots Q (F0 m (pc + 3) ls rest)) : W p l e R s m args below meth c H locs cells slots Q (F0 m pc ls (.int (nI b) :: .int (nI a) :: rest)) := lv_icmp_le hx hb d ht (fun h => kt ((nI_leI ha hb2).mp h)) (fun h => kf (Nat.lt_of_not_le (fun z => h ((nI_leI ha hb2).mpr z))))
theorem z_icmp_eq (hx : p.tables.exec = Jvm.exec) (hb : c.code = cc) {a b : Nat} {off : Int} {tgt : Nat} (d : decode cc pc = .ok (.if_icmp .eq off, 3)) (ht : (pc : Int) + off = (tgt : Int)) (ha : a < 2 ^ 31) (hb2 : b < 2 ^ 31) (kt : a = b → W p l e R s m args below meth c H locs cells slots Q (F0 m tgt ls rest)) (kf : a ≠ b → W p l e R s m args below meth c H locs cells slots Q (F0 m (pc + 3) ls rest)) : W p l e R s m args below meth c H locs cells slots Q (F0 m pc ls (.int (nI b) :: .int (nI a) :: rest)) := lv_icmp_eq hx hb d ht (fun h => kt ((nI_eq ha hb2).mp h)) (fun h => kf (id (fun z => h ((nI_eq ha hb2).mpr z))))
theorem z_icmp_ne (hx : p.tables.exec = Jvm.exec) (hb : c.code = cc) {a b : Nat} {off : Int} {tgt : Nat} (d : decode cc pc = .ok (.if_icmp .ne off, 3)) (ht : (pc : Int) + off = (tgt : Int)) (ha : a < 2 ^ 31) (hb2 : b < 2 ^ 31) (kt : a ≠ b → W p l e R s m args below meth c H locs cells slots Q (F0 m tgt ls rest)) (kf : a = b → W p l e R s m args below meth c H locs cells slots Q (F0 m (pc + 3) ls rest)) : W p l e R s m args below meth c H locs cells slots Q (F0 m pc ls (.int (nI b) :: .int (nI a) :: rest)) := lv_icmp_ne hx hb d ht (fun h => kt (fun z => h ((nI_eq ha hb2).mpr z))) (fun h => kf ((nI_eq ha hb2).mp h))
theorem z_if_eq (hx : p.tables.exec = Jvm.exec) (hb : c.code = cc) {a : Nat} {off : Int} {tgt : Nat} (d : decode cc pc = .ok (.ifCond .eq off, 3)) (ht : (pc : Int) + off = (tgt : Int)) (ha : a < 2 ^ 31) (kt : a = 0 → W p l e R s m args below meth c H locs cells slots Q (F0 m tgt ls rest)) (kf : a ≠ 0 → W p l e R s m args below meth c H locs cells slots Q (F0 m (pc + 3) ls rest)) : W p l e R s m args below meth c H locs cells slots Q (F0 m pc ls (.int (nI a) :: rest)) := lv_if_eq hx hb d ht (fun h => kt ((nI_eq ha (by decide)).mp h)) (fun h => kf (fun z => h ((nI_eq (b := 0) ha (by decide)).mpr z)))
theorem z_if_ne (hx : p.tables.exec = Jvm.exec) (hb : c.code = cc) {a : Nat} {off : Int} {tgt : Nat} (d : decode cc pc = .ok (.ifCond .ne off, 3)) (ht : (pc : Int) + off = (tgt : Int)) (ha : a < 2 ^ 31) (kt : a ≠ 0 → W p l e R s m args below meth c H locs cells slots Q (F0 m tgt ls rest)) (kf : a = 0 → W p l e R s m args below meth c H locs cells slots Q (F0 m (pc + 3) ls rest)) : W p l e R s m args below meth c H locs cells slots Q (F0 m pc ls (.int (nI a) :: rest)) := lv_if_ne hx hb d ht (fun h => kt (fun z => h ((nI_eq (b := 0) ha (by decide)).mpr z))) (fun h => kf ((nI_eq ha (by decide)).mp h))
theorem z_if_gt (hx : p.tables.exec = Jvm.exec) (hb : c.code = cc) {a : Nat} {off : Int} {tgt : Nat} (d : decode cc pc = .ok (.ifCond .gt off, 3)) (ht : (pc : Int) + off = (tgt : Int)) (ha : a < 2 ^ 31) (kt : 0 < a → W p l e R s m args below meth c H locs cells slots Q (F0 m tgt ls rest)) (kf : a = 0 → W p l e R s m args below meth c H locs cells slots Q (F0 m (pc + 3) ls rest)) : W p l e R s m args below meth c H locs cells slots Q (F0 m pc ls (.int (nI a) :: rest)) := lv_if_gt hx hb d ht (fun h => kt ((nI_ltI (a := 0) (by decide) ha).mp h)) (fun h => kf (by have z0 := mt (nI_ltI (a := 0) (by decide) ha).mpr h; omega))
theorem z_if_le (hx : p.tables.exec = Jvm.exec) (hb : c.code = cc) {a : Nat} {off : Int} {tgt : Nat} (d : decode cc pc = .ok (.ifCond .le off, 3)) (ht : (pc : Int) + off = (tgt : Int)) (ha : a < 2 ^ 31) (kt : a = 0 → W p l e R s m args below meth c H locs cells slots Q (F0 m tgt ls rest)) (kf : 0 < a → W p l e R s m args below meth c H locs cells slots Q (F0 m (pc + 3) ls rest)) : W p l e R s m args below meth c H locs cells slots Q (F0 m pc ls (.int (nI a) :: rest)) := lv_if_le hx hb d ht (fun h => kt (by have z0 := (nI_leI (b := 0) ha (by decide)).mp h; omega)) (fun h => kf (by have z0 := mt (nI_leI (b := 0) ha (by decide)).mpr h; omega))
theorem z_if_ge (hx : p.tables.exec = Jvm.exec) (hb : c.code = cc) {a : Nat} {off : Int} {tgt : Nat} (d : decode cc pc = .ok (.ifCond .ge off, 3)) (ht : (pc : Int) + off = (tgt : Int)) (ha : a < 2 ^ 31) (kt : True → W p l e R s m args below meth c H locs cells slots Q (F0 m tgt ls rest)) (kf : False → W p l e R s m args below meth c H locs cells slots Q (F0 m (pc + 3) ls rest)) : W p l e R s m args below meth c H locs cells slots Q (F0 m pc ls (.int (nI a) :: rest)) := lv_if_ge hx hb d ht (fun h => kt (trivial)) (fun h => kf (h (nI_pos' ha)))
theorem z_if_lt (hx : p.tables.exec = Jvm.exec) (hb : c.code = cc) {a : Nat} {off : Int} {tgt : Nat} (d : decode cc pc = .ok (.ifCond .lt off, 3)) (ht : (pc : Int) + off = (tgt : Int)) (ha : a < 2 ^ 31) (kt : False → W p l e R s m args below meth c H locs cells slots Q (F0 m tgt ls rest)) (kf : True → W p l e R s m args below meth c H locs cells slots Q (F0 m (pc + 3) ls rest)) : W p l e R s m args below meth c H locs cells slots Q (F0 m pc ls (.int (nI a) :: rest)) := lv_if_lt hx hb d ht (fun h => kt (nI_pos ha h)) (fun h => kf (trivial))
theorem z_cmp3 (x y : Int64) : (y < x ∧ lg_cmp x y = 1) ∨ (x = y ∧ lg_cmp x y = 0) ∨ (x < y ∧ lg_cmp x y = -1) := by
  unfold lg_cmp
  by_cases h1 : x > y
  · exact Or.inl ⟨h1, by rw [if_pos h1]⟩
  · rw [if_neg h1]
    by_cases h2 : x = y
    · exact Or.inr (Or.inl ⟨h2, by rw [if_pos h2]⟩)
    · rw [if_neg h2]
      refine Or.inr (Or.inr ⟨?_, rfl⟩)
      simp only [gt_iff_lt, Int64.lt_iff_toInt_lt, ← Int64.toInt_inj] at h1 h2 ⊢
      omega
theorem z_lif_gt (hx : p.tables.exec = Jvm.exec) (hb : c.code = cc) {x y : Int64} {off : Int} {tgt pc2 : Nat} (d : decode cc pc = .ok (.lcmp, 1)) (h2 : pc + 1 = pc2) (d2 : decode cc pc2 = .ok (.ifCond .gt off, 3)) (ht : (pc2 : Int) + off = (tgt : Int)) (kt : y < x → W p l e R s m args below meth c H locs cells slots Q (F0 m tgt ls rest)) (kf : x ≤ y → W p l e R s m args below meth c H locs cells slots Q (F0 m (pc2 + 3) ls rest)) : W p l e R s m args below meth c H locs cells slots Q (F0 m pc ls (.long y :: .long x :: rest)) := by
  subst h2
  refine W.lcmp hx hb d ?_
  refine lv_if_gt hx hb d2 ht (fun h => kt ?_) (fun h => kf ?_) <;> rcases z_cmp3 x y with ⟨h1, h3⟩ | ⟨h1, h3⟩ | ⟨h1, h3⟩ <;> rw [h3] at h <;> first | exact h1 | exact absurd h (by decide) | (simp only [Int64.lt_iff_toInt_lt, Int64.le_iff_toInt_le, ← Int64.toInt_inj] at h1 ⊢; omega)
theorem z_lif_le (hx : p.tables.exec = Jvm.exec) (hb : c.code = cc) {x y : Int64} {off : Int} {tgt pc2 : Nat} (d : decode cc pc = .ok (.lcmp, 1)) (h2 : pc + 1 = pc2) (d2 : decode cc pc2 = .ok (.ifCond .le off, 3)) (ht : (pc2 : Int) + off = (tgt : Int)) (kt : x ≤ y → W p l e R s m args below meth c H locs cells slots Q (F0 m tgt ls rest)) (kf : y < x → W p l e R s m args below meth c H locs cells slots Q (F0 m (pc2 + 3) ls rest)) : W p l e R s m args below meth c H locs cells slots Q (F0 m pc ls (.long y :: .long x :: rest)) := by
  subst h2
  refine W.lcmp hx hb d ?_
  refine lv_if_le hx hb d2 ht (fun h => kt ?_) (fun h => kf ?_) <;> rcases z_cmp3 x y with ⟨h1, h3⟩ | ⟨h1, h3⟩ | ⟨h1, h3⟩ <;> rw [h3] at h <;> first | exact h1 | exact absurd h (by decide) | (simp only [Int64.lt_iff_toInt_lt, Int64.le_iff_toInt_le, ← Int64.toInt_inj] at h1 ⊢; omega)
theorem z_lif_lt (hx : p.tables.exec = Jvm.exec) (hb : c.code = cc) {x y : Int64} {off : Int} {tgt pc2 : Nat} (d : decode cc pc = .ok (.lcmp, 1)) (h2 : pc + 1 = pc2) (d2 : decode cc pc2 = .ok (.ifCond .lt off, 3)) (ht : (pc2 : Int) + off = (tgt : Int)) (kt : x < y → W p l e R s m args below meth c H locs cells slots Q (F0 m tgt ls rest)) (kf : y ≤ x → W p l e R s m args below meth c H locs cells slots Q (F0 m (pc2 + 3) ls rest)) : W p l e R s m args below meth c H locs cells slots Q (F0 m pc ls (.long y :: .long x :: rest)) := by
  subst h2
  refine W.lcmp hx hb d ?_
  refine lv_if_lt hx hb d2 ht (fun h => kt ?_) (fun h => kf ?_) <;> rcases z_cmp3 x y with ⟨h1, h3⟩ | ⟨h1, h3⟩ | ⟨h1, h3⟩ <;> rw [h3] at h <;> first | exact h1 | exact absurd h (by decide) | (simp only [Int64.lt_iff_toInt_lt, Int64.le_iff_toInt_le, ← Int64.toInt_inj] at h1 ⊢; omega)
theorem z_lif_ge (hx : p.tables.exec = Jvm.exec) (hb : c.code = cc) {x y : Int64} {off : Int} {tgt pc2 : Nat} (d : decode cc pc = .ok (.lcmp, 1)) (h2 : pc + 1 = pc2) (d2 : decode cc pc2 = .ok (.ifCond .ge off, 3)) (ht : (pc2 : Int) + off = (tgt : Int)) (kt : y ≤ x → W p l e R s m args below meth c H locs cells slots Q (F0 m tgt ls rest)) (kf : x < y → W p l e R s m args below meth c H locs cells slots Q (F0 m (pc2 + 3) ls rest)) : W p l e R s m args below meth c H locs cells slots Q (F0 m pc ls (.long y :: .long x :: rest)) := by
  subst h2
  refine W.lcmp hx hb d ?_
  refine lv_if_ge hx hb d2 ht (fun h => kt ?_) (fun h => kf ?_) <;> rcases z_cmp3 x y with ⟨h1, h3⟩ | ⟨h1, h3⟩ | ⟨h1, h3⟩ <;> rw [h3] at h <;> first | exact h1 | exact absurd h (by decide) | (simp only [Int64.lt_iff_toInt_lt, Int64.le_iff_toInt_le, ← Int64.toInt_inj] at h1 ⊢; omega)
theorem z_lif_eq (hx : p.tables.exec = Jvm.exec) (hb : c.code = cc) {x y : Int64} {off : Int} {tgt pc2 : Nat} (d : decode cc pc = .ok (.lcmp, 1)) (h2 : pc + 1 = pc2) (d2 : decode cc pc2 = .ok (.ifCond .eq off, 3)) (ht : (pc2 : Int) + off = (tgt : Int)) (kt : x = y → W p l e R s m args below meth c H locs cells slots Q (F0 m tgt ls rest)) (kf : x ≠ y → W p l e R s m args below meth c H locs cells slots Q (F0 m (pc2 + 3) ls rest)) : W p l e R s m args below meth c H locs cells slots Q (F0 m pc ls (.long y :: .long x :: rest)) := by
  subst h2
  refine W.lcmp hx hb d ?_
  refine lv_if_eq hx hb d2 ht (fun h => kt ?_) (fun h => kf ?_) <;> rcases z_cmp3 x y with ⟨h1, h3⟩ | ⟨h1, h3⟩ | ⟨h1, h3⟩ <;> rw [h3] at h <;> first | exact h1 | exact absurd h (by decide) | (intro z; rw [z] at h1; exact absurd h1 (by simp only [Int64.lt_iff_toInt_lt]; omega))
theorem z_lif_ne (hx : p.tables.exec = Jvm.exec) (hb : c.code = cc) {x y : Int64} {off : Int} {tgt pc2 : Nat} (d : decode cc pc = .ok (.lcmp, 1)) (h2 : pc + 1 = pc2) (d2 : decode cc pc2 = .ok (.ifCond .ne off, 3)) (ht : (pc2 : Int) + off = (tgt : Int)) (kt : x ≠ y → W p l e R s m args below meth c H locs cells slots Q (F0 m tgt ls rest)) (kf : x = y → W p l e R s m args below meth c H locs cells slots Q (F0 m (pc2 + 3) ls rest)) : W p l e R s m args below meth c H locs cells slots Q (F0 m pc ls (.long y :: .long x :: rest)) := by
  subst h2
  refine W.lcmp hx hb d ?_
  refine lv_if_ne hx hb d2 ht (fun h => kt ?_) (fun h => kf ?_) <;> rcases z_cmp3 x y with ⟨h1, h3⟩ | ⟨h1, h3⟩ | ⟨h1, h3⟩ <;> rw [h3] at h <;> first | exact h1 | exact absurd h (by decide) | (intro z; rw [z] at h1; exact absurd h1 (by simp only [Int64.lt_iff_toInt_lt]; omega))
theorem z_iinc (hx : p.tables.exec = Jvm.exec) (hb : c.code = cc) {i nL k a : Nat} {lv lv' : List (Nat × Value)} (d : decode cc pc = .ok (.iinc i 1, 3)) (h : lv_has ls nL lv) (hk : lv[k]? = some (i, .int (nI a))) (hn : i < nL) (hl : (i, Value.int (nI (a + 1))) :: lv.filter (fun q => !(q.1 == i) && !(q.1 + 1 == i && q.2.category == 2)) = lv') (kk : ∀ ls' : Array Slot, lv_has ls' nL lv' → W p l e R s m args below meth c H locs cells slots Q (F0 m (pc + 3) ls' rest)) : W p l e R s m args below meth c H locs cells slots Q (F0 m pc ls rest) := lv_iinc hx hb d h hk (nI_1 a) hn hl kk
theorem z_iincm (hx : p.tables.exec = Jvm.exec) (hb : c.code = cc) {i nL k a : Nat} {lv lv' : List (Nat × Value)} (d : decode cc pc = .ok (.iinc i (-1), 3)) (h : lv_has ls nL lv) (hk : lv[k]? = some (i, .int (nI (a + 1)))) (hn : i < nL) (hl : (i, Value.int (nI a)) :: lv.filter (fun q => !(q.1 == i) && !(q.1 + 1 == i && q.2.category == 2)) = lv') (kk : ∀ ls' : Array Slot, lv_has ls' nL lv' → W p l e R s m args below meth c H locs cells slots Q (F0 m (pc + 3) ls' rest)) : W p l e R s m args below meth c H locs cells slots Q (F0 m pc ls rest) := lv_iinc hx hb d h hk (pk_m1 a) hn hl kk
variable {D : va_G} {cl : List vw_C} {A : Nat → Prop} {a : Nat} {tys : List (ClassId × FieldType)} {ws : va_W} {H0 : Heap}
theorem z_iald (hx : p.tables.exec = Jvm.exec) (hb : c.code = cc) (hK : va_K D cl tys s) (hP : va_P D cl ws H) (q0 t0 : Nat) {cA : ClassId} {n i : Nat} {f : Nat → Int32} (ha : ws[q0]? = some (a, .inl (cA, n, .inl f))) (ht : tys[t0]? = some (cA, .int)) (hi : i < n) (hn : n < 2 ^ 31) (d : decode cc pc = .ok (.iaload, 1)) (k : W p l e R s m args below meth c H locs cells slots Q (F0 m (pc + 1) ls (.int (f i) :: rest))) : W p l e R s m args below meth c H locs cells slots Q (F0 m pc ls (.int (nI i) :: .ref a :: rest)) := va_iald hx hb hK hP q0 t0 ha ht (vp_in_nI hi hn) d (zi (by rw [nI_clamp (Nat.lt_trans hi hn)]) k)
theorem z_iast (hx : p.tables.exec = Jvm.exec) (hb : c.code = cc) (hK : va_K D cl tys s) (hP : va_P D cl ws H) (hD : va_D A ws) (hS : va_S A H0 H locs) (q0 t0 : Nat) {cA : ClassId} {n i : Nat} {f : Nat → Int32} {x : Int32} (ha : ws[q0]? = some (a, .inl (cA, n, .inl f))) (ht : tys[t0]? = some (cA, .int)) (hi : i < n) (hn : n < 2 ^ 31) (d : decode cc pc = .ok (.iastore, 1)) (k : ∀ (H1 : Heap) (locs1 : List Loc), va_P D cl (ws.set q0 (a, .inl (cA, n, .inl (upd f i x)))) H1 → va_D A (ws.set q0 (a, .inl (cA, n, .inl (upd f i x)))) → va_S A H0 H1 locs1 → W p l e R s m args below meth c H1 locs1 cells slots Q (F0 m (pc + 1) ls rest)) : W p l e R s m args below meth c H locs cells slots Q (F0 m pc ls (.int x :: .int (nI i) :: .ref a :: rest)) := by
  refine va_iast hx hb hK hP hD hS q0 t0 ha ht (vp_in_nI hi hn) d ?_
  rw [nI_clamp (Nat.lt_trans hi hn)]
  exact k
end ZR
section ZT
variable {p : Program} {l : Launch} {e : Env} {R : Room} {s : State} {m : MethodId} {args : Array Value} {below : List Frame} {meth : Method} {c : Code} {H : Heap} {locs : List Loc} {cells slots : Nat} {cc : ByteArray} {pc : Nat} {ls : Array Slot} {g : zG} {A : Nat → Prop} {w1 : va_W} {XE : String → Prop} {w0 : va_W}
theorem z_iret (hx : p.tables.exec = Jvm.exec) (hb : c.code = cc) (hr : meth.sig.returnType = some .int) (hP : va_P g.1 vwCl w1 H) (hK : zK g s) (hD : va_D A w1) (hS : va_S A s.heap H locs) {post : Int32 → va_W → Prop} {v : Int32} (d : decode cc pc = .ok (.ireturn, 1)) (hlocks : meth.locks = false) (h : post v w1) : W p l e R s m args below meth c H locs cells slots (MQ below (va_Qi post (zOut g A) A) args s cells slots A) (F0 m pc ls [.int v]) := W.iret hx hb hr  (fun t ht hW => ⟨⟨v, w1, rfl, h, by rw [ht]; exact hP, hK.moved hW.alike, hD⟩, hS.F ht⟩) hS.2.2 d hlocks
theorem z_xiret (hx : p.tables.exec = Jvm.exec) (hb : c.code = cc) (hr : meth.sig.returnType = some .int) (hP : va_P g.1 vwCl w1 H) (hK : zK g s) (hD : va_D A w1) (hS : va_S A s.heap H locs) {post : Int32 → va_W → Prop} {v : Int32} (d : decode cc pc = .ok (.ireturn, 1)) (hlocks : meth.locks = false) (h : post v w1) : W p l e R s m args below meth c H locs cells slots (vx_MQ below (va_Qi post (zOut g A) A) (zQX g w0 XE A) args s cells slots A) (F0 m pc ls [.int v]) := vx_ret (z_iret hx hb hr hP hK hD hS d hlocks h)
theorem z_zret {v : Int32} (hx : p.tables.exec = Jvm.exec) (hb : c.code = cc) (hr : meth.sig.returnType = some .boolean) (hn : narrow .boolean (.int v) = .int v) (hP : va_P g.1 vwCl w1 H) (hK : zK g s) (hD : va_D A w1) (hS : va_S A s.heap H locs) {post : Int32 → va_W → Prop} (d : decode cc pc = .ok (.ireturn, 1)) (hlocks : meth.locks = false) (h : post v w1) : W p l e R s m args below meth c H locs cells slots (MQ below (va_Qi post (zOut g A) A) args s cells slots A) (F0 m pc ls [.int v]) := W.zret hx hb hr hn (fun t ht hW => ⟨⟨v, w1, rfl, h, by rw [ht]; exact hP, hK.moved hW.alike, hD⟩, hS.F ht⟩) hS.2.2 d hlocks
theorem z_xzret {v : Int32} (hx : p.tables.exec = Jvm.exec) (hb : c.code = cc) (hr : meth.sig.returnType = some .boolean) (hn : narrow .boolean (.int v) = .int v) (hP : va_P g.1 vwCl w1 H) (hK : zK g s) (hD : va_D A w1) (hS : va_S A s.heap H locs) {post : Int32 → va_W → Prop} (d : decode cc pc = .ok (.ireturn, 1)) (hlocks : meth.locks = false) (h : post v w1) : W p l e R s m args below meth c H locs cells slots (vx_MQ below (va_Qi post (zOut g A) A) (zQX g w0 XE A) args s cells slots A) (F0 m pc ls [.int v]) := vx_ret (z_zret hx hb hr hn hP hK hD hS d hlocks h)
theorem z_lret (hx : p.tables.exec = Jvm.exec) (hb : c.code = cc) (hr : meth.sig.returnType = some .long) (hP : va_P g.1 vwCl w1 H) (hK : zK g s) (hD : va_D A w1) (hS : va_S A s.heap H locs) {post : Int64 → va_W → Prop} {v : Int64} (d : decode cc pc = .ok (.lreturn, 1)) (hlocks : meth.locks = false) (h : post v w1) : W p l e R s m args below meth c H locs cells slots (MQ below (va_Ql post (zOut g A) A) args s cells slots A) (F0 m pc ls [.long v]) := W.lret hx hb hr  (fun t ht hW => ⟨⟨v, w1, rfl, h, by rw [ht]; exact hP, hK.moved hW.alike, hD⟩, hS.F ht⟩) hS.2.2 d hlocks
theorem z_xlret (hx : p.tables.exec = Jvm.exec) (hb : c.code = cc) (hr : meth.sig.returnType = some .long) (hP : va_P g.1 vwCl w1 H) (hK : zK g s) (hD : va_D A w1) (hS : va_S A s.heap H locs) {post : Int64 → va_W → Prop} {v : Int64} (d : decode cc pc = .ok (.lreturn, 1)) (hlocks : meth.locks = false) (h : post v w1) : W p l e R s m args below meth c H locs cells slots (vx_MQ below (va_Ql post (zOut g A) A) (zQX g w0 XE A) args s cells slots A) (F0 m pc ls [.long v]) := vx_ret (z_lret hx hb hr hP hK hD hS d hlocks h)
theorem z_vret (hx : p.tables.exec = Jvm.exec) (hb : c.code = cc) (hr : meth.sig.returnType = none) (hP : va_P g.1 vwCl w1 H) (hK : zK g s) (hD : va_D A w1) (hS : va_S A s.heap H locs) {post : va_W → Prop} (d : decode cc pc = .ok (.return_, 1)) (hlocks : meth.locks = false) (h : post w1) : W p l e R s m args below meth c H locs cells slots (MQ below (va_Qv post (zOut g A) A) args s cells slots A) (F0 m pc ls []) := W.vret hx hb hr (fun t ht hW => ⟨⟨w1, rfl, h, by rw [ht]; exact hP, hK.moved hW.alike, hD⟩, hS.F ht⟩) hS.2.2 d hlocks
theorem z_xvret (hx : p.tables.exec = Jvm.exec) (hb : c.code = cc) (hr : meth.sig.returnType = none) (hP : va_P g.1 vwCl w1 H) (hK : zK g s) (hD : va_D A w1) (hS : va_S A s.heap H locs) {post : va_W → Prop} (d : decode cc pc = .ok (.return_, 1)) (hlocks : meth.locks = false) (h : post w1) : W p l e R s m args below meth c H locs cells slots (vx_MQ below (va_Qv post (zOut g A) A) (zQX g w0 XE A) args s cells slots A) (F0 m pc ls []) := vx_ret (z_vret hx hb hr hP hK hD hS d hlocks h)
theorem z_xqret (hx : p.tables.exec = Jvm.exec) (hb : c.code = cc) {C : String} (hr : meth.sig.returnType = some (.object C)) (hP : va_P g.1 vwCl w1 H) (hK : zK g s) (hD : va_D A w1) (hS : va_S A s.heap H locs) {post : Option Nat → va_W → Prop} {v : Nat} (d : decode cc pc = .ok (.areturn, 1)) (hlocks : meth.locks = false) (h : post (some v) w1) : W p l e R s m args below meth c H locs cells slots (vx_MQ below (va_Qq post (zOut g A) A) (zQX g w0 XE A) args s cells slots A) (F0 m pc ls [.ref v]) := vx_ret (W.aret hx hb hr (Or.inl ⟨_, rfl⟩) (Or.inr ⟨_, rfl⟩) (fun t ht hW => ⟨⟨some v, w1, rfl, h, by rw [ht]; exact hP, hK.moved hW.alike, hD⟩, hS.F ht⟩) hS.2.2 d hlocks)
theorem z_out {rest : List Value} {E : String} {ce : Cell} {q : Addr} {mc ms : Nat} {Qc : Array Value → State → Outcome → State → Prop} (hout : ∀ x ∈ c.exceptionTable.toList, False) (hP : va_P g.1 vwCl w0 H) (hK : zK g s) (hD : va_D A w0) (hS : va_S A s.heap H locs) (hlocks : meth.locks = false) (hcell : H[q]? = some ce) (hv : ce.vm = .none) (hcl : s.vm.findClass E = some ce.cls) (hE : XE E) (hc : cells ≤ mc) (hs : slots ≤ ms) :
    vx_W p l e R s m args below meth c H locs cells slots (vx_MQ below Qc (zQX g w0 XE A) args s mc ms A) (F0 m pc ls rest) q :=
  vx_out (fun x hx => (hout x hx).elim) hlocks hcell hv hcl (fun t ht hW => ⟨w0, rfl, ⟨hE, by rw [ht]; exact hP, hK.moved hW, hD⟩, hS.F ht⟩) hS.2.2 hc hs
theorem zNW_t : ∀ w ∈ zNW, w.onTables = true := by decide +kernel
theorem z_throw {rest : List Value} {mc ms : Nat} {Qc : Array Value → State → Outcome → State → Prop} {cls text : String} {ik is ic : Nat} {Ts : List Cond} (hx : p.tables.exec = Jvm.exec) (hb : c.code = cc) (hl : l.stackTraces = false) (hown : s.vm.findClass "Usewise" = some m.cls) (hcls : Bundle.fit cls = true)
    (hts : ∀ w ∈ Ts, w.before args s = true) (hk : Cond.classLink "Usewise" ik cls ∈ Ts) (hini : Cond.initialized cls ∈ Ts) (hgw : ∀ w ∈ (vx_atS "Usewise" ic cls ["java/lang/RuntimeException", "java/lang/Exception"]).filter goodWord, w ∈ Ts) (hbw : ∀ w ∈ (vx_atS "Usewise" ic cls ["java/lang/RuntimeException", "java/lang/Exception"]).filter (fun w => !goodWord w), w ∈ zNW) (hot : ∀ w ∈ Cond.classLink "Usewise" ik cls :: Cond.initialized cls :: vx_atS "Usewise" ic cls ["java/lang/RuntimeException", "java/lang/Exception"], vx_ot w = true) (htx : (is, text) ∈ zSR)
    (hX : zX A s s.heap) (hA : ∀ q, s.heap.size ≤ q → A q) (hP : va_P g.1 vwCl w0 H) (hK : zK g s) (hD : va_D A w0) (hS : va_S A s.heap H locs) (hsize : ls.size = c.maxLocals)
    (d0 : decode cc pc = .ok (.new ik, 3)) (d3 : decode cc (pc + 3) = .ok (.dup, 1)) (d4 : decode cc (pc + 4) = .ok (.ldc is, 2)) (d6 : decode cc (pc + 6) = .ok (.invokespecial ic, 3)) (d9 : decode cc (pc + 9) = .ok (.athrow, 1))
    (hout : ∀ x ∈ c.exceptionTable.toList, False) (hRf : 5 < R.frames) (hRl : (rest.map fun v => v.category).sum + 82 ≤ R.locals) (hRc : cells + 1 ≤ R.cells) (hRs : slots + 6 ≤ R.slots) (hlocks : meth.locks = false) (hE : XE cls) (hc : cells + 1 ≤ mc) (hs : slots + 6 ≤ ms) :
    W p l e R s m args below meth c H locs cells slots (vx_MQ below Qc (zQX g w0 XE A) args s mc ms A) (F0 m pc ls rest) := by
  obtain ⟨sa, hsa⟩ := hX.2.2.2.1 _ htx
  refine vx_throwS hx hb hl (text := text) (names := ["java/lang/RuntimeException", "java/lang/Exception"]) (sa := sa) hown hcls (by decide +kernel) (hts _ hk) (hts _ hini) hsa
    (vx_hat (fun w hw => hts w (hgw w hw)) hbw (fun w hw => va_Nw.use (zNW_t w hw) (hX.2.2.1 w hw))) hot hX.1 hX.2.1 hS hsize d0 d3 d4 d6 d9 (fun x hx => (hout x hx).elim) hRf hRl hRc hRs hlocks ?_ hS.2.2 hc hs
  intro t hal hz hk1
  refine ⟨w0, rfl, ⟨hE, hP.kept (fun k q hq => hk1 q.1 ((hP k q hq).lt)), hK.moved hal, hD⟩, ⟨Nat.le_trans hS.1 hz, fun q h1 h2 => ?_⟩⟩
  rw [hk1 q (Nat.lt_of_lt_of_le h1 hS.1)]
  exact hS.2.1 q h1 h2
end ZT
end
section
/-! the numbers: worth, the state of a lease, its changes, its bounds -/
-- rows of kit/laws/COUNTS, pasted
theorem fb_rng (x : Int32) : -2147483648 ≤ x.toInt ∧ x.toInt < 2147483648 := by
  have h1 := Int32.le_toInt x
  have h2 := Int32.toInt_lt x
  omega
theorem fb_bmod {z : Int} (h1 : -2147483648 ≤ z) (h2 : z < 2147483648) : z.bmod (2 ^ 32) = z := by
  rw [Int.bmod_eq_of_le (by omega) (by omega)]
theorem fb_addI {x y : Int32} (h1 : -2147483648 ≤ x.toInt + y.toInt) (h2 : x.toInt + y.toInt < 2147483648) : (x + y).toInt = x.toInt + y.toInt := by
  rw [Int32.toInt_add, fb_bmod h1 h2]
theorem fb_subI {x y : Int32} (h1 : -2147483648 ≤ x.toInt - y.toInt) (h2 : x.toInt - y.toInt < 2147483648) : (x - y).toInt = x.toInt - y.toInt := by
  rw [Int32.toInt_sub, fb_bmod h1 h2]
theorem fb_mulI {x y : Int32} (h1 : -2147483648 ≤ x.toInt * y.toInt) (h2 : x.toInt * y.toInt < 2147483648) : (x * y).toInt = x.toInt * y.toInt := by
  rw [Int32.toInt_mul, fb_bmod h1 h2]
theorem fb_negI {x : Int32} (h : x.toInt ≠ -2147483648) : (-x).toInt = -x.toInt := by
  have := fb_rng x
  rw [Int32.toInt_neg, fb_bmod (by omega) (by omega)]
theorem fb_ofI {z : Int} (h1 : -2147483648 ≤ z) (h2 : z < 2147483648) : (Int32.ofInt z).toInt = z := by
  rw [Int32.toInt_ofInt, fb_bmod h1 h2]
theorem fb_asI (x : Int32) : Int32.ofInt x.toInt = x := Int32.ofInt_toInt x
theorem fb_rngL (x : Int64) : -9223372036854775808 ≤ x.toInt ∧ x.toInt < 9223372036854775808 := by
  have h1 := Int64.le_toInt x
  have h2 := Int64.toInt_lt x
  omega
theorem fb_bmodL {z : Int} (h1 : -9223372036854775808 ≤ z) (h2 : z < 9223372036854775808) : z.bmod (2 ^ 64) = z := by
  rw [Int.bmod_eq_of_le (by omega) (by omega)]
theorem fb_addL {x y : Int64} (h1 : -9223372036854775808 ≤ x.toInt + y.toInt) (h2 : x.toInt + y.toInt < 9223372036854775808) : (x + y).toInt = x.toInt + y.toInt := by
  rw [Int64.toInt_add, fb_bmodL h1 h2]
theorem fb_subL {x y : Int64} (h1 : -9223372036854775808 ≤ x.toInt - y.toInt) (h2 : x.toInt - y.toInt < 9223372036854775808) : (x - y).toInt = x.toInt - y.toInt := by
  rw [Int64.toInt_sub, fb_bmodL h1 h2]
theorem fb_mulL {x y : Int64} (h1 : -9223372036854775808 ≤ x.toInt * y.toInt) (h2 : x.toInt * y.toInt < 9223372036854775808) : (x * y).toInt = x.toInt * y.toInt := by
  rw [Int64.toInt_mul, fb_bmodL h1 h2]
-- end of the pasted rows
theorem z_m1 (k : Nat) : nI k - nI 1 = nI k + (-1) := by rw [Int32.sub_eq_add_neg]; rfl
theorem z_up {k : Nat} (h : 0 < k) : nI k + (-1) = nI (k - 1) := by
  obtain ⟨j, rfl⟩ : ∃ j, k = j + 1 := ⟨k - 1, by omega⟩
  exact pk_m1 j
theorem z32_64 (x : Int32) : x.toInt64.toInt32 = x := Int32.toInt32_toInt64 x
theorem z64_add (x y : Int64) : (x + y).toInt32 = x.toInt32 + y.toInt32 := Int64.toInt32_add x y
theorem z64_sub (x y : Int64) : (x - y).toInt32 = x.toInt32 - y.toInt32 := Int64.toInt32_sub x y
theorem z_upd_s (f : Nat → Int32) (k : Nat) (x : Int32) : upd f k x k = x := pk_us
theorem z_upd_n (f : Nat → Int32) {k j : Nat} (x : Int32) (h : j ≠ k) : upd f k x j = f j := pk_un h
theorem z_lt64 {a b : Nat} (ha : a < 2 ^ 63) (hb : b < 2 ^ 63) : lN a < lN b ↔ a < b := pk_lLT ha hb
def zB (r x : Nat) : Nat := (x * 1000000 + (1000000 + r) - 1) / (1000000 + r)
theorem zB_iff (r x q : Nat) : zB r x ≤ q ↔ x * 1000000 ≤ q * (1000000 + r) := by
  unfold zB
  have h : ∀ q, (x * 1000000 + (1000000 + r) - 1) / (1000000 + r) < q + 1 ↔ x * 1000000 + (1000000 + r) - 1 < (q + 1) * (1000000 + r) := fun q => Nat.div_lt_iff_lt_mul (by omega)
  have h2 := h q
  rw [Nat.add_mul, Nat.one_mul] at h2
  constructor
  · intro h1
    have := h2.mp (by omega)
    omega
  · intro h1
    have := h2.mpr (by omega)
    omega
theorem zB_ge (r x : Nat) : x * 1000000 ≤ zB r x * (1000000 + r) := (zB_iff r x _).mp (Nat.le_refl _)
theorem zB_lt (r x : Nat) : zB r x * (1000000 + r) ≤ x * 1000000 + (1000000 + r) - 1 := Nat.div_mul_le_self _ _
theorem zB_le (r x : Nat) : zB r x ≤ x := (zB_iff r x x).mpr (Nat.mul_le_mul_left x (by omega))
theorem zB_mono (r : Nat) {x y : Nat} (h : x ≤ y) : zB r x ≤ zB r y := (zB_iff r x _).mpr (Nat.le_trans (Nat.mul_le_mul_right _ h) (zB_ge r y))
theorem zB_anti {r r' : Nat} (h : r ≤ r') (x : Nat) : zB r' x ≤ zB r x := (zB_iff r' x _).mpr (Nat.le_trans (zB_ge r x) (Nat.mul_le_mul_left _ (by omega)))
theorem zB_add (r y e : Nat) : zB r (y + e) ≤ zB r y + e := (zB_iff r _ _).mpr (by
  rw [Nat.add_mul, Nat.add_mul]
  exact Nat.add_le_add (zB_ge r y) (Nat.mul_le_mul_left e (by omega)))
/-- the worth of the last n payments of T -/
def zWr (r : Nat) (p : Nat → Nat) (T : Nat) : Nat → Nat
  | 0 => 0
  | n + 1 => zB r (zWr r p T n + p (T - (n + 1)))
theorem zWr_0 (r : Nat) (p : Nat → Nat) (T : Nat) : zWr r p T 0 = 0 := rfl
theorem zWr_s (r : Nat) (p : Nat → Nat) (T n : Nat) : zWr r p T (n + 1) = zB r (zWr r p T n + p (T - (n + 1))) := rfl
theorem zWr_at (r : Nat) (p : Nat → Nat) {T j : Nat} (h : j < T) : zWr r p T (T - j) = zB r (zWr r p T (T - (j + 1)) + p j) := by
  rw [show T - j = (T - (j + 1)) + 1 by omega, zWr_s, show T - (T - (j + 1) + 1) = j by omega]
theorem zWr_cong {r : Nat} {p q : Nat → Nat} {T : Nat} : ∀ n, (∀ j, T - n ≤ j → j < T → p j = q j) → n ≤ T → zWr r p T n = zWr r q T n
  | 0, _, _ => rfl
  | n + 1, h, hn => by
    rw [zWr_s, zWr_s, zWr_cong n (fun j h1 h2 => h j (by omega) h2) (by omega), h (T - (n + 1)) (Nat.le_refl _) (by omega)]
theorem zWr_le {r M : Nat} {p : Nat → Nat} {T : Nat} : ∀ n, (∀ j, T - n ≤ j → j < T → p j ≤ M) → n ≤ T → zWr r p T n ≤ M * n
  | 0, _, _ => Nat.zero_le _
  | n + 1, h, hn => by
    have h1 := zWr_le (r := r) n (fun j h1 h2 => h j (by omega) h2) (by omega)
    have h2 := h (T - (n + 1)) (Nat.le_refl _) (by omega)
    have h3 := zB_le r (zWr r p T n + p (T - (n + 1)))
    rw [zWr_s, Nat.mul_add, Nat.mul_one]
    omega
theorem zWr_anti {r r' : Nat} (h : r ≤ r') (p : Nat → Nat) (T : Nat) : ∀ n, zWr r' p T n ≤ zWr r p T n
  | 0 => Nat.le_refl _
  | n + 1 => by
    rw [zWr_s, zWr_s]
    exact Nat.le_trans (zB_mono r' (Nat.add_le_add_right (zWr_anti h p T n) _)) (zB_anti h _)
theorem zWr_step (r : Nat) (p : Nat → Nat) {T j : Nat} (h : j < T) : zWr r p T (T - j) ≤ zWr r p T (T - (j + 1)) + p j := by
  rw [zWr_at r p h]; exact zB_le _ _
/-- months taken off -/
theorem zWr_off {r M : Nat} {p : Nat → Nat} {T k : Nat} : ∀ m, (∀ j, T - (m + k) ≤ j → j < T → p j ≤ M) → m + k ≤ T → zWr r p T (m + k) ≤ zWr r p (T - k) m + M * k
  | 0, h, hk => by
    rw [Nat.zero_add] at h hk ⊢
    rw [zWr_0, Nat.zero_add]
    exact zWr_le k h hk
  | m + 1, h, hk => by
    have h1 := zWr_off (r := r) (k := k) m (fun j h1 h2 => h j (by omega) h2) (by omega)
    rw [show m + 1 + k = (m + k) + 1 by omega, zWr_s, zWr_s, show T - (m + k + 1) = T - k - (m + 1) by omega]
    refine Nat.le_trans (zB_mono r (y := zWr r p (T - k) m + p (T - k - (m + 1)) + M * k) (by omega)) (zB_add r _ _)
def zSc (a : Nat) (p : Nat → Nat) : Nat → Nat := fun j => p j * a / 100
theorem zWr_cut {r a : Nat} (ha : a ≤ 100) (p : Nat → Nat) (T : Nat) : ∀ n, a * zWr r p T n ≤ 100 * zWr r (zSc a p) T n + 200 * n
  | 0 => by rw [zWr_0]; omega
  | n + 1 => by
    have ih := zWr_cut (r := r) ha p T n
    rw [zWr_s, zWr_s]
    generalize hq : p (T - (n + 1)) = q
    have hq2 : zSc a p (T - (n + 1)) = q * a / 100 := by unfold zSc; rw [hq]
    rw [hq2]
    generalize zWr r p T n = w at ih ⊢
    generalize zWr r (zSc a p) T n = w' at ih ⊢
    have h1 := zB_lt r (w + q)
    have h2 := zB_ge r (w' + q * a / 100)
    generalize zB r (w + q) = y at h1 ⊢
    generalize zB r (w' + q * a / 100) = y' at h2 ⊢
    have h3 : q * a ≤ 100 * (q * a / 100) + 99 := by omega
    generalize q * a / 100 = q' at h2 h3 ⊢
    have hd : 0 < 1000000 + r := by omega
    have h4 : a * (w + q) ≤ 100 * (w' + q') + (200 * n + 99) := by
      rw [Nat.mul_add, Nat.mul_comm a q]; omega
    have h5 : a * y * (1000000 + r) ≤ (100 * y' + 200 * (n + 1)) * (1000000 + r) := by
      have e1 : a * y * (1000000 + r) = a * (y * (1000000 + r)) := Nat.mul_assoc _ _ _
      have e2 : a * (y * (1000000 + r)) ≤ a * ((w + q) * 1000000 + (1000000 + r)) := Nat.mul_le_mul_left a (by omega)
      have e3 : a * ((w + q) * 1000000 + (1000000 + r)) = a * (w + q) * 1000000 + a * (1000000 + r) := by rw [Nat.mul_add, Nat.mul_assoc]
      have e4 : a * (w + q) * 1000000 ≤ (100 * (w' + q') + (200 * n + 99)) * 1000000 := Nat.mul_le_mul_right _ h4
      have e5 : a * (1000000 + r) ≤ 100 * (1000000 + r) := Nat.mul_le_mul_right _ ha
      have e6 : (100 * y' + 200 * (n + 1)) * (1000000 + r) = 100 * (y' * (1000000 + r)) + (200 * n + 200) * (1000000 + r) := by rw [Nat.add_mul, Nat.mul_assoc, Nat.mul_add 200 n 1]
      have e7 : (200 * n + 200) * (1000000 + r) = (200 * n + 100) * (1000000 + r) + 100 * (1000000 + r) := by rw [← Nat.add_mul]
      have e8 : (200 * n + 100) * 1000000 ≤ (200 * n + 100) * (1000000 + r) := Nat.mul_le_mul_left _ (by omega)
      omega
    exact Nat.le_of_mul_le_mul_right h5 hd
/-- a lease: months in all, months past, payments, right, interest, paid, written, gains -/
abbrev zS : Type := Nat × Nat × (Nat → Nat) × Nat × Int32 × Int32 × Int32 × Int32
def zD (r : Nat) : zS → Nat := fun (T, P, p, _, _, _, _, _) => zWr r p T (T - P)
def zInv (r f : Nat) : zS → Prop := fun (T, P, p, R, _, _, _, _) => T ≤ 120 ∧ P ≤ T ∧ r ≤ 20000 ∧ f ≤ 120 ∧ (∀ j, P ≤ j → j < T → p j ≤ 1000000) ∧ R ≤ zWr r p T (T - P) + 120000000 + 1000000 * P
theorem zInv_D {r f T P R : Nat} {p : Nat → Nat} {I Pd W G : Int32} (h : zInv r f (T, P, p, R, I, Pd, W, G)) : zWr r p T (T - P) ≤ 1000000 * (T - P) := by
  obtain ⟨h1, h2, h3, h4, h5, h6⟩ := h
  exact zWr_le (T - P) (fun j a b => h5 j (by omega) b) (by omega)
theorem zInv_R {r f T P R : Nat} {p : Nat → Nat} {I Pd W G : Int32} (h : zInv r f (T, P, p, R, I, Pd, W, G)) : R ≤ 240000000 := by
  have h0 := zInv_D h
  obtain ⟨h1, h2, h3, h4, h5, h6⟩ := h
  omega
/-- any month's worth -/
theorem zInv_W {r f T P R : Nat} {p : Nat → Nat} {I Pd W G : Int32} (h : zInv r f (T, P, p, R, I, Pd, W, G)) (r' j : Nat) (hj : P ≤ j) : zWr r' p T (T - j) ≤ 120000000 := by
  obtain ⟨h1, h2, h3, h4, h5, h6⟩ := h
  have := zWr_le (r := r') (M := 1000000) (p := p) (T := T) (T - j) (fun i a b => h5 i (by omega) b) (by omega)
  omega
def zMW (f T P : Nat) : Nat := max 1 (min (T - P) (f - P))
def zMonth (r f : Nat) : zS → zS := fun (T, P, p, R, I, Pd, W, G) => (T, P + 1, p, R - R / zMW f T P, I + (nI (zWr r p T (T - (P + 1))) + nI (p P) - nI (zWr r p T (T - P))), Pd + nI (p P), W + nI (R / zMW f T P), G)
def zIt (r f : Nat) : Nat → zS → zS
  | 0, z => z
  | n + 1, z => zMonth r f (zIt r f n z)
/-- the debt is laid again, the right follows -/
def zFol (r : Nat) (T' : Nat) (p' : Nat → Nat) : zS → zS := fun (T, P, p, R, I, Pd, W, G) =>
  if R + zWr r p' T' (T' - P) < zWr r p T (T - P) then (T', P, p', 0, I, Pd, W, G - (nI R + (nI (zWr r p' T' (T' - P)) - nI (zWr r p T (T - P))))) else (T', P, p', R + zWr r p' T' (T' - P) - zWr r p T (T - P), I, Pd, W, G)
def zGn (r : Nat) (T' : Nat) (p' : Nat → Nat) (R' : Nat) : zS → Int32 := fun (T, P, p, R, _, _, _, _) => nI (zWr r p T (T - P)) - nI (zWr r p' T' (T' - P)) - (nI R - nI R')
/-- a part is given up -/
def zGiv (r : Nat) (T' : Nat) (p' : Nat → Nat) (R' : Nat) : zS → zS := fun (T, P, p, R, I, Pd, W, G) => (T', P, p', R', I, Pd, W, G + zGn r T' p' R' (T, P, p, R, I, Pd, W, G))
def zPut (T k x : Nat) (p : Nat → Nat) : Nat → Nat := fun j => if T ≤ j ∧ j < T + k then x else p j
theorem zInv_month {r f T P R : Nat} {p : Nat → Nat} {I Pd W G : Int32} (h : zInv r f (T, P, p, R, I, Pd, W, G)) (hP : P < T) : zInv r f (zMonth r f (T, P, p, R, I, Pd, W, G)) := by
  obtain ⟨h1, h2, h3, h4, h5, h6⟩ := h
  refine ⟨h1, hP, h3, h4, fun j a b => h5 j (by omega) b, ?_⟩
  have := zWr_step r p hP
  have := h5 P (Nat.le_refl _) hP
  have : R - R / zMW f T P ≤ R := Nat.sub_le _ _
  omega
theorem zIt_T (r f : Nat) (z : zS) : ∀ n, (zIt r f n z).1 = z.1
  | 0 => rfl
  | n + 1 => zIt_T r f z n
theorem zIt_P (r f : Nat) (z : zS) : ∀ n, (zIt r f n z).2.1 = z.2.1 + n
  | 0 => rfl
  | n + 1 => by
    show (zIt r f n z).2.1 + 1 = _
    rw [zIt_P r f z n]; rfl
theorem zInv_it {r f : Nat} {z : zS} (h : zInv r f z) : ∀ n, z.2.1 + n ≤ z.1 → zInv r f (zIt r f n z)
  | 0, _ => h
  | n + 1, hn => by
    have h1 := zInv_it h n (by omega)
    have h2 := zIt_T r f z n
    have h3 := zIt_P r f z n
    show zInv r f (zMonth r f (zIt r f n z))
    generalize zIt r f n z = y at h1 h2 h3
    obtain ⟨T, P, p, R, I, Pd, W, G⟩ := y
    exact zInv_month h1 (by dsimp only at h2 h3; omega)
theorem zInv_fol {r f T P R : Nat} {p : Nat → Nat} {I Pd W G : Int32} {T' : Nat} {p' : Nat → Nat} (h : zInv r f (T, P, p, R, I, Pd, W, G)) (hT : T' ≤ 120) (hP : P ≤ T') (hp : ∀ j, P ≤ j → j < T' → p' j ≤ 1000000) : zInv r f (zFol r T' p' (T, P, p, R, I, Pd, W, G)) := by
  obtain ⟨h1, h2, h3, h4, h5, h6⟩ := h
  unfold zFol
  dsimp only
  split
  · exact ⟨hT, hP, h3, h4, hp, by omega⟩
  · exact ⟨hT, hP, h3, h4, hp, by omega⟩
theorem zInv_cut {r f T P R : Nat} {p : Nat → Nat} {I Pd W G : Int32} {a : Nat} (h : zInv r f (T, P, p, R, I, Pd, W, G)) (ha : a ≤ 99) : zInv r f (zGiv r T (zSc a p) (R * a / 100) (T, P, p, R, I, Pd, W, G)) := by
  obtain ⟨h1, h2, h3, h4, h5, h6⟩ := h
  refine ⟨h1, h2, h3, h4, fun j x y => ?_, ?_⟩
  · have := h5 j x y
    have : p j * a ≤ p j * 100 := Nat.mul_le_mul_left _ (by omega)
    show p j * a / 100 ≤ 1000000
    omega
  · have h7 := zWr_cut (r := r) (a := a) (by omega) p T (T - P)
    have h8 : R * a ≤ (zWr r p T (T - P) + (120000000 + 1000000 * P)) * a := Nat.mul_le_mul_right a (by omega)
    rw [Nat.add_mul, Nat.mul_comm (zWr r p T (T - P)) a] at h8
    have h9 : (120000000 + 1000000 * P) * a ≤ (120000000 + 1000000 * P) * 99 := Nat.mul_le_mul_left _ ha
    omega
theorem zInv_off {r f T P R : Nat} {p : Nat → Nat} {I Pd W G : Int32} {k : Nat} (h : zInv r f (T, P, p, R, I, Pd, W, G)) (hk : k < T - P) : zInv r f (zGiv r (T - k) p (R * (T - k - P) / (T - P)) (T, P, p, R, I, Pd, W, G)) := by
  obtain ⟨h1, h2, h3, h4, h5, h6⟩ := h
  refine ⟨by omega, by omega, h3, h4, fun j x y => h5 j x (by omega), ?_⟩
  have h7 := zWr_off (r := r) (M := 1000000) (p := p) (T := T) (k := k) (T - k - P) (fun j a b => h5 j (by omega) b) (by omega)
  rw [show T - k - P + k = T - P by omega] at h7
  generalize hl : T - P = l at *
  have hl2 : T - k - P = l - k := by omega
  rw [hl2] at h7 ⊢
  rcases Nat.lt_or_ge R (1000000 * l) with hR | hR
  · have : R * (l - k) / l ≤ R := by
      refine Nat.le_trans (Nat.div_le_div_right (Nat.mul_le_mul_left R (Nat.sub_le l k))) ?_
      rw [Nat.mul_div_cancel _ (by omega)]
      exact Nat.le_refl R
    omega
  · have hx : R * (l - k) / l ≤ R - 1000000 * k := by
      have e1 : R * (l - k) ≤ (R - 1000000 * k) * l := by
        rw [Nat.mul_sub, Nat.sub_mul]
        have : 1000000 * k * l ≤ R * k := by
          rw [Nat.mul_right_comm]
          exact Nat.mul_le_mul_right k hR
        omega
      exact Nat.le_trans (Nat.div_le_div_right e1) (by rw [Nat.mul_div_cancel _ (by omega)]; exact Nat.le_refl _)
    omega
/-- what a lease's cells hold beside the numbers: interest, paid, written, gains as longs; payments, debts -/
abbrev zRaw : Type := Int64 × Int64 × Int64 × Int64 × (Nat → Int32) × (Nat → Int32)
abbrev zLW (g : zG) (a : Nat × Nat × Nat) (rt lf : Nat) (z : zS) (q : zRaw) : va_W := [(a.1, .inr (0, [.int (nI rt), .int (nI lf), .ref a.2.1, .ref a.2.2, .int (nI z.1), .int (nI z.2.1), .long (lN z.2.2.2.1), .long q.1, .long q.2.1, .long q.2.2.1, .long q.2.2.2.1])), (a.2.1, .inl (g.2.1, 120, .inl q.2.2.2.2.1)), (a.2.2, .inl (g.2.1, 121, .inl q.2.2.2.2.2))]
def zCR (rt : Nat) : zS → zRaw → Prop := fun (T, P, p, _, I, Pd, W, G) (xI, xP, xW, xG, u, v) => xI.toInt32 = I ∧ xP.toInt32 = Pd ∧ xW.toInt32 = W ∧ xG.toInt32 = G ∧ (∀ j, P ≤ j → j < T → u j = nI (p j)) ∧ ∀ j, P ≤ j → j ≤ T → v j = nI (zWr rt p T (T - j))
theorem z_fol1 {R D0 D1 : Nat} (h : D0 ≤ R + D1) : lN R + (lN D1 - lN D0) = lN (R + D1 - D0) := by
  rw [← lN_sub h, ← lN_add, Int64.sub_eq_add_neg, Int64.sub_eq_add_neg, Int64.add_assoc]
theorem z_fol2 {R D0 D1 : Nat} (h : R + D1 < D0) (hD : D0 < 2 ^ 31) : lN R + (lN D1 - lN D0) < lN 0 := by
  have e1 := fb_subL (x := lN D1) (y := lN D0) (by rw [lN_toInt (by omega), lN_toInt (by omega)]; omega) (by rw [lN_toInt (by omega), lN_toInt (by omega)]; omega)
  rw [lN_toInt (by omega), lN_toInt (by omega)] at e1
  rw [Int64.lt_iff_toInt_lt, fb_addL (by rw [e1, lN_toInt (by omega)]; omega) (by rw [e1, lN_toInt (by omega)]; omega), e1, lN_toInt (by omega), lN_toInt (by omega)]
  omega
end
section
/-! the class of a lease: its reads -/
theorem z_nIneg {a b : Nat} (ha : a < 2 ^ 30) (hb : b < 2 ^ 30) : (nI a - nI b).toInt = (a : Int) - b := pk_sub_toInt ha hb
set_option maxHeartbeats 4000000 in
set_option maxRecDepth 100000 in
theorem c_monthsLeft (l : Launch) (g : zG) (h pa da rt lf T P : Nat) (R xI xP xW xG : Int64) (u v : Nat → Int32) (hPT : P ≤ T) : zMi l yX0_monthsLeft wsX0_monthsLeft ({ frames := 0, cells := 0, slots := 0, locals := 0 } : Room) [.ref h] g [(h, .inr (0, [.int (nI rt), .int (nI lf), .ref pa, .ref da, .int (nI T), .int (nI P), .long R, .long xI, .long xP, .long xW, .long xG])), (pa, .inl (g.2.1, 120, .inl u)), (da, .inl (g.2.1, 121, .inl v))] (fun q w => q = nI (T - P) ∧ w = [(h, .inr (0, [.int (nI rt), .int (nI lf), .ref pa, .ref da, .int (nI T), .int (nI P), .long R, .long xI, .long xP, .long xW, .long xG])), (pa, .inl (g.2.1, 120, .inl u)), (da, .inl (g.2.1, 121, .inl v))]) 0 0 := by
  intro sz A hAe
  refine Met.ofW (cc := cX0_monthsLeft) (maxL := 1) (ret := some .int) (by decide) rfl ?_
  intro p e s m args below meth c s₁ B hml hv
  obtain ⟨rfl, hsz, hP, hK, hD0⟩ := hv
  have hx := B.exec
  have hb := B.bytes
  have hr := B.returns
  have hts := atoms_spec (ws := wsX0_monthsLeft) B.pre
  have hown : s.vm.findClass RX0 = some m.cls := findClass_of_methodNamed B.named
  have hlocks := B.notSynchronized
  obtain ⟨hD, hA, hS⟩ := z_in hsz hAe hD0
  have hl := lv_entry ([.ref h]) (n := 1) (Nat.le_of_ble_eq_true rfl)
  rw [lg_entry_eq]
  generalize (lg_sl ([.ref h]) ++ List.replicate (1 - (lg_sl ([.ref h])).length) Slot.unset).toArray = ls at hl ⊢
  have hl : lv_has ls 1 [(0, .ref h)] := hl
  have hinX0 : ∀ w ∈ wsX00, w ∈ wsX0_monthsLeft := by decide +kernel
  refine lv_aload_n hx hb dX0_monthsLeft_0 rfl (lv_at hl 0 rfl) ?_
  refine va_get (D := g.1) (ci := 0) (v := .int (nI T)) (C := RX0) (T := TX0) (N := 11) hx hb hts hinX0 hown hK hP 0 rfl rfl 4 (by decide) (hts (.fieldLink RX0 27 "Usewise$Lease" "term" "I") (by decide +kernel)) (fun _ h9 => h9) rfl dX0_monthsLeft_1 ?_
  refine lv_aload_n hx hb dX0_monthsLeft_4 rfl (lv_at hl 0 rfl) ?_
  refine va_get (D := g.1) (ci := 0) (v := .int (nI P)) (C := RX0) (T := TX0) (N := 11) hx hb hts hinX0 hown hK hP 0 rfl rfl 5 (by decide) (hts (.fieldLink RX0 52 "Usewise$Lease" "past" "I") (by decide +kernel)) (fun _ h9 => h9) rfl dX0_monthsLeft_5 ?_
  refine z_isub hx hb dX0_monthsLeft_8 (by omega) ?_
  exact z_iret hx hb hr hP hK hD hS dX0_monthsLeft_9 hlocks (⟨rfl, rfl⟩)

set_option maxHeartbeats 4000000 in
set_option maxRecDepth 100000 in
theorem c_at (l : Launch) (g : zG) (pa N k : Nat) (u : Nat → Int32) (hk : k < N) (hN : N ≤ 1000) : zMi l yX0_at wsX0_at ({ frames := 0, cells := 0, slots := 0, locals := 0 } : Room) [.ref pa, .int (nI k)] g [(pa, .inl (g.2.1, N, .inl u))] (fun q w => q = u k ∧ w = [(pa, .inl (g.2.1, N, .inl u))]) 0 0 := by
  intro sz A hAe
  refine Met.ofW (cc := cX0_at) (maxL := 2) (ret := some .int) (by decide) rfl ?_
  intro p e s m args below meth c s₁ B hml hv
  obtain ⟨rfl, hsz, hP, hK, hD0⟩ := hv
  have hx := B.exec
  have hb := B.bytes
  have hr := B.returns
  have hts := atoms_spec (ws := wsX0_at) B.pre
  have hown : s.vm.findClass RX0 = some m.cls := findClass_of_methodNamed B.named
  have hlocks := B.notSynchronized
  obtain ⟨hD, hA, hS⟩ := z_in hsz hAe hD0
  have hl := lv_entry ([.ref pa, .int (nI k)]) (n := 2) (Nat.le_of_ble_eq_true rfl)
  rw [lg_entry_eq]
  generalize (lg_sl ([.ref pa, .int (nI k)]) ++ List.replicate (2 - (lg_sl ([.ref pa, .int (nI k)])).length) Slot.unset).toArray = ls at hl ⊢
  have hl : lv_has ls 2 [(0, .ref pa), (1, .int (nI k))] := hl
  refine lv_iload_n hx hb dX0_at_0 rfl (lv_at hl 1 rfl) ?_
  refine z_if_lt (tgt := 16) hx hb dX0_at_1 (by decide) (by omega) (fun hc => ?_) (fun hc => ?_)
  · exact hc.elim
  · refine lv_iload_n hx hb dX0_at_4 rfl (lv_at hl 1 rfl) ?_
    refine lv_aload_n hx hb dX0_at_5 rfl (lv_at hl 0 rfl) ?_
    refine va_alen (v := nI N) hx hb hK hP 0 0 rfl rfl rfl dX0_at_6 ?_
    refine z_icmp_ge (tgt := 16) hx hb dX0_at_7 (by decide) (by omega) (by omega) (fun hd => ?_) (fun hd => ?_)
    · exact absurd hk (by omega)
    · refine lv_aload_n hx hb dX0_at_10 rfl (lv_at hl 0 rfl) ?_
      refine lv_iload_n hx hb dX0_at_11 rfl (lv_at hl 1 rfl) ?_
      refine z_iald hx hb hK hP 0 0 rfl rfl (by omega) (by omega) dX0_at_12 ?_
      refine lv_goto (tgt := 17) hx hb dX0_at_13 (by decide) ?_
      exact z_iret hx hb hr hP hK hD hS dX0_at_17 hlocks (⟨rfl, rfl⟩)

set_option maxHeartbeats 4000000 in
set_option maxRecDepth 100000 in
theorem c_put (l : Launch) (g : zG) (pa N k : Nat) (x : Int32) (u : Nat → Int32) (hk : k < N) (hN : N ≤ 1000) : zMv l yX0_put wsX0_put ({ frames := 0, cells := 0, slots := 0, locals := 0 } : Room) [.ref pa, .int (nI k), .int x] g [(pa, .inl (g.2.1, N, .inl u))] (fun w => w = [(pa, .inl (g.2.1, N, .inl (upd u k x)))]) 0 0 := by
  intro sz A hAe
  refine Met.ofW (cc := cX0_put) (maxL := 3) (ret := none) (by decide) rfl ?_
  intro p e s m args below meth c s₁ B hml hv
  obtain ⟨rfl, hsz, hP, hK, hD0⟩ := hv
  have hx := B.exec
  have hb := B.bytes
  have hr := B.returns
  have hts := atoms_spec (ws := wsX0_put) B.pre
  have hown : s.vm.findClass RX0 = some m.cls := findClass_of_methodNamed B.named
  have hlocks := B.notSynchronized
  obtain ⟨hD, hA, hS⟩ := z_in hsz hAe hD0
  have hl := lv_entry ([.ref pa, .int (nI k), .int x]) (n := 3) (Nat.le_of_ble_eq_true rfl)
  rw [lg_entry_eq]
  generalize (lg_sl ([.ref pa, .int (nI k), .int x]) ++ List.replicate (3 - (lg_sl ([.ref pa, .int (nI k), .int x])).length) Slot.unset).toArray = ls at hl ⊢
  have hl : lv_has ls 3 [(0, .ref pa), (1, .int (nI k)), (2, .int x)] := hl
  refine lv_iload_n hx hb dX0_put_0 rfl (lv_at hl 1 rfl) ?_
  refine z_if_lt (tgt := 14) hx hb dX0_put_1 (by decide) (by omega) (fun hc => ?_) (fun hc => ?_)
  · exact hc.elim
  · refine lv_iload_n hx hb dX0_put_4 rfl (lv_at hl 1 rfl) ?_
    refine lv_aload_n hx hb dX0_put_5 rfl (lv_at hl 0 rfl) ?_
    refine va_alen (v := nI N) hx hb hK hP 0 0 rfl rfl rfl dX0_put_6 ?_
    refine z_icmp_ge (tgt := 14) hx hb dX0_put_7 (by decide) (by omega) (by omega) (fun hd => ?_) (fun hd => ?_)
    · exact absurd hk (by omega)
    · refine lv_aload_n hx hb dX0_put_10 rfl (lv_at hl 0 rfl) ?_
      refine lv_iload_n hx hb dX0_put_11 rfl (lv_at hl 1 rfl) ?_
      refine lv_iload_n hx hb dX0_put_12 rfl (lv_at hl 2 rfl) ?_
      refine z_iast hx hb hK hP hD hS 0 0 rfl rfl (by omega) (by omega) dX0_put_13 (fun H locs hP hD hS => ?_)
      have hP : va_P g.1 vwCl [(pa, .inl (g.2.1, N, .inl (upd u k x)))] H := hP
      have hD : va_D A [(pa, .inl (g.2.1, N, .inl (upd u k x)))] := hD
      exact z_vret hx hb hr hP hK hD hS dX0_put_14 hlocks rfl

set_option maxHeartbeats 4000000 in
set_option maxRecDepth 100000 in
theorem c_debtNow (l : Launch) (g : zG) (h pa da rt lf T P : Nat) (R xI xP xW xG : Int64) (u v : Nat → Int32) (hP0 : P ≤ 120) : zMi l yX0_debtNow wsX0_debtNow ({ frames := 1, cells := 0, slots := 0, locals := 22 } : Room) [.ref h] g [(h, .inr (0, [.int (nI rt), .int (nI lf), .ref pa, .ref da, .int (nI T), .int (nI P), .long R, .long xI, .long xP, .long xW, .long xG])), (pa, .inl (g.2.1, 120, .inl u)), (da, .inl (g.2.1, 121, .inl v))] (fun q w => q = v P ∧ w = [(h, .inr (0, [.int (nI rt), .int (nI lf), .ref pa, .ref da, .int (nI T), .int (nI P), .long R, .long xI, .long xP, .long xW, .long xG])), (pa, .inl (g.2.1, 120, .inl u)), (da, .inl (g.2.1, 121, .inl v))]) 0 0 := by
  intro sz A hAe
  refine Met.ofW (cc := cX0_debtNow) (maxL := 1) (ret := some .int) (by decide) rfl ?_
  intro p e s m args below meth c s₁ B hml hv
  obtain ⟨rfl, hsz, hP, hK, hD0⟩ := hv
  have hx := B.exec
  have hb := B.bytes
  have hr := B.returns
  have hts := atoms_spec (ws := wsX0_debtNow) B.pre
  have hown : s.vm.findClass RX0 = some m.cls := findClass_of_methodNamed B.named
  have hlocks := B.notSynchronized
  obtain ⟨hD, hA, hS⟩ := z_in hsz hAe hD0
  have hl := lv_entry ([.ref h]) (n := 1) (Nat.le_of_ble_eq_true rfl)
  rw [lg_entry_eq]
  generalize (lg_sl ([.ref h]) ++ List.replicate (1 - (lg_sl ([.ref h])).length) Slot.unset).toArray = ls at hl ⊢
  have hl : lv_has ls 1 [(0, .ref h)] := hl
  have hinX0 : ∀ w ∈ wsX00, w ∈ wsX0_debtNow := by decide +kernel
  refine lv_aload_n hx hb dX0_debtNow_0 rfl (lv_at hl 0 rfl) ?_
  refine va_get (D := g.1) (ci := 0) (v := .ref da) (C := RX0) (T := TX0) (N := 11) hx hb hts hinX0 hown hK hP 0 rfl rfl 3 (by decide) (hts (.fieldLink RX0 34 "Usewise$Lease" "debts" "[I") (by decide +kernel)) (fun _ h9 => h9) rfl dX0_debtNow_1 ?_
  refine lv_aload_n hx hb dX0_debtNow_4 rfl (lv_at hl 0 rfl) ?_
  refine va_get (D := g.1) (ci := 0) (v := .int (nI P)) (C := RX0) (T := TX0) (N := 11) hx hb hts hinX0 hown hK hP 0 rfl rfl 5 (by decide) (hts (.fieldLink RX0 52 "Usewise$Lease" "past" "I") (by decide +kernel)) (fun _ h9 => h9) rfl dX0_debtNow_5 ?_
  refine z_ai (wa := [(h, .inr (0, [.int (nI rt), .int (nI lf), .ref pa, .ref da, .int (nI T), .int (nI P), .long R, .long xI, .long xP, .long xW, .long xG])), (pa, .inl (g.2.1, 120, .inl u))]) (wc := [(da, .inl (g.2.1, 121, .inl v))]) (wb := []) (va_runS (As := [.ref da, .int (nI P)]) (rest := []) ⟨hx, hb, hml, hown, hts⟩ (c_at l g da 121 P v (by omega) (by decide) s.heap.size _ rfl) (va_cwS 2 hts gX0_debtNow_X0_at rfl rfl rfl (by decide +kernel) ⟨Nat.le_of_ble_eq_true rfl, Nat.le_of_ble_eq_true rfl⟩) (zpreS (wa := [(h, .inr (0, [.int (nI rt), .int (nI lf), .ref pa, .ref da, .int (nI T), .int (nI P), .long R, .long xI, .long xP, .long xW, .long xG])), (pa, .inl (g.2.1, 120, .inl u))]) (wc := [(da, .inl (g.2.1, 121, .inl v))]) (wb := []) hK hP hD) rfl rfl hl.1 rfl (lv_room (Nat.le_of_ble_eq_true rfl)) dX0_debtNow_8 ⟨Nat.le_of_ble_eq_true rfl, Nat.le_of_ble_eq_true rfl⟩) hP hD hS hA (fun r_1 w1 H locs hq hP hD hS => ?_)
  obtain ⟨rfl, rfl⟩ := hq
  have hP : va_P g.1 vwCl [(h, .inr (0, [.int (nI rt), .int (nI lf), .ref pa, .ref da, .int (nI T), .int (nI P), .long R, .long xI, .long xP, .long xW, .long xG])), (pa, .inl (g.2.1, 120, .inl u)), (da, .inl (g.2.1, 121, .inl v))] H := hP
  have hD : va_D A [(h, .inr (0, [.int (nI rt), .int (nI lf), .ref pa, .ref da, .int (nI T), .int (nI P), .long R, .long xI, .long xP, .long xW, .long xG])), (pa, .inl (g.2.1, 120, .inl u)), (da, .inl (g.2.1, 121, .inl v))] := hD
  exact z_iret hx hb hr hP hK hD hS dX0_debtNow_11 hlocks (⟨rfl, rfl⟩)

set_option maxHeartbeats 4000000 in
set_option maxRecDepth 100000 in
theorem c_hasRoomFor (l : Launch) (g : zG) (h pa da rt lf T P : Nat) (R xI xP xW xG : Int64) (u v : Nat → Int32) (k : Nat) (hT : T ≤ 120) (hk : k ≤ 36) : zMi l yX0_hasRoomFor wsX0_hasRoomFor ({ frames := 0, cells := 0, slots := 0, locals := 0 } : Room) [.ref h, .int (nI k)] g [(h, .inr (0, [.int (nI rt), .int (nI lf), .ref pa, .ref da, .int (nI T), .int (nI P), .long R, .long xI, .long xP, .long xW, .long xG])), (pa, .inl (g.2.1, 120, .inl u)), (da, .inl (g.2.1, 121, .inl v))] (fun q w => ((T + k ≤ 120 ∧ q = nI 1) ∨ (120 < T + k ∧ q = nI 0)) ∧ w = [(h, .inr (0, [.int (nI rt), .int (nI lf), .ref pa, .ref da, .int (nI T), .int (nI P), .long R, .long xI, .long xP, .long xW, .long xG])), (pa, .inl (g.2.1, 120, .inl u)), (da, .inl (g.2.1, 121, .inl v))]) 0 0 := by
  intro sz A hAe
  refine Met.ofW (cc := cX0_hasRoomFor) (maxL := 2) (ret := some .boolean) (by decide) rfl ?_
  intro p e s m args below meth c s₁ B hml hv
  obtain ⟨rfl, hsz, hP, hK, hD0⟩ := hv
  have hx := B.exec
  have hb := B.bytes
  have hr := B.returns
  have hts := atoms_spec (ws := wsX0_hasRoomFor) B.pre
  have hown : s.vm.findClass RX0 = some m.cls := findClass_of_methodNamed B.named
  have hlocks := B.notSynchronized
  obtain ⟨hD, hA, hS⟩ := z_in hsz hAe hD0
  have hl := lv_entry ([.ref h, .int (nI k)]) (n := 2) (Nat.le_of_ble_eq_true rfl)
  rw [lg_entry_eq]
  generalize (lg_sl ([.ref h, .int (nI k)]) ++ List.replicate (2 - (lg_sl ([.ref h, .int (nI k)])).length) Slot.unset).toArray = ls at hl ⊢
  have hl : lv_has ls 2 [(0, .ref h), (1, .int (nI k))] := hl
  have hinX0 : ∀ w ∈ wsX00, w ∈ wsX0_hasRoomFor := by decide +kernel
  refine lv_aload_n hx hb dX0_hasRoomFor_0 rfl (lv_at hl 0 rfl) ?_
  refine va_get (D := g.1) (ci := 0) (v := .int (nI T)) (C := RX0) (T := TX0) (N := 11) hx hb hts hinX0 hown hK hP 0 rfl rfl 4 (by decide) (hts (.fieldLink RX0 27 "Usewise$Lease" "term" "I") (by decide +kernel)) (fun _ h9 => h9) rfl dX0_hasRoomFor_1 ?_
  refine lv_iload_n hx hb dX0_hasRoomFor_4 rfl (lv_at hl 1 rfl) ?_
  refine z_iadd hx hb dX0_hasRoomFor_5 ?_
  refine lv_bipush (v := nI 120) hx hb dX0_hasRoomFor_6 (by decide) ?_
  refine z_icmp_gt (tgt := 15) hx hb dX0_hasRoomFor_8 (by decide) (by omega) (by omega) (fun hc => ?_) (fun hc => ?_)
  · refine lv_iconst (v := nI 0) hx hb dX0_hasRoomFor_15 (by decide) ?_
    exact z_zret hx hb hr (by decide) hP hK hD hS dX0_hasRoomFor_16 hlocks (⟨Or.inr ⟨hc, rfl⟩, rfl⟩)
  · refine lv_iconst (v := nI 1) hx hb dX0_hasRoomFor_11 (by decide) ?_
    refine lv_goto (tgt := 16) hx hb dX0_hasRoomFor_12 (by decide) ?_
    exact z_zret hx hb hr (by decide) hP hK hD hS dX0_hasRoomFor_16 hlocks (⟨Or.inl ⟨hc, rfl⟩, rfl⟩)

set_option maxHeartbeats 4000000 in
set_option maxRecDepth 100000 in
theorem c_worthBefore (l : Launch) (g : zG) (x r0 : Nat) (hr0 : r0 ≤ 20000) (hx0 : x ≤ 1000000000) : zMl l yX0_worthBefore wsX0_worthBefore ({ frames := 0, cells := 0, slots := 0, locals := 0 } : Room) [.long (lN x), .int (nI r0)] g [] (fun q w => q = lN (zB r0 x) ∧ w = []) 0 0 := by
  intro sz A hAe
  refine Met.ofW (cc := cX0_worthBefore) (maxL := 5) (ret := some .long) (by decide) rfl ?_
  intro p e s m args below meth c s₁ B hml hv
  obtain ⟨rfl, hsz, hP, hK, hD0⟩ := hv
  have hx := B.exec
  have hb := B.bytes
  have hr := B.returns
  have hts := atoms_spec (ws := wsX0_worthBefore) B.pre
  have hown : s.vm.findClass RX0 = some m.cls := findClass_of_methodNamed B.named
  have hlocks := B.notSynchronized
  obtain ⟨hD, hA, hS⟩ := z_in hsz hAe hD0
  have hl := lv_entry ([.long (lN x), .int (nI r0)]) (n := 5) (Nat.le_of_ble_eq_true rfl)
  rw [lg_entry_eq]
  generalize (lg_sl ([.long (lN x), .int (nI r0)]) ++ List.replicate (5 - (lg_sl ([.long (lN x), .int (nI r0)])).length) Slot.unset).toArray = ls at hl ⊢
  have hl : lv_has ls 5 [(0, .long (lN x)), (2, .int (nI r0))] := hl
  refine lv_ldc2 (v := lN 1000000) hx hb hown (hts (.constantLong RX0 63 (1000000)) (by decide +kernel)) dX0_worthBefore_0 ?_
  refine lv_iload_n hx hb dX0_worthBefore_3 rfl (lv_at hl 1 rfl) ?_
  refine z_i2l hx hb dX0_worthBefore_4 (by omega) ?_
  refine z_ladd hx hb dX0_worthBefore_5 ?_
  refine lv_lstore_n (lv' := [(3, .long (lN (1000000 + r0))), (0, .long (lN x)), (2, .int (nI r0))]) hx hb dX0_worthBefore_6 rfl hl (by decide) rfl (fun ls hl => ?_)
  refine lv_lload_n hx hb dX0_worthBefore_7 rfl (lv_at hl 0 rfl) ?_
  refine lv_lconst (v := lN 1) hx hb dX0_worthBefore_8 rfl ?_
  refine z_lif_ge (tgt := 17) (pc2 := 10) hx hb dX0_worthBefore_9 rfl dX0_worthBefore_10 (by decide) (fun hc => ?_) (fun hc => ?_)
  · refine lv_lload_n hx hb dX0_worthBefore_17 rfl (lv_at hl 1 rfl) ?_
    refine lv_ldc2 (v := lN 1000000) hx hb hown (hts (.constantLong RX0 63 (1000000)) (by decide +kernel)) dX0_worthBefore_18 ?_
    refine z_lmul hx hb dX0_worthBefore_21 ?_
    refine lv_lload_n hx hb dX0_worthBefore_22 rfl (lv_at hl 0 rfl) ?_
    refine z_ladd hx hb dX0_worthBefore_23 ?_
    refine lv_lconst (v := lN 1) hx hb dX0_worthBefore_24 rfl ?_
    refine z_lsub hx hb dX0_worthBefore_25 (by omega) ?_
    refine lv_lload_n hx hb dX0_worthBefore_26 rfl (lv_at hl 0 rfl) ?_
    refine z_ldiv hx hb dX0_worthBefore_27 (by omega) (by omega) (by omega) ?_
    exact z_lret hx hb hr hP hK hD hS dX0_worthBefore_28 hlocks (⟨rfl, rfl⟩)
  · exact absurd hc (by rw [pk_lLT (by omega) (by decide)]; omega)

set_option maxHeartbeats 4000000 in
set_option maxRecDepth 100000 in
theorem c_percentOf (l : Launch) (g : zG) (x a0 : Nat) (ha0 : a0 ≤ 200) (hx0 : x ≤ 1000000000) : zMl l yX0_percentOf wsX0_percentOf ({ frames := 0, cells := 0, slots := 0, locals := 0 } : Room) [.long (lN x), .int (nI a0)] g [] (fun q w => q = lN (x * a0 / 100) ∧ w = []) 0 0 := by
  intro sz A hAe
  refine Met.ofW (cc := cX0_percentOf) (maxL := 3) (ret := some .long) (by decide) rfl ?_
  intro p e s m args below meth c s₁ B hml hv
  obtain ⟨rfl, hsz, hP, hK, hD0⟩ := hv
  have hx := B.exec
  have hb := B.bytes
  have hr := B.returns
  have hts := atoms_spec (ws := wsX0_percentOf) B.pre
  have hown : s.vm.findClass RX0 = some m.cls := findClass_of_methodNamed B.named
  have hlocks := B.notSynchronized
  obtain ⟨hD, hA, hS⟩ := z_in hsz hAe hD0
  have hl := lv_entry ([.long (lN x), .int (nI a0)]) (n := 3) (Nat.le_of_ble_eq_true rfl)
  rw [lg_entry_eq]
  generalize (lg_sl ([.long (lN x), .int (nI a0)]) ++ List.replicate (3 - (lg_sl ([.long (lN x), .int (nI a0)])).length) Slot.unset).toArray = ls at hl ⊢
  have hl : lv_has ls 3 [(0, .long (lN x)), (2, .int (nI a0))] := hl
  refine lv_lload_n hx hb dX0_percentOf_0 rfl (lv_at hl 0 rfl) ?_
  refine lv_iload_n hx hb dX0_percentOf_1 rfl (lv_at hl 1 rfl) ?_
  refine z_i2l hx hb dX0_percentOf_2 (by omega) ?_
  refine z_lmul hx hb dX0_percentOf_3 ?_
  refine lv_ldc2 (v := lN 100) hx hb hown (hts (.constantLong RX0 94 (100)) (by decide +kernel)) dX0_percentOf_4 ?_
  have hxa : x * a0 ≤ 1000000000 * 200 := Nat.mul_le_mul hx0 ha0
  refine z_ldiv hx hb dX0_percentOf_7 (by omega) (by omega) (by omega) ?_
  exact z_lret hx hb hr hP hK hD hS dX0_percentOf_8 hlocks (⟨rfl, rfl⟩)
end
section
/-! the class of a lease: loops -/
theorem z_dlt {k P : Nat} (hk : k ≤ 120) (hP : P ≤ 120) : nI k + (-1) < nI P ↔ k ≤ P := by
  rw [← z_m1, Int32.lt_iff_toInt_lt, pk_sub_toInt (by omega) (by omega), nI_toInt (by omega)]
  omega
theorem z_wb {r P T j : Nat} {p : Nat → Nat} (hT : T ≤ 120) (hp : ∀ j, P ≤ j → j < T → p j ≤ 1000000) (hj : P ≤ j) : zWr r p T (T - j) ≤ 120000000 := by
  have := zWr_le (r := r) (M := 1000000) (p := p) (T := T) (T - j) (fun i a b => hp i (by omega) b) (by omega)
  omega
set_option maxHeartbeats 4000000 in
set_option maxRecDepth 100000 in
theorem c_worthAt (l : Launch) (g : zG) (h pa da rt lf T P : Nat) (R xI xP xW xG : Int64) (u v : Nat → Int32) (py : Nat → Nat) (rr : Nat) (hT : T ≤ 120) (hPT : P ≤ T) (hp : ∀ j, P ≤ j → j < T → py j ≤ 1000000) (hu : ∀ j, P ≤ j → j < T → u j = nI (py j)) (hrr : rr ≤ 20000) : zMl l yX0_worthAt wsX0_worthAt ({ frames := 1, cells := 0, slots := 0, locals := 24 } : Room) [.ref h, .int (nI rr)] g [(h, .inr (0, [.int (nI rt), .int (nI lf), .ref pa, .ref da, .int (nI T), .int (nI P), .long R, .long xI, .long xP, .long xW, .long xG])), (pa, .inl (g.2.1, 120, .inl u)), (da, .inl (g.2.1, 121, .inl v))] (fun q w => q = lN (zWr rr py T (T - P)) ∧ w = [(h, .inr (0, [.int (nI rt), .int (nI lf), .ref pa, .ref da, .int (nI T), .int (nI P), .long R, .long xI, .long xP, .long xW, .long xG])), (pa, .inl (g.2.1, 120, .inl u)), (da, .inl (g.2.1, 121, .inl v))]) 0 0 := by
  intro sz A hAe
  refine Met.ofW (cc := cX0_worthAt) (maxL := 5) (ret := some .long) (by decide) rfl ?_
  intro p e s m args below meth c s₁ B hml hv
  obtain ⟨rfl, hsz, hP, hK, hD0⟩ := hv
  have hx := B.exec
  have hb := B.bytes
  have hr := B.returns
  have hts := atoms_spec (ws := wsX0_worthAt) B.pre
  have hown : s.vm.findClass RX0 = some m.cls := findClass_of_methodNamed B.named
  have hlocks := B.notSynchronized
  obtain ⟨hD, hA, hS⟩ := z_in hsz hAe hD0
  have hl := lv_entry ([.ref h, .int (nI rr)]) (n := 5) (Nat.le_of_ble_eq_true rfl)
  rw [lg_entry_eq]
  generalize (lg_sl ([.ref h, .int (nI rr)]) ++ List.replicate (5 - (lg_sl ([.ref h, .int (nI rr)])).length) Slot.unset).toArray = ls at hl ⊢
  have hl : lv_has ls 5 [(0, .ref h), (1, .int (nI rr))] := hl
  have hinX0 : ∀ w ∈ wsX00, w ∈ wsX0_worthAt := by decide +kernel
  refine lv_lconst (v := lN 0) hx hb dX0_worthAt_0 rfl ?_
  refine zl (y := lN (zWr rr py T (T - T))) (by rw [Nat.sub_self]; rfl) ?_
  refine lv_lstore_n (lv' := [(2, .long (lN (zWr rr py T (T - T)))), (0, .ref h), (1, .int (nI rr))]) hx hb dX0_worthAt_1 rfl hl (by decide) rfl (fun ls hl => ?_)
  refine lv_aload_n hx hb dX0_worthAt_2 rfl (lv_at hl 1 rfl) ?_
  refine va_get (D := g.1) (ci := 0) (v := .int (nI T)) (C := RX0) (T := TX0) (N := 11) hx hb hts hinX0 hown hK hP 0 rfl rfl 4 (by decide) (hts (.fieldLink RX0 27 "Usewise$Lease" "term" "I") (by decide +kernel)) (fun _ h9 => h9) rfl dX0_worthAt_3 ?_
  refine lv_iconst (v := nI 1) hx hb dX0_worthAt_6 (by decide) ?_
  refine lv_isub hx hb dX0_worthAt_7 ?_
  refine zi (y := nI T + (-1)) (z_m1 T) ?_
  refine lv_istore (lv' := [(4, .int (nI T + (-1))), (2, .long (lN (zWr rr py T (T - T)))), (0, .ref h), (1, .int (nI rr))]) hx hb dX0_worthAt_8 hl (by decide) rfl (fun ls hl => ?_)
  have loop : ∀ (n : Nat) (k : Nat) (H : Heap) (locs : List Loc) (ls : Array Slot), k < n → P ≤ k → k ≤ T → va_P g.1 vwCl [(h, .inr (0, [.int (nI rt), .int (nI lf), .ref pa, .ref da, .int (nI T), .int (nI P), .long R, .long xI, .long xP, .long xW, .long xG])), (pa, .inl (g.2.1, 120, .inl u)), (da, .inl (g.2.1, 121, .inl v))] H → va_D A [(h, .inr (0, [.int (nI rt), .int (nI lf), .ref pa, .ref da, .int (nI T), .int (nI P), .long R, .long xI, .long xP, .long xW, .long xG])), (pa, .inl (g.2.1, 120, .inl u)), (da, .inl (g.2.1, 121, .inl v))] → va_S A s.heap H locs → lv_has ls 5 [(2, .long (lN (zWr rr py T (T - k)))), (4, .int (nI k + (-1))), (0, .ref h), (1, .int (nI rr))] → W p l e (headSpec wsX0_worthAt ({ frames := 1, cells := 0, slots := 0, locals := 24 } : Room)).room s m ([.ref h, .int (nI rr)] : List Value).toArray below meth c H locs 0 0 (MQ below (va_Ql (fun q w => q = lN (zWr rr py T (T - P)) ∧ w = [(h, .inr (0, [.int (nI rt), .int (nI lf), .ref pa, .ref da, .int (nI T), .int (nI P), .long R, .long xI, .long xP, .long xW, .long xG])), (pa, .inl (g.2.1, 120, .inl u)), (da, .inl (g.2.1, 121, .inl v))]) (zOut g A) A) ([.ref h, .int (nI rr)] : List Value).toArray s 0 0 A) (F0 m 10 ls []) := by
    intro n
    induction n with
    | zero =>
      intro k H locs ls hn hk1 hk2 hP hD hS hl
      omega
    | succ n ih =>
      intro k H locs ls hn hk1 hk2 hP hD hS hl
      refine lv_iload hx hb dX0_worthAt_10 (lv_at hl 1 rfl) ?_
      refine lv_aload_n hx hb dX0_worthAt_12 rfl (lv_at hl 2 rfl) ?_
      refine va_get (D := g.1) (ci := 0) (v := .int (nI P)) (C := RX0) (T := TX0) (N := 11) hx hb hts hinX0 hown hK hP 0 rfl rfl 5 (by decide) (hts (.fieldLink RX0 52 "Usewise$Lease" "past" "I") (by decide +kernel)) (fun _ h9 => h9) rfl dX0_worthAt_13 ?_
      refine lv_icmp_lt (tgt := 42) hx hb dX0_worthAt_16 (by decide) (fun hc => ?_) (fun hc => ?_)
      · have hk : k = P := by have := (z_dlt (by omega) (by omega)).mp hc; omega
        refine lv_lload_n hx hb dX0_worthAt_42 rfl (lv_at hl 0 rfl) ?_
        refine zl (y := lN (zWr rr py T (T - P))) (by rw [hk]) ?_
        exact z_lret hx hb hr hP hK hD hS dX0_worthAt_43 hlocks (⟨rfl, rfl⟩)
      · have hk : P < k := by have := mt (z_dlt (by omega) (by omega)).mpr hc; omega
        obtain ⟨j, rfl⟩ : ∃ j, k = j + 1 := ⟨k - 1, by omega⟩
        have hpj := hp j (by omega) (by omega)
        have hwj := z_wb (r := rr) (j := j + 1) hT hp (by omega)
        refine lv_lload_n hx hb dX0_worthAt_19 rfl (lv_at hl 0 rfl) ?_
        refine lv_aload_n hx hb dX0_worthAt_20 rfl (lv_at hl 2 rfl) ?_
        refine va_get (D := g.1) (ci := 0) (v := .ref pa) (C := RX0) (T := TX0) (N := 11) hx hb hts hinX0 hown hK hP 0 rfl rfl 2 (by decide) (hts (.fieldLink RX0 30 "Usewise$Lease" "payments" "[I") (by decide +kernel)) (fun _ h9 => h9) rfl dX0_worthAt_21 ?_
        refine lv_iload hx hb dX0_worthAt_24 (lv_at hl 1 rfl) ?_
        refine zi (y := nI j) (pk_m1 j) ?_
        refine z_ai (wa := [(h, .inr (0, [.int (nI rt), .int (nI lf), .ref pa, .ref da, .int (nI T), .int (nI P), .long R, .long xI, .long xP, .long xW, .long xG]))]) (wc := [(pa, .inl (g.2.1, 120, .inl u))]) (wb := [(da, .inl (g.2.1, 121, .inl v))]) (va_runS (As := [.ref pa, .int (nI j)]) (rest := [.long (lN (zWr rr py T (T - (j + 1))))]) ⟨hx, hb, hml, hown, hts⟩ (c_at l g pa 120 j u (by omega) (by decide) H.size _ rfl) (va_cwS 2 hts gX0_worthAt_X0_at rfl rfl rfl (by decide +kernel) ⟨Nat.le_of_ble_eq_true rfl, Nat.le_of_ble_eq_true rfl⟩) (zpreS (wa := [(h, .inr (0, [.int (nI rt), .int (nI lf), .ref pa, .ref da, .int (nI T), .int (nI P), .long R, .long xI, .long xP, .long xW, .long xG]))]) (wc := [(pa, .inl (g.2.1, 120, .inl u))]) (wb := [(da, .inl (g.2.1, 121, .inl v))]) hK hP hD) rfl rfl hl.1 rfl (lv_room (Nat.le_of_ble_eq_true rfl)) dX0_worthAt_26 ⟨Nat.le_of_ble_eq_true rfl, Nat.le_of_ble_eq_true rfl⟩) hP hD hS hA (fun r_1 w1 H locs hq hP hD hS => ?_)
        obtain ⟨rfl, rfl⟩ := hq
        have hP : va_P g.1 vwCl [(h, .inr (0, [.int (nI rt), .int (nI lf), .ref pa, .ref da, .int (nI T), .int (nI P), .long R, .long xI, .long xP, .long xW, .long xG])), (pa, .inl (g.2.1, 120, .inl u)), (da, .inl (g.2.1, 121, .inl v))] H := hP
        have hD : va_D A [(h, .inr (0, [.int (nI rt), .int (nI lf), .ref pa, .ref da, .int (nI T), .int (nI P), .long R, .long xI, .long xP, .long xW, .long xG])), (pa, .inl (g.2.1, 120, .inl u)), (da, .inl (g.2.1, 121, .inl v))] := hD
        refine zi (y := nI (py j)) (hu j (by omega) (by omega)) ?_
        refine z_i2l hx hb dX0_worthAt_29 (by omega) ?_
        refine z_ladd hx hb dX0_worthAt_30 ?_
        refine lv_iload_n hx hb dX0_worthAt_31 rfl (lv_at hl 3 rfl) ?_
        refine z_al (wa := [(h, .inr (0, [.int (nI rt), .int (nI lf), .ref pa, .ref da, .int (nI T), .int (nI P), .long R, .long xI, .long xP, .long xW, .long xG])), (pa, .inl (g.2.1, 120, .inl u)), (da, .inl (g.2.1, 121, .inl v))]) (wc := []) (wb := []) (va_runS (As := [.long (lN (zWr rr py T (T - (j + 1)) + (py j))), .int (nI rr)]) (rest := []) ⟨hx, hb, hml, hown, hts⟩ (c_worthBefore l g (zWr rr py T (T - (j + 1)) + py j) rr hrr (by omega) H.size _ rfl) (va_cwS 2 hts gX0_worthAt_X0_worthBefore rfl rfl rfl (by decide +kernel) ⟨Nat.le_of_ble_eq_true rfl, Nat.le_of_ble_eq_true rfl⟩) (zpreS (wa := [(h, .inr (0, [.int (nI rt), .int (nI lf), .ref pa, .ref da, .int (nI T), .int (nI P), .long R, .long xI, .long xP, .long xW, .long xG])), (pa, .inl (g.2.1, 120, .inl u)), (da, .inl (g.2.1, 121, .inl v))]) (wc := []) (wb := []) hK hP hD) rfl rfl hl.1 rfl (lv_room (Nat.le_of_ble_eq_true rfl)) dX0_worthAt_32 ⟨Nat.le_of_ble_eq_true rfl, Nat.le_of_ble_eq_true rfl⟩) hP hD hS hA (fun r_2 w1 H locs hq hP hD hS => ?_)
        obtain ⟨rfl, rfl⟩ := hq
        have hP : va_P g.1 vwCl [(h, .inr (0, [.int (nI rt), .int (nI lf), .ref pa, .ref da, .int (nI T), .int (nI P), .long R, .long xI, .long xP, .long xW, .long xG])), (pa, .inl (g.2.1, 120, .inl u)), (da, .inl (g.2.1, 121, .inl v))] H := hP
        have hD : va_D A [(h, .inr (0, [.int (nI rt), .int (nI lf), .ref pa, .ref da, .int (nI T), .int (nI P), .long R, .long xI, .long xP, .long xW, .long xG])), (pa, .inl (g.2.1, 120, .inl u)), (da, .inl (g.2.1, 121, .inl v))] := hD
        refine zl (y := lN (zWr rr py T (T - j))) (by rw [zWr_at rr py (by omega : j < T)]) ?_
        refine lv_lstore_n (lv' := [(2, .long (lN (zWr rr py T (T - j)))), (4, .int (nI (j + 1) + (-1))), (0, .ref h), (1, .int (nI rr))]) hx hb dX0_worthAt_35 rfl hl (by decide) rfl (fun ls hl => ?_)
        refine lv_iinc (v := nI j + (-1)) (lv' := [(4, .int (nI j + (-1))), (2, .long (lN (zWr rr py T (T - j)))), (0, .ref h), (1, .int (nI rr))]) hx hb dX0_worthAt_36 hl (k := 1) rfl (by rw [pk_m1 j]; rfl) (by decide) rfl (fun ls hl => ?_)
        refine lv_goto (tgt := 10) hx hb dX0_worthAt_39 (by decide) ?_
        exact ih j H _ _ (by omega) (by omega) (by omega) hP hD hS (lv_sub hl [1, 0, 2, 3] rfl)
  exact loop (T + 1) T _ _ _ (by omega) (by omega) (by omega) hP hD hS (lv_sub hl [1, 0, 2, 3] rfl)
end
section
/-! the class of a lease: debts laid, payments scaled -/
set_option maxHeartbeats 4000000 in
set_option maxRecDepth 100000 in
theorem c_layDebts (l : Launch) (g : zG) (h pa da rt lf T P : Nat) (R xI xP xW xG : Int64) (u v : Nat → Int32) (py : Nat → Nat) (hT : T ≤ 120) (hPT : P ≤ T) (hp : ∀ j, P ≤ j → j < T → py j ≤ 1000000) (hu : ∀ j, P ≤ j → j < T → u j = nI (py j)) (hrt : rt ≤ 20000) : zMv l yX0_layDebts wsX0_layDebts ({ frames := 1, cells := 0, slots := 0, locals := 24 } : Room) [.ref h] g [(h, .inr (0, [.int (nI rt), .int (nI lf), .ref pa, .ref da, .int (nI T), .int (nI P), .long R, .long xI, .long xP, .long xW, .long xG])), (pa, .inl (g.2.1, 120, .inl u)), (da, .inl (g.2.1, 121, .inl v))] (fun w => ∃ v' : Nat → Int32, w = [(h, .inr (0, [.int (nI rt), .int (nI lf), .ref pa, .ref da, .int (nI T), .int (nI P), .long R, .long xI, .long xP, .long xW, .long xG])), (pa, .inl (g.2.1, 120, .inl u)), (da, .inl (g.2.1, 121, .inl v'))] ∧ ∀ j, P ≤ j → j ≤ T → v' j = nI (zWr rt py T (T - j))) 0 0 := by
  intro sz A hAe
  refine Met.ofW (cc := cX0_layDebts) (maxL := 4) (ret := none) (by decide) rfl ?_
  intro p e s m args below meth c s₁ B hml hv
  obtain ⟨rfl, hsz, hP, hK, hD0⟩ := hv
  have hx := B.exec
  have hb := B.bytes
  have hr := B.returns
  have hts := atoms_spec (ws := wsX0_layDebts) B.pre
  have hown : s.vm.findClass RX0 = some m.cls := findClass_of_methodNamed B.named
  have hlocks := B.notSynchronized
  obtain ⟨hD, hA, hS⟩ := z_in hsz hAe hD0
  have hl := lv_entry ([.ref h]) (n := 4) (Nat.le_of_ble_eq_true rfl)
  rw [lg_entry_eq]
  generalize (lg_sl ([.ref h]) ++ List.replicate (4 - (lg_sl ([.ref h])).length) Slot.unset).toArray = ls at hl ⊢
  have hl : lv_has ls 4 [(0, .ref h)] := hl
  have hinX0 : ∀ w ∈ wsX00, w ∈ wsX0_layDebts := by decide +kernel
  refine lv_aload_n hx hb dX0_layDebts_0 rfl (lv_at hl 0 rfl) ?_
  refine va_get (D := g.1) (ci := 0) (v := .ref da) (C := RX0) (T := TX0) (N := 11) hx hb hts hinX0 hown hK hP 0 rfl rfl 3 (by decide) (hts (.fieldLink RX0 34 "Usewise$Lease" "debts" "[I") (by decide +kernel)) (fun _ h9 => h9) rfl dX0_layDebts_1 ?_
  refine lv_aload_n hx hb dX0_layDebts_4 rfl (lv_at hl 0 rfl) ?_
  refine va_get (D := g.1) (ci := 0) (v := .int (nI T)) (C := RX0) (T := TX0) (N := 11) hx hb hts hinX0 hown hK hP 0 rfl rfl 4 (by decide) (hts (.fieldLink RX0 27 "Usewise$Lease" "term" "I") (by decide +kernel)) (fun _ h9 => h9) rfl dX0_layDebts_5 ?_
  refine lv_iconst (v := nI 0) hx hb dX0_layDebts_8 (by decide) ?_
  refine z_av (wa := [(h, .inr (0, [.int (nI rt), .int (nI lf), .ref pa, .ref da, .int (nI T), .int (nI P), .long R, .long xI, .long xP, .long xW, .long xG])), (pa, .inl (g.2.1, 120, .inl u))]) (wc := [(da, .inl (g.2.1, 121, .inl v))]) (wb := []) (va_runS (As := [.ref da, .int (nI T), .int (nI 0)]) (rest := []) ⟨hx, hb, hml, hown, hts⟩ (c_put l g da 121 T (nI 0) v (by omega) (by decide) s.heap.size _ rfl) (va_cwS 3 hts gX0_layDebts_X0_put rfl rfl rfl (by decide +kernel) ⟨Nat.le_of_ble_eq_true rfl, Nat.le_of_ble_eq_true rfl⟩) (zpreS (wa := [(h, .inr (0, [.int (nI rt), .int (nI lf), .ref pa, .ref da, .int (nI T), .int (nI P), .long R, .long xI, .long xP, .long xW, .long xG])), (pa, .inl (g.2.1, 120, .inl u))]) (wc := [(da, .inl (g.2.1, 121, .inl v))]) (wb := []) hK hP hD) rfl rfl hl.1 rfl (lv_room (Nat.le_of_ble_eq_true rfl)) dX0_layDebts_9 ⟨Nat.le_of_ble_eq_true rfl, Nat.le_of_ble_eq_true rfl⟩) hP hD hS hA (fun w1 H locs hq hP hD hS => ?_)
  obtain rfl := hq
  have hP : va_P g.1 vwCl [(h, .inr (0, [.int (nI rt), .int (nI lf), .ref pa, .ref da, .int (nI T), .int (nI P), .long R, .long xI, .long xP, .long xW, .long xG])), (pa, .inl (g.2.1, 120, .inl u)), (da, .inl (g.2.1, 121, .inl (upd v T (nI 0))))] H := hP
  have hD : va_D A [(h, .inr (0, [.int (nI rt), .int (nI lf), .ref pa, .ref da, .int (nI T), .int (nI P), .long R, .long xI, .long xP, .long xW, .long xG])), (pa, .inl (g.2.1, 120, .inl u)), (da, .inl (g.2.1, 121, .inl (upd v T (nI 0))))] := hD
  refine lv_aload_n hx hb dX0_layDebts_12 rfl (lv_at hl 0 rfl) ?_
  refine va_get (D := g.1) (ci := 0) (v := .int (nI T)) (C := RX0) (T := TX0) (N := 11) hx hb hts hinX0 hown hK hP 0 rfl rfl 4 (by decide) (hts (.fieldLink RX0 27 "Usewise$Lease" "term" "I") (by decide +kernel)) (fun _ h9 => h9) rfl dX0_layDebts_13 ?_
  refine lv_iconst (v := nI 1) hx hb dX0_layDebts_16 (by decide) ?_
  refine lv_isub hx hb dX0_layDebts_17 ?_
  refine zi (y := nI T + (-1)) (z_m1 T) ?_
  refine lv_istore_n (lv' := [(1, .int (nI T + (-1))), (0, .ref h)]) hx hb dX0_layDebts_18 rfl hl (by decide) rfl (fun ls hl => ?_)
  have loop : ∀ (n : Nat) (k : Nat) (v2 : Nat → Int32) (H : Heap) (locs : List Loc) (ls : Array Slot), k < n → P ≤ k → k ≤ T → (∀ j, k ≤ j → j ≤ T → v2 j = nI (zWr rt py T (T - j))) → va_P g.1 vwCl [(h, .inr (0, [.int (nI rt), .int (nI lf), .ref pa, .ref da, .int (nI T), .int (nI P), .long R, .long xI, .long xP, .long xW, .long xG])), (pa, .inl (g.2.1, 120, .inl u)), (da, .inl (g.2.1, 121, .inl v2))] H → va_D A [(h, .inr (0, [.int (nI rt), .int (nI lf), .ref pa, .ref da, .int (nI T), .int (nI P), .long R, .long xI, .long xP, .long xW, .long xG])), (pa, .inl (g.2.1, 120, .inl u)), (da, .inl (g.2.1, 121, .inl v2))] → va_S A s.heap H locs → lv_has ls 4 [(1, .int (nI k + (-1))), (0, .ref h)] → W p l e (headSpec wsX0_layDebts ({ frames := 1, cells := 0, slots := 0, locals := 24 } : Room)).room s m ([.ref h] : List Value).toArray below meth c H locs 0 0 (MQ below (va_Qv (fun w => ∃ v' : Nat → Int32, w = [(h, .inr (0, [.int (nI rt), .int (nI lf), .ref pa, .ref da, .int (nI T), .int (nI P), .long R, .long xI, .long xP, .long xW, .long xG])), (pa, .inl (g.2.1, 120, .inl u)), (da, .inl (g.2.1, 121, .inl v'))] ∧ ∀ j, P ≤ j → j ≤ T → v' j = nI (zWr rt py T (T - j))) (zOut g A) A) ([.ref h] : List Value).toArray s 0 0 A) (F0 m 19 ls []) := by
    intro n
    induction n with
    | zero =>
      intro k v2 H locs ls hn hk1 hk2 hv hP hD hS hl
      omega
    | succ n ih =>
      intro k v2 H locs ls hn hk1 hk2 hv hP hD hS hl
      refine lv_iload_n hx hb dX0_layDebts_19 rfl (lv_at hl 0 rfl) ?_
      refine lv_aload_n hx hb dX0_layDebts_20 rfl (lv_at hl 1 rfl) ?_
      refine va_get (D := g.1) (ci := 0) (v := .int (nI P)) (C := RX0) (T := TX0) (N := 11) hx hb hts hinX0 hown hK hP 0 rfl rfl 5 (by decide) (hts (.fieldLink RX0 52 "Usewise$Lease" "past" "I") (by decide +kernel)) (fun _ h9 => h9) rfl dX0_layDebts_21 ?_
      refine lv_icmp_lt (tgt := 72) hx hb dX0_layDebts_24 (by decide) (fun hc => ?_) (fun hc => ?_)
      · have hk : k = P := by have := (z_dlt (by omega) (by omega)).mp hc; omega
        subst hk
        exact z_vret hx hb hr hP hK hD hS dX0_layDebts_72 hlocks (⟨v2, rfl, hv⟩)
      · have hk : P < k := by have := mt (z_dlt (by omega) (by omega)).mpr hc; omega
        obtain ⟨j, rfl⟩ : ∃ j, k = j + 1 := ⟨k - 1, by omega⟩
        have hpj := hp j (by omega) (by omega)
        have hwj := z_wb (r := rt) (j := j + 1) hT hp (by omega)
        refine lv_aload_n hx hb dX0_layDebts_27 rfl (lv_at hl 1 rfl) ?_
        refine va_get (D := g.1) (ci := 0) (v := .ref da) (C := RX0) (T := TX0) (N := 11) hx hb hts hinX0 hown hK hP 0 rfl rfl 3 (by decide) (hts (.fieldLink RX0 34 "Usewise$Lease" "debts" "[I") (by decide +kernel)) (fun _ h9 => h9) rfl dX0_layDebts_28 ?_
        refine lv_iload_n hx hb dX0_layDebts_31 rfl (lv_at hl 0 rfl) ?_
        refine zi (y := nI j) (pk_m1 j) ?_
        refine lv_iconst (v := nI 1) hx hb dX0_layDebts_32 (by decide) ?_
        refine z_iadd hx hb dX0_layDebts_33 ?_
        refine z_ai (wa := [(h, .inr (0, [.int (nI rt), .int (nI lf), .ref pa, .ref da, .int (nI T), .int (nI P), .long R, .long xI, .long xP, .long xW, .long xG])), (pa, .inl (g.2.1, 120, .inl u))]) (wc := [(da, .inl (g.2.1, 121, .inl v2))]) (wb := []) (va_runS (As := [.ref da, .int (nI (j + 1))]) (rest := []) ⟨hx, hb, hml, hown, hts⟩ (c_at l g da 121 (j + 1) v2 (by omega) (by decide) H.size _ rfl) (va_cwS 2 hts gX0_layDebts_X0_at rfl rfl rfl (by decide +kernel) ⟨Nat.le_of_ble_eq_true rfl, Nat.le_of_ble_eq_true rfl⟩) (zpreS (wa := [(h, .inr (0, [.int (nI rt), .int (nI lf), .ref pa, .ref da, .int (nI T), .int (nI P), .long R, .long xI, .long xP, .long xW, .long xG])), (pa, .inl (g.2.1, 120, .inl u))]) (wc := [(da, .inl (g.2.1, 121, .inl v2))]) (wb := []) hK hP hD) rfl rfl hl.1 rfl (lv_room (Nat.le_of_ble_eq_true rfl)) dX0_layDebts_34 ⟨Nat.le_of_ble_eq_true rfl, Nat.le_of_ble_eq_true rfl⟩) hP hD hS hA (fun r_2 w1 H locs hq hP hD hS => ?_)
        obtain ⟨rfl, rfl⟩ := hq
        have hP : va_P g.1 vwCl [(h, .inr (0, [.int (nI rt), .int (nI lf), .ref pa, .ref da, .int (nI T), .int (nI P), .long R, .long xI, .long xP, .long xW, .long xG])), (pa, .inl (g.2.1, 120, .inl u)), (da, .inl (g.2.1, 121, .inl v2))] H := hP
        have hD : va_D A [(h, .inr (0, [.int (nI rt), .int (nI lf), .ref pa, .ref da, .int (nI T), .int (nI P), .long R, .long xI, .long xP, .long xW, .long xG])), (pa, .inl (g.2.1, 120, .inl u)), (da, .inl (g.2.1, 121, .inl v2))] := hD
        refine zi (y := nI (zWr rt py T (T - (j + 1)))) (hv (j + 1) (by omega) (by omega)) ?_
        refine z_i2l hx hb dX0_layDebts_37 (by omega) ?_
        refine lv_aload_n hx hb dX0_layDebts_38 rfl (lv_at hl 1 rfl) ?_
        refine va_get (D := g.1) (ci := 0) (v := .ref pa) (C := RX0) (T := TX0) (N := 11) hx hb hts hinX0 hown hK hP 0 rfl rfl 2 (by decide) (hts (.fieldLink RX0 30 "Usewise$Lease" "payments" "[I") (by decide +kernel)) (fun _ h9 => h9) rfl dX0_layDebts_39 ?_
        refine lv_iload_n hx hb dX0_layDebts_42 rfl (lv_at hl 0 rfl) ?_
        refine zi (y := nI j) (pk_m1 j) ?_
        refine z_ai (wa := [(h, .inr (0, [.int (nI rt), .int (nI lf), .ref pa, .ref da, .int (nI T), .int (nI P), .long R, .long xI, .long xP, .long xW, .long xG]))]) (wc := [(pa, .inl (g.2.1, 120, .inl u))]) (wb := [(da, .inl (g.2.1, 121, .inl v2))]) (va_runS (As := [.ref pa, .int (nI j)]) (rest := [.long (lN (zWr rt py T (T - (j + 1))))]) ⟨hx, hb, hml, hown, hts⟩ (c_at l g pa 120 j u (by omega) (by decide) H.size _ rfl) (va_cwS 2 hts gX0_layDebts_X0_at rfl rfl rfl (by decide +kernel) ⟨Nat.le_of_ble_eq_true rfl, Nat.le_of_ble_eq_true rfl⟩) (zpreS (wa := [(h, .inr (0, [.int (nI rt), .int (nI lf), .ref pa, .ref da, .int (nI T), .int (nI P), .long R, .long xI, .long xP, .long xW, .long xG]))]) (wc := [(pa, .inl (g.2.1, 120, .inl u))]) (wb := [(da, .inl (g.2.1, 121, .inl v2))]) hK hP hD) rfl rfl hl.1 rfl (lv_room (Nat.le_of_ble_eq_true rfl)) dX0_layDebts_43 ⟨Nat.le_of_ble_eq_true rfl, Nat.le_of_ble_eq_true rfl⟩) hP hD hS hA (fun r_3 w1 H locs hq hP hD hS => ?_)
        obtain ⟨rfl, rfl⟩ := hq
        have hP : va_P g.1 vwCl [(h, .inr (0, [.int (nI rt), .int (nI lf), .ref pa, .ref da, .int (nI T), .int (nI P), .long R, .long xI, .long xP, .long xW, .long xG])), (pa, .inl (g.2.1, 120, .inl u)), (da, .inl (g.2.1, 121, .inl v2))] H := hP
        have hD : va_D A [(h, .inr (0, [.int (nI rt), .int (nI lf), .ref pa, .ref da, .int (nI T), .int (nI P), .long R, .long xI, .long xP, .long xW, .long xG])), (pa, .inl (g.2.1, 120, .inl u)), (da, .inl (g.2.1, 121, .inl v2))] := hD
        refine zi (y := nI (py j)) (hu j (by omega) (by omega)) ?_
        refine z_i2l hx hb dX0_layDebts_46 (by omega) ?_
        refine z_ladd hx hb dX0_layDebts_47 ?_
        refine lv_lstore_n (lv' := [(2, .long (lN (zWr rt py T (T - (j + 1)) + (py j)))), (1, .int (nI (j + 1) + (-1))), (0, .ref h)]) hx hb dX0_layDebts_48 rfl hl (by decide) rfl (fun ls hl => ?_)
        refine lv_aload_n hx hb dX0_layDebts_49 rfl (lv_at hl 2 rfl) ?_
        refine va_get (D := g.1) (ci := 0) (v := .ref da) (C := RX0) (T := TX0) (N := 11) hx hb hts hinX0 hown hK hP 0 rfl rfl 3 (by decide) (hts (.fieldLink RX0 34 "Usewise$Lease" "debts" "[I") (by decide +kernel)) (fun _ h9 => h9) rfl dX0_layDebts_50 ?_
        refine lv_iload_n hx hb dX0_layDebts_53 rfl (lv_at hl 1 rfl) ?_
        refine zi (y := nI j) (pk_m1 j) ?_
        refine lv_lload_n hx hb dX0_layDebts_54 rfl (lv_at hl 0 rfl) ?_
        refine lv_aload_n hx hb dX0_layDebts_55 rfl (lv_at hl 2 rfl) ?_
        refine va_get (D := g.1) (ci := 0) (v := .int (nI rt)) (C := RX0) (T := TX0) (N := 11) hx hb hts hinX0 hown hK hP 0 rfl rfl 0 (by decide) (hts (.fieldLink RX0 9 "Usewise$Lease" "rate" "I") (by decide +kernel)) (fun _ h9 => h9) rfl dX0_layDebts_56 ?_
        refine z_al (wa := [(h, .inr (0, [.int (nI rt), .int (nI lf), .ref pa, .ref da, .int (nI T), .int (nI P), .long R, .long xI, .long xP, .long xW, .long xG])), (pa, .inl (g.2.1, 120, .inl u)), (da, .inl (g.2.1, 121, .inl v2))]) (wc := []) (wb := []) (va_runS (As := [.long (lN (zWr rt py T (T - (j + 1)) + (py j))), .int (nI rt)]) (rest := [.int (nI j), .ref da]) ⟨hx, hb, hml, hown, hts⟩ (c_worthBefore l g (zWr rt py T (T - (j + 1)) + py j) rt hrt (by omega) H.size _ rfl) (va_cwS 2 hts gX0_layDebts_X0_worthBefore rfl rfl rfl (by decide +kernel) ⟨Nat.le_of_ble_eq_true rfl, Nat.le_of_ble_eq_true rfl⟩) (zpreS (wa := [(h, .inr (0, [.int (nI rt), .int (nI lf), .ref pa, .ref da, .int (nI T), .int (nI P), .long R, .long xI, .long xP, .long xW, .long xG])), (pa, .inl (g.2.1, 120, .inl u)), (da, .inl (g.2.1, 121, .inl v2))]) (wc := []) (wb := []) hK hP hD) rfl rfl hl.1 rfl (lv_room (Nat.le_of_ble_eq_true rfl)) dX0_layDebts_59 ⟨Nat.le_of_ble_eq_true rfl, Nat.le_of_ble_eq_true rfl⟩) hP hD hS hA (fun r_4 w1 H locs hq hP hD hS => ?_)
        obtain ⟨rfl, rfl⟩ := hq
        have hP : va_P g.1 vwCl [(h, .inr (0, [.int (nI rt), .int (nI lf), .ref pa, .ref da, .int (nI T), .int (nI P), .long R, .long xI, .long xP, .long xW, .long xG])), (pa, .inl (g.2.1, 120, .inl u)), (da, .inl (g.2.1, 121, .inl v2))] H := hP
        have hD : va_D A [(h, .inr (0, [.int (nI rt), .int (nI lf), .ref pa, .ref da, .int (nI T), .int (nI P), .long R, .long xI, .long xP, .long xW, .long xG])), (pa, .inl (g.2.1, 120, .inl u)), (da, .inl (g.2.1, 121, .inl v2))] := hD
        refine zl (y := lN (zWr rt py T (T - j))) (by rw [zWr_at rt py (by omega : j < T)]) ?_
        refine z_l2i hx hb dX0_layDebts_62 ?_
        refine z_av (wa := [(h, .inr (0, [.int (nI rt), .int (nI lf), .ref pa, .ref da, .int (nI T), .int (nI P), .long R, .long xI, .long xP, .long xW, .long xG])), (pa, .inl (g.2.1, 120, .inl u))]) (wc := [(da, .inl (g.2.1, 121, .inl v2))]) (wb := []) (va_runS (As := [.ref da, .int (nI j), .int (nI (zWr rt py T (T - j)))]) (rest := []) ⟨hx, hb, hml, hown, hts⟩ (c_put l g da 121 j (nI (zWr rt py T (T - j))) v2 (by omega) (by decide) H.size _ rfl) (va_cwS 3 hts gX0_layDebts_X0_put rfl rfl rfl (by decide +kernel) ⟨Nat.le_of_ble_eq_true rfl, Nat.le_of_ble_eq_true rfl⟩) (zpreS (wa := [(h, .inr (0, [.int (nI rt), .int (nI lf), .ref pa, .ref da, .int (nI T), .int (nI P), .long R, .long xI, .long xP, .long xW, .long xG])), (pa, .inl (g.2.1, 120, .inl u))]) (wc := [(da, .inl (g.2.1, 121, .inl v2))]) (wb := []) hK hP hD) rfl rfl hl.1 rfl (lv_room (Nat.le_of_ble_eq_true rfl)) dX0_layDebts_63 ⟨Nat.le_of_ble_eq_true rfl, Nat.le_of_ble_eq_true rfl⟩) hP hD hS hA (fun w1 H locs hq hP hD hS => ?_)
        obtain rfl := hq
        have hP : va_P g.1 vwCl [(h, .inr (0, [.int (nI rt), .int (nI lf), .ref pa, .ref da, .int (nI T), .int (nI P), .long R, .long xI, .long xP, .long xW, .long xG])), (pa, .inl (g.2.1, 120, .inl u)), (da, .inl (g.2.1, 121, .inl (upd v2 j (nI (zWr rt py T (T - j))))))] H := hP
        have hD : va_D A [(h, .inr (0, [.int (nI rt), .int (nI lf), .ref pa, .ref da, .int (nI T), .int (nI P), .long R, .long xI, .long xP, .long xW, .long xG])), (pa, .inl (g.2.1, 120, .inl u)), (da, .inl (g.2.1, 121, .inl (upd v2 j (nI (zWr rt py T (T - j))))))] := hD
        refine lv_iinc (v := nI j + (-1)) (lv' := [(1, .int (nI j + (-1))), (2, .long (lN (zWr rt py T (T - (j + 1)) + (py j)))), (0, .ref h)]) hx hb dX0_layDebts_66 hl (k := 1) rfl (by rw [pk_m1 j]; rfl) (by decide) rfl (fun ls hl => ?_)
        refine lv_goto (tgt := 19) hx hb dX0_layDebts_69 (by decide) ?_
        exact ih j (upd v2 j (nI (zWr rt py T (T - j)))) H _ _ (by omega) (by omega) (by omega) (fun i h1 h2 => if hi : i = j then (by rw [hi, z_upd_s]) else (by rw [z_upd_n _ _ hi]; exact hv i (by omega) h2)) hP hD hS (lv_sub hl [0, 2] rfl)
  exact loop (T + 1) T _ H _ _ (by omega) (by omega) (by omega) (fun j h1 h2 => (by rw [Nat.le_antisymm h2 h1, z_upd_s, Nat.sub_self]; rfl)) hP hD hS (lv_sub hl [0, 1] rfl)

set_option maxHeartbeats 4000000 in
set_option maxRecDepth 100000 in
theorem c_scalePayments (l : Launch) (g : zG) (h pa da rt lf T P : Nat) (R xI xP xW xG : Int64) (u v : Nat → Int32) (py : Nat → Nat) (a0 : Nat) (hT : T ≤ 120) (hPT : P ≤ T) (hp : ∀ j, P ≤ j → j < T → py j ≤ 1000000) (hu : ∀ j, P ≤ j → j < T → u j = nI (py j)) (ha0 : a0 ≤ 200) : zMv l yX0_scalePayments wsX0_scalePayments ({ frames := 1, cells := 0, slots := 0, locals := 22 } : Room) [.ref h, .int (nI a0)] g [(h, .inr (0, [.int (nI rt), .int (nI lf), .ref pa, .ref da, .int (nI T), .int (nI P), .long R, .long xI, .long xP, .long xW, .long xG])), (pa, .inl (g.2.1, 120, .inl u)), (da, .inl (g.2.1, 121, .inl v))] (fun w => ∃ u' : Nat → Int32, w = [(h, .inr (0, [.int (nI rt), .int (nI lf), .ref pa, .ref da, .int (nI T), .int (nI P), .long R, .long xI, .long xP, .long xW, .long xG])), (pa, .inl (g.2.1, 120, .inl u')), (da, .inl (g.2.1, 121, .inl v))] ∧ ∀ j, P ≤ j → j < T → u' j = nI (zSc a0 py j)) 0 0 := by
  intro sz A hAe
  refine Met.ofW (cc := cX0_scalePayments) (maxL := 3) (ret := none) (by decide) rfl ?_
  intro p e s m args below meth c s₁ B hml hv
  obtain ⟨rfl, hsz, hP, hK, hD0⟩ := hv
  have hx := B.exec
  have hb := B.bytes
  have hr := B.returns
  have hts := atoms_spec (ws := wsX0_scalePayments) B.pre
  have hown : s.vm.findClass RX0 = some m.cls := findClass_of_methodNamed B.named
  have hlocks := B.notSynchronized
  obtain ⟨hD, hA, hS⟩ := z_in hsz hAe hD0
  have hl := lv_entry ([.ref h, .int (nI a0)]) (n := 3) (Nat.le_of_ble_eq_true rfl)
  rw [lg_entry_eq]
  generalize (lg_sl ([.ref h, .int (nI a0)]) ++ List.replicate (3 - (lg_sl ([.ref h, .int (nI a0)])).length) Slot.unset).toArray = ls at hl ⊢
  have hl : lv_has ls 3 [(0, .ref h), (1, .int (nI a0))] := hl
  have hinX0 : ∀ w ∈ wsX00, w ∈ wsX0_scalePayments := by decide +kernel
  refine lv_aload_n hx hb dX0_scalePayments_0 rfl (lv_at hl 0 rfl) ?_
  refine va_get (D := g.1) (ci := 0) (v := .int (nI P)) (C := RX0) (T := TX0) (N := 11) hx hb hts hinX0 hown hK hP 0 rfl rfl 5 (by decide) (hts (.fieldLink RX0 52 "Usewise$Lease" "past" "I") (by decide +kernel)) (fun _ h9 => h9) rfl dX0_scalePayments_1 ?_
  refine lv_istore_n (lv' := [(2, .int (nI P)), (0, .ref h), (1, .int (nI a0))]) hx hb dX0_scalePayments_4 rfl hl (by decide) rfl (fun ls hl => ?_)
  have loop : ∀ (n : Nat) (k : Nat) (u2 : Nat → Int32) (H : Heap) (locs : List Loc) (ls : Array Slot), T < k + n → P ≤ k → k ≤ T → (∀ j, P ≤ j → j < k → u2 j = nI (zSc a0 py j)) → (∀ j, k ≤ j → j < T → u2 j = nI (py j)) → va_P g.1 vwCl [(h, .inr (0, [.int (nI rt), .int (nI lf), .ref pa, .ref da, .int (nI T), .int (nI P), .long R, .long xI, .long xP, .long xW, .long xG])), (pa, .inl (g.2.1, 120, .inl u2)), (da, .inl (g.2.1, 121, .inl v))] H → va_D A [(h, .inr (0, [.int (nI rt), .int (nI lf), .ref pa, .ref da, .int (nI T), .int (nI P), .long R, .long xI, .long xP, .long xW, .long xG])), (pa, .inl (g.2.1, 120, .inl u2)), (da, .inl (g.2.1, 121, .inl v))] → va_S A s.heap H locs → lv_has ls 3 [(2, .int (nI k)), (0, .ref h), (1, .int (nI a0))] → W p l e (headSpec wsX0_scalePayments ({ frames := 1, cells := 0, slots := 0, locals := 22 } : Room)).room s m ([.ref h, .int (nI a0)] : List Value).toArray below meth c H locs 0 0 (MQ below (va_Qv (fun w => ∃ u' : Nat → Int32, w = [(h, .inr (0, [.int (nI rt), .int (nI lf), .ref pa, .ref da, .int (nI T), .int (nI P), .long R, .long xI, .long xP, .long xW, .long xG])), (pa, .inl (g.2.1, 120, .inl u')), (da, .inl (g.2.1, 121, .inl v))] ∧ ∀ j, P ≤ j → j < T → u' j = nI (zSc a0 py j)) (zOut g A) A) ([.ref h, .int (nI a0)] : List Value).toArray s 0 0 A) (F0 m 5 ls []) := by
    intro n
    induction n with
    | zero =>
      intro k u2 H locs ls hn hk1 hk2 hv1 hv2 hP hD hS hl
      omega
    | succ n ih =>
      intro k u2 H locs ls hn hk1 hk2 hv1 hv2 hP hD hS hl
      refine lv_iload_n hx hb dX0_scalePayments_5 rfl (lv_at hl 0 rfl) ?_
      refine lv_aload_n hx hb dX0_scalePayments_6 rfl (lv_at hl 1 rfl) ?_
      refine va_get (D := g.1) (ci := 0) (v := .int (nI T)) (C := RX0) (T := TX0) (N := 11) hx hb hts hinX0 hown hK hP 0 rfl rfl 4 (by decide) (hts (.fieldLink RX0 27 "Usewise$Lease" "term" "I") (by decide +kernel)) (fun _ h9 => h9) rfl dX0_scalePayments_7 ?_
      refine z_icmp_ge (tgt := 41) hx hb dX0_scalePayments_10 (by decide) (by omega) (by omega) (fun hc => ?_) (fun hc => ?_)
      · exact z_vret hx hb hr hP hK hD hS dX0_scalePayments_41 hlocks (⟨u2, rfl, fun j h1 h2 => hv1 j h1 (by omega)⟩)
      · have hpj := hp k (by omega) (by omega)
        refine lv_aload_n hx hb dX0_scalePayments_13 rfl (lv_at hl 1 rfl) ?_
        refine va_get (D := g.1) (ci := 0) (v := .ref pa) (C := RX0) (T := TX0) (N := 11) hx hb hts hinX0 hown hK hP 0 rfl rfl 2 (by decide) (hts (.fieldLink RX0 30 "Usewise$Lease" "payments" "[I") (by decide +kernel)) (fun _ h9 => h9) rfl dX0_scalePayments_14 ?_
        refine lv_iload_n hx hb dX0_scalePayments_17 rfl (lv_at hl 0 rfl) ?_
        refine lv_aload_n hx hb dX0_scalePayments_18 rfl (lv_at hl 1 rfl) ?_
        refine va_get (D := g.1) (ci := 0) (v := .ref pa) (C := RX0) (T := TX0) (N := 11) hx hb hts hinX0 hown hK hP 0 rfl rfl 2 (by decide) (hts (.fieldLink RX0 30 "Usewise$Lease" "payments" "[I") (by decide +kernel)) (fun _ h9 => h9) rfl dX0_scalePayments_19 ?_
        refine lv_iload_n hx hb dX0_scalePayments_22 rfl (lv_at hl 0 rfl) ?_
        refine z_ai (wa := [(h, .inr (0, [.int (nI rt), .int (nI lf), .ref pa, .ref da, .int (nI T), .int (nI P), .long R, .long xI, .long xP, .long xW, .long xG]))]) (wc := [(pa, .inl (g.2.1, 120, .inl u2))]) (wb := [(da, .inl (g.2.1, 121, .inl v))]) (va_runS (As := [.ref pa, .int (nI k)]) (rest := [.int (nI k), .ref pa]) ⟨hx, hb, hml, hown, hts⟩ (c_at l g pa 120 k u2 (by omega) (by decide) H.size _ rfl) (va_cwS 2 hts gX0_scalePayments_X0_at rfl rfl rfl (by decide +kernel) ⟨Nat.le_of_ble_eq_true rfl, Nat.le_of_ble_eq_true rfl⟩) (zpreS (wa := [(h, .inr (0, [.int (nI rt), .int (nI lf), .ref pa, .ref da, .int (nI T), .int (nI P), .long R, .long xI, .long xP, .long xW, .long xG]))]) (wc := [(pa, .inl (g.2.1, 120, .inl u2))]) (wb := [(da, .inl (g.2.1, 121, .inl v))]) hK hP hD) rfl rfl hl.1 rfl (lv_room (Nat.le_of_ble_eq_true rfl)) dX0_scalePayments_23 ⟨Nat.le_of_ble_eq_true rfl, Nat.le_of_ble_eq_true rfl⟩) hP hD hS hA (fun r_1 w1 H locs hq hP hD hS => ?_)
        obtain ⟨rfl, rfl⟩ := hq
        have hP : va_P g.1 vwCl [(h, .inr (0, [.int (nI rt), .int (nI lf), .ref pa, .ref da, .int (nI T), .int (nI P), .long R, .long xI, .long xP, .long xW, .long xG])), (pa, .inl (g.2.1, 120, .inl u2)), (da, .inl (g.2.1, 121, .inl v))] H := hP
        have hD : va_D A [(h, .inr (0, [.int (nI rt), .int (nI lf), .ref pa, .ref da, .int (nI T), .int (nI P), .long R, .long xI, .long xP, .long xW, .long xG])), (pa, .inl (g.2.1, 120, .inl u2)), (da, .inl (g.2.1, 121, .inl v))] := hD
        refine zi (y := nI (py k)) (hv2 k (by omega) (by omega)) ?_
        refine z_i2l hx hb dX0_scalePayments_26 (by omega) ?_
        refine lv_iload_n hx hb dX0_scalePayments_27 rfl (lv_at hl 2 rfl) ?_
        refine z_al (wa := [(h, .inr (0, [.int (nI rt), .int (nI lf), .ref pa, .ref da, .int (nI T), .int (nI P), .long R, .long xI, .long xP, .long xW, .long xG])), (pa, .inl (g.2.1, 120, .inl u2)), (da, .inl (g.2.1, 121, .inl v))]) (wc := []) (wb := []) (va_runS (As := [.long (lN (py k)), .int (nI a0)]) (rest := [.int (nI k), .ref pa]) ⟨hx, hb, hml, hown, hts⟩ (c_percentOf l g (py k) a0 ha0 (by omega) H.size _ rfl) (va_cwS 2 hts gX0_scalePayments_X0_percentOf rfl rfl rfl (by decide +kernel) ⟨Nat.le_of_ble_eq_true rfl, Nat.le_of_ble_eq_true rfl⟩) (zpreS (wa := [(h, .inr (0, [.int (nI rt), .int (nI lf), .ref pa, .ref da, .int (nI T), .int (nI P), .long R, .long xI, .long xP, .long xW, .long xG])), (pa, .inl (g.2.1, 120, .inl u2)), (da, .inl (g.2.1, 121, .inl v))]) (wc := []) (wb := []) hK hP hD) rfl rfl hl.1 rfl (lv_room (Nat.le_of_ble_eq_true rfl)) dX0_scalePayments_28 ⟨Nat.le_of_ble_eq_true rfl, Nat.le_of_ble_eq_true rfl⟩) hP hD hS hA (fun r_2 w1 H locs hq hP hD hS => ?_)
        obtain ⟨rfl, rfl⟩ := hq
        have hP : va_P g.1 vwCl [(h, .inr (0, [.int (nI rt), .int (nI lf), .ref pa, .ref da, .int (nI T), .int (nI P), .long R, .long xI, .long xP, .long xW, .long xG])), (pa, .inl (g.2.1, 120, .inl u2)), (da, .inl (g.2.1, 121, .inl v))] H := hP
        have hD : va_D A [(h, .inr (0, [.int (nI rt), .int (nI lf), .ref pa, .ref da, .int (nI T), .int (nI P), .long R, .long xI, .long xP, .long xW, .long xG])), (pa, .inl (g.2.1, 120, .inl u2)), (da, .inl (g.2.1, 121, .inl v))] := hD
        refine z_l2i hx hb dX0_scalePayments_31 ?_
        refine z_av (wa := [(h, .inr (0, [.int (nI rt), .int (nI lf), .ref pa, .ref da, .int (nI T), .int (nI P), .long R, .long xI, .long xP, .long xW, .long xG]))]) (wc := [(pa, .inl (g.2.1, 120, .inl u2))]) (wb := [(da, .inl (g.2.1, 121, .inl v))]) (va_runS (As := [.ref pa, .int (nI k), .int (nI (py k * a0 / 100))]) (rest := []) ⟨hx, hb, hml, hown, hts⟩ (c_put l g pa 120 k (nI (py k * a0 / 100)) u2 (by omega) (by decide) H.size _ rfl) (va_cwS 3 hts gX0_scalePayments_X0_put rfl rfl rfl (by decide +kernel) ⟨Nat.le_of_ble_eq_true rfl, Nat.le_of_ble_eq_true rfl⟩) (zpreS (wa := [(h, .inr (0, [.int (nI rt), .int (nI lf), .ref pa, .ref da, .int (nI T), .int (nI P), .long R, .long xI, .long xP, .long xW, .long xG]))]) (wc := [(pa, .inl (g.2.1, 120, .inl u2))]) (wb := [(da, .inl (g.2.1, 121, .inl v))]) hK hP hD) rfl rfl hl.1 rfl (lv_room (Nat.le_of_ble_eq_true rfl)) dX0_scalePayments_32 ⟨Nat.le_of_ble_eq_true rfl, Nat.le_of_ble_eq_true rfl⟩) hP hD hS hA (fun w1 H locs hq hP hD hS => ?_)
        obtain rfl := hq
        have hP : va_P g.1 vwCl [(h, .inr (0, [.int (nI rt), .int (nI lf), .ref pa, .ref da, .int (nI T), .int (nI P), .long R, .long xI, .long xP, .long xW, .long xG])), (pa, .inl (g.2.1, 120, .inl (upd u2 k (nI (py k * a0 / 100))))), (da, .inl (g.2.1, 121, .inl v))] H := hP
        have hD : va_D A [(h, .inr (0, [.int (nI rt), .int (nI lf), .ref pa, .ref da, .int (nI T), .int (nI P), .long R, .long xI, .long xP, .long xW, .long xG])), (pa, .inl (g.2.1, 120, .inl (upd u2 k (nI (py k * a0 / 100))))), (da, .inl (g.2.1, 121, .inl v))] := hD
        refine z_iinc (lv' := [(2, .int (nI (k + 1))), (0, .ref h), (1, .int (nI a0))]) hx hb dX0_scalePayments_35 hl (k := 0) rfl (by decide) rfl (fun ls hl => ?_)
        refine lv_goto (tgt := 5) hx hb dX0_scalePayments_38 (by decide) ?_
        exact ih (k + 1) (upd u2 k (nI (py k * a0 / 100))) H _ _ (by omega) (by omega) (by omega) (fun i h1 h2 => if hi : i = k then (by rw [hi, z_upd_s]; rfl) else (by rw [z_upd_n _ _ hi]; exact hv1 i h1 (by omega))) (fun i h1 h2 => by rw [z_upd_n _ _ (by omega)]; exact hv2 i (by omega) h2) hP hD hS (lv_sub hl [0, 1, 2] rfl)
  exact loop (T + 1) P _ _ _ _ (by omega) (by omega) (by omega) (fun j h1 h2 => absurd h2 (by omega)) hu hP hD hS (lv_sub hl [0, 1, 2] rfl)

set_option maxHeartbeats 4000000 in
set_option maxRecDepth 100000 in
theorem c_wouldPassTheMost (l : Launch) (g : zG) (h pa da rt lf T P : Nat) (R xI xP xW xG : Int64) (u v : Nat → Int32) (py : Nat → Nat) (a0 : Nat) (hT : T ≤ 120) (hPT : P ≤ T) (hp : ∀ j, P ≤ j → j < T → py j ≤ 1000000) (hu : ∀ j, P ≤ j → j < T → u j = nI (py j)) (ha0 : a0 ≤ 200) : zMi l yX0_wouldPassTheMost wsX0_wouldPassTheMost ({ frames := 1, cells := 0, slots := 0, locals := 22 } : Room) [.ref h, .int (nI a0)] g [(h, .inr (0, [.int (nI rt), .int (nI lf), .ref pa, .ref da, .int (nI T), .int (nI P), .long R, .long xI, .long xP, .long xW, .long xG])), (pa, .inl (g.2.1, 120, .inl u)), (da, .inl (g.2.1, 121, .inl v))] (fun q w => (((∃ j, P ≤ j ∧ j < T ∧ 1000000 < zSc a0 py j) ∧ q = nI 1) ∨ ((∀ j, P ≤ j → j < T → zSc a0 py j ≤ 1000000) ∧ q = nI 0)) ∧ w = [(h, .inr (0, [.int (nI rt), .int (nI lf), .ref pa, .ref da, .int (nI T), .int (nI P), .long R, .long xI, .long xP, .long xW, .long xG])), (pa, .inl (g.2.1, 120, .inl u)), (da, .inl (g.2.1, 121, .inl v))]) 0 0 := by
  intro sz A hAe
  refine Met.ofW (cc := cX0_wouldPassTheMost) (maxL := 3) (ret := some .boolean) (by decide) rfl ?_
  intro p e s m args below meth c s₁ B hml hv
  obtain ⟨rfl, hsz, hP, hK, hD0⟩ := hv
  have hx := B.exec
  have hb := B.bytes
  have hr := B.returns
  have hts := atoms_spec (ws := wsX0_wouldPassTheMost) B.pre
  have hown : s.vm.findClass RX0 = some m.cls := findClass_of_methodNamed B.named
  have hlocks := B.notSynchronized
  obtain ⟨hD, hA, hS⟩ := z_in hsz hAe hD0
  have hl := lv_entry ([.ref h, .int (nI a0)]) (n := 3) (Nat.le_of_ble_eq_true rfl)
  rw [lg_entry_eq]
  generalize (lg_sl ([.ref h, .int (nI a0)]) ++ List.replicate (3 - (lg_sl ([.ref h, .int (nI a0)])).length) Slot.unset).toArray = ls at hl ⊢
  have hl : lv_has ls 3 [(0, .ref h), (1, .int (nI a0))] := hl
  have hinX0 : ∀ w ∈ wsX00, w ∈ wsX0_wouldPassTheMost := by decide +kernel
  refine lv_aload_n hx hb dX0_wouldPassTheMost_0 rfl (lv_at hl 0 rfl) ?_
  refine va_get (D := g.1) (ci := 0) (v := .int (nI P)) (C := RX0) (T := TX0) (N := 11) hx hb hts hinX0 hown hK hP 0 rfl rfl 5 (by decide) (hts (.fieldLink RX0 52 "Usewise$Lease" "past" "I") (by decide +kernel)) (fun _ h9 => h9) rfl dX0_wouldPassTheMost_1 ?_
  refine lv_istore_n (lv' := [(2, .int (nI P)), (0, .ref h), (1, .int (nI a0))]) hx hb dX0_wouldPassTheMost_4 rfl hl (by decide) rfl (fun ls hl => ?_)
  have loop : ∀ (n : Nat) (k : Nat) (H : Heap) (locs : List Loc) (ls : Array Slot), T < k + n → P ≤ k → k ≤ T → (∀ j, P ≤ j → j < k → zSc a0 py j ≤ 1000000) → va_P g.1 vwCl [(h, .inr (0, [.int (nI rt), .int (nI lf), .ref pa, .ref da, .int (nI T), .int (nI P), .long R, .long xI, .long xP, .long xW, .long xG])), (pa, .inl (g.2.1, 120, .inl u)), (da, .inl (g.2.1, 121, .inl v))] H → va_D A [(h, .inr (0, [.int (nI rt), .int (nI lf), .ref pa, .ref da, .int (nI T), .int (nI P), .long R, .long xI, .long xP, .long xW, .long xG])), (pa, .inl (g.2.1, 120, .inl u)), (da, .inl (g.2.1, 121, .inl v))] → va_S A s.heap H locs → lv_has ls 3 [(2, .int (nI k)), (0, .ref h), (1, .int (nI a0))] → W p l e (headSpec wsX0_wouldPassTheMost ({ frames := 1, cells := 0, slots := 0, locals := 22 } : Room)).room s m ([.ref h, .int (nI a0)] : List Value).toArray below meth c H locs 0 0 (MQ below (va_Qi (fun q w => (((∃ j, P ≤ j ∧ j < T ∧ 1000000 < zSc a0 py j) ∧ q = nI 1) ∨ ((∀ j, P ≤ j → j < T → zSc a0 py j ≤ 1000000) ∧ q = nI 0)) ∧ w = [(h, .inr (0, [.int (nI rt), .int (nI lf), .ref pa, .ref da, .int (nI T), .int (nI P), .long R, .long xI, .long xP, .long xW, .long xG])), (pa, .inl (g.2.1, 120, .inl u)), (da, .inl (g.2.1, 121, .inl v))]) (zOut g A) A) ([.ref h, .int (nI a0)] : List Value).toArray s 0 0 A) (F0 m 5 ls []) := by
    intro n
    induction n with
    | zero =>
      intro k H locs ls hn hk1 hk2 hv1 hP hD hS hl
      omega
    | succ n ih =>
      intro k H locs ls hn hk1 hk2 hv1 hP hD hS hl
      refine lv_iload_n hx hb dX0_wouldPassTheMost_5 rfl (lv_at hl 0 rfl) ?_
      refine lv_aload_n hx hb dX0_wouldPassTheMost_6 rfl (lv_at hl 1 rfl) ?_
      refine va_get (D := g.1) (ci := 0) (v := .int (nI T)) (C := RX0) (T := TX0) (N := 11) hx hb hts hinX0 hown hK hP 0 rfl rfl 4 (by decide) (hts (.fieldLink RX0 27 "Usewise$Lease" "term" "I") (by decide +kernel)) (fun _ h9 => h9) rfl dX0_wouldPassTheMost_7 ?_
      refine z_icmp_ge (tgt := 41) hx hb dX0_wouldPassTheMost_10 (by decide) (by omega) (by omega) (fun hc => ?_) (fun hc => ?_)
      · refine lv_iconst (v := nI 0) hx hb dX0_wouldPassTheMost_41 (by decide) ?_
        exact z_zret hx hb hr (by decide) hP hK hD hS dX0_wouldPassTheMost_42 hlocks (⟨Or.inr ⟨fun j h1 h2 => hv1 j h1 (by omega), rfl⟩, rfl⟩)
      · have hpj := hp k (by omega) (by omega)
        refine lv_aload_n hx hb dX0_wouldPassTheMost_13 rfl (lv_at hl 1 rfl) ?_
        refine va_get (D := g.1) (ci := 0) (v := .ref pa) (C := RX0) (T := TX0) (N := 11) hx hb hts hinX0 hown hK hP 0 rfl rfl 2 (by decide) (hts (.fieldLink RX0 30 "Usewise$Lease" "payments" "[I") (by decide +kernel)) (fun _ h9 => h9) rfl dX0_wouldPassTheMost_14 ?_
        refine lv_iload_n hx hb dX0_wouldPassTheMost_17 rfl (lv_at hl 0 rfl) ?_
        refine z_ai (wa := [(h, .inr (0, [.int (nI rt), .int (nI lf), .ref pa, .ref da, .int (nI T), .int (nI P), .long R, .long xI, .long xP, .long xW, .long xG]))]) (wc := [(pa, .inl (g.2.1, 120, .inl u))]) (wb := [(da, .inl (g.2.1, 121, .inl v))]) (va_runS (As := [.ref pa, .int (nI k)]) (rest := []) ⟨hx, hb, hml, hown, hts⟩ (c_at l g pa 120 k u (by omega) (by decide) H.size _ rfl) (va_cwS 2 hts gX0_wouldPassTheMost_X0_at rfl rfl rfl (by decide +kernel) ⟨Nat.le_of_ble_eq_true rfl, Nat.le_of_ble_eq_true rfl⟩) (zpreS (wa := [(h, .inr (0, [.int (nI rt), .int (nI lf), .ref pa, .ref da, .int (nI T), .int (nI P), .long R, .long xI, .long xP, .long xW, .long xG]))]) (wc := [(pa, .inl (g.2.1, 120, .inl u))]) (wb := [(da, .inl (g.2.1, 121, .inl v))]) hK hP hD) rfl rfl hl.1 rfl (lv_room (Nat.le_of_ble_eq_true rfl)) dX0_wouldPassTheMost_18 ⟨Nat.le_of_ble_eq_true rfl, Nat.le_of_ble_eq_true rfl⟩) hP hD hS hA (fun r_1 w1 H locs hq hP hD hS => ?_)
        obtain ⟨rfl, rfl⟩ := hq
        have hP : va_P g.1 vwCl [(h, .inr (0, [.int (nI rt), .int (nI lf), .ref pa, .ref da, .int (nI T), .int (nI P), .long R, .long xI, .long xP, .long xW, .long xG])), (pa, .inl (g.2.1, 120, .inl u)), (da, .inl (g.2.1, 121, .inl v))] H := hP
        have hD : va_D A [(h, .inr (0, [.int (nI rt), .int (nI lf), .ref pa, .ref da, .int (nI T), .int (nI P), .long R, .long xI, .long xP, .long xW, .long xG])), (pa, .inl (g.2.1, 120, .inl u)), (da, .inl (g.2.1, 121, .inl v))] := hD
        refine zi (y := nI (py k)) (hu k (by omega) (by omega)) ?_
        refine z_i2l hx hb dX0_wouldPassTheMost_21 (by omega) ?_
        refine lv_iload_n hx hb dX0_wouldPassTheMost_22 rfl (lv_at hl 2 rfl) ?_
        refine z_al (wa := [(h, .inr (0, [.int (nI rt), .int (nI lf), .ref pa, .ref da, .int (nI T), .int (nI P), .long R, .long xI, .long xP, .long xW, .long xG])), (pa, .inl (g.2.1, 120, .inl u)), (da, .inl (g.2.1, 121, .inl v))]) (wc := []) (wb := []) (va_runS (As := [.long (lN (py k)), .int (nI a0)]) (rest := []) ⟨hx, hb, hml, hown, hts⟩ (c_percentOf l g (py k) a0 ha0 (by omega) H.size _ rfl) (va_cwS 2 hts gX0_wouldPassTheMost_X0_percentOf rfl rfl rfl (by decide +kernel) ⟨Nat.le_of_ble_eq_true rfl, Nat.le_of_ble_eq_true rfl⟩) (zpreS (wa := [(h, .inr (0, [.int (nI rt), .int (nI lf), .ref pa, .ref da, .int (nI T), .int (nI P), .long R, .long xI, .long xP, .long xW, .long xG])), (pa, .inl (g.2.1, 120, .inl u)), (da, .inl (g.2.1, 121, .inl v))]) (wc := []) (wb := []) hK hP hD) rfl rfl hl.1 rfl (lv_room (Nat.le_of_ble_eq_true rfl)) dX0_wouldPassTheMost_23 ⟨Nat.le_of_ble_eq_true rfl, Nat.le_of_ble_eq_true rfl⟩) hP hD hS hA (fun r_2 w1 H locs hq hP hD hS => ?_)
        obtain ⟨rfl, rfl⟩ := hq
        have hP : va_P g.1 vwCl [(h, .inr (0, [.int (nI rt), .int (nI lf), .ref pa, .ref da, .int (nI T), .int (nI P), .long R, .long xI, .long xP, .long xW, .long xG])), (pa, .inl (g.2.1, 120, .inl u)), (da, .inl (g.2.1, 121, .inl v))] H := hP
        have hD : va_D A [(h, .inr (0, [.int (nI rt), .int (nI lf), .ref pa, .ref da, .int (nI T), .int (nI P), .long R, .long xI, .long xP, .long xW, .long xG])), (pa, .inl (g.2.1, 120, .inl u)), (da, .inl (g.2.1, 121, .inl v))] := hD
        have hq0 : py k * a0 ≤ 1000000 * 200 := Nat.mul_le_mul hpj ha0
        refine lv_ldc2 (v := lN 1000000) hx hb hown (hts (.constantLong RX0 63 (1000000)) (by decide +kernel)) dX0_wouldPassTheMost_26 ?_
        refine z_lif_le (tgt := 35) (pc2 := 30) hx hb dX0_wouldPassTheMost_29 rfl dX0_wouldPassTheMost_30 (by decide) (fun hd => ?_) (fun hd => ?_)
        · rw [pk_lLE (by omega) (by decide)] at hd
          refine z_iinc (lv' := [(2, .int (nI (k + 1))), (0, .ref h), (1, .int (nI a0))]) hx hb dX0_wouldPassTheMost_35 hl (k := 0) rfl (by decide) rfl (fun ls hl => ?_)
          refine lv_goto (tgt := 5) hx hb dX0_wouldPassTheMost_38 (by decide) ?_
          exact ih (k + 1) H _ _ (by omega) (by omega) (by omega) (fun i h1 h2 => if hi : i = k then (by rw [hi]; exact hd) else hv1 i h1 (by omega)) hP hD hS (lv_sub hl [0, 1, 2] rfl)
        · rw [pk_lLT (by decide) (by omega)] at hd
          refine lv_iconst (v := nI 1) hx hb dX0_wouldPassTheMost_33 (by decide) ?_
          exact z_zret hx hb hr (by decide) hP hK hD hS dX0_wouldPassTheMost_34 hlocks (⟨Or.inl ⟨⟨k, by omega, by omega, hd⟩, rfl⟩, rfl⟩)
  exact loop (T + 1) P _ _ _ (by omega) (by omega) (by omega) (fun j h1 h2 => absurd h2 (by omega)) hP hD hS (lv_sub hl [0, 1, 2] rfl)

set_option maxHeartbeats 4000000 in
set_option maxRecDepth 100000 in
theorem c_followDebt (l : Launch) (g : zG) (h pa da rt lf T P R0 : Nat) (xI xP xW xG : Int64) (u v : Nat → Int32) (py : Nat → Nat) (D0 : Nat) (hT : T ≤ 120) (hPT : P ≤ T) (hp : ∀ j, P ≤ j → j < T → py j ≤ 1000000) (hu : ∀ j, P ≤ j → j < T → u j = nI (py j)) (hrt : rt ≤ 20000) (hv0 : v P = nI D0) (hD0 : D0 ≤ 120000000) (hR0 : R0 ≤ 240000000) : zMv l yX0_followDebt wsX0_followDebt ({ frames := 2, cells := 0, slots := 0, locals := 48 } : Room) [.ref h] g [(h, .inr (0, [.int (nI rt), .int (nI lf), .ref pa, .ref da, .int (nI T), .int (nI P), .long (lN R0), .long xI, .long xP, .long xW, .long xG])), (pa, .inl (g.2.1, 120, .inl u)), (da, .inl (g.2.1, 121, .inl v))] (fun w => ∃ (v' : Nat → Int32) (R1 : Nat) (yG : Int64), w = [(h, .inr (0, [.int (nI rt), .int (nI lf), .ref pa, .ref da, .int (nI T), .int (nI P), .long (lN R1), .long xI, .long xP, .long xW, .long yG])), (pa, .inl (g.2.1, 120, .inl u)), (da, .inl (g.2.1, 121, .inl v'))] ∧ (∀ j, P ≤ j → j ≤ T → v' j = nI (zWr rt py T (T - j))) ∧ ((R0 + zWr rt py T (T - P) < D0 ∧ R1 = 0 ∧ yG.toInt32 = xG.toInt32 - (nI R0 + (nI (zWr rt py T (T - P)) - nI D0))) ∨ (D0 ≤ R0 + zWr rt py T (T - P) ∧ R1 = R0 + zWr rt py T (T - P) - D0 ∧ yG = xG))) 0 0 := by
  intro sz A hAe
  refine Met.ofW (cc := cX0_followDebt) (maxL := 3) (ret := none) (by decide) rfl ?_
  intro p e s m args below meth c s₁ B hml hv
  obtain ⟨rfl, hsz, hP, hK, hD0⟩ := hv
  have hx := B.exec
  have hb := B.bytes
  have hr := B.returns
  have hts := atoms_spec (ws := wsX0_followDebt) B.pre
  have hown : s.vm.findClass RX0 = some m.cls := findClass_of_methodNamed B.named
  have hlocks := B.notSynchronized
  obtain ⟨hD, hA, hS⟩ := z_in hsz hAe hD0
  have hl := lv_entry ([.ref h]) (n := 3) (Nat.le_of_ble_eq_true rfl)
  rw [lg_entry_eq]
  generalize (lg_sl ([.ref h]) ++ List.replicate (3 - (lg_sl ([.ref h])).length) Slot.unset).toArray = ls at hl ⊢
  have hl : lv_has ls 3 [(0, .ref h)] := hl
  have hinX0 : ∀ w ∈ wsX00, w ∈ wsX0_followDebt := by decide +kernel
  have hD1 := z_wb (r := rt) (j := P) hT hp (Nat.le_refl P)
  refine lv_aload_n hx hb dX0_followDebt_0 rfl (lv_at hl 0 rfl) ?_
  refine z_ai (wa := []) (wc := [(h, .inr (0, [.int (nI rt), .int (nI lf), .ref pa, .ref da, .int (nI T), .int (nI P), .long (lN R0), .long xI, .long xP, .long xW, .long xG])), (pa, .inl (g.2.1, 120, .inl u)), (da, .inl (g.2.1, 121, .inl v))]) (wb := []) (va_runV (As := []) (rest := []) ⟨hx, hb, hml, hown, hts⟩ (c_debtNow l g h pa da rt lf T P (lN R0) xI xP xW xG u v (by omega) s.heap.size _ rfl) (cwV 0 hts gX0_followDebt_X0_debtNow rfl rfl rfl (by decide +kernel) ⟨Nat.le_of_ble_eq_true rfl, Nat.le_of_ble_eq_true rfl⟩) (zpreV (wa := []) (wc := [(h, .inr (0, [.int (nI rt), .int (nI lf), .ref pa, .ref da, .int (nI T), .int (nI P), .long (lN R0), .long xI, .long xP, .long xW, .long xG])), (pa, .inl (g.2.1, 120, .inl u)), (da, .inl (g.2.1, 121, .inl v))]) (wb := []) (q0 := 0) (ci := 0) (T := TX0) (N := 11) hK hP hD rfl rfl) rfl rfl hl.1 rfl (lv_room (Nat.le_of_ble_eq_true rfl)) dX0_followDebt_1 ⟨Nat.le_of_ble_eq_true rfl, Nat.le_of_ble_eq_true rfl⟩) hP hD hS hA (fun r_1 w1 H locs hq hP hD hS => ?_)
  obtain ⟨rfl, rfl⟩ := hq
  have hP : va_P g.1 vwCl [(h, .inr (0, [.int (nI rt), .int (nI lf), .ref pa, .ref da, .int (nI T), .int (nI P), .long (lN R0), .long xI, .long xP, .long xW, .long xG])), (pa, .inl (g.2.1, 120, .inl u)), (da, .inl (g.2.1, 121, .inl v))] H := hP
  have hD : va_D A [(h, .inr (0, [.int (nI rt), .int (nI lf), .ref pa, .ref da, .int (nI T), .int (nI P), .long (lN R0), .long xI, .long xP, .long xW, .long xG])), (pa, .inl (g.2.1, 120, .inl u)), (da, .inl (g.2.1, 121, .inl v))] := hD
  refine zi (y := nI D0) (hv0) ?_
  refine z_i2l hx hb dX0_followDebt_4 (by omega) ?_
  refine lv_lstore_n (lv' := [(1, .long (lN D0)), (0, .ref h)]) hx hb dX0_followDebt_5 rfl hl (by decide) rfl (fun ls hl => ?_)
  refine lv_aload_n hx hb dX0_followDebt_6 rfl (lv_at hl 1 rfl) ?_
  refine z_av (wa := []) (wc := [(h, .inr (0, [.int (nI rt), .int (nI lf), .ref pa, .ref da, .int (nI T), .int (nI P), .long (lN R0), .long xI, .long xP, .long xW, .long xG])), (pa, .inl (g.2.1, 120, .inl u)), (da, .inl (g.2.1, 121, .inl v))]) (wb := []) (va_runV (As := []) (rest := []) ⟨hx, hb, hml, hown, hts⟩ (c_layDebts l g h pa da rt lf T P (lN R0) xI xP xW xG u v py hT hPT hp hu hrt H.size _ rfl) (cwV 0 hts gX0_followDebt_X0_layDebts rfl rfl rfl (by decide +kernel) ⟨Nat.le_of_ble_eq_true rfl, Nat.le_of_ble_eq_true rfl⟩) (zpreV (wa := []) (wc := [(h, .inr (0, [.int (nI rt), .int (nI lf), .ref pa, .ref da, .int (nI T), .int (nI P), .long (lN R0), .long xI, .long xP, .long xW, .long xG])), (pa, .inl (g.2.1, 120, .inl u)), (da, .inl (g.2.1, 121, .inl v))]) (wb := []) (q0 := 0) (ci := 0) (T := TX0) (N := 11) hK hP hD rfl rfl) rfl rfl hl.1 rfl (lv_room (Nat.le_of_ble_eq_true rfl)) dX0_followDebt_7 ⟨Nat.le_of_ble_eq_true rfl, Nat.le_of_ble_eq_true rfl⟩) hP hD hS hA (fun w1 H locs hq hP hD hS => ?_)
  obtain ⟨v2, rfl, hv2⟩ := hq
  have hP : va_P g.1 vwCl [(h, .inr (0, [.int (nI rt), .int (nI lf), .ref pa, .ref da, .int (nI T), .int (nI P), .long (lN R0), .long xI, .long xP, .long xW, .long xG])), (pa, .inl (g.2.1, 120, .inl u)), (da, .inl (g.2.1, 121, .inl v2))] H := hP
  have hD : va_D A [(h, .inr (0, [.int (nI rt), .int (nI lf), .ref pa, .ref da, .int (nI T), .int (nI P), .long (lN R0), .long xI, .long xP, .long xW, .long xG])), (pa, .inl (g.2.1, 120, .inl u)), (da, .inl (g.2.1, 121, .inl v2))] := hD
  refine lv_aload_n hx hb dX0_followDebt_10 rfl (lv_at hl 1 rfl) ?_
  refine lv_dup hx hb dX0_followDebt_11 rfl ?_
  refine va_get (D := g.1) (ci := 0) (v := .long (lN R0)) (C := RX0) (T := TX0) (N := 11) hx hb hts hinX0 hown hK hP 0 rfl rfl 6 (by decide) (hts (.fieldLink RX0 48 "Usewise$Lease" "right" "J") (by decide +kernel)) (fun _ h9 => h9) rfl dX0_followDebt_12 ?_
  refine lv_aload_n hx hb dX0_followDebt_15 rfl (lv_at hl 1 rfl) ?_
  refine z_ai (wa := []) (wc := [(h, .inr (0, [.int (nI rt), .int (nI lf), .ref pa, .ref da, .int (nI T), .int (nI P), .long (lN R0), .long xI, .long xP, .long xW, .long xG])), (pa, .inl (g.2.1, 120, .inl u)), (da, .inl (g.2.1, 121, .inl v2))]) (wb := []) (va_runV (As := []) (rest := [.long (lN R0), .ref h]) ⟨hx, hb, hml, hown, hts⟩ (c_debtNow l g h pa da rt lf T P (lN R0) xI xP xW xG u v2 (by omega) H.size _ rfl) (cwV 0 hts gX0_followDebt_X0_debtNow rfl rfl rfl (by decide +kernel) ⟨Nat.le_of_ble_eq_true rfl, Nat.le_of_ble_eq_true rfl⟩) (zpreV (wa := []) (wc := [(h, .inr (0, [.int (nI rt), .int (nI lf), .ref pa, .ref da, .int (nI T), .int (nI P), .long (lN R0), .long xI, .long xP, .long xW, .long xG])), (pa, .inl (g.2.1, 120, .inl u)), (da, .inl (g.2.1, 121, .inl v2))]) (wb := []) (q0 := 0) (ci := 0) (T := TX0) (N := 11) hK hP hD rfl rfl) rfl rfl hl.1 rfl (lv_room (Nat.le_of_ble_eq_true rfl)) dX0_followDebt_16 ⟨Nat.le_of_ble_eq_true rfl, Nat.le_of_ble_eq_true rfl⟩) hP hD hS hA (fun r_3 w1 H locs hq hP hD hS => ?_)
  obtain ⟨rfl, rfl⟩ := hq
  have hP : va_P g.1 vwCl [(h, .inr (0, [.int (nI rt), .int (nI lf), .ref pa, .ref da, .int (nI T), .int (nI P), .long (lN R0), .long xI, .long xP, .long xW, .long xG])), (pa, .inl (g.2.1, 120, .inl u)), (da, .inl (g.2.1, 121, .inl v2))] H := hP
  have hD : va_D A [(h, .inr (0, [.int (nI rt), .int (nI lf), .ref pa, .ref da, .int (nI T), .int (nI P), .long (lN R0), .long xI, .long xP, .long xW, .long xG])), (pa, .inl (g.2.1, 120, .inl u)), (da, .inl (g.2.1, 121, .inl v2))] := hD
  refine zi (y := nI (zWr rt py T (T - P))) (hv2 P (by omega) (by omega)) ?_
  refine z_i2l hx hb dX0_followDebt_19 (by omega) ?_
  refine lv_lload_n hx hb dX0_followDebt_20 rfl (lv_at hl 0 rfl) ?_
  refine lv_lsub hx hb dX0_followDebt_21 ?_
  refine lv_ladd hx hb dX0_followDebt_22 ?_
  refine va_put (D := g.1) (ci := 0) (v := .long ((lN R0) + ((lN (zWr rt py T (T - P))) - (lN D0)))) (ty := .long) (C := RX0) (T := TX0) (N := 11) hx hb hts hinX0 tyX0 tyX0_ok nmX0 hown hK hP hD hS 0 rfl rfl 6 (by decide) (hts (.fieldLink RX0 48 "Usewise$Lease" "right" "J") (by decide +kernel)) (fun _ h9 => h9) rfl (by decide +kernel) rfl rfl (Nat.le_of_ble_eq_true rfl) dX0_followDebt_23 (fun H locs hP hD hS => ?_)
  have hP : va_P g.1 vwCl [(h, .inr (0, [.int (nI rt), .int (nI lf), .ref pa, .ref da, .int (nI T), .int (nI P), .long ((lN R0) + ((lN (zWr rt py T (T - P))) - (lN D0))), .long xI, .long xP, .long xW, .long xG])), (pa, .inl (g.2.1, 120, .inl u)), (da, .inl (g.2.1, 121, .inl v2))] H := hP
  have hD : va_D A [(h, .inr (0, [.int (nI rt), .int (nI lf), .ref pa, .ref da, .int (nI T), .int (nI P), .long ((lN R0) + ((lN (zWr rt py T (T - P))) - (lN D0))), .long xI, .long xP, .long xW, .long xG])), (pa, .inl (g.2.1, 120, .inl u)), (da, .inl (g.2.1, 121, .inl v2))] := hD
  refine lv_aload_n hx hb dX0_followDebt_26 rfl (lv_at hl 1 rfl) ?_
  refine va_get (D := g.1) (ci := 0) (v := .long ((lN R0) + ((lN (zWr rt py T (T - P))) - (lN D0)))) (C := RX0) (T := TX0) (N := 11) hx hb hts hinX0 hown hK hP 0 rfl rfl 6 (by decide) (hts (.fieldLink RX0 48 "Usewise$Lease" "right" "J") (by decide +kernel)) (fun _ h9 => h9) rfl dX0_followDebt_27 ?_
  refine lv_lconst (v := lN 0) hx hb dX0_followDebt_30 rfl ?_
  refine z_lif_ge (tgt := 53) (pc2 := 32) hx hb dX0_followDebt_31 rfl dX0_followDebt_32 (by decide) (fun hc => ?_) (fun hc => ?_)
  · have hc2 : D0 ≤ R0 + zWr rt py T (T - P) := by
      rcases Nat.lt_or_ge (R0 + zWr rt py T (T - P)) D0 with z | z
      · have := z_fol2 z (by omega); rw [Int64.lt_iff_toInt_lt] at this; rw [Int64.le_iff_toInt_le] at hc; omega
      · exact z
    rw [z_fol1 hc2] at hP hD
    exact z_vret hx hb hr hP hK hD hS dX0_followDebt_53 hlocks (⟨v2, _, xG, rfl, hv2, Or.inr ⟨hc2, rfl, rfl⟩⟩)
  · have hc2 : R0 + zWr rt py T (T - P) < D0 := by
      rcases Nat.lt_or_ge (R0 + zWr rt py T (T - P)) D0 with z | z
      · exact z
      · rw [z_fol1 z, pk_lLT (by omega) (by decide)] at hc; omega
    refine lv_aload_n hx hb dX0_followDebt_35 rfl (lv_at hl 1 rfl) ?_
    refine lv_dup hx hb dX0_followDebt_36 rfl ?_
    refine va_get (D := g.1) (ci := 0) (v := .long xG) (C := RX0) (T := TX0) (N := 11) hx hb hts hinX0 hown hK hP 0 rfl rfl 10 (by decide) (hts (.fieldLink RX0 96 "Usewise$Lease" "gains" "J") (by decide +kernel)) (fun _ h9 => h9) rfl dX0_followDebt_37 ?_
    refine lv_aload_n hx hb dX0_followDebt_40 rfl (lv_at hl 1 rfl) ?_
    refine va_get (D := g.1) (ci := 0) (v := .long ((lN R0) + ((lN (zWr rt py T (T - P))) - (lN D0)))) (C := RX0) (T := TX0) (N := 11) hx hb hts hinX0 hown hK hP 0 rfl rfl 6 (by decide) (hts (.fieldLink RX0 48 "Usewise$Lease" "right" "J") (by decide +kernel)) (fun _ h9 => h9) rfl dX0_followDebt_41 ?_
    refine lv_lsub hx hb dX0_followDebt_44 ?_
    refine va_put (D := g.1) (ci := 0) (v := .long (xG - ((lN R0) + ((lN (zWr rt py T (T - P))) - (lN D0))))) (ty := .long) (C := RX0) (T := TX0) (N := 11) hx hb hts hinX0 tyX0 tyX0_ok nmX0 hown hK hP hD hS 0 rfl rfl 10 (by decide) (hts (.fieldLink RX0 96 "Usewise$Lease" "gains" "J") (by decide +kernel)) (fun _ h9 => h9) rfl (by decide +kernel) rfl rfl (Nat.le_of_ble_eq_true rfl) dX0_followDebt_45 (fun H locs hP hD hS => ?_)
    have hP : va_P g.1 vwCl [(h, .inr (0, [.int (nI rt), .int (nI lf), .ref pa, .ref da, .int (nI T), .int (nI P), .long ((lN R0) + ((lN (zWr rt py T (T - P))) - (lN D0))), .long xI, .long xP, .long xW, .long (xG - ((lN R0) + ((lN (zWr rt py T (T - P))) - (lN D0))))])), (pa, .inl (g.2.1, 120, .inl u)), (da, .inl (g.2.1, 121, .inl v2))] H := hP
    have hD : va_D A [(h, .inr (0, [.int (nI rt), .int (nI lf), .ref pa, .ref da, .int (nI T), .int (nI P), .long ((lN R0) + ((lN (zWr rt py T (T - P))) - (lN D0))), .long xI, .long xP, .long xW, .long (xG - ((lN R0) + ((lN (zWr rt py T (T - P))) - (lN D0))))])), (pa, .inl (g.2.1, 120, .inl u)), (da, .inl (g.2.1, 121, .inl v2))] := hD
    refine lv_aload_n hx hb dX0_followDebt_48 rfl (lv_at hl 1 rfl) ?_
    refine lv_lconst (v := lN 0) hx hb dX0_followDebt_49 rfl ?_
    refine va_put (D := g.1) (ci := 0) (v := .long (lN 0)) (ty := .long) (C := RX0) (T := TX0) (N := 11) hx hb hts hinX0 tyX0 tyX0_ok nmX0 hown hK hP hD hS 0 rfl rfl 6 (by decide) (hts (.fieldLink RX0 48 "Usewise$Lease" "right" "J") (by decide +kernel)) (fun _ h9 => h9) rfl (by decide +kernel) rfl rfl (Nat.le_of_ble_eq_true rfl) dX0_followDebt_50 (fun H locs hP hD hS => ?_)
    have hP : va_P g.1 vwCl [(h, .inr (0, [.int (nI rt), .int (nI lf), .ref pa, .ref da, .int (nI T), .int (nI P), .long (lN 0), .long xI, .long xP, .long xW, .long (xG - ((lN R0) + ((lN (zWr rt py T (T - P))) - (lN D0))))])), (pa, .inl (g.2.1, 120, .inl u)), (da, .inl (g.2.1, 121, .inl v2))] H := hP
    have hD : va_D A [(h, .inr (0, [.int (nI rt), .int (nI lf), .ref pa, .ref da, .int (nI T), .int (nI P), .long (lN 0), .long xI, .long xP, .long xW, .long (xG - ((lN R0) + ((lN (zWr rt py T (T - P))) - (lN D0))))])), (pa, .inl (g.2.1, 120, .inl u)), (da, .inl (g.2.1, 121, .inl v2))] := hD
    exact z_vret hx hb hr hP hK hD hS dX0_followDebt_53 hlocks (⟨v2, 0, _, rfl, hv2, Or.inl ⟨hc2, rfl, by rw [z64_sub, z64_add, z64_sub, lN_i, lN_i, lN_i]⟩⟩)

set_option maxHeartbeats 4000000 in
set_option maxRecDepth 100000 in
theorem c_giveUp (l : Launch) (g : zG) (h pa da rt lf T P R0 : Nat) (xI xP xW xG : Int64) (u v : Nat → Int32) (py : Nat → Nat) (D0 R1 : Nat) (hT : T ≤ 120) (hPT : P ≤ T) (hp : ∀ j, P ≤ j → j < T → py j ≤ 1000000) (hu : ∀ j, P ≤ j → j < T → u j = nI (py j)) (hrt : rt ≤ 20000) (hv0 : v P = nI D0) (hD0 : D0 ≤ 120000000) : zMi l yX0_giveUp wsX0_giveUp ({ frames := 2, cells := 0, slots := 0, locals := 48 } : Room) [.ref h, .long (lN R1)] g [(h, .inr (0, [.int (nI rt), .int (nI lf), .ref pa, .ref da, .int (nI T), .int (nI P), .long (lN R0), .long xI, .long xP, .long xW, .long xG])), (pa, .inl (g.2.1, 120, .inl u)), (da, .inl (g.2.1, 121, .inl v))] (fun q w => ∃ (v' : Nat → Int32) (yG : Int64), w = [(h, .inr (0, [.int (nI rt), .int (nI lf), .ref pa, .ref da, .int (nI T), .int (nI P), .long (lN R1), .long xI, .long xP, .long xW, .long yG])), (pa, .inl (g.2.1, 120, .inl u)), (da, .inl (g.2.1, 121, .inl v'))] ∧ (∀ j, P ≤ j → j ≤ T → v' j = nI (zWr rt py T (T - j))) ∧ q = nI D0 - nI (zWr rt py T (T - P)) - (nI R0 - nI R1) ∧ yG.toInt32 = xG.toInt32 + q) 0 0 := by
  intro sz A hAe
  refine Met.ofW (cc := cX0_giveUp) (maxL := 7) (ret := some .int) (by decide) rfl ?_
  intro p e s m args below meth c s₁ B hml hv
  obtain ⟨rfl, hsz, hP, hK, hD0⟩ := hv
  have hx := B.exec
  have hb := B.bytes
  have hr := B.returns
  have hts := atoms_spec (ws := wsX0_giveUp) B.pre
  have hown : s.vm.findClass RX0 = some m.cls := findClass_of_methodNamed B.named
  have hlocks := B.notSynchronized
  obtain ⟨hD, hA, hS⟩ := z_in hsz hAe hD0
  have hl := lv_entry ([.ref h, .long (lN R1)]) (n := 7) (Nat.le_of_ble_eq_true rfl)
  rw [lg_entry_eq]
  generalize (lg_sl ([.ref h, .long (lN R1)]) ++ List.replicate (7 - (lg_sl ([.ref h, .long (lN R1)])).length) Slot.unset).toArray = ls at hl ⊢
  have hl : lv_has ls 7 [(0, .ref h), (1, .long (lN R1))] := hl
  have hinX0 : ∀ w ∈ wsX00, w ∈ wsX0_giveUp := by decide +kernel
  have hD1 := z_wb (r := rt) (j := P) hT hp (Nat.le_refl P)
  refine lv_aload_n hx hb dX0_giveUp_0 rfl (lv_at hl 0 rfl) ?_
  refine z_ai (wa := []) (wc := [(h, .inr (0, [.int (nI rt), .int (nI lf), .ref pa, .ref da, .int (nI T), .int (nI P), .long (lN R0), .long xI, .long xP, .long xW, .long xG])), (pa, .inl (g.2.1, 120, .inl u)), (da, .inl (g.2.1, 121, .inl v))]) (wb := []) (va_runV (As := []) (rest := []) ⟨hx, hb, hml, hown, hts⟩ (c_debtNow l g h pa da rt lf T P (lN R0) xI xP xW xG u v (by omega) s.heap.size _ rfl) (cwV 0 hts gX0_giveUp_X0_debtNow rfl rfl rfl (by decide +kernel) ⟨Nat.le_of_ble_eq_true rfl, Nat.le_of_ble_eq_true rfl⟩) (zpreV (wa := []) (wc := [(h, .inr (0, [.int (nI rt), .int (nI lf), .ref pa, .ref da, .int (nI T), .int (nI P), .long (lN R0), .long xI, .long xP, .long xW, .long xG])), (pa, .inl (g.2.1, 120, .inl u)), (da, .inl (g.2.1, 121, .inl v))]) (wb := []) (q0 := 0) (ci := 0) (T := TX0) (N := 11) hK hP hD rfl rfl) rfl rfl hl.1 rfl (lv_room (Nat.le_of_ble_eq_true rfl)) dX0_giveUp_1 ⟨Nat.le_of_ble_eq_true rfl, Nat.le_of_ble_eq_true rfl⟩) hP hD hS hA (fun r_1 w1 H locs hq hP hD hS => ?_)
  obtain ⟨rfl, rfl⟩ := hq
  have hP : va_P g.1 vwCl [(h, .inr (0, [.int (nI rt), .int (nI lf), .ref pa, .ref da, .int (nI T), .int (nI P), .long (lN R0), .long xI, .long xP, .long xW, .long xG])), (pa, .inl (g.2.1, 120, .inl u)), (da, .inl (g.2.1, 121, .inl v))] H := hP
  have hD : va_D A [(h, .inr (0, [.int (nI rt), .int (nI lf), .ref pa, .ref da, .int (nI T), .int (nI P), .long (lN R0), .long xI, .long xP, .long xW, .long xG])), (pa, .inl (g.2.1, 120, .inl u)), (da, .inl (g.2.1, 121, .inl v))] := hD
  refine zi (y := nI D0) (hv0) ?_
  refine z_i2l hx hb dX0_giveUp_4 (by omega) ?_
  refine lv_lstore_n (lv' := [(3, .long (lN D0)), (0, .ref h), (1, .long (lN R1))]) hx hb dX0_giveUp_5 rfl hl (by decide) rfl (fun ls hl => ?_)
  refine lv_aload_n hx hb dX0_giveUp_6 rfl (lv_at hl 1 rfl) ?_
  refine z_av (wa := []) (wc := [(h, .inr (0, [.int (nI rt), .int (nI lf), .ref pa, .ref da, .int (nI T), .int (nI P), .long (lN R0), .long xI, .long xP, .long xW, .long xG])), (pa, .inl (g.2.1, 120, .inl u)), (da, .inl (g.2.1, 121, .inl v))]) (wb := []) (va_runV (As := []) (rest := []) ⟨hx, hb, hml, hown, hts⟩ (c_layDebts l g h pa da rt lf T P (lN R0) xI xP xW xG u v py hT hPT hp hu hrt H.size _ rfl) (cwV 0 hts gX0_giveUp_X0_layDebts rfl rfl rfl (by decide +kernel) ⟨Nat.le_of_ble_eq_true rfl, Nat.le_of_ble_eq_true rfl⟩) (zpreV (wa := []) (wc := [(h, .inr (0, [.int (nI rt), .int (nI lf), .ref pa, .ref da, .int (nI T), .int (nI P), .long (lN R0), .long xI, .long xP, .long xW, .long xG])), (pa, .inl (g.2.1, 120, .inl u)), (da, .inl (g.2.1, 121, .inl v))]) (wb := []) (q0 := 0) (ci := 0) (T := TX0) (N := 11) hK hP hD rfl rfl) rfl rfl hl.1 rfl (lv_room (Nat.le_of_ble_eq_true rfl)) dX0_giveUp_7 ⟨Nat.le_of_ble_eq_true rfl, Nat.le_of_ble_eq_true rfl⟩) hP hD hS hA (fun w1 H locs hq hP hD hS => ?_)
  obtain ⟨v2, rfl, hv2⟩ := hq
  have hP : va_P g.1 vwCl [(h, .inr (0, [.int (nI rt), .int (nI lf), .ref pa, .ref da, .int (nI T), .int (nI P), .long (lN R0), .long xI, .long xP, .long xW, .long xG])), (pa, .inl (g.2.1, 120, .inl u)), (da, .inl (g.2.1, 121, .inl v2))] H := hP
  have hD : va_D A [(h, .inr (0, [.int (nI rt), .int (nI lf), .ref pa, .ref da, .int (nI T), .int (nI P), .long (lN R0), .long xI, .long xP, .long xW, .long xG])), (pa, .inl (g.2.1, 120, .inl u)), (da, .inl (g.2.1, 121, .inl v2))] := hD
  refine lv_lload_n hx hb dX0_giveUp_10 rfl (lv_at hl 0 rfl) ?_
  refine lv_aload_n hx hb dX0_giveUp_11 rfl (lv_at hl 1 rfl) ?_
  refine z_ai (wa := []) (wc := [(h, .inr (0, [.int (nI rt), .int (nI lf), .ref pa, .ref da, .int (nI T), .int (nI P), .long (lN R0), .long xI, .long xP, .long xW, .long xG])), (pa, .inl (g.2.1, 120, .inl u)), (da, .inl (g.2.1, 121, .inl v2))]) (wb := []) (va_runV (As := []) (rest := [.long (lN D0)]) ⟨hx, hb, hml, hown, hts⟩ (c_debtNow l g h pa da rt lf T P (lN R0) xI xP xW xG u v2 (by omega) H.size _ rfl) (cwV 0 hts gX0_giveUp_X0_debtNow rfl rfl rfl (by decide +kernel) ⟨Nat.le_of_ble_eq_true rfl, Nat.le_of_ble_eq_true rfl⟩) (zpreV (wa := []) (wc := [(h, .inr (0, [.int (nI rt), .int (nI lf), .ref pa, .ref da, .int (nI T), .int (nI P), .long (lN R0), .long xI, .long xP, .long xW, .long xG])), (pa, .inl (g.2.1, 120, .inl u)), (da, .inl (g.2.1, 121, .inl v2))]) (wb := []) (q0 := 0) (ci := 0) (T := TX0) (N := 11) hK hP hD rfl rfl) rfl rfl hl.1 rfl (lv_room (Nat.le_of_ble_eq_true rfl)) dX0_giveUp_12 ⟨Nat.le_of_ble_eq_true rfl, Nat.le_of_ble_eq_true rfl⟩) hP hD hS hA (fun r_3 w1 H locs hq hP hD hS => ?_)
  obtain ⟨rfl, rfl⟩ := hq
  have hP : va_P g.1 vwCl [(h, .inr (0, [.int (nI rt), .int (nI lf), .ref pa, .ref da, .int (nI T), .int (nI P), .long (lN R0), .long xI, .long xP, .long xW, .long xG])), (pa, .inl (g.2.1, 120, .inl u)), (da, .inl (g.2.1, 121, .inl v2))] H := hP
  have hD : va_D A [(h, .inr (0, [.int (nI rt), .int (nI lf), .ref pa, .ref da, .int (nI T), .int (nI P), .long (lN R0), .long xI, .long xP, .long xW, .long xG])), (pa, .inl (g.2.1, 120, .inl u)), (da, .inl (g.2.1, 121, .inl v2))] := hD
  refine zi (y := nI (zWr rt py T (T - P))) (hv2 P (by omega) (by omega)) ?_
  refine z_i2l hx hb dX0_giveUp_15 (by omega) ?_
  refine lv_lsub hx hb dX0_giveUp_16 ?_
  refine lv_aload_n hx hb dX0_giveUp_17 rfl (lv_at hl 1 rfl) ?_
  refine va_get (D := g.1) (ci := 0) (v := .long (lN R0)) (C := RX0) (T := TX0) (N := 11) hx hb hts hinX0 hown hK hP 0 rfl rfl 6 (by decide) (hts (.fieldLink RX0 48 "Usewise$Lease" "right" "J") (by decide +kernel)) (fun _ h9 => h9) rfl dX0_giveUp_18 ?_
  refine lv_lload_n hx hb dX0_giveUp_21 rfl (lv_at hl 2 rfl) ?_
  refine lv_lsub hx hb dX0_giveUp_22 ?_
  refine lv_lsub hx hb dX0_giveUp_23 ?_
  refine lv_lstore (lv' := [(5, .long (((lN D0) - (lN (zWr rt py T (T - P)))) - ((lN R0) - (lN R1)))), (3, .long (lN D0)), (0, .ref h), (1, .long (lN R1))]) hx hb dX0_giveUp_24 hl (by decide) rfl (fun ls hl => ?_)
  refine lv_aload_n hx hb dX0_giveUp_26 rfl (lv_at hl 2 rfl) ?_
  refine lv_lload_n hx hb dX0_giveUp_27 rfl (lv_at hl 3 rfl) ?_
  refine va_put (D := g.1) (ci := 0) (v := .long (lN R1)) (ty := .long) (C := RX0) (T := TX0) (N := 11) hx hb hts hinX0 tyX0 tyX0_ok nmX0 hown hK hP hD hS 0 rfl rfl 6 (by decide) (hts (.fieldLink RX0 48 "Usewise$Lease" "right" "J") (by decide +kernel)) (fun _ h9 => h9) rfl (by decide +kernel) rfl rfl (Nat.le_of_ble_eq_true rfl) dX0_giveUp_28 (fun H locs hP hD hS => ?_)
  have hP : va_P g.1 vwCl [(h, .inr (0, [.int (nI rt), .int (nI lf), .ref pa, .ref da, .int (nI T), .int (nI P), .long (lN R1), .long xI, .long xP, .long xW, .long xG])), (pa, .inl (g.2.1, 120, .inl u)), (da, .inl (g.2.1, 121, .inl v2))] H := hP
  have hD : va_D A [(h, .inr (0, [.int (nI rt), .int (nI lf), .ref pa, .ref da, .int (nI T), .int (nI P), .long (lN R1), .long xI, .long xP, .long xW, .long xG])), (pa, .inl (g.2.1, 120, .inl u)), (da, .inl (g.2.1, 121, .inl v2))] := hD
  refine lv_aload_n hx hb dX0_giveUp_31 rfl (lv_at hl 2 rfl) ?_
  refine lv_dup hx hb dX0_giveUp_32 rfl ?_
  refine va_get (D := g.1) (ci := 0) (v := .long xG) (C := RX0) (T := TX0) (N := 11) hx hb hts hinX0 hown hK hP 0 rfl rfl 10 (by decide) (hts (.fieldLink RX0 96 "Usewise$Lease" "gains" "J") (by decide +kernel)) (fun _ h9 => h9) rfl dX0_giveUp_33 ?_
  refine lv_lload hx hb dX0_giveUp_36 (lv_at hl 0 rfl) ?_
  refine lv_ladd hx hb dX0_giveUp_38 ?_
  refine va_put (D := g.1) (ci := 0) (v := .long (xG + (((lN D0) - (lN (zWr rt py T (T - P)))) - ((lN R0) - (lN R1))))) (ty := .long) (C := RX0) (T := TX0) (N := 11) hx hb hts hinX0 tyX0 tyX0_ok nmX0 hown hK hP hD hS 0 rfl rfl 10 (by decide) (hts (.fieldLink RX0 96 "Usewise$Lease" "gains" "J") (by decide +kernel)) (fun _ h9 => h9) rfl (by decide +kernel) rfl rfl (Nat.le_of_ble_eq_true rfl) dX0_giveUp_39 (fun H locs hP hD hS => ?_)
  have hP : va_P g.1 vwCl [(h, .inr (0, [.int (nI rt), .int (nI lf), .ref pa, .ref da, .int (nI T), .int (nI P), .long (lN R1), .long xI, .long xP, .long xW, .long (xG + (((lN D0) - (lN (zWr rt py T (T - P)))) - ((lN R0) - (lN R1))))])), (pa, .inl (g.2.1, 120, .inl u)), (da, .inl (g.2.1, 121, .inl v2))] H := hP
  have hD : va_D A [(h, .inr (0, [.int (nI rt), .int (nI lf), .ref pa, .ref da, .int (nI T), .int (nI P), .long (lN R1), .long xI, .long xP, .long xW, .long (xG + (((lN D0) - (lN (zWr rt py T (T - P)))) - ((lN R0) - (lN R1))))])), (pa, .inl (g.2.1, 120, .inl u)), (da, .inl (g.2.1, 121, .inl v2))] := hD
  refine lv_lload hx hb dX0_giveUp_42 (lv_at hl 0 rfl) ?_
  refine lv_l2i hx hb dX0_giveUp_44 rfl ?_
  exact z_iret hx hb hr hP hK hD hS dX0_giveUp_45 hlocks (⟨v2, _, rfl, hv2, by rw [z64_sub, z64_sub, z64_sub, lN_i, lN_i, lN_i, lN_i], by rw [z64_add]⟩)
end
section
/-! the class of a lease: its changes -/
theorem z_w {g : zG} {a : Nat × Nat × Nat} {rt lf : Nat} {z1 z2 : zS} {q : zRaw} (e : z1 = z2) : zLW g a rt lf z2 q = zLW g a rt lf z1 q := by rw [e]
theorem zC_of {rt : Nat} {z1 z2 : zS} {q : zRaw} (e : z1 = z2) (h : zCR rt z2 q) : zCR rt z1 q := by rw [e]; exact h
theorem zFol_lt {r T' T P R : Nat} {p' p : Nat → Nat} {I Pd W G : Int32} (h : R + zWr r p' T' (T' - P) < zWr r p T (T - P)) : zFol r T' p' (T, P, p, R, I, Pd, W, G) = (T', P, p', 0, I, Pd, W, G - (nI R + (nI (zWr r p' T' (T' - P)) - nI (zWr r p T (T - P))))) := if_pos h
theorem zFol_ge {r T' T P R : Nat} {p' p : Nat → Nat} {I Pd W G : Int32} (h : zWr r p T (T - P) ≤ R + zWr r p' T' (T' - P)) : zFol r T' p' (T, P, p, R, I, Pd, W, G) = (T', P, p', R + zWr r p' T' (T' - P) - zWr r p T (T - P), I, Pd, W, G) := if_neg (Nat.not_lt.mpr h)
theorem zMW_pos (f T P : Nat) : 0 < zMW f T P := by unfold zMW; omega
theorem zMW_le {f T P : Nat} (h : T ≤ 120) : zMW f T P ≤ 120 := by unfold zMW; omega
theorem z_min {a b : Nat} (ha : a < 2 ^ 31) (hb : b < 2 ^ 31) : (if nI b < nI a then nI b else nI a) = nI (min a b) := by
  by_cases h : b < a
  · rw [if_pos ((nI_ltI hb ha).mpr h), Nat.min_eq_right (Nat.le_of_lt h)]
  · rw [if_neg (mt (nI_ltI hb ha).mp h), Nat.min_eq_left (Nat.le_of_not_lt h)]
theorem z_max {a b : Nat} (ha : a < 2 ^ 31) (hb : b < 2 ^ 31) : (if nI a < nI b then nI b else nI a) = nI (max a b) := by
  by_cases h : a < b
  · rw [if_pos ((nI_ltI ha hb).mpr h), Nat.max_eq_right (Nat.le_of_lt h)]
  · rw [if_neg (mt (nI_ltI ha hb).mp h), Nat.max_eq_left (Nat.le_of_not_lt h)]
set_option maxHeartbeats 4000000 in
set_option maxRecDepth 100000 in
theorem c_passOneMonth (l : Launch) (g : zG) (h pa da rt lf T P R0 : Nat) (py : Nat → Nat) (I Pd Wn G : Int32) (xI xP xW xG : Int64) (u v : Nat → Int32) (hZ : zInv rt lf (T, P, py, R0, I, Pd, Wn, G)) (hC : zCR rt (T, P, py, R0, I, Pd, Wn, G) (xI, xP, xW, xG, u, v)) (hPl : P < T) : zMv l yX0_passOneMonth wsX0_passOneMonth ({ frames := 2, cells := 0, slots := 0, locals := 41 } : Room) [.ref h] g [(h, .inr (0, [.int (nI rt), .int (nI lf), .ref pa, .ref da, .int (nI T), .int (nI P), .long (lN R0), .long xI, .long xP, .long xW, .long xG])), (pa, .inl (g.2.1, 120, .inl u)), (da, .inl (g.2.1, 121, .inl v))] (fun w => ∃ q', w = zLW g (h, pa, da) rt lf (zMonth rt lf (T, P, py, R0, I, Pd, Wn, G)) q' ∧ zCR rt (zMonth rt lf (T, P, py, R0, I, Pd, Wn, G)) q') 0 0 := by
  intro sz A hAe
  refine Met.ofW (cc := cX0_passOneMonth) (maxL := 5) (ret := none) (by decide) rfl ?_
  intro p e s m args below meth c s₁ B hml hv
  obtain ⟨rfl, hsz, hP, hK, hD0⟩ := hv
  have hx := B.exec
  have hb := B.bytes
  have hr := B.returns
  have hts := atoms_spec (ws := wsX0_passOneMonth) B.pre
  have hown : s.vm.findClass RX0 = some m.cls := findClass_of_methodNamed B.named
  have hlocks := B.notSynchronized
  obtain ⟨hD, hA, hS⟩ := z_in hsz hAe hD0
  have hl := lv_entry ([.ref h]) (n := 5) (Nat.le_of_ble_eq_true rfl)
  rw [lg_entry_eq]
  generalize (lg_sl ([.ref h]) ++ List.replicate (5 - (lg_sl ([.ref h])).length) Slot.unset).toArray = ls at hl ⊢
  have hl : lv_has ls 5 [(0, .ref h)] := hl
  have hinX0 : ∀ w ∈ wsX00, w ∈ wsX0_passOneMonth := by decide +kernel
  obtain ⟨hT, hPT, hrt, hlf, hp, hRb⟩ := id hZ
  obtain ⟨hI, hPd, hWn, hG, hu, hv⟩ := id hC
  have hD0 := z_wb (r := rt) (j := P) hT hp (Nat.le_refl P)
  have hR2 := zInv_R hZ
  have hm1 := zMW_pos lf T P
  have hm2 := zMW_le (f := lf) (P := P) hT
  refine lv_aload_n hx hb dX0_passOneMonth_0 rfl (lv_at hl 0 rfl) ?_
  refine va_get (D := g.1) (ci := 0) (v := .ref pa) (C := RX0) (T := TX0) (N := 11) hx hb hts hinX0 hown hK hP 0 rfl rfl 2 (by decide) (hts (.fieldLink RX0 30 "Usewise$Lease" "payments" "[I") (by decide +kernel)) (fun _ h9 => h9) rfl dX0_passOneMonth_1 ?_
  refine lv_aload_n hx hb dX0_passOneMonth_4 rfl (lv_at hl 0 rfl) ?_
  refine va_get (D := g.1) (ci := 0) (v := .int (nI P)) (C := RX0) (T := TX0) (N := 11) hx hb hts hinX0 hown hK hP 0 rfl rfl 5 (by decide) (hts (.fieldLink RX0 52 "Usewise$Lease" "past" "I") (by decide +kernel)) (fun _ h9 => h9) rfl dX0_passOneMonth_5 ?_
  refine z_ai (wa := [(h, .inr (0, [.int (nI rt), .int (nI lf), .ref pa, .ref da, .int (nI T), .int (nI P), .long (lN R0), .long xI, .long xP, .long xW, .long xG]))]) (wc := [(pa, .inl (g.2.1, 120, .inl u))]) (wb := [(da, .inl (g.2.1, 121, .inl v))]) (va_runS (As := [.ref pa, .int (nI P)]) (rest := []) ⟨hx, hb, hml, hown, hts⟩ (c_at l g pa 120 P u (by omega) (by decide) s.heap.size _ rfl) (va_cwS 2 hts gX0_passOneMonth_X0_at rfl rfl rfl (by decide +kernel) ⟨Nat.le_of_ble_eq_true rfl, Nat.le_of_ble_eq_true rfl⟩) (zpreS (wa := [(h, .inr (0, [.int (nI rt), .int (nI lf), .ref pa, .ref da, .int (nI T), .int (nI P), .long (lN R0), .long xI, .long xP, .long xW, .long xG]))]) (wc := [(pa, .inl (g.2.1, 120, .inl u))]) (wb := [(da, .inl (g.2.1, 121, .inl v))]) hK hP hD) rfl rfl hl.1 rfl (lv_room (Nat.le_of_ble_eq_true rfl)) dX0_passOneMonth_8 ⟨Nat.le_of_ble_eq_true rfl, Nat.le_of_ble_eq_true rfl⟩) hP hD hS hA (fun r_1 w1 H locs hq hP hD hS => ?_)
  obtain ⟨rfl, rfl⟩ := hq
  have hP : va_P g.1 vwCl [(h, .inr (0, [.int (nI rt), .int (nI lf), .ref pa, .ref da, .int (nI T), .int (nI P), .long (lN R0), .long xI, .long xP, .long xW, .long xG])), (pa, .inl (g.2.1, 120, .inl u)), (da, .inl (g.2.1, 121, .inl v))] H := hP
  have hD : va_D A [(h, .inr (0, [.int (nI rt), .int (nI lf), .ref pa, .ref da, .int (nI T), .int (nI P), .long (lN R0), .long xI, .long xP, .long xW, .long xG])), (pa, .inl (g.2.1, 120, .inl u)), (da, .inl (g.2.1, 121, .inl v))] := hD
  refine zi (y := nI (py P)) (hu P (by omega) (by omega)) ?_
  refine lv_istore_n (lv' := [(1, .int (nI (py P))), (0, .ref h)]) hx hb dX0_passOneMonth_11 rfl hl (by decide) rfl (fun ls hl => ?_)
  refine lv_aload_n hx hb dX0_passOneMonth_12 rfl (lv_at hl 1 rfl) ?_
  refine lv_dup hx hb dX0_passOneMonth_13 rfl ?_
  refine va_get (D := g.1) (ci := 0) (v := .long xI) (C := RX0) (T := TX0) (N := 11) hx hb hts hinX0 hown hK hP 0 rfl rfl 7 (by decide) (hts (.fieldLink RX0 71 "Usewise$Lease" "interest" "J") (by decide +kernel)) (fun _ h9 => h9) rfl dX0_passOneMonth_14 ?_
  refine lv_aload_n hx hb dX0_passOneMonth_17 rfl (lv_at hl 1 rfl) ?_
  refine va_get (D := g.1) (ci := 0) (v := .ref da) (C := RX0) (T := TX0) (N := 11) hx hb hts hinX0 hown hK hP 0 rfl rfl 3 (by decide) (hts (.fieldLink RX0 34 "Usewise$Lease" "debts" "[I") (by decide +kernel)) (fun _ h9 => h9) rfl dX0_passOneMonth_18 ?_
  refine lv_aload_n hx hb dX0_passOneMonth_21 rfl (lv_at hl 1 rfl) ?_
  refine va_get (D := g.1) (ci := 0) (v := .int (nI P)) (C := RX0) (T := TX0) (N := 11) hx hb hts hinX0 hown hK hP 0 rfl rfl 5 (by decide) (hts (.fieldLink RX0 52 "Usewise$Lease" "past" "I") (by decide +kernel)) (fun _ h9 => h9) rfl dX0_passOneMonth_22 ?_
  refine lv_iconst (v := nI 1) hx hb dX0_passOneMonth_25 (by decide) ?_
  refine z_iadd hx hb dX0_passOneMonth_26 ?_
  refine z_ai (wa := [(h, .inr (0, [.int (nI rt), .int (nI lf), .ref pa, .ref da, .int (nI T), .int (nI P), .long (lN R0), .long xI, .long xP, .long xW, .long xG])), (pa, .inl (g.2.1, 120, .inl u))]) (wc := [(da, .inl (g.2.1, 121, .inl v))]) (wb := []) (va_runS (As := [.ref da, .int (nI (P + 1))]) (rest := [.long xI, .ref h]) ⟨hx, hb, hml, hown, hts⟩ (c_at l g da 121 (P + 1) v (by omega) (by decide) H.size _ rfl) (va_cwS 2 hts gX0_passOneMonth_X0_at rfl rfl rfl (by decide +kernel) ⟨Nat.le_of_ble_eq_true rfl, Nat.le_of_ble_eq_true rfl⟩) (zpreS (wa := [(h, .inr (0, [.int (nI rt), .int (nI lf), .ref pa, .ref da, .int (nI T), .int (nI P), .long (lN R0), .long xI, .long xP, .long xW, .long xG])), (pa, .inl (g.2.1, 120, .inl u))]) (wc := [(da, .inl (g.2.1, 121, .inl v))]) (wb := []) hK hP hD) rfl rfl hl.1 rfl (lv_room (Nat.le_of_ble_eq_true rfl)) dX0_passOneMonth_27 ⟨Nat.le_of_ble_eq_true rfl, Nat.le_of_ble_eq_true rfl⟩) hP hD hS hA (fun r_2 w1 H locs hq hP hD hS => ?_)
  obtain ⟨rfl, rfl⟩ := hq
  have hP : va_P g.1 vwCl [(h, .inr (0, [.int (nI rt), .int (nI lf), .ref pa, .ref da, .int (nI T), .int (nI P), .long (lN R0), .long xI, .long xP, .long xW, .long xG])), (pa, .inl (g.2.1, 120, .inl u)), (da, .inl (g.2.1, 121, .inl v))] H := hP
  have hD : va_D A [(h, .inr (0, [.int (nI rt), .int (nI lf), .ref pa, .ref da, .int (nI T), .int (nI P), .long (lN R0), .long xI, .long xP, .long xW, .long xG])), (pa, .inl (g.2.1, 120, .inl u)), (da, .inl (g.2.1, 121, .inl v))] := hD
  refine zi (y := nI (zWr rt py T (T - (P + 1)))) (hv (P + 1) (by omega) (by omega)) ?_
  refine lv_iload_n hx hb dX0_passOneMonth_30 rfl (lv_at hl 0 rfl) ?_
  refine z_iadd hx hb dX0_passOneMonth_31 ?_
  refine lv_aload_n hx hb dX0_passOneMonth_32 rfl (lv_at hl 1 rfl) ?_
  refine va_get (D := g.1) (ci := 0) (v := .ref da) (C := RX0) (T := TX0) (N := 11) hx hb hts hinX0 hown hK hP 0 rfl rfl 3 (by decide) (hts (.fieldLink RX0 34 "Usewise$Lease" "debts" "[I") (by decide +kernel)) (fun _ h9 => h9) rfl dX0_passOneMonth_33 ?_
  refine lv_aload_n hx hb dX0_passOneMonth_36 rfl (lv_at hl 1 rfl) ?_
  refine va_get (D := g.1) (ci := 0) (v := .int (nI P)) (C := RX0) (T := TX0) (N := 11) hx hb hts hinX0 hown hK hP 0 rfl rfl 5 (by decide) (hts (.fieldLink RX0 52 "Usewise$Lease" "past" "I") (by decide +kernel)) (fun _ h9 => h9) rfl dX0_passOneMonth_37 ?_
  refine z_ai (wa := [(h, .inr (0, [.int (nI rt), .int (nI lf), .ref pa, .ref da, .int (nI T), .int (nI P), .long (lN R0), .long xI, .long xP, .long xW, .long xG])), (pa, .inl (g.2.1, 120, .inl u))]) (wc := [(da, .inl (g.2.1, 121, .inl v))]) (wb := []) (va_runS (As := [.ref da, .int (nI P)]) (rest := [.int (nI (zWr rt py T (T - (P + 1)) + (py P))), .long xI, .ref h]) ⟨hx, hb, hml, hown, hts⟩ (c_at l g da 121 P v (by omega) (by decide) H.size _ rfl) (va_cwS 2 hts gX0_passOneMonth_X0_at rfl rfl rfl (by decide +kernel) ⟨Nat.le_of_ble_eq_true rfl, Nat.le_of_ble_eq_true rfl⟩) (zpreS (wa := [(h, .inr (0, [.int (nI rt), .int (nI lf), .ref pa, .ref da, .int (nI T), .int (nI P), .long (lN R0), .long xI, .long xP, .long xW, .long xG])), (pa, .inl (g.2.1, 120, .inl u))]) (wc := [(da, .inl (g.2.1, 121, .inl v))]) (wb := []) hK hP hD) rfl rfl hl.1 rfl (lv_room (Nat.le_of_ble_eq_true rfl)) dX0_passOneMonth_40 ⟨Nat.le_of_ble_eq_true rfl, Nat.le_of_ble_eq_true rfl⟩) hP hD hS hA (fun r_3 w1 H locs hq hP hD hS => ?_)
  obtain ⟨rfl, rfl⟩ := hq
  have hP : va_P g.1 vwCl [(h, .inr (0, [.int (nI rt), .int (nI lf), .ref pa, .ref da, .int (nI T), .int (nI P), .long (lN R0), .long xI, .long xP, .long xW, .long xG])), (pa, .inl (g.2.1, 120, .inl u)), (da, .inl (g.2.1, 121, .inl v))] H := hP
  have hD : va_D A [(h, .inr (0, [.int (nI rt), .int (nI lf), .ref pa, .ref da, .int (nI T), .int (nI P), .long (lN R0), .long xI, .long xP, .long xW, .long xG])), (pa, .inl (g.2.1, 120, .inl u)), (da, .inl (g.2.1, 121, .inl v))] := hD
  refine zi (y := nI (zWr rt py T (T - P))) (hv P (by omega) (by omega)) ?_
  refine lv_isub hx hb dX0_passOneMonth_43 ?_
  refine lv_i2l hx hb dX0_passOneMonth_44 rfl ?_
  refine lv_ladd hx hb dX0_passOneMonth_45 ?_
  refine va_put (D := g.1) (ci := 0) (v := .long (xI + (((nI (zWr rt py T (T - (P + 1)) + (py P))) - (nI (zWr rt py T (T - P)))).toInt64))) (ty := .long) (C := RX0) (T := TX0) (N := 11) hx hb hts hinX0 tyX0 tyX0_ok nmX0 hown hK hP hD hS 0 rfl rfl 7 (by decide) (hts (.fieldLink RX0 71 "Usewise$Lease" "interest" "J") (by decide +kernel)) (fun _ h9 => h9) rfl (by decide +kernel) rfl rfl (Nat.le_of_ble_eq_true rfl) dX0_passOneMonth_46 (fun H locs hP hD hS => ?_)
  have hP : va_P g.1 vwCl [(h, .inr (0, [.int (nI rt), .int (nI lf), .ref pa, .ref da, .int (nI T), .int (nI P), .long (lN R0), .long (xI + (((nI (zWr rt py T (T - (P + 1)) + (py P))) - (nI (zWr rt py T (T - P)))).toInt64)), .long xP, .long xW, .long xG])), (pa, .inl (g.2.1, 120, .inl u)), (da, .inl (g.2.1, 121, .inl v))] H := hP
  have hD : va_D A [(h, .inr (0, [.int (nI rt), .int (nI lf), .ref pa, .ref da, .int (nI T), .int (nI P), .long (lN R0), .long (xI + (((nI (zWr rt py T (T - (P + 1)) + (py P))) - (nI (zWr rt py T (T - P)))).toInt64)), .long xP, .long xW, .long xG])), (pa, .inl (g.2.1, 120, .inl u)), (da, .inl (g.2.1, 121, .inl v))] := hD
  refine lv_aload_n hx hb dX0_passOneMonth_49 rfl (lv_at hl 1 rfl) ?_
  refine lv_dup hx hb dX0_passOneMonth_50 rfl ?_
  refine va_get (D := g.1) (ci := 0) (v := .long xP) (C := RX0) (T := TX0) (N := 11) hx hb hts hinX0 hown hK hP 0 rfl rfl 8 (by decide) (hts (.fieldLink RX0 74 "Usewise$Lease" "paid" "J") (by decide +kernel)) (fun _ h9 => h9) rfl dX0_passOneMonth_51 ?_
  have hpP := hp P (by omega) (by omega)
  have hm0 : zMW lf T P = max 1 (min (T - P) (lf - P)) := rfl
  refine lv_iload_n hx hb dX0_passOneMonth_54 rfl (lv_at hl 0 rfl) ?_
  refine z_i2l hx hb dX0_passOneMonth_55 (by omega) ?_
  refine lv_ladd hx hb dX0_passOneMonth_56 ?_
  refine va_put (D := g.1) (ci := 0) (v := .long (xP + (lN (py P)))) (ty := .long) (C := RX0) (T := TX0) (N := 11) hx hb hts hinX0 tyX0 tyX0_ok nmX0 hown hK hP hD hS 0 rfl rfl 8 (by decide) (hts (.fieldLink RX0 74 "Usewise$Lease" "paid" "J") (by decide +kernel)) (fun _ h9 => h9) rfl (by decide +kernel) rfl rfl (Nat.le_of_ble_eq_true rfl) dX0_passOneMonth_57 (fun H locs hP hD hS => ?_)
  have hP : va_P g.1 vwCl [(h, .inr (0, [.int (nI rt), .int (nI lf), .ref pa, .ref da, .int (nI T), .int (nI P), .long (lN R0), .long (xI + (((nI (zWr rt py T (T - (P + 1)) + (py P))) - (nI (zWr rt py T (T - P)))).toInt64)), .long (xP + (lN (py P))), .long xW, .long xG])), (pa, .inl (g.2.1, 120, .inl u)), (da, .inl (g.2.1, 121, .inl v))] H := hP
  have hD : va_D A [(h, .inr (0, [.int (nI rt), .int (nI lf), .ref pa, .ref da, .int (nI T), .int (nI P), .long (lN R0), .long (xI + (((nI (zWr rt py T (T - (P + 1)) + (py P))) - (nI (zWr rt py T (T - P)))).toInt64)), .long (xP + (lN (py P))), .long xW, .long xG])), (pa, .inl (g.2.1, 120, .inl u)), (da, .inl (g.2.1, 121, .inl v))] := hD
  refine lv_aload_n hx hb dX0_passOneMonth_60 rfl (lv_at hl 1 rfl) ?_
  refine va_get (D := g.1) (ci := 0) (v := .int (nI T)) (C := RX0) (T := TX0) (N := 11) hx hb hts hinX0 hown hK hP 0 rfl rfl 4 (by decide) (hts (.fieldLink RX0 27 "Usewise$Lease" "term" "I") (by decide +kernel)) (fun _ h9 => h9) rfl dX0_passOneMonth_61 ?_
  refine lv_aload_n hx hb dX0_passOneMonth_64 rfl (lv_at hl 1 rfl) ?_
  refine va_get (D := g.1) (ci := 0) (v := .int (nI lf)) (C := RX0) (T := TX0) (N := 11) hx hb hts hinX0 hown hK hP 0 rfl rfl 1 (by decide) (hts (.fieldLink RX0 15 "Usewise$Lease" "life" "I") (by decide +kernel)) (fun _ h9 => h9) rfl dX0_passOneMonth_65 ?_
  refine va_mmin hx hb (hml.trans hl.1.symm) hown (hts (.methodLink RX0 18 Lib.Math.min.name) (by decide +kernel)) (hts (.static Lib.Math.min.name) (by decide +kernel)) (hts (.initialized "java/lang/Math") (by decide +kernel)) (hts (.code Lib.Math.min.name Lib.Math.min.code 2 (some .int)) (by decide +kernel)) (Nat.le_of_ble_eq_true rfl) (Nat.le_of_ble_eq_true rfl) (Nat.le_of_ble_eq_true rfl) (Nat.le_of_ble_eq_true rfl) dX0_passOneMonth_68 ?_
  refine zi (y := nI (min T lf)) (z_min (by omega) (by omega)) ?_
  refine lv_aload_n hx hb dX0_passOneMonth_71 rfl (lv_at hl 1 rfl) ?_
  refine va_get (D := g.1) (ci := 0) (v := .int (nI P)) (C := RX0) (T := TX0) (N := 11) hx hb hts hinX0 hown hK hP 0 rfl rfl 5 (by decide) (hts (.fieldLink RX0 52 "Usewise$Lease" "past" "I") (by decide +kernel)) (fun _ h9 => h9) rfl dX0_passOneMonth_72 ?_
  refine lv_isub hx hb dX0_passOneMonth_75 ?_
  refine lv_istore_n (lv' := [(2, .int ((nI (min T lf)) - (nI P))), (1, .int (nI (py P))), (0, .ref h)]) hx hb dX0_passOneMonth_76 rfl hl (by decide) rfl (fun ls hl => ?_)
  refine lv_iload_n hx hb dX0_passOneMonth_77 rfl (lv_at hl 0 rfl) ?_
  refine lv_iconst (v := nI 1) hx hb dX0_passOneMonth_78 (by decide) ?_
  refine lv_icmp_le (tgt := 92) hx hb dX0_passOneMonth_79 (by decide) (fun hc => ?_) (fun hc => ?_)
  · rw [Int32.le_iff_toInt_le, pk_sub_toInt (by omega) (by omega), nI_toInt (by decide)] at hc
    refine lv_aload_n hx hb dX0_passOneMonth_92 rfl (lv_at hl 2 rfl) ?_
    refine va_get (D := g.1) (ci := 0) (v := .long (lN R0)) (C := RX0) (T := TX0) (N := 11) hx hb hts hinX0 hown hK hP 0 rfl rfl 6 (by decide) (hts (.fieldLink RX0 48 "Usewise$Lease" "right" "J") (by decide +kernel)) (fun _ h9 => h9) rfl dX0_passOneMonth_93 ?_
    refine zl (y := lN (R0 / zMW lf T P)) (by rw [show zMW lf T P = 1 by omega, Nat.div_one]) ?_
    refine lv_lstore_n (lv' := [(3, .long (lN (R0 / zMW lf T P))), (2, .int ((nI (min T lf)) - (nI P))), (1, .int (nI (py P))), (0, .ref h)]) hx hb dX0_passOneMonth_96 rfl hl (by decide) rfl (fun ls hl => ?_)
    refine lv_aload_n hx hb dX0_passOneMonth_97 rfl (lv_at hl 3 rfl) ?_
    refine lv_dup hx hb dX0_passOneMonth_98 rfl ?_
    refine va_get (D := g.1) (ci := 0) (v := .long xW) (C := RX0) (T := TX0) (N := 11) hx hb hts hinX0 hown hK hP 0 rfl rfl 9 (by decide) (hts (.fieldLink RX0 77 "Usewise$Lease" "written" "J") (by decide +kernel)) (fun _ h9 => h9) rfl dX0_passOneMonth_99 ?_
    refine lv_lload_n hx hb dX0_passOneMonth_102 rfl (lv_at hl 0 rfl) ?_
    refine lv_ladd hx hb dX0_passOneMonth_103 ?_
    refine va_put (D := g.1) (ci := 0) (v := .long (xW + (lN (R0 / zMW lf T P)))) (ty := .long) (C := RX0) (T := TX0) (N := 11) hx hb hts hinX0 tyX0 tyX0_ok nmX0 hown hK hP hD hS 0 rfl rfl 9 (by decide) (hts (.fieldLink RX0 77 "Usewise$Lease" "written" "J") (by decide +kernel)) (fun _ h9 => h9) rfl (by decide +kernel) rfl rfl (Nat.le_of_ble_eq_true rfl) dX0_passOneMonth_104 (fun H locs hP hD hS => ?_)
    have hP : va_P g.1 vwCl [(h, .inr (0, [.int (nI rt), .int (nI lf), .ref pa, .ref da, .int (nI T), .int (nI P), .long (lN R0), .long (xI + (((nI (zWr rt py T (T - (P + 1)) + (py P))) - (nI (zWr rt py T (T - P)))).toInt64)), .long (xP + (lN (py P))), .long (xW + (lN (R0 / zMW lf T P))), .long xG])), (pa, .inl (g.2.1, 120, .inl u)), (da, .inl (g.2.1, 121, .inl v))] H := hP
    have hD : va_D A [(h, .inr (0, [.int (nI rt), .int (nI lf), .ref pa, .ref da, .int (nI T), .int (nI P), .long (lN R0), .long (xI + (((nI (zWr rt py T (T - (P + 1)) + (py P))) - (nI (zWr rt py T (T - P)))).toInt64)), .long (xP + (lN (py P))), .long (xW + (lN (R0 / zMW lf T P))), .long xG])), (pa, .inl (g.2.1, 120, .inl u)), (da, .inl (g.2.1, 121, .inl v))] := hD
    refine lv_aload_n hx hb dX0_passOneMonth_107 rfl (lv_at hl 3 rfl) ?_
    refine lv_dup hx hb dX0_passOneMonth_108 rfl ?_
    refine va_get (D := g.1) (ci := 0) (v := .long (lN R0)) (C := RX0) (T := TX0) (N := 11) hx hb hts hinX0 hown hK hP 0 rfl rfl 6 (by decide) (hts (.fieldLink RX0 48 "Usewise$Lease" "right" "J") (by decide +kernel)) (fun _ h9 => h9) rfl dX0_passOneMonth_109 ?_
    refine lv_lload_n hx hb dX0_passOneMonth_112 rfl (lv_at hl 0 rfl) ?_
    refine z_lsub hx hb dX0_passOneMonth_113 (Nat.div_le_self _ _) ?_
    refine va_put (D := g.1) (ci := 0) (v := .long (lN (R0 - (R0 / zMW lf T P)))) (ty := .long) (C := RX0) (T := TX0) (N := 11) hx hb hts hinX0 tyX0 tyX0_ok nmX0 hown hK hP hD hS 0 rfl rfl 6 (by decide) (hts (.fieldLink RX0 48 "Usewise$Lease" "right" "J") (by decide +kernel)) (fun _ h9 => h9) rfl (by decide +kernel) rfl rfl (Nat.le_of_ble_eq_true rfl) dX0_passOneMonth_114 (fun H locs hP hD hS => ?_)
    have hP : va_P g.1 vwCl [(h, .inr (0, [.int (nI rt), .int (nI lf), .ref pa, .ref da, .int (nI T), .int (nI P), .long (lN (R0 - (R0 / zMW lf T P))), .long (xI + (((nI (zWr rt py T (T - (P + 1)) + (py P))) - (nI (zWr rt py T (T - P)))).toInt64)), .long (xP + (lN (py P))), .long (xW + (lN (R0 / zMW lf T P))), .long xG])), (pa, .inl (g.2.1, 120, .inl u)), (da, .inl (g.2.1, 121, .inl v))] H := hP
    have hD : va_D A [(h, .inr (0, [.int (nI rt), .int (nI lf), .ref pa, .ref da, .int (nI T), .int (nI P), .long (lN (R0 - (R0 / zMW lf T P))), .long (xI + (((nI (zWr rt py T (T - (P + 1)) + (py P))) - (nI (zWr rt py T (T - P)))).toInt64)), .long (xP + (lN (py P))), .long (xW + (lN (R0 / zMW lf T P))), .long xG])), (pa, .inl (g.2.1, 120, .inl u)), (da, .inl (g.2.1, 121, .inl v))] := hD
    refine lv_aload_n hx hb dX0_passOneMonth_117 rfl (lv_at hl 3 rfl) ?_
    refine lv_dup hx hb dX0_passOneMonth_118 rfl ?_
    refine va_get (D := g.1) (ci := 0) (v := .int (nI P)) (C := RX0) (T := TX0) (N := 11) hx hb hts hinX0 hown hK hP 0 rfl rfl 5 (by decide) (hts (.fieldLink RX0 52 "Usewise$Lease" "past" "I") (by decide +kernel)) (fun _ h9 => h9) rfl dX0_passOneMonth_119 ?_
    refine lv_iconst (v := nI 1) hx hb dX0_passOneMonth_122 (by decide) ?_
    refine z_iadd hx hb dX0_passOneMonth_123 ?_
    refine va_put (D := g.1) (ci := 0) (v := .int (nI (P + 1))) (ty := .int) (C := RX0) (T := TX0) (N := 11) hx hb hts hinX0 tyX0 tyX0_ok nmX0 hown hK hP hD hS 0 rfl rfl 5 (by decide) (hts (.fieldLink RX0 52 "Usewise$Lease" "past" "I") (by decide +kernel)) (fun _ h9 => h9) rfl (by decide +kernel) rfl rfl (Nat.le_of_ble_eq_true rfl) dX0_passOneMonth_124 (fun H locs hP hD hS => ?_)
    have hP : va_P g.1 vwCl [(h, .inr (0, [.int (nI rt), .int (nI lf), .ref pa, .ref da, .int (nI T), .int (nI (P + 1)), .long (lN (R0 - (R0 / zMW lf T P))), .long (xI + (((nI (zWr rt py T (T - (P + 1)) + (py P))) - (nI (zWr rt py T (T - P)))).toInt64)), .long (xP + (lN (py P))), .long (xW + (lN (R0 / zMW lf T P))), .long xG])), (pa, .inl (g.2.1, 120, .inl u)), (da, .inl (g.2.1, 121, .inl v))] H := hP
    have hD : va_D A [(h, .inr (0, [.int (nI rt), .int (nI lf), .ref pa, .ref da, .int (nI T), .int (nI (P + 1)), .long (lN (R0 - (R0 / zMW lf T P))), .long (xI + (((nI (zWr rt py T (T - (P + 1)) + (py P))) - (nI (zWr rt py T (T - P)))).toInt64)), .long (xP + (lN (py P))), .long (xW + (lN (R0 / zMW lf T P))), .long xG])), (pa, .inl (g.2.1, 120, .inl u)), (da, .inl (g.2.1, 121, .inl v))] := hD
    exact z_vret hx hb hr hP hK hD hS dX0_passOneMonth_127 hlocks (⟨(_, _, _, _, _, _), rfl, by rw [z64_add, z32_64, hI, ← nI_add], by rw [z64_add, lN_i, hPd], by rw [z64_add, lN_i, hWn], hG, fun j h1 h2 => hu j (by omega) h2, fun j h1 h2 => hv j (by omega) h2⟩)
  · rw [Int32.le_iff_toInt_le, pk_sub_toInt (by omega) (by omega), nI_toInt (by decide)] at hc
    refine lv_aload_n hx hb dX0_passOneMonth_82 rfl (lv_at hl 2 rfl) ?_
    refine va_get (D := g.1) (ci := 0) (v := .long (lN R0)) (C := RX0) (T := TX0) (N := 11) hx hb hts hinX0 hown hK hP 0 rfl rfl 6 (by decide) (hts (.fieldLink RX0 48 "Usewise$Lease" "right" "J") (by decide +kernel)) (fun _ h9 => h9) rfl dX0_passOneMonth_83 ?_
    refine lv_iload_n hx hb dX0_passOneMonth_86 rfl (lv_at hl 0 rfl) ?_
    refine zi (y := nI (zMW lf T P)) ((pk_sub (by omega)).trans (by rw [show min T lf - P = zMW lf T P by omega])) ?_
    refine z_i2l hx hb dX0_passOneMonth_87 (by omega) ?_
    refine z_ldiv hx hb dX0_passOneMonth_88 (by omega) (by omega) (by omega) ?_
    refine lv_goto (tgt := 96) hx hb dX0_passOneMonth_89 (by decide) ?_
    refine lv_lstore_n (lv' := [(3, .long (lN (R0 / (zMW lf T P)))), (2, .int ((nI (min T lf)) - (nI P))), (1, .int (nI (py P))), (0, .ref h)]) hx hb dX0_passOneMonth_96 rfl hl (by decide) rfl (fun ls hl => ?_)
    refine lv_aload_n hx hb dX0_passOneMonth_97 rfl (lv_at hl 3 rfl) ?_
    refine lv_dup hx hb dX0_passOneMonth_98 rfl ?_
    refine va_get (D := g.1) (ci := 0) (v := .long xW) (C := RX0) (T := TX0) (N := 11) hx hb hts hinX0 hown hK hP 0 rfl rfl 9 (by decide) (hts (.fieldLink RX0 77 "Usewise$Lease" "written" "J") (by decide +kernel)) (fun _ h9 => h9) rfl dX0_passOneMonth_99 ?_
    refine lv_lload_n hx hb dX0_passOneMonth_102 rfl (lv_at hl 0 rfl) ?_
    refine lv_ladd hx hb dX0_passOneMonth_103 ?_
    refine va_put (D := g.1) (ci := 0) (v := .long (xW + (lN (R0 / (zMW lf T P))))) (ty := .long) (C := RX0) (T := TX0) (N := 11) hx hb hts hinX0 tyX0 tyX0_ok nmX0 hown hK hP hD hS 0 rfl rfl 9 (by decide) (hts (.fieldLink RX0 77 "Usewise$Lease" "written" "J") (by decide +kernel)) (fun _ h9 => h9) rfl (by decide +kernel) rfl rfl (Nat.le_of_ble_eq_true rfl) dX0_passOneMonth_104 (fun H locs hP hD hS => ?_)
    have hP : va_P g.1 vwCl [(h, .inr (0, [.int (nI rt), .int (nI lf), .ref pa, .ref da, .int (nI T), .int (nI P), .long (lN R0), .long (xI + (((nI (zWr rt py T (T - (P + 1)) + (py P))) - (nI (zWr rt py T (T - P)))).toInt64)), .long (xP + (lN (py P))), .long (xW + (lN (R0 / (zMW lf T P)))), .long xG])), (pa, .inl (g.2.1, 120, .inl u)), (da, .inl (g.2.1, 121, .inl v))] H := hP
    have hD : va_D A [(h, .inr (0, [.int (nI rt), .int (nI lf), .ref pa, .ref da, .int (nI T), .int (nI P), .long (lN R0), .long (xI + (((nI (zWr rt py T (T - (P + 1)) + (py P))) - (nI (zWr rt py T (T - P)))).toInt64)), .long (xP + (lN (py P))), .long (xW + (lN (R0 / (zMW lf T P)))), .long xG])), (pa, .inl (g.2.1, 120, .inl u)), (da, .inl (g.2.1, 121, .inl v))] := hD
    refine lv_aload_n hx hb dX0_passOneMonth_107 rfl (lv_at hl 3 rfl) ?_
    refine lv_dup hx hb dX0_passOneMonth_108 rfl ?_
    refine va_get (D := g.1) (ci := 0) (v := .long (lN R0)) (C := RX0) (T := TX0) (N := 11) hx hb hts hinX0 hown hK hP 0 rfl rfl 6 (by decide) (hts (.fieldLink RX0 48 "Usewise$Lease" "right" "J") (by decide +kernel)) (fun _ h9 => h9) rfl dX0_passOneMonth_109 ?_
    refine lv_lload_n hx hb dX0_passOneMonth_112 rfl (lv_at hl 0 rfl) ?_
    refine z_lsub hx hb dX0_passOneMonth_113 (Nat.div_le_self _ _) ?_
    refine va_put (D := g.1) (ci := 0) (v := .long (lN (R0 - (R0 / (zMW lf T P))))) (ty := .long) (C := RX0) (T := TX0) (N := 11) hx hb hts hinX0 tyX0 tyX0_ok nmX0 hown hK hP hD hS 0 rfl rfl 6 (by decide) (hts (.fieldLink RX0 48 "Usewise$Lease" "right" "J") (by decide +kernel)) (fun _ h9 => h9) rfl (by decide +kernel) rfl rfl (Nat.le_of_ble_eq_true rfl) dX0_passOneMonth_114 (fun H locs hP hD hS => ?_)
    have hP : va_P g.1 vwCl [(h, .inr (0, [.int (nI rt), .int (nI lf), .ref pa, .ref da, .int (nI T), .int (nI P), .long (lN (R0 - (R0 / (zMW lf T P)))), .long (xI + (((nI (zWr rt py T (T - (P + 1)) + (py P))) - (nI (zWr rt py T (T - P)))).toInt64)), .long (xP + (lN (py P))), .long (xW + (lN (R0 / (zMW lf T P)))), .long xG])), (pa, .inl (g.2.1, 120, .inl u)), (da, .inl (g.2.1, 121, .inl v))] H := hP
    have hD : va_D A [(h, .inr (0, [.int (nI rt), .int (nI lf), .ref pa, .ref da, .int (nI T), .int (nI P), .long (lN (R0 - (R0 / (zMW lf T P)))), .long (xI + (((nI (zWr rt py T (T - (P + 1)) + (py P))) - (nI (zWr rt py T (T - P)))).toInt64)), .long (xP + (lN (py P))), .long (xW + (lN (R0 / (zMW lf T P)))), .long xG])), (pa, .inl (g.2.1, 120, .inl u)), (da, .inl (g.2.1, 121, .inl v))] := hD
    refine lv_aload_n hx hb dX0_passOneMonth_117 rfl (lv_at hl 3 rfl) ?_
    refine lv_dup hx hb dX0_passOneMonth_118 rfl ?_
    refine va_get (D := g.1) (ci := 0) (v := .int (nI P)) (C := RX0) (T := TX0) (N := 11) hx hb hts hinX0 hown hK hP 0 rfl rfl 5 (by decide) (hts (.fieldLink RX0 52 "Usewise$Lease" "past" "I") (by decide +kernel)) (fun _ h9 => h9) rfl dX0_passOneMonth_119 ?_
    refine lv_iconst (v := nI 1) hx hb dX0_passOneMonth_122 (by decide) ?_
    refine z_iadd hx hb dX0_passOneMonth_123 ?_
    refine va_put (D := g.1) (ci := 0) (v := .int (nI (P + 1))) (ty := .int) (C := RX0) (T := TX0) (N := 11) hx hb hts hinX0 tyX0 tyX0_ok nmX0 hown hK hP hD hS 0 rfl rfl 5 (by decide) (hts (.fieldLink RX0 52 "Usewise$Lease" "past" "I") (by decide +kernel)) (fun _ h9 => h9) rfl (by decide +kernel) rfl rfl (Nat.le_of_ble_eq_true rfl) dX0_passOneMonth_124 (fun H locs hP hD hS => ?_)
    have hP : va_P g.1 vwCl [(h, .inr (0, [.int (nI rt), .int (nI lf), .ref pa, .ref da, .int (nI T), .int (nI (P + 1)), .long (lN (R0 - (R0 / (zMW lf T P)))), .long (xI + (((nI (zWr rt py T (T - (P + 1)) + (py P))) - (nI (zWr rt py T (T - P)))).toInt64)), .long (xP + (lN (py P))), .long (xW + (lN (R0 / (zMW lf T P)))), .long xG])), (pa, .inl (g.2.1, 120, .inl u)), (da, .inl (g.2.1, 121, .inl v))] H := hP
    have hD : va_D A [(h, .inr (0, [.int (nI rt), .int (nI lf), .ref pa, .ref da, .int (nI T), .int (nI (P + 1)), .long (lN (R0 - (R0 / (zMW lf T P)))), .long (xI + (((nI (zWr rt py T (T - (P + 1)) + (py P))) - (nI (zWr rt py T (T - P)))).toInt64)), .long (xP + (lN (py P))), .long (xW + (lN (R0 / (zMW lf T P)))), .long xG])), (pa, .inl (g.2.1, 120, .inl u)), (da, .inl (g.2.1, 121, .inl v))] := hD
    exact z_vret hx hb hr hP hK hD hS dX0_passOneMonth_127 hlocks (⟨(_, _, _, _, _, _), rfl, by rw [z64_add, z32_64, hI, ← nI_add], by rw [z64_add, lN_i, hPd], by rw [z64_add, lN_i, hWn], hG, fun j h1 h2 => hu j (by omega) h2, fun j h1 h2 => hv j (by omega) h2⟩)

set_option maxHeartbeats 4000000 in
set_option maxRecDepth 100000 in
theorem c_endsWithin (l : Launch) (g : zG) (h pa da rt lf T P R0 : Nat) (py : Nat → Nat) (I Pd Wn G : Int32) (xI xP xW xG : Int64) (u v : Nat → Int32) (k0 : Nat) (hZ : zInv rt lf (T, P, py, R0, I, Pd, Wn, G)) (hC : zCR rt (T, P, py, R0, I, Pd, Wn, G) (xI, xP, xW, xG, u, v)) (hk0 : 1 ≤ k0 ∧ k0 ≤ 24) : zMi l yX0_endsWithin wsX0_endsWithin ({ frames := 3, cells := 0, slots := 0, locals := 70 } : Room) [.ref h, .int (nI k0)] g [(h, .inr (0, [.int (nI rt), .int (nI lf), .ref pa, .ref da, .int (nI T), .int (nI P), .long (lN R0), .long xI, .long xP, .long xW, .long xG])), (pa, .inl (g.2.1, 120, .inl u)), (da, .inl (g.2.1, 121, .inl v))] (fun q w => (∃ q', w = zLW g (h, pa, da) rt lf (zIt rt lf (min k0 (T - P)) (T, P, py, R0, I, Pd, Wn, G)) q' ∧ zCR rt (zIt rt lf (min k0 (T - P)) (T, P, py, R0, I, Pd, Wn, G)) q') ∧ ((0 < T - P ∧ T - P ≤ k0 ∧ q = nI 1) ∨ (¬ (0 < T - P ∧ T - P ≤ k0) ∧ q = nI 0))) 0 0 := by
  intro sz A hAe
  refine Met.ofW (cc := cX0_endsWithin) (maxL := 4) (ret := some .boolean) (by decide) rfl ?_
  intro p e s m args below meth c s₁ B hml hv
  obtain ⟨rfl, hsz, hP, hK, hD0⟩ := hv
  have hx := B.exec
  have hb := B.bytes
  have hr := B.returns
  have hts := atoms_spec (ws := wsX0_endsWithin) B.pre
  have hown : s.vm.findClass RX0 = some m.cls := findClass_of_methodNamed B.named
  have hlocks := B.notSynchronized
  obtain ⟨hD, hA, hS⟩ := z_in hsz hAe hD0
  have hl := lv_entry ([.ref h, .int (nI k0)]) (n := 4) (Nat.le_of_ble_eq_true rfl)
  rw [lg_entry_eq]
  generalize (lg_sl ([.ref h, .int (nI k0)]) ++ List.replicate (4 - (lg_sl ([.ref h, .int (nI k0)])).length) Slot.unset).toArray = ls at hl ⊢
  have hl : lv_has ls 4 [(0, .ref h), (1, .int (nI k0))] := hl
  have hinX0 : ∀ w ∈ wsX00, w ∈ wsX0_endsWithin := by decide +kernel
  obtain ⟨hT, hPT, hrt, hlf, hp, hRb⟩ := id hZ
  obtain ⟨hI, hPd, hWn, hG, hu, hv⟩ := id hC
  have hD0 := z_wb (r := rt) (j := P) hT hp (Nat.le_refl P)
  have hR2 := zInv_R hZ
  refine lv_iload_n hx hb dX0_endsWithin_0 rfl (lv_at hl 1 rfl) ?_
  refine lv_aload_n hx hb dX0_endsWithin_1 rfl (lv_at hl 0 rfl) ?_
  refine z_ai (wa := []) (wc := [(h, .inr (0, [.int (nI rt), .int (nI lf), .ref pa, .ref da, .int (nI T), .int (nI P), .long (lN R0), .long xI, .long xP, .long xW, .long xG])), (pa, .inl (g.2.1, 120, .inl u)), (da, .inl (g.2.1, 121, .inl v))]) (wb := []) (va_runV (As := []) (rest := [.int (nI k0)]) ⟨hx, hb, hml, hown, hts⟩ (c_monthsLeft l g h pa da rt lf T P (lN R0) xI xP xW xG u v hPT s.heap.size _ rfl) (cwV 0 hts gX0_endsWithin_X0_monthsLeft rfl rfl rfl (by decide +kernel) ⟨Nat.le_of_ble_eq_true rfl, Nat.le_of_ble_eq_true rfl⟩) (zpreV (wa := []) (wc := [(h, .inr (0, [.int (nI rt), .int (nI lf), .ref pa, .ref da, .int (nI T), .int (nI P), .long (lN R0), .long xI, .long xP, .long xW, .long xG])), (pa, .inl (g.2.1, 120, .inl u)), (da, .inl (g.2.1, 121, .inl v))]) (wb := []) (q0 := 0) (ci := 0) (T := TX0) (N := 11) hK hP hD rfl rfl) rfl rfl hl.1 rfl (lv_room (Nat.le_of_ble_eq_true rfl)) dX0_endsWithin_2 ⟨Nat.le_of_ble_eq_true rfl, Nat.le_of_ble_eq_true rfl⟩) hP hD hS hA (fun r_1 w1 H locs hq hP hD hS => ?_)
  obtain ⟨rfl, rfl⟩ := hq
  have hP : va_P g.1 vwCl [(h, .inr (0, [.int (nI rt), .int (nI lf), .ref pa, .ref da, .int (nI T), .int (nI P), .long (lN R0), .long xI, .long xP, .long xW, .long xG])), (pa, .inl (g.2.1, 120, .inl u)), (da, .inl (g.2.1, 121, .inl v))] H := hP
  have hD : va_D A [(h, .inr (0, [.int (nI rt), .int (nI lf), .ref pa, .ref da, .int (nI T), .int (nI P), .long (lN R0), .long xI, .long xP, .long xW, .long xG])), (pa, .inl (g.2.1, 120, .inl u)), (da, .inl (g.2.1, 121, .inl v))] := hD
  refine va_mmin hx hb (hml.trans hl.1.symm) hown (hts (.methodLink RX0 18 Lib.Math.min.name) (by decide +kernel)) (hts (.static Lib.Math.min.name) (by decide +kernel)) (hts (.initialized "java/lang/Math") (by decide +kernel)) (hts (.code Lib.Math.min.name Lib.Math.min.code 2 (some .int)) (by decide +kernel)) (Nat.le_of_ble_eq_true rfl) (Nat.le_of_ble_eq_true rfl) (Nat.le_of_ble_eq_true rfl) (Nat.le_of_ble_eq_true rfl) dX0_endsWithin_5 ?_
  refine zi (y := nI (min k0 (T - P))) (z_min (by omega) (by omega)) ?_
  refine lv_istore_n (lv' := [(2, .int (nI (min k0 (T - P)))), (0, .ref h), (1, .int (nI k0))]) hx hb dX0_endsWithin_8 rfl hl (by decide) rfl (fun ls hl => ?_)
  refine lv_iconst (v := nI 0) hx hb dX0_endsWithin_9 (by decide) ?_
  refine lv_istore_n (lv' := [(3, .int (nI 0)), (2, .int (nI (min k0 (T - P)))), (0, .ref h), (1, .int (nI k0))]) hx hb dX0_endsWithin_10 rfl hl (by decide) rfl (fun ls hl => ?_)
  have loop : ∀ (n : Nat) (i : Nat) (P' R' : Nat) (py' : Nat → Nat) (I' Pd' Wn' G' : Int32) (yI yP yW yG : Int64) (u2 v2 : Nat → Int32) (H : Heap) (locs : List Loc) (ls : Array Slot), min k0 (T - P) < i + n → i ≤ min k0 (T - P) → zIt rt lf i (T, P, py, R0, I, Pd, Wn, G) = (T, P', py', R', I', Pd', Wn', G') → zInv rt lf (T, P', py', R', I', Pd', Wn', G') → zCR rt (T, P', py', R', I', Pd', Wn', G') (yI, yP, yW, yG, u2, v2) → va_P g.1 vwCl [(h, .inr (0, [.int (nI rt), .int (nI lf), .ref pa, .ref da, .int (nI T), .int (nI P'), .long (lN R'), .long yI, .long yP, .long yW, .long yG])), (pa, .inl (g.2.1, 120, .inl u2)), (da, .inl (g.2.1, 121, .inl v2))] H → va_D A [(h, .inr (0, [.int (nI rt), .int (nI lf), .ref pa, .ref da, .int (nI T), .int (nI P'), .long (lN R'), .long yI, .long yP, .long yW, .long yG])), (pa, .inl (g.2.1, 120, .inl u2)), (da, .inl (g.2.1, 121, .inl v2))] → va_S A s.heap H locs → lv_has ls 4 [(3, .int (nI i)), (2, .int (nI (min k0 (T - P)))), (0, .ref h), (1, .int (nI k0))] → W p l e (headSpec wsX0_endsWithin ({ frames := 3, cells := 0, slots := 0, locals := 70 } : Room)).room s m ([.ref h, .int (nI k0)] : List Value).toArray below meth c H locs 0 0 (MQ below (va_Qi (fun q w => (∃ q', w = zLW g (h, pa, da) rt lf (zIt rt lf (min k0 (T - P)) (T, P, py, R0, I, Pd, Wn, G)) q' ∧ zCR rt (zIt rt lf (min k0 (T - P)) (T, P, py, R0, I, Pd, Wn, G)) q') ∧ ((0 < T - P ∧ T - P ≤ k0 ∧ q = nI 1) ∨ (¬ (0 < T - P ∧ T - P ≤ k0) ∧ q = nI 0))) (zOut g A) A) ([.ref h, .int (nI k0)] : List Value).toArray s 0 0 A) (F0 m 11 ls []) := by
    intro n
    induction n with
    | zero =>
      intro i P' R' py' I' Pd' Wn' G' yI yP yW yG u2 v2 H locs ls hn hi hz hZ2 hC2 hP hD hS hl
      omega
    | succ n ih =>
      intro i P' R' py' I' Pd' Wn' G' yI yP yW yG u2 v2 H locs ls hn hi hz hZ2 hC2 hP hD hS hl
      refine lv_iload_n hx hb dX0_endsWithin_11 rfl (lv_at hl 0 rfl) ?_
      refine lv_iload_n hx hb dX0_endsWithin_12 rfl (lv_at hl 1 rfl) ?_
      refine z_icmp_ge (tgt := 26) hx hb dX0_endsWithin_13 (by decide) (by omega) (by omega) (fun hc => ?_) (fun hc => ?_)
      · obtain rfl : i = min k0 (T - P) := by omega
        have hP' : P' = P + min k0 (T - P) := by have z := zIt_P rt lf (T, P, py, R0, I, Pd, Wn, G) (min k0 (T - P)); rw [hz] at z; exact z
        obtain ⟨hT2, hPT2, -, -, -, -⟩ := id hZ2
        refine lv_iload_n hx hb dX0_endsWithin_26 rfl (lv_at hl 1 rfl) ?_
        refine z_if_le (tgt := 41) hx hb dX0_endsWithin_27 (by decide) (by omega) (fun hd => ?_) (fun hd => ?_)
        · refine lv_iconst (v := nI 0) hx hb dX0_endsWithin_41 (by decide) ?_
          exact z_zret hx hb hr (by decide) hP hK hD hS dX0_endsWithin_42 hlocks (⟨⟨(yI, yP, yW, yG, u2, v2), z_w (g := g) (a := (h, pa, da)) (rt := rt) (lf := lf) (q := (yI, yP, yW, yG, u2, v2)) hz, zC_of hz hC2⟩, Or.inr ⟨by omega, rfl⟩⟩)
        · refine lv_aload_n hx hb dX0_endsWithin_30 rfl (lv_at hl 2 rfl) ?_
          refine z_ai (wa := []) (wc := [(h, .inr (0, [.int (nI rt), .int (nI lf), .ref pa, .ref da, .int (nI T), .int (nI P'), .long (lN R'), .long yI, .long yP, .long yW, .long yG])), (pa, .inl (g.2.1, 120, .inl u2)), (da, .inl (g.2.1, 121, .inl v2))]) (wb := []) (va_runV (As := []) (rest := []) ⟨hx, hb, hml, hown, hts⟩ (c_monthsLeft l g h pa da rt lf T P' (lN R') yI yP yW yG u2 v2 hPT2 H.size _ rfl) (cwV 0 hts gX0_endsWithin_X0_monthsLeft rfl rfl rfl (by decide +kernel) ⟨Nat.le_of_ble_eq_true rfl, Nat.le_of_ble_eq_true rfl⟩) (zpreV (wa := []) (wc := [(h, .inr (0, [.int (nI rt), .int (nI lf), .ref pa, .ref da, .int (nI T), .int (nI P'), .long (lN R'), .long yI, .long yP, .long yW, .long yG])), (pa, .inl (g.2.1, 120, .inl u2)), (da, .inl (g.2.1, 121, .inl v2))]) (wb := []) (q0 := 0) (ci := 0) (T := TX0) (N := 11) hK hP hD rfl rfl) rfl rfl hl.1 rfl (lv_room (Nat.le_of_ble_eq_true rfl)) dX0_endsWithin_31 ⟨Nat.le_of_ble_eq_true rfl, Nat.le_of_ble_eq_true rfl⟩) hP hD hS hA (fun r_2 w1 H locs hq hP hD hS => ?_)
          obtain ⟨rfl, rfl⟩ := hq
          have hP : va_P g.1 vwCl [(h, .inr (0, [.int (nI rt), .int (nI lf), .ref pa, .ref da, .int (nI T), .int (nI P'), .long (lN R'), .long yI, .long yP, .long yW, .long yG])), (pa, .inl (g.2.1, 120, .inl u2)), (da, .inl (g.2.1, 121, .inl v2))] H := hP
          have hD : va_D A [(h, .inr (0, [.int (nI rt), .int (nI lf), .ref pa, .ref da, .int (nI T), .int (nI P'), .long (lN R'), .long yI, .long yP, .long yW, .long yG])), (pa, .inl (g.2.1, 120, .inl u2)), (da, .inl (g.2.1, 121, .inl v2))] := hD
          refine z_if_ne (tgt := 41) hx hb dX0_endsWithin_34 (by decide) (by omega) (fun he => ?_) (fun he => ?_)
          · refine lv_iconst (v := nI 0) hx hb dX0_endsWithin_41 (by decide) ?_
            exact z_zret hx hb hr (by decide) hP hK hD hS dX0_endsWithin_42 hlocks (⟨⟨(yI, yP, yW, yG, u2, v2), z_w (g := g) (a := (h, pa, da)) (rt := rt) (lf := lf) (q := (yI, yP, yW, yG, u2, v2)) hz, zC_of hz hC2⟩, Or.inr ⟨by omega, rfl⟩⟩)
          · refine lv_iconst (v := nI 1) hx hb dX0_endsWithin_37 (by decide) ?_
            refine lv_goto (tgt := 42) hx hb dX0_endsWithin_38 (by decide) ?_
            exact z_zret hx hb hr (by decide) hP hK hD hS dX0_endsWithin_42 hlocks (⟨⟨(yI, yP, yW, yG, u2, v2), z_w (g := g) (a := (h, pa, da)) (rt := rt) (lf := lf) (q := (yI, yP, yW, yG, u2, v2)) hz, zC_of hz hC2⟩, Or.inl ⟨by omega, by omega, rfl⟩⟩)
      · have hP' : P' = P + i := by have z := zIt_P rt lf (T, P, py, R0, I, Pd, Wn, G) i; rw [hz] at z; exact z
        refine lv_aload_n hx hb dX0_endsWithin_16 rfl (lv_at hl 2 rfl) ?_
        refine z_av (wa := []) (wc := [(h, .inr (0, [.int (nI rt), .int (nI lf), .ref pa, .ref da, .int (nI T), .int (nI P'), .long (lN R'), .long yI, .long yP, .long yW, .long yG])), (pa, .inl (g.2.1, 120, .inl u2)), (da, .inl (g.2.1, 121, .inl v2))]) (wb := []) (va_runV (As := []) (rest := []) ⟨hx, hb, hml, hown, hts⟩ (c_passOneMonth l g h pa da rt lf T P' R' py' I' Pd' Wn' G' yI yP yW yG u2 v2 hZ2 hC2 (by omega) H.size _ rfl) (cwV 0 hts gX0_endsWithin_X0_passOneMonth rfl rfl rfl (by decide +kernel) ⟨Nat.le_of_ble_eq_true rfl, Nat.le_of_ble_eq_true rfl⟩) (zpreV (wa := []) (wc := [(h, .inr (0, [.int (nI rt), .int (nI lf), .ref pa, .ref da, .int (nI T), .int (nI P'), .long (lN R'), .long yI, .long yP, .long yW, .long yG])), (pa, .inl (g.2.1, 120, .inl u2)), (da, .inl (g.2.1, 121, .inl v2))]) (wb := []) (q0 := 0) (ci := 0) (T := TX0) (N := 11) hK hP hD rfl rfl) rfl rfl hl.1 rfl (lv_room (Nat.le_of_ble_eq_true rfl)) dX0_endsWithin_17 ⟨Nat.le_of_ble_eq_true rfl, Nat.le_of_ble_eq_true rfl⟩) hP hD hS hA (fun w1 H locs hq hP hD hS => ?_)
        obtain ⟨⟨zI, zP, zW, zG, u3, v3⟩, rfl, hC3⟩ := hq
        have hP : va_P g.1 vwCl [(h, .inr (0, [.int (nI rt), .int (nI lf), .ref pa, .ref da, .int (nI T), .int (nI (P' + 1)), .long (lN (R' - R' / zMW lf T P')), .long zI, .long zP, .long zW, .long zG])), (pa, .inl (g.2.1, 120, .inl u3)), (da, .inl (g.2.1, 121, .inl v3))] H := hP
        have hD : va_D A [(h, .inr (0, [.int (nI rt), .int (nI lf), .ref pa, .ref da, .int (nI T), .int (nI (P' + 1)), .long (lN (R' - R' / zMW lf T P')), .long zI, .long zP, .long zW, .long zG])), (pa, .inl (g.2.1, 120, .inl u3)), (da, .inl (g.2.1, 121, .inl v3))] := hD
        refine z_iinc (lv' := [(3, .int (nI (i + 1))), (2, .int (nI (min k0 (T - P)))), (0, .ref h), (1, .int (nI k0))]) hx hb dX0_endsWithin_20 hl (k := 0) rfl (by decide) rfl (fun ls hl => ?_)
        refine lv_goto (tgt := 11) hx hb dX0_endsWithin_23 (by decide) ?_
        exact ih (i + 1) (P' + 1) (R' - R' / zMW lf T P') py' _ _ _ _ zI zP zW zG u3 v3 H _ _ (by omega) (by omega) (by rw [zIt, hz]; rfl) (zInv_month hZ2 (by omega)) hC3 hP hD hS (lv_sub hl [0, 1, 2, 3] rfl)
  exact loop (min k0 (T - P) + 1) 0 P R0 py I Pd Wn G xI xP xW xG u v H _ _ (by omega) (by omega) rfl hZ hC hP hD hS (lv_sub hl [0, 1, 2, 3] rfl)

set_option maxHeartbeats 4000000 in
set_option maxRecDepth 100000 in
theorem c_reviewPayments (l : Launch) (g : zG) (h pa da rt lf T P R0 : Nat) (py : Nat → Nat) (I Pd Wn G : Int32) (xI xP xW xG : Int64) (u v : Nat → Int32) (a0 : Nat) (hZ : zInv rt lf (T, P, py, R0, I, Pd, Wn, G)) (hC : zCR rt (T, P, py, R0, I, Pd, Wn, G) (xI, xP, xW, xG, u, v)) (ha0 : a0 ≤ 200) (hnp : ∀ j, P ≤ j → j < T → zSc a0 py j ≤ 1000000) : zMv l yX0_reviewPayments wsX0_reviewPayments ({ frames := 3, cells := 0, slots := 0, locals := 72 } : Room) [.ref h, .int (nI a0)] g [(h, .inr (0, [.int (nI rt), .int (nI lf), .ref pa, .ref da, .int (nI T), .int (nI P), .long (lN R0), .long xI, .long xP, .long xW, .long xG])), (pa, .inl (g.2.1, 120, .inl u)), (da, .inl (g.2.1, 121, .inl v))] (fun w => ∃ q', w = zLW g (h, pa, da) rt lf (zFol rt T (zSc a0 py) (T, P, py, R0, I, Pd, Wn, G)) q' ∧ zCR rt (zFol rt T (zSc a0 py) (T, P, py, R0, I, Pd, Wn, G)) q') 0 0 := by
  intro sz A hAe
  refine Met.ofW (cc := cX0_reviewPayments) (maxL := 2) (ret := none) (by decide) rfl ?_
  intro p e s m args below meth c s₁ B hml hv
  obtain ⟨rfl, hsz, hP, hK, hD0⟩ := hv
  have hx := B.exec
  have hb := B.bytes
  have hr := B.returns
  have hts := atoms_spec (ws := wsX0_reviewPayments) B.pre
  have hown : s.vm.findClass RX0 = some m.cls := findClass_of_methodNamed B.named
  have hlocks := B.notSynchronized
  obtain ⟨hD, hA, hS⟩ := z_in hsz hAe hD0
  have hl := lv_entry ([.ref h, .int (nI a0)]) (n := 2) (Nat.le_of_ble_eq_true rfl)
  rw [lg_entry_eq]
  generalize (lg_sl ([.ref h, .int (nI a0)]) ++ List.replicate (2 - (lg_sl ([.ref h, .int (nI a0)])).length) Slot.unset).toArray = ls at hl ⊢
  have hl : lv_has ls 2 [(0, .ref h), (1, .int (nI a0))] := hl
  have hinX0 : ∀ w ∈ wsX00, w ∈ wsX0_reviewPayments := by decide +kernel
  obtain ⟨hT, hPT, hrt, hlf, hp, hRb⟩ := id hZ
  obtain ⟨hI, hPd, hWn, hG, hu, hv⟩ := id hC
  have hD0 := z_wb (r := rt) (j := P) hT hp (Nat.le_refl P)
  have hR2 := zInv_R hZ
  refine lv_aload_n hx hb dX0_reviewPayments_0 rfl (lv_at hl 0 rfl) ?_
  refine lv_iload_n hx hb dX0_reviewPayments_1 rfl (lv_at hl 1 rfl) ?_
  refine z_av (wa := []) (wc := [(h, .inr (0, [.int (nI rt), .int (nI lf), .ref pa, .ref da, .int (nI T), .int (nI P), .long (lN R0), .long xI, .long xP, .long xW, .long xG])), (pa, .inl (g.2.1, 120, .inl u)), (da, .inl (g.2.1, 121, .inl v))]) (wb := []) (va_runV (As := [.int (nI a0)]) (rest := []) ⟨hx, hb, hml, hown, hts⟩ (c_scalePayments l g h pa da rt lf T P (lN R0) xI xP xW xG u v py a0 hT hPT hp hu ha0 s.heap.size _ rfl) (cwV 1 hts gX0_reviewPayments_X0_scalePayments rfl rfl rfl (by decide +kernel) ⟨Nat.le_of_ble_eq_true rfl, Nat.le_of_ble_eq_true rfl⟩) (zpreV (wa := []) (wc := [(h, .inr (0, [.int (nI rt), .int (nI lf), .ref pa, .ref da, .int (nI T), .int (nI P), .long (lN R0), .long xI, .long xP, .long xW, .long xG])), (pa, .inl (g.2.1, 120, .inl u)), (da, .inl (g.2.1, 121, .inl v))]) (wb := []) (q0 := 0) (ci := 0) (T := TX0) (N := 11) hK hP hD rfl rfl) rfl rfl hl.1 rfl (lv_room (Nat.le_of_ble_eq_true rfl)) dX0_reviewPayments_2 ⟨Nat.le_of_ble_eq_true rfl, Nat.le_of_ble_eq_true rfl⟩) hP hD hS hA (fun w1 H locs hq hP hD hS => ?_)
  obtain ⟨u2, rfl, hu2⟩ := hq
  have hP : va_P g.1 vwCl [(h, .inr (0, [.int (nI rt), .int (nI lf), .ref pa, .ref da, .int (nI T), .int (nI P), .long (lN R0), .long xI, .long xP, .long xW, .long xG])), (pa, .inl (g.2.1, 120, .inl u2)), (da, .inl (g.2.1, 121, .inl v))] H := hP
  have hD : va_D A [(h, .inr (0, [.int (nI rt), .int (nI lf), .ref pa, .ref da, .int (nI T), .int (nI P), .long (lN R0), .long xI, .long xP, .long xW, .long xG])), (pa, .inl (g.2.1, 120, .inl u2)), (da, .inl (g.2.1, 121, .inl v))] := hD
  refine lv_aload_n hx hb dX0_reviewPayments_5 rfl (lv_at hl 0 rfl) ?_
  refine z_av (wa := []) (wc := [(h, .inr (0, [.int (nI rt), .int (nI lf), .ref pa, .ref da, .int (nI T), .int (nI P), .long (lN R0), .long xI, .long xP, .long xW, .long xG])), (pa, .inl (g.2.1, 120, .inl u2)), (da, .inl (g.2.1, 121, .inl v))]) (wb := []) (va_runV (As := []) (rest := []) ⟨hx, hb, hml, hown, hts⟩ (c_followDebt l g h pa da rt lf T P R0 xI xP xW xG u2 v (zSc a0 py) (zWr rt py T (T - P)) hT hPT hnp hu2 hrt (hv P (Nat.le_refl P) hPT) hD0 hR2 H.size _ rfl) (cwV 0 hts gX0_reviewPayments_X0_followDebt rfl rfl rfl (by decide +kernel) ⟨Nat.le_of_ble_eq_true rfl, Nat.le_of_ble_eq_true rfl⟩) (zpreV (wa := []) (wc := [(h, .inr (0, [.int (nI rt), .int (nI lf), .ref pa, .ref da, .int (nI T), .int (nI P), .long (lN R0), .long xI, .long xP, .long xW, .long xG])), (pa, .inl (g.2.1, 120, .inl u2)), (da, .inl (g.2.1, 121, .inl v))]) (wb := []) (q0 := 0) (ci := 0) (T := TX0) (N := 11) hK hP hD rfl rfl) rfl rfl hl.1 rfl (lv_room (Nat.le_of_ble_eq_true rfl)) dX0_reviewPayments_6 ⟨Nat.le_of_ble_eq_true rfl, Nat.le_of_ble_eq_true rfl⟩) hP hD hS hA (fun w1 H locs hq hP hD hS => ?_)
  obtain ⟨v2, R1, yG, rfl, hv2, hcase⟩ := hq
  have hP : va_P g.1 vwCl [(h, .inr (0, [.int (nI rt), .int (nI lf), .ref pa, .ref da, .int (nI T), .int (nI P), .long (lN R1), .long xI, .long xP, .long xW, .long yG])), (pa, .inl (g.2.1, 120, .inl u2)), (da, .inl (g.2.1, 121, .inl v2))] H := hP
  have hD : va_D A [(h, .inr (0, [.int (nI rt), .int (nI lf), .ref pa, .ref da, .int (nI T), .int (nI P), .long (lN R1), .long xI, .long xP, .long xW, .long yG])), (pa, .inl (g.2.1, 120, .inl u2)), (da, .inl (g.2.1, 121, .inl v2))] := hD
  rcases hcase with ⟨h1, rfl, h3⟩ | ⟨h1, rfl, h3⟩
  · exact z_vret hx hb hr hP hK hD hS dX0_reviewPayments_9 hlocks (⟨(xI, xP, xW, yG, u2, v2), z_w (g := g) (a := (h, pa, da)) (rt := rt) (lf := lf) (q := (xI, xP, xW, yG, u2, v2)) (zFol_lt h1), zC_of (zFol_lt h1) ⟨hI, hPd, hWn, by rw [h3, hG], hu2, hv2⟩⟩)
  · exact z_vret hx hb hr hP hK hD hS dX0_reviewPayments_9 hlocks (⟨(xI, xP, xW, yG, u2, v2), z_w (g := g) (a := (h, pa, da)) (rt := rt) (lf := lf) (q := (xI, xP, xW, yG, u2, v2)) (zFol_ge h1), zC_of (zFol_ge h1) ⟨hI, hPd, hWn, by rw [h3, hG], hu2, hv2⟩⟩)

set_option maxHeartbeats 4000000 in
set_option maxRecDepth 100000 in
theorem c_putBehind (l : Launch) (g : zG) (h pa da rt lf T P R0 : Nat) (py : Nat → Nat) (I Pd Wn G : Int32) (xI xP xW xG : Int64) (u v : Nat → Int32) (k0 x0 : Nat) (hZ : zInv rt lf (T, P, py, R0, I, Pd, Wn, G)) (hC : zCR rt (T, P, py, R0, I, Pd, Wn, G) (xI, xP, xW, xG, u, v)) (hk0 : T + k0 ≤ 120) (hx0 : x0 ≤ 10000) : zMv l yX0_putBehind wsX0_putBehind ({ frames := 3, cells := 0, slots := 0, locals := 72 } : Room) [.ref h, .int (nI k0), .int (nI x0)] g [(h, .inr (0, [.int (nI rt), .int (nI lf), .ref pa, .ref da, .int (nI T), .int (nI P), .long (lN R0), .long xI, .long xP, .long xW, .long xG])), (pa, .inl (g.2.1, 120, .inl u)), (da, .inl (g.2.1, 121, .inl v))] (fun w => ∃ q', w = zLW g (h, pa, da) rt lf (zFol rt (T + k0) (zPut T k0 x0 py) (T, P, py, R0, I, Pd, Wn, G)) q' ∧ zCR rt (zFol rt (T + k0) (zPut T k0 x0 py) (T, P, py, R0, I, Pd, Wn, G)) q') 0 0 := by
  intro sz A hAe
  refine Met.ofW (cc := cX0_putBehind) (maxL := 5) (ret := none) (by decide) rfl ?_
  intro p e s m args below meth c s₁ B hml hv
  obtain ⟨rfl, hsz, hP, hK, hD0⟩ := hv
  have hx := B.exec
  have hb := B.bytes
  have hr := B.returns
  have hts := atoms_spec (ws := wsX0_putBehind) B.pre
  have hown : s.vm.findClass RX0 = some m.cls := findClass_of_methodNamed B.named
  have hlocks := B.notSynchronized
  obtain ⟨hD, hA, hS⟩ := z_in hsz hAe hD0
  have hl := lv_entry ([.ref h, .int (nI k0), .int (nI x0)]) (n := 5) (Nat.le_of_ble_eq_true rfl)
  rw [lg_entry_eq]
  generalize (lg_sl ([.ref h, .int (nI k0), .int (nI x0)]) ++ List.replicate (5 - (lg_sl ([.ref h, .int (nI k0), .int (nI x0)])).length) Slot.unset).toArray = ls at hl ⊢
  have hl : lv_has ls 5 [(0, .ref h), (1, .int (nI k0)), (2, .int (nI x0))] := hl
  have hinX0 : ∀ w ∈ wsX00, w ∈ wsX0_putBehind := by decide +kernel
  obtain ⟨hT, hPT, hrt, hlf, hp, hRb⟩ := id hZ
  obtain ⟨hI, hPd, hWn, hG, hu, hv⟩ := id hC
  have hD0 := z_wb (r := rt) (j := P) hT hp (Nat.le_refl P)
  have hR2 := zInv_R hZ
  have hp2 : ∀ j, P ≤ j → j < T + k0 → zPut T k0 x0 py j ≤ 1000000 := fun j h1 h2 => if hc : T ≤ j ∧ j < T + k0 then (by unfold zPut; rw [if_pos hc]; omega) else (by unfold zPut; rw [if_neg hc]; exact hp j h1 (by omega))
  refine lv_aload_n hx hb dX0_putBehind_0 rfl (lv_at hl 0 rfl) ?_
  refine va_get (D := g.1) (ci := 0) (v := .int (nI T)) (C := RX0) (T := TX0) (N := 11) hx hb hts hinX0 hown hK hP 0 rfl rfl 4 (by decide) (hts (.fieldLink RX0 27 "Usewise$Lease" "term" "I") (by decide +kernel)) (fun _ h9 => h9) rfl dX0_putBehind_1 ?_
  refine lv_iload_n hx hb dX0_putBehind_4 rfl (lv_at hl 1 rfl) ?_
  refine z_iadd hx hb dX0_putBehind_5 ?_
  refine lv_bipush (v := nI 120) hx hb dX0_putBehind_6 (by decide) ?_
  refine va_mmin hx hb (hml.trans hl.1.symm) hown (hts (.methodLink RX0 18 Lib.Math.min.name) (by decide +kernel)) (hts (.static Lib.Math.min.name) (by decide +kernel)) (hts (.initialized "java/lang/Math") (by decide +kernel)) (hts (.code Lib.Math.min.name Lib.Math.min.code 2 (some .int)) (by decide +kernel)) (Nat.le_of_ble_eq_true rfl) (Nat.le_of_ble_eq_true rfl) (Nat.le_of_ble_eq_true rfl) (Nat.le_of_ble_eq_true rfl) dX0_putBehind_8 ?_
  refine zi (y := nI (T + k0)) ((z_min (by omega) (by omega)).trans (by rw [Nat.min_eq_left (by omega)])) ?_
  refine lv_istore_n (lv' := [(3, .int (nI (T + k0))), (0, .ref h), (1, .int (nI k0)), (2, .int (nI x0))]) hx hb dX0_putBehind_11 rfl hl (by decide) rfl (fun ls hl => ?_)
  refine lv_aload_n hx hb dX0_putBehind_12 rfl (lv_at hl 1 rfl) ?_
  refine va_get (D := g.1) (ci := 0) (v := .int (nI T)) (C := RX0) (T := TX0) (N := 11) hx hb hts hinX0 hown hK hP 0 rfl rfl 4 (by decide) (hts (.fieldLink RX0 27 "Usewise$Lease" "term" "I") (by decide +kernel)) (fun _ h9 => h9) rfl dX0_putBehind_13 ?_
  refine lv_istore (lv' := [(4, .int (nI T)), (3, .int (nI (T + k0))), (0, .ref h), (1, .int (nI k0)), (2, .int (nI x0))]) hx hb dX0_putBehind_16 hl (by decide) rfl (fun ls hl => ?_)
  have loop : ∀ (n : Nat) (i : Nat) (u2 : Nat → Int32) (H : Heap) (locs : List Loc) (ls : Array Slot), T + k0 < i + n → T ≤ i → i ≤ T + k0 → (∀ j, j < T → u2 j = u j) → (∀ j, T ≤ j → j < i → u2 j = nI x0) → va_P g.1 vwCl [(h, .inr (0, [.int (nI rt), .int (nI lf), .ref pa, .ref da, .int (nI T), .int (nI P), .long (lN R0), .long xI, .long xP, .long xW, .long xG])), (pa, .inl (g.2.1, 120, .inl u2)), (da, .inl (g.2.1, 121, .inl v))] H → va_D A [(h, .inr (0, [.int (nI rt), .int (nI lf), .ref pa, .ref da, .int (nI T), .int (nI P), .long (lN R0), .long xI, .long xP, .long xW, .long xG])), (pa, .inl (g.2.1, 120, .inl u2)), (da, .inl (g.2.1, 121, .inl v))] → va_S A s.heap H locs → lv_has ls 5 [(4, .int (nI i)), (3, .int (nI (T + k0))), (0, .ref h), (1, .int (nI k0)), (2, .int (nI x0))] → W p l e (headSpec wsX0_putBehind ({ frames := 3, cells := 0, slots := 0, locals := 72 } : Room)).room s m ([.ref h, .int (nI k0), .int (nI x0)] : List Value).toArray below meth c H locs 0 0 (MQ below (va_Qv (fun w => ∃ q', w = zLW g (h, pa, da) rt lf (zFol rt (T + k0) (zPut T k0 x0 py) (T, P, py, R0, I, Pd, Wn, G)) q' ∧ zCR rt (zFol rt (T + k0) (zPut T k0 x0 py) (T, P, py, R0, I, Pd, Wn, G)) q') (zOut g A) A) ([.ref h, .int (nI k0), .int (nI x0)] : List Value).toArray s 0 0 A) (F0 m 18 ls []) := by
    intro n
    induction n with
    | zero =>
      intro i u2 H locs ls hn hi hi2 hu1 hu2 hP hD hS hl
      omega
    | succ n ih =>
      intro i u2 H locs ls hn hi hi2 hu1 hu2 hP hD hS hl
      refine lv_iload hx hb dX0_putBehind_18 (lv_at hl 0 rfl) ?_
      refine lv_iload_n hx hb dX0_putBehind_20 rfl (lv_at hl 1 rfl) ?_
      refine z_icmp_ge (tgt := 40) hx hb dX0_putBehind_21 (by decide) (by omega) (by omega) (fun hc => ?_) (fun hc => ?_)
      · have hu3 : ∀ j, P ≤ j → j < T + k0 → u2 j = nI (zPut T k0 x0 py j) := fun j h1 h2 => if hc : T ≤ j ∧ j < T + k0 then (by unfold zPut; rw [if_pos hc]; exact hu2 j hc.1 (by omega)) else (by unfold zPut; rw [if_neg hc]; exact (hu1 j (by omega)).trans (hu j h1 (by omega)))
        refine lv_aload_n hx hb dX0_putBehind_40 rfl (lv_at hl 2 rfl) ?_
        refine lv_iload_n hx hb dX0_putBehind_41 rfl (lv_at hl 1 rfl) ?_
        refine va_put (D := g.1) (ci := 0) (v := .int (nI (T + k0))) (ty := .int) (C := RX0) (T := TX0) (N := 11) hx hb hts hinX0 tyX0 tyX0_ok nmX0 hown hK hP hD hS 0 rfl rfl 4 (by decide) (hts (.fieldLink RX0 27 "Usewise$Lease" "term" "I") (by decide +kernel)) (fun _ h9 => h9) rfl (by decide +kernel) rfl rfl (Nat.le_of_ble_eq_true rfl) dX0_putBehind_42 (fun H locs hP hD hS => ?_)
        have hP : va_P g.1 vwCl [(h, .inr (0, [.int (nI rt), .int (nI lf), .ref pa, .ref da, .int (nI (T + k0)), .int (nI P), .long (lN R0), .long xI, .long xP, .long xW, .long xG])), (pa, .inl (g.2.1, 120, .inl u2)), (da, .inl (g.2.1, 121, .inl v))] H := hP
        have hD : va_D A [(h, .inr (0, [.int (nI rt), .int (nI lf), .ref pa, .ref da, .int (nI (T + k0)), .int (nI P), .long (lN R0), .long xI, .long xP, .long xW, .long xG])), (pa, .inl (g.2.1, 120, .inl u2)), (da, .inl (g.2.1, 121, .inl v))] := hD
        refine lv_aload_n hx hb dX0_putBehind_45 rfl (lv_at hl 2 rfl) ?_
        refine z_av (wa := []) (wc := [(h, .inr (0, [.int (nI rt), .int (nI lf), .ref pa, .ref da, .int (nI (T + k0)), .int (nI P), .long (lN R0), .long xI, .long xP, .long xW, .long xG])), (pa, .inl (g.2.1, 120, .inl u2)), (da, .inl (g.2.1, 121, .inl v))]) (wb := []) (va_runV (As := []) (rest := []) ⟨hx, hb, hml, hown, hts⟩ (c_followDebt l g h pa da rt lf (T + k0) P R0 xI xP xW xG u2 v (zPut T k0 x0 py) (zWr rt py T (T - P)) hk0 (by omega) hp2 hu3 hrt (hv P (Nat.le_refl P) hPT) hD0 hR2 H.size _ rfl) (cwV 0 hts gX0_putBehind_X0_followDebt rfl rfl rfl (by decide +kernel) ⟨Nat.le_of_ble_eq_true rfl, Nat.le_of_ble_eq_true rfl⟩) (zpreV (wa := []) (wc := [(h, .inr (0, [.int (nI rt), .int (nI lf), .ref pa, .ref da, .int (nI (T + k0)), .int (nI P), .long (lN R0), .long xI, .long xP, .long xW, .long xG])), (pa, .inl (g.2.1, 120, .inl u2)), (da, .inl (g.2.1, 121, .inl v))]) (wb := []) (q0 := 0) (ci := 0) (T := TX0) (N := 11) hK hP hD rfl rfl) rfl rfl hl.1 rfl (lv_room (Nat.le_of_ble_eq_true rfl)) dX0_putBehind_46 ⟨Nat.le_of_ble_eq_true rfl, Nat.le_of_ble_eq_true rfl⟩) hP hD hS hA (fun w1 H locs hq hP hD hS => ?_)
        obtain ⟨v2, R1, yG, rfl, hv2, hcase⟩ := hq
        have hP : va_P g.1 vwCl [(h, .inr (0, [.int (nI rt), .int (nI lf), .ref pa, .ref da, .int (nI (T + k0)), .int (nI P), .long (lN R1), .long xI, .long xP, .long xW, .long yG])), (pa, .inl (g.2.1, 120, .inl u2)), (da, .inl (g.2.1, 121, .inl v2))] H := hP
        have hD : va_D A [(h, .inr (0, [.int (nI rt), .int (nI lf), .ref pa, .ref da, .int (nI (T + k0)), .int (nI P), .long (lN R1), .long xI, .long xP, .long xW, .long yG])), (pa, .inl (g.2.1, 120, .inl u2)), (da, .inl (g.2.1, 121, .inl v2))] := hD
        rcases hcase with ⟨h1, rfl, h3⟩ | ⟨h1, rfl, h3⟩
        · exact z_vret hx hb hr hP hK hD hS dX0_putBehind_49 hlocks (⟨(xI, xP, xW, yG, u2, v2), z_w (g := g) (a := (h, pa, da)) (rt := rt) (lf := lf) (q := (xI, xP, xW, yG, u2, v2)) (zFol_lt h1), zC_of (zFol_lt h1) ⟨hI, hPd, hWn, by rw [h3, hG], hu3, hv2⟩⟩)
        · exact z_vret hx hb hr hP hK hD hS dX0_putBehind_49 hlocks (⟨(xI, xP, xW, yG, u2, v2), z_w (g := g) (a := (h, pa, da)) (rt := rt) (lf := lf) (q := (xI, xP, xW, yG, u2, v2)) (zFol_ge h1), zC_of (zFol_ge h1) ⟨hI, hPd, hWn, by rw [h3, hG], hu3, hv2⟩⟩)
      · refine lv_aload_n hx hb dX0_putBehind_24 rfl (lv_at hl 2 rfl) ?_
        refine va_get (D := g.1) (ci := 0) (v := .ref pa) (C := RX0) (T := TX0) (N := 11) hx hb hts hinX0 hown hK hP 0 rfl rfl 2 (by decide) (hts (.fieldLink RX0 30 "Usewise$Lease" "payments" "[I") (by decide +kernel)) (fun _ h9 => h9) rfl dX0_putBehind_25 ?_
        refine lv_iload hx hb dX0_putBehind_28 (lv_at hl 0 rfl) ?_
        refine lv_iload_n hx hb dX0_putBehind_30 rfl (lv_at hl 4 rfl) ?_
        refine z_av (wa := [(h, .inr (0, [.int (nI rt), .int (nI lf), .ref pa, .ref da, .int (nI T), .int (nI P), .long (lN R0), .long xI, .long xP, .long xW, .long xG]))]) (wc := [(pa, .inl (g.2.1, 120, .inl u2))]) (wb := [(da, .inl (g.2.1, 121, .inl v))]) (va_runS (As := [.ref pa, .int (nI i), .int (nI x0)]) (rest := []) ⟨hx, hb, hml, hown, hts⟩ (c_put l g pa 120 i (nI x0) u2 (by omega) (by decide) H.size _ rfl) (va_cwS 3 hts gX0_putBehind_X0_put rfl rfl rfl (by decide +kernel) ⟨Nat.le_of_ble_eq_true rfl, Nat.le_of_ble_eq_true rfl⟩) (zpreS (wa := [(h, .inr (0, [.int (nI rt), .int (nI lf), .ref pa, .ref da, .int (nI T), .int (nI P), .long (lN R0), .long xI, .long xP, .long xW, .long xG]))]) (wc := [(pa, .inl (g.2.1, 120, .inl u2))]) (wb := [(da, .inl (g.2.1, 121, .inl v))]) hK hP hD) rfl rfl hl.1 rfl (lv_room (Nat.le_of_ble_eq_true rfl)) dX0_putBehind_31 ⟨Nat.le_of_ble_eq_true rfl, Nat.le_of_ble_eq_true rfl⟩) hP hD hS hA (fun w1 H locs hq hP hD hS => ?_)
        obtain rfl := hq
        have hP : va_P g.1 vwCl [(h, .inr (0, [.int (nI rt), .int (nI lf), .ref pa, .ref da, .int (nI T), .int (nI P), .long (lN R0), .long xI, .long xP, .long xW, .long xG])), (pa, .inl (g.2.1, 120, .inl (upd u2 i (nI x0)))), (da, .inl (g.2.1, 121, .inl v))] H := hP
        have hD : va_D A [(h, .inr (0, [.int (nI rt), .int (nI lf), .ref pa, .ref da, .int (nI T), .int (nI P), .long (lN R0), .long xI, .long xP, .long xW, .long xG])), (pa, .inl (g.2.1, 120, .inl (upd u2 i (nI x0)))), (da, .inl (g.2.1, 121, .inl v))] := hD
        refine z_iinc (lv' := [(4, .int (nI (i + 1))), (3, .int (nI (T + k0))), (0, .ref h), (1, .int (nI k0)), (2, .int (nI x0))]) hx hb dX0_putBehind_34 hl (k := 0) rfl (by decide) rfl (fun ls hl => ?_)
        refine lv_goto (tgt := 18) hx hb dX0_putBehind_37 (by decide) ?_
        exact ih (i + 1) (upd u2 i (nI x0)) H _ _ (by omega) (by omega) (by omega) (fun j h1 => (by rw [z_upd_n _ _ (by omega)]; exact hu1 j h1)) (fun j h1 h2 => if hj : j = i then (by rw [hj, z_upd_s]) else (by rw [z_upd_n _ _ hj]; exact hu2 j h1 (by omega))) hP hD hS (lv_sub hl [0, 1, 2, 3, 4] rfl)
  exact loop (k0 + 1) T u _ _ _ (by omega) (by omega) (by omega) (fun j _ => rfl) (fun j h1 h2 => absurd h2 (by omega)) hP hD hS (lv_sub hl [0, 1, 2, 3, 4] rfl)

set_option maxHeartbeats 4000000 in
set_option maxRecDepth 100000 in
theorem c_takeOffTheEnd (l : Launch) (g : zG) (h pa da rt lf T P R0 : Nat) (py : Nat → Nat) (I Pd Wn G : Int32) (xI xP xW xG : Int64) (u v : Nat → Int32) (k0 : Nat) (hZ : zInv rt lf (T, P, py, R0, I, Pd, Wn, G)) (hC : zCR rt (T, P, py, R0, I, Pd, Wn, G) (xI, xP, xW, xG, u, v)) (hk0 : k0 < T - P) : zMi l yX0_takeOffTheEnd wsX0_takeOffTheEnd ({ frames := 3, cells := 0, slots := 0, locals := 76 } : Room) [.ref h, .int (nI k0)] g [(h, .inr (0, [.int (nI rt), .int (nI lf), .ref pa, .ref da, .int (nI T), .int (nI P), .long (lN R0), .long xI, .long xP, .long xW, .long xG])), (pa, .inl (g.2.1, 120, .inl u)), (da, .inl (g.2.1, 121, .inl v))] (fun q w => q = zGn rt (T - k0) py (R0 * (T - k0 - P) / (T - P)) (T, P, py, R0, I, Pd, Wn, G) ∧ ∃ q', w = zLW g (h, pa, da) rt lf (zGiv rt (T - k0) py (R0 * (T - k0 - P) / (T - P)) (T, P, py, R0, I, Pd, Wn, G)) q' ∧ zCR rt (zGiv rt (T - k0) py (R0 * (T - k0 - P) / (T - P)) (T, P, py, R0, I, Pd, Wn, G)) q') 0 0 := by
  intro sz A hAe
  refine Met.ofW (cc := cX0_takeOffTheEnd) (maxL := 3) (ret := some .int) (by decide) rfl ?_
  intro p e s m args below meth c s₁ B hml hv
  obtain ⟨rfl, hsz, hP, hK, hD0⟩ := hv
  have hx := B.exec
  have hb := B.bytes
  have hr := B.returns
  have hts := atoms_spec (ws := wsX0_takeOffTheEnd) B.pre
  have hown : s.vm.findClass RX0 = some m.cls := findClass_of_methodNamed B.named
  have hlocks := B.notSynchronized
  obtain ⟨hD, hA, hS⟩ := z_in hsz hAe hD0
  have hl := lv_entry ([.ref h, .int (nI k0)]) (n := 3) (Nat.le_of_ble_eq_true rfl)
  rw [lg_entry_eq]
  generalize (lg_sl ([.ref h, .int (nI k0)]) ++ List.replicate (3 - (lg_sl ([.ref h, .int (nI k0)])).length) Slot.unset).toArray = ls at hl ⊢
  have hl : lv_has ls 3 [(0, .ref h), (1, .int (nI k0))] := hl
  have hinX0 : ∀ w ∈ wsX00, w ∈ wsX0_takeOffTheEnd := by decide +kernel
  obtain ⟨hT, hPT, hrt, hlf, hp, hRb⟩ := id hZ
  obtain ⟨hI, hPd, hWn, hG, hu, hv⟩ := id hC
  have hD0 := z_wb (r := rt) (j := P) hT hp (Nat.le_refl P)
  have hR2 := zInv_R hZ
  refine lv_aload_n hx hb dX0_takeOffTheEnd_0 rfl (lv_at hl 0 rfl) ?_
  refine z_ai (wa := []) (wc := [(h, .inr (0, [.int (nI rt), .int (nI lf), .ref pa, .ref da, .int (nI T), .int (nI P), .long (lN R0), .long xI, .long xP, .long xW, .long xG])), (pa, .inl (g.2.1, 120, .inl u)), (da, .inl (g.2.1, 121, .inl v))]) (wb := []) (va_runV (As := []) (rest := []) ⟨hx, hb, hml, hown, hts⟩ (c_monthsLeft l g h pa da rt lf T P (lN R0) xI xP xW xG u v hPT s.heap.size _ rfl) (cwV 0 hts gX0_takeOffTheEnd_X0_monthsLeft rfl rfl rfl (by decide +kernel) ⟨Nat.le_of_ble_eq_true rfl, Nat.le_of_ble_eq_true rfl⟩) (zpreV (wa := []) (wc := [(h, .inr (0, [.int (nI rt), .int (nI lf), .ref pa, .ref da, .int (nI T), .int (nI P), .long (lN R0), .long xI, .long xP, .long xW, .long xG])), (pa, .inl (g.2.1, 120, .inl u)), (da, .inl (g.2.1, 121, .inl v))]) (wb := []) (q0 := 0) (ci := 0) (T := TX0) (N := 11) hK hP hD rfl rfl) rfl rfl hl.1 rfl (lv_room (Nat.le_of_ble_eq_true rfl)) dX0_takeOffTheEnd_1 ⟨Nat.le_of_ble_eq_true rfl, Nat.le_of_ble_eq_true rfl⟩) hP hD hS hA (fun r_1 w1 H locs hq hP hD hS => ?_)
  obtain ⟨rfl, rfl⟩ := hq
  have hP : va_P g.1 vwCl [(h, .inr (0, [.int (nI rt), .int (nI lf), .ref pa, .ref da, .int (nI T), .int (nI P), .long (lN R0), .long xI, .long xP, .long xW, .long xG])), (pa, .inl (g.2.1, 120, .inl u)), (da, .inl (g.2.1, 121, .inl v))] H := hP
  have hD : va_D A [(h, .inr (0, [.int (nI rt), .int (nI lf), .ref pa, .ref da, .int (nI T), .int (nI P), .long (lN R0), .long xI, .long xP, .long xW, .long xG])), (pa, .inl (g.2.1, 120, .inl u)), (da, .inl (g.2.1, 121, .inl v))] := hD
  refine lv_istore_n (lv' := [(2, .int (nI (T - P))), (0, .ref h), (1, .int (nI k0))]) hx hb dX0_takeOffTheEnd_4 rfl hl (by decide) rfl (fun ls hl => ?_)
  refine lv_aload_n hx hb dX0_takeOffTheEnd_5 rfl (lv_at hl 1 rfl) ?_
  refine lv_dup hx hb dX0_takeOffTheEnd_6 rfl ?_
  refine va_get (D := g.1) (ci := 0) (v := .int (nI T)) (C := RX0) (T := TX0) (N := 11) hx hb hts hinX0 hown hK hP 0 rfl rfl 4 (by decide) (hts (.fieldLink RX0 27 "Usewise$Lease" "term" "I") (by decide +kernel)) (fun _ h9 => h9) rfl dX0_takeOffTheEnd_7 ?_
  refine lv_iload_n hx hb dX0_takeOffTheEnd_10 rfl (lv_at hl 2 rfl) ?_
  refine z_isub hx hb dX0_takeOffTheEnd_11 (by omega) ?_
  refine va_put (D := g.1) (ci := 0) (v := .int (nI (T - k0))) (ty := .int) (C := RX0) (T := TX0) (N := 11) hx hb hts hinX0 tyX0 tyX0_ok nmX0 hown hK hP hD hS 0 rfl rfl 4 (by decide) (hts (.fieldLink RX0 27 "Usewise$Lease" "term" "I") (by decide +kernel)) (fun _ h9 => h9) rfl (by decide +kernel) rfl rfl (Nat.le_of_ble_eq_true rfl) dX0_takeOffTheEnd_12 (fun H locs hP hD hS => ?_)
  have hP : va_P g.1 vwCl [(h, .inr (0, [.int (nI rt), .int (nI lf), .ref pa, .ref da, .int (nI (T - k0)), .int (nI P), .long (lN R0), .long xI, .long xP, .long xW, .long xG])), (pa, .inl (g.2.1, 120, .inl u)), (da, .inl (g.2.1, 121, .inl v))] H := hP
  have hD : va_D A [(h, .inr (0, [.int (nI rt), .int (nI lf), .ref pa, .ref da, .int (nI (T - k0)), .int (nI P), .long (lN R0), .long xI, .long xP, .long xW, .long xG])), (pa, .inl (g.2.1, 120, .inl u)), (da, .inl (g.2.1, 121, .inl v))] := hD
  refine lv_aload_n hx hb dX0_takeOffTheEnd_15 rfl (lv_at hl 1 rfl) ?_
  refine lv_iload_n hx hb dX0_takeOffTheEnd_16 rfl (lv_at hl 0 rfl) ?_
  refine lv_iconst (v := nI 1) hx hb dX0_takeOffTheEnd_17 (by decide) ?_
  refine z_icmp_ge (tgt := 25) hx hb dX0_takeOffTheEnd_18 (by decide) (by omega) (by omega) (fun hc => ?_) (fun hc => ?_)
  · refine lv_aload_n hx hb dX0_takeOffTheEnd_25 rfl (lv_at hl 1 rfl) ?_
    refine va_get (D := g.1) (ci := 0) (v := .long (lN R0)) (C := RX0) (T := TX0) (N := 11) hx hb hts hinX0 hown hK hP 0 rfl rfl 6 (by decide) (hts (.fieldLink RX0 48 "Usewise$Lease" "right" "J") (by decide +kernel)) (fun _ h9 => h9) rfl dX0_takeOffTheEnd_26 ?_
    refine lv_aload_n hx hb dX0_takeOffTheEnd_29 rfl (lv_at hl 1 rfl) ?_
    refine z_ai (wa := []) (wc := [(h, .inr (0, [.int (nI rt), .int (nI lf), .ref pa, .ref da, .int (nI (T - k0)), .int (nI P), .long (lN R0), .long xI, .long xP, .long xW, .long xG])), (pa, .inl (g.2.1, 120, .inl u)), (da, .inl (g.2.1, 121, .inl v))]) (wb := []) (va_runV (As := []) (rest := [.long (lN R0), .ref h]) ⟨hx, hb, hml, hown, hts⟩ (c_monthsLeft l g h pa da rt lf (T - k0) P (lN R0) xI xP xW xG u v (by omega) H.size _ rfl) (cwV 0 hts gX0_takeOffTheEnd_X0_monthsLeft rfl rfl rfl (by decide +kernel) ⟨Nat.le_of_ble_eq_true rfl, Nat.le_of_ble_eq_true rfl⟩) (zpreV (wa := []) (wc := [(h, .inr (0, [.int (nI rt), .int (nI lf), .ref pa, .ref da, .int (nI (T - k0)), .int (nI P), .long (lN R0), .long xI, .long xP, .long xW, .long xG])), (pa, .inl (g.2.1, 120, .inl u)), (da, .inl (g.2.1, 121, .inl v))]) (wb := []) (q0 := 0) (ci := 0) (T := TX0) (N := 11) hK hP hD rfl rfl) rfl rfl hl.1 rfl (lv_room (Nat.le_of_ble_eq_true rfl)) dX0_takeOffTheEnd_30 ⟨Nat.le_of_ble_eq_true rfl, Nat.le_of_ble_eq_true rfl⟩) hP hD hS hA (fun r_2 w1 H locs hq hP hD hS => ?_)
    obtain ⟨rfl, rfl⟩ := hq
    have hP : va_P g.1 vwCl [(h, .inr (0, [.int (nI rt), .int (nI lf), .ref pa, .ref da, .int (nI (T - k0)), .int (nI P), .long (lN R0), .long xI, .long xP, .long xW, .long xG])), (pa, .inl (g.2.1, 120, .inl u)), (da, .inl (g.2.1, 121, .inl v))] H := hP
    have hD : va_D A [(h, .inr (0, [.int (nI rt), .int (nI lf), .ref pa, .ref da, .int (nI (T - k0)), .int (nI P), .long (lN R0), .long xI, .long xP, .long xW, .long xG])), (pa, .inl (g.2.1, 120, .inl u)), (da, .inl (g.2.1, 121, .inl v))] := hD
    have hRm : R0 * (T - k0 - P) ≤ 240000000 * 120 := Nat.mul_le_mul hR2 (by omega)
    refine z_i2l hx hb dX0_takeOffTheEnd_33 (by omega) ?_
    refine z_lmul hx hb dX0_takeOffTheEnd_34 ?_
    refine lv_iload_n hx hb dX0_takeOffTheEnd_35 rfl (lv_at hl 0 rfl) ?_
    refine z_i2l hx hb dX0_takeOffTheEnd_36 (by omega) ?_
    refine z_ldiv hx hb dX0_takeOffTheEnd_37 (by omega) (by omega) (by omega) ?_
    refine z_ai (wa := []) (wc := [(h, .inr (0, [.int (nI rt), .int (nI lf), .ref pa, .ref da, .int (nI (T - k0)), .int (nI P), .long (lN R0), .long xI, .long xP, .long xW, .long xG])), (pa, .inl (g.2.1, 120, .inl u)), (da, .inl (g.2.1, 121, .inl v))]) (wb := []) (va_runV (As := [.long (lN ((R0 * (T - k0 - P)) / (T - P)))]) (rest := []) ⟨hx, hb, hml, hown, hts⟩ (c_giveUp l g h pa da rt lf (T - k0) P R0 xI xP xW xG u v py (zWr rt py T (T - P)) (R0 * (T - k0 - P) / (T - P)) (by omega) (by omega) (fun j h1 h2 => hp j h1 (by omega)) (fun j h1 h2 => hu j h1 (by omega)) hrt (hv P (Nat.le_refl P) hPT) hD0 H.size _ rfl) (cwV 1 hts gX0_takeOffTheEnd_X0_giveUp rfl rfl rfl (by decide +kernel) ⟨Nat.le_of_ble_eq_true rfl, Nat.le_of_ble_eq_true rfl⟩) (zpreV (wa := []) (wc := [(h, .inr (0, [.int (nI rt), .int (nI lf), .ref pa, .ref da, .int (nI (T - k0)), .int (nI P), .long (lN R0), .long xI, .long xP, .long xW, .long xG])), (pa, .inl (g.2.1, 120, .inl u)), (da, .inl (g.2.1, 121, .inl v))]) (wb := []) (q0 := 0) (ci := 0) (T := TX0) (N := 11) hK hP hD rfl rfl) rfl rfl hl.1 rfl (lv_room (Nat.le_of_ble_eq_true rfl)) dX0_takeOffTheEnd_38 ⟨Nat.le_of_ble_eq_true rfl, Nat.le_of_ble_eq_true rfl⟩) hP hD hS hA (fun r_3 w1 H locs hq hP hD hS => ?_)
    obtain ⟨v2, yG, rfl, hv2, rfl, hg⟩ := hq
    have hP : va_P g.1 vwCl [(h, .inr (0, [.int (nI rt), .int (nI lf), .ref pa, .ref da, .int (nI (T - k0)), .int (nI P), .long (lN (R0 * (T - k0 - P) / (T - P))), .long xI, .long xP, .long xW, .long yG])), (pa, .inl (g.2.1, 120, .inl u)), (da, .inl (g.2.1, 121, .inl v2))] H := hP
    have hD : va_D A [(h, .inr (0, [.int (nI rt), .int (nI lf), .ref pa, .ref da, .int (nI (T - k0)), .int (nI P), .long (lN (R0 * (T - k0 - P) / (T - P))), .long xI, .long xP, .long xW, .long yG])), (pa, .inl (g.2.1, 120, .inl u)), (da, .inl (g.2.1, 121, .inl v2))] := hD
    exact z_iret hx hb hr hP hK hD hS dX0_takeOffTheEnd_41 hlocks (⟨rfl, (xI, xP, xW, yG, u, v2), rfl, hI, hPd, hWn, (by rw [hg, hG]; rfl), fun j h1 h2 => hu j h1 (by omega), hv2⟩)
  · exact absurd hc (by omega)

set_option maxHeartbeats 4000000 in
set_option maxRecDepth 100000 in
theorem c_keepPart (l : Launch) (g : zG) (h pa da rt lf T P R0 : Nat) (py : Nat → Nat) (I Pd Wn G : Int32) (xI xP xW xG : Int64) (u v : Nat → Int32) (a0 : Nat) (hZ : zInv rt lf (T, P, py, R0, I, Pd, Wn, G)) (hC : zCR rt (T, P, py, R0, I, Pd, Wn, G) (xI, xP, xW, xG, u, v)) (ha0 : a0 ≤ 99) : zMi l yX0_keepPart wsX0_keepPart ({ frames := 3, cells := 0, slots := 0, locals := 76 } : Room) [.ref h, .int (nI a0)] g [(h, .inr (0, [.int (nI rt), .int (nI lf), .ref pa, .ref da, .int (nI T), .int (nI P), .long (lN R0), .long xI, .long xP, .long xW, .long xG])), (pa, .inl (g.2.1, 120, .inl u)), (da, .inl (g.2.1, 121, .inl v))] (fun q w => q = zGn rt T (zSc a0 py) (R0 * a0 / 100) (T, P, py, R0, I, Pd, Wn, G) ∧ ∃ q', w = zLW g (h, pa, da) rt lf (zGiv rt T (zSc a0 py) (R0 * a0 / 100) (T, P, py, R0, I, Pd, Wn, G)) q' ∧ zCR rt (zGiv rt T (zSc a0 py) (R0 * a0 / 100) (T, P, py, R0, I, Pd, Wn, G)) q') 0 0 := by
  intro sz A hAe
  refine Met.ofW (cc := cX0_keepPart) (maxL := 2) (ret := some .int) (by decide) rfl ?_
  intro p e s m args below meth c s₁ B hml hv
  obtain ⟨rfl, hsz, hP, hK, hD0⟩ := hv
  have hx := B.exec
  have hb := B.bytes
  have hr := B.returns
  have hts := atoms_spec (ws := wsX0_keepPart) B.pre
  have hown : s.vm.findClass RX0 = some m.cls := findClass_of_methodNamed B.named
  have hlocks := B.notSynchronized
  obtain ⟨hD, hA, hS⟩ := z_in hsz hAe hD0
  have hl := lv_entry ([.ref h, .int (nI a0)]) (n := 2) (Nat.le_of_ble_eq_true rfl)
  rw [lg_entry_eq]
  generalize (lg_sl ([.ref h, .int (nI a0)]) ++ List.replicate (2 - (lg_sl ([.ref h, .int (nI a0)])).length) Slot.unset).toArray = ls at hl ⊢
  have hl : lv_has ls 2 [(0, .ref h), (1, .int (nI a0))] := hl
  have hinX0 : ∀ w ∈ wsX00, w ∈ wsX0_keepPart := by decide +kernel
  obtain ⟨hT, hPT, hrt, hlf, hp, hRb⟩ := id hZ
  obtain ⟨hI, hPd, hWn, hG, hu, hv⟩ := id hC
  have hD0 := z_wb (r := rt) (j := P) hT hp (Nat.le_refl P)
  have hR2 := zInv_R hZ
  refine lv_aload_n hx hb dX0_keepPart_0 rfl (lv_at hl 0 rfl) ?_
  refine lv_iload_n hx hb dX0_keepPart_1 rfl (lv_at hl 1 rfl) ?_
  have hp2 : ∀ j, P ≤ j → j < T → zSc a0 py j ≤ 1000000 := fun j h1 h2 => by have z := hp j h1 h2; have z2 : py j * a0 ≤ py j * 100 := Nat.mul_le_mul_left _ (by omega); unfold zSc; omega
  refine z_av (wa := []) (wc := [(h, .inr (0, [.int (nI rt), .int (nI lf), .ref pa, .ref da, .int (nI T), .int (nI P), .long (lN R0), .long xI, .long xP, .long xW, .long xG])), (pa, .inl (g.2.1, 120, .inl u)), (da, .inl (g.2.1, 121, .inl v))]) (wb := []) (va_runV (As := [.int (nI a0)]) (rest := []) ⟨hx, hb, hml, hown, hts⟩ (c_scalePayments l g h pa da rt lf T P (lN R0) xI xP xW xG u v py a0 hT hPT hp hu (by omega) s.heap.size _ rfl) (cwV 1 hts gX0_keepPart_X0_scalePayments rfl rfl rfl (by decide +kernel) ⟨Nat.le_of_ble_eq_true rfl, Nat.le_of_ble_eq_true rfl⟩) (zpreV (wa := []) (wc := [(h, .inr (0, [.int (nI rt), .int (nI lf), .ref pa, .ref da, .int (nI T), .int (nI P), .long (lN R0), .long xI, .long xP, .long xW, .long xG])), (pa, .inl (g.2.1, 120, .inl u)), (da, .inl (g.2.1, 121, .inl v))]) (wb := []) (q0 := 0) (ci := 0) (T := TX0) (N := 11) hK hP hD rfl rfl) rfl rfl hl.1 rfl (lv_room (Nat.le_of_ble_eq_true rfl)) dX0_keepPart_2 ⟨Nat.le_of_ble_eq_true rfl, Nat.le_of_ble_eq_true rfl⟩) hP hD hS hA (fun w1 H locs hq hP hD hS => ?_)
  obtain ⟨u2, rfl, hu2⟩ := hq
  have hP : va_P g.1 vwCl [(h, .inr (0, [.int (nI rt), .int (nI lf), .ref pa, .ref da, .int (nI T), .int (nI P), .long (lN R0), .long xI, .long xP, .long xW, .long xG])), (pa, .inl (g.2.1, 120, .inl u2)), (da, .inl (g.2.1, 121, .inl v))] H := hP
  have hD : va_D A [(h, .inr (0, [.int (nI rt), .int (nI lf), .ref pa, .ref da, .int (nI T), .int (nI P), .long (lN R0), .long xI, .long xP, .long xW, .long xG])), (pa, .inl (g.2.1, 120, .inl u2)), (da, .inl (g.2.1, 121, .inl v))] := hD
  refine lv_aload_n hx hb dX0_keepPart_5 rfl (lv_at hl 0 rfl) ?_
  refine lv_aload_n hx hb dX0_keepPart_6 rfl (lv_at hl 0 rfl) ?_
  refine va_get (D := g.1) (ci := 0) (v := .long (lN R0)) (C := RX0) (T := TX0) (N := 11) hx hb hts hinX0 hown hK hP 0 rfl rfl 6 (by decide) (hts (.fieldLink RX0 48 "Usewise$Lease" "right" "J") (by decide +kernel)) (fun _ h9 => h9) rfl dX0_keepPart_7 ?_
  refine lv_iload_n hx hb dX0_keepPart_10 rfl (lv_at hl 1 rfl) ?_
  refine z_al (wa := [(h, .inr (0, [.int (nI rt), .int (nI lf), .ref pa, .ref da, .int (nI T), .int (nI P), .long (lN R0), .long xI, .long xP, .long xW, .long xG])), (pa, .inl (g.2.1, 120, .inl u2)), (da, .inl (g.2.1, 121, .inl v))]) (wc := []) (wb := []) (va_runS (As := [.long (lN R0), .int (nI a0)]) (rest := [.ref h]) ⟨hx, hb, hml, hown, hts⟩ (c_percentOf l g R0 a0 (by omega) (by omega) H.size _ rfl) (va_cwS 2 hts gX0_keepPart_X0_percentOf rfl rfl rfl (by decide +kernel) ⟨Nat.le_of_ble_eq_true rfl, Nat.le_of_ble_eq_true rfl⟩) (zpreS (wa := [(h, .inr (0, [.int (nI rt), .int (nI lf), .ref pa, .ref da, .int (nI T), .int (nI P), .long (lN R0), .long xI, .long xP, .long xW, .long xG])), (pa, .inl (g.2.1, 120, .inl u2)), (da, .inl (g.2.1, 121, .inl v))]) (wc := []) (wb := []) hK hP hD) rfl rfl hl.1 rfl (lv_room (Nat.le_of_ble_eq_true rfl)) dX0_keepPart_11 ⟨Nat.le_of_ble_eq_true rfl, Nat.le_of_ble_eq_true rfl⟩) hP hD hS hA (fun r_2 w1 H locs hq hP hD hS => ?_)
  obtain ⟨rfl, rfl⟩ := hq
  have hP : va_P g.1 vwCl [(h, .inr (0, [.int (nI rt), .int (nI lf), .ref pa, .ref da, .int (nI T), .int (nI P), .long (lN R0), .long xI, .long xP, .long xW, .long xG])), (pa, .inl (g.2.1, 120, .inl u2)), (da, .inl (g.2.1, 121, .inl v))] H := hP
  have hD : va_D A [(h, .inr (0, [.int (nI rt), .int (nI lf), .ref pa, .ref da, .int (nI T), .int (nI P), .long (lN R0), .long xI, .long xP, .long xW, .long xG])), (pa, .inl (g.2.1, 120, .inl u2)), (da, .inl (g.2.1, 121, .inl v))] := hD
  refine z_ai (wa := []) (wc := [(h, .inr (0, [.int (nI rt), .int (nI lf), .ref pa, .ref da, .int (nI T), .int (nI P), .long (lN R0), .long xI, .long xP, .long xW, .long xG])), (pa, .inl (g.2.1, 120, .inl u2)), (da, .inl (g.2.1, 121, .inl v))]) (wb := []) (va_runV (As := [.long (lN (R0 * a0 / 100))]) (rest := []) ⟨hx, hb, hml, hown, hts⟩ (c_giveUp l g h pa da rt lf T P R0 xI xP xW xG u2 v (zSc a0 py) (zWr rt py T (T - P)) (R0 * a0 / 100) hT hPT hp2 hu2 hrt (hv P (Nat.le_refl P) hPT) hD0 H.size _ rfl) (cwV 1 hts gX0_keepPart_X0_giveUp rfl rfl rfl (by decide +kernel) ⟨Nat.le_of_ble_eq_true rfl, Nat.le_of_ble_eq_true rfl⟩) (zpreV (wa := []) (wc := [(h, .inr (0, [.int (nI rt), .int (nI lf), .ref pa, .ref da, .int (nI T), .int (nI P), .long (lN R0), .long xI, .long xP, .long xW, .long xG])), (pa, .inl (g.2.1, 120, .inl u2)), (da, .inl (g.2.1, 121, .inl v))]) (wb := []) (q0 := 0) (ci := 0) (T := TX0) (N := 11) hK hP hD rfl rfl) rfl rfl hl.1 rfl (lv_room (Nat.le_of_ble_eq_true rfl)) dX0_keepPart_14 ⟨Nat.le_of_ble_eq_true rfl, Nat.le_of_ble_eq_true rfl⟩) hP hD hS hA (fun r_3 w1 H locs hq hP hD hS => ?_)
  obtain ⟨v2, yG, rfl, hv2, rfl, hg⟩ := hq
  have hP : va_P g.1 vwCl [(h, .inr (0, [.int (nI rt), .int (nI lf), .ref pa, .ref da, .int (nI T), .int (nI P), .long (lN (R0 * a0 / 100)), .long xI, .long xP, .long xW, .long yG])), (pa, .inl (g.2.1, 120, .inl u2)), (da, .inl (g.2.1, 121, .inl v2))] H := hP
  have hD : va_D A [(h, .inr (0, [.int (nI rt), .int (nI lf), .ref pa, .ref da, .int (nI T), .int (nI P), .long (lN (R0 * a0 / 100)), .long xI, .long xP, .long xW, .long yG])), (pa, .inl (g.2.1, 120, .inl u2)), (da, .inl (g.2.1, 121, .inl v2))] := hD
  exact z_iret hx hb hr hP hK hD hS dX0_keepPart_17 hlocks (⟨rfl, (xI, xP, xW, yG, u2, v2), rfl, hI, hPd, hWn, (by rw [hg, hG]; rfl), hu2, hv2⟩)
end
section
/-! the class of a lease: it is made -/
section ZN
variable {p : Program} {l : Launch} {e : Env} {R : Room} {s : State} {m : MethodId} {args : Array Value} {below : List Frame} {meth : Method} {c : Code} {H : Heap} {locs : List Loc} {cells slots : Nat} {Q : State → Prop} {cc : ByteArray} {pc : Nat} {ls : Array Slot} {rest : List Value} {g : zG} {A : Nat → Prop} {ws : va_W}
theorem z_newI (hx : p.tables.exec = Jvm.exec) (hb : c.code = cc) (harr : (Cond.arrayClass .int).before args s = true) (hK : zK g s) (hP : va_P g.1 vwCl ws H) (hD : va_D A ws) (hS : va_S A s.heap H locs) (hA : ∀ q, s.heap.size ≤ q → A q) {n : Nat} (hn : n ≤ 1000000) (hcells : cells + 1 ≤ R.cells) (hslots : slots + n ≤ R.slots) (d : decode cc pc = .ok (.newarray .int, 2))
    (kk : ∀ (q : Nat) (H1 : Heap), va_P g.1 vwCl (ws ++ [(q, .inl (g.2.1, n, .inl (fun _ => 0)))]) H1 → va_D A (ws ++ [(q, .inl (g.2.1, n, .inl (fun _ => 0)))]) → va_S A s.heap H1 locs → W p l e R s m args below meth c H1 locs (cells + 1) (slots + n) Q (F0 m (pc + 2) ls (.ref q :: rest))) : W p l e R s m args below meth c H locs cells slots Q (F0 m pc ls (.int (nI n) :: rest)) := by
  refine va_newa (atype := .int) hx hb harr rfl hK hP hD hS hA (N' := n) (a0 := (n, .inl (fun _ => 0))) (fun _ => rfl) (nI_pos (by omega)) (nI_clamp (by omega)) (by show n * 4 ≤ _; omega) hcells hslots d ?_
  intro q cA H1 hK2 hP2 hD2 hS2
  have h1 : s.vm.findClass ("[" ++ (FieldType.int).toString) = some cA := (hK2.2 3 (cA, .int) rfl).2
  have h2 : s.vm.findClass ("[" ++ (FieldType.int).toString) = some g.2.1 := (hK.2 0 (g.2.1, .int) rfl).2
  obtain rfl : cA = g.2.1 := Option.some.inj (h1.symm.trans h2)
  exact kk q H1 hP2 hD2 hS2
end ZN
def zPy (x0 fr st : Nat) : Nat → Nat := fun j => if j < fr then 0 else x0 + st * (j / 12)
def zNew (T0 x0 fr st rt cs : Nat) : zS := (T0, 0, zPy x0 fr st, zWr rt (zPy x0 fr st) T0 (T0 - 0) + cs, 0, 0, 0, 0)
theorem zPy_le {x0 fr st j : Nat} (hx : x0 ≤ 10000) (hs : st ≤ 1000) (hj : j < 60) : zPy x0 fr st j ≤ 1000000 := by
  unfold zPy
  split
  · omega
  · have : st * (j / 12) ≤ 1000 * 5 := Nat.mul_le_mul hs (by omega)
    omega
theorem zInv_new {T0 x0 fr st rt lf cs : Nat} (hT : T0 ≤ 60) (hx : x0 ≤ 10000) (hs : st ≤ 1000) (hrt : rt ≤ 20000) (hlf : lf ≤ 120) (hcs : cs ≤ 10000) : zInv rt lf (zNew T0 x0 fr st rt cs) :=
  ⟨by omega, Nat.zero_le _, hrt, hlf, fun j _ h2 => zPy_le hx hs (by omega), by omega⟩
set_option maxHeartbeats 4000000 in
set_option maxRecDepth 100000 in
theorem c_LeaseInit (l : Launch) (g : zG) (h T0 x0 fr st rt lf cs : Nat) (hT0 : 1 ≤ T0 ∧ T0 ≤ 60) (hx0 : x0 ≤ 10000) (hfr : fr ≤ 12) (hst : st ≤ 1000) (hrt : rt ≤ 20000) (hlf : lf ≤ 120) (hcs : cs ≤ 10000) : zMv l yX0_init wsX0_init ({ frames := 2, cells := 2, slots := 241, locals := 48 } : Room) [.ref h, .int (nI T0), .int (nI x0), .int (nI fr), .int (nI st), .int (nI rt), .int (nI lf), .int (nI cs)] g [(h, .inr (0, [.int (nI 0), .int (nI 0), .null, .null, .int (nI 0), .int (nI 0), .long (lN 0), .long (lN 0), .long (lN 0), .long (lN 0), .long (lN 0)]))] (fun w => ∃ (pa da : Nat) (q' : zRaw), w = zLW g (h, pa, da) rt lf (zNew T0 x0 fr st rt cs) q' ∧ zCR rt (zNew T0 x0 fr st rt cs) q') 2 241 := by
  intro sz A hAe
  refine Met.ofW (cc := cX0_init) (maxL := 9) (ret := none) (by decide) rfl ?_
  intro p e s m args below meth c s₁ B hml hv
  obtain ⟨rfl, hsz, hP, hK, hD0⟩ := hv
  have hx := B.exec
  have hb := B.bytes
  have hr := B.returns
  have hts := atoms_spec (ws := wsX0_init) B.pre
  have hown : s.vm.findClass RX0 = some m.cls := findClass_of_methodNamed B.named
  have hlocks := B.notSynchronized
  have hin : meth.name = "<init>" := (name_of_methodNamed B.named B.method).1
  obtain ⟨hD, hA, hS⟩ := z_in hsz hAe hD0
  have hl := lv_entry ([.ref h, .int (nI T0), .int (nI x0), .int (nI fr), .int (nI st), .int (nI rt), .int (nI lf), .int (nI cs)]) (n := 9) (Nat.le_of_ble_eq_true rfl)
  rw [lg_entry_eq]
  generalize (lg_sl ([.ref h, .int (nI T0), .int (nI x0), .int (nI fr), .int (nI st), .int (nI rt), .int (nI lf), .int (nI cs)]) ++ List.replicate (9 - (lg_sl ([.ref h, .int (nI T0), .int (nI x0), .int (nI fr), .int (nI st), .int (nI rt), .int (nI lf), .int (nI cs)])).length) Slot.unset).toArray = ls at hl ⊢
  have hl : lv_has ls 9 [(0, .ref h), (1, .int (nI T0)), (2, .int (nI x0)), (3, .int (nI fr)), (4, .int (nI st)), (5, .int (nI rt)), (6, .int (nI lf)), (7, .int (nI cs))] := hl
  have hinX0 : ∀ w ∈ wsX00, w ∈ wsX0_init := by decide +kernel
  have hp : ∀ j, 0 ≤ j → j < T0 → zPy x0 fr st j ≤ 1000000 := fun j _ h2 => zPy_le hx0 hst (by omega)
  have hD0 := z_wb (r := rt) (P := 0) (j := 0) (by omega : T0 ≤ 120) hp (Nat.le_refl 0)
  refine lv_aload_n hx hb dX0_init_0 rfl (lv_at hl 0 rfl) ?_
  refine W.objInit hx hb hown (hts (.methodLink RX0 3 objectInit) (by decide +kernel)) (hts (.instanceMethod objectInit) (by decide +kernel)) (hts (.code objectInit ⟨#[0xb1]⟩ 1 none) (by decide +kernel)) rfl (hl.1.trans hml.symm) rfl dX0_init_1 (Nat.le_of_ble_eq_true rfl) (Nat.le_of_ble_eq_true rfl) ?_
  refine W.eq (g2 := F0 m 4 ls []) rfl ?_
  refine lv_aload_n hx hb dX0_init_4 rfl (lv_at hl 0 rfl) ?_
  refine lv_iload hx hb dX0_init_5 (lv_at hl 5 rfl) ?_
  refine va_putF (D := g.1) (ci := 0) (v := .int (nI rt)) (ty := .int) (C := RX0) (T := TX0) (N := 11) hx hb hts hinX0 tyX0 tyX0_ok nmX0 hown hK hP hD hS 0 rfl rfl 0 (by decide) (hts (.fieldLink RX0 9 "Usewise$Lease" "rate" "I") (by decide +kernel)) (fun _ h9 => h9) rfl hin rfl (by decide +kernel) rfl rfl (Nat.le_of_ble_eq_true rfl) dX0_init_7 (fun H locs hP hD hS => ?_)
  have hP : va_P g.1 vwCl [(h, .inr (0, [.int (nI rt), .int (nI 0), .null, .null, .int (nI 0), .int (nI 0), .long (lN 0), .long (lN 0), .long (lN 0), .long (lN 0), .long (lN 0)]))] H := hP
  have hD : va_D A [(h, .inr (0, [.int (nI rt), .int (nI 0), .null, .null, .int (nI 0), .int (nI 0), .long (lN 0), .long (lN 0), .long (lN 0), .long (lN 0), .long (lN 0)]))] := hD
  refine lv_aload_n hx hb dX0_init_10 rfl (lv_at hl 0 rfl) ?_
  refine lv_iload hx hb dX0_init_11 (lv_at hl 6 rfl) ?_
  refine va_putF (D := g.1) (ci := 0) (v := .int (nI lf)) (ty := .int) (C := RX0) (T := TX0) (N := 11) hx hb hts hinX0 tyX0 tyX0_ok nmX0 hown hK hP hD hS 0 rfl rfl 1 (by decide) (hts (.fieldLink RX0 15 "Usewise$Lease" "life" "I") (by decide +kernel)) (fun _ h9 => h9) rfl hin rfl (by decide +kernel) rfl rfl (Nat.le_of_ble_eq_true rfl) dX0_init_13 (fun H locs hP hD hS => ?_)
  have hP : va_P g.1 vwCl [(h, .inr (0, [.int (nI rt), .int (nI lf), .null, .null, .int (nI 0), .int (nI 0), .long (lN 0), .long (lN 0), .long (lN 0), .long (lN 0), .long (lN 0)]))] H := hP
  have hD : va_D A [(h, .inr (0, [.int (nI rt), .int (nI lf), .null, .null, .int (nI 0), .int (nI 0), .long (lN 0), .long (lN 0), .long (lN 0), .long (lN 0), .long (lN 0)]))] := hD
  refine lv_aload_n hx hb dX0_init_16 rfl (lv_at hl 0 rfl) ?_
  refine lv_iconst (v := nI 0) hx hb dX0_init_17 (by decide) ?_
  refine lv_iload_n hx hb dX0_init_18 rfl (lv_at hl 1 rfl) ?_
  refine lv_bipush (v := nI 120) hx hb dX0_init_19 (by decide) ?_
  refine va_mmin hx hb (hml.trans hl.1.symm) hown (hts (.methodLink RX0 18 Lib.Math.min.name) (by decide +kernel)) (hts (.static Lib.Math.min.name) (by decide +kernel)) (hts (.initialized "java/lang/Math") (by decide +kernel)) (hts (.code Lib.Math.min.name Lib.Math.min.code 2 (some .int)) (by decide +kernel)) (Nat.le_of_ble_eq_true rfl) (Nat.le_of_ble_eq_true rfl) (Nat.le_of_ble_eq_true rfl) (Nat.le_of_ble_eq_true rfl) dX0_init_21 ?_
  refine zi (y := nI T0) ((z_min (by omega) (by omega)).trans (by rw [Nat.min_eq_left (by omega)])) ?_
  refine va_mmax hx hb (hml.trans hl.1.symm) hown (hts (.methodLink RX0 24 Lib.Math.max.name) (by decide +kernel)) (hts (.static Lib.Math.max.name) (by decide +kernel)) (hts (.initialized "java/lang/Math") (by decide +kernel)) (hts (.code Lib.Math.max.name Lib.Math.max.code 2 (some .int)) (by decide +kernel)) (Nat.le_of_ble_eq_true rfl) (Nat.le_of_ble_eq_true rfl) (Nat.le_of_ble_eq_true rfl) (Nat.le_of_ble_eq_true rfl) dX0_init_24 ?_
  refine zi (y := nI T0) ((z_max (by omega) (by omega)).trans (by rw [Nat.max_eq_right (by omega)])) ?_
  refine va_put (D := g.1) (ci := 0) (v := .int (nI T0)) (ty := .int) (C := RX0) (T := TX0) (N := 11) hx hb hts hinX0 tyX0 tyX0_ok nmX0 hown hK hP hD hS 0 rfl rfl 4 (by decide) (hts (.fieldLink RX0 27 "Usewise$Lease" "term" "I") (by decide +kernel)) (fun _ h9 => h9) rfl (by decide +kernel) rfl rfl (Nat.le_of_ble_eq_true rfl) dX0_init_27 (fun H locs hP hD hS => ?_)
  have hP : va_P g.1 vwCl [(h, .inr (0, [.int (nI rt), .int (nI lf), .null, .null, .int (nI T0), .int (nI 0), .long (lN 0), .long (lN 0), .long (lN 0), .long (lN 0), .long (lN 0)]))] H := hP
  have hD : va_D A [(h, .inr (0, [.int (nI rt), .int (nI lf), .null, .null, .int (nI T0), .int (nI 0), .long (lN 0), .long (lN 0), .long (lN 0), .long (lN 0), .long (lN 0)]))] := hD
  refine lv_aload_n hx hb dX0_init_30 rfl (lv_at hl 0 rfl) ?_
  refine lv_bipush (v := nI 120) hx hb dX0_init_31 (by decide) ?_
  refine z_newI hx hb (hts (.arrayClass .int) (by decide +kernel)) hK hP hD hS hA (by omega) (Nat.le_of_ble_eq_true rfl) (Nat.le_of_ble_eq_true rfl) dX0_init_33 (fun pa H hP hD hS => ?_)
  have hP : va_P g.1 vwCl [(h, .inr (0, [.int (nI rt), .int (nI lf), .null, .null, .int (nI T0), .int (nI 0), .long (lN 0), .long (lN 0), .long (lN 0), .long (lN 0), .long (lN 0)])), (pa, .inl (g.2.1, 120, .inl (fun _ => 0)))] H := hP
  have hD : va_D A [(h, .inr (0, [.int (nI rt), .int (nI lf), .null, .null, .int (nI T0), .int (nI 0), .long (lN 0), .long (lN 0), .long (lN 0), .long (lN 0), .long (lN 0)])), (pa, .inl (g.2.1, 120, .inl (fun _ => 0)))] := hD
  refine va_putF (D := g.1) (ci := 0) (v := .ref pa) (ty := (.array .int)) (C := RX0) (T := TX0) (N := 11) hx hb hts hinX0 tyX0 tyX0_ok nmX0 hown hK hP hD hS 0 rfl rfl 2 (by decide) (hts (.fieldLink RX0 30 "Usewise$Lease" "payments" "[I") (by decide +kernel)) (fun _ h9 => h9) rfl hin rfl (by decide +kernel) rfl rfl (Nat.le_of_ble_eq_true rfl) dX0_init_35 (fun H locs hP hD hS => ?_)
  have hP : va_P g.1 vwCl [(h, .inr (0, [.int (nI rt), .int (nI lf), .ref pa, .null, .int (nI T0), .int (nI 0), .long (lN 0), .long (lN 0), .long (lN 0), .long (lN 0), .long (lN 0)])), (pa, .inl (g.2.1, 120, .inl (fun _ => 0)))] H := hP
  have hD : va_D A [(h, .inr (0, [.int (nI rt), .int (nI lf), .ref pa, .null, .int (nI T0), .int (nI 0), .long (lN 0), .long (lN 0), .long (lN 0), .long (lN 0), .long (lN 0)])), (pa, .inl (g.2.1, 120, .inl (fun _ => 0)))] := hD
  refine lv_aload_n hx hb dX0_init_38 rfl (lv_at hl 0 rfl) ?_
  refine lv_bipush (v := nI 121) hx hb dX0_init_39 (by decide) ?_
  refine z_newI hx hb (hts (.arrayClass .int) (by decide +kernel)) hK hP hD hS hA (by omega) (Nat.le_of_ble_eq_true rfl) (Nat.le_of_ble_eq_true rfl) dX0_init_41 (fun da H hP hD hS => ?_)
  have hP : va_P g.1 vwCl [(h, .inr (0, [.int (nI rt), .int (nI lf), .ref pa, .null, .int (nI T0), .int (nI 0), .long (lN 0), .long (lN 0), .long (lN 0), .long (lN 0), .long (lN 0)])), (pa, .inl (g.2.1, 120, .inl (fun _ => 0))), (da, .inl (g.2.1, 121, .inl (fun _ => 0)))] H := hP
  have hD : va_D A [(h, .inr (0, [.int (nI rt), .int (nI lf), .ref pa, .null, .int (nI T0), .int (nI 0), .long (lN 0), .long (lN 0), .long (lN 0), .long (lN 0), .long (lN 0)])), (pa, .inl (g.2.1, 120, .inl (fun _ => 0))), (da, .inl (g.2.1, 121, .inl (fun _ => 0)))] := hD
  refine va_putF (D := g.1) (ci := 0) (v := .ref da) (ty := (.array .int)) (C := RX0) (T := TX0) (N := 11) hx hb hts hinX0 tyX0 tyX0_ok nmX0 hown hK hP hD hS 0 rfl rfl 3 (by decide) (hts (.fieldLink RX0 34 "Usewise$Lease" "debts" "[I") (by decide +kernel)) (fun _ h9 => h9) rfl hin rfl (by decide +kernel) rfl rfl (Nat.le_of_ble_eq_true rfl) dX0_init_43 (fun H locs hP hD hS => ?_)
  have hP : va_P g.1 vwCl [(h, .inr (0, [.int (nI rt), .int (nI lf), .ref pa, .ref da, .int (nI T0), .int (nI 0), .long (lN 0), .long (lN 0), .long (lN 0), .long (lN 0), .long (lN 0)])), (pa, .inl (g.2.1, 120, .inl (fun _ => 0))), (da, .inl (g.2.1, 121, .inl (fun _ => 0)))] H := hP
  have hD : va_D A [(h, .inr (0, [.int (nI rt), .int (nI lf), .ref pa, .ref da, .int (nI T0), .int (nI 0), .long (lN 0), .long (lN 0), .long (lN 0), .long (lN 0), .long (lN 0)])), (pa, .inl (g.2.1, 120, .inl (fun _ => 0))), (da, .inl (g.2.1, 121, .inl (fun _ => 0)))] := hD
  refine W.widen (k := 2) (n := 241) (Nat.le_of_ble_eq_true rfl) (Nat.le_of_ble_eq_true rfl) ?_
  refine lv_iload_n hx hb dX0_init_46 rfl (lv_at hl 3 rfl) ?_
  refine lv_istore (lv' := [(8, .int (nI fr)), (0, .ref h), (1, .int (nI T0)), (2, .int (nI x0)), (3, .int (nI fr)), (4, .int (nI st)), (5, .int (nI rt)), (6, .int (nI lf)), (7, .int (nI cs))]) hx hb dX0_init_47 hl (by decide) rfl (fun ls hl => ?_)
  have loop : ∀ (n : Nat) (i : Nat) (u2 : Nat → Int32) (H : Heap) (locs : List Loc) (ls : Array Slot), 60 < i + n → fr ≤ i → i ≤ 60 → (∀ j, j < i → u2 j = nI (zPy x0 fr st j)) → va_P g.1 vwCl [(h, .inr (0, [.int (nI rt), .int (nI lf), .ref pa, .ref da, .int (nI T0), .int (nI 0), .long (lN 0), .long (lN 0), .long (lN 0), .long (lN 0), .long (lN 0)])), (pa, .inl (g.2.1, 120, .inl u2)), (da, .inl (g.2.1, 121, .inl (fun _ => 0)))] H → va_D A [(h, .inr (0, [.int (nI rt), .int (nI lf), .ref pa, .ref da, .int (nI T0), .int (nI 0), .long (lN 0), .long (lN 0), .long (lN 0), .long (lN 0), .long (lN 0)])), (pa, .inl (g.2.1, 120, .inl u2)), (da, .inl (g.2.1, 121, .inl (fun _ => 0)))] → va_S A s.heap H locs → lv_has ls 9 [(8, .int (nI i)), (0, .ref h), (1, .int (nI T0)), (2, .int (nI x0)), (3, .int (nI fr)), (4, .int (nI st)), (5, .int (nI rt)), (6, .int (nI lf)), (7, .int (nI cs))] → W p l e (headSpec wsX0_init ({ frames := 2, cells := 2, slots := 241, locals := 48 } : Room)).room s m ([.ref h, .int (nI T0), .int (nI x0), .int (nI fr), .int (nI st), .int (nI rt), .int (nI lf), .int (nI cs)] : List Value).toArray below meth c H locs 2 241 (MQ below (va_Qv (fun w => ∃ (pa da : Nat) (q' : zRaw), w = zLW g (h, pa, da) rt lf (zNew T0 x0 fr st rt cs) q' ∧ zCR rt (zNew T0 x0 fr st rt cs) q') (zOut g A) A) ([.ref h, .int (nI T0), .int (nI x0), .int (nI fr), .int (nI st), .int (nI rt), .int (nI lf), .int (nI cs)] : List Value).toArray s 2 241 A) (F0 m 49 ls []) := by
    intro n
    induction n with
    | zero =>
      intro i u2 H locs ls hn hi hi2 hu2 hP hD hS hl
      exfalso; omega
    | succ n ih =>
      intro i u2 H locs ls hn hi hi2 hu2 hP hD hS hl
      refine lv_iload hx hb dX0_init_49 (lv_at hl 0 rfl) ?_
      refine lv_aload_n hx hb dX0_init_51 rfl (lv_at hl 1 rfl) ?_
      refine va_get (D := g.1) (ci := 0) (v := .int (nI T0)) (C := RX0) (T := TX0) (N := 11) hx hb hts hinX0 hown hK hP 0 rfl rfl 4 (by decide) (hts (.fieldLink RX0 27 "Usewise$Lease" "term" "I") (by decide +kernel)) (fun _ h9 => h9) rfl dX0_init_52 ?_
      refine z_icmp_ge (tgt := 83) hx hb dX0_init_55 (by decide) (by omega) (by omega) (fun hc => ?_) (fun hc => ?_)
      · have hu : ∀ j, 0 ≤ j → j < T0 → u2 j = nI (zPy x0 fr st j) := fun j _ h2 => hu2 j (by omega)
        refine lv_aload_n hx hb dX0_init_83 rfl (lv_at hl 1 rfl) ?_
        refine z_av (wa := []) (wc := [(h, .inr (0, [.int (nI rt), .int (nI lf), .ref pa, .ref da, .int (nI T0), .int (nI 0), .long (lN 0), .long (lN 0), .long (lN 0), .long (lN 0), .long (lN 0)])), (pa, .inl (g.2.1, 120, .inl u2)), (da, .inl (g.2.1, 121, .inl (fun _ => 0)))]) (wb := []) (va_runV (As := []) (rest := []) ⟨hx, hb, hml, hown, hts⟩ (c_layDebts l g h pa da rt lf T0 0 (lN 0) (lN 0) (lN 0) (lN 0) (lN 0) u2 (fun _ => 0) (zPy x0 fr st) (by omega) (Nat.zero_le _) hp hu hrt H.size _ rfl) (cwV 0 hts gX0_init_X0_layDebts rfl rfl rfl (by decide +kernel) ⟨Nat.le_of_ble_eq_true rfl, Nat.le_of_ble_eq_true rfl⟩) (zpreV (wa := []) (wc := [(h, .inr (0, [.int (nI rt), .int (nI lf), .ref pa, .ref da, .int (nI T0), .int (nI 0), .long (lN 0), .long (lN 0), .long (lN 0), .long (lN 0), .long (lN 0)])), (pa, .inl (g.2.1, 120, .inl u2)), (da, .inl (g.2.1, 121, .inl (fun _ => 0)))]) (wb := []) (q0 := 0) (ci := 0) (T := TX0) (N := 11) hK hP hD rfl rfl) rfl rfl hl.1 rfl (lv_room (Nat.le_of_ble_eq_true rfl)) dX0_init_84 ⟨Nat.le_of_ble_eq_true rfl, Nat.le_of_ble_eq_true rfl⟩) hP hD hS hA (fun w1 H locs hq hP hD hS => ?_)
        obtain ⟨v2, rfl, hv2⟩ := hq
        have hP : va_P g.1 vwCl [(h, .inr (0, [.int (nI rt), .int (nI lf), .ref pa, .ref da, .int (nI T0), .int (nI 0), .long (lN 0), .long (lN 0), .long (lN 0), .long (lN 0), .long (lN 0)])), (pa, .inl (g.2.1, 120, .inl u2)), (da, .inl (g.2.1, 121, .inl v2))] H := hP
        have hD : va_D A [(h, .inr (0, [.int (nI rt), .int (nI lf), .ref pa, .ref da, .int (nI T0), .int (nI 0), .long (lN 0), .long (lN 0), .long (lN 0), .long (lN 0), .long (lN 0)])), (pa, .inl (g.2.1, 120, .inl u2)), (da, .inl (g.2.1, 121, .inl v2))] := hD
        refine lv_aload_n hx hb dX0_init_87 rfl (lv_at hl 1 rfl) ?_
        refine lv_aload_n hx hb dX0_init_88 rfl (lv_at hl 1 rfl) ?_
        refine z_ai (wa := []) (wc := [(h, .inr (0, [.int (nI rt), .int (nI lf), .ref pa, .ref da, .int (nI T0), .int (nI 0), .long (lN 0), .long (lN 0), .long (lN 0), .long (lN 0), .long (lN 0)])), (pa, .inl (g.2.1, 120, .inl u2)), (da, .inl (g.2.1, 121, .inl v2))]) (wb := []) (va_runV (As := []) (rest := [.ref h]) ⟨hx, hb, hml, hown, hts⟩ (c_debtNow l g h pa da rt lf T0 0 (lN 0) (lN 0) (lN 0) (lN 0) (lN 0) u2 v2 (by omega) H.size _ rfl) (cwV 0 hts gX0_init_X0_debtNow rfl rfl rfl (by decide +kernel) ⟨Nat.le_of_ble_eq_true rfl, Nat.le_of_ble_eq_true rfl⟩) (zpreV (wa := []) (wc := [(h, .inr (0, [.int (nI rt), .int (nI lf), .ref pa, .ref da, .int (nI T0), .int (nI 0), .long (lN 0), .long (lN 0), .long (lN 0), .long (lN 0), .long (lN 0)])), (pa, .inl (g.2.1, 120, .inl u2)), (da, .inl (g.2.1, 121, .inl v2))]) (wb := []) (q0 := 0) (ci := 0) (T := TX0) (N := 11) hK hP hD rfl rfl) rfl rfl hl.1 rfl (lv_room (Nat.le_of_ble_eq_true rfl)) dX0_init_89 ⟨Nat.le_of_ble_eq_true rfl, Nat.le_of_ble_eq_true rfl⟩) hP hD hS hA (fun r_2 w1 H locs hq hP hD hS => ?_)
        obtain ⟨rfl, rfl⟩ := hq
        have hP : va_P g.1 vwCl [(h, .inr (0, [.int (nI rt), .int (nI lf), .ref pa, .ref da, .int (nI T0), .int (nI 0), .long (lN 0), .long (lN 0), .long (lN 0), .long (lN 0), .long (lN 0)])), (pa, .inl (g.2.1, 120, .inl u2)), (da, .inl (g.2.1, 121, .inl v2))] H := hP
        have hD : va_D A [(h, .inr (0, [.int (nI rt), .int (nI lf), .ref pa, .ref da, .int (nI T0), .int (nI 0), .long (lN 0), .long (lN 0), .long (lN 0), .long (lN 0), .long (lN 0)])), (pa, .inl (g.2.1, 120, .inl u2)), (da, .inl (g.2.1, 121, .inl v2))] := hD
        refine zi (y := nI (zWr rt (zPy x0 fr st) T0 (T0 - 0))) (hv2 0 (by omega) (by omega)) ?_
        refine z_i2l hx hb dX0_init_92 (by omega) ?_
        refine lv_iload hx hb dX0_init_93 (lv_at hl 8 rfl) ?_
        refine z_i2l hx hb dX0_init_95 (by omega) ?_
        refine z_ladd hx hb dX0_init_96 ?_
        refine va_put (D := g.1) (ci := 0) (v := .long (lN (zWr rt (zPy x0 fr st) T0 (T0 - 0) + cs))) (ty := .long) (C := RX0) (T := TX0) (N := 11) hx hb hts hinX0 tyX0 tyX0_ok nmX0 hown hK hP hD hS 0 rfl rfl 6 (by decide) (hts (.fieldLink RX0 48 "Usewise$Lease" "right" "J") (by decide +kernel)) (fun _ h9 => h9) rfl (by decide +kernel) rfl rfl (Nat.le_of_ble_eq_true rfl) dX0_init_97 (fun H locs hP hD hS => ?_)
        have hP : va_P g.1 vwCl [(h, .inr (0, [.int (nI rt), .int (nI lf), .ref pa, .ref da, .int (nI T0), .int (nI 0), .long (lN (zWr rt (zPy x0 fr st) T0 (T0 - 0) + cs)), .long (lN 0), .long (lN 0), .long (lN 0), .long (lN 0)])), (pa, .inl (g.2.1, 120, .inl u2)), (da, .inl (g.2.1, 121, .inl v2))] H := hP
        have hD : va_D A [(h, .inr (0, [.int (nI rt), .int (nI lf), .ref pa, .ref da, .int (nI T0), .int (nI 0), .long (lN (zWr rt (zPy x0 fr st) T0 (T0 - 0) + cs)), .long (lN 0), .long (lN 0), .long (lN 0), .long (lN 0)])), (pa, .inl (g.2.1, 120, .inl u2)), (da, .inl (g.2.1, 121, .inl v2))] := hD
        exact z_vret hx hb hr hP hK hD hS dX0_init_100 hlocks (⟨pa, da, (lN 0, lN 0, lN 0, lN 0, u2, v2), rfl, lN_i 0, lN_i 0, lN_i 0, lN_i 0, hu, hv2⟩)
      · refine lv_aload_n hx hb dX0_init_58 rfl (lv_at hl 1 rfl) ?_
        refine va_get (D := g.1) (ci := 0) (v := .ref pa) (C := RX0) (T := TX0) (N := 11) hx hb hts hinX0 hown hK hP 0 rfl rfl 2 (by decide) (hts (.fieldLink RX0 30 "Usewise$Lease" "payments" "[I") (by decide +kernel)) (fun _ h9 => h9) rfl dX0_init_59 ?_
        refine lv_iload hx hb dX0_init_62 (lv_at hl 0 rfl) ?_
        refine lv_iload_n hx hb dX0_init_64 rfl (lv_at hl 3 rfl) ?_
        refine lv_iload hx hb dX0_init_65 (lv_at hl 5 rfl) ?_
        refine lv_iload hx hb dX0_init_67 (lv_at hl 0 rfl) ?_
        refine lv_bipush (v := nI 12) hx hb dX0_init_69 (by decide) ?_
        refine z_idiv hx hb dX0_init_71 (by omega) (by omega) (by omega) ?_
        refine z_imul hx hb dX0_init_72 ?_
        refine z_iadd hx hb dX0_init_73 ?_
        refine z_av (wa := [(h, .inr (0, [.int (nI rt), .int (nI lf), .ref pa, .ref da, .int (nI T0), .int (nI 0), .long (lN 0), .long (lN 0), .long (lN 0), .long (lN 0), .long (lN 0)]))]) (wc := [(pa, .inl (g.2.1, 120, .inl u2))]) (wb := [(da, .inl (g.2.1, 121, .inl (fun _ => 0)))]) (va_runS (As := [.ref pa, .int (nI i), .int (nI (x0 + (st * (i / 12))))]) (rest := []) ⟨hx, hb, hml, hown, hts⟩ (c_put l g pa 120 i (nI (x0 + (st * (i / 12)))) u2 (by omega) (by decide) H.size _ rfl) (va_cwS 3 hts gX0_init_X0_put rfl rfl rfl (by decide +kernel) ⟨Nat.le_of_ble_eq_true rfl, Nat.le_of_ble_eq_true rfl⟩) (zpreS (wa := [(h, .inr (0, [.int (nI rt), .int (nI lf), .ref pa, .ref da, .int (nI T0), .int (nI 0), .long (lN 0), .long (lN 0), .long (lN 0), .long (lN 0), .long (lN 0)]))]) (wc := [(pa, .inl (g.2.1, 120, .inl u2))]) (wb := [(da, .inl (g.2.1, 121, .inl (fun _ => 0)))]) hK hP hD) rfl rfl hl.1 rfl (lv_room (Nat.le_of_ble_eq_true rfl)) dX0_init_74 ⟨Nat.le_of_ble_eq_true rfl, Nat.le_of_ble_eq_true rfl⟩) hP hD hS hA (fun w1 H locs hq hP hD hS => ?_)
        obtain rfl := hq
        have hP : va_P g.1 vwCl [(h, .inr (0, [.int (nI rt), .int (nI lf), .ref pa, .ref da, .int (nI T0), .int (nI 0), .long (lN 0), .long (lN 0), .long (lN 0), .long (lN 0), .long (lN 0)])), (pa, .inl (g.2.1, 120, .inl (upd u2 i (nI (x0 + (st * (i / 12))))))), (da, .inl (g.2.1, 121, .inl (fun _ => 0)))] H := hP
        have hD : va_D A [(h, .inr (0, [.int (nI rt), .int (nI lf), .ref pa, .ref da, .int (nI T0), .int (nI 0), .long (lN 0), .long (lN 0), .long (lN 0), .long (lN 0), .long (lN 0)])), (pa, .inl (g.2.1, 120, .inl (upd u2 i (nI (x0 + (st * (i / 12))))))), (da, .inl (g.2.1, 121, .inl (fun _ => 0)))] := hD
        refine z_iinc (lv' := [(8, .int (nI (i + 1))), (0, .ref h), (1, .int (nI T0)), (2, .int (nI x0)), (3, .int (nI fr)), (4, .int (nI st)), (5, .int (nI rt)), (6, .int (nI lf)), (7, .int (nI cs))]) hx hb dX0_init_77 hl (k := 0) rfl (by decide) rfl (fun ls hl => ?_)
        refine lv_goto (tgt := 49) hx hb dX0_init_80 (by decide) ?_
        exact ih (i + 1) (upd u2 i (nI (x0 + (st * (i / 12))))) H _ _ (by omega) (by omega) (by omega) (fun j h1 => if hj : j = i then (by rw [hj, z_upd_s]; unfold zPy; rw [if_neg (by omega)]) else (by rw [z_upd_n _ _ hj]; exact hu2 j (by omega))) hP hD hS (lv_sub hl [0, 1, 2, 3, 4, 5, 6, 7, 8] rfl)
  exact loop 61 fr _ H _ _ (by omega) (by omega) (by omega) (fun j h1 => by unfold zPy; rw [if_pos h1]; rfl) hP hD hS (lv_sub hl [0, 1, 2, 3, 4, 5, 6, 7, 8] rfl)
end
section
/-! the class Usewise: its own reads and throws -/
section ZU
variable {p : Program} {l : Launch} {e : Env} {R : Room} {s : State} {m : MethodId} {args : Array Value} {below : List Frame} {meth : Method} {c : Code} {H : Heap} {locs : List Loc} {cells slots : Nat} {Q : State → Prop} {cc : ByteArray} {pc : Nat} {ls : Array Slot} {rest : List Value} {D : va_G} {cl : List vw_C} {A : Nat → Prop} {a : Nat} {tys : List (ClassId × FieldType)} {ws : va_W} {H0 : Heap}
theorem z_aald (hx : p.tables.exec = Jvm.exec) (hb : c.code = cc) (hK : va_K D cl tys s) (hP : va_P D cl ws H) (q0 t0 : Nat) {cA : ClassId} {C : String} {n i : Nat} {f : Nat → Option Nat} (ha : ws[q0]? = some (a, .inl (cA, n, .inr (.inr (.inr (.inr f)))))) (ht : tys[t0]? = some (cA, .object C)) (hi : i < n) (hn : n < 2 ^ 31) (d : decode cc pc = .ok (.aaload, 1)) (k : W p l e R s m args below meth c H locs cells slots Q (F0 m (pc + 1) ls (va_rf (f i) :: rest))) : W p l e R s m args below meth c H locs cells slots Q (F0 m pc ls (.int (nI i) :: .ref a :: rest)) := va_aldq hx hb hK hP q0 t0 ha ht (vp_in_nI hi hn) d (by rw [nI_clamp (Nat.lt_trans hi hn)]; exact k)
theorem zqs {h : Nat} (k : W p l e R s m args below meth c H locs cells slots Q (F0 m pc ls (.ref h :: rest))) : W p l e R s m args below meth c H locs cells slots Q (F0 m pc ls (va_rf (some h) :: rest)) := k
theorem zqn (k : W p l e R s m args below meth c H locs cells slots Q (F0 m pc ls (.null :: rest))) : W p l e R s m args below meth c H locs cells slots Q (F0 m pc ls (va_rf none :: rest)) := k
end ZU
theorem zbw_IAE : ∀ w ∈ (vx_atS "Usewise" 115 "java/lang/IllegalArgumentException" ["java/lang/RuntimeException", "java/lang/Exception"]).filter (fun w => !goodWord w), w ∈ zNW := by decide +kernel
theorem zot_IAE_111 : ∀ w ∈ Cond.classLink "Usewise" 111 "java/lang/IllegalArgumentException" :: Cond.initialized "java/lang/IllegalArgumentException" :: vx_atS "Usewise" 115 "java/lang/IllegalArgumentException" ["java/lang/RuntimeException", "java/lang/Exception"], vx_ot w = true := by decide +kernel
theorem zbw_ISE : ∀ w ∈ (vx_atS "Usewise" 27 "java/lang/IllegalStateException" ["java/lang/RuntimeException", "java/lang/Exception"]).filter (fun w => !goodWord w), w ∈ zNW := by decide +kernel
theorem zot_ISE_23 : ∀ w ∈ Cond.classLink "Usewise" 23 "java/lang/IllegalStateException" :: Cond.initialized "java/lang/IllegalStateException" :: vx_atS "Usewise" 27 "java/lang/IllegalStateException" ["java/lang/RuntimeException", "java/lang/Exception"], vx_ot w = true := by decide +kernel
theorem zbw_IOE : ∀ w ∈ (vx_atS "Usewise" 83 "java/lang/IndexOutOfBoundsException" ["java/lang/RuntimeException", "java/lang/Exception"]).filter (fun w => !goodWord w), w ∈ zNW := by decide +kernel
theorem zot_IOE_79 : ∀ w ∈ Cond.classLink "Usewise" 79 "java/lang/IndexOutOfBoundsException" :: Cond.initialized "java/lang/IndexOutOfBoundsException" :: vx_atS "Usewise" 83 "java/lang/IndexOutOfBoundsException" ["java/lang/RuntimeException", "java/lang/Exception"], vx_ot w = true := by decide +kernel
theorem z_nle_of_lt {a b : Int32} (h : a < b) : ¬ b ≤ a := by rw [Int32.lt_iff_toInt_lt] at h; rw [Int32.le_iff_toInt_le]; omega
theorem z_le_of_nlt {a b : Int32} (h : ¬ a < b) : b ≤ a := by rw [Int32.lt_iff_toInt_lt] at h; rw [Int32.le_iff_toInt_le]; omega
set_option maxHeartbeats 4000000 in
set_option maxRecDepth 100000 in
theorem c_mustBeWithin (l : Launch) (hst : l.stackTraces = false) (g : zG) (x0 a0 b0 : Int32)  : zXv l yX1_mustBeWithin wsX1_mustBeWithin ({ frames := 6, cells := 1, slots := 6, locals := 90 } : Room) [.int x0, .int a0, .int b0] g [] (fun w => (a0 ≤ x0 ∧ x0 ≤ b0) ∧ w = []) (fun E => E = "java/lang/IllegalArgumentException" ∧ ¬ (a0 ≤ x0 ∧ x0 ≤ b0)) 1 6 := by
  intro sz A hAe
  refine vx_ofW (cc := cX1_mustBeWithin) (maxL := 3) (ret := none) (by decide) rfl ?_
  intro p e s m args below meth c s₁ B hml hout hv
  obtain ⟨rfl, ⟨hsz, hP, hK, hD0⟩, hX⟩ := hv
  have hx := B.exec
  have hb := B.bytes
  have hr := B.returns
  have hts := atoms_spec (ws := wsX1_mustBeWithin) B.pre
  have hown : s.vm.findClass RX1 = some m.cls := findClass_of_methodNamed B.named
  have hlocks := B.notSynchronized
  obtain ⟨hD, hA, hS⟩ := z_in hsz hAe hD0
  have hl := lv_entry ([.int x0, .int a0, .int b0]) (n := 3) (Nat.le_of_ble_eq_true rfl)
  rw [lg_entry_eq]
  generalize (lg_sl ([.int x0, .int a0, .int b0]) ++ List.replicate (3 - (lg_sl ([.int x0, .int a0, .int b0])).length) Slot.unset).toArray = ls at hl ⊢
  have hl : lv_has ls 3 [(0, .int x0), (1, .int a0), (2, .int b0)] := hl
  refine lv_iload_n hx hb dX1_mustBeWithin_0 rfl (lv_at hl 0 rfl) ?_
  refine lv_iload_n hx hb dX1_mustBeWithin_1 rfl (lv_at hl 1 rfl) ?_
  refine lv_icmp_lt (tgt := 10) hx hb dX1_mustBeWithin_2 (by decide) (fun hc => ?_) (fun hc => ?_)
  · exact z_throw (text := "out of range") (Ts := wsX1_mustBeWithin) hx hb hst hown (by decide +kernel) hts (by decide +kernel) (by decide +kernel) (by decide +kernel) zbw_IAE zot_IAE_111 (by decide +kernel) hX hA hP hK hD hS (hl.1.trans hml.symm) dX1_mustBeWithin_10 dX1_mustBeWithin_13 dX1_mustBeWithin_14 dX1_mustBeWithin_16 dX1_mustBeWithin_19 hout (Nat.le_of_ble_eq_true rfl) (Nat.le_of_ble_eq_true rfl) (Nat.le_of_ble_eq_true rfl) (Nat.le_of_ble_eq_true rfl) hlocks (⟨rfl, fun z => z_nle_of_lt hc z.1⟩) (Nat.le_of_ble_eq_true rfl) (Nat.le_of_ble_eq_true rfl)
  · refine lv_iload_n hx hb dX1_mustBeWithin_5 rfl (lv_at hl 0 rfl) ?_
    refine lv_iload_n hx hb dX1_mustBeWithin_6 rfl (lv_at hl 2 rfl) ?_
    refine lv_icmp_le (tgt := 20) hx hb dX1_mustBeWithin_7 (by decide) (fun hd => ?_) (fun hd => ?_)
    · refine W.widen (k := 1) (n := 6) (by omega) (by omega) ?_
      exact z_xvret hx hb hr hP hK hD hS dX1_mustBeWithin_20 hlocks (⟨⟨z_le_of_nlt hc, hd⟩, rfl⟩)
    · exact z_throw (text := "out of range") (Ts := wsX1_mustBeWithin) hx hb hst hown (by decide +kernel) hts (by decide +kernel) (by decide +kernel) (by decide +kernel) zbw_IAE zot_IAE_111 (by decide +kernel) hX hA hP hK hD hS (hl.1.trans hml.symm) dX1_mustBeWithin_10 dX1_mustBeWithin_13 dX1_mustBeWithin_14 dX1_mustBeWithin_16 dX1_mustBeWithin_19 hout (Nat.le_of_ble_eq_true rfl) (Nat.le_of_ble_eq_true rfl) (Nat.le_of_ble_eq_true rfl) (Nat.le_of_ble_eq_true rfl) hlocks (⟨rfl, fun z => hd z.2⟩) (Nat.le_of_ble_eq_true rfl) (Nat.le_of_ble_eq_true rfl)
end
section
/-! the class Usewise: which lease -/
/-- no lease of that number -/
def zNo (rows : Nat → Option Nat) (x : Int32) : Prop := ∀ j h, j < 6 → x = nI j → rows j ≠ some h
theorem zNo_neg {rows : Nat → Option Nat} {x : Int32} (h : x < 0) : zNo rows x := fun j _ hj e _ => nI_pos (by omega) (e ▸ h)
theorem zNo_big {rows : Nat → Option Nat} {x : Int32} (h : ¬ x < nI 6) : zNo rows x := fun j _ hj e _ => h (e ▸ nI_lt hj (by decide))
theorem zNo_none {rows : Nat → Option Nat} {j : Nat} (hj : j < 6) (h : rows j = none) : zNo rows (nI j) := fun i h' hi e => by
  rw [(nI_eq (by omega) (by omega)).mp e] at h
  rw [h]; exact fun z => nomatch z
theorem z_nlt_of_le {a b : Int32} (h : b ≤ a) : ¬ a < b := by rw [Int32.lt_iff_toInt_lt]; rw [Int32.le_iff_toInt_le] at h; omega
set_option maxHeartbeats 4000000 in
set_option maxRecDepth 100000 in
theorem c_leaseOf (l : Launch) (hst : l.stackTraces = false) (g : zG) (ua ar cnt : Nat) (rows : Nat → Option Nat) (x0 : Int32)  : zXq l yX1_leaseOf wsX1_leaseOf ({ frames := 6, cells := 1, slots := 6, locals := 90 } : Room) [.ref ua, .int x0] g [(ua, .inr (1, [.ref ar, .int (nI cnt)])), (ar, .inl (g.2.2.1, 6, .inr (.inr (.inr (.inr rows)))))] (fun q w => (∃ j h, j < 6 ∧ x0 = nI j ∧ rows j = some h ∧ q = some h) ∧ w = [(ua, .inr (1, [.ref ar, .int (nI cnt)])), (ar, .inl (g.2.2.1, 6, .inr (.inr (.inr (.inr rows)))))]) (fun E => E = "java/lang/IndexOutOfBoundsException" ∧ zNo rows x0) 1 6 := by
  intro sz A hAe
  refine vx_ofW (cc := cX1_leaseOf) (maxL := 3) (ret := some (.object "Usewise$Lease")) (by decide) rfl ?_
  intro p e s m args below meth c s₁ B hml hout hv
  obtain ⟨rfl, ⟨hsz, hP, hK, hD0⟩, hX⟩ := hv
  have hx := B.exec
  have hb := B.bytes
  have hr := B.returns
  have hts := atoms_spec (ws := wsX1_leaseOf) B.pre
  have hown : s.vm.findClass RX1 = some m.cls := findClass_of_methodNamed B.named
  have hlocks := B.notSynchronized
  obtain ⟨hD, hA, hS⟩ := z_in hsz hAe hD0
  have hl := lv_entry ([.ref ua, .int x0]) (n := 3) (Nat.le_of_ble_eq_true rfl)
  rw [lg_entry_eq]
  generalize (lg_sl ([.ref ua, .int x0]) ++ List.replicate (3 - (lg_sl ([.ref ua, .int x0])).length) Slot.unset).toArray = ls at hl ⊢
  have hl : lv_has ls 3 [(0, .ref ua), (1, .int x0)] := hl
  have hinX1 : ∀ w ∈ wsX10, w ∈ wsX1_leaseOf := by decide +kernel
  refine lv_iload_n hx hb dX1_leaseOf_0 rfl (lv_at hl 1 rfl) ?_
  refine lv_if_lt (tgt := 13) hx hb dX1_leaseOf_1 (by decide) (fun hc => ?_) (fun hc => ?_)
  · exact z_throw (text := "no such lease") (Ts := wsX1_leaseOf) hx hb hst hown (by decide +kernel) hts (by decide +kernel) (by decide +kernel) (by decide +kernel) zbw_IOE zot_IOE_79 (by decide +kernel) hX hA hP hK hD hS (hl.1.trans hml.symm) dX1_leaseOf_13 dX1_leaseOf_16 dX1_leaseOf_17 dX1_leaseOf_19 dX1_leaseOf_22 hout (Nat.le_of_ble_eq_true rfl) (Nat.le_of_ble_eq_true rfl) (Nat.le_of_ble_eq_true rfl) (Nat.le_of_ble_eq_true rfl) hlocks (⟨rfl, zNo_neg hc⟩) (Nat.le_of_ble_eq_true rfl) (Nat.le_of_ble_eq_true rfl)
  · refine lv_iload_n hx hb dX1_leaseOf_4 rfl (lv_at hl 1 rfl) ?_
    refine lv_aload_n hx hb dX1_leaseOf_5 rfl (lv_at hl 0 rfl) ?_
    refine va_get (D := g.1) (ci := 1) (v := .ref ar) (C := RX1) (T := TX1) (N := 2) hx hb hts hinX1 hown hK hP 0 rfl rfl 0 (by decide) (hts (.fieldLink RX1 11 "Usewise" "leases" "[LUsewise$Lease;") (by decide +kernel)) (fun _ h9 => h9) rfl dX1_leaseOf_6 ?_
    refine va_alen (v := nI 6) hx hb hK hP 1 1 rfl rfl rfl dX1_leaseOf_9 ?_
    refine lv_icmp_lt (tgt := 23) hx hb dX1_leaseOf_10 (by decide) (fun hd => ?_) (fun hd => ?_)
    · obtain ⟨j, hj, rfl⟩ : ∃ j : Nat, j < 6 ∧ x0 = nI j := by
        rcases pk_ix x0 (n := 6) (by decide) with z | z | z
        · exact absurd z hc
        · exact absurd hd (z_nlt_of_le z)
        · exact z
      refine lv_aload_n hx hb dX1_leaseOf_23 rfl (lv_at hl 0 rfl) ?_
      refine va_get (D := g.1) (ci := 1) (v := .ref ar) (C := RX1) (T := TX1) (N := 2) hx hb hts hinX1 hown hK hP 0 rfl rfl 0 (by decide) (hts (.fieldLink RX1 11 "Usewise" "leases" "[LUsewise$Lease;") (by decide +kernel)) (fun _ h9 => h9) rfl dX1_leaseOf_24 ?_
      refine lv_iload_n hx hb dX1_leaseOf_27 rfl (lv_at hl 1 rfl) ?_
      refine z_aald hx hb hK hP 1 1 rfl rfl hj (by decide) dX1_leaseOf_28 ?_
      rcases hrow : rows j with _ | h
      · refine zqn ?_
        refine lv_astore_nN (lv' := [(2, .null), (0, .ref ua), (1, .int (nI j))]) hx hb dX1_leaseOf_29 rfl hl (by decide) rfl (fun ls hl => ?_)
        refine lv_aload_nN hx hb dX1_leaseOf_30 rfl (lv_at hl 0 rfl) ?_
        refine lv_ifnonnullN hx hb dX1_leaseOf_31 ?_
        exact z_throw (text := "no such lease") (Ts := wsX1_leaseOf) hx hb hst hown (by decide +kernel) hts (by decide +kernel) (by decide +kernel) (by decide +kernel) zbw_IOE zot_IOE_79 (by decide +kernel) hX hA hP hK hD hS (hl.1.trans hml.symm) dX1_leaseOf_34 dX1_leaseOf_37 dX1_leaseOf_38 dX1_leaseOf_40 dX1_leaseOf_43 hout (Nat.le_of_ble_eq_true rfl) (Nat.le_of_ble_eq_true rfl) (Nat.le_of_ble_eq_true rfl) (Nat.le_of_ble_eq_true rfl) hlocks (⟨rfl, zNo_none hj hrow⟩) (Nat.le_of_ble_eq_true rfl) (Nat.le_of_ble_eq_true rfl)
      · refine zqs ?_
        refine lv_astore_n (lv' := [(2, .ref h), (0, .ref ua), (1, .int (nI j))]) hx hb dX1_leaseOf_29 rfl hl (by decide) rfl (fun ls hl => ?_)
        refine lv_aload_n hx hb dX1_leaseOf_30 rfl (lv_at hl 0 rfl) ?_
        refine lv_ifnonnull (tgt := 44) hx hb dX1_leaseOf_31 (by decide) ?_
        refine lv_aload_n hx hb dX1_leaseOf_44 rfl (lv_at hl 0 rfl) ?_
        refine W.widen (k := 1) (n := 6) (by omega) (by omega) ?_
        exact z_xqret hx hb hr hP hK hD hS dX1_leaseOf_45 hlocks (⟨⟨j, h, hj, rfl, hrow, rfl⟩, rfl⟩)
    · exact z_throw (text := "no such lease") (Ts := wsX1_leaseOf) hx hb hst hown (by decide +kernel) hts (by decide +kernel) (by decide +kernel) (by decide +kernel) zbw_IOE zot_IOE_79 (by decide +kernel) hX hA hP hK hD hS (hl.1.trans hml.symm) dX1_leaseOf_13 dX1_leaseOf_16 dX1_leaseOf_17 dX1_leaseOf_19 dX1_leaseOf_22 hout (Nat.le_of_ble_eq_true rfl) (Nat.le_of_ble_eq_true rfl) (Nat.le_of_ble_eq_true rfl) (Nat.le_of_ble_eq_true rfl) hlocks (⟨rfl, zNo_big hd⟩) (Nat.le_of_ble_eq_true rfl) (Nat.le_of_ble_eq_true rfl)

set_option maxHeartbeats 4000000 in
set_option maxRecDepth 100000 in
theorem c_mustGoOn (l : Launch) (hst : l.stackTraces = false) (g : zG) (h pa da rt lf T P : Nat) (R xI xP xW xG : Int64) (u v : Nat → Int32) (hPT : P ≤ T) (hT : T ≤ 120) : zXv l yX1_mustGoOn wsX1_mustGoOn ({ frames := 6, cells := 1, slots := 6, locals := 90 } : Room) [.ref h] g [(h, .inr (0, [.int (nI rt), .int (nI lf), .ref pa, .ref da, .int (nI T), .int (nI P), .long R, .long xI, .long xP, .long xW, .long xG])), (pa, .inl (g.2.1, 120, .inl u)), (da, .inl (g.2.1, 121, .inl v))] (fun w => P < T ∧ w = [(h, .inr (0, [.int (nI rt), .int (nI lf), .ref pa, .ref da, .int (nI T), .int (nI P), .long R, .long xI, .long xP, .long xW, .long xG])), (pa, .inl (g.2.1, 120, .inl u)), (da, .inl (g.2.1, 121, .inl v))]) (fun E => E = "java/lang/IllegalStateException" ∧ P = T) 1 6 := by
  intro sz A hAe
  refine vx_ofW (cc := cX1_mustGoOn) (maxL := 1) (ret := none) (by decide) rfl ?_
  intro p e s m args below meth c s₁ B hml hout hv
  obtain ⟨rfl, ⟨hsz, hP, hK, hD0⟩, hX⟩ := hv
  have hx := B.exec
  have hb := B.bytes
  have hr := B.returns
  have hts := atoms_spec (ws := wsX1_mustGoOn) B.pre
  have hown : s.vm.findClass RX1 = some m.cls := findClass_of_methodNamed B.named
  have hlocks := B.notSynchronized
  obtain ⟨hD, hA, hS⟩ := z_in hsz hAe hD0
  have hl := lv_entry ([.ref h]) (n := 1) (Nat.le_of_ble_eq_true rfl)
  rw [lg_entry_eq]
  generalize (lg_sl ([.ref h]) ++ List.replicate (1 - (lg_sl ([.ref h])).length) Slot.unset).toArray = ls at hl ⊢
  have hl : lv_has ls 1 [(0, .ref h)] := hl
  have hinX0 : ∀ w ∈ wsX00, w ∈ wsX1_mustGoOn := by decide +kernel
  refine lv_aload_n hx hb dX1_mustGoOn_0 rfl (lv_at hl 0 rfl) ?_
  refine z_ai (wa := []) (wc := [(h, .inr (0, [.int (nI rt), .int (nI lf), .ref pa, .ref da, .int (nI T), .int (nI P), .long R, .long xI, .long xP, .long xW, .long xG])), (pa, .inl (g.2.1, 120, .inl u)), (da, .inl (g.2.1, 121, .inl v))]) (wb := []) (va_runV (As := []) (rest := []) ⟨hx, hb, hml, hown, hts⟩ (c_monthsLeft l g h pa da rt lf T P R xI xP xW xG u v hPT s.heap.size _ rfl) (cwV 0 hts gX1_mustGoOn_X0_monthsLeft rfl rfl rfl (by decide +kernel) ⟨Nat.le_of_ble_eq_true rfl, Nat.le_of_ble_eq_true rfl⟩) (zpreV (wa := []) (wc := [(h, .inr (0, [.int (nI rt), .int (nI lf), .ref pa, .ref da, .int (nI T), .int (nI P), .long R, .long xI, .long xP, .long xW, .long xG])), (pa, .inl (g.2.1, 120, .inl u)), (da, .inl (g.2.1, 121, .inl v))]) (wb := []) (q0 := 0) (ci := 0) (T := TX0) (N := 11) hK hP hD rfl rfl) rfl rfl hl.1 rfl (lv_room (Nat.le_of_ble_eq_true rfl)) dX1_mustGoOn_1 ⟨Nat.le_of_ble_eq_true rfl, Nat.le_of_ble_eq_true rfl⟩) hP hD hS hA (fun r_1 w1 H locs hq hP hD hS => ?_)
  obtain ⟨rfl, rfl⟩ := hq
  have hP : va_P g.1 vwCl [(h, .inr (0, [.int (nI rt), .int (nI lf), .ref pa, .ref da, .int (nI T), .int (nI P), .long R, .long xI, .long xP, .long xW, .long xG])), (pa, .inl (g.2.1, 120, .inl u)), (da, .inl (g.2.1, 121, .inl v))] H := hP
  have hD : va_D A [(h, .inr (0, [.int (nI rt), .int (nI lf), .ref pa, .ref da, .int (nI T), .int (nI P), .long R, .long xI, .long xP, .long xW, .long xG])), (pa, .inl (g.2.1, 120, .inl u)), (da, .inl (g.2.1, 121, .inl v))] := hD
  refine z_if_ne (tgt := 17) hx hb dX1_mustGoOn_4 (by decide) (by omega) (fun hc => ?_) (fun hc => ?_)
  · refine W.widen (k := 1) (n := 6) (by omega) (by omega) ?_
    exact z_xvret hx hb hr hP hK hD hS dX1_mustGoOn_17 hlocks (⟨by omega, rfl⟩)
  · exact z_throw (text := "the lease is over") (Ts := wsX1_mustGoOn) hx hb hst hown (by decide +kernel) hts (by decide +kernel) (by decide +kernel) (by decide +kernel) zbw_ISE zot_ISE_23 (by decide +kernel) hX hA hP hK hD hS (hl.1.trans hml.symm) dX1_mustGoOn_7 dX1_mustGoOn_10 dX1_mustGoOn_11 dX1_mustGoOn_13 dX1_mustGoOn_16 hout (Nat.le_of_ble_eq_true rfl) (Nat.le_of_ble_eq_true rfl) (Nat.le_of_ble_eq_true rfl) (Nat.le_of_ble_eq_true rfl) hlocks (⟨rfl, by omega⟩) (Nat.le_of_ble_eq_true rfl) (Nat.le_of_ble_eq_true rfl)
end
section
/-! the class Usewise: its calls on a lease that is there -/
def zN (x : Int32) : Nat := x.toInt.toNat
theorem zN_in {x : Int32} {lo hi : Nat} (hlo : lo < 2 ^ 31) (hhi : hi < 2 ^ 31) (h : nI lo ≤ x ∧ x ≤ nI hi) : x = nI (zN x) ∧ lo ≤ zN x ∧ zN x ≤ hi := by
  obtain ⟨h1, h2⟩ := h
  rw [Int32.le_iff_toInt_le, nI_toInt hlo] at h1
  rw [Int32.le_iff_toInt_le, nI_toInt hhi] at h2
  have e : x = nI (zN x) := by rw [← Int32.toInt_inj, nI_toInt (by unfold zN; omega)]; unfold zN; omega
  refine ⟨e, ?_, ?_⟩ <;> unfold zN <;> omega
theorem zN_nI {k : Nat} (h : k < 2 ^ 31) : zN (nI k) = k := by unfold zN; rw [nI_toInt h]; omega
/-- a hundred and a percent, together -/
def zA (x : Int32) : Nat := (100 + x.toInt).toNat
theorem zA_in {x : Int32} (h : (-50) ≤ x ∧ x ≤ nI 100) : nI 100 + x = nI (zA x) ∧ zA x ≤ 200 := by
  obtain ⟨h1, h2⟩ := h
  have e1 : (-50 : Int32).toInt = -50 := by decide
  have e2 : (nI 100).toInt = 100 := nI_toInt (n := 100) (by omega)
  rw [Int32.le_iff_toInt_le, e1] at h1
  rw [Int32.le_iff_toInt_le, e2] at h2
  have e : zA x = (100 + x.toInt).toNat := rfl
  refine ⟨?_, by omega⟩
  rw [← Int32.toInt_inj, fb_addI (by omega) (by omega), nI_toInt (n := zA x) (by omega), e2]
  omega
theorem zFol_T {r T' : Nat} {p' : Nat → Nat} {T P R : Nat} {p : Nat → Nat} {I Pd W G : Int32} : (zFol r T' p' (T, P, p, R, I, Pd, W, G)).1 = T' := by unfold zFol; dsimp only; split <;> rfl
theorem zFol_P {r T' : Nat} {p' : Nat → Nat} {T P R : Nat} {p : Nat → Nat} {I Pd W G : Int32} : (zFol r T' p' (T, P, p, R, I, Pd, W, G)).2.1 = P := by unfold zFol; dsimp only; split <;> rfl
theorem zFol_p {r T' : Nat} {p' : Nat → Nat} {T P R : Nat} {p : Nat → Nat} {I Pd W G : Int32} : (zFol r T' p' (T, P, p, R, I, Pd, W, G)).2.2.1 = p' := by unfold zFol; dsimp only; split <;> rfl
theorem z_le_of_lt {a b : Int32} (h : a < b) : a ≤ b := by rw [Int32.lt_iff_toInt_lt] at h; rw [Int32.le_iff_toInt_le]; omega
theorem z_lt_tr {x : Int32} {a b : Nat} (h : x < nI a) (hab : a ≤ b) (hb : b < 2 ^ 31 := by decide) : x < nI b := by rw [Int32.lt_iff_toInt_lt, nI_toInt (by omega)] at h ⊢; omega
set_option maxHeartbeats 4000000 in
set_option maxRecDepth 100000 in
theorem p_toCome (l : Launch) (hst : l.stackTraces = false) (g : zG) (ua ar cnt : Nat) (rows : Nat → Option Nat) (j : Nat) (h pa da rt lf T P R0 : Nat) (py : Nat → Nat) (I Pd Wn G : Int32) (xI xP xW xG : Int64) (u v : Nat → Int32) (hj : j < 6) (hrow : rows j = some h) (hZ : zInv rt lf (T, P, py, R0, I, Pd, Wn, G)) (hC : zCR rt (T, P, py, R0, I, Pd, Wn, G) (xI, xP, xW, xG, u, v)) : zXi l yX1_toCome wsX1_toCome ({ frames := 7, cells := 1, slots := 6, locals := 125 } : Room) [.ref ua, .int (nI j)] g [(ua, .inr (1, [.ref ar, .int (nI cnt)])), (ar, .inl (g.2.2.1, 6, .inr (.inr (.inr (.inr rows))))), (h, .inr (0, [.int (nI rt), .int (nI lf), .ref pa, .ref da, .int (nI T), .int (nI P), .long (lN R0), .long xI, .long xP, .long xW, .long xG])), (pa, .inl (g.2.1, 120, .inl u)), (da, .inl (g.2.1, 121, .inl v))] (fun q w => q = nI (T - P) ∧ w = [(ua, .inr (1, [.ref ar, .int (nI cnt)])), (ar, .inl (g.2.2.1, 6, .inr (.inr (.inr (.inr rows))))), (h, .inr (0, [.int (nI rt), .int (nI lf), .ref pa, .ref da, .int (nI T), .int (nI P), .long (lN R0), .long xI, .long xP, .long xW, .long xG])), (pa, .inl (g.2.1, 120, .inl u)), (da, .inl (g.2.1, 121, .inl v))]) (fun _ => False) 1 6 := by
  intro sz A hAe
  refine vx_ofW (cc := cX1_toCome) (maxL := 2) (ret := some .int) (by decide) rfl ?_
  intro p e s m args below meth c s₁ B hml hout hv
  obtain ⟨rfl, ⟨hsz, hP, hK, hD0⟩, hX⟩ := hv
  have hx := B.exec
  have hb := B.bytes
  have hr := B.returns
  have hts := atoms_spec (ws := wsX1_toCome) B.pre
  have hown : s.vm.findClass RX1 = some m.cls := findClass_of_methodNamed B.named
  have hlocks := B.notSynchronized
  obtain ⟨hD, hA, hS⟩ := z_in hsz hAe hD0
  have hl := lv_entry ([.ref ua, .int (nI j)]) (n := 2) (Nat.le_of_ble_eq_true rfl)
  rw [lg_entry_eq]
  generalize (lg_sl ([.ref ua, .int (nI j)]) ++ List.replicate (2 - (lg_sl ([.ref ua, .int (nI j)])).length) Slot.unset).toArray = ls at hl ⊢
  have hl : lv_has ls 2 [(0, .ref ua), (1, .int (nI j))] := hl
  have hinX0 : ∀ w ∈ wsX00, w ∈ wsX1_toCome := by decide +kernel
  have hinX1 : ∀ w ∈ wsX10, w ∈ wsX1_toCome := by decide +kernel
  obtain ⟨hT, hPT, hrt, hlf, hp, hRb⟩ := id hZ
  obtain ⟨hI, hPd, hWn, hG, hu, hv⟩ := id hC
  refine lv_aload_n hx hb dX1_toCome_0 rfl (lv_at hl 0 rfl) ?_
  refine lv_iload_n hx hb dX1_toCome_1 rfl (lv_at hl 1 rfl) ?_
  refine z_axq (wa := []) (wc := [(ua, .inr (1, [.ref ar, .int (nI cnt)])), (ar, .inl (g.2.2.1, 6, .inr (.inr (.inr (.inr rows)))))]) (wb := [(h, .inr (0, [.int (nI rt), .int (nI lf), .ref pa, .ref da, .int (nI T), .int (nI P), .long (lN R0), .long xI, .long xP, .long xW, .long xG])), (pa, .inl (g.2.1, 120, .inl u)), (da, .inl (g.2.1, 121, .inl v))]) (vx_runV (As := [.int (nI j)]) (rest := []) ⟨hx, hb, hml, hown, hts⟩ (c_leaseOf l hst g ua ar cnt rows (nI j) s.heap.size _ rfl) (cwV 1 hts gX1_toCome_X1_leaseOf rfl rfl rfl (by decide +kernel) ⟨Nat.le_of_ble_eq_true rfl, Nat.le_of_ble_eq_true rfl⟩) (zpreXV (wa := []) (wc := [(ua, .inr (1, [.ref ar, .int (nI cnt)])), (ar, .inl (g.2.2.1, 6, .inr (.inr (.inr (.inr rows)))))]) (wb := [(h, .inr (0, [.int (nI rt), .int (nI lf), .ref pa, .ref da, .int (nI T), .int (nI P), .long (lN R0), .long xI, .long xP, .long xW, .long xG])), (pa, .inl (g.2.1, 120, .inl u)), (da, .inl (g.2.1, 121, .inl v))]) (q0 := 0) (ci := 1) (T := TX1) (N := 2) hK hP hD hS hA hX rfl rfl) rfl rfl hl.1 rfl (lv_room (Nat.le_of_ble_eq_true rfl)) dX1_toCome_2 ⟨Nat.le_of_ble_eq_true rfl, Nat.le_of_ble_eq_true rfl⟩) hP hD hS hA (fun E ce q9 H locs hE hP hD hS hc1 hc2 hc3 => ?_) (fun r_1 w1 H locs hq hP hD hS => ?_)
  · exact absurd hrow (hE.2 j h hj rfl)
  · obtain ⟨⟨j2, h2, hj2, ej2, hr2, rfl⟩, rfl⟩ := hq
    have hP : va_P g.1 vwCl [(ua, .inr (1, [.ref ar, .int (nI cnt)])), (ar, .inl (g.2.2.1, 6, .inr (.inr (.inr (.inr rows))))), (h, .inr (0, [.int (nI rt), .int (nI lf), .ref pa, .ref da, .int (nI T), .int (nI P), .long (lN R0), .long xI, .long xP, .long xW, .long xG])), (pa, .inl (g.2.1, 120, .inl u)), (da, .inl (g.2.1, 121, .inl v))] H := hP
    have hD : va_D A [(ua, .inr (1, [.ref ar, .int (nI cnt)])), (ar, .inl (g.2.2.1, 6, .inr (.inr (.inr (.inr rows))))), (h, .inr (0, [.int (nI rt), .int (nI lf), .ref pa, .ref da, .int (nI T), .int (nI P), .long (lN R0), .long xI, .long xP, .long xW, .long xG])), (pa, .inl (g.2.1, 120, .inl u)), (da, .inl (g.2.1, 121, .inl v))] := hD
    obtain rfl : j = j2 := (nI_eq (by omega) (by omega)).mp ej2
    obtain rfl : h = h2 := Option.some.inj (hrow.symm.trans hr2)
    refine zqs ?_
    refine z_ai (wa := [(ua, .inr (1, [.ref ar, .int (nI cnt)])), (ar, .inl (g.2.2.1, 6, .inr (.inr (.inr (.inr rows)))))]) (wc := [(h, .inr (0, [.int (nI rt), .int (nI lf), .ref pa, .ref da, .int (nI T), .int (nI P), .long (lN R0), .long xI, .long xP, .long xW, .long xG])), (pa, .inl (g.2.1, 120, .inl u)), (da, .inl (g.2.1, 121, .inl v))]) (wb := []) (va_runV (As := []) (rest := []) ⟨hx, hb, hml, hown, hts⟩ (c_monthsLeft l g h pa da rt lf T P (lN R0) xI xP xW xG u v hPT H.size _ rfl) (cwV 0 hts gX1_toCome_X0_monthsLeft rfl rfl rfl (by decide +kernel) ⟨Nat.le_of_ble_eq_true rfl, Nat.le_of_ble_eq_true rfl⟩) (zpreV (wa := [(ua, .inr (1, [.ref ar, .int (nI cnt)])), (ar, .inl (g.2.2.1, 6, .inr (.inr (.inr (.inr rows)))))]) (wc := [(h, .inr (0, [.int (nI rt), .int (nI lf), .ref pa, .ref da, .int (nI T), .int (nI P), .long (lN R0), .long xI, .long xP, .long xW, .long xG])), (pa, .inl (g.2.1, 120, .inl u)), (da, .inl (g.2.1, 121, .inl v))]) (wb := []) (q0 := 0) (ci := 0) (T := TX0) (N := 11) hK hP hD rfl rfl) rfl rfl hl.1 rfl (lv_room (Nat.le_of_ble_eq_true rfl)) dX1_toCome_5 ⟨Nat.le_of_ble_eq_true rfl, Nat.le_of_ble_eq_true rfl⟩) hP hD hS hA (fun r_2 w1 H locs hq hP hD hS => ?_)
    obtain ⟨rfl, rfl⟩ := hq
    have hP : va_P g.1 vwCl [(ua, .inr (1, [.ref ar, .int (nI cnt)])), (ar, .inl (g.2.2.1, 6, .inr (.inr (.inr (.inr rows))))), (h, .inr (0, [.int (nI rt), .int (nI lf), .ref pa, .ref da, .int (nI T), .int (nI P), .long (lN R0), .long xI, .long xP, .long xW, .long xG])), (pa, .inl (g.2.1, 120, .inl u)), (da, .inl (g.2.1, 121, .inl v))] H := hP
    have hD : va_D A [(ua, .inr (1, [.ref ar, .int (nI cnt)])), (ar, .inl (g.2.2.1, 6, .inr (.inr (.inr (.inr rows))))), (h, .inr (0, [.int (nI rt), .int (nI lf), .ref pa, .ref da, .int (nI T), .int (nI P), .long (lN R0), .long xI, .long xP, .long xW, .long xG])), (pa, .inl (g.2.1, 120, .inl u)), (da, .inl (g.2.1, 121, .inl v))] := hD
    exact z_xiret hx hb hr hP hK hD hS dX1_toCome_8 hlocks (⟨rfl, rfl⟩)

set_option maxHeartbeats 4000000 in
set_option maxRecDepth 100000 in
theorem p_debt (l : Launch) (hst : l.stackTraces = false) (g : zG) (ua ar cnt : Nat) (rows : Nat → Option Nat) (j : Nat) (h pa da rt lf T P R0 : Nat) (py : Nat → Nat) (I Pd Wn G : Int32) (xI xP xW xG : Int64) (u v : Nat → Int32) (hj : j < 6) (hrow : rows j = some h) (hZ : zInv rt lf (T, P, py, R0, I, Pd, Wn, G)) (hC : zCR rt (T, P, py, R0, I, Pd, Wn, G) (xI, xP, xW, xG, u, v)) : zXi l yX1_debt wsX1_debt ({ frames := 7, cells := 1, slots := 6, locals := 125 } : Room) [.ref ua, .int (nI j)] g [(ua, .inr (1, [.ref ar, .int (nI cnt)])), (ar, .inl (g.2.2.1, 6, .inr (.inr (.inr (.inr rows))))), (h, .inr (0, [.int (nI rt), .int (nI lf), .ref pa, .ref da, .int (nI T), .int (nI P), .long (lN R0), .long xI, .long xP, .long xW, .long xG])), (pa, .inl (g.2.1, 120, .inl u)), (da, .inl (g.2.1, 121, .inl v))] (fun q w => q = nI (zWr rt py T (T - P)) ∧ w = [(ua, .inr (1, [.ref ar, .int (nI cnt)])), (ar, .inl (g.2.2.1, 6, .inr (.inr (.inr (.inr rows))))), (h, .inr (0, [.int (nI rt), .int (nI lf), .ref pa, .ref da, .int (nI T), .int (nI P), .long (lN R0), .long xI, .long xP, .long xW, .long xG])), (pa, .inl (g.2.1, 120, .inl u)), (da, .inl (g.2.1, 121, .inl v))]) (fun _ => False) 1 6 := by
  intro sz A hAe
  refine vx_ofW (cc := cX1_debt) (maxL := 2) (ret := some .int) (by decide) rfl ?_
  intro p e s m args below meth c s₁ B hml hout hv
  obtain ⟨rfl, ⟨hsz, hP, hK, hD0⟩, hX⟩ := hv
  have hx := B.exec
  have hb := B.bytes
  have hr := B.returns
  have hts := atoms_spec (ws := wsX1_debt) B.pre
  have hown : s.vm.findClass RX1 = some m.cls := findClass_of_methodNamed B.named
  have hlocks := B.notSynchronized
  obtain ⟨hD, hA, hS⟩ := z_in hsz hAe hD0
  have hl := lv_entry ([.ref ua, .int (nI j)]) (n := 2) (Nat.le_of_ble_eq_true rfl)
  rw [lg_entry_eq]
  generalize (lg_sl ([.ref ua, .int (nI j)]) ++ List.replicate (2 - (lg_sl ([.ref ua, .int (nI j)])).length) Slot.unset).toArray = ls at hl ⊢
  have hl : lv_has ls 2 [(0, .ref ua), (1, .int (nI j))] := hl
  have hinX0 : ∀ w ∈ wsX00, w ∈ wsX1_debt := by decide +kernel
  have hinX1 : ∀ w ∈ wsX10, w ∈ wsX1_debt := by decide +kernel
  obtain ⟨hT, hPT, hrt, hlf, hp, hRb⟩ := id hZ
  obtain ⟨hI, hPd, hWn, hG, hu, hv⟩ := id hC
  refine lv_aload_n hx hb dX1_debt_0 rfl (lv_at hl 0 rfl) ?_
  refine lv_iload_n hx hb dX1_debt_1 rfl (lv_at hl 1 rfl) ?_
  refine z_axq (wa := []) (wc := [(ua, .inr (1, [.ref ar, .int (nI cnt)])), (ar, .inl (g.2.2.1, 6, .inr (.inr (.inr (.inr rows)))))]) (wb := [(h, .inr (0, [.int (nI rt), .int (nI lf), .ref pa, .ref da, .int (nI T), .int (nI P), .long (lN R0), .long xI, .long xP, .long xW, .long xG])), (pa, .inl (g.2.1, 120, .inl u)), (da, .inl (g.2.1, 121, .inl v))]) (vx_runV (As := [.int (nI j)]) (rest := []) ⟨hx, hb, hml, hown, hts⟩ (c_leaseOf l hst g ua ar cnt rows (nI j) s.heap.size _ rfl) (cwV 1 hts gX1_debt_X1_leaseOf rfl rfl rfl (by decide +kernel) ⟨Nat.le_of_ble_eq_true rfl, Nat.le_of_ble_eq_true rfl⟩) (zpreXV (wa := []) (wc := [(ua, .inr (1, [.ref ar, .int (nI cnt)])), (ar, .inl (g.2.2.1, 6, .inr (.inr (.inr (.inr rows)))))]) (wb := [(h, .inr (0, [.int (nI rt), .int (nI lf), .ref pa, .ref da, .int (nI T), .int (nI P), .long (lN R0), .long xI, .long xP, .long xW, .long xG])), (pa, .inl (g.2.1, 120, .inl u)), (da, .inl (g.2.1, 121, .inl v))]) (q0 := 0) (ci := 1) (T := TX1) (N := 2) hK hP hD hS hA hX rfl rfl) rfl rfl hl.1 rfl (lv_room (Nat.le_of_ble_eq_true rfl)) dX1_debt_2 ⟨Nat.le_of_ble_eq_true rfl, Nat.le_of_ble_eq_true rfl⟩) hP hD hS hA (fun E ce q9 H locs hE hP hD hS hc1 hc2 hc3 => ?_) (fun r_1 w1 H locs hq hP hD hS => ?_)
  · exact absurd hrow (hE.2 j h hj rfl)
  · obtain ⟨⟨j2, h2, hj2, ej2, hr2, rfl⟩, rfl⟩ := hq
    have hP : va_P g.1 vwCl [(ua, .inr (1, [.ref ar, .int (nI cnt)])), (ar, .inl (g.2.2.1, 6, .inr (.inr (.inr (.inr rows))))), (h, .inr (0, [.int (nI rt), .int (nI lf), .ref pa, .ref da, .int (nI T), .int (nI P), .long (lN R0), .long xI, .long xP, .long xW, .long xG])), (pa, .inl (g.2.1, 120, .inl u)), (da, .inl (g.2.1, 121, .inl v))] H := hP
    have hD : va_D A [(ua, .inr (1, [.ref ar, .int (nI cnt)])), (ar, .inl (g.2.2.1, 6, .inr (.inr (.inr (.inr rows))))), (h, .inr (0, [.int (nI rt), .int (nI lf), .ref pa, .ref da, .int (nI T), .int (nI P), .long (lN R0), .long xI, .long xP, .long xW, .long xG])), (pa, .inl (g.2.1, 120, .inl u)), (da, .inl (g.2.1, 121, .inl v))] := hD
    obtain rfl : j = j2 := (nI_eq (by omega) (by omega)).mp ej2
    obtain rfl : h = h2 := Option.some.inj (hrow.symm.trans hr2)
    refine zqs ?_
    refine z_ai (wa := [(ua, .inr (1, [.ref ar, .int (nI cnt)])), (ar, .inl (g.2.2.1, 6, .inr (.inr (.inr (.inr rows)))))]) (wc := [(h, .inr (0, [.int (nI rt), .int (nI lf), .ref pa, .ref da, .int (nI T), .int (nI P), .long (lN R0), .long xI, .long xP, .long xW, .long xG])), (pa, .inl (g.2.1, 120, .inl u)), (da, .inl (g.2.1, 121, .inl v))]) (wb := []) (va_runV (As := []) (rest := []) ⟨hx, hb, hml, hown, hts⟩ (c_debtNow l g h pa da rt lf T P (lN R0) xI xP xW xG u v (by omega) H.size _ rfl) (cwV 0 hts gX1_debt_X0_debtNow rfl rfl rfl (by decide +kernel) ⟨Nat.le_of_ble_eq_true rfl, Nat.le_of_ble_eq_true rfl⟩) (zpreV (wa := [(ua, .inr (1, [.ref ar, .int (nI cnt)])), (ar, .inl (g.2.2.1, 6, .inr (.inr (.inr (.inr rows)))))]) (wc := [(h, .inr (0, [.int (nI rt), .int (nI lf), .ref pa, .ref da, .int (nI T), .int (nI P), .long (lN R0), .long xI, .long xP, .long xW, .long xG])), (pa, .inl (g.2.1, 120, .inl u)), (da, .inl (g.2.1, 121, .inl v))]) (wb := []) (q0 := 0) (ci := 0) (T := TX0) (N := 11) hK hP hD rfl rfl) rfl rfl hl.1 rfl (lv_room (Nat.le_of_ble_eq_true rfl)) dX1_debt_5 ⟨Nat.le_of_ble_eq_true rfl, Nat.le_of_ble_eq_true rfl⟩) hP hD hS hA (fun r_2 w1 H locs hq hP hD hS => ?_)
    obtain ⟨rfl, rfl⟩ := hq
    have hP : va_P g.1 vwCl [(ua, .inr (1, [.ref ar, .int (nI cnt)])), (ar, .inl (g.2.2.1, 6, .inr (.inr (.inr (.inr rows))))), (h, .inr (0, [.int (nI rt), .int (nI lf), .ref pa, .ref da, .int (nI T), .int (nI P), .long (lN R0), .long xI, .long xP, .long xW, .long xG])), (pa, .inl (g.2.1, 120, .inl u)), (da, .inl (g.2.1, 121, .inl v))] H := hP
    have hD : va_D A [(ua, .inr (1, [.ref ar, .int (nI cnt)])), (ar, .inl (g.2.2.1, 6, .inr (.inr (.inr (.inr rows))))), (h, .inr (0, [.int (nI rt), .int (nI lf), .ref pa, .ref da, .int (nI T), .int (nI P), .long (lN R0), .long xI, .long xP, .long xW, .long xG])), (pa, .inl (g.2.1, 120, .inl u)), (da, .inl (g.2.1, 121, .inl v))] := hD
    refine zi (y := nI (zWr rt py T (T - P))) (hv P (Nat.le_refl P) hPT) ?_
    exact z_xiret hx hb hr hP hK hD hS dX1_debt_8 hlocks (⟨rfl, rfl⟩)

set_option maxHeartbeats 4000000 in
set_option maxRecDepth 100000 in
theorem p_debtByWorth (l : Launch) (hst : l.stackTraces = false) (g : zG) (ua ar cnt : Nat) (rows : Nat → Option Nat) (j : Nat) (h pa da rt lf T P R0 : Nat) (py : Nat → Nat) (I Pd Wn G : Int32) (xI xP xW xG : Int64) (u v : Nat → Int32) (hj : j < 6) (hrow : rows j = some h) (hZ : zInv rt lf (T, P, py, R0, I, Pd, Wn, G)) (hC : zCR rt (T, P, py, R0, I, Pd, Wn, G) (xI, xP, xW, xG, u, v)) : zXi l yX1_debtByWorth wsX1_debtByWorth ({ frames := 7, cells := 1, slots := 6, locals := 125 } : Room) [.ref ua, .int (nI j)] g [(ua, .inr (1, [.ref ar, .int (nI cnt)])), (ar, .inl (g.2.2.1, 6, .inr (.inr (.inr (.inr rows))))), (h, .inr (0, [.int (nI rt), .int (nI lf), .ref pa, .ref da, .int (nI T), .int (nI P), .long (lN R0), .long xI, .long xP, .long xW, .long xG])), (pa, .inl (g.2.1, 120, .inl u)), (da, .inl (g.2.1, 121, .inl v))] (fun q w => q = nI (zWr rt py T (T - P)) ∧ w = [(ua, .inr (1, [.ref ar, .int (nI cnt)])), (ar, .inl (g.2.2.1, 6, .inr (.inr (.inr (.inr rows))))), (h, .inr (0, [.int (nI rt), .int (nI lf), .ref pa, .ref da, .int (nI T), .int (nI P), .long (lN R0), .long xI, .long xP, .long xW, .long xG])), (pa, .inl (g.2.1, 120, .inl u)), (da, .inl (g.2.1, 121, .inl v))]) (fun _ => False) 1 6 := by
  intro sz A hAe
  refine vx_ofW (cc := cX1_debtByWorth) (maxL := 3) (ret := some .int) (by decide) rfl ?_
  intro p e s m args below meth c s₁ B hml hout hv
  obtain ⟨rfl, ⟨hsz, hP, hK, hD0⟩, hX⟩ := hv
  have hx := B.exec
  have hb := B.bytes
  have hr := B.returns
  have hts := atoms_spec (ws := wsX1_debtByWorth) B.pre
  have hown : s.vm.findClass RX1 = some m.cls := findClass_of_methodNamed B.named
  have hlocks := B.notSynchronized
  obtain ⟨hD, hA, hS⟩ := z_in hsz hAe hD0
  have hl := lv_entry ([.ref ua, .int (nI j)]) (n := 3) (Nat.le_of_ble_eq_true rfl)
  rw [lg_entry_eq]
  generalize (lg_sl ([.ref ua, .int (nI j)]) ++ List.replicate (3 - (lg_sl ([.ref ua, .int (nI j)])).length) Slot.unset).toArray = ls at hl ⊢
  have hl : lv_has ls 3 [(0, .ref ua), (1, .int (nI j))] := hl
  have hinX0 : ∀ w ∈ wsX00, w ∈ wsX1_debtByWorth := by decide +kernel
  have hinX1 : ∀ w ∈ wsX10, w ∈ wsX1_debtByWorth := by decide +kernel
  obtain ⟨hT, hPT, hrt, hlf, hp, hRb⟩ := id hZ
  obtain ⟨hI, hPd, hWn, hG, hu, hv⟩ := id hC
  refine lv_aload_n hx hb dX1_debtByWorth_0 rfl (lv_at hl 0 rfl) ?_
  refine lv_iload_n hx hb dX1_debtByWorth_1 rfl (lv_at hl 1 rfl) ?_
  refine z_axq (wa := []) (wc := [(ua, .inr (1, [.ref ar, .int (nI cnt)])), (ar, .inl (g.2.2.1, 6, .inr (.inr (.inr (.inr rows)))))]) (wb := [(h, .inr (0, [.int (nI rt), .int (nI lf), .ref pa, .ref da, .int (nI T), .int (nI P), .long (lN R0), .long xI, .long xP, .long xW, .long xG])), (pa, .inl (g.2.1, 120, .inl u)), (da, .inl (g.2.1, 121, .inl v))]) (vx_runV (As := [.int (nI j)]) (rest := []) ⟨hx, hb, hml, hown, hts⟩ (c_leaseOf l hst g ua ar cnt rows (nI j) s.heap.size _ rfl) (cwV 1 hts gX1_debtByWorth_X1_leaseOf rfl rfl rfl (by decide +kernel) ⟨Nat.le_of_ble_eq_true rfl, Nat.le_of_ble_eq_true rfl⟩) (zpreXV (wa := []) (wc := [(ua, .inr (1, [.ref ar, .int (nI cnt)])), (ar, .inl (g.2.2.1, 6, .inr (.inr (.inr (.inr rows)))))]) (wb := [(h, .inr (0, [.int (nI rt), .int (nI lf), .ref pa, .ref da, .int (nI T), .int (nI P), .long (lN R0), .long xI, .long xP, .long xW, .long xG])), (pa, .inl (g.2.1, 120, .inl u)), (da, .inl (g.2.1, 121, .inl v))]) (q0 := 0) (ci := 1) (T := TX1) (N := 2) hK hP hD hS hA hX rfl rfl) rfl rfl hl.1 rfl (lv_room (Nat.le_of_ble_eq_true rfl)) dX1_debtByWorth_2 ⟨Nat.le_of_ble_eq_true rfl, Nat.le_of_ble_eq_true rfl⟩) hP hD hS hA (fun E ce q9 H locs hE hP hD hS hc1 hc2 hc3 => ?_) (fun r_1 w1 H locs hq hP hD hS => ?_)
  · exact absurd hrow (hE.2 j h hj rfl)
  · obtain ⟨⟨j2, h2, hj2, ej2, hr2, rfl⟩, rfl⟩ := hq
    have hP : va_P g.1 vwCl [(ua, .inr (1, [.ref ar, .int (nI cnt)])), (ar, .inl (g.2.2.1, 6, .inr (.inr (.inr (.inr rows))))), (h, .inr (0, [.int (nI rt), .int (nI lf), .ref pa, .ref da, .int (nI T), .int (nI P), .long (lN R0), .long xI, .long xP, .long xW, .long xG])), (pa, .inl (g.2.1, 120, .inl u)), (da, .inl (g.2.1, 121, .inl v))] H := hP
    have hD : va_D A [(ua, .inr (1, [.ref ar, .int (nI cnt)])), (ar, .inl (g.2.2.1, 6, .inr (.inr (.inr (.inr rows))))), (h, .inr (0, [.int (nI rt), .int (nI lf), .ref pa, .ref da, .int (nI T), .int (nI P), .long (lN R0), .long xI, .long xP, .long xW, .long xG])), (pa, .inl (g.2.1, 120, .inl u)), (da, .inl (g.2.1, 121, .inl v))] := hD
    obtain rfl : j = j2 := (nI_eq (by omega) (by omega)).mp ej2
    obtain rfl : h = h2 := Option.some.inj (hrow.symm.trans hr2)
    refine zqs ?_
    refine lv_astore_n (lv' := [(2, .ref h), (0, .ref ua), (1, .int (nI j))]) hx hb dX1_debtByWorth_5 rfl hl (by decide) rfl (fun ls hl => ?_)
    refine lv_aload_n hx hb dX1_debtByWorth_6 rfl (lv_at hl 0 rfl) ?_
    refine lv_aload_n hx hb dX1_debtByWorth_7 rfl (lv_at hl 0 rfl) ?_
    refine va_getN (D := g.1) (ci := 0) (v := .int (nI rt)) (own := "Usewise") (ref := "Usewise$Lease") (host := "Usewise") (index := 87) (C := RX0) (T := TX0) (N := 11) hx hb hts hinX0 hown hK hP 2 rfl rfl 0 (by decide) (va_Nw.use rfl (hX.2.2.1 (.fieldLinkNest "Usewise" 87 "Usewise$Lease" "rate" "I" "Usewise") (by decide +kernel))) (fun _ h9 => h9) rfl dX1_debtByWorth_8 ?_
    refine z_al (wa := [(ua, .inr (1, [.ref ar, .int (nI cnt)])), (ar, .inl (g.2.2.1, 6, .inr (.inr (.inr (.inr rows)))))]) (wc := [(h, .inr (0, [.int (nI rt), .int (nI lf), .ref pa, .ref da, .int (nI T), .int (nI P), .long (lN R0), .long xI, .long xP, .long xW, .long xG])), (pa, .inl (g.2.1, 120, .inl u)), (da, .inl (g.2.1, 121, .inl v))]) (wb := []) (va_runV (As := [.int (nI rt)]) (rest := []) ⟨hx, hb, hml, hown, hts⟩ (c_worthAt l g h pa da rt lf T P (lN R0) xI xP xW xG u v py rt hT hPT hp hu hrt H.size _ rfl) (cwV 1 hts gX1_debtByWorth_X0_worthAt rfl rfl rfl (by decide +kernel) ⟨Nat.le_of_ble_eq_true rfl, Nat.le_of_ble_eq_true rfl⟩) (zpreV (wa := [(ua, .inr (1, [.ref ar, .int (nI cnt)])), (ar, .inl (g.2.2.1, 6, .inr (.inr (.inr (.inr rows)))))]) (wc := [(h, .inr (0, [.int (nI rt), .int (nI lf), .ref pa, .ref da, .int (nI T), .int (nI P), .long (lN R0), .long xI, .long xP, .long xW, .long xG])), (pa, .inl (g.2.1, 120, .inl u)), (da, .inl (g.2.1, 121, .inl v))]) (wb := []) (q0 := 0) (ci := 0) (T := TX0) (N := 11) hK hP hD rfl rfl) rfl rfl hl.1 rfl (lv_room (Nat.le_of_ble_eq_true rfl)) dX1_debtByWorth_11 ⟨Nat.le_of_ble_eq_true rfl, Nat.le_of_ble_eq_true rfl⟩) hP hD hS hA (fun r_2 w1 H locs hq hP hD hS => ?_)
    obtain ⟨rfl, rfl⟩ := hq
    have hP : va_P g.1 vwCl [(ua, .inr (1, [.ref ar, .int (nI cnt)])), (ar, .inl (g.2.2.1, 6, .inr (.inr (.inr (.inr rows))))), (h, .inr (0, [.int (nI rt), .int (nI lf), .ref pa, .ref da, .int (nI T), .int (nI P), .long (lN R0), .long xI, .long xP, .long xW, .long xG])), (pa, .inl (g.2.1, 120, .inl u)), (da, .inl (g.2.1, 121, .inl v))] H := hP
    have hD : va_D A [(ua, .inr (1, [.ref ar, .int (nI cnt)])), (ar, .inl (g.2.2.1, 6, .inr (.inr (.inr (.inr rows))))), (h, .inr (0, [.int (nI rt), .int (nI lf), .ref pa, .ref da, .int (nI T), .int (nI P), .long (lN R0), .long xI, .long xP, .long xW, .long xG])), (pa, .inl (g.2.1, 120, .inl u)), (da, .inl (g.2.1, 121, .inl v))] := hD
    refine z_l2i hx hb dX1_debtByWorth_14 ?_
    exact z_xiret hx hb hr hP hK hD hS dX1_debtByWorth_15 hlocks (⟨rfl, rfl⟩)

set_option maxHeartbeats 4000000 in
set_option maxRecDepth 100000 in
theorem p_right (l : Launch) (hst : l.stackTraces = false) (g : zG) (ua ar cnt : Nat) (rows : Nat → Option Nat) (j : Nat) (h pa da rt lf T P R0 : Nat) (py : Nat → Nat) (I Pd Wn G : Int32) (xI xP xW xG : Int64) (u v : Nat → Int32) (hj : j < 6) (hrow : rows j = some h) (hZ : zInv rt lf (T, P, py, R0, I, Pd, Wn, G)) (hC : zCR rt (T, P, py, R0, I, Pd, Wn, G) (xI, xP, xW, xG, u, v)) : zXi l yX1_right wsX1_right ({ frames := 7, cells := 1, slots := 6, locals := 125 } : Room) [.ref ua, .int (nI j)] g [(ua, .inr (1, [.ref ar, .int (nI cnt)])), (ar, .inl (g.2.2.1, 6, .inr (.inr (.inr (.inr rows))))), (h, .inr (0, [.int (nI rt), .int (nI lf), .ref pa, .ref da, .int (nI T), .int (nI P), .long (lN R0), .long xI, .long xP, .long xW, .long xG])), (pa, .inl (g.2.1, 120, .inl u)), (da, .inl (g.2.1, 121, .inl v))] (fun q w => q = nI R0 ∧ w = [(ua, .inr (1, [.ref ar, .int (nI cnt)])), (ar, .inl (g.2.2.1, 6, .inr (.inr (.inr (.inr rows))))), (h, .inr (0, [.int (nI rt), .int (nI lf), .ref pa, .ref da, .int (nI T), .int (nI P), .long (lN R0), .long xI, .long xP, .long xW, .long xG])), (pa, .inl (g.2.1, 120, .inl u)), (da, .inl (g.2.1, 121, .inl v))]) (fun _ => False) 1 6 := by
  intro sz A hAe
  refine vx_ofW (cc := cX1_right) (maxL := 2) (ret := some .int) (by decide) rfl ?_
  intro p e s m args below meth c s₁ B hml hout hv
  obtain ⟨rfl, ⟨hsz, hP, hK, hD0⟩, hX⟩ := hv
  have hx := B.exec
  have hb := B.bytes
  have hr := B.returns
  have hts := atoms_spec (ws := wsX1_right) B.pre
  have hown : s.vm.findClass RX1 = some m.cls := findClass_of_methodNamed B.named
  have hlocks := B.notSynchronized
  obtain ⟨hD, hA, hS⟩ := z_in hsz hAe hD0
  have hl := lv_entry ([.ref ua, .int (nI j)]) (n := 2) (Nat.le_of_ble_eq_true rfl)
  rw [lg_entry_eq]
  generalize (lg_sl ([.ref ua, .int (nI j)]) ++ List.replicate (2 - (lg_sl ([.ref ua, .int (nI j)])).length) Slot.unset).toArray = ls at hl ⊢
  have hl : lv_has ls 2 [(0, .ref ua), (1, .int (nI j))] := hl
  have hinX0 : ∀ w ∈ wsX00, w ∈ wsX1_right := by decide +kernel
  have hinX1 : ∀ w ∈ wsX10, w ∈ wsX1_right := by decide +kernel
  obtain ⟨hT, hPT, hrt, hlf, hp, hRb⟩ := id hZ
  obtain ⟨hI, hPd, hWn, hG, hu, hv⟩ := id hC
  refine lv_aload_n hx hb dX1_right_0 rfl (lv_at hl 0 rfl) ?_
  refine lv_iload_n hx hb dX1_right_1 rfl (lv_at hl 1 rfl) ?_
  refine z_axq (wa := []) (wc := [(ua, .inr (1, [.ref ar, .int (nI cnt)])), (ar, .inl (g.2.2.1, 6, .inr (.inr (.inr (.inr rows)))))]) (wb := [(h, .inr (0, [.int (nI rt), .int (nI lf), .ref pa, .ref da, .int (nI T), .int (nI P), .long (lN R0), .long xI, .long xP, .long xW, .long xG])), (pa, .inl (g.2.1, 120, .inl u)), (da, .inl (g.2.1, 121, .inl v))]) (vx_runV (As := [.int (nI j)]) (rest := []) ⟨hx, hb, hml, hown, hts⟩ (c_leaseOf l hst g ua ar cnt rows (nI j) s.heap.size _ rfl) (cwV 1 hts gX1_right_X1_leaseOf rfl rfl rfl (by decide +kernel) ⟨Nat.le_of_ble_eq_true rfl, Nat.le_of_ble_eq_true rfl⟩) (zpreXV (wa := []) (wc := [(ua, .inr (1, [.ref ar, .int (nI cnt)])), (ar, .inl (g.2.2.1, 6, .inr (.inr (.inr (.inr rows)))))]) (wb := [(h, .inr (0, [.int (nI rt), .int (nI lf), .ref pa, .ref da, .int (nI T), .int (nI P), .long (lN R0), .long xI, .long xP, .long xW, .long xG])), (pa, .inl (g.2.1, 120, .inl u)), (da, .inl (g.2.1, 121, .inl v))]) (q0 := 0) (ci := 1) (T := TX1) (N := 2) hK hP hD hS hA hX rfl rfl) rfl rfl hl.1 rfl (lv_room (Nat.le_of_ble_eq_true rfl)) dX1_right_2 ⟨Nat.le_of_ble_eq_true rfl, Nat.le_of_ble_eq_true rfl⟩) hP hD hS hA (fun E ce q9 H locs hE hP hD hS hc1 hc2 hc3 => ?_) (fun r_1 w1 H locs hq hP hD hS => ?_)
  · exact absurd hrow (hE.2 j h hj rfl)
  · obtain ⟨⟨j2, h2, hj2, ej2, hr2, rfl⟩, rfl⟩ := hq
    have hP : va_P g.1 vwCl [(ua, .inr (1, [.ref ar, .int (nI cnt)])), (ar, .inl (g.2.2.1, 6, .inr (.inr (.inr (.inr rows))))), (h, .inr (0, [.int (nI rt), .int (nI lf), .ref pa, .ref da, .int (nI T), .int (nI P), .long (lN R0), .long xI, .long xP, .long xW, .long xG])), (pa, .inl (g.2.1, 120, .inl u)), (da, .inl (g.2.1, 121, .inl v))] H := hP
    have hD : va_D A [(ua, .inr (1, [.ref ar, .int (nI cnt)])), (ar, .inl (g.2.2.1, 6, .inr (.inr (.inr (.inr rows))))), (h, .inr (0, [.int (nI rt), .int (nI lf), .ref pa, .ref da, .int (nI T), .int (nI P), .long (lN R0), .long xI, .long xP, .long xW, .long xG])), (pa, .inl (g.2.1, 120, .inl u)), (da, .inl (g.2.1, 121, .inl v))] := hD
    obtain rfl : j = j2 := (nI_eq (by omega) (by omega)).mp ej2
    obtain rfl : h = h2 := Option.some.inj (hrow.symm.trans hr2)
    refine zqs ?_
    refine va_getN (D := g.1) (ci := 0) (v := .long (lN R0)) (own := "Usewise") (ref := "Usewise$Lease") (host := "Usewise") (index := 94) (C := RX0) (T := TX0) (N := 11) hx hb hts hinX0 hown hK hP 2 rfl rfl 6 (by decide) (va_Nw.use rfl (hX.2.2.1 (.fieldLinkNest "Usewise" 94 "Usewise$Lease" "right" "J" "Usewise") (by decide +kernel))) (fun _ h9 => h9) rfl dX1_right_5 ?_
    refine z_l2i hx hb dX1_right_8 ?_
    exact z_xiret hx hb hr hP hK hD hS dX1_right_9 hlocks (⟨rfl, rfl⟩)

set_option maxHeartbeats 4000000 in
set_option maxRecDepth 100000 in
theorem p_interest (l : Launch) (hst : l.stackTraces = false) (g : zG) (ua ar cnt : Nat) (rows : Nat → Option Nat) (j : Nat) (h pa da rt lf T P R0 : Nat) (py : Nat → Nat) (I Pd Wn G : Int32) (xI xP xW xG : Int64) (u v : Nat → Int32) (hj : j < 6) (hrow : rows j = some h) (hZ : zInv rt lf (T, P, py, R0, I, Pd, Wn, G)) (hC : zCR rt (T, P, py, R0, I, Pd, Wn, G) (xI, xP, xW, xG, u, v)) : zXi l yX1_interest wsX1_interest ({ frames := 7, cells := 1, slots := 6, locals := 125 } : Room) [.ref ua, .int (nI j)] g [(ua, .inr (1, [.ref ar, .int (nI cnt)])), (ar, .inl (g.2.2.1, 6, .inr (.inr (.inr (.inr rows))))), (h, .inr (0, [.int (nI rt), .int (nI lf), .ref pa, .ref da, .int (nI T), .int (nI P), .long (lN R0), .long xI, .long xP, .long xW, .long xG])), (pa, .inl (g.2.1, 120, .inl u)), (da, .inl (g.2.1, 121, .inl v))] (fun q w => q = I ∧ w = [(ua, .inr (1, [.ref ar, .int (nI cnt)])), (ar, .inl (g.2.2.1, 6, .inr (.inr (.inr (.inr rows))))), (h, .inr (0, [.int (nI rt), .int (nI lf), .ref pa, .ref da, .int (nI T), .int (nI P), .long (lN R0), .long xI, .long xP, .long xW, .long xG])), (pa, .inl (g.2.1, 120, .inl u)), (da, .inl (g.2.1, 121, .inl v))]) (fun _ => False) 1 6 := by
  intro sz A hAe
  refine vx_ofW (cc := cX1_interest) (maxL := 2) (ret := some .int) (by decide) rfl ?_
  intro p e s m args below meth c s₁ B hml hout hv
  obtain ⟨rfl, ⟨hsz, hP, hK, hD0⟩, hX⟩ := hv
  have hx := B.exec
  have hb := B.bytes
  have hr := B.returns
  have hts := atoms_spec (ws := wsX1_interest) B.pre
  have hown : s.vm.findClass RX1 = some m.cls := findClass_of_methodNamed B.named
  have hlocks := B.notSynchronized
  obtain ⟨hD, hA, hS⟩ := z_in hsz hAe hD0
  have hl := lv_entry ([.ref ua, .int (nI j)]) (n := 2) (Nat.le_of_ble_eq_true rfl)
  rw [lg_entry_eq]
  generalize (lg_sl ([.ref ua, .int (nI j)]) ++ List.replicate (2 - (lg_sl ([.ref ua, .int (nI j)])).length) Slot.unset).toArray = ls at hl ⊢
  have hl : lv_has ls 2 [(0, .ref ua), (1, .int (nI j))] := hl
  have hinX0 : ∀ w ∈ wsX00, w ∈ wsX1_interest := by decide +kernel
  have hinX1 : ∀ w ∈ wsX10, w ∈ wsX1_interest := by decide +kernel
  obtain ⟨hT, hPT, hrt, hlf, hp, hRb⟩ := id hZ
  obtain ⟨hI, hPd, hWn, hG, hu, hv⟩ := id hC
  refine lv_aload_n hx hb dX1_interest_0 rfl (lv_at hl 0 rfl) ?_
  refine lv_iload_n hx hb dX1_interest_1 rfl (lv_at hl 1 rfl) ?_
  refine z_axq (wa := []) (wc := [(ua, .inr (1, [.ref ar, .int (nI cnt)])), (ar, .inl (g.2.2.1, 6, .inr (.inr (.inr (.inr rows)))))]) (wb := [(h, .inr (0, [.int (nI rt), .int (nI lf), .ref pa, .ref da, .int (nI T), .int (nI P), .long (lN R0), .long xI, .long xP, .long xW, .long xG])), (pa, .inl (g.2.1, 120, .inl u)), (da, .inl (g.2.1, 121, .inl v))]) (vx_runV (As := [.int (nI j)]) (rest := []) ⟨hx, hb, hml, hown, hts⟩ (c_leaseOf l hst g ua ar cnt rows (nI j) s.heap.size _ rfl) (cwV 1 hts gX1_interest_X1_leaseOf rfl rfl rfl (by decide +kernel) ⟨Nat.le_of_ble_eq_true rfl, Nat.le_of_ble_eq_true rfl⟩) (zpreXV (wa := []) (wc := [(ua, .inr (1, [.ref ar, .int (nI cnt)])), (ar, .inl (g.2.2.1, 6, .inr (.inr (.inr (.inr rows)))))]) (wb := [(h, .inr (0, [.int (nI rt), .int (nI lf), .ref pa, .ref da, .int (nI T), .int (nI P), .long (lN R0), .long xI, .long xP, .long xW, .long xG])), (pa, .inl (g.2.1, 120, .inl u)), (da, .inl (g.2.1, 121, .inl v))]) (q0 := 0) (ci := 1) (T := TX1) (N := 2) hK hP hD hS hA hX rfl rfl) rfl rfl hl.1 rfl (lv_room (Nat.le_of_ble_eq_true rfl)) dX1_interest_2 ⟨Nat.le_of_ble_eq_true rfl, Nat.le_of_ble_eq_true rfl⟩) hP hD hS hA (fun E ce q9 H locs hE hP hD hS hc1 hc2 hc3 => ?_) (fun r_1 w1 H locs hq hP hD hS => ?_)
  · exact absurd hrow (hE.2 j h hj rfl)
  · obtain ⟨⟨j2, h2, hj2, ej2, hr2, rfl⟩, rfl⟩ := hq
    have hP : va_P g.1 vwCl [(ua, .inr (1, [.ref ar, .int (nI cnt)])), (ar, .inl (g.2.2.1, 6, .inr (.inr (.inr (.inr rows))))), (h, .inr (0, [.int (nI rt), .int (nI lf), .ref pa, .ref da, .int (nI T), .int (nI P), .long (lN R0), .long xI, .long xP, .long xW, .long xG])), (pa, .inl (g.2.1, 120, .inl u)), (da, .inl (g.2.1, 121, .inl v))] H := hP
    have hD : va_D A [(ua, .inr (1, [.ref ar, .int (nI cnt)])), (ar, .inl (g.2.2.1, 6, .inr (.inr (.inr (.inr rows))))), (h, .inr (0, [.int (nI rt), .int (nI lf), .ref pa, .ref da, .int (nI T), .int (nI P), .long (lN R0), .long xI, .long xP, .long xW, .long xG])), (pa, .inl (g.2.1, 120, .inl u)), (da, .inl (g.2.1, 121, .inl v))] := hD
    obtain rfl : j = j2 := (nI_eq (by omega) (by omega)).mp ej2
    obtain rfl : h = h2 := Option.some.inj (hrow.symm.trans hr2)
    refine zqs ?_
    refine va_getN (D := g.1) (ci := 0) (v := .long xI) (own := "Usewise") (ref := "Usewise$Lease") (host := "Usewise") (index := 98) (C := RX0) (T := TX0) (N := 11) hx hb hts hinX0 hown hK hP 2 rfl rfl 7 (by decide) (va_Nw.use rfl (hX.2.2.1 (.fieldLinkNest "Usewise" 98 "Usewise$Lease" "interest" "J" "Usewise") (by decide +kernel))) (fun _ h9 => h9) rfl dX1_interest_5 ?_
    refine lv_l2i hx hb dX1_interest_8 rfl ?_
    exact z_xiret hx hb hr hP hK hD hS dX1_interest_9 hlocks (⟨hI, rfl⟩)

set_option maxHeartbeats 4000000 in
set_option maxRecDepth 100000 in
theorem p_written (l : Launch) (hst : l.stackTraces = false) (g : zG) (ua ar cnt : Nat) (rows : Nat → Option Nat) (j : Nat) (h pa da rt lf T P R0 : Nat) (py : Nat → Nat) (I Pd Wn G : Int32) (xI xP xW xG : Int64) (u v : Nat → Int32) (hj : j < 6) (hrow : rows j = some h) (hZ : zInv rt lf (T, P, py, R0, I, Pd, Wn, G)) (hC : zCR rt (T, P, py, R0, I, Pd, Wn, G) (xI, xP, xW, xG, u, v)) : zXi l yX1_written wsX1_written ({ frames := 7, cells := 1, slots := 6, locals := 125 } : Room) [.ref ua, .int (nI j)] g [(ua, .inr (1, [.ref ar, .int (nI cnt)])), (ar, .inl (g.2.2.1, 6, .inr (.inr (.inr (.inr rows))))), (h, .inr (0, [.int (nI rt), .int (nI lf), .ref pa, .ref da, .int (nI T), .int (nI P), .long (lN R0), .long xI, .long xP, .long xW, .long xG])), (pa, .inl (g.2.1, 120, .inl u)), (da, .inl (g.2.1, 121, .inl v))] (fun q w => q = Wn ∧ w = [(ua, .inr (1, [.ref ar, .int (nI cnt)])), (ar, .inl (g.2.2.1, 6, .inr (.inr (.inr (.inr rows))))), (h, .inr (0, [.int (nI rt), .int (nI lf), .ref pa, .ref da, .int (nI T), .int (nI P), .long (lN R0), .long xI, .long xP, .long xW, .long xG])), (pa, .inl (g.2.1, 120, .inl u)), (da, .inl (g.2.1, 121, .inl v))]) (fun _ => False) 1 6 := by
  intro sz A hAe
  refine vx_ofW (cc := cX1_written) (maxL := 2) (ret := some .int) (by decide) rfl ?_
  intro p e s m args below meth c s₁ B hml hout hv
  obtain ⟨rfl, ⟨hsz, hP, hK, hD0⟩, hX⟩ := hv
  have hx := B.exec
  have hb := B.bytes
  have hr := B.returns
  have hts := atoms_spec (ws := wsX1_written) B.pre
  have hown : s.vm.findClass RX1 = some m.cls := findClass_of_methodNamed B.named
  have hlocks := B.notSynchronized
  obtain ⟨hD, hA, hS⟩ := z_in hsz hAe hD0
  have hl := lv_entry ([.ref ua, .int (nI j)]) (n := 2) (Nat.le_of_ble_eq_true rfl)
  rw [lg_entry_eq]
  generalize (lg_sl ([.ref ua, .int (nI j)]) ++ List.replicate (2 - (lg_sl ([.ref ua, .int (nI j)])).length) Slot.unset).toArray = ls at hl ⊢
  have hl : lv_has ls 2 [(0, .ref ua), (1, .int (nI j))] := hl
  have hinX0 : ∀ w ∈ wsX00, w ∈ wsX1_written := by decide +kernel
  have hinX1 : ∀ w ∈ wsX10, w ∈ wsX1_written := by decide +kernel
  obtain ⟨hT, hPT, hrt, hlf, hp, hRb⟩ := id hZ
  obtain ⟨hI, hPd, hWn, hG, hu, hv⟩ := id hC
  refine lv_aload_n hx hb dX1_written_0 rfl (lv_at hl 0 rfl) ?_
  refine lv_iload_n hx hb dX1_written_1 rfl (lv_at hl 1 rfl) ?_
  refine z_axq (wa := []) (wc := [(ua, .inr (1, [.ref ar, .int (nI cnt)])), (ar, .inl (g.2.2.1, 6, .inr (.inr (.inr (.inr rows)))))]) (wb := [(h, .inr (0, [.int (nI rt), .int (nI lf), .ref pa, .ref da, .int (nI T), .int (nI P), .long (lN R0), .long xI, .long xP, .long xW, .long xG])), (pa, .inl (g.2.1, 120, .inl u)), (da, .inl (g.2.1, 121, .inl v))]) (vx_runV (As := [.int (nI j)]) (rest := []) ⟨hx, hb, hml, hown, hts⟩ (c_leaseOf l hst g ua ar cnt rows (nI j) s.heap.size _ rfl) (cwV 1 hts gX1_written_X1_leaseOf rfl rfl rfl (by decide +kernel) ⟨Nat.le_of_ble_eq_true rfl, Nat.le_of_ble_eq_true rfl⟩) (zpreXV (wa := []) (wc := [(ua, .inr (1, [.ref ar, .int (nI cnt)])), (ar, .inl (g.2.2.1, 6, .inr (.inr (.inr (.inr rows)))))]) (wb := [(h, .inr (0, [.int (nI rt), .int (nI lf), .ref pa, .ref da, .int (nI T), .int (nI P), .long (lN R0), .long xI, .long xP, .long xW, .long xG])), (pa, .inl (g.2.1, 120, .inl u)), (da, .inl (g.2.1, 121, .inl v))]) (q0 := 0) (ci := 1) (T := TX1) (N := 2) hK hP hD hS hA hX rfl rfl) rfl rfl hl.1 rfl (lv_room (Nat.le_of_ble_eq_true rfl)) dX1_written_2 ⟨Nat.le_of_ble_eq_true rfl, Nat.le_of_ble_eq_true rfl⟩) hP hD hS hA (fun E ce q9 H locs hE hP hD hS hc1 hc2 hc3 => ?_) (fun r_1 w1 H locs hq hP hD hS => ?_)
  · exact absurd hrow (hE.2 j h hj rfl)
  · obtain ⟨⟨j2, h2, hj2, ej2, hr2, rfl⟩, rfl⟩ := hq
    have hP : va_P g.1 vwCl [(ua, .inr (1, [.ref ar, .int (nI cnt)])), (ar, .inl (g.2.2.1, 6, .inr (.inr (.inr (.inr rows))))), (h, .inr (0, [.int (nI rt), .int (nI lf), .ref pa, .ref da, .int (nI T), .int (nI P), .long (lN R0), .long xI, .long xP, .long xW, .long xG])), (pa, .inl (g.2.1, 120, .inl u)), (da, .inl (g.2.1, 121, .inl v))] H := hP
    have hD : va_D A [(ua, .inr (1, [.ref ar, .int (nI cnt)])), (ar, .inl (g.2.2.1, 6, .inr (.inr (.inr (.inr rows))))), (h, .inr (0, [.int (nI rt), .int (nI lf), .ref pa, .ref da, .int (nI T), .int (nI P), .long (lN R0), .long xI, .long xP, .long xW, .long xG])), (pa, .inl (g.2.1, 120, .inl u)), (da, .inl (g.2.1, 121, .inl v))] := hD
    obtain rfl : j = j2 := (nI_eq (by omega) (by omega)).mp ej2
    obtain rfl : h = h2 := Option.some.inj (hrow.symm.trans hr2)
    refine zqs ?_
    refine va_getN (D := g.1) (ci := 0) (v := .long xW) (own := "Usewise") (ref := "Usewise$Lease") (host := "Usewise") (index := 101) (C := RX0) (T := TX0) (N := 11) hx hb hts hinX0 hown hK hP 2 rfl rfl 9 (by decide) (va_Nw.use rfl (hX.2.2.1 (.fieldLinkNest "Usewise" 101 "Usewise$Lease" "written" "J" "Usewise") (by decide +kernel))) (fun _ h9 => h9) rfl dX1_written_5 ?_
    refine lv_l2i hx hb dX1_written_8 rfl ?_
    exact z_xiret hx hb hr hP hK hD hS dX1_written_9 hlocks (⟨hWn, rfl⟩)

set_option maxHeartbeats 4000000 in
set_option maxRecDepth 100000 in
theorem p_paid (l : Launch) (hst : l.stackTraces = false) (g : zG) (ua ar cnt : Nat) (rows : Nat → Option Nat) (j : Nat) (h pa da rt lf T P R0 : Nat) (py : Nat → Nat) (I Pd Wn G : Int32) (xI xP xW xG : Int64) (u v : Nat → Int32) (hj : j < 6) (hrow : rows j = some h) (hZ : zInv rt lf (T, P, py, R0, I, Pd, Wn, G)) (hC : zCR rt (T, P, py, R0, I, Pd, Wn, G) (xI, xP, xW, xG, u, v)) : zXi l yX1_paid wsX1_paid ({ frames := 7, cells := 1, slots := 6, locals := 125 } : Room) [.ref ua, .int (nI j)] g [(ua, .inr (1, [.ref ar, .int (nI cnt)])), (ar, .inl (g.2.2.1, 6, .inr (.inr (.inr (.inr rows))))), (h, .inr (0, [.int (nI rt), .int (nI lf), .ref pa, .ref da, .int (nI T), .int (nI P), .long (lN R0), .long xI, .long xP, .long xW, .long xG])), (pa, .inl (g.2.1, 120, .inl u)), (da, .inl (g.2.1, 121, .inl v))] (fun q w => q = Pd ∧ w = [(ua, .inr (1, [.ref ar, .int (nI cnt)])), (ar, .inl (g.2.2.1, 6, .inr (.inr (.inr (.inr rows))))), (h, .inr (0, [.int (nI rt), .int (nI lf), .ref pa, .ref da, .int (nI T), .int (nI P), .long (lN R0), .long xI, .long xP, .long xW, .long xG])), (pa, .inl (g.2.1, 120, .inl u)), (da, .inl (g.2.1, 121, .inl v))]) (fun _ => False) 1 6 := by
  intro sz A hAe
  refine vx_ofW (cc := cX1_paid) (maxL := 2) (ret := some .int) (by decide) rfl ?_
  intro p e s m args below meth c s₁ B hml hout hv
  obtain ⟨rfl, ⟨hsz, hP, hK, hD0⟩, hX⟩ := hv
  have hx := B.exec
  have hb := B.bytes
  have hr := B.returns
  have hts := atoms_spec (ws := wsX1_paid) B.pre
  have hown : s.vm.findClass RX1 = some m.cls := findClass_of_methodNamed B.named
  have hlocks := B.notSynchronized
  obtain ⟨hD, hA, hS⟩ := z_in hsz hAe hD0
  have hl := lv_entry ([.ref ua, .int (nI j)]) (n := 2) (Nat.le_of_ble_eq_true rfl)
  rw [lg_entry_eq]
  generalize (lg_sl ([.ref ua, .int (nI j)]) ++ List.replicate (2 - (lg_sl ([.ref ua, .int (nI j)])).length) Slot.unset).toArray = ls at hl ⊢
  have hl : lv_has ls 2 [(0, .ref ua), (1, .int (nI j))] := hl
  have hinX0 : ∀ w ∈ wsX00, w ∈ wsX1_paid := by decide +kernel
  have hinX1 : ∀ w ∈ wsX10, w ∈ wsX1_paid := by decide +kernel
  obtain ⟨hT, hPT, hrt, hlf, hp, hRb⟩ := id hZ
  obtain ⟨hI, hPd, hWn, hG, hu, hv⟩ := id hC
  refine lv_aload_n hx hb dX1_paid_0 rfl (lv_at hl 0 rfl) ?_
  refine lv_iload_n hx hb dX1_paid_1 rfl (lv_at hl 1 rfl) ?_
  refine z_axq (wa := []) (wc := [(ua, .inr (1, [.ref ar, .int (nI cnt)])), (ar, .inl (g.2.2.1, 6, .inr (.inr (.inr (.inr rows)))))]) (wb := [(h, .inr (0, [.int (nI rt), .int (nI lf), .ref pa, .ref da, .int (nI T), .int (nI P), .long (lN R0), .long xI, .long xP, .long xW, .long xG])), (pa, .inl (g.2.1, 120, .inl u)), (da, .inl (g.2.1, 121, .inl v))]) (vx_runV (As := [.int (nI j)]) (rest := []) ⟨hx, hb, hml, hown, hts⟩ (c_leaseOf l hst g ua ar cnt rows (nI j) s.heap.size _ rfl) (cwV 1 hts gX1_paid_X1_leaseOf rfl rfl rfl (by decide +kernel) ⟨Nat.le_of_ble_eq_true rfl, Nat.le_of_ble_eq_true rfl⟩) (zpreXV (wa := []) (wc := [(ua, .inr (1, [.ref ar, .int (nI cnt)])), (ar, .inl (g.2.2.1, 6, .inr (.inr (.inr (.inr rows)))))]) (wb := [(h, .inr (0, [.int (nI rt), .int (nI lf), .ref pa, .ref da, .int (nI T), .int (nI P), .long (lN R0), .long xI, .long xP, .long xW, .long xG])), (pa, .inl (g.2.1, 120, .inl u)), (da, .inl (g.2.1, 121, .inl v))]) (q0 := 0) (ci := 1) (T := TX1) (N := 2) hK hP hD hS hA hX rfl rfl) rfl rfl hl.1 rfl (lv_room (Nat.le_of_ble_eq_true rfl)) dX1_paid_2 ⟨Nat.le_of_ble_eq_true rfl, Nat.le_of_ble_eq_true rfl⟩) hP hD hS hA (fun E ce q9 H locs hE hP hD hS hc1 hc2 hc3 => ?_) (fun r_1 w1 H locs hq hP hD hS => ?_)
  · exact absurd hrow (hE.2 j h hj rfl)
  · obtain ⟨⟨j2, h2, hj2, ej2, hr2, rfl⟩, rfl⟩ := hq
    have hP : va_P g.1 vwCl [(ua, .inr (1, [.ref ar, .int (nI cnt)])), (ar, .inl (g.2.2.1, 6, .inr (.inr (.inr (.inr rows))))), (h, .inr (0, [.int (nI rt), .int (nI lf), .ref pa, .ref da, .int (nI T), .int (nI P), .long (lN R0), .long xI, .long xP, .long xW, .long xG])), (pa, .inl (g.2.1, 120, .inl u)), (da, .inl (g.2.1, 121, .inl v))] H := hP
    have hD : va_D A [(ua, .inr (1, [.ref ar, .int (nI cnt)])), (ar, .inl (g.2.2.1, 6, .inr (.inr (.inr (.inr rows))))), (h, .inr (0, [.int (nI rt), .int (nI lf), .ref pa, .ref da, .int (nI T), .int (nI P), .long (lN R0), .long xI, .long xP, .long xW, .long xG])), (pa, .inl (g.2.1, 120, .inl u)), (da, .inl (g.2.1, 121, .inl v))] := hD
    obtain rfl : j = j2 := (nI_eq (by omega) (by omega)).mp ej2
    obtain rfl : h = h2 := Option.some.inj (hrow.symm.trans hr2)
    refine zqs ?_
    refine va_getN (D := g.1) (ci := 0) (v := .long xP) (own := "Usewise") (ref := "Usewise$Lease") (host := "Usewise") (index := 104) (C := RX0) (T := TX0) (N := 11) hx hb hts hinX0 hown hK hP 2 rfl rfl 8 (by decide) (va_Nw.use rfl (hX.2.2.1 (.fieldLinkNest "Usewise" 104 "Usewise$Lease" "paid" "J" "Usewise") (by decide +kernel))) (fun _ h9 => h9) rfl dX1_paid_5 ?_
    refine lv_l2i hx hb dX1_paid_8 rfl ?_
    exact z_xiret hx hb hr hP hK hD hS dX1_paid_9 hlocks (⟨hPd, rfl⟩)

set_option maxHeartbeats 4000000 in
set_option maxRecDepth 100000 in
theorem p_gains (l : Launch) (hst : l.stackTraces = false) (g : zG) (ua ar cnt : Nat) (rows : Nat → Option Nat) (j : Nat) (h pa da rt lf T P R0 : Nat) (py : Nat → Nat) (I Pd Wn G : Int32) (xI xP xW xG : Int64) (u v : Nat → Int32) (hj : j < 6) (hrow : rows j = some h) (hZ : zInv rt lf (T, P, py, R0, I, Pd, Wn, G)) (hC : zCR rt (T, P, py, R0, I, Pd, Wn, G) (xI, xP, xW, xG, u, v)) : zXi l yX1_gains wsX1_gains ({ frames := 7, cells := 1, slots := 6, locals := 125 } : Room) [.ref ua, .int (nI j)] g [(ua, .inr (1, [.ref ar, .int (nI cnt)])), (ar, .inl (g.2.2.1, 6, .inr (.inr (.inr (.inr rows))))), (h, .inr (0, [.int (nI rt), .int (nI lf), .ref pa, .ref da, .int (nI T), .int (nI P), .long (lN R0), .long xI, .long xP, .long xW, .long xG])), (pa, .inl (g.2.1, 120, .inl u)), (da, .inl (g.2.1, 121, .inl v))] (fun q w => q = G ∧ w = [(ua, .inr (1, [.ref ar, .int (nI cnt)])), (ar, .inl (g.2.2.1, 6, .inr (.inr (.inr (.inr rows))))), (h, .inr (0, [.int (nI rt), .int (nI lf), .ref pa, .ref da, .int (nI T), .int (nI P), .long (lN R0), .long xI, .long xP, .long xW, .long xG])), (pa, .inl (g.2.1, 120, .inl u)), (da, .inl (g.2.1, 121, .inl v))]) (fun _ => False) 1 6 := by
  intro sz A hAe
  refine vx_ofW (cc := cX1_gains) (maxL := 2) (ret := some .int) (by decide) rfl ?_
  intro p e s m args below meth c s₁ B hml hout hv
  obtain ⟨rfl, ⟨hsz, hP, hK, hD0⟩, hX⟩ := hv
  have hx := B.exec
  have hb := B.bytes
  have hr := B.returns
  have hts := atoms_spec (ws := wsX1_gains) B.pre
  have hown : s.vm.findClass RX1 = some m.cls := findClass_of_methodNamed B.named
  have hlocks := B.notSynchronized
  obtain ⟨hD, hA, hS⟩ := z_in hsz hAe hD0
  have hl := lv_entry ([.ref ua, .int (nI j)]) (n := 2) (Nat.le_of_ble_eq_true rfl)
  rw [lg_entry_eq]
  generalize (lg_sl ([.ref ua, .int (nI j)]) ++ List.replicate (2 - (lg_sl ([.ref ua, .int (nI j)])).length) Slot.unset).toArray = ls at hl ⊢
  have hl : lv_has ls 2 [(0, .ref ua), (1, .int (nI j))] := hl
  have hinX0 : ∀ w ∈ wsX00, w ∈ wsX1_gains := by decide +kernel
  have hinX1 : ∀ w ∈ wsX10, w ∈ wsX1_gains := by decide +kernel
  obtain ⟨hT, hPT, hrt, hlf, hp, hRb⟩ := id hZ
  obtain ⟨hI, hPd, hWn, hG, hu, hv⟩ := id hC
  refine lv_aload_n hx hb dX1_gains_0 rfl (lv_at hl 0 rfl) ?_
  refine lv_iload_n hx hb dX1_gains_1 rfl (lv_at hl 1 rfl) ?_
  refine z_axq (wa := []) (wc := [(ua, .inr (1, [.ref ar, .int (nI cnt)])), (ar, .inl (g.2.2.1, 6, .inr (.inr (.inr (.inr rows)))))]) (wb := [(h, .inr (0, [.int (nI rt), .int (nI lf), .ref pa, .ref da, .int (nI T), .int (nI P), .long (lN R0), .long xI, .long xP, .long xW, .long xG])), (pa, .inl (g.2.1, 120, .inl u)), (da, .inl (g.2.1, 121, .inl v))]) (vx_runV (As := [.int (nI j)]) (rest := []) ⟨hx, hb, hml, hown, hts⟩ (c_leaseOf l hst g ua ar cnt rows (nI j) s.heap.size _ rfl) (cwV 1 hts gX1_gains_X1_leaseOf rfl rfl rfl (by decide +kernel) ⟨Nat.le_of_ble_eq_true rfl, Nat.le_of_ble_eq_true rfl⟩) (zpreXV (wa := []) (wc := [(ua, .inr (1, [.ref ar, .int (nI cnt)])), (ar, .inl (g.2.2.1, 6, .inr (.inr (.inr (.inr rows)))))]) (wb := [(h, .inr (0, [.int (nI rt), .int (nI lf), .ref pa, .ref da, .int (nI T), .int (nI P), .long (lN R0), .long xI, .long xP, .long xW, .long xG])), (pa, .inl (g.2.1, 120, .inl u)), (da, .inl (g.2.1, 121, .inl v))]) (q0 := 0) (ci := 1) (T := TX1) (N := 2) hK hP hD hS hA hX rfl rfl) rfl rfl hl.1 rfl (lv_room (Nat.le_of_ble_eq_true rfl)) dX1_gains_2 ⟨Nat.le_of_ble_eq_true rfl, Nat.le_of_ble_eq_true rfl⟩) hP hD hS hA (fun E ce q9 H locs hE hP hD hS hc1 hc2 hc3 => ?_) (fun r_1 w1 H locs hq hP hD hS => ?_)
  · exact absurd hrow (hE.2 j h hj rfl)
  · obtain ⟨⟨j2, h2, hj2, ej2, hr2, rfl⟩, rfl⟩ := hq
    have hP : va_P g.1 vwCl [(ua, .inr (1, [.ref ar, .int (nI cnt)])), (ar, .inl (g.2.2.1, 6, .inr (.inr (.inr (.inr rows))))), (h, .inr (0, [.int (nI rt), .int (nI lf), .ref pa, .ref da, .int (nI T), .int (nI P), .long (lN R0), .long xI, .long xP, .long xW, .long xG])), (pa, .inl (g.2.1, 120, .inl u)), (da, .inl (g.2.1, 121, .inl v))] H := hP
    have hD : va_D A [(ua, .inr (1, [.ref ar, .int (nI cnt)])), (ar, .inl (g.2.2.1, 6, .inr (.inr (.inr (.inr rows))))), (h, .inr (0, [.int (nI rt), .int (nI lf), .ref pa, .ref da, .int (nI T), .int (nI P), .long (lN R0), .long xI, .long xP, .long xW, .long xG])), (pa, .inl (g.2.1, 120, .inl u)), (da, .inl (g.2.1, 121, .inl v))] := hD
    obtain rfl : j = j2 := (nI_eq (by omega) (by omega)).mp ej2
    obtain rfl : h = h2 := Option.some.inj (hrow.symm.trans hr2)
    refine zqs ?_
    refine va_getN (D := g.1) (ci := 0) (v := .long xG) (own := "Usewise") (ref := "Usewise$Lease") (host := "Usewise") (index := 107) (C := RX0) (T := TX0) (N := 11) hx hb hts hinX0 hown hK hP 2 rfl rfl 10 (by decide) (va_Nw.use rfl (hX.2.2.1 (.fieldLinkNest "Usewise" 107 "Usewise$Lease" "gains" "J" "Usewise") (by decide +kernel))) (fun _ h9 => h9) rfl dX1_gains_5 ?_
    refine lv_l2i hx hb dX1_gains_8 rfl ?_
    exact z_xiret hx hb hr hP hK hD hS dX1_gains_9 hlocks (⟨hG, rfl⟩)

set_option maxHeartbeats 4000000 in
set_option maxRecDepth 100000 in
theorem p_review (l : Launch) (hst : l.stackTraces = false) (g : zG) (ua ar cnt : Nat) (rows : Nat → Option Nat) (j : Nat) (h pa da rt lf T P R0 : Nat) (py : Nat → Nat) (I Pd Wn G : Int32) (xI xP xW xG : Int64) (u v : Nat → Int32) (x1 : Int32) (hj : j < 6) (hrow : rows j = some h) (hZ : zInv rt lf (T, P, py, R0, I, Pd, Wn, G)) (hC : zCR rt (T, P, py, R0, I, Pd, Wn, G) (xI, xP, xW, xG, u, v)) : zXi l yX1_review wsX1_review ({ frames := 7, cells := 4, slots := 24, locals := 125 } : Room) [.ref ua, .int (nI j), .int x1] g [(ua, .inr (1, [.ref ar, .int (nI cnt)])), (ar, .inl (g.2.2.1, 6, .inr (.inr (.inr (.inr rows))))), (h, .inr (0, [.int (nI rt), .int (nI lf), .ref pa, .ref da, .int (nI T), .int (nI P), .long (lN R0), .long xI, .long xP, .long xW, .long xG])), (pa, .inl (g.2.1, 120, .inl u)), (da, .inl (g.2.1, 121, .inl v))] (fun q w => ((-50) ≤ x1 ∧ x1 ≤ nI 100) ∧ (P < T ∧ ∀ i, P ≤ i → i < T → zSc (zA x1) py i ≤ 1000000) ∧ q = nI (zWr rt (zSc (zA x1) py) T (T - P)) ∧ ∃ q', w = [(ua, .inr (1, [.ref ar, .int (nI cnt)])), (ar, .inl (g.2.2.1, 6, .inr (.inr (.inr (.inr rows)))))] ++ zLW g (h, pa, da) rt lf (zFol rt T (zSc (zA x1) py) (T, P, py, R0, I, Pd, Wn, G)) q' ∧ zCR rt (zFol rt T (zSc (zA x1) py) (T, P, py, R0, I, Pd, Wn, G)) q') (fun E => (E = "java/lang/IllegalArgumentException" ∧ ¬ ((-50) ≤ x1 ∧ x1 ≤ nI 100)) ∨ (E = "java/lang/IllegalStateException" ∧ ((-50) ≤ x1 ∧ x1 ≤ nI 100) ∧ ¬ (P < T ∧ ∀ i, P ≤ i → i < T → zSc (zA x1) py i ≤ 1000000))) 4 24 := by
  intro sz A hAe
  refine vx_ofW (cc := cX1_review) (maxL := 4) (ret := some .int) (by decide) rfl ?_
  intro p e s m args below meth c s₁ B hml hout hv
  obtain ⟨rfl, ⟨hsz, hP, hK, hD0⟩, hX⟩ := hv
  have hx := B.exec
  have hb := B.bytes
  have hr := B.returns
  have hts := atoms_spec (ws := wsX1_review) B.pre
  have hown : s.vm.findClass RX1 = some m.cls := findClass_of_methodNamed B.named
  have hlocks := B.notSynchronized
  obtain ⟨hD, hA, hS⟩ := z_in hsz hAe hD0
  have hl := lv_entry ([.ref ua, .int (nI j), .int x1]) (n := 4) (Nat.le_of_ble_eq_true rfl)
  rw [lg_entry_eq]
  generalize (lg_sl ([.ref ua, .int (nI j), .int x1]) ++ List.replicate (4 - (lg_sl ([.ref ua, .int (nI j), .int x1])).length) Slot.unset).toArray = ls at hl ⊢
  have hl : lv_has ls 4 [(0, .ref ua), (1, .int (nI j)), (2, .int x1)] := hl
  have hinX0 : ∀ w ∈ wsX00, w ∈ wsX1_review := by decide +kernel
  have hinX1 : ∀ w ∈ wsX10, w ∈ wsX1_review := by decide +kernel
  obtain ⟨hT, hPT, hrt, hlf, hp, hRb⟩ := id hZ
  obtain ⟨hI, hPd, hWn, hG, hu, hv⟩ := id hC
  refine lv_aload_n hx hb dX1_review_0 rfl (lv_at hl 0 rfl) ?_
  refine lv_iload_n hx hb dX1_review_1 rfl (lv_at hl 1 rfl) ?_
  refine z_axq (wa := []) (wc := [(ua, .inr (1, [.ref ar, .int (nI cnt)])), (ar, .inl (g.2.2.1, 6, .inr (.inr (.inr (.inr rows)))))]) (wb := [(h, .inr (0, [.int (nI rt), .int (nI lf), .ref pa, .ref da, .int (nI T), .int (nI P), .long (lN R0), .long xI, .long xP, .long xW, .long xG])), (pa, .inl (g.2.1, 120, .inl u)), (da, .inl (g.2.1, 121, .inl v))]) (vx_runV (As := [.int (nI j)]) (rest := []) ⟨hx, hb, hml, hown, hts⟩ (c_leaseOf l hst g ua ar cnt rows (nI j) s.heap.size _ rfl) (cwV 1 hts gX1_review_X1_leaseOf rfl rfl rfl (by decide +kernel) ⟨Nat.le_of_ble_eq_true rfl, Nat.le_of_ble_eq_true rfl⟩) (zpreXV (wa := []) (wc := [(ua, .inr (1, [.ref ar, .int (nI cnt)])), (ar, .inl (g.2.2.1, 6, .inr (.inr (.inr (.inr rows)))))]) (wb := [(h, .inr (0, [.int (nI rt), .int (nI lf), .ref pa, .ref da, .int (nI T), .int (nI P), .long (lN R0), .long xI, .long xP, .long xW, .long xG])), (pa, .inl (g.2.1, 120, .inl u)), (da, .inl (g.2.1, 121, .inl v))]) (q0 := 0) (ci := 1) (T := TX1) (N := 2) hK hP hD hS hA hX rfl rfl) rfl rfl hl.1 rfl (lv_room (Nat.le_of_ble_eq_true rfl)) dX1_review_2 ⟨Nat.le_of_ble_eq_true rfl, Nat.le_of_ble_eq_true rfl⟩) hP hD hS hA (fun E ce q9 H locs hE hP hD hS hc1 hc2 hc3 => ?_) (fun r_1 w1 H locs hq hP hD hS => ?_)
  · exact absurd hrow (hE.2 j h hj rfl)
  · obtain ⟨⟨j2, h2, hj2, ej2, hr2, rfl⟩, rfl⟩ := hq
    have hP : va_P g.1 vwCl [(ua, .inr (1, [.ref ar, .int (nI cnt)])), (ar, .inl (g.2.2.1, 6, .inr (.inr (.inr (.inr rows))))), (h, .inr (0, [.int (nI rt), .int (nI lf), .ref pa, .ref da, .int (nI T), .int (nI P), .long (lN R0), .long xI, .long xP, .long xW, .long xG])), (pa, .inl (g.2.1, 120, .inl u)), (da, .inl (g.2.1, 121, .inl v))] H := hP
    have hD : va_D A [(ua, .inr (1, [.ref ar, .int (nI cnt)])), (ar, .inl (g.2.2.1, 6, .inr (.inr (.inr (.inr rows))))), (h, .inr (0, [.int (nI rt), .int (nI lf), .ref pa, .ref da, .int (nI T), .int (nI P), .long (lN R0), .long xI, .long xP, .long xW, .long xG])), (pa, .inl (g.2.1, 120, .inl u)), (da, .inl (g.2.1, 121, .inl v))] := hD
    obtain rfl : j = j2 := (nI_eq (by omega) (by omega)).mp ej2
    obtain rfl : h = h2 := Option.some.inj (hrow.symm.trans hr2)
    refine zqs ?_
    refine lv_astore_n (lv' := [(3, .ref h), (0, .ref ua), (1, .int (nI j)), (2, .int x1)]) hx hb dX1_review_5 rfl hl (by decide) rfl (fun ls hl => ?_)
    refine lv_iload_n hx hb dX1_review_6 rfl (lv_at hl 3 rfl) ?_
    refine lv_bipush (v := (-50)) hx hb dX1_review_7 (by decide) ?_
    refine lv_bipush (v := nI 100) hx hb dX1_review_9 (by decide) ?_
    refine z_axv (wa := []) (wc := []) (wb := [(ua, .inr (1, [.ref ar, .int (nI cnt)])), (ar, .inl (g.2.2.1, 6, .inr (.inr (.inr (.inr rows))))), (h, .inr (0, [.int (nI rt), .int (nI lf), .ref pa, .ref da, .int (nI T), .int (nI P), .long (lN R0), .long xI, .long xP, .long xW, .long xG])), (pa, .inl (g.2.1, 120, .inl u)), (da, .inl (g.2.1, 121, .inl v))]) (vx_runS (As := [.int x1, .int ((-50)), .int (nI 100)]) (rest := []) ⟨hx, hb, hml, hown, hts⟩ (c_mustBeWithin l hst g x1 (-50) (nI 100) H.size _ rfl) (va_cwS 3 hts gX1_review_X1_mustBeWithin rfl rfl rfl (by decide +kernel) ⟨Nat.le_of_ble_eq_true rfl, Nat.le_of_ble_eq_true rfl⟩) (zpreXS (wa := []) (wc := []) (wb := [(ua, .inr (1, [.ref ar, .int (nI cnt)])), (ar, .inl (g.2.2.1, 6, .inr (.inr (.inr (.inr rows))))), (h, .inr (0, [.int (nI rt), .int (nI lf), .ref pa, .ref da, .int (nI T), .int (nI P), .long (lN R0), .long xI, .long xP, .long xW, .long xG])), (pa, .inl (g.2.1, 120, .inl u)), (da, .inl (g.2.1, 121, .inl v))]) hK hP hD hS hA hX) rfl rfl hl.1 rfl (lv_room (Nat.le_of_ble_eq_true rfl)) dX1_review_11 ⟨Nat.le_of_ble_eq_true rfl, Nat.le_of_ble_eq_true rfl⟩) hP hD hS hA (fun E ce q9 H locs hE hP hD hS hc1 hc2 hc3 => ?_) (fun w1 H locs hq hP hD hS => ?_)
    · exact z_out hout hP hK hD hS hlocks hc1 hc2 hc3 (Or.inl hE) (Nat.le_of_ble_eq_true rfl) (Nat.le_of_ble_eq_true rfl)
    · obtain ⟨hrng, rfl⟩ := hq
      have hP : va_P g.1 vwCl [(ua, .inr (1, [.ref ar, .int (nI cnt)])), (ar, .inl (g.2.2.1, 6, .inr (.inr (.inr (.inr rows))))), (h, .inr (0, [.int (nI rt), .int (nI lf), .ref pa, .ref da, .int (nI T), .int (nI P), .long (lN R0), .long xI, .long xP, .long xW, .long xG])), (pa, .inl (g.2.1, 120, .inl u)), (da, .inl (g.2.1, 121, .inl v))] H := hP
      have hD : va_D A [(ua, .inr (1, [.ref ar, .int (nI cnt)])), (ar, .inl (g.2.2.1, 6, .inr (.inr (.inr (.inr rows))))), (h, .inr (0, [.int (nI rt), .int (nI lf), .ref pa, .ref da, .int (nI T), .int (nI P), .long (lN R0), .long xI, .long xP, .long xW, .long xG])), (pa, .inl (g.2.1, 120, .inl u)), (da, .inl (g.2.1, 121, .inl v))] := hD
      refine lv_aload_n hx hb dX1_review_14 rfl (lv_at hl 0 rfl) ?_
      refine z_axv (wa := [(ua, .inr (1, [.ref ar, .int (nI cnt)])), (ar, .inl (g.2.2.1, 6, .inr (.inr (.inr (.inr rows)))))]) (wc := [(h, .inr (0, [.int (nI rt), .int (nI lf), .ref pa, .ref da, .int (nI T), .int (nI P), .long (lN R0), .long xI, .long xP, .long xW, .long xG])), (pa, .inl (g.2.1, 120, .inl u)), (da, .inl (g.2.1, 121, .inl v))]) (wb := []) (vx_runS (As := [.ref h]) (rest := []) ⟨hx, hb, hml, hown, hts⟩ (c_mustGoOn l hst g h pa da rt lf T P (lN R0) xI xP xW xG u v hPT hT H.size _ rfl) (va_cwS 1 hts gX1_review_X1_mustGoOn rfl rfl rfl (by decide +kernel) ⟨Nat.le_of_ble_eq_true rfl, Nat.le_of_ble_eq_true rfl⟩) (zpreXS (wa := [(ua, .inr (1, [.ref ar, .int (nI cnt)])), (ar, .inl (g.2.2.1, 6, .inr (.inr (.inr (.inr rows)))))]) (wc := [(h, .inr (0, [.int (nI rt), .int (nI lf), .ref pa, .ref da, .int (nI T), .int (nI P), .long (lN R0), .long xI, .long xP, .long xW, .long xG])), (pa, .inl (g.2.1, 120, .inl u)), (da, .inl (g.2.1, 121, .inl v))]) (wb := []) hK hP hD hS hA hX) rfl rfl hl.1 rfl (lv_room (Nat.le_of_ble_eq_true rfl)) dX1_review_15 ⟨Nat.le_of_ble_eq_true rfl, Nat.le_of_ble_eq_true rfl⟩) hP hD hS hA (fun E ce q9 H locs hE hP hD hS hc1 hc2 hc3 => ?_) (fun w1 H locs hq hP hD hS => ?_)
      · exact z_out hout hP hK hD hS hlocks hc1 hc2 hc3 (Or.inr ⟨hE.1, hrng, fun z => absurd z.1 (by have := hE.2; omega)⟩) (Nat.le_of_ble_eq_true rfl) (Nat.le_of_ble_eq_true rfl)
      · obtain ⟨hlt, rfl⟩ := hq
        have hP : va_P g.1 vwCl [(ua, .inr (1, [.ref ar, .int (nI cnt)])), (ar, .inl (g.2.2.1, 6, .inr (.inr (.inr (.inr rows))))), (h, .inr (0, [.int (nI rt), .int (nI lf), .ref pa, .ref da, .int (nI T), .int (nI P), .long (lN R0), .long xI, .long xP, .long xW, .long xG])), (pa, .inl (g.2.1, 120, .inl u)), (da, .inl (g.2.1, 121, .inl v))] H := hP
        have hD : va_D A [(ua, .inr (1, [.ref ar, .int (nI cnt)])), (ar, .inl (g.2.2.1, 6, .inr (.inr (.inr (.inr rows))))), (h, .inr (0, [.int (nI rt), .int (nI lf), .ref pa, .ref da, .int (nI T), .int (nI P), .long (lN R0), .long xI, .long xP, .long xW, .long xG])), (pa, .inl (g.2.1, 120, .inl u)), (da, .inl (g.2.1, 121, .inl v))] := hD
        obtain ⟨ea, ha⟩ := zA_in hrng
        refine lv_aload_n hx hb dX1_review_18 rfl (lv_at hl 0 rfl) ?_
        refine lv_bipush (v := nI 100) hx hb dX1_review_19 (by decide) ?_
        refine lv_iload_n hx hb dX1_review_21 rfl (lv_at hl 3 rfl) ?_
        refine lv_iadd hx hb dX1_review_22 ?_
        refine zi (y := nI (zA x1)) (ea) ?_
        refine z_ai (wa := [(ua, .inr (1, [.ref ar, .int (nI cnt)])), (ar, .inl (g.2.2.1, 6, .inr (.inr (.inr (.inr rows)))))]) (wc := [(h, .inr (0, [.int (nI rt), .int (nI lf), .ref pa, .ref da, .int (nI T), .int (nI P), .long (lN R0), .long xI, .long xP, .long xW, .long xG])), (pa, .inl (g.2.1, 120, .inl u)), (da, .inl (g.2.1, 121, .inl v))]) (wb := []) (va_runV (As := [.int (nI (zA x1))]) (rest := []) ⟨hx, hb, hml, hown, hts⟩ (c_wouldPassTheMost l g h pa da rt lf T P (lN R0) xI xP xW xG u v py (zA x1) hT hPT hp hu ha H.size _ rfl) (cwV 1 hts gX1_review_X0_wouldPassTheMost rfl rfl rfl (by decide +kernel) ⟨Nat.le_of_ble_eq_true rfl, Nat.le_of_ble_eq_true rfl⟩) (zpreV (wa := [(ua, .inr (1, [.ref ar, .int (nI cnt)])), (ar, .inl (g.2.2.1, 6, .inr (.inr (.inr (.inr rows)))))]) (wc := [(h, .inr (0, [.int (nI rt), .int (nI lf), .ref pa, .ref da, .int (nI T), .int (nI P), .long (lN R0), .long xI, .long xP, .long xW, .long xG])), (pa, .inl (g.2.1, 120, .inl u)), (da, .inl (g.2.1, 121, .inl v))]) (wb := []) (q0 := 0) (ci := 0) (T := TX0) (N := 11) hK hP hD rfl rfl) rfl rfl hl.1 rfl (lv_room (Nat.le_of_ble_eq_true rfl)) dX1_review_23 ⟨Nat.le_of_ble_eq_true rfl, Nat.le_of_ble_eq_true rfl⟩) hP hD hS hA (fun rb w1 H locs hq hP hD hS => ?_)
        obtain ⟨hcase, rfl⟩ := hq
        have hP : va_P g.1 vwCl [(ua, .inr (1, [.ref ar, .int (nI cnt)])), (ar, .inl (g.2.2.1, 6, .inr (.inr (.inr (.inr rows))))), (h, .inr (0, [.int (nI rt), .int (nI lf), .ref pa, .ref da, .int (nI T), .int (nI P), .long (lN R0), .long xI, .long xP, .long xW, .long xG])), (pa, .inl (g.2.1, 120, .inl u)), (da, .inl (g.2.1, 121, .inl v))] H := hP
        have hD : va_D A [(ua, .inr (1, [.ref ar, .int (nI cnt)])), (ar, .inl (g.2.2.1, 6, .inr (.inr (.inr (.inr rows))))), (h, .inr (0, [.int (nI rt), .int (nI lf), .ref pa, .ref da, .int (nI T), .int (nI P), .long (lN R0), .long xI, .long xP, .long xW, .long xG])), (pa, .inl (g.2.1, 120, .inl u)), (da, .inl (g.2.1, 121, .inl v))] := hD
        rcases hcase with ⟨⟨j0, hj1, hj2, hj3⟩, rfl⟩ | ⟨hok, rfl⟩
        · refine z_if_eq (tgt := 39) hx hb dX1_review_26 (by decide) (by omega) (fun hc => ?_) (fun hc => ?_)
          · exact absurd hc (by decide)
          · exact z_throw (text := "a payment would be too high") (Ts := wsX1_review) hx hb hst hown (by decide +kernel) hts (by decide +kernel) (by decide +kernel) (by decide +kernel) zbw_ISE zot_ISE_23 (by decide +kernel) hX hA hP hK hD hS (hl.1.trans hml.symm) dX1_review_29 dX1_review_32 dX1_review_33 dX1_review_35 dX1_review_38 hout (Nat.le_of_ble_eq_true rfl) (Nat.le_of_ble_eq_true rfl) (Nat.le_of_ble_eq_true rfl) (Nat.le_of_ble_eq_true rfl) hlocks (Or.inr ⟨rfl, hrng, fun z => absurd (z.2 j0 hj1 hj2) (by omega)⟩) (Nat.le_of_ble_eq_true rfl) (Nat.le_of_ble_eq_true rfl)
        · refine z_if_eq (tgt := 39) hx hb dX1_review_26 (by decide) (by omega) (fun hc => ?_) (fun hc => ?_)
          · refine lv_aload_n hx hb dX1_review_39 rfl (lv_at hl 0 rfl) ?_
            refine lv_bipush (v := nI 100) hx hb dX1_review_40 (by decide) ?_
            refine lv_iload_n hx hb dX1_review_42 rfl (lv_at hl 3 rfl) ?_
            refine lv_iadd hx hb dX1_review_43 ?_
            refine zi (y := nI (zA x1)) (ea) ?_
            refine z_av (wa := [(ua, .inr (1, [.ref ar, .int (nI cnt)])), (ar, .inl (g.2.2.1, 6, .inr (.inr (.inr (.inr rows)))))]) (wc := [(h, .inr (0, [.int (nI rt), .int (nI lf), .ref pa, .ref da, .int (nI T), .int (nI P), .long (lN R0), .long xI, .long xP, .long xW, .long xG])), (pa, .inl (g.2.1, 120, .inl u)), (da, .inl (g.2.1, 121, .inl v))]) (wb := []) (va_runV (As := [.int (nI (zA x1))]) (rest := []) ⟨hx, hb, hml, hown, hts⟩ (c_reviewPayments l g h pa da rt lf T P R0 py I Pd Wn G xI xP xW xG u v (zA x1) hZ hC ha hok H.size _ rfl) (cwV 1 hts gX1_review_X0_reviewPayments rfl rfl rfl (by decide +kernel) ⟨Nat.le_of_ble_eq_true rfl, Nat.le_of_ble_eq_true rfl⟩) (zpreV (wa := [(ua, .inr (1, [.ref ar, .int (nI cnt)])), (ar, .inl (g.2.2.1, 6, .inr (.inr (.inr (.inr rows)))))]) (wc := [(h, .inr (0, [.int (nI rt), .int (nI lf), .ref pa, .ref da, .int (nI T), .int (nI P), .long (lN R0), .long xI, .long xP, .long xW, .long xG])), (pa, .inl (g.2.1, 120, .inl u)), (da, .inl (g.2.1, 121, .inl v))]) (wb := []) (q0 := 0) (ci := 0) (T := TX0) (N := 11) hK hP hD rfl rfl) rfl rfl hl.1 rfl (lv_room (Nat.le_of_ble_eq_true rfl)) dX1_review_44 ⟨Nat.le_of_ble_eq_true rfl, Nat.le_of_ble_eq_true rfl⟩) hP hD hS hA (fun w1 H locs hq hP hD hS => ?_)
            obtain ⟨q2, rfl, hC2⟩ := hq
            have hP : va_P g.1 vwCl ([(ua, .inr (1, [.ref ar, .int (nI cnt)])), (ar, .inl (g.2.2.1, 6, .inr (.inr (.inr (.inr rows)))))] ++ (zLW g (h, pa, da) rt lf (zFol rt T (zSc (zA x1) py) (T, P, py, R0, I, Pd, Wn, G)) q2)) H := hP
            have hD : va_D A ([(ua, .inr (1, [.ref ar, .int (nI cnt)])), (ar, .inl (g.2.2.1, 6, .inr (.inr (.inr (.inr rows)))))] ++ (zLW g (h, pa, da) rt lf (zFol rt T (zSc (zA x1) py) (T, P, py, R0, I, Pd, Wn, G)) q2)) := hD
            generalize hz2 : zFol rt T (zSc (zA x1) py) (T, P, py, R0, I, Pd, Wn, G) = z2 at hP hD hC2
            obtain ⟨T2, P2, py2, R2, I2, Pd2, Wn2, G2⟩ := z2
            obtain ⟨xI2, xP2, xW2, xG2, u2, v2⟩ := q2
            have hP : va_P g.1 vwCl [(ua, .inr (1, [.ref ar, .int (nI cnt)])), (ar, .inl (g.2.2.1, 6, .inr (.inr (.inr (.inr rows))))), (h, .inr (0, [.int (nI rt), .int (nI lf), .ref pa, .ref da, .int (nI T2), .int (nI P2), .long (lN R2), .long xI2, .long xP2, .long xW2, .long xG2])), (pa, .inl (g.2.1, 120, .inl u2)), (da, .inl (g.2.1, 121, .inl v2))] H := hP
            have hD : va_D A [(ua, .inr (1, [.ref ar, .int (nI cnt)])), (ar, .inl (g.2.2.1, 6, .inr (.inr (.inr (.inr rows))))), (h, .inr (0, [.int (nI rt), .int (nI lf), .ref pa, .ref da, .int (nI T2), .int (nI P2), .long (lN R2), .long xI2, .long xP2, .long xW2, .long xG2])), (pa, .inl (g.2.1, 120, .inl u2)), (da, .inl (g.2.1, 121, .inl v2))] := hD
            have eT : T2 = T := by have z := zFol_T (r := rt) (T' := T) (p' := zSc (zA x1) py) (T := T) (P := P) (R := R0) (p := py) (I := I) (Pd := Pd) (W := Wn) (G := G); rw [hz2] at z; exact z
            have eP : P2 = P := by have z := zFol_P (r := rt) (T' := T) (p' := zSc (zA x1) py) (T := T) (P := P) (R := R0) (p := py) (I := I) (Pd := Pd) (W := Wn) (G := G); rw [hz2] at z; exact z
            have ep : py2 = zSc (zA x1) py := by have z := zFol_p (r := rt) (T' := T) (p' := zSc (zA x1) py) (T := T) (P := P) (R := R0) (p := py) (I := I) (Pd := Pd) (W := Wn) (G := G); rw [hz2] at z; exact z
            refine lv_aload_n hx hb dX1_review_47 rfl (lv_at hl 0 rfl) ?_
            refine z_ai (wa := [(ua, .inr (1, [.ref ar, .int (nI cnt)])), (ar, .inl (g.2.2.1, 6, .inr (.inr (.inr (.inr rows)))))]) (wc := [(h, .inr (0, [.int (nI rt), .int (nI lf), .ref pa, .ref da, .int (nI T2), .int (nI P2), .long (lN R2), .long xI2, .long xP2, .long xW2, .long xG2])), (pa, .inl (g.2.1, 120, .inl u2)), (da, .inl (g.2.1, 121, .inl v2))]) (wb := []) (va_runV (As := []) (rest := []) ⟨hx, hb, hml, hown, hts⟩ (c_debtNow l g h pa da rt lf T2 P2 (lN R2) xI2 xP2 xW2 xG2 u2 v2 (by omega) H.size _ rfl) (cwV 0 hts gX1_review_X0_debtNow rfl rfl rfl (by decide +kernel) ⟨Nat.le_of_ble_eq_true rfl, Nat.le_of_ble_eq_true rfl⟩) (zpreV (wa := [(ua, .inr (1, [.ref ar, .int (nI cnt)])), (ar, .inl (g.2.2.1, 6, .inr (.inr (.inr (.inr rows)))))]) (wc := [(h, .inr (0, [.int (nI rt), .int (nI lf), .ref pa, .ref da, .int (nI T2), .int (nI P2), .long (lN R2), .long xI2, .long xP2, .long xW2, .long xG2])), (pa, .inl (g.2.1, 120, .inl u2)), (da, .inl (g.2.1, 121, .inl v2))]) (wb := []) (q0 := 0) (ci := 0) (T := TX0) (N := 11) hK hP hD rfl rfl) rfl rfl hl.1 rfl (lv_room (Nat.le_of_ble_eq_true rfl)) dX1_review_48 ⟨Nat.le_of_ble_eq_true rfl, Nat.le_of_ble_eq_true rfl⟩) hP hD hS hA (fun r_5 w1 H locs hq hP hD hS => ?_)
            obtain ⟨rfl, rfl⟩ := hq
            have hP : va_P g.1 vwCl [(ua, .inr (1, [.ref ar, .int (nI cnt)])), (ar, .inl (g.2.2.1, 6, .inr (.inr (.inr (.inr rows))))), (h, .inr (0, [.int (nI rt), .int (nI lf), .ref pa, .ref da, .int (nI T2), .int (nI P2), .long (lN R2), .long xI2, .long xP2, .long xW2, .long xG2])), (pa, .inl (g.2.1, 120, .inl u2)), (da, .inl (g.2.1, 121, .inl v2))] H := hP
            have hD : va_D A [(ua, .inr (1, [.ref ar, .int (nI cnt)])), (ar, .inl (g.2.2.1, 6, .inr (.inr (.inr (.inr rows))))), (h, .inr (0, [.int (nI rt), .int (nI lf), .ref pa, .ref da, .int (nI T2), .int (nI P2), .long (lN R2), .long xI2, .long xP2, .long xW2, .long xG2])), (pa, .inl (g.2.1, 120, .inl u2)), (da, .inl (g.2.1, 121, .inl v2))] := hD
            refine zi (y := nI (zWr rt py2 T2 (T2 - P2))) (hC2.2.2.2.2.2 P2 (Nat.le_refl P2) (by omega)) ?_
            refine W.widen (k := 4) (n := 24) (by omega) (by omega) ?_
            exact z_xiret hx hb hr hP hK hD hS dX1_review_51 hlocks (⟨hrng, ⟨hlt, hok⟩, by rw [eT, eP, ep], (xI2, xP2, xW2, xG2, u2, v2), rfl, hC2⟩)
          · exact absurd rfl hc
end
section
/-! the class Usewise: its calls on a lease that is there, more -/
set_option maxHeartbeats 4000000 in
set_option maxRecDepth 100000 in
theorem p_lengthen (l : Launch) (hst : l.stackTraces = false) (g : zG) (ua ar cnt : Nat) (rows : Nat → Option Nat) (j : Nat) (h pa da rt lf T P R0 : Nat) (py : Nat → Nat) (I Pd Wn G : Int32) (xI xP xW xG : Int64) (u v : Nat → Int32) (x1 x2 : Int32) (hj : j < 6) (hrow : rows j = some h) (hZ : zInv rt lf (T, P, py, R0, I, Pd, Wn, G)) (hC : zCR rt (T, P, py, R0, I, Pd, Wn, G) (xI, xP, xW, xG, u, v)) : zXi l yX1_lengthen wsX1_lengthen ({ frames := 7, cells := 5, slots := 30, locals := 125 } : Room) [.ref ua, .int (nI j), .int x1, .int x2] g [(ua, .inr (1, [.ref ar, .int (nI cnt)])), (ar, .inl (g.2.2.1, 6, .inr (.inr (.inr (.inr rows))))), (h, .inr (0, [.int (nI rt), .int (nI lf), .ref pa, .ref da, .int (nI T), .int (nI P), .long (lN R0), .long xI, .long xP, .long xW, .long xG])), (pa, .inl (g.2.1, 120, .inl u)), (da, .inl (g.2.1, 121, .inl v))] (fun q w => ((nI 1 ≤ x1 ∧ x1 ≤ nI 36) ∧ (nI 0 ≤ x2 ∧ x2 ≤ nI 10000)) ∧ (P < T ∧ T + zN x1 ≤ 120) ∧ q = nI (zWr rt (zPut T (zN x1) (zN x2) py) (T + zN x1) (T + zN x1 - P)) ∧ ∃ q', w = [(ua, .inr (1, [.ref ar, .int (nI cnt)])), (ar, .inl (g.2.2.1, 6, .inr (.inr (.inr (.inr rows)))))] ++ zLW g (h, pa, da) rt lf (zFol rt (T + zN x1) (zPut T (zN x1) (zN x2) py) (T, P, py, R0, I, Pd, Wn, G)) q' ∧ zCR rt (zFol rt (T + zN x1) (zPut T (zN x1) (zN x2) py) (T, P, py, R0, I, Pd, Wn, G)) q') (fun E => (E = "java/lang/IllegalArgumentException" ∧ ¬ ((nI 1 ≤ x1 ∧ x1 ≤ nI 36) ∧ (nI 0 ≤ x2 ∧ x2 ≤ nI 10000))) ∨ (E = "java/lang/IllegalStateException" ∧ ((nI 1 ≤ x1 ∧ x1 ≤ nI 36) ∧ (nI 0 ≤ x2 ∧ x2 ≤ nI 10000)) ∧ ¬ (P < T ∧ T + zN x1 ≤ 120))) 5 30 := by
  intro sz A hAe
  refine vx_ofW (cc := cX1_lengthen) (maxL := 5) (ret := some .int) (by decide) rfl ?_
  intro p e s m args below meth c s₁ B hml hout hv
  obtain ⟨rfl, ⟨hsz, hP, hK, hD0⟩, hX⟩ := hv
  have hx := B.exec
  have hb := B.bytes
  have hr := B.returns
  have hts := atoms_spec (ws := wsX1_lengthen) B.pre
  have hown : s.vm.findClass RX1 = some m.cls := findClass_of_methodNamed B.named
  have hlocks := B.notSynchronized
  obtain ⟨hD, hA, hS⟩ := z_in hsz hAe hD0
  have hl := lv_entry ([.ref ua, .int (nI j), .int x1, .int x2]) (n := 5) (Nat.le_of_ble_eq_true rfl)
  rw [lg_entry_eq]
  generalize (lg_sl ([.ref ua, .int (nI j), .int x1, .int x2]) ++ List.replicate (5 - (lg_sl ([.ref ua, .int (nI j), .int x1, .int x2])).length) Slot.unset).toArray = ls at hl ⊢
  have hl : lv_has ls 5 [(0, .ref ua), (1, .int (nI j)), (2, .int x1), (3, .int x2)] := hl
  have hinX0 : ∀ w ∈ wsX00, w ∈ wsX1_lengthen := by decide +kernel
  have hinX1 : ∀ w ∈ wsX10, w ∈ wsX1_lengthen := by decide +kernel
  obtain ⟨hT, hPT, hrt, hlf, hp, hRb⟩ := id hZ
  obtain ⟨hI, hPd, hWn, hG, hu, hv⟩ := id hC
  refine lv_aload_n hx hb dX1_lengthen_0 rfl (lv_at hl 0 rfl) ?_
  refine lv_iload_n hx hb dX1_lengthen_1 rfl (lv_at hl 1 rfl) ?_
  refine z_axq (wa := []) (wc := [(ua, .inr (1, [.ref ar, .int (nI cnt)])), (ar, .inl (g.2.2.1, 6, .inr (.inr (.inr (.inr rows)))))]) (wb := [(h, .inr (0, [.int (nI rt), .int (nI lf), .ref pa, .ref da, .int (nI T), .int (nI P), .long (lN R0), .long xI, .long xP, .long xW, .long xG])), (pa, .inl (g.2.1, 120, .inl u)), (da, .inl (g.2.1, 121, .inl v))]) (vx_runV (As := [.int (nI j)]) (rest := []) ⟨hx, hb, hml, hown, hts⟩ (c_leaseOf l hst g ua ar cnt rows (nI j) s.heap.size _ rfl) (cwV 1 hts gX1_lengthen_X1_leaseOf rfl rfl rfl (by decide +kernel) ⟨Nat.le_of_ble_eq_true rfl, Nat.le_of_ble_eq_true rfl⟩) (zpreXV (wa := []) (wc := [(ua, .inr (1, [.ref ar, .int (nI cnt)])), (ar, .inl (g.2.2.1, 6, .inr (.inr (.inr (.inr rows)))))]) (wb := [(h, .inr (0, [.int (nI rt), .int (nI lf), .ref pa, .ref da, .int (nI T), .int (nI P), .long (lN R0), .long xI, .long xP, .long xW, .long xG])), (pa, .inl (g.2.1, 120, .inl u)), (da, .inl (g.2.1, 121, .inl v))]) (q0 := 0) (ci := 1) (T := TX1) (N := 2) hK hP hD hS hA hX rfl rfl) rfl rfl hl.1 rfl (lv_room (Nat.le_of_ble_eq_true rfl)) dX1_lengthen_2 ⟨Nat.le_of_ble_eq_true rfl, Nat.le_of_ble_eq_true rfl⟩) hP hD hS hA (fun E ce q9 H locs hE hP hD hS hc1 hc2 hc3 => ?_) (fun r_1 w1 H locs hq hP hD hS => ?_)
  · exact absurd hrow (hE.2 j h hj rfl)
  · obtain ⟨⟨j2, h2, hj2, ej2, hr2, rfl⟩, rfl⟩ := hq
    have hP : va_P g.1 vwCl [(ua, .inr (1, [.ref ar, .int (nI cnt)])), (ar, .inl (g.2.2.1, 6, .inr (.inr (.inr (.inr rows))))), (h, .inr (0, [.int (nI rt), .int (nI lf), .ref pa, .ref da, .int (nI T), .int (nI P), .long (lN R0), .long xI, .long xP, .long xW, .long xG])), (pa, .inl (g.2.1, 120, .inl u)), (da, .inl (g.2.1, 121, .inl v))] H := hP
    have hD : va_D A [(ua, .inr (1, [.ref ar, .int (nI cnt)])), (ar, .inl (g.2.2.1, 6, .inr (.inr (.inr (.inr rows))))), (h, .inr (0, [.int (nI rt), .int (nI lf), .ref pa, .ref da, .int (nI T), .int (nI P), .long (lN R0), .long xI, .long xP, .long xW, .long xG])), (pa, .inl (g.2.1, 120, .inl u)), (da, .inl (g.2.1, 121, .inl v))] := hD
    obtain rfl : j = j2 := (nI_eq (by omega) (by omega)).mp ej2
    obtain rfl : h = h2 := Option.some.inj (hrow.symm.trans hr2)
    refine zqs ?_
    refine lv_astore (lv' := [(4, .ref h), (0, .ref ua), (1, .int (nI j)), (2, .int x1), (3, .int x2)]) hx hb dX1_lengthen_5 hl (by decide) rfl (fun ls hl => ?_)
    refine lv_iload_n hx hb dX1_lengthen_7 rfl (lv_at hl 3 rfl) ?_
    refine lv_iconst (v := nI 1) hx hb dX1_lengthen_8 (by decide) ?_
    refine lv_bipush (v := nI 36) hx hb dX1_lengthen_9 (by decide) ?_
    refine z_axv (wa := []) (wc := []) (wb := [(ua, .inr (1, [.ref ar, .int (nI cnt)])), (ar, .inl (g.2.2.1, 6, .inr (.inr (.inr (.inr rows))))), (h, .inr (0, [.int (nI rt), .int (nI lf), .ref pa, .ref da, .int (nI T), .int (nI P), .long (lN R0), .long xI, .long xP, .long xW, .long xG])), (pa, .inl (g.2.1, 120, .inl u)), (da, .inl (g.2.1, 121, .inl v))]) (vx_runS (As := [.int x1, .int (nI 1), .int (nI 36)]) (rest := []) ⟨hx, hb, hml, hown, hts⟩ (c_mustBeWithin l hst g x1 (nI 1) (nI 36) H.size _ rfl) (va_cwS 3 hts gX1_lengthen_X1_mustBeWithin rfl rfl rfl (by decide +kernel) ⟨Nat.le_of_ble_eq_true rfl, Nat.le_of_ble_eq_true rfl⟩) (zpreXS (wa := []) (wc := []) (wb := [(ua, .inr (1, [.ref ar, .int (nI cnt)])), (ar, .inl (g.2.2.1, 6, .inr (.inr (.inr (.inr rows))))), (h, .inr (0, [.int (nI rt), .int (nI lf), .ref pa, .ref da, .int (nI T), .int (nI P), .long (lN R0), .long xI, .long xP, .long xW, .long xG])), (pa, .inl (g.2.1, 120, .inl u)), (da, .inl (g.2.1, 121, .inl v))]) hK hP hD hS hA hX) rfl rfl hl.1 rfl (lv_room (Nat.le_of_ble_eq_true rfl)) dX1_lengthen_11 ⟨Nat.le_of_ble_eq_true rfl, Nat.le_of_ble_eq_true rfl⟩) hP hD hS hA (fun E ce q9 H locs hE hP hD hS hc1 hc2 hc3 => ?_) (fun w1 H locs hq hP hD hS => ?_)
    · exact z_out hout hP hK hD hS hlocks hc1 hc2 hc3 (Or.inl ⟨hE.1, fun z => hE.2 z.1⟩) (Nat.le_of_ble_eq_true rfl) (Nat.le_of_ble_eq_true rfl)
    · obtain ⟨hr1, rfl⟩ := hq
      have hP : va_P g.1 vwCl [(ua, .inr (1, [.ref ar, .int (nI cnt)])), (ar, .inl (g.2.2.1, 6, .inr (.inr (.inr (.inr rows))))), (h, .inr (0, [.int (nI rt), .int (nI lf), .ref pa, .ref da, .int (nI T), .int (nI P), .long (lN R0), .long xI, .long xP, .long xW, .long xG])), (pa, .inl (g.2.1, 120, .inl u)), (da, .inl (g.2.1, 121, .inl v))] H := hP
      have hD : va_D A [(ua, .inr (1, [.ref ar, .int (nI cnt)])), (ar, .inl (g.2.2.1, 6, .inr (.inr (.inr (.inr rows))))), (h, .inr (0, [.int (nI rt), .int (nI lf), .ref pa, .ref da, .int (nI T), .int (nI P), .long (lN R0), .long xI, .long xP, .long xW, .long xG])), (pa, .inl (g.2.1, 120, .inl u)), (da, .inl (g.2.1, 121, .inl v))] := hD
      refine lv_iload_n hx hb dX1_lengthen_14 rfl (lv_at hl 4 rfl) ?_
      refine lv_iconst (v := nI 0) hx hb dX1_lengthen_15 (by decide) ?_
      refine lv_sipush (v := nI 10000) hx hb dX1_lengthen_16 (by decide) ?_
      refine z_axv (wa := []) (wc := []) (wb := [(ua, .inr (1, [.ref ar, .int (nI cnt)])), (ar, .inl (g.2.2.1, 6, .inr (.inr (.inr (.inr rows))))), (h, .inr (0, [.int (nI rt), .int (nI lf), .ref pa, .ref da, .int (nI T), .int (nI P), .long (lN R0), .long xI, .long xP, .long xW, .long xG])), (pa, .inl (g.2.1, 120, .inl u)), (da, .inl (g.2.1, 121, .inl v))]) (vx_runS (As := [.int x2, .int (nI 0), .int (nI 10000)]) (rest := []) ⟨hx, hb, hml, hown, hts⟩ (c_mustBeWithin l hst g x2 (nI 0) (nI 10000) H.size _ rfl) (va_cwS 3 hts gX1_lengthen_X1_mustBeWithin rfl rfl rfl (by decide +kernel) ⟨Nat.le_of_ble_eq_true rfl, Nat.le_of_ble_eq_true rfl⟩) (zpreXS (wa := []) (wc := []) (wb := [(ua, .inr (1, [.ref ar, .int (nI cnt)])), (ar, .inl (g.2.2.1, 6, .inr (.inr (.inr (.inr rows))))), (h, .inr (0, [.int (nI rt), .int (nI lf), .ref pa, .ref da, .int (nI T), .int (nI P), .long (lN R0), .long xI, .long xP, .long xW, .long xG])), (pa, .inl (g.2.1, 120, .inl u)), (da, .inl (g.2.1, 121, .inl v))]) hK hP hD hS hA hX) rfl rfl hl.1 rfl (lv_room (Nat.le_of_ble_eq_true rfl)) dX1_lengthen_19 ⟨Nat.le_of_ble_eq_true rfl, Nat.le_of_ble_eq_true rfl⟩) hP hD hS hA (fun E ce q9 H locs hE hP hD hS hc1 hc2 hc3 => ?_) (fun w1 H locs hq hP hD hS => ?_)
      · exact z_out hout hP hK hD hS hlocks hc1 hc2 hc3 (Or.inl ⟨hE.1, fun z => hE.2 z.2⟩) (Nat.le_of_ble_eq_true rfl) (Nat.le_of_ble_eq_true rfl)
      · obtain ⟨hr2, rfl⟩ := hq
        have hP : va_P g.1 vwCl [(ua, .inr (1, [.ref ar, .int (nI cnt)])), (ar, .inl (g.2.2.1, 6, .inr (.inr (.inr (.inr rows))))), (h, .inr (0, [.int (nI rt), .int (nI lf), .ref pa, .ref da, .int (nI T), .int (nI P), .long (lN R0), .long xI, .long xP, .long xW, .long xG])), (pa, .inl (g.2.1, 120, .inl u)), (da, .inl (g.2.1, 121, .inl v))] H := hP
        have hD : va_D A [(ua, .inr (1, [.ref ar, .int (nI cnt)])), (ar, .inl (g.2.2.1, 6, .inr (.inr (.inr (.inr rows))))), (h, .inr (0, [.int (nI rt), .int (nI lf), .ref pa, .ref da, .int (nI T), .int (nI P), .long (lN R0), .long xI, .long xP, .long xW, .long xG])), (pa, .inl (g.2.1, 120, .inl u)), (da, .inl (g.2.1, 121, .inl v))] := hD
        refine lv_aload hx hb dX1_lengthen_22 (lv_at hl 0 rfl) ?_
        refine z_axv (wa := [(ua, .inr (1, [.ref ar, .int (nI cnt)])), (ar, .inl (g.2.2.1, 6, .inr (.inr (.inr (.inr rows)))))]) (wc := [(h, .inr (0, [.int (nI rt), .int (nI lf), .ref pa, .ref da, .int (nI T), .int (nI P), .long (lN R0), .long xI, .long xP, .long xW, .long xG])), (pa, .inl (g.2.1, 120, .inl u)), (da, .inl (g.2.1, 121, .inl v))]) (wb := []) (vx_runS (As := [.ref h]) (rest := []) ⟨hx, hb, hml, hown, hts⟩ (c_mustGoOn l hst g h pa da rt lf T P (lN R0) xI xP xW xG u v hPT hT H.size _ rfl) (va_cwS 1 hts gX1_lengthen_X1_mustGoOn rfl rfl rfl (by decide +kernel) ⟨Nat.le_of_ble_eq_true rfl, Nat.le_of_ble_eq_true rfl⟩) (zpreXS (wa := [(ua, .inr (1, [.ref ar, .int (nI cnt)])), (ar, .inl (g.2.2.1, 6, .inr (.inr (.inr (.inr rows)))))]) (wc := [(h, .inr (0, [.int (nI rt), .int (nI lf), .ref pa, .ref da, .int (nI T), .int (nI P), .long (lN R0), .long xI, .long xP, .long xW, .long xG])), (pa, .inl (g.2.1, 120, .inl u)), (da, .inl (g.2.1, 121, .inl v))]) (wb := []) hK hP hD hS hA hX) rfl rfl hl.1 rfl (lv_room (Nat.le_of_ble_eq_true rfl)) dX1_lengthen_24 ⟨Nat.le_of_ble_eq_true rfl, Nat.le_of_ble_eq_true rfl⟩) hP hD hS hA (fun E ce q9 H locs hE hP hD hS hc1 hc2 hc3 => ?_) (fun w1 H locs hq hP hD hS => ?_)
        · exact z_out hout hP hK hD hS hlocks hc1 hc2 hc3 (Or.inr ⟨hE.1, ⟨hr1, hr2⟩, fun z => absurd z.1 (by have := hE.2; omega)⟩) (Nat.le_of_ble_eq_true rfl) (Nat.le_of_ble_eq_true rfl)
        · obtain ⟨hlt, rfl⟩ := hq
          have hP : va_P g.1 vwCl [(ua, .inr (1, [.ref ar, .int (nI cnt)])), (ar, .inl (g.2.2.1, 6, .inr (.inr (.inr (.inr rows))))), (h, .inr (0, [.int (nI rt), .int (nI lf), .ref pa, .ref da, .int (nI T), .int (nI P), .long (lN R0), .long xI, .long xP, .long xW, .long xG])), (pa, .inl (g.2.1, 120, .inl u)), (da, .inl (g.2.1, 121, .inl v))] H := hP
          have hD : va_D A [(ua, .inr (1, [.ref ar, .int (nI cnt)])), (ar, .inl (g.2.2.1, 6, .inr (.inr (.inr (.inr rows))))), (h, .inr (0, [.int (nI rt), .int (nI lf), .ref pa, .ref da, .int (nI T), .int (nI P), .long (lN R0), .long xI, .long xP, .long xW, .long xG])), (pa, .inl (g.2.1, 120, .inl u)), (da, .inl (g.2.1, 121, .inl v))] := hD
          obtain ⟨e1, h11, h12⟩ := zN_in (by decide) (by decide) hr1
          obtain ⟨e2, h21, h22⟩ := zN_in (by decide) (by decide) hr2
          refine lv_aload hx hb dX1_lengthen_27 (lv_at hl 0 rfl) ?_
          refine lv_iload_n hx hb dX1_lengthen_29 rfl (lv_at hl 3 rfl) ?_
          refine zi (y := nI (zN x1)) (e1) ?_
          refine z_ai (wa := [(ua, .inr (1, [.ref ar, .int (nI cnt)])), (ar, .inl (g.2.2.1, 6, .inr (.inr (.inr (.inr rows)))))]) (wc := [(h, .inr (0, [.int (nI rt), .int (nI lf), .ref pa, .ref da, .int (nI T), .int (nI P), .long (lN R0), .long xI, .long xP, .long xW, .long xG])), (pa, .inl (g.2.1, 120, .inl u)), (da, .inl (g.2.1, 121, .inl v))]) (wb := []) (va_runV (As := [.int (nI (zN x1))]) (rest := []) ⟨hx, hb, hml, hown, hts⟩ (c_hasRoomFor l g h pa da rt lf T P (lN R0) xI xP xW xG u v (zN x1) hT h12 H.size _ rfl) (cwV 1 hts gX1_lengthen_X0_hasRoomFor rfl rfl rfl (by decide +kernel) ⟨Nat.le_of_ble_eq_true rfl, Nat.le_of_ble_eq_true rfl⟩) (zpreV (wa := [(ua, .inr (1, [.ref ar, .int (nI cnt)])), (ar, .inl (g.2.2.1, 6, .inr (.inr (.inr (.inr rows)))))]) (wc := [(h, .inr (0, [.int (nI rt), .int (nI lf), .ref pa, .ref da, .int (nI T), .int (nI P), .long (lN R0), .long xI, .long xP, .long xW, .long xG])), (pa, .inl (g.2.1, 120, .inl u)), (da, .inl (g.2.1, 121, .inl v))]) (wb := []) (q0 := 0) (ci := 0) (T := TX0) (N := 11) hK hP hD rfl rfl) rfl rfl hl.1 rfl (lv_room (Nat.le_of_ble_eq_true rfl)) dX1_lengthen_30 ⟨Nat.le_of_ble_eq_true rfl, Nat.le_of_ble_eq_true rfl⟩) hP hD hS hA (fun rb w1 H locs hq hP hD hS => ?_)
          obtain ⟨hcase, rfl⟩ := hq
          have hP : va_P g.1 vwCl [(ua, .inr (1, [.ref ar, .int (nI cnt)])), (ar, .inl (g.2.2.1, 6, .inr (.inr (.inr (.inr rows))))), (h, .inr (0, [.int (nI rt), .int (nI lf), .ref pa, .ref da, .int (nI T), .int (nI P), .long (lN R0), .long xI, .long xP, .long xW, .long xG])), (pa, .inl (g.2.1, 120, .inl u)), (da, .inl (g.2.1, 121, .inl v))] H := hP
          have hD : va_D A [(ua, .inr (1, [.ref ar, .int (nI cnt)])), (ar, .inl (g.2.2.1, 6, .inr (.inr (.inr (.inr rows))))), (h, .inr (0, [.int (nI rt), .int (nI lf), .ref pa, .ref da, .int (nI T), .int (nI P), .long (lN R0), .long xI, .long xP, .long xW, .long xG])), (pa, .inl (g.2.1, 120, .inl u)), (da, .inl (g.2.1, 121, .inl v))] := hD
          rcases hcase with ⟨hok, rfl⟩ | ⟨hno, rfl⟩
          · refine z_if_ne (tgt := 46) hx hb dX1_lengthen_33 (by decide) (by omega) (fun hc => ?_) (fun hc => ?_)
            · refine lv_aload hx hb dX1_lengthen_46 (lv_at hl 0 rfl) ?_
              refine lv_iload_n hx hb dX1_lengthen_48 rfl (lv_at hl 3 rfl) ?_
              refine zi (y := nI (zN x1)) (e1) ?_
              refine lv_iload_n hx hb dX1_lengthen_49 rfl (lv_at hl 4 rfl) ?_
              refine zi (y := nI (zN x2)) (e2) ?_
              refine z_av (wa := [(ua, .inr (1, [.ref ar, .int (nI cnt)])), (ar, .inl (g.2.2.1, 6, .inr (.inr (.inr (.inr rows)))))]) (wc := [(h, .inr (0, [.int (nI rt), .int (nI lf), .ref pa, .ref da, .int (nI T), .int (nI P), .long (lN R0), .long xI, .long xP, .long xW, .long xG])), (pa, .inl (g.2.1, 120, .inl u)), (da, .inl (g.2.1, 121, .inl v))]) (wb := []) (va_runV (As := [.int (nI (zN x1)), .int (nI (zN x2))]) (rest := []) ⟨hx, hb, hml, hown, hts⟩ (c_putBehind l g h pa da rt lf T P R0 py I Pd Wn G xI xP xW xG u v (zN x1) (zN x2) hZ hC hok h22 H.size _ rfl) (cwV 2 hts gX1_lengthen_X0_putBehind rfl rfl rfl (by decide +kernel) ⟨Nat.le_of_ble_eq_true rfl, Nat.le_of_ble_eq_true rfl⟩) (zpreV (wa := [(ua, .inr (1, [.ref ar, .int (nI cnt)])), (ar, .inl (g.2.2.1, 6, .inr (.inr (.inr (.inr rows)))))]) (wc := [(h, .inr (0, [.int (nI rt), .int (nI lf), .ref pa, .ref da, .int (nI T), .int (nI P), .long (lN R0), .long xI, .long xP, .long xW, .long xG])), (pa, .inl (g.2.1, 120, .inl u)), (da, .inl (g.2.1, 121, .inl v))]) (wb := []) (q0 := 0) (ci := 0) (T := TX0) (N := 11) hK hP hD rfl rfl) rfl rfl hl.1 rfl (lv_room (Nat.le_of_ble_eq_true rfl)) dX1_lengthen_50 ⟨Nat.le_of_ble_eq_true rfl, Nat.le_of_ble_eq_true rfl⟩) hP hD hS hA (fun w1 H locs hq hP hD hS => ?_)
              obtain ⟨q2, rfl, hC2⟩ := hq
              have hP : va_P g.1 vwCl ([(ua, .inr (1, [.ref ar, .int (nI cnt)])), (ar, .inl (g.2.2.1, 6, .inr (.inr (.inr (.inr rows)))))] ++ (zLW g (h, pa, da) rt lf (zFol rt (T + zN x1) (zPut T (zN x1) (zN x2) py) (T, P, py, R0, I, Pd, Wn, G)) q2)) H := hP
              have hD : va_D A ([(ua, .inr (1, [.ref ar, .int (nI cnt)])), (ar, .inl (g.2.2.1, 6, .inr (.inr (.inr (.inr rows)))))] ++ (zLW g (h, pa, da) rt lf (zFol rt (T + zN x1) (zPut T (zN x1) (zN x2) py) (T, P, py, R0, I, Pd, Wn, G)) q2)) := hD
              generalize hz2 : zFol rt (T + zN x1) (zPut T (zN x1) (zN x2) py) (T, P, py, R0, I, Pd, Wn, G) = z2 at hP hD hC2
              obtain ⟨T2, P2, py2, R2, I2, Pd2, Wn2, G2⟩ := z2
              obtain ⟨xI2, xP2, xW2, xG2, u2, v2⟩ := q2
              have hP : va_P g.1 vwCl [(ua, .inr (1, [.ref ar, .int (nI cnt)])), (ar, .inl (g.2.2.1, 6, .inr (.inr (.inr (.inr rows))))), (h, .inr (0, [.int (nI rt), .int (nI lf), .ref pa, .ref da, .int (nI T2), .int (nI P2), .long (lN R2), .long xI2, .long xP2, .long xW2, .long xG2])), (pa, .inl (g.2.1, 120, .inl u2)), (da, .inl (g.2.1, 121, .inl v2))] H := hP
              have hD : va_D A [(ua, .inr (1, [.ref ar, .int (nI cnt)])), (ar, .inl (g.2.2.1, 6, .inr (.inr (.inr (.inr rows))))), (h, .inr (0, [.int (nI rt), .int (nI lf), .ref pa, .ref da, .int (nI T2), .int (nI P2), .long (lN R2), .long xI2, .long xP2, .long xW2, .long xG2])), (pa, .inl (g.2.1, 120, .inl u2)), (da, .inl (g.2.1, 121, .inl v2))] := hD
              have eT : T2 = T + zN x1 := by have z := zFol_T (r := rt) (T' := T + zN x1) (p' := zPut T (zN x1) (zN x2) py) (T := T) (P := P) (R := R0) (p := py) (I := I) (Pd := Pd) (W := Wn) (G := G); rw [hz2] at z; exact z
              have eP : P2 = P := by have z := zFol_P (r := rt) (T' := T + zN x1) (p' := zPut T (zN x1) (zN x2) py) (T := T) (P := P) (R := R0) (p := py) (I := I) (Pd := Pd) (W := Wn) (G := G); rw [hz2] at z; exact z
              have ep : py2 = zPut T (zN x1) (zN x2) py := by have z := zFol_p (r := rt) (T' := T + zN x1) (p' := zPut T (zN x1) (zN x2) py) (T := T) (P := P) (R := R0) (p := py) (I := I) (Pd := Pd) (W := Wn) (G := G); rw [hz2] at z; exact z
              refine lv_aload hx hb dX1_lengthen_53 (lv_at hl 0 rfl) ?_
              refine z_ai (wa := [(ua, .inr (1, [.ref ar, .int (nI cnt)])), (ar, .inl (g.2.2.1, 6, .inr (.inr (.inr (.inr rows)))))]) (wc := [(h, .inr (0, [.int (nI rt), .int (nI lf), .ref pa, .ref da, .int (nI T2), .int (nI P2), .long (lN R2), .long xI2, .long xP2, .long xW2, .long xG2])), (pa, .inl (g.2.1, 120, .inl u2)), (da, .inl (g.2.1, 121, .inl v2))]) (wb := []) (va_runV (As := []) (rest := []) ⟨hx, hb, hml, hown, hts⟩ (c_debtNow l g h pa da rt lf T2 P2 (lN R2) xI2 xP2 xW2 xG2 u2 v2 (by omega) H.size _ rfl) (cwV 0 hts gX1_lengthen_X0_debtNow rfl rfl rfl (by decide +kernel) ⟨Nat.le_of_ble_eq_true rfl, Nat.le_of_ble_eq_true rfl⟩) (zpreV (wa := [(ua, .inr (1, [.ref ar, .int (nI cnt)])), (ar, .inl (g.2.2.1, 6, .inr (.inr (.inr (.inr rows)))))]) (wc := [(h, .inr (0, [.int (nI rt), .int (nI lf), .ref pa, .ref da, .int (nI T2), .int (nI P2), .long (lN R2), .long xI2, .long xP2, .long xW2, .long xG2])), (pa, .inl (g.2.1, 120, .inl u2)), (da, .inl (g.2.1, 121, .inl v2))]) (wb := []) (q0 := 0) (ci := 0) (T := TX0) (N := 11) hK hP hD rfl rfl) rfl rfl hl.1 rfl (lv_room (Nat.le_of_ble_eq_true rfl)) dX1_lengthen_55 ⟨Nat.le_of_ble_eq_true rfl, Nat.le_of_ble_eq_true rfl⟩) hP hD hS hA (fun r_6 w1 H locs hq hP hD hS => ?_)
              obtain ⟨rfl, rfl⟩ := hq
              have hP : va_P g.1 vwCl [(ua, .inr (1, [.ref ar, .int (nI cnt)])), (ar, .inl (g.2.2.1, 6, .inr (.inr (.inr (.inr rows))))), (h, .inr (0, [.int (nI rt), .int (nI lf), .ref pa, .ref da, .int (nI T2), .int (nI P2), .long (lN R2), .long xI2, .long xP2, .long xW2, .long xG2])), (pa, .inl (g.2.1, 120, .inl u2)), (da, .inl (g.2.1, 121, .inl v2))] H := hP
              have hD : va_D A [(ua, .inr (1, [.ref ar, .int (nI cnt)])), (ar, .inl (g.2.2.1, 6, .inr (.inr (.inr (.inr rows))))), (h, .inr (0, [.int (nI rt), .int (nI lf), .ref pa, .ref da, .int (nI T2), .int (nI P2), .long (lN R2), .long xI2, .long xP2, .long xW2, .long xG2])), (pa, .inl (g.2.1, 120, .inl u2)), (da, .inl (g.2.1, 121, .inl v2))] := hD
              refine zi (y := nI (zWr rt py2 T2 (T2 - P2))) (hC2.2.2.2.2.2 P2 (Nat.le_refl P2) (by omega)) ?_
              refine W.widen (k := 5) (n := 30) (by omega) (by omega) ?_
              exact z_xiret hx hb hr hP hK hD hS dX1_lengthen_58 hlocks (⟨⟨hr1, hr2⟩, ⟨hlt, hok⟩, by rw [eT, eP, ep], (xI2, xP2, xW2, xG2, u2, v2), rfl, hC2⟩)
            · exact absurd hc (by decide)
          · refine z_if_ne (tgt := 46) hx hb dX1_lengthen_33 (by decide) (by omega) (fun hc => ?_) (fun hc => ?_)
            · exact absurd rfl hc
            · exact z_throw (text := "there would be too many months in all") (Ts := wsX1_lengthen) hx hb hst hown (by decide +kernel) hts (by decide +kernel) (by decide +kernel) (by decide +kernel) zbw_ISE zot_ISE_23 (by decide +kernel) hX hA hP hK hD hS (hl.1.trans hml.symm) dX1_lengthen_36 dX1_lengthen_39 dX1_lengthen_40 dX1_lengthen_42 dX1_lengthen_45 hout (Nat.le_of_ble_eq_true rfl) (Nat.le_of_ble_eq_true rfl) (Nat.le_of_ble_eq_true rfl) (Nat.le_of_ble_eq_true rfl) hlocks (Or.inr ⟨rfl, ⟨hr1, hr2⟩, fun z => absurd z.2 (by omega)⟩) (Nat.le_of_ble_eq_true rfl) (Nat.le_of_ble_eq_true rfl)

set_option maxHeartbeats 4000000 in
set_option maxRecDepth 100000 in
theorem p_shorten (l : Launch) (hst : l.stackTraces = false) (g : zG) (ua ar cnt : Nat) (rows : Nat → Option Nat) (j : Nat) (h pa da rt lf T P R0 : Nat) (py : Nat → Nat) (I Pd Wn G : Int32) (xI xP xW xG : Int64) (u v : Nat → Int32) (x1 : Int32) (hj : j < 6) (hrow : rows j = some h) (hZ : zInv rt lf (T, P, py, R0, I, Pd, Wn, G)) (hC : zCR rt (T, P, py, R0, I, Pd, Wn, G) (xI, xP, xW, xG, u, v)) : zXi l yX1_shorten wsX1_shorten ({ frames := 7, cells := 3, slots := 18, locals := 125 } : Room) [.ref ua, .int (nI j), .int x1] g [(ua, .inr (1, [.ref ar, .int (nI cnt)])), (ar, .inl (g.2.2.1, 6, .inr (.inr (.inr (.inr rows))))), (h, .inr (0, [.int (nI rt), .int (nI lf), .ref pa, .ref da, .int (nI T), .int (nI P), .long (lN R0), .long xI, .long xP, .long xW, .long xG])), (pa, .inl (g.2.1, 120, .inl u)), (da, .inl (g.2.1, 121, .inl v))] (fun q w => (nI 1 ≤ x1 ∧ x1 ≤ nI 60) ∧ (zN x1 < T - P) ∧ q = zGn rt (T - zN x1) py (R0 * (T - zN x1 - P) / (T - P)) (T, P, py, R0, I, Pd, Wn, G) ∧ ∃ q', w = [(ua, .inr (1, [.ref ar, .int (nI cnt)])), (ar, .inl (g.2.2.1, 6, .inr (.inr (.inr (.inr rows)))))] ++ zLW g (h, pa, da) rt lf (zGiv rt (T - zN x1) py (R0 * (T - zN x1 - P) / (T - P)) (T, P, py, R0, I, Pd, Wn, G)) q' ∧ zCR rt (zGiv rt (T - zN x1) py (R0 * (T - zN x1 - P) / (T - P)) (T, P, py, R0, I, Pd, Wn, G)) q') (fun E => (E = "java/lang/IllegalArgumentException" ∧ ¬ (nI 1 ≤ x1 ∧ x1 ≤ nI 60)) ∨ (E = "java/lang/IllegalStateException" ∧ (nI 1 ≤ x1 ∧ x1 ≤ nI 60) ∧ ¬ (zN x1 < T - P))) 3 18 := by
  intro sz A hAe
  refine vx_ofW (cc := cX1_shorten) (maxL := 4) (ret := some .int) (by decide) rfl ?_
  intro p e s m args below meth c s₁ B hml hout hv
  obtain ⟨rfl, ⟨hsz, hP, hK, hD0⟩, hX⟩ := hv
  have hx := B.exec
  have hb := B.bytes
  have hr := B.returns
  have hts := atoms_spec (ws := wsX1_shorten) B.pre
  have hown : s.vm.findClass RX1 = some m.cls := findClass_of_methodNamed B.named
  have hlocks := B.notSynchronized
  obtain ⟨hD, hA, hS⟩ := z_in hsz hAe hD0
  have hl := lv_entry ([.ref ua, .int (nI j), .int x1]) (n := 4) (Nat.le_of_ble_eq_true rfl)
  rw [lg_entry_eq]
  generalize (lg_sl ([.ref ua, .int (nI j), .int x1]) ++ List.replicate (4 - (lg_sl ([.ref ua, .int (nI j), .int x1])).length) Slot.unset).toArray = ls at hl ⊢
  have hl : lv_has ls 4 [(0, .ref ua), (1, .int (nI j)), (2, .int x1)] := hl
  have hinX0 : ∀ w ∈ wsX00, w ∈ wsX1_shorten := by decide +kernel
  have hinX1 : ∀ w ∈ wsX10, w ∈ wsX1_shorten := by decide +kernel
  obtain ⟨hT, hPT, hrt, hlf, hp, hRb⟩ := id hZ
  obtain ⟨hI, hPd, hWn, hG, hu, hv⟩ := id hC
  refine lv_aload_n hx hb dX1_shorten_0 rfl (lv_at hl 0 rfl) ?_
  refine lv_iload_n hx hb dX1_shorten_1 rfl (lv_at hl 1 rfl) ?_
  refine z_axq (wa := []) (wc := [(ua, .inr (1, [.ref ar, .int (nI cnt)])), (ar, .inl (g.2.2.1, 6, .inr (.inr (.inr (.inr rows)))))]) (wb := [(h, .inr (0, [.int (nI rt), .int (nI lf), .ref pa, .ref da, .int (nI T), .int (nI P), .long (lN R0), .long xI, .long xP, .long xW, .long xG])), (pa, .inl (g.2.1, 120, .inl u)), (da, .inl (g.2.1, 121, .inl v))]) (vx_runV (As := [.int (nI j)]) (rest := []) ⟨hx, hb, hml, hown, hts⟩ (c_leaseOf l hst g ua ar cnt rows (nI j) s.heap.size _ rfl) (cwV 1 hts gX1_shorten_X1_leaseOf rfl rfl rfl (by decide +kernel) ⟨Nat.le_of_ble_eq_true rfl, Nat.le_of_ble_eq_true rfl⟩) (zpreXV (wa := []) (wc := [(ua, .inr (1, [.ref ar, .int (nI cnt)])), (ar, .inl (g.2.2.1, 6, .inr (.inr (.inr (.inr rows)))))]) (wb := [(h, .inr (0, [.int (nI rt), .int (nI lf), .ref pa, .ref da, .int (nI T), .int (nI P), .long (lN R0), .long xI, .long xP, .long xW, .long xG])), (pa, .inl (g.2.1, 120, .inl u)), (da, .inl (g.2.1, 121, .inl v))]) (q0 := 0) (ci := 1) (T := TX1) (N := 2) hK hP hD hS hA hX rfl rfl) rfl rfl hl.1 rfl (lv_room (Nat.le_of_ble_eq_true rfl)) dX1_shorten_2 ⟨Nat.le_of_ble_eq_true rfl, Nat.le_of_ble_eq_true rfl⟩) hP hD hS hA (fun E ce q9 H locs hE hP hD hS hc1 hc2 hc3 => ?_) (fun r_1 w1 H locs hq hP hD hS => ?_)
  · exact absurd hrow (hE.2 j h hj rfl)
  · obtain ⟨⟨j2, h2, hj2, ej2, hr2, rfl⟩, rfl⟩ := hq
    have hP : va_P g.1 vwCl [(ua, .inr (1, [.ref ar, .int (nI cnt)])), (ar, .inl (g.2.2.1, 6, .inr (.inr (.inr (.inr rows))))), (h, .inr (0, [.int (nI rt), .int (nI lf), .ref pa, .ref da, .int (nI T), .int (nI P), .long (lN R0), .long xI, .long xP, .long xW, .long xG])), (pa, .inl (g.2.1, 120, .inl u)), (da, .inl (g.2.1, 121, .inl v))] H := hP
    have hD : va_D A [(ua, .inr (1, [.ref ar, .int (nI cnt)])), (ar, .inl (g.2.2.1, 6, .inr (.inr (.inr (.inr rows))))), (h, .inr (0, [.int (nI rt), .int (nI lf), .ref pa, .ref da, .int (nI T), .int (nI P), .long (lN R0), .long xI, .long xP, .long xW, .long xG])), (pa, .inl (g.2.1, 120, .inl u)), (da, .inl (g.2.1, 121, .inl v))] := hD
    obtain rfl : j = j2 := (nI_eq (by omega) (by omega)).mp ej2
    obtain rfl : h = h2 := Option.some.inj (hrow.symm.trans hr2)
    refine zqs ?_
    refine lv_astore_n (lv' := [(3, .ref h), (0, .ref ua), (1, .int (nI j)), (2, .int x1)]) hx hb dX1_shorten_5 rfl hl (by decide) rfl (fun ls hl => ?_)
    refine lv_iload_n hx hb dX1_shorten_6 rfl (lv_at hl 3 rfl) ?_
    refine lv_iconst (v := nI 1) hx hb dX1_shorten_7 (by decide) ?_
    refine lv_bipush (v := nI 60) hx hb dX1_shorten_8 (by decide) ?_
    refine z_axv (wa := []) (wc := []) (wb := [(ua, .inr (1, [.ref ar, .int (nI cnt)])), (ar, .inl (g.2.2.1, 6, .inr (.inr (.inr (.inr rows))))), (h, .inr (0, [.int (nI rt), .int (nI lf), .ref pa, .ref da, .int (nI T), .int (nI P), .long (lN R0), .long xI, .long xP, .long xW, .long xG])), (pa, .inl (g.2.1, 120, .inl u)), (da, .inl (g.2.1, 121, .inl v))]) (vx_runS (As := [.int x1, .int (nI 1), .int (nI 60)]) (rest := []) ⟨hx, hb, hml, hown, hts⟩ (c_mustBeWithin l hst g x1 (nI 1) (nI 60) H.size _ rfl) (va_cwS 3 hts gX1_shorten_X1_mustBeWithin rfl rfl rfl (by decide +kernel) ⟨Nat.le_of_ble_eq_true rfl, Nat.le_of_ble_eq_true rfl⟩) (zpreXS (wa := []) (wc := []) (wb := [(ua, .inr (1, [.ref ar, .int (nI cnt)])), (ar, .inl (g.2.2.1, 6, .inr (.inr (.inr (.inr rows))))), (h, .inr (0, [.int (nI rt), .int (nI lf), .ref pa, .ref da, .int (nI T), .int (nI P), .long (lN R0), .long xI, .long xP, .long xW, .long xG])), (pa, .inl (g.2.1, 120, .inl u)), (da, .inl (g.2.1, 121, .inl v))]) hK hP hD hS hA hX) rfl rfl hl.1 rfl (lv_room (Nat.le_of_ble_eq_true rfl)) dX1_shorten_10 ⟨Nat.le_of_ble_eq_true rfl, Nat.le_of_ble_eq_true rfl⟩) hP hD hS hA (fun E ce q9 H locs hE hP hD hS hc1 hc2 hc3 => ?_) (fun w1 H locs hq hP hD hS => ?_)
    · exact z_out hout hP hK hD hS hlocks hc1 hc2 hc3 (Or.inl hE) (Nat.le_of_ble_eq_true rfl) (Nat.le_of_ble_eq_true rfl)
    · obtain ⟨hrng, rfl⟩ := hq
      have hP : va_P g.1 vwCl [(ua, .inr (1, [.ref ar, .int (nI cnt)])), (ar, .inl (g.2.2.1, 6, .inr (.inr (.inr (.inr rows))))), (h, .inr (0, [.int (nI rt), .int (nI lf), .ref pa, .ref da, .int (nI T), .int (nI P), .long (lN R0), .long xI, .long xP, .long xW, .long xG])), (pa, .inl (g.2.1, 120, .inl u)), (da, .inl (g.2.1, 121, .inl v))] H := hP
      have hD : va_D A [(ua, .inr (1, [.ref ar, .int (nI cnt)])), (ar, .inl (g.2.2.1, 6, .inr (.inr (.inr (.inr rows))))), (h, .inr (0, [.int (nI rt), .int (nI lf), .ref pa, .ref da, .int (nI T), .int (nI P), .long (lN R0), .long xI, .long xP, .long xW, .long xG])), (pa, .inl (g.2.1, 120, .inl u)), (da, .inl (g.2.1, 121, .inl v))] := hD
      obtain ⟨e1, h11, h12⟩ := zN_in (by decide) (by decide) hrng
      refine lv_aload_n hx hb dX1_shorten_13 rfl (lv_at hl 0 rfl) ?_
      refine z_ai (wa := [(ua, .inr (1, [.ref ar, .int (nI cnt)])), (ar, .inl (g.2.2.1, 6, .inr (.inr (.inr (.inr rows)))))]) (wc := [(h, .inr (0, [.int (nI rt), .int (nI lf), .ref pa, .ref da, .int (nI T), .int (nI P), .long (lN R0), .long xI, .long xP, .long xW, .long xG])), (pa, .inl (g.2.1, 120, .inl u)), (da, .inl (g.2.1, 121, .inl v))]) (wb := []) (va_runV (As := []) (rest := []) ⟨hx, hb, hml, hown, hts⟩ (c_monthsLeft l g h pa da rt lf T P (lN R0) xI xP xW xG u v hPT H.size _ rfl) (cwV 0 hts gX1_shorten_X0_monthsLeft rfl rfl rfl (by decide +kernel) ⟨Nat.le_of_ble_eq_true rfl, Nat.le_of_ble_eq_true rfl⟩) (zpreV (wa := [(ua, .inr (1, [.ref ar, .int (nI cnt)])), (ar, .inl (g.2.2.1, 6, .inr (.inr (.inr (.inr rows)))))]) (wc := [(h, .inr (0, [.int (nI rt), .int (nI lf), .ref pa, .ref da, .int (nI T), .int (nI P), .long (lN R0), .long xI, .long xP, .long xW, .long xG])), (pa, .inl (g.2.1, 120, .inl u)), (da, .inl (g.2.1, 121, .inl v))]) (wb := []) (q0 := 0) (ci := 0) (T := TX0) (N := 11) hK hP hD rfl rfl) rfl rfl hl.1 rfl (lv_room (Nat.le_of_ble_eq_true rfl)) dX1_shorten_14 ⟨Nat.le_of_ble_eq_true rfl, Nat.le_of_ble_eq_true rfl⟩) hP hD hS hA (fun r_3 w1 H locs hq hP hD hS => ?_)
      obtain ⟨rfl, rfl⟩ := hq
      have hP : va_P g.1 vwCl [(ua, .inr (1, [.ref ar, .int (nI cnt)])), (ar, .inl (g.2.2.1, 6, .inr (.inr (.inr (.inr rows))))), (h, .inr (0, [.int (nI rt), .int (nI lf), .ref pa, .ref da, .int (nI T), .int (nI P), .long (lN R0), .long xI, .long xP, .long xW, .long xG])), (pa, .inl (g.2.1, 120, .inl u)), (da, .inl (g.2.1, 121, .inl v))] H := hP
      have hD : va_D A [(ua, .inr (1, [.ref ar, .int (nI cnt)])), (ar, .inl (g.2.2.1, 6, .inr (.inr (.inr (.inr rows))))), (h, .inr (0, [.int (nI rt), .int (nI lf), .ref pa, .ref da, .int (nI T), .int (nI P), .long (lN R0), .long xI, .long xP, .long xW, .long xG])), (pa, .inl (g.2.1, 120, .inl u)), (da, .inl (g.2.1, 121, .inl v))] := hD
      refine lv_iload_n hx hb dX1_shorten_17 rfl (lv_at hl 3 rfl) ?_
      refine zi (y := nI (zN x1)) (e1) ?_
      refine z_icmp_gt (tgt := 31) hx hb dX1_shorten_18 (by decide) (by omega) (by omega) (fun hc => ?_) (fun hc => ?_)
      · refine lv_aload_n hx hb dX1_shorten_31 rfl (lv_at hl 0 rfl) ?_
        refine lv_iload_n hx hb dX1_shorten_32 rfl (lv_at hl 3 rfl) ?_
        refine zi (y := nI (zN x1)) (e1) ?_
        refine z_ai (wa := [(ua, .inr (1, [.ref ar, .int (nI cnt)])), (ar, .inl (g.2.2.1, 6, .inr (.inr (.inr (.inr rows)))))]) (wc := [(h, .inr (0, [.int (nI rt), .int (nI lf), .ref pa, .ref da, .int (nI T), .int (nI P), .long (lN R0), .long xI, .long xP, .long xW, .long xG])), (pa, .inl (g.2.1, 120, .inl u)), (da, .inl (g.2.1, 121, .inl v))]) (wb := []) (va_runV (As := [.int (nI (zN x1))]) (rest := []) ⟨hx, hb, hml, hown, hts⟩ (c_takeOffTheEnd l g h pa da rt lf T P R0 py I Pd Wn G xI xP xW xG u v (zN x1) hZ hC hc H.size _ rfl) (cwV 1 hts gX1_shorten_X0_takeOffTheEnd rfl rfl rfl (by decide +kernel) ⟨Nat.le_of_ble_eq_true rfl, Nat.le_of_ble_eq_true rfl⟩) (zpreV (wa := [(ua, .inr (1, [.ref ar, .int (nI cnt)])), (ar, .inl (g.2.2.1, 6, .inr (.inr (.inr (.inr rows)))))]) (wc := [(h, .inr (0, [.int (nI rt), .int (nI lf), .ref pa, .ref da, .int (nI T), .int (nI P), .long (lN R0), .long xI, .long xP, .long xW, .long xG])), (pa, .inl (g.2.1, 120, .inl u)), (da, .inl (g.2.1, 121, .inl v))]) (wb := []) (q0 := 0) (ci := 0) (T := TX0) (N := 11) hK hP hD rfl rfl) rfl rfl hl.1 rfl (lv_room (Nat.le_of_ble_eq_true rfl)) dX1_shorten_33 ⟨Nat.le_of_ble_eq_true rfl, Nat.le_of_ble_eq_true rfl⟩) hP hD hS hA (fun r_4 w1 H locs hq hP hD hS => ?_)
        obtain ⟨rfl, q2, rfl, hC2⟩ := hq
        have hP : va_P g.1 vwCl ([(ua, .inr (1, [.ref ar, .int (nI cnt)])), (ar, .inl (g.2.2.1, 6, .inr (.inr (.inr (.inr rows)))))] ++ (zLW g (h, pa, da) rt lf (zGiv rt (T - zN x1) py (R0 * (T - zN x1 - P) / (T - P)) (T, P, py, R0, I, Pd, Wn, G)) q2)) H := hP
        have hD : va_D A ([(ua, .inr (1, [.ref ar, .int (nI cnt)])), (ar, .inl (g.2.2.1, 6, .inr (.inr (.inr (.inr rows)))))] ++ (zLW g (h, pa, da) rt lf (zGiv rt (T - zN x1) py (R0 * (T - zN x1 - P) / (T - P)) (T, P, py, R0, I, Pd, Wn, G)) q2)) := hD
        refine W.widen (k := 3) (n := 18) (by omega) (by omega) ?_
        exact z_xiret hx hb hr hP hK hD hS dX1_shorten_36 hlocks (⟨hrng, hc, rfl, q2, rfl, hC2⟩)
      · exact z_throw (text := "no month would be left to come") (Ts := wsX1_shorten) hx hb hst hown (by decide +kernel) hts (by decide +kernel) (by decide +kernel) (by decide +kernel) zbw_ISE zot_ISE_23 (by decide +kernel) hX hA hP hK hD hS (hl.1.trans hml.symm) dX1_shorten_21 dX1_shorten_24 dX1_shorten_25 dX1_shorten_27 dX1_shorten_30 hout (Nat.le_of_ble_eq_true rfl) (Nat.le_of_ble_eq_true rfl) (Nat.le_of_ble_eq_true rfl) (Nat.le_of_ble_eq_true rfl) hlocks (Or.inr ⟨rfl, hrng, fun z => absurd z (by omega)⟩) (Nat.le_of_ble_eq_true rfl) (Nat.le_of_ble_eq_true rfl)

set_option maxHeartbeats 4000000 in
set_option maxRecDepth 100000 in
theorem p_cut (l : Launch) (hst : l.stackTraces = false) (g : zG) (ua ar cnt : Nat) (rows : Nat → Option Nat) (j : Nat) (h pa da rt lf T P R0 : Nat) (py : Nat → Nat) (I Pd Wn G : Int32) (xI xP xW xG : Int64) (u v : Nat → Int32) (x1 : Int32) (hj : j < 6) (hrow : rows j = some h) (hZ : zInv rt lf (T, P, py, R0, I, Pd, Wn, G)) (hC : zCR rt (T, P, py, R0, I, Pd, Wn, G) (xI, xP, xW, xG, u, v)) : zXi l yX1_cut wsX1_cut ({ frames := 7, cells := 3, slots := 18, locals := 125 } : Room) [.ref ua, .int (nI j), .int x1] g [(ua, .inr (1, [.ref ar, .int (nI cnt)])), (ar, .inl (g.2.2.1, 6, .inr (.inr (.inr (.inr rows))))), (h, .inr (0, [.int (nI rt), .int (nI lf), .ref pa, .ref da, .int (nI T), .int (nI P), .long (lN R0), .long xI, .long xP, .long xW, .long xG])), (pa, .inl (g.2.1, 120, .inl u)), (da, .inl (g.2.1, 121, .inl v))] (fun q w => (nI 1 ≤ x1 ∧ x1 ≤ nI 99) ∧ (P < T) ∧ q = zGn rt T (zSc (100 - zN x1) py) (R0 * (100 - zN x1) / 100) (T, P, py, R0, I, Pd, Wn, G) ∧ ∃ q', w = [(ua, .inr (1, [.ref ar, .int (nI cnt)])), (ar, .inl (g.2.2.1, 6, .inr (.inr (.inr (.inr rows)))))] ++ zLW g (h, pa, da) rt lf (zGiv rt T (zSc (100 - zN x1) py) (R0 * (100 - zN x1) / 100) (T, P, py, R0, I, Pd, Wn, G)) q' ∧ zCR rt (zGiv rt T (zSc (100 - zN x1) py) (R0 * (100 - zN x1) / 100) (T, P, py, R0, I, Pd, Wn, G)) q') (fun E => (E = "java/lang/IllegalArgumentException" ∧ ¬ (nI 1 ≤ x1 ∧ x1 ≤ nI 99)) ∨ (E = "java/lang/IllegalStateException" ∧ (nI 1 ≤ x1 ∧ x1 ≤ nI 99) ∧ ¬ (P < T))) 3 18 := by
  intro sz A hAe
  refine vx_ofW (cc := cX1_cut) (maxL := 4) (ret := some .int) (by decide) rfl ?_
  intro p e s m args below meth c s₁ B hml hout hv
  obtain ⟨rfl, ⟨hsz, hP, hK, hD0⟩, hX⟩ := hv
  have hx := B.exec
  have hb := B.bytes
  have hr := B.returns
  have hts := atoms_spec (ws := wsX1_cut) B.pre
  have hown : s.vm.findClass RX1 = some m.cls := findClass_of_methodNamed B.named
  have hlocks := B.notSynchronized
  obtain ⟨hD, hA, hS⟩ := z_in hsz hAe hD0
  have hl := lv_entry ([.ref ua, .int (nI j), .int x1]) (n := 4) (Nat.le_of_ble_eq_true rfl)
  rw [lg_entry_eq]
  generalize (lg_sl ([.ref ua, .int (nI j), .int x1]) ++ List.replicate (4 - (lg_sl ([.ref ua, .int (nI j), .int x1])).length) Slot.unset).toArray = ls at hl ⊢
  have hl : lv_has ls 4 [(0, .ref ua), (1, .int (nI j)), (2, .int x1)] := hl
  have hinX0 : ∀ w ∈ wsX00, w ∈ wsX1_cut := by decide +kernel
  have hinX1 : ∀ w ∈ wsX10, w ∈ wsX1_cut := by decide +kernel
  obtain ⟨hT, hPT, hrt, hlf, hp, hRb⟩ := id hZ
  obtain ⟨hI, hPd, hWn, hG, hu, hv⟩ := id hC
  refine lv_aload_n hx hb dX1_cut_0 rfl (lv_at hl 0 rfl) ?_
  refine lv_iload_n hx hb dX1_cut_1 rfl (lv_at hl 1 rfl) ?_
  refine z_axq (wa := []) (wc := [(ua, .inr (1, [.ref ar, .int (nI cnt)])), (ar, .inl (g.2.2.1, 6, .inr (.inr (.inr (.inr rows)))))]) (wb := [(h, .inr (0, [.int (nI rt), .int (nI lf), .ref pa, .ref da, .int (nI T), .int (nI P), .long (lN R0), .long xI, .long xP, .long xW, .long xG])), (pa, .inl (g.2.1, 120, .inl u)), (da, .inl (g.2.1, 121, .inl v))]) (vx_runV (As := [.int (nI j)]) (rest := []) ⟨hx, hb, hml, hown, hts⟩ (c_leaseOf l hst g ua ar cnt rows (nI j) s.heap.size _ rfl) (cwV 1 hts gX1_cut_X1_leaseOf rfl rfl rfl (by decide +kernel) ⟨Nat.le_of_ble_eq_true rfl, Nat.le_of_ble_eq_true rfl⟩) (zpreXV (wa := []) (wc := [(ua, .inr (1, [.ref ar, .int (nI cnt)])), (ar, .inl (g.2.2.1, 6, .inr (.inr (.inr (.inr rows)))))]) (wb := [(h, .inr (0, [.int (nI rt), .int (nI lf), .ref pa, .ref da, .int (nI T), .int (nI P), .long (lN R0), .long xI, .long xP, .long xW, .long xG])), (pa, .inl (g.2.1, 120, .inl u)), (da, .inl (g.2.1, 121, .inl v))]) (q0 := 0) (ci := 1) (T := TX1) (N := 2) hK hP hD hS hA hX rfl rfl) rfl rfl hl.1 rfl (lv_room (Nat.le_of_ble_eq_true rfl)) dX1_cut_2 ⟨Nat.le_of_ble_eq_true rfl, Nat.le_of_ble_eq_true rfl⟩) hP hD hS hA (fun E ce q9 H locs hE hP hD hS hc1 hc2 hc3 => ?_) (fun r_1 w1 H locs hq hP hD hS => ?_)
  · exact absurd hrow (hE.2 j h hj rfl)
  · obtain ⟨⟨j2, h2, hj2, ej2, hr2, rfl⟩, rfl⟩ := hq
    have hP : va_P g.1 vwCl [(ua, .inr (1, [.ref ar, .int (nI cnt)])), (ar, .inl (g.2.2.1, 6, .inr (.inr (.inr (.inr rows))))), (h, .inr (0, [.int (nI rt), .int (nI lf), .ref pa, .ref da, .int (nI T), .int (nI P), .long (lN R0), .long xI, .long xP, .long xW, .long xG])), (pa, .inl (g.2.1, 120, .inl u)), (da, .inl (g.2.1, 121, .inl v))] H := hP
    have hD : va_D A [(ua, .inr (1, [.ref ar, .int (nI cnt)])), (ar, .inl (g.2.2.1, 6, .inr (.inr (.inr (.inr rows))))), (h, .inr (0, [.int (nI rt), .int (nI lf), .ref pa, .ref da, .int (nI T), .int (nI P), .long (lN R0), .long xI, .long xP, .long xW, .long xG])), (pa, .inl (g.2.1, 120, .inl u)), (da, .inl (g.2.1, 121, .inl v))] := hD
    obtain rfl : j = j2 := (nI_eq (by omega) (by omega)).mp ej2
    obtain rfl : h = h2 := Option.some.inj (hrow.symm.trans hr2)
    refine zqs ?_
    refine lv_astore_n (lv' := [(3, .ref h), (0, .ref ua), (1, .int (nI j)), (2, .int x1)]) hx hb dX1_cut_5 rfl hl (by decide) rfl (fun ls hl => ?_)
    refine lv_iload_n hx hb dX1_cut_6 rfl (lv_at hl 3 rfl) ?_
    refine lv_iconst (v := nI 1) hx hb dX1_cut_7 (by decide) ?_
    refine lv_bipush (v := nI 99) hx hb dX1_cut_8 (by decide) ?_
    refine z_axv (wa := []) (wc := []) (wb := [(ua, .inr (1, [.ref ar, .int (nI cnt)])), (ar, .inl (g.2.2.1, 6, .inr (.inr (.inr (.inr rows))))), (h, .inr (0, [.int (nI rt), .int (nI lf), .ref pa, .ref da, .int (nI T), .int (nI P), .long (lN R0), .long xI, .long xP, .long xW, .long xG])), (pa, .inl (g.2.1, 120, .inl u)), (da, .inl (g.2.1, 121, .inl v))]) (vx_runS (As := [.int x1, .int (nI 1), .int (nI 99)]) (rest := []) ⟨hx, hb, hml, hown, hts⟩ (c_mustBeWithin l hst g x1 (nI 1) (nI 99) H.size _ rfl) (va_cwS 3 hts gX1_cut_X1_mustBeWithin rfl rfl rfl (by decide +kernel) ⟨Nat.le_of_ble_eq_true rfl, Nat.le_of_ble_eq_true rfl⟩) (zpreXS (wa := []) (wc := []) (wb := [(ua, .inr (1, [.ref ar, .int (nI cnt)])), (ar, .inl (g.2.2.1, 6, .inr (.inr (.inr (.inr rows))))), (h, .inr (0, [.int (nI rt), .int (nI lf), .ref pa, .ref da, .int (nI T), .int (nI P), .long (lN R0), .long xI, .long xP, .long xW, .long xG])), (pa, .inl (g.2.1, 120, .inl u)), (da, .inl (g.2.1, 121, .inl v))]) hK hP hD hS hA hX) rfl rfl hl.1 rfl (lv_room (Nat.le_of_ble_eq_true rfl)) dX1_cut_10 ⟨Nat.le_of_ble_eq_true rfl, Nat.le_of_ble_eq_true rfl⟩) hP hD hS hA (fun E ce q9 H locs hE hP hD hS hc1 hc2 hc3 => ?_) (fun w1 H locs hq hP hD hS => ?_)
    · exact z_out hout hP hK hD hS hlocks hc1 hc2 hc3 (Or.inl hE) (Nat.le_of_ble_eq_true rfl) (Nat.le_of_ble_eq_true rfl)
    · obtain ⟨hrng, rfl⟩ := hq
      have hP : va_P g.1 vwCl [(ua, .inr (1, [.ref ar, .int (nI cnt)])), (ar, .inl (g.2.2.1, 6, .inr (.inr (.inr (.inr rows))))), (h, .inr (0, [.int (nI rt), .int (nI lf), .ref pa, .ref da, .int (nI T), .int (nI P), .long (lN R0), .long xI, .long xP, .long xW, .long xG])), (pa, .inl (g.2.1, 120, .inl u)), (da, .inl (g.2.1, 121, .inl v))] H := hP
      have hD : va_D A [(ua, .inr (1, [.ref ar, .int (nI cnt)])), (ar, .inl (g.2.2.1, 6, .inr (.inr (.inr (.inr rows))))), (h, .inr (0, [.int (nI rt), .int (nI lf), .ref pa, .ref da, .int (nI T), .int (nI P), .long (lN R0), .long xI, .long xP, .long xW, .long xG])), (pa, .inl (g.2.1, 120, .inl u)), (da, .inl (g.2.1, 121, .inl v))] := hD
      obtain ⟨e1, h11, h12⟩ := zN_in (by decide) (by decide) hrng
      refine lv_aload_n hx hb dX1_cut_13 rfl (lv_at hl 0 rfl) ?_
      refine z_axv (wa := [(ua, .inr (1, [.ref ar, .int (nI cnt)])), (ar, .inl (g.2.2.1, 6, .inr (.inr (.inr (.inr rows)))))]) (wc := [(h, .inr (0, [.int (nI rt), .int (nI lf), .ref pa, .ref da, .int (nI T), .int (nI P), .long (lN R0), .long xI, .long xP, .long xW, .long xG])), (pa, .inl (g.2.1, 120, .inl u)), (da, .inl (g.2.1, 121, .inl v))]) (wb := []) (vx_runS (As := [.ref h]) (rest := []) ⟨hx, hb, hml, hown, hts⟩ (c_mustGoOn l hst g h pa da rt lf T P (lN R0) xI xP xW xG u v hPT hT H.size _ rfl) (va_cwS 1 hts gX1_cut_X1_mustGoOn rfl rfl rfl (by decide +kernel) ⟨Nat.le_of_ble_eq_true rfl, Nat.le_of_ble_eq_true rfl⟩) (zpreXS (wa := [(ua, .inr (1, [.ref ar, .int (nI cnt)])), (ar, .inl (g.2.2.1, 6, .inr (.inr (.inr (.inr rows)))))]) (wc := [(h, .inr (0, [.int (nI rt), .int (nI lf), .ref pa, .ref da, .int (nI T), .int (nI P), .long (lN R0), .long xI, .long xP, .long xW, .long xG])), (pa, .inl (g.2.1, 120, .inl u)), (da, .inl (g.2.1, 121, .inl v))]) (wb := []) hK hP hD hS hA hX) rfl rfl hl.1 rfl (lv_room (Nat.le_of_ble_eq_true rfl)) dX1_cut_14 ⟨Nat.le_of_ble_eq_true rfl, Nat.le_of_ble_eq_true rfl⟩) hP hD hS hA (fun E ce q9 H locs hE hP hD hS hc1 hc2 hc3 => ?_) (fun w1 H locs hq hP hD hS => ?_)
      · exact z_out hout hP hK hD hS hlocks hc1 hc2 hc3 (Or.inr ⟨hE.1, hrng, fun z => absurd z (by have := hE.2; omega)⟩) (Nat.le_of_ble_eq_true rfl) (Nat.le_of_ble_eq_true rfl)
      · obtain ⟨hlt, rfl⟩ := hq
        have hP : va_P g.1 vwCl [(ua, .inr (1, [.ref ar, .int (nI cnt)])), (ar, .inl (g.2.2.1, 6, .inr (.inr (.inr (.inr rows))))), (h, .inr (0, [.int (nI rt), .int (nI lf), .ref pa, .ref da, .int (nI T), .int (nI P), .long (lN R0), .long xI, .long xP, .long xW, .long xG])), (pa, .inl (g.2.1, 120, .inl u)), (da, .inl (g.2.1, 121, .inl v))] H := hP
        have hD : va_D A [(ua, .inr (1, [.ref ar, .int (nI cnt)])), (ar, .inl (g.2.2.1, 6, .inr (.inr (.inr (.inr rows))))), (h, .inr (0, [.int (nI rt), .int (nI lf), .ref pa, .ref da, .int (nI T), .int (nI P), .long (lN R0), .long xI, .long xP, .long xW, .long xG])), (pa, .inl (g.2.1, 120, .inl u)), (da, .inl (g.2.1, 121, .inl v))] := hD
        refine lv_aload_n hx hb dX1_cut_17 rfl (lv_at hl 0 rfl) ?_
        refine lv_bipush (v := nI 100) hx hb dX1_cut_18 (by decide) ?_
        refine lv_iload_n hx hb dX1_cut_20 rfl (lv_at hl 3 rfl) ?_
        refine zi (y := nI (zN x1)) (e1) ?_
        refine z_isub hx hb dX1_cut_21 (by omega) ?_
        refine z_ai (wa := [(ua, .inr (1, [.ref ar, .int (nI cnt)])), (ar, .inl (g.2.2.1, 6, .inr (.inr (.inr (.inr rows)))))]) (wc := [(h, .inr (0, [.int (nI rt), .int (nI lf), .ref pa, .ref da, .int (nI T), .int (nI P), .long (lN R0), .long xI, .long xP, .long xW, .long xG])), (pa, .inl (g.2.1, 120, .inl u)), (da, .inl (g.2.1, 121, .inl v))]) (wb := []) (va_runV (As := [.int (nI (100 - (zN x1)))]) (rest := []) ⟨hx, hb, hml, hown, hts⟩ (c_keepPart l g h pa da rt lf T P R0 py I Pd Wn G xI xP xW xG u v (100 - zN x1) hZ hC (by omega) H.size _ rfl) (cwV 1 hts gX1_cut_X0_keepPart rfl rfl rfl (by decide +kernel) ⟨Nat.le_of_ble_eq_true rfl, Nat.le_of_ble_eq_true rfl⟩) (zpreV (wa := [(ua, .inr (1, [.ref ar, .int (nI cnt)])), (ar, .inl (g.2.2.1, 6, .inr (.inr (.inr (.inr rows)))))]) (wc := [(h, .inr (0, [.int (nI rt), .int (nI lf), .ref pa, .ref da, .int (nI T), .int (nI P), .long (lN R0), .long xI, .long xP, .long xW, .long xG])), (pa, .inl (g.2.1, 120, .inl u)), (da, .inl (g.2.1, 121, .inl v))]) (wb := []) (q0 := 0) (ci := 0) (T := TX0) (N := 11) hK hP hD rfl rfl) rfl rfl hl.1 rfl (lv_room (Nat.le_of_ble_eq_true rfl)) dX1_cut_22 ⟨Nat.le_of_ble_eq_true rfl, Nat.le_of_ble_eq_true rfl⟩) hP hD hS hA (fun r_4 w1 H locs hq hP hD hS => ?_)
        obtain ⟨rfl, q2, rfl, hC2⟩ := hq
        have hP : va_P g.1 vwCl ([(ua, .inr (1, [.ref ar, .int (nI cnt)])), (ar, .inl (g.2.2.1, 6, .inr (.inr (.inr (.inr rows)))))] ++ (zLW g (h, pa, da) rt lf (zGiv rt T (zSc (100 - zN x1) py) (R0 * (100 - zN x1) / 100) (T, P, py, R0, I, Pd, Wn, G)) q2)) H := hP
        have hD : va_D A ([(ua, .inr (1, [.ref ar, .int (nI cnt)])), (ar, .inl (g.2.2.1, 6, .inr (.inr (.inr (.inr rows)))))] ++ (zLW g (h, pa, da) rt lf (zGiv rt T (zSc (100 - zN x1) py) (R0 * (100 - zN x1) / 100) (T, P, py, R0, I, Pd, Wn, G)) q2)) := hD
        exact z_xiret hx hb hr hP hK hD hS dX1_cut_25 hlocks (⟨hrng, hlt, rfl, q2, rfl, hC2⟩)
end
section
/-! the class Usewise: made, and a lease added -/
section ZO
variable {p : Program} {l : Launch} {e : Env} {R : Room} {s : State} {m : MethodId} {args : Array Value} {below : List Frame} {meth : Method} {c : Code} {H : Heap} {locs : List Loc} {cells slots : Nat} {Q : State → Prop} {cc : ByteArray} {pc : Nat} {ls : Array Slot} {rest : List Value} {g : zG} {A : Nat → Prop} {ws : va_W}
theorem z_newQ {own : String} {index : Nat} (hx : p.tables.exec = Jvm.exec) (hb : c.code = cc) (hown : s.vm.findClass own = some m.cls) (hcl : (Cond.classLink own index "Usewise$Lease").before args s = true) (hao : va_AO "Usewise$Lease" s) (hK : zK g s) (hP : va_P g.1 vwCl ws H) (hD : va_D A ws) (hS : va_S A s.heap H locs) (hA : ∀ q, s.heap.size ≤ q → A q) {n : Nat} (hn : n ≤ 1000000) (hcells : cells + 1 ≤ R.cells) (hslots : slots + n ≤ R.slots) (d : decode cc pc = .ok (.anewarray index, 3))
    (kk : ∀ (q : Nat) (H1 : Heap), va_P g.1 vwCl (ws ++ [(q, .inl (g.2.2.1, n, .inr (.inr (.inr (.inr (fun _ => none))))))]) H1 → va_D A (ws ++ [(q, .inl (g.2.2.1, n, .inr (.inr (.inr (.inr (fun _ => none))))))]) → va_S A s.heap H1 locs → W p l e R s m args below meth c H1 locs (cells + 1) (slots + n) Q (F0 m (pc + 3) ls (.ref q :: rest))) : W p l e R s m args below meth c H locs cells slots Q (F0 m pc ls (.int (nI n) :: rest)) := by
  refine va_newq hx hb hown hcl hao hK hP hD hS hA (N' := n) (nI_pos (by omega)) (nI_clamp (by omega)) (by omega) hcells hslots d ?_
  intro q cA H1 hK2 hP2 hD2 hS2
  obtain ⟨-, -, -, -, -, h1⟩ := (hK2.2 3 (cA, .object "Usewise$Lease") rfl).2
  obtain ⟨-, -, -, -, -, h2⟩ := (hK.2 1 (g.2.2.1, .object "Usewise$Lease") rfl).2
  obtain rfl : cA = g.2.2.1 := Option.some.inj (h1.symm.trans h2)
  exact kk q H1 hP2 hD2 hS2
variable {D : va_G} {cl : List vw_C} {a : Nat} {tys : List (ClassId × FieldType)} {H0 : Heap}
theorem z_aast (hx : p.tables.exec = Jvm.exec) (hb : c.code = cc) (hK : va_K D cl tys s) (hP : va_P D cl ws H) (hD : va_D A ws) (hS : va_S A H0 H locs) (q0 t0 qk ci : Nat) {cA : ClassId} {r : vw_C} {n v i : Nat} {vs : List Value} {f : Nat → Option Nat} (ha : ws[q0]? = some (a, .inl (cA, n, .inr (.inr (.inr (.inr f)))))) (ht : tys[t0]? = some (cA, .object r.1)) (hv : ws[qk]? = some (v, .inr (ci, vs))) (hc : cl[ci]? = some r) (hi : i < n) (hn : n < 2 ^ 31) (d : decode cc pc = .ok (.aastore, 1))
    (kk : ∀ (H1 : Heap) (locs1 : List Loc), va_P D cl (ws.set q0 (a, .inl (cA, n, .inr (.inr (.inr (.inr (va_up f i (some v)))))))) H1 → va_D A (ws.set q0 (a, .inl (cA, n, .inr (.inr (.inr (.inr (va_up f i (some v)))))))) → va_S A H0 H1 locs1 → W p l e R s m args below meth c H1 locs1 cells slots Q (F0 m (pc + 1) ls rest)) : W p l e R s m args below meth c H locs cells slots Q (F0 m pc ls (.ref v :: .int (nI i) :: .ref a :: rest)) := by
  refine va_astq hx hb hK hP hD hS q0 t0 qk ci ha ht hv hc (vp_in_nI hi hn) d ?_
  rw [nI_clamp (Nat.lt_trans hi hn)]
  exact kk
end ZO
set_option maxHeartbeats 4000000 in
set_option maxRecDepth 100000 in
theorem c_UseInit (l : Launch) (g : zG) (ua : Nat)  : zWv l yX1_init wsX1_init ({ frames := 2, cells := 1, slots := 6, locals := 40 } : Room) [.ref ua] g [(ua, .inr (1, [.null, .int (nI 0)]))] (fun w => ∃ ar : Nat, w = [(ua, .inr (1, [.ref ar, .int (nI 0)])), (ar, .inl (g.2.2.1, 6, .inr (.inr (.inr (.inr (fun _ => none))))))]) 1 6 := by
  intro sz A hAe
  refine Met.ofW (cc := cX1_init) (maxL := 1) (ret := none) (by decide) rfl ?_
  intro p e s m args below meth c s₁ B hml hv
  obtain ⟨rfl, ⟨hsz, hP, hK, hD0⟩, hX⟩ := hv
  have hx := B.exec
  have hb := B.bytes
  have hr := B.returns
  have hts := atoms_spec (ws := wsX1_init) B.pre
  have hown : s.vm.findClass RX1 = some m.cls := findClass_of_methodNamed B.named
  have hlocks := B.notSynchronized
  have hin : meth.name = "<init>" := (name_of_methodNamed B.named B.method).1
  obtain ⟨hD, hA, hS⟩ := z_in hsz hAe hD0
  have hl := lv_entry ([.ref ua]) (n := 1) (Nat.le_of_ble_eq_true rfl)
  rw [lg_entry_eq]
  generalize (lg_sl ([.ref ua]) ++ List.replicate (1 - (lg_sl ([.ref ua])).length) Slot.unset).toArray = ls at hl ⊢
  have hl : lv_has ls 1 [(0, .ref ua)] := hl
  have hinX1 : ∀ w ∈ wsX10, w ∈ wsX1_init := by decide +kernel
  refine lv_aload_n hx hb dX1_init_0 rfl (lv_at hl 0 rfl) ?_
  refine W.objInit hx hb hown (hts (.methodLink RX1 1 objectInit) (by decide +kernel)) (hts (.instanceMethod objectInit) (by decide +kernel)) (hts (.code objectInit ⟨#[0xb1]⟩ 1 none) (by decide +kernel)) rfl (hl.1.trans hml.symm) rfl dX1_init_1 (Nat.le_of_ble_eq_true rfl) (Nat.le_of_ble_eq_true rfl) ?_
  refine W.eq (g2 := F0 m 4 ls []) rfl ?_
  refine lv_aload_n hx hb dX1_init_4 rfl (lv_at hl 0 rfl) ?_
  refine lv_bipush (v := nI 6) hx hb dX1_init_5 (by decide) ?_
  refine z_newQ hx hb hown (hts (.classLink RX1 9 RX0) (by decide +kernel)) hX.2.2.2.2.1 hK hP hD hS hA (by omega) (Nat.le_of_ble_eq_true rfl) (Nat.le_of_ble_eq_true rfl) dX1_init_7 (fun ar H hP hD hS => ?_)
  have hP : va_P g.1 vwCl [(ua, .inr (1, [.null, .int (nI 0)])), (ar, .inl (g.2.2.1, 6, .inr (.inr (.inr (.inr (fun _ => none))))))] H := hP
  have hD : va_D A [(ua, .inr (1, [.null, .int (nI 0)])), (ar, .inl (g.2.2.1, 6, .inr (.inr (.inr (.inr (fun _ => none))))))] := hD
  refine va_putF (D := g.1) (ci := 1) (v := .ref ar) (ty := (.array (.object "Usewise$Lease"))) (C := RX1) (T := TX1) (N := 2) hx hb hts hinX1 tyX1 tyX1_ok nmX1 hown hK hP hD hS 0 rfl rfl 0 (by decide) (hts (.fieldLink RX1 11 "Usewise" "leases" "[LUsewise$Lease;") (by decide +kernel)) (fun _ h9 => h9) rfl hin rfl (by decide +kernel) rfl rfl (Nat.le_of_ble_eq_true rfl) dX1_init_10 (fun H locs hP hD hS => ?_)
  have hP : va_P g.1 vwCl [(ua, .inr (1, [.ref ar, .int (nI 0)])), (ar, .inl (g.2.2.1, 6, .inr (.inr (.inr (.inr (fun _ => none))))))] H := hP
  have hD : va_D A [(ua, .inr (1, [.ref ar, .int (nI 0)])), (ar, .inl (g.2.2.1, 6, .inr (.inr (.inr (.inr (fun _ => none))))))] := hD
  refine lv_aload_n hx hb dX1_init_13 rfl (lv_at hl 0 rfl) ?_
  refine lv_iconst (v := nI 0) hx hb dX1_init_14 (by decide) ?_
  refine va_put (D := g.1) (ci := 1) (v := .int (nI 0)) (ty := .int) (C := RX1) (T := TX1) (N := 2) hx hb hts hinX1 tyX1 tyX1_ok nmX1 hown hK hP hD hS 0 rfl rfl 1 (by decide) (hts (.fieldLink RX1 15 "Usewise" "count" "I") (by decide +kernel)) (fun _ h9 => h9) rfl (by decide +kernel) rfl rfl (Nat.le_of_ble_eq_true rfl) dX1_init_15 (fun H locs hP hD hS => ?_)
  have hP : va_P g.1 vwCl [(ua, .inr (1, [.ref ar, .int (nI 0)])), (ar, .inl (g.2.2.1, 6, .inr (.inr (.inr (.inr (fun _ => none))))))] H := hP
  have hD : va_D A [(ua, .inr (1, [.ref ar, .int (nI 0)])), (ar, .inl (g.2.2.1, 6, .inr (.inr (.inr (.inr (fun _ => none))))))] := hD
  refine W.widen (k := 1) (n := 6) (Nat.le_of_ble_eq_true rfl) (Nat.le_of_ble_eq_true rfl) ?_
  exact z_vret hx hb hr hP hK hD hS dX1_init_18 hlocks (⟨ar, rfl⟩)

set_option maxHeartbeats 4000000 in
set_option maxRecDepth 100000 in
theorem c_add (l : Launch) (hst : l.stackTraces = false) (g : zG) (ua ar cnt : Nat) (rows : Nat → Option Nat) (x1 x2 x3 x4 x5 x6 x7 : Int32) (hcnt : cnt ≤ 6) : zXi l yX1_add wsX1_add ({ frames := 7, cells := 11, slots := 301, locals := 125 } : Room) [.ref ua, .int x1, .int x2, .int x3, .int x4, .int x5, .int x6, .int x7] g [(ua, .inr (1, [.ref ar, .int (nI cnt)])), (ar, .inl (g.2.2.1, 6, .inr (.inr (.inr (.inr rows)))))] (fun q w => ((nI 1 ≤ x1 ∧ x1 ≤ nI 60) ∧ ((nI 1 ≤ x2 ∧ x2 ≤ nI 10000) ∧ ((nI 0 ≤ x3 ∧ x3 ≤ nI 12) ∧ ((nI 0 ≤ x4 ∧ x4 ≤ nI 1000) ∧ ((nI 0 ≤ x5 ∧ x5 ≤ nI 20000) ∧ ((nI 1 ≤ x6 ∧ x6 ≤ nI 120) ∧ (nI 0 ≤ x7 ∧ x7 ≤ nI 10000))))))) ∧ (cnt < 6) ∧ q = nI cnt ∧ ∃ (h pa da : Nat) (q' : zRaw), w = [(ua, .inr (1, [.ref ar, .int (nI (cnt + 1))])), (ar, .inl (g.2.2.1, 6, .inr (.inr (.inr (.inr (va_up rows cnt (some h)))))))] ++ zLW g (h, pa, da) (zN x5) (zN x6) (zNew (zN x1) (zN x2) (zN x3) (zN x4) (zN x5) (zN x7)) q' ∧ zCR (zN x5) (zNew (zN x1) (zN x2) (zN x3) (zN x4) (zN x5) (zN x7)) q') (fun E => (E = "java/lang/IllegalArgumentException" ∧ ¬ ((nI 1 ≤ x1 ∧ x1 ≤ nI 60) ∧ ((nI 1 ≤ x2 ∧ x2 ≤ nI 10000) ∧ ((nI 0 ≤ x3 ∧ x3 ≤ nI 12) ∧ ((nI 0 ≤ x4 ∧ x4 ≤ nI 1000) ∧ ((nI 0 ≤ x5 ∧ x5 ≤ nI 20000) ∧ ((nI 1 ≤ x6 ∧ x6 ≤ nI 120) ∧ (nI 0 ≤ x7 ∧ x7 ≤ nI 10000)))))))) ∨ (E = "java/lang/IllegalStateException" ∧ ((nI 1 ≤ x1 ∧ x1 ≤ nI 60) ∧ ((nI 1 ≤ x2 ∧ x2 ≤ nI 10000) ∧ ((nI 0 ≤ x3 ∧ x3 ≤ nI 12) ∧ ((nI 0 ≤ x4 ∧ x4 ≤ nI 1000) ∧ ((nI 0 ≤ x5 ∧ x5 ≤ nI 20000) ∧ ((nI 1 ≤ x6 ∧ x6 ≤ nI 120) ∧ (nI 0 ≤ x7 ∧ x7 ≤ nI 10000))))))) ∧ ¬ (cnt < 6))) 11 301 := by
  intro sz A hAe
  refine vx_ofW (cc := cX1_add) (maxL := 9) (ret := some .int) (by decide) rfl ?_
  intro p e s m args below meth c s₁ B hml hout hv
  obtain ⟨rfl, ⟨hsz, hP, hK, hD0⟩, hX⟩ := hv
  have hx := B.exec
  have hb := B.bytes
  have hr := B.returns
  have hts := atoms_spec (ws := wsX1_add) B.pre
  have hown : s.vm.findClass RX1 = some m.cls := findClass_of_methodNamed B.named
  have hlocks := B.notSynchronized
  obtain ⟨hD, hA, hS⟩ := z_in hsz hAe hD0
  have hl := lv_entry ([.ref ua, .int x1, .int x2, .int x3, .int x4, .int x5, .int x6, .int x7]) (n := 9) (Nat.le_of_ble_eq_true rfl)
  rw [lg_entry_eq]
  generalize (lg_sl ([.ref ua, .int x1, .int x2, .int x3, .int x4, .int x5, .int x6, .int x7]) ++ List.replicate (9 - (lg_sl ([.ref ua, .int x1, .int x2, .int x3, .int x4, .int x5, .int x6, .int x7])).length) Slot.unset).toArray = ls at hl ⊢
  have hl : lv_has ls 9 [(0, .ref ua), (1, .int x1), (2, .int x2), (3, .int x3), (4, .int x4), (5, .int x5), (6, .int x6), (7, .int x7)] := hl
  have hinX0 : ∀ w ∈ wsX00, w ∈ wsX1_add := by decide +kernel
  have hinX1 : ∀ w ∈ wsX10, w ∈ wsX1_add := by decide +kernel
  refine lv_iload_n hx hb dX1_add_0 rfl (lv_at hl 1 rfl) ?_
  refine lv_iconst (v := nI 1) hx hb dX1_add_1 (by decide) ?_
  refine lv_bipush (v := nI 60) hx hb dX1_add_2 (by decide) ?_
  refine z_axv (wa := []) (wc := []) (wb := [(ua, .inr (1, [.ref ar, .int (nI cnt)])), (ar, .inl (g.2.2.1, 6, .inr (.inr (.inr (.inr rows)))))]) (vx_runS (As := [.int x1, .int (nI 1), .int (nI 60)]) (rest := []) ⟨hx, hb, hml, hown, hts⟩ (c_mustBeWithin l hst g x1 (nI 1) (nI 60) s.heap.size _ rfl) (va_cwS 3 hts gX1_add_X1_mustBeWithin rfl rfl rfl (by decide +kernel) ⟨Nat.le_of_ble_eq_true rfl, Nat.le_of_ble_eq_true rfl⟩) (zpreXS (wa := []) (wc := []) (wb := [(ua, .inr (1, [.ref ar, .int (nI cnt)])), (ar, .inl (g.2.2.1, 6, .inr (.inr (.inr (.inr rows)))))]) hK hP hD hS hA hX) rfl rfl hl.1 rfl (lv_room (Nat.le_of_ble_eq_true rfl)) dX1_add_4 ⟨Nat.le_of_ble_eq_true rfl, Nat.le_of_ble_eq_true rfl⟩) hP hD hS hA (fun E ce q9 H locs hE hP hD hS hc1 hc2 hc3 => ?_) (fun w1 H locs hq hP hD hS => ?_)
  · exact z_out hout hP hK hD hS hlocks hc1 hc2 hc3 (Or.inl ⟨hE.1, fun z => hE.2 z.1⟩) (Nat.le_of_ble_eq_true rfl) (Nat.le_of_ble_eq_true rfl)
  · obtain ⟨hr1, rfl⟩ := hq
    have hP : va_P g.1 vwCl [(ua, .inr (1, [.ref ar, .int (nI cnt)])), (ar, .inl (g.2.2.1, 6, .inr (.inr (.inr (.inr rows)))))] H := hP
    have hD : va_D A [(ua, .inr (1, [.ref ar, .int (nI cnt)])), (ar, .inl (g.2.2.1, 6, .inr (.inr (.inr (.inr rows)))))] := hD
    refine lv_iload_n hx hb dX1_add_7 rfl (lv_at hl 2 rfl) ?_
    refine lv_iconst (v := nI 1) hx hb dX1_add_8 (by decide) ?_
    refine lv_sipush (v := nI 10000) hx hb dX1_add_9 (by decide) ?_
    refine z_axv (wa := []) (wc := []) (wb := [(ua, .inr (1, [.ref ar, .int (nI cnt)])), (ar, .inl (g.2.2.1, 6, .inr (.inr (.inr (.inr rows)))))]) (vx_runS (As := [.int x2, .int (nI 1), .int (nI 10000)]) (rest := []) ⟨hx, hb, hml, hown, hts⟩ (c_mustBeWithin l hst g x2 (nI 1) (nI 10000) H.size _ rfl) (va_cwS 3 hts gX1_add_X1_mustBeWithin rfl rfl rfl (by decide +kernel) ⟨Nat.le_of_ble_eq_true rfl, Nat.le_of_ble_eq_true rfl⟩) (zpreXS (wa := []) (wc := []) (wb := [(ua, .inr (1, [.ref ar, .int (nI cnt)])), (ar, .inl (g.2.2.1, 6, .inr (.inr (.inr (.inr rows)))))]) hK hP hD hS hA hX) rfl rfl hl.1 rfl (lv_room (Nat.le_of_ble_eq_true rfl)) dX1_add_12 ⟨Nat.le_of_ble_eq_true rfl, Nat.le_of_ble_eq_true rfl⟩) hP hD hS hA (fun E ce q9 H locs hE hP hD hS hc1 hc2 hc3 => ?_) (fun w1 H locs hq hP hD hS => ?_)
    · exact z_out hout hP hK hD hS hlocks hc1 hc2 hc3 (Or.inl ⟨hE.1, fun z => hE.2 z.2.1⟩) (Nat.le_of_ble_eq_true rfl) (Nat.le_of_ble_eq_true rfl)
    · obtain ⟨hr2, rfl⟩ := hq
      have hP : va_P g.1 vwCl [(ua, .inr (1, [.ref ar, .int (nI cnt)])), (ar, .inl (g.2.2.1, 6, .inr (.inr (.inr (.inr rows)))))] H := hP
      have hD : va_D A [(ua, .inr (1, [.ref ar, .int (nI cnt)])), (ar, .inl (g.2.2.1, 6, .inr (.inr (.inr (.inr rows)))))] := hD
      refine lv_iload_n hx hb dX1_add_15 rfl (lv_at hl 3 rfl) ?_
      refine lv_iconst (v := nI 0) hx hb dX1_add_16 (by decide) ?_
      refine lv_bipush (v := nI 12) hx hb dX1_add_17 (by decide) ?_
      refine z_axv (wa := []) (wc := []) (wb := [(ua, .inr (1, [.ref ar, .int (nI cnt)])), (ar, .inl (g.2.2.1, 6, .inr (.inr (.inr (.inr rows)))))]) (vx_runS (As := [.int x3, .int (nI 0), .int (nI 12)]) (rest := []) ⟨hx, hb, hml, hown, hts⟩ (c_mustBeWithin l hst g x3 (nI 0) (nI 12) H.size _ rfl) (va_cwS 3 hts gX1_add_X1_mustBeWithin rfl rfl rfl (by decide +kernel) ⟨Nat.le_of_ble_eq_true rfl, Nat.le_of_ble_eq_true rfl⟩) (zpreXS (wa := []) (wc := []) (wb := [(ua, .inr (1, [.ref ar, .int (nI cnt)])), (ar, .inl (g.2.2.1, 6, .inr (.inr (.inr (.inr rows)))))]) hK hP hD hS hA hX) rfl rfl hl.1 rfl (lv_room (Nat.le_of_ble_eq_true rfl)) dX1_add_19 ⟨Nat.le_of_ble_eq_true rfl, Nat.le_of_ble_eq_true rfl⟩) hP hD hS hA (fun E ce q9 H locs hE hP hD hS hc1 hc2 hc3 => ?_) (fun w1 H locs hq hP hD hS => ?_)
      · exact z_out hout hP hK hD hS hlocks hc1 hc2 hc3 (Or.inl ⟨hE.1, fun z => hE.2 z.2.2.1⟩) (Nat.le_of_ble_eq_true rfl) (Nat.le_of_ble_eq_true rfl)
      · obtain ⟨hr3, rfl⟩ := hq
        have hP : va_P g.1 vwCl [(ua, .inr (1, [.ref ar, .int (nI cnt)])), (ar, .inl (g.2.2.1, 6, .inr (.inr (.inr (.inr rows)))))] H := hP
        have hD : va_D A [(ua, .inr (1, [.ref ar, .int (nI cnt)])), (ar, .inl (g.2.2.1, 6, .inr (.inr (.inr (.inr rows)))))] := hD
        refine lv_iload hx hb dX1_add_22 (lv_at hl 4 rfl) ?_
        refine lv_iconst (v := nI 0) hx hb dX1_add_24 (by decide) ?_
        refine lv_sipush (v := nI 1000) hx hb dX1_add_25 (by decide) ?_
        refine z_axv (wa := []) (wc := []) (wb := [(ua, .inr (1, [.ref ar, .int (nI cnt)])), (ar, .inl (g.2.2.1, 6, .inr (.inr (.inr (.inr rows)))))]) (vx_runS (As := [.int x4, .int (nI 0), .int (nI 1000)]) (rest := []) ⟨hx, hb, hml, hown, hts⟩ (c_mustBeWithin l hst g x4 (nI 0) (nI 1000) H.size _ rfl) (va_cwS 3 hts gX1_add_X1_mustBeWithin rfl rfl rfl (by decide +kernel) ⟨Nat.le_of_ble_eq_true rfl, Nat.le_of_ble_eq_true rfl⟩) (zpreXS (wa := []) (wc := []) (wb := [(ua, .inr (1, [.ref ar, .int (nI cnt)])), (ar, .inl (g.2.2.1, 6, .inr (.inr (.inr (.inr rows)))))]) hK hP hD hS hA hX) rfl rfl hl.1 rfl (lv_room (Nat.le_of_ble_eq_true rfl)) dX1_add_28 ⟨Nat.le_of_ble_eq_true rfl, Nat.le_of_ble_eq_true rfl⟩) hP hD hS hA (fun E ce q9 H locs hE hP hD hS hc1 hc2 hc3 => ?_) (fun w1 H locs hq hP hD hS => ?_)
        · exact z_out hout hP hK hD hS hlocks hc1 hc2 hc3 (Or.inl ⟨hE.1, fun z => hE.2 z.2.2.2.1⟩) (Nat.le_of_ble_eq_true rfl) (Nat.le_of_ble_eq_true rfl)
        · obtain ⟨hr4, rfl⟩ := hq
          have hP : va_P g.1 vwCl [(ua, .inr (1, [.ref ar, .int (nI cnt)])), (ar, .inl (g.2.2.1, 6, .inr (.inr (.inr (.inr rows)))))] H := hP
          have hD : va_D A [(ua, .inr (1, [.ref ar, .int (nI cnt)])), (ar, .inl (g.2.2.1, 6, .inr (.inr (.inr (.inr rows)))))] := hD
          refine lv_iload hx hb dX1_add_31 (lv_at hl 5 rfl) ?_
          refine lv_iconst (v := nI 0) hx hb dX1_add_33 (by decide) ?_
          refine lv_sipush (v := nI 20000) hx hb dX1_add_34 (by decide) ?_
          refine z_axv (wa := []) (wc := []) (wb := [(ua, .inr (1, [.ref ar, .int (nI cnt)])), (ar, .inl (g.2.2.1, 6, .inr (.inr (.inr (.inr rows)))))]) (vx_runS (As := [.int x5, .int (nI 0), .int (nI 20000)]) (rest := []) ⟨hx, hb, hml, hown, hts⟩ (c_mustBeWithin l hst g x5 (nI 0) (nI 20000) H.size _ rfl) (va_cwS 3 hts gX1_add_X1_mustBeWithin rfl rfl rfl (by decide +kernel) ⟨Nat.le_of_ble_eq_true rfl, Nat.le_of_ble_eq_true rfl⟩) (zpreXS (wa := []) (wc := []) (wb := [(ua, .inr (1, [.ref ar, .int (nI cnt)])), (ar, .inl (g.2.2.1, 6, .inr (.inr (.inr (.inr rows)))))]) hK hP hD hS hA hX) rfl rfl hl.1 rfl (lv_room (Nat.le_of_ble_eq_true rfl)) dX1_add_37 ⟨Nat.le_of_ble_eq_true rfl, Nat.le_of_ble_eq_true rfl⟩) hP hD hS hA (fun E ce q9 H locs hE hP hD hS hc1 hc2 hc3 => ?_) (fun w1 H locs hq hP hD hS => ?_)
          · exact z_out hout hP hK hD hS hlocks hc1 hc2 hc3 (Or.inl ⟨hE.1, fun z => hE.2 z.2.2.2.2.1⟩) (Nat.le_of_ble_eq_true rfl) (Nat.le_of_ble_eq_true rfl)
          · obtain ⟨hr5, rfl⟩ := hq
            have hP : va_P g.1 vwCl [(ua, .inr (1, [.ref ar, .int (nI cnt)])), (ar, .inl (g.2.2.1, 6, .inr (.inr (.inr (.inr rows)))))] H := hP
            have hD : va_D A [(ua, .inr (1, [.ref ar, .int (nI cnt)])), (ar, .inl (g.2.2.1, 6, .inr (.inr (.inr (.inr rows)))))] := hD
            refine lv_iload hx hb dX1_add_40 (lv_at hl 6 rfl) ?_
            refine lv_iconst (v := nI 1) hx hb dX1_add_42 (by decide) ?_
            refine lv_bipush (v := nI 120) hx hb dX1_add_43 (by decide) ?_
            refine z_axv (wa := []) (wc := []) (wb := [(ua, .inr (1, [.ref ar, .int (nI cnt)])), (ar, .inl (g.2.2.1, 6, .inr (.inr (.inr (.inr rows)))))]) (vx_runS (As := [.int x6, .int (nI 1), .int (nI 120)]) (rest := []) ⟨hx, hb, hml, hown, hts⟩ (c_mustBeWithin l hst g x6 (nI 1) (nI 120) H.size _ rfl) (va_cwS 3 hts gX1_add_X1_mustBeWithin rfl rfl rfl (by decide +kernel) ⟨Nat.le_of_ble_eq_true rfl, Nat.le_of_ble_eq_true rfl⟩) (zpreXS (wa := []) (wc := []) (wb := [(ua, .inr (1, [.ref ar, .int (nI cnt)])), (ar, .inl (g.2.2.1, 6, .inr (.inr (.inr (.inr rows)))))]) hK hP hD hS hA hX) rfl rfl hl.1 rfl (lv_room (Nat.le_of_ble_eq_true rfl)) dX1_add_45 ⟨Nat.le_of_ble_eq_true rfl, Nat.le_of_ble_eq_true rfl⟩) hP hD hS hA (fun E ce q9 H locs hE hP hD hS hc1 hc2 hc3 => ?_) (fun w1 H locs hq hP hD hS => ?_)
            · exact z_out hout hP hK hD hS hlocks hc1 hc2 hc3 (Or.inl ⟨hE.1, fun z => hE.2 z.2.2.2.2.2.1⟩) (Nat.le_of_ble_eq_true rfl) (Nat.le_of_ble_eq_true rfl)
            · obtain ⟨hr6, rfl⟩ := hq
              have hP : va_P g.1 vwCl [(ua, .inr (1, [.ref ar, .int (nI cnt)])), (ar, .inl (g.2.2.1, 6, .inr (.inr (.inr (.inr rows)))))] H := hP
              have hD : va_D A [(ua, .inr (1, [.ref ar, .int (nI cnt)])), (ar, .inl (g.2.2.1, 6, .inr (.inr (.inr (.inr rows)))))] := hD
              refine lv_iload hx hb dX1_add_48 (lv_at hl 7 rfl) ?_
              refine lv_iconst (v := nI 0) hx hb dX1_add_50 (by decide) ?_
              refine lv_sipush (v := nI 10000) hx hb dX1_add_51 (by decide) ?_
              refine z_axv (wa := []) (wc := []) (wb := [(ua, .inr (1, [.ref ar, .int (nI cnt)])), (ar, .inl (g.2.2.1, 6, .inr (.inr (.inr (.inr rows)))))]) (vx_runS (As := [.int x7, .int (nI 0), .int (nI 10000)]) (rest := []) ⟨hx, hb, hml, hown, hts⟩ (c_mustBeWithin l hst g x7 (nI 0) (nI 10000) H.size _ rfl) (va_cwS 3 hts gX1_add_X1_mustBeWithin rfl rfl rfl (by decide +kernel) ⟨Nat.le_of_ble_eq_true rfl, Nat.le_of_ble_eq_true rfl⟩) (zpreXS (wa := []) (wc := []) (wb := [(ua, .inr (1, [.ref ar, .int (nI cnt)])), (ar, .inl (g.2.2.1, 6, .inr (.inr (.inr (.inr rows)))))]) hK hP hD hS hA hX) rfl rfl hl.1 rfl (lv_room (Nat.le_of_ble_eq_true rfl)) dX1_add_54 ⟨Nat.le_of_ble_eq_true rfl, Nat.le_of_ble_eq_true rfl⟩) hP hD hS hA (fun E ce q9 H locs hE hP hD hS hc1 hc2 hc3 => ?_) (fun w1 H locs hq hP hD hS => ?_)
              · exact z_out hout hP hK hD hS hlocks hc1 hc2 hc3 (Or.inl ⟨hE.1, fun z => hE.2 z.2.2.2.2.2.2⟩) (Nat.le_of_ble_eq_true rfl) (Nat.le_of_ble_eq_true rfl)
              · obtain ⟨hr7, rfl⟩ := hq
                have hP : va_P g.1 vwCl [(ua, .inr (1, [.ref ar, .int (nI cnt)])), (ar, .inl (g.2.2.1, 6, .inr (.inr (.inr (.inr rows)))))] H := hP
                have hD : va_D A [(ua, .inr (1, [.ref ar, .int (nI cnt)])), (ar, .inl (g.2.2.1, 6, .inr (.inr (.inr (.inr rows)))))] := hD
                have hrng : ((nI 1 ≤ x1 ∧ x1 ≤ nI 60) ∧ ((nI 1 ≤ x2 ∧ x2 ≤ nI 10000) ∧ ((nI 0 ≤ x3 ∧ x3 ≤ nI 12) ∧ ((nI 0 ≤ x4 ∧ x4 ≤ nI 1000) ∧ ((nI 0 ≤ x5 ∧ x5 ≤ nI 20000) ∧ ((nI 1 ≤ x6 ∧ x6 ≤ nI 120) ∧ (nI 0 ≤ x7 ∧ x7 ≤ nI 10000))))))) := ⟨hr1, hr2, hr3, hr4, hr5, hr6, hr7⟩
                obtain ⟨e1, h11, h12⟩ := zN_in (by decide) (by decide) hr1
                obtain ⟨e2, h21, h22⟩ := zN_in (by decide) (by decide) hr2
                obtain ⟨e3, h31, h32⟩ := zN_in (by decide) (by decide) hr3
                obtain ⟨e4, h41, h42⟩ := zN_in (by decide) (by decide) hr4
                obtain ⟨e5, h51, h52⟩ := zN_in (by decide) (by decide) hr5
                obtain ⟨e6, h61, h62⟩ := zN_in (by decide) (by decide) hr6
                obtain ⟨e7, h71, h72⟩ := zN_in (by decide) (by decide) hr7
                refine lv_aload_n hx hb dX1_add_57 rfl (lv_at hl 0 rfl) ?_
                refine va_get (D := g.1) (ci := 1) (v := .int (nI cnt)) (C := RX1) (T := TX1) (N := 2) hx hb hts hinX1 hown hK hP 0 rfl rfl 1 (by decide) (hts (.fieldLink RX1 15 "Usewise" "count" "I") (by decide +kernel)) (fun _ h9 => h9) rfl dX1_add_58 ?_
                refine lv_istore (lv' := [(8, .int (nI cnt)), (0, .ref ua), (1, .int x1), (2, .int x2), (3, .int x3), (4, .int x4), (5, .int x5), (6, .int x6), (7, .int x7)]) hx hb dX1_add_61 hl (by decide) rfl (fun ls hl => ?_)
                refine lv_iload hx hb dX1_add_63 (lv_at hl 0 rfl) ?_
                refine z_if_lt (tgt := 78) hx hb dX1_add_65 (by decide) (by omega) (fun hc => ?_) (fun hc => ?_)
                · exact hc.elim
                · refine lv_iload hx hb dX1_add_68 (lv_at hl 0 rfl) ?_
                  refine lv_aload_n hx hb dX1_add_70 rfl (lv_at hl 1 rfl) ?_
                  refine va_get (D := g.1) (ci := 1) (v := .ref ar) (C := RX1) (T := TX1) (N := 2) hx hb hts hinX1 hown hK hP 0 rfl rfl 0 (by decide) (hts (.fieldLink RX1 11 "Usewise" "leases" "[LUsewise$Lease;") (by decide +kernel)) (fun _ h9 => h9) rfl dX1_add_71 ?_
                  refine va_alen (v := nI 6) hx hb hK hP 1 1 rfl rfl rfl dX1_add_74 ?_
                  refine z_icmp_lt (tgt := 88) hx hb dX1_add_75 (by decide) (by omega) (by omega) (fun hd => ?_) (fun hd => ?_)
                  · refine lv_aload_n hx hb dX1_add_88 rfl (lv_at hl 1 rfl) ?_
                    refine va_get (D := g.1) (ci := 1) (v := .ref ar) (C := RX1) (T := TX1) (N := 2) hx hb hts hinX1 hown hK hP 0 rfl rfl 0 (by decide) (hts (.fieldLink RX1 11 "Usewise" "leases" "[LUsewise$Lease;") (by decide +kernel)) (fun _ h9 => h9) rfl dX1_add_89 ?_
                    refine lv_iload hx hb dX1_add_92 (lv_at hl 0 rfl) ?_
                    refine va_new (ci := 0) (fs := [.int (nI 0), .int (nI 0), .null, .null, .int (nI 0), .int (nI 0), .long (lN 0), .long (lN 0), .long (lN 0), .long (lN 0), .long (lN 0)]) (C := RX0) (T := TX0) (N := 11) hx hb hts hinX0 tyX0 tyX0_ok hown (hts (.classLink RX1 9 RX0) (by decide +kernel)) (hts (.instantiable RX0 11) (by decide +kernel)) (hts (.initialized RX0) (by decide +kernel)) hK hP hD hS hA rfl (fun j hj => by rcases (show j = 0 ∨ j = 1 ∨ j = 2 ∨ j = 3 ∨ j = 4 ∨ j = 5 ∨ j = 6 ∨ j = 7 ∨ j = 8 ∨ j = 9 ∨ j = 10 by omega) with rfl | rfl | rfl | rfl | rfl | rfl | rfl | rfl | rfl | rfl | rfl <;> rfl) (Nat.le_of_ble_eq_true rfl) (Nat.le_of_ble_eq_true rfl) dX1_add_94 (fun h H hP hD hS => ?_)
                    have hP : va_P g.1 vwCl [(ua, .inr (1, [.ref ar, .int (nI cnt)])), (ar, .inl (g.2.2.1, 6, .inr (.inr (.inr (.inr rows))))), (h, .inr (0, [.int (nI 0), .int (nI 0), .null, .null, .int (nI 0), .int (nI 0), .long (lN 0), .long (lN 0), .long (lN 0), .long (lN 0), .long (lN 0)]))] H := hP
                    have hD : va_D A [(ua, .inr (1, [.ref ar, .int (nI cnt)])), (ar, .inl (g.2.2.1, 6, .inr (.inr (.inr (.inr rows))))), (h, .inr (0, [.int (nI 0), .int (nI 0), .null, .null, .int (nI 0), .int (nI 0), .long (lN 0), .long (lN 0), .long (lN 0), .long (lN 0), .long (lN 0)]))] := hD
                    refine lv_dup hx hb dX1_add_97 rfl ?_
                    refine lv_iload_n hx hb dX1_add_98 rfl (lv_at hl 2 rfl) ?_
                    refine zi (y := nI (zN x1)) (e1) ?_
                    refine lv_iload_n hx hb dX1_add_99 rfl (lv_at hl 3 rfl) ?_
                    refine zi (y := nI (zN x2)) (e2) ?_
                    refine lv_iload_n hx hb dX1_add_100 rfl (lv_at hl 4 rfl) ?_
                    refine zi (y := nI (zN x3)) (e3) ?_
                    refine lv_iload hx hb dX1_add_101 (lv_at hl 5 rfl) ?_
                    refine zi (y := nI (zN x4)) (e4) ?_
                    refine lv_iload hx hb dX1_add_103 (lv_at hl 6 rfl) ?_
                    refine zi (y := nI (zN x5)) (e5) ?_
                    refine lv_iload hx hb dX1_add_105 (lv_at hl 7 rfl) ?_
                    refine zi (y := nI (zN x6)) (e6) ?_
                    refine lv_iload hx hb dX1_add_107 (lv_at hl 8 rfl) ?_
                    refine zi (y := nI (zN x7)) (e7) ?_
                    refine z_av (wa := [(ua, .inr (1, [.ref ar, .int (nI cnt)])), (ar, .inl (g.2.2.1, 6, .inr (.inr (.inr (.inr rows)))))]) (wc := [(h, .inr (0, [.int (nI 0), .int (nI 0), .null, .null, .int (nI 0), .int (nI 0), .long (lN 0), .long (lN 0), .long (lN 0), .long (lN 0), .long (lN 0)]))]) (wb := []) (va_runI (As := [.int (nI (zN x1)), .int (nI (zN x2)), .int (nI (zN x3)), .int (nI (zN x4)), .int (nI (zN x5)), .int (nI (zN x6)), .int (nI (zN x7))]) (rest := [.ref h, .int (nI cnt), .ref ar]) ⟨hx, hb, hml, hown, hts⟩ (c_LeaseInit l g h (zN x1) (zN x2) (zN x3) (zN x4) (zN x5) (zN x6) (zN x7) ⟨h11, h12⟩ h22 h32 h42 h52 h62 h72 H.size _ rfl) (cwI 7 hts gX1_add_X0_init rfl rfl rfl (hts (.initialized RX0) (by decide +kernel)) (hts (.methodLink RX1 30 yX0_init) (by decide +kernel)) (hts (.instanceMethod yX0_init) (by decide +kernel)) rfl (by decide +kernel) ⟨Nat.le_of_ble_eq_true rfl, Nat.le_of_ble_eq_true rfl⟩) (zpreS (wa := [(ua, .inr (1, [.ref ar, .int (nI cnt)])), (ar, .inl (g.2.2.1, 6, .inr (.inr (.inr (.inr rows)))))]) (wc := [(h, .inr (0, [.int (nI 0), .int (nI 0), .null, .null, .int (nI 0), .int (nI 0), .long (lN 0), .long (lN 0), .long (lN 0), .long (lN 0), .long (lN 0)]))]) (wb := []) hK hP hD) rfl rfl hl.1 rfl (lv_room (Nat.le_of_ble_eq_true rfl)) dX1_add_109 ⟨Nat.le_of_ble_eq_true rfl, Nat.le_of_ble_eq_true rfl⟩) hP hD hS hA (fun w1 H locs hq hP hD hS => ?_)
                    obtain ⟨pa, da, q', rfl, hC⟩ := hq
                    have hP : va_P g.1 vwCl ([(ua, .inr (1, [.ref ar, .int (nI cnt)])), (ar, .inl (g.2.2.1, 6, .inr (.inr (.inr (.inr rows)))))] ++ (zLW g (h, pa, da) (zN x5) (zN x6) (zNew (zN x1) (zN x2) (zN x3) (zN x4) (zN x5) (zN x7)) q')) H := hP
                    have hD : va_D A ([(ua, .inr (1, [.ref ar, .int (nI cnt)])), (ar, .inl (g.2.2.1, 6, .inr (.inr (.inr (.inr rows)))))] ++ (zLW g (h, pa, da) (zN x5) (zN x6) (zNew (zN x1) (zN x2) (zN x3) (zN x4) (zN x5) (zN x7)) q')) := hD
                    refine z_aast hx hb hK hP hD hS 1 1 2 0 rfl rfl rfl rfl hd (by decide) dX1_add_112 (fun H locs hP hD hS => ?_)
                    have hP : va_P g.1 vwCl ([(ua, .inr (1, [.ref ar, .int (nI cnt)])), (ar, .inl (g.2.2.1, 6, .inr (.inr (.inr (.inr (va_up rows cnt (some h)))))))] ++ (zLW g (h, pa, da) (zN x5) (zN x6) (zNew (zN x1) (zN x2) (zN x3) (zN x4) (zN x5) (zN x7)) q')) H := hP
                    have hD : va_D A ([(ua, .inr (1, [.ref ar, .int (nI cnt)])), (ar, .inl (g.2.2.1, 6, .inr (.inr (.inr (.inr (va_up rows cnt (some h)))))))] ++ (zLW g (h, pa, da) (zN x5) (zN x6) (zNew (zN x1) (zN x2) (zN x3) (zN x4) (zN x5) (zN x7)) q')) := hD
                    refine lv_aload_n hx hb dX1_add_113 rfl (lv_at hl 1 rfl) ?_
                    refine lv_iload hx hb dX1_add_114 (lv_at hl 0 rfl) ?_
                    refine lv_iconst (v := nI 1) hx hb dX1_add_116 (by decide) ?_
                    refine z_iadd hx hb dX1_add_117 ?_
                    refine va_put (D := g.1) (ci := 1) (v := .int (nI (cnt + 1))) (ty := .int) (C := RX1) (T := TX1) (N := 2) hx hb hts hinX1 tyX1 tyX1_ok nmX1 hown hK hP hD hS 0 rfl rfl 1 (by decide) (hts (.fieldLink RX1 15 "Usewise" "count" "I") (by decide +kernel)) (fun _ h9 => h9) rfl (by decide +kernel) rfl rfl (Nat.le_of_ble_eq_true rfl) dX1_add_118 (fun H locs hP hD hS => ?_)
                    have hP : va_P g.1 vwCl ([(ua, .inr (1, [.ref ar, .int (nI (cnt + 1))])), (ar, .inl (g.2.2.1, 6, .inr (.inr (.inr (.inr (va_up rows cnt (some h)))))))] ++ (zLW g (h, pa, da) (zN x5) (zN x6) (zNew (zN x1) (zN x2) (zN x3) (zN x4) (zN x5) (zN x7)) q')) H := hP
                    have hD : va_D A ([(ua, .inr (1, [.ref ar, .int (nI (cnt + 1))])), (ar, .inl (g.2.2.1, 6, .inr (.inr (.inr (.inr (va_up rows cnt (some h)))))))] ++ (zLW g (h, pa, da) (zN x5) (zN x6) (zNew (zN x1) (zN x2) (zN x3) (zN x4) (zN x5) (zN x7)) q')) := hD
                    refine lv_iload hx hb dX1_add_121 (lv_at hl 0 rfl) ?_
                    refine W.widen (k := 11) (n := 301) (Nat.le_of_ble_eq_true rfl) (Nat.le_of_ble_eq_true rfl) ?_
                    exact z_xiret hx hb hr hP hK hD hS dX1_add_123 hlocks (⟨hrng, hd, rfl, h, pa, da, q', rfl, hC⟩)
                  · exact z_throw (text := "there are as many leases as there can be") (Ts := wsX1_add) hx hb hst hown (by decide +kernel) hts (by decide +kernel) (by decide +kernel) (by decide +kernel) zbw_ISE zot_ISE_23 (by decide +kernel) hX hA hP hK hD hS (hl.1.trans hml.symm) dX1_add_78 dX1_add_81 dX1_add_82 dX1_add_84 dX1_add_87 hout (Nat.le_of_ble_eq_true rfl) (Nat.le_of_ble_eq_true rfl) (Nat.le_of_ble_eq_true rfl) (Nat.le_of_ble_eq_true rfl) hlocks (Or.inr ⟨rfl, hrng, by omega⟩) (Nat.le_of_ble_eq_true rfl) (Nat.le_of_ble_eq_true rfl)
end
section
/-! the class Usewise: months pass -/
/-- the cells of the first n leases -/
def zLs (g : zG) (n : Nat) (aa : Nat → Nat × Nat × Nat) (rr ff : Nat → Nat) (zz : Nat → zS) (qq : Nat → zRaw) : va_W := (List.range n).flatMap fun k => zLW g (aa k) (rr k) (ff k) (zz k) (qq k)
/-- .. of those from lo on -/
def zLt (g : zG) (lo n : Nat) (aa : Nat → Nat × Nat × Nat) (rr ff : Nat → Nat) (zz : Nat → zS) (qq : Nat → zRaw) : va_W := (List.range' lo n).flatMap fun k => zLW g (aa k) (rr k) (ff k) (zz k) (qq k)
theorem z_flat {α β : Type} {f f' : α → List β} {l : List α} (h : ∀ x ∈ l, f x = f' x) : l.flatMap f = l.flatMap f' := by
  induction l with
  | nil => rfl
  | cons a t ih => rw [List.flatMap_cons, List.flatMap_cons, h a (by simp), ih (fun x hx => h x (by simp [hx]))]
theorem zLs_s (g : zG) (n : Nat) (aa : Nat → Nat × Nat × Nat) (rr ff : Nat → Nat) (zz : Nat → zS) (qq : Nat → zRaw) : zLs g (n + 1) aa rr ff zz qq = zLs g n aa rr ff zz qq ++ zLW g (aa n) (rr n) (ff n) (zz n) (qq n) := by
  unfold zLs
  rw [List.range_succ, List.flatMap_append, List.flatMap_cons, List.flatMap_nil, List.append_nil]
theorem zLs_at {g : zG} {n i : Nat} {aa : Nat → Nat × Nat × Nat} {rr ff : Nat → Nat} {zz : Nat → zS} {qq : Nat → zRaw} (hi : i < n) (X : va_W) : X ++ zLs g n aa rr ff zz qq = (X ++ zLs g i aa rr ff zz qq) ++ zLW g (aa i) (rr i) (ff i) (zz i) (qq i) ++ zLt g (i + 1) (n - (i + 1)) aa rr ff zz qq := by
  have e : List.range n = (List.range i ++ [i]) ++ List.range' (i + 1) (n - (i + 1)) := by
    have e2 := List.range'_append_1 (s := 0) (m := i + 1) (n := n - (i + 1))
    rw [Nat.zero_add, show i + 1 + (n - (i + 1)) = n by omega] at e2
    rw [← List.range_succ, List.range_eq_range', List.range_eq_range', e2]
  unfold zLs zLt
  rw [e, List.flatMap_append, List.flatMap_append, List.flatMap_cons, List.flatMap_nil, List.append_nil]
  simp only [List.append_assoc]
theorem zLs_put {g : zG} {n i : Nat} {aa : Nat → Nat × Nat × Nat} {rr ff : Nat → Nat} {zz : Nat → zS} {qq : Nat → zRaw} (hi : i < n) (X : va_W) (z' : zS) (q' : zRaw) : (X ++ zLs g i aa rr ff zz qq) ++ zLW g (aa i) (rr i) (ff i) z' q' ++ zLt g (i + 1) (n - (i + 1)) aa rr ff zz qq = X ++ zLs g n aa rr ff (va_up zz i z') (va_up qq i q') := by
  rw [zLs_at hi X, va_up_self, va_up_self]
  have e1 : zLs g i aa rr ff (va_up zz i z') (va_up qq i q') = zLs g i aa rr ff zz qq := z_flat fun k hk => by
    have := List.mem_range.mp hk
    rw [va_up_ne _ _ (by omega), va_up_ne _ _ (by omega)]
  have e2 : zLt g (i + 1) (n - (i + 1)) aa rr ff (va_up zz i z') (va_up qq i q') = zLt g (i + 1) (n - (i + 1)) aa rr ff zz qq := z_flat fun k hk => by
    have := List.mem_range'_1.mp hk
    rw [va_up_ne _ _ (by omega), va_up_ne _ _ (by omega)]
  rw [e1, e2]
theorem t_endsWithin (l : Launch) (g : zG) (a : Nat × Nat × Nat) (rt lf : Nat) (z : zS) (q : zRaw) (k0 : Nat) (hZ : zInv rt lf z) (hC : zCR rt z q) (hk0 : 1 ≤ k0 ∧ k0 ≤ 24) : zMi l yX0_endsWithin wsX0_endsWithin ({ frames := 3, cells := 0, slots := 0, locals := 70 } : Room) [.ref a.1, .int (nI k0)] g (zLW g a rt lf z q) (fun r w => (∃ q', w = zLW g a rt lf (zIt rt lf (min k0 (z.1 - z.2.1)) z) q' ∧ zCR rt (zIt rt lf (min k0 (z.1 - z.2.1)) z) q') ∧ ((0 < z.1 - z.2.1 ∧ z.1 - z.2.1 ≤ k0 ∧ r = nI 1) ∨ (¬ (0 < z.1 - z.2.1 ∧ z.1 - z.2.1 ≤ k0) ∧ r = nI 0))) 0 0 := by
  obtain ⟨h, pa, da⟩ := a
  obtain ⟨T, P, py, R0, I, Pd, Wn, G⟩ := z
  obtain ⟨xI, xP, xW, xG, u, v⟩ := q
  exact c_endsWithin l g h pa da rt lf T P R0 py I Pd Wn G xI xP xW xG u v k0 hZ hC hk0
/-- a lease behind n months -/
def zPs (rt lf n : Nat) (z : zS) : zS := zIt rt lf (min n (z.1 - z.2.1)) z
/-- how many of the first k are over in n months -/
def zOv (n : Nat) (zz : Nat → zS) : Nat → Nat
  | 0 => 0
  | k + 1 => zOv n zz k + if 0 < (zz k).1 - (zz k).2.1 ∧ (zz k).1 - (zz k).2.1 ≤ n then 1 else 0
theorem zOv_le (n : Nat) (zz : Nat → zS) : ∀ k, zOv n zz k ≤ k
  | 0 => Nat.le_refl _
  | k + 1 => by
    have := zOv_le n zz k
    unfold zOv
    split <;> omega
set_option maxHeartbeats 4000000 in
set_option maxRecDepth 100000 in
theorem c_pass (l : Launch) (hst : l.stackTraces = false) (g : zG) (ua ar cnt : Nat) (rows : Nat → Option Nat) (aa : Nat → Nat × Nat × Nat) (rr ff : Nat → Nat) (zz : Nat → zS) (qq : Nat → zRaw) (x1 : Int32) (hcnt : cnt ≤ 6) (hrow : ∀ k, k < cnt → rows k = some (aa k).1) (hnone : ∀ k, cnt ≤ k → k < 6 → rows k = none) (hZ : ∀ k, k < cnt → zInv (rr k) (ff k) (zz k)) (hC : ∀ k, k < cnt → zCR (rr k) (zz k) (qq k)) : zXi l yX1_pass wsX1_pass ({ frames := 7, cells := 1, slots := 6, locals := 125 } : Room) [.ref ua, .int x1] g ([(ua, .inr (1, [.ref ar, .int (nI cnt)])), (ar, .inl (g.2.2.1, 6, .inr (.inr (.inr (.inr rows)))))] ++ (zLs g cnt aa rr ff zz qq)) (fun q w => (nI 1 ≤ x1 ∧ x1 ≤ nI 24) ∧ q = nI (zOv (zN x1) zz cnt) ∧ ∃ qq', w = ([(ua, .inr (1, [.ref ar, .int (nI cnt)])), (ar, .inl (g.2.2.1, 6, .inr (.inr (.inr (.inr rows)))))] ++ (zLs g cnt aa rr ff (fun k => zPs (rr k) (ff k) (zN x1) (zz k)) qq')) ∧ ∀ k, k < cnt → zCR (rr k) ((fun k => zPs (rr k) (ff k) (zN x1) (zz k)) k) (qq' k)) (fun E => E = "java/lang/IllegalArgumentException" ∧ ¬ (nI 1 ≤ x1 ∧ x1 ≤ nI 24)) 1 6 := by
  intro sz A hAe
  refine vx_ofW (cc := cX1_pass) (maxL := 7) (ret := some .int) (by decide) rfl ?_
  intro p e s m args below meth c s₁ B hml hout hv
  obtain ⟨rfl, ⟨hsz, hP, hK, hD0⟩, hX⟩ := hv
  have hx := B.exec
  have hb := B.bytes
  have hr := B.returns
  have hts := atoms_spec (ws := wsX1_pass) B.pre
  have hown : s.vm.findClass RX1 = some m.cls := findClass_of_methodNamed B.named
  have hlocks := B.notSynchronized
  obtain ⟨hD, hA, hS⟩ := z_in hsz hAe hD0
  have hl := lv_entry ([.ref ua, .int x1]) (n := 7) (Nat.le_of_ble_eq_true rfl)
  rw [lg_entry_eq]
  generalize (lg_sl ([.ref ua, .int x1]) ++ List.replicate (7 - (lg_sl ([.ref ua, .int x1])).length) Slot.unset).toArray = ls at hl ⊢
  have hl : lv_has ls 7 [(0, .ref ua), (1, .int x1)] := hl
  have hinX1 : ∀ w ∈ wsX10, w ∈ wsX1_pass := by decide +kernel
  refine lv_iload_n hx hb dX1_pass_0 rfl (lv_at hl 1 rfl) ?_
  refine lv_iconst (v := nI 1) hx hb dX1_pass_1 (by decide) ?_
  refine lv_bipush (v := nI 24) hx hb dX1_pass_2 (by decide) ?_
  refine z_axv (wa := []) (wc := []) (wb := ([(ua, .inr (1, [.ref ar, .int (nI cnt)])), (ar, .inl (g.2.2.1, 6, .inr (.inr (.inr (.inr rows)))))] ++ (zLs g cnt aa rr ff zz qq))) (vx_runS (As := [.int x1, .int (nI 1), .int (nI 24)]) (rest := []) ⟨hx, hb, hml, hown, hts⟩ (c_mustBeWithin l hst g x1 (nI 1) (nI 24) s.heap.size _ rfl) (va_cwS 3 hts gX1_pass_X1_mustBeWithin rfl rfl rfl (by decide +kernel) ⟨Nat.le_of_ble_eq_true rfl, Nat.le_of_ble_eq_true rfl⟩) (zpreXS (wa := []) (wc := []) (wb := ([(ua, .inr (1, [.ref ar, .int (nI cnt)])), (ar, .inl (g.2.2.1, 6, .inr (.inr (.inr (.inr rows)))))] ++ (zLs g cnt aa rr ff zz qq))) hK hP hD hS hA hX) rfl rfl hl.1 rfl (lv_room (Nat.le_of_ble_eq_true rfl)) dX1_pass_4 ⟨Nat.le_of_ble_eq_true rfl, Nat.le_of_ble_eq_true rfl⟩) hP hD hS hA (fun E ce q9 H locs hE hP hD hS hc1 hc2 hc3 => ?_) (fun w1 H locs hq hP hD hS => ?_)
  · exact z_out hout hP hK hD hS hlocks hc1 hc2 hc3 hE (Nat.le_of_ble_eq_true rfl) (Nat.le_of_ble_eq_true rfl)
  · obtain ⟨hrng, rfl⟩ := hq
    have hP : va_P g.1 vwCl ([(ua, .inr (1, [.ref ar, .int (nI cnt)])), (ar, .inl (g.2.2.1, 6, .inr (.inr (.inr (.inr rows)))))] ++ (zLs g cnt aa rr ff zz qq)) H := hP
    have hD : va_D A ([(ua, .inr (1, [.ref ar, .int (nI cnt)])), (ar, .inl (g.2.2.1, 6, .inr (.inr (.inr (.inr rows)))))] ++ (zLs g cnt aa rr ff zz qq)) := hD
    obtain ⟨e1, h11, h12⟩ := zN_in (by decide) (by decide) hrng
    refine lv_iconst (v := nI 0) hx hb dX1_pass_7 (by decide) ?_
    refine lv_istore_n (lv' := [(2, .int (nI 0)), (0, .ref ua), (1, .int x1)]) hx hb dX1_pass_8 rfl hl (by decide) rfl (fun ls hl => ?_)
    refine lv_aload_n hx hb dX1_pass_9 rfl (lv_at hl 1 rfl) ?_
    refine va_get (D := g.1) (ci := 1) (v := .ref ar) (C := RX1) (T := TX1) (N := 2) hx hb hts hinX1 hown hK hP 0 rfl rfl 0 (by decide) (hts (.fieldLink RX1 11 "Usewise" "leases" "[LUsewise$Lease;") (by decide +kernel)) (fun _ h9 => h9) rfl dX1_pass_10 ?_
    refine lv_astore_n (lv' := [(3, .ref ar), (2, .int (nI 0)), (0, .ref ua), (1, .int x1)]) hx hb dX1_pass_13 rfl hl (by decide) rfl (fun ls hl => ?_)
    refine lv_aload_n hx hb dX1_pass_14 rfl (lv_at hl 0 rfl) ?_
    refine va_alen (v := nI 6) hx hb hK hP 1 1 rfl rfl rfl dX1_pass_15 ?_
    refine lv_istore (lv' := [(4, .int (nI 6)), (3, .ref ar), (2, .int (nI 0)), (0, .ref ua), (1, .int x1)]) hx hb dX1_pass_16 hl (by decide) rfl (fun ls hl => ?_)
    refine lv_iconst (v := nI 0) hx hb dX1_pass_18 (by decide) ?_
    refine lv_istore (lv' := [(5, .int (nI 0)), (4, .int (nI 6)), (3, .ref ar), (2, .int (nI 0)), (0, .ref ua), (1, .int x1)]) hx hb dX1_pass_19 hl (by decide) rfl (fun ls hl => ?_)
    have loop : ∀ (n : Nat) (i : Nat) (zz2 : Nat → zS) (qq2 : Nat → zRaw) (H : Heap) (locs : List Loc) (ls : Array Slot), 6 < i + n → i ≤ 6 → (∀ k, k < min i cnt → zz2 k = zPs (rr k) (ff k) (zN x1) (zz k)) → (∀ k, i ≤ k → zz2 k = zz k) → (∀ k, k < cnt → zCR (rr k) (zz2 k) (qq2 k)) → va_P g.1 vwCl ([(ua, .inr (1, [.ref ar, .int (nI cnt)])), (ar, .inl (g.2.2.1, 6, .inr (.inr (.inr (.inr rows)))))] ++ (zLs g cnt aa rr ff zz2 qq2)) H → va_D A ([(ua, .inr (1, [.ref ar, .int (nI cnt)])), (ar, .inl (g.2.2.1, 6, .inr (.inr (.inr (.inr rows)))))] ++ (zLs g cnt aa rr ff zz2 qq2)) → va_S A s.heap H locs → lv_has ls 7 [(5, .int (nI i)), (2, .int (nI (zOv (zN x1) zz (min i cnt)))), (4, .int (nI 6)), (3, .ref ar), (0, .ref ua), (1, .int x1)] → W p l e (headSpec wsX1_pass ({ frames := 7, cells := 1, slots := 6, locals := 125 } : Room)).room s m ([.ref ua, .int x1] : List Value).toArray below meth c H locs 1 6 (vx_MQ below (va_Qi (fun q w => (nI 1 ≤ x1 ∧ x1 ≤ nI 24) ∧ q = nI (zOv (zN x1) zz cnt) ∧ ∃ qq', w = ([(ua, .inr (1, [.ref ar, .int (nI cnt)])), (ar, .inl (g.2.2.1, 6, .inr (.inr (.inr (.inr rows)))))] ++ (zLs g cnt aa rr ff (fun k => zPs (rr k) (ff k) (zN x1) (zz k)) qq')) ∧ ∀ k, k < cnt → zCR (rr k) ((fun k => zPs (rr k) (ff k) (zN x1) (zz k)) k) (qq' k)) (zOut g A) A) (zQX g ([(ua, .inr (1, [.ref ar, .int (nI cnt)])), (ar, .inl (g.2.2.1, 6, .inr (.inr (.inr (.inr rows)))))] ++ (zLs g cnt aa rr ff zz qq)) (fun E => E = "java/lang/IllegalArgumentException" ∧ ¬ (nI 1 ≤ x1 ∧ x1 ≤ nI 24)) A) ([.ref ua, .int x1] : List Value).toArray s 1 6 A) (F0 m 21 ls []) := by
      intro n
      induction n with
      | zero =>
        intro i zz2 qq2 H locs ls hn hi hz1 hz2 hC2 hP hD hS hl
        exfalso; omega
      | succ n ih =>
        intro i zz2 qq2 H locs ls hn hi hz1 hz2 hC2 hP hD hS hl
        have ho := zOv_le (zN x1) zz (min i cnt)
        refine lv_iload hx hb dX1_pass_21 (lv_at hl 0 rfl) ?_
        refine lv_iload hx hb dX1_pass_23 (lv_at hl 2 rfl) ?_
        refine z_icmp_ge (tgt := 57) hx hb dX1_pass_25 (by decide) (by omega) (by omega) (fun hc => ?_) (fun hc => ?_)
        · have hi6 : i = 6 := by omega
          have hmin : min i cnt = cnt := by omega
          refine lv_iload_n hx hb dX1_pass_57 rfl (lv_at hl 1 rfl) ?_
          refine zi (y := nI (zOv (zN x1) zz cnt)) (by rw [hmin]) ?_
          have ez : zLs g cnt aa rr ff zz2 qq2 = zLs g cnt aa rr ff (fun k => zPs (rr k) (ff k) (zN x1) (zz k)) qq2 := z_flat fun k hk => by rw [hz1 k (by have := List.mem_range.mp hk; omega)]
          rw [ez] at hP hD
          exact z_xiret hx hb hr hP hK hD hS dX1_pass_58 hlocks (⟨hrng, rfl, qq2, rfl, fun k hk => by have z := hC2 k hk; rw [hz1 k (by omega)] at z; exact z⟩)
        · refine lv_aload_n hx hb dX1_pass_28 rfl (lv_at hl 3 rfl) ?_
          refine lv_iload hx hb dX1_pass_29 (lv_at hl 0 rfl) ?_
          refine z_aald hx hb hK hP 1 1 rfl rfl hc (by decide) dX1_pass_31 ?_
          rcases Nat.lt_or_ge i cnt with hl1 | hl1
          · rw [hrow i hl1]
            refine zqs ?_
            refine lv_astore (lv' := [(6, .ref ((aa i).1)), (5, .int (nI i)), (2, .int (nI (zOv (zN x1) zz (min i cnt)))), (4, .int (nI 6)), (3, .ref ar), (0, .ref ua), (1, .int x1)]) hx hb dX1_pass_32 hl (by decide) rfl (fun ls hl => ?_)
            refine lv_aload hx hb dX1_pass_34 (lv_at hl 0 rfl) ?_
            refine lv_ifnull hx hb dX1_pass_36 ?_
            refine lv_aload hx hb dX1_pass_39 (lv_at hl 0 rfl) ?_
            refine lv_iload_n hx hb dX1_pass_41 rfl (lv_at hl 6 rfl) ?_
            refine zi (y := nI (zN x1)) (e1) ?_
            rw [zLs_at hl1] at hP hD
            have hz2i : zz2 i = zz i := hz2 i (Nat.le_refl i)
            refine z_ai (wa := (([(ua, .inr (1, [.ref ar, .int (nI cnt)])), (ar, .inl (g.2.2.1, 6, .inr (.inr (.inr (.inr rows)))))] ++ zLs g i aa rr ff zz2 qq2))) (wc := (zLW g (aa i) (rr i) (ff i) (zz2 i) (qq2 i))) (wb := ((zLt g (i + 1) (cnt - (i + 1)) aa rr ff zz2 qq2))) (va_runV (As := [.int (nI (zN x1))]) (rest := []) ⟨hx, hb, hml, hown, hts⟩ (t_endsWithin l g (aa i) (rr i) (ff i) (zz2 i) (qq2 i) (zN x1) (by rw [hz2i]; exact hZ i hl1) (hC2 i hl1) ⟨h11, h12⟩ H.size _ rfl) (cwV 1 hts gX1_pass_X0_endsWithin rfl rfl rfl (by decide +kernel) ⟨Nat.le_of_ble_eq_true rfl, Nat.le_of_ble_eq_true rfl⟩) (zpreV (wa := (([(ua, .inr (1, [.ref ar, .int (nI cnt)])), (ar, .inl (g.2.2.1, 6, .inr (.inr (.inr (.inr rows)))))] ++ zLs g i aa rr ff zz2 qq2))) (wc := (zLW g (aa i) (rr i) (ff i) (zz2 i) (qq2 i))) (wb := ((zLt g (i + 1) (cnt - (i + 1)) aa rr ff zz2 qq2))) (q0 := 0) (ci := 0) (T := TX0) (N := 11) hK hP hD rfl rfl) rfl rfl hl.1 rfl (lv_room (Nat.le_of_ble_eq_true rfl)) dX1_pass_42 ⟨Nat.le_of_ble_eq_true rfl, Nat.le_of_ble_eq_true rfl⟩) hP hD hS hA (fun rb w1 H locs hq hP hD hS => ?_)
            obtain ⟨⟨q', rfl, hC3⟩, hcase⟩ := hq
            have hP : va_P g.1 vwCl ((([(ua, .inr (1, [.ref ar, .int (nI cnt)])), (ar, .inl (g.2.2.1, 6, .inr (.inr (.inr (.inr rows)))))] ++ zLs g i aa rr ff zz2 qq2)) ++ (zLW g (aa i) (rr i) (ff i) (zIt (rr i) (ff i) (min (zN x1) ((zz2 i).1 - (zz2 i).2.1)) (zz2 i)) q') ++ ((zLt g (i + 1) (cnt - (i + 1)) aa rr ff zz2 qq2))) H := hP
            have hD : va_D A ((([(ua, .inr (1, [.ref ar, .int (nI cnt)])), (ar, .inl (g.2.2.1, 6, .inr (.inr (.inr (.inr rows)))))] ++ zLs g i aa rr ff zz2 qq2)) ++ (zLW g (aa i) (rr i) (ff i) (zIt (rr i) (ff i) (min (zN x1) ((zz2 i).1 - (zz2 i).2.1)) (zz2 i)) q') ++ ((zLt g (i + 1) (cnt - (i + 1)) aa rr ff zz2 qq2))) := hD
            rw [zLs_put hl1] at hP hD
            rw [hz2i] at hcase hC3 hP hD
            have hP : va_P g.1 vwCl ([(ua, .inr (1, [.ref ar, .int (nI cnt)])), (ar, .inl (g.2.2.1, 6, .inr (.inr (.inr (.inr rows)))))] ++ (zLs g cnt aa rr ff (va_up zz2 i (zPs (rr i) (ff i) (zN x1) (zz i))) (va_up qq2 i q'))) H := hP
            have hD : va_D A ([(ua, .inr (1, [.ref ar, .int (nI cnt)])), (ar, .inl (g.2.2.1, 6, .inr (.inr (.inr (.inr rows)))))] ++ (zLs g cnt aa rr ff (va_up zz2 i (zPs (rr i) (ff i) (zN x1) (zz i))) (va_up qq2 i q'))) := hD
            have nz1 : ∀ k, k < min (i + 1) cnt → (va_up zz2 i (zPs (rr i) (ff i) (zN x1) (zz i))) k = zPs (rr k) (ff k) (zN x1) (zz k) := fun k hk => if h : k = i then (by rw [h, va_up_self]) else (by rw [va_up_ne _ _ h]; exact hz1 k (by omega))
            have nz2 : ∀ k, i + 1 ≤ k → (va_up zz2 i (zPs (rr i) (ff i) (zN x1) (zz i))) k = zz k := fun k hk => by rw [va_up_ne _ _ (by omega)]; exact hz2 k (by omega)
            have nC : ∀ k, k < cnt → zCR (rr k) ((va_up zz2 i (zPs (rr i) (ff i) (zN x1) (zz i))) k) ((va_up qq2 i q') k) := fun k hk => if h : k = i then (by rw [h, va_up_self, va_up_self]; exact hC3) else (by rw [va_up_ne _ _ h, va_up_ne _ _ h]; exact hC2 k hk)
            have hm1 : min i cnt = i := by omega
            have hm2 : min (i + 1) cnt = i + 1 := by omega
            have hov : zOv (zN x1) zz (i + 1) = zOv (zN x1) zz i + if 0 < (zz i).1 - (zz i).2.1 ∧ (zz i).1 - (zz i).2.1 ≤ zN x1 then 1 else 0 := rfl
            rcases hcase with ⟨k1, k2, rfl⟩ | ⟨k1, rfl⟩
            · refine z_if_eq (tgt := 51) hx hb dX1_pass_45 (by decide) (by omega) (fun hd => ?_) (fun hd => ?_)
              · exact absurd hd (by decide)
              · rw [if_pos ⟨k1, k2⟩] at hov
                refine z_iinc (lv' := [(2, .int (nI (zOv (zN x1) zz (min i cnt) + 1))), (6, .ref ((aa i).1)), (5, .int (nI i)), (4, .int (nI 6)), (3, .ref ar), (0, .ref ua), (1, .int x1)]) hx hb dX1_pass_48 hl (k := 2) rfl (by decide) rfl (fun ls hl => ?_)
                refine z_iinc (lv' := [(5, .int (nI (i + 1))), (2, .int (nI (zOv (zN x1) zz (min i cnt) + 1))), (6, .ref ((aa i).1)), (4, .int (nI 6)), (3, .ref ar), (0, .ref ua), (1, .int x1)]) hx hb dX1_pass_51 hl (k := 2) rfl (by decide) rfl (fun ls hl => ?_)
                refine lv_goto (tgt := 21) hx hb dX1_pass_54 (by decide) ?_
                rw [show zOv (zN x1) zz (min i cnt) + 1 = zOv (zN x1) zz (min (i + 1) cnt) by rw [hm1, hm2, hov]] at hl
                exact ih (i + 1) (va_up zz2 i (zPs (rr i) (ff i) (zN x1) (zz i))) (va_up qq2 i q') H _ _ (by omega) (by omega) nz1 nz2 nC hP hD hS (lv_sub hl [0, 1, 3, 4, 5, 6] rfl)
            · refine z_if_eq (tgt := 51) hx hb dX1_pass_45 (by decide) (by omega) (fun hd => ?_) (fun hd => ?_)
              · rw [if_neg k1] at hov
                refine z_iinc (lv' := [(5, .int (nI (i + 1))), (6, .ref ((aa i).1)), (2, .int (nI (zOv (zN x1) zz (min i cnt)))), (4, .int (nI 6)), (3, .ref ar), (0, .ref ua), (1, .int x1)]) hx hb dX1_pass_51 hl (k := 1) rfl (by decide) rfl (fun ls hl => ?_)
                refine lv_goto (tgt := 21) hx hb dX1_pass_54 (by decide) ?_
                rw [show zOv (zN x1) zz (min i cnt) = zOv (zN x1) zz (min (i + 1) cnt) by rw [hm1, hm2, hov]; rfl] at hl
                exact ih (i + 1) (va_up zz2 i (zPs (rr i) (ff i) (zN x1) (zz i))) (va_up qq2 i q') H _ _ (by omega) (by omega) nz1 nz2 nC hP hD hS (lv_sub hl [0, 2, 3, 4, 5, 6] rfl)
              · exact absurd rfl hd
          · rw [hnone i hl1 hc]
            refine zqn ?_
            refine lv_astoreN (lv' := [(6, .null), (5, .int (nI i)), (2, .int (nI (zOv (zN x1) zz (min i cnt)))), (4, .int (nI 6)), (3, .ref ar), (0, .ref ua), (1, .int x1)]) hx hb dX1_pass_32 hl (by decide) rfl (fun ls hl => ?_)
            refine lv_aloadN hx hb dX1_pass_34 (lv_at hl 0 rfl) ?_
            refine lv_ifnullN (tgt := 51) hx hb dX1_pass_36 (by decide) ?_
            refine z_iinc (lv' := [(5, .int (nI (i + 1))), (6, .null), (2, .int (nI (zOv (zN x1) zz (min i cnt)))), (4, .int (nI 6)), (3, .ref ar), (0, .ref ua), (1, .int x1)]) hx hb dX1_pass_51 hl (k := 1) rfl (by decide) rfl (fun ls hl => ?_)
            refine lv_goto (tgt := 21) hx hb dX1_pass_54 (by decide) ?_
            have hm1 : min i cnt = min (i + 1) cnt := by omega
            rw [hm1] at hl
            exact ih (i + 1) zz2 qq2 H _ _ (by omega) (by omega) (by rw [← hm1]; exact hz1) (fun k hk => hz2 k (by omega)) hC2 hP hD hS (lv_sub hl [0, 2, 3, 4, 5, 6] rfl)
    exact loop 7 0 zz qq H _ _ (by omega) (by omega) (fun k hk => absurd hk (by omega)) (fun k hk => rfl) hC hP hD hS (lv_sub hl [0, 3, 1, 2, 4, 5] rfl)
end
section
/-! THE CLAIM OUT OF ONE WALK OF THE LAW'S BODY. Your part is whole_start (and what it stands on); all else here is the same for every law, but numbers. -/
def R_law : String := "UsewiseLaw"
def lw_P (b : Addr) (xs : List Int32) (args : Array Value) (s : State) : Prop := args = #[.ref b] ∧ s.IntsAt b xs ∧ xs.length ≤ 260 ∧ (Jvm.Cond.and given_1 narrow_1).before args s = true
def lw_Q (_ : Array Value) (s : State) (o : Outcome) (t : State) : Prop := o = .returned (some (.int 1)) ∧ Framed s o t [] 600064 7301640
def lw_Z (below : List Frame) (a : Array Value) (s : State) : State → Prop := fun t => ∃ o, t.status = .running ∧ Ended t below o ∧ lw_Q a s o t
/-- the law's own end, with 1 on the stack, nothing written that was there before, its room as the claim has it -/
theorem lw_ret {p : Program} {l : Launch} {e : Env} {s : State} {m : MethodId} {below : List Frame} {meth : Method} {c : Code} {b : Nat} (hx : p.tables.exec = Jvm.exec) (hb : c.code = code) (hr : meth.sig.returnType = ret) (hlocks : meth.locks = false) {pc : Nat} {H : Heap} {ls : Array Slot} (hdg : decode code pc = .ok (.ireturn, 1)) : W p l e room_1 s m #[Value.ref b] below meth c H [] 600064 7301640 (lw_Z below #[Value.ref b] s) (F0 m pc ls [.int 1]) := by
  intro T hT X
  obtain ⟨fs, hret, hrun, hended, hW, hframe⟩ := X.leave (v := some (.int 1)) (hlocks := hlocks) (fun h => by rw [hr] at h; cases h)
  have hmeth' : T.vm.method? m = some meth := X.method'
  refine ⟨T.setFrames fs, ?_, .returned (some (.int 1)), hrun, hended, rfl, ⟨_, rfl⟩, hW, hframe⟩
  jvm_step X.here [X.here.top, hx, hb, hdg, hmeth', hr, ret, narrow_b1]
  (try refine ⟨rfl, ?_⟩); (try refine ⟨rfl, ?_⟩)
  first | (intro acts; rw [hret _ acts rfl rfl rfl]) | rw [hret _ _ rfl rfl rfl]
  exact Steps.refl _
/-- what holds at the law's entry: the machine, the code, the tables' words (any of lw_tbl by 'hts w (by decide +kernel)'), the script of L ints xs at the cell b, what the Statement gives of the start (any of its parts by flat_of_before) -/
def lw_At (p : Program) (s : State) (m : MethodId) (meth : Method) (c : Code) (b L : Nat) (xs : Nat → Int32) : Prop :=
  p.tables.exec = Jvm.exec ∧ c.code = code ∧ meth.sig.returnType = ret ∧ c.maxLocals = 14 ∧ s.vm.findClass R_law = some m.cls ∧ (∀ w ∈ lw_tbl, w.before #[Value.ref b] s = true) ∧ va_X b L xs s s.heap ∧ b < s.heap.size ∧ meth.locks = false ∧ (Jvm.Cond.and given_1 narrow_1).before #[Value.ref b] s = true
end
section
/-! p20: what the law's sums rest on -/
/-- the greatest payment behind n reviews -/
def zPb : Nat → Nat
  | 0 => 12000
  | n + 1 => zPb n * 149 / 100
theorem zPb_ge : ∀ n, 12000 ≤ zPb n
  | 0 => Nat.le_refl _
  | n + 1 => by
    have := zPb_ge n
    show 12000 ≤ zPb n * 149 / 100
    omega
theorem zPb_step (n : Nat) : zPb n ≤ zPb (n + 1) := by
  show zPb n ≤ zPb n * 149 / 100
  omega
theorem zPb_mono {n k : Nat} (h : n ≤ k) : zPb n ≤ zPb k := by
  induction k with
  | zero => rw [Nat.le_zero.mp h]; exact Nat.le_refl _
  | succ k ih =>
    rcases Nat.lt_or_ge k n with h1 | h1
    · rw [show n = k + 1 by omega]; exact Nat.le_refl _
    · exact Nat.le_trans (ih h1) (zPb_step k)
theorem zPb_8 : zPb 8 ≤ 1000000 := by decide +kernel
theorem zPb_top {n : Nat} (h : n ≤ 8) : zPb n ≤ 1000000 := Nat.le_trans (zPb_mono h) zPb_8
/-- what the law's check of a lease asks, and what it rests on: the sums, nothing left when it is over, interest, payments -/
def zLk (r : Nat) (c : Int32) (n : Nat) : zS → Prop := fun (T, P, p, R, I, Pd, W, G) => nI R + W + I = nI (zWr r p T (T - P)) + c + Pd + G ∧ (P = T → R = 0) ∧ (∃ i : Nat, I = nI i ∧ i ≤ 3000000 * P) ∧ ∀ j, P ≤ j → j < T → p j ≤ zPb n
theorem zLk_up {r : Nat} {c : Int32} {n k : Nat} (h : n ≤ k) {z : zS} (hL : zLk r c n z) : zLk r c k z := by
  obtain ⟨T, P, p, R, I, Pd, W, G⟩ := z
  obtain ⟨h1, h2, h3, h4⟩ := hL
  exact ⟨h1, h2, h3, fun j a b => Nat.le_trans (h4 j a b) (zPb_mono h)⟩
theorem zLk_new {T0 x0 fr st rt cs : Nat} (hT0 : 1 ≤ T0) (hT : T0 ≤ 60) (hx : x0 ≤ 10000) (hs : st ≤ 299) : zLk rt (nI cs) 0 (zNew T0 x0 fr st rt cs) := by
  refine ⟨?_, fun h => absurd h (by omega), ⟨0, rfl, Nat.zero_le _⟩, fun j _ hj => ?_⟩
  · show nI (zWr rt (zPy x0 fr st) T0 (T0 - 0) + cs) + 0 + 0 = nI (zWr rt (zPy x0 fr st) T0 (T0 - 0)) + nI cs + 0 + 0
    rw [nI_add]
  · show zPy x0 fr st j ≤ 12000
    unfold zPy
    split
    · omega
    · have : st * (j / 12) ≤ 299 * 4 := Nat.mul_le_mul hs (by omega)
      omega
theorem zB_int {r x : Nat} (hr : r ≤ 20000) (hx : x ≤ 121000000) : x - zB r x ≤ 3000000 := by
  have h1 := zB_ge r x
  have h2 := zB_le r x
  have h3 : zB r x * r ≤ zB r x * 20000 := Nat.mul_le_mul_left _ hr
  rw [Nat.mul_add] at h1
  omega
theorem zLk_month {r f n : Nat} {c : Int32} {T P R : Nat} {p : Nat → Nat} {I Pd W G : Int32} (hZ : zInv r f (T, P, p, R, I, Pd, W, G)) (hL : zLk r c n (T, P, p, R, I, Pd, W, G)) (hP : P < T) : zLk r c n (zMonth r f (T, P, p, R, I, Pd, W, G)) := by
  have hW := zInv_W hZ r (P + 1) (Nat.le_succ P)
  obtain ⟨g1, g2, g3, g4, g5, g6⟩ := hZ
  obtain ⟨h1, h2, ⟨i, h3, h3'⟩, h4⟩ := hL
  have hp := g5 P (Nat.le_refl P) hP
  have e0 := zWr_at r p hP
  have e1 := zB_int (r := r) (x := zWr r p T (T - (P + 1)) + p P) g3 (by omega)
  have e2 := zB_le r (zWr r p T (T - (P + 1)) + p P)
  rw [← e0] at e1 e2
  have hm := zMW_pos f T P
  refine ⟨?_, fun h => ?_, ⟨i + (zWr r p T (T - (P + 1)) + p P - zWr r p T (T - P)), ?_, ?_⟩, fun j a b => h4 j (by omega) b⟩
  · have e3 : nI R = nI (R - R / zMW f T P) + nI (R / zMW f T P) := by rw [nI_add, Nat.sub_add_cancel (Nat.div_le_self _ _)]
    rw [e3] at h1
    show nI (R - R / zMW f T P) + (W + nI (R / zMW f T P)) + (I + (nI (zWr r p T (T - (P + 1))) + nI (p P) - nI (zWr r p T (T - P)))) = nI (zWr r p T (T - (P + 1))) + c + (Pd + nI (p P)) + G
    revert h1
    clear e3 h3 e0 e1 e2 h2 h4 g5
    generalize nI (R - R / zMW f T P) = a1
    generalize nI (R / zMW f T P) = a2
    generalize nI (zWr r p T (T - (P + 1))) = a3
    generalize nI (zWr r p T (T - P)) = a4
    generalize nI (p P) = a5
    intro h1
    grind
  · have hm1 : zMW f T P = 1 := by unfold zMW; omega
    show R - R / zMW f T P = 0
    rw [hm1, Nat.div_one, Nat.sub_self]
  · rw [h3, nI_add, pk_sub e2, nI_add]
  · omega
theorem zLk_it {r f n : Nat} {c : Int32} {z : zS} (hZ : zInv r f z) (hL : zLk r c n z) : ∀ k, z.2.1 + k ≤ z.1 → zLk r c n (zIt r f k z)
  | 0, _ => hL
  | k + 1, hk => by
    have h1 := zLk_it hZ hL k (by omega)
    have h0 := zInv_it hZ k (by omega)
    have h2 := zIt_T r f z k
    have h3 := zIt_P r f z k
    show zLk r c n (zMonth r f (zIt r f k z))
    generalize zIt r f k z = y at h0 h1 h2 h3
    obtain ⟨T, P, p, R, I, Pd, W, G⟩ := y
    exact zLk_month h0 h1 (by dsimp only at h2 h3; omega)
theorem zLk_fol {r n k : Nat} {c : Int32} {T P R : Nat} {p : Nat → Nat} {I Pd W G : Int32} {T' : Nat} {p' : Nat → Nat} (hL : zLk r c n (T, P, p, R, I, Pd, W, G)) (hP : P < T') (hp : ∀ j, P ≤ j → j < T' → p' j ≤ zPb k) : zLk r c k (zFol r T' p' (T, P, p, R, I, Pd, W, G)) := by
  obtain ⟨h1, h2, h3, h4⟩ := hL
  unfold zFol
  dsimp only
  split
  · refine ⟨?_, fun h => absurd h (by omega), h3, hp⟩
    have e0 : nI 0 = (0 : Int32) := rfl
    rw [e0]
    revert h1
    clear h2 h3 h4 hp e0
    generalize nI R = a1
    generalize nI (zWr r p T (T - P)) = a2
    generalize nI (zWr r p' T' (T' - P)) = a3
    intro h1
    grind
  · rename_i hlt
    refine ⟨?_, fun h => absurd h (by omega), h3, hp⟩
    rw [← pk_sub (a := R + zWr r p' T' (T' - P)) (b := zWr r p T (T - P)) (by omega), ← nI_add]
    revert h1
    clear h2 h3 h4 hp hlt
    generalize nI R = a1
    generalize nI (zWr r p T (T - P)) = a2
    generalize nI (zWr r p' T' (T' - P)) = a3
    intro h1
    grind
theorem zLk_giv {r n : Nat} {c : Int32} {T P R : Nat} {p : Nat → Nat} {I Pd W G : Int32} {T' R' : Nat} {p' : Nat → Nat} (hL : zLk r c n (T, P, p, R, I, Pd, W, G)) (hP : P < T') (hp : ∀ j, P ≤ j → j < T' → p' j ≤ zPb n) : zLk r c n (zGiv r T' p' R' (T, P, p, R, I, Pd, W, G)) := by
  obtain ⟨h1, h2, h3, h4⟩ := hL
  refine ⟨?_, fun h => absurd h (by omega), h3, hp⟩
  show nI R' + W + I = nI (zWr r p' T' (T' - P)) + c + Pd + (G + (nI (zWr r p T (T - P)) - nI (zWr r p' T' (T' - P)) - (nI R - nI R')))
  revert h1
  clear h2 h3 h4 hp
  generalize nI R = a1
  generalize nI R' = a4
  generalize nI (zWr r p T (T - P)) = a2
  generalize nI (zWr r p' T' (T' - P)) = a3
  intro h1
  grind
/-- the gains that a lease's numbers hold -/
def zGA : zS → Int32 := fun (_, _, _, _, _, _, _, G) => G
theorem zD_fol {r T' : Nat} {p' : Nat → Nat} {T P R : Nat} {p : Nat → Nat} {I Pd W G : Int32} : zD r (zFol r T' p' (T, P, p, R, I, Pd, W, G)) = zWr r p' T' (T' - P) := by
  unfold zFol
  dsimp only
  split <;> rfl
end
section
/-! p20: the law's own small methods -/
theorem zXi.to {l : Launch} {y : MethodName} {wsy : List Cond} {rm : Room} {av : List Value} {g : zG} {ws : va_W} {post : Int32 → va_W → Prop} {XE : String → Prop} {mc ms : Nat} (h : zXi l y wsy rm av g ws post XE mc ms) (hn : ∀ E, XE E → False) : zWi l y wsy rm av g ws post mc ms := by
  intro sz A hAe p e ha hc hk s m args below hf happ hv hkk
  obtain ⟨n, o, h1, h2, h3, hq | ⟨q, ho, E, ce, L, ⟨u, hu, hB, hz⟩, hr⟩⟩ := h sz A hAe p e ha hc hk s m args below hf happ hv hkk
  · exact ⟨n, o, h1, h2, h3, hq⟩
  · exact (hn E hB.1).elim
theorem zWi.imp {l : Launch} {y : MethodName} {wsy : List Cond} {rm : Room} {av : List Value} {g : zG} {ws : va_W} {post post' : Int32 → va_W → Prop} {mc ms : Nat} (h : zWi l y wsy rm av g ws post mc ms) (hq : ∀ r w, post r w → post' r w) : zWi l y wsy rm av g ws post' mc ms := by
  intro sz A hAe p e ha hc hk s m args below hf happ hv hkk
  obtain ⟨n, o, h1, h2, h3, ⟨⟨r, u, ho, hp, hz⟩, hF⟩, hL⟩ := h sz A hAe p e ha hc hk s m args below hf happ hv hkk
  exact ⟨n, o, h1, h2, h3, ⟨⟨r, u, ho, hq r u hp, hz⟩, hF⟩, hL⟩
/-- more of the world than the call asks for -/
theorem zWi.frame {l : Launch} {y : MethodName} {wsy : List Cond} {rm : Room} {av : List Value} {g : zG} {ws wc wx : va_W} {post post' : Int32 → va_W → Prop} {mc ms : Nat} (hp : ws.Perm (wc ++ wx)) (h : zWi l y wsy rm av g wc post mc ms) (hq : ∀ r w1, post r w1 → ∃ w2 : va_W, w2.Perm (w1 ++ wx) ∧ post' r w2) : zWi l y wsy rm av g ws post' mc ms := by
  intro sz A hAe p e ha hc hk s m args below hf happ hv hkk
  obtain ⟨ea, ⟨hsz, hP, hK, hD0⟩, hX⟩ := hv
  obtain ⟨hD, hA, hS⟩ := z_in hsz hAe hD0
  have hP' : va_P g.1 vwCl ([] ++ wc ++ wx) s.heap := zP_perm hP hp.symm
  have hD' : va_D A ([] ++ wc ++ wx) := zD_perm hD hp.symm
  have hF : ∀ q, va_A wc s.heap.size q → A q := zfree hD' hS hA
  obtain ⟨n, o, h1, h2, h3, ⟨⟨r, u, ho, hpost, hP1, hK1, hD1⟩, hFr⟩, LL, h5, h6⟩ := h s.heap.size _ rfl p e ha hc hk s m args below hf happ ⟨ea, ⟨rfl, zP_mid hP', hK, (zD_mid hD').weaken (fun _ _ _ _ => trivial)⟩, ⟨hX.1.narrow hF, hX.2.1.narrow hF, hX.2.2⟩⟩ hkk
  obtain ⟨w2, hw2, hpost2⟩ := hq r u hpost
  obtain ⟨hP2, hD2⟩ := zjoin hP' hD' hFr.2 hF hP1 hD1
  exact ⟨n, o, h1, h2, h3, ⟨⟨r, w2, ho, hpost2, zP_perm hP2 hw2, hK1, zD_perm hD2 hw2⟩, hFr.1, fun q a b => hFr.2 q a (fun h => b (hF q h))⟩, LL, h5, fun q hq => hF _ (h6 q hq)⟩
section ZC0
variable {p : Program} {l : Launch} {e : Env} {R : Room} {s : State} {m : MethodId} {args : Array Value} {below : List Frame} {meth : Method} {c : Code} {H : Heap} {locs : List Loc} {cells slots : Nat} {Q : State → Prop}
variable {pc : Nat} {ls : Array Slot} {rest st : List Value} {g : zG} {A : Nat → Prop} {wc : va_W} {mc ms ci N : Nat} {C : String} {T : u_T} {b : Addr} {As fs : List Value}
theorem zpreXV0 (hK : zK g s) (hP : va_P g.1 vwCl wc H) (hD : va_D A wc) (hS : va_S A s.heap H locs) (hA : ∀ q, s.heap.size ≤ q → A q) (hX : zX A s s.heap) {q0 : Nat} (hr : wc[q0]? = some (b, .inr (ci, fs))) (hci : vwCl[ci]? = some (C, T, N)) : PreV s H C b (zPX (.ref b :: As) g wc H.size (va_A wc H.size)) As :=
  zpreXV (wa := []) (wb := []) hK (by rw [List.nil_append, List.append_nil]; exact hP) (by rw [List.nil_append, List.append_nil]; exact hD) hS hA hX hr hci
theorem zpreXS0 (hK : zK g s) (hP : va_P g.1 vwCl wc H) (hD : va_D A wc) (hS : va_S A s.heap H locs) (hA : ∀ q, s.heap.size ≤ q → A q) (hX : zX A s s.heap) : PreS s H (zPX As g wc H.size (va_A wc H.size)) As :=
  zpreXS (wa := []) (wb := []) hK (by rw [List.nil_append, List.append_nil]; exact hP) (by rw [List.nil_append, List.append_nil]; exact hD) hS hA hX
theorem z_ai0 {post : Int32 → va_W → Prop} {a : Array Value} (hr : va_Run p l e R s m args below meth c H locs cells slots mc ms (F0 m pc ls st) rest (va_Qi post (zOut g (va_A wc H.size)) (va_A wc H.size) a) (va_A wc H.size)) (hP : va_P g.1 vwCl wc H) (hD : va_D A wc) (hS : va_S A s.heap H locs) (hA : ∀ q, s.heap.size ≤ q → A q)
    (kk : ∀ (r : Int32) (w1 : va_W) (H1 : Heap) (locs1 : List Loc), post r w1 → va_P g.1 vwCl w1 H1 → va_D A w1 → va_S A s.heap H1 locs1 → W p l e R s m args below meth c H1 locs1 (cells + mc) (slots + ms) Q (F0 m (pc + 3) ls (.int r :: rest))) : W p l e R s m args below meth c H locs cells slots Q (F0 m pc ls st) :=
  z_ai (wa := []) (wb := []) hr (by rw [List.nil_append, List.append_nil]; exact hP) (by rw [List.nil_append, List.append_nil]; exact hD) hS hA (fun r w1 H1 locs1 hq hP1 hD1 hS1 => kk r w1 H1 locs1 hq (by rw [List.nil_append, List.append_nil] at hP1; exact hP1) (by rw [List.nil_append, List.append_nil] at hD1; exact hD1) hS1)
end ZC0
set_option maxHeartbeats 4000000 in
set_option maxRecDepth 100000 in
theorem c_low (l : Launch) (g : zG) (x : Int32) (k : Nat) (hk : 0 < k) (hk2 : k < 2 ^ 31) : zMi l yL_low wsL_low ({ frames := 1, cells := 0, slots := 0, locals := 20 } : Room) [.int x, .int (nI k)] g [] (fun q w => (∃ t, t < k ∧ q = nI t) ∧ w = []) 0 0 := by
  intro sz A hAe
  refine Met.ofW (cc := cL_low) (maxL := 2) (ret := some .int) (by decide) rfl ?_
  intro p e s m args below meth c s₁ B hml hv
  obtain ⟨rfl, hsz, hP, hK, hD0⟩ := hv
  have hx := B.exec
  have hb := B.bytes
  have hr := B.returns
  have hts := atoms_spec (ws := wsL_low) B.pre
  have hown : s.vm.findClass RL = some m.cls := findClass_of_methodNamed B.named
  have hlocks := B.notSynchronized
  obtain ⟨hD, hA, hS⟩ := z_in hsz hAe hD0
  have hl := lv_entry ([.int x, .int (nI k)]) (n := 2) (Nat.le_of_ble_eq_true rfl)
  rw [lg_entry_eq]
  generalize (lg_sl ([.int x, .int (nI k)]) ++ List.replicate (2 - (lg_sl ([.int x, .int (nI k)])).length) Slot.unset).toArray = ls at hl ⊢
  have hl : lv_has ls 2 [(0, .int x), (1, .int (nI k))] := hl
  refine lv_iload_n hx hb dL_low_0 rfl (lv_at hl 0 rfl) ?_
  refine lv_ldc (v := nI 2147483647) hx hb hown (hts (.constant RL 9 (2147483647)) (by decide +kernel)) dL_low_1 ?_
  refine lv_iand hx hb dL_low_3 ?_
  obtain ⟨t, ht, et⟩ := pk_andE x (m := nI 2147483647) 31 (by decide +kernel)
  refine zi (y := nI t) (et) ?_
  refine lv_iload_n hx hb dL_low_4 rfl (lv_at hl 1 rfl) ?_
  refine lv_irem hx hb dL_low_5 (nI_ne0 hk hk2) ?_
  refine zi (y := nI (t % k)) (pk_rem ht hk hk2) ?_
  exact z_iret hx hb hr hP hK hD hS dL_low_6 hlocks (⟨⟨t % k, Nat.mod_lt _ hk, rfl⟩, rfl⟩)

set_option maxHeartbeats 4000000 in
set_option maxRecDepth 100000 in
theorem c_cell (l : Launch) (g : zG) (b L : Nat) (xs : Nat → Int32) (k : Nat) (hL : L < 2 ^ 31) (hk : k < 2 ^ 31) (sz : Nat) (A : Nat → Prop) (hAe : A = va_A ([] : va_W) sz) : Met l yL_cell wsL_cell ({ frames := 1, cells := 0, slots := 0, locals := 20 } : Room) (va_Pc [.ref b, .int (nI k)] (fun U => zIn g [] sz U ∧ va_X b L xs U U.heap ∧ b < sz)) (va_Qi (fun _ w => w = []) (zOut g A) A) 0 0 A := by
  have hrfl := hAe
  refine Met.ofW (cc := cL_cell) (maxL := 2) (ret := some .int) (by decide) rfl ?_
  intro p e s m args below meth c s₁ B hml hv
  obtain ⟨rfl, ⟨hsz, hP, hK, hD0⟩, hXs, hbl⟩ := hv
  have hbl2 : b < s.heap.size := by rw [hsz]; exact hbl
  have hbA : ¬ A b := fun z => by
    rw [hAe] at z
    rcases zA_iff.mp z with ⟨e1, h1⟩ | h1
    · cases h1
    · omega
  have hx := B.exec
  have hb := B.bytes
  have hr := B.returns
  have hts := atoms_spec (ws := wsL_cell) B.pre
  have hown : s.vm.findClass RL = some m.cls := findClass_of_methodNamed B.named
  have hlocks := B.notSynchronized
  obtain ⟨hD, hA, hS⟩ := z_in hsz hAe hD0
  have hl := lv_entry ([.ref b, .int (nI k)]) (n := 2) (Nat.le_of_ble_eq_true rfl)
  rw [lg_entry_eq]
  generalize (lg_sl ([.ref b, .int (nI k)]) ++ List.replicate (2 - (lg_sl ([.ref b, .int (nI k)])).length) Slot.unset).toArray = ls at hl ⊢
  have hl : lv_has ls 2 [(0, .ref b), (1, .int (nI k))] := hl
  refine lv_iload_n hx hb dL_cell_0 rfl (lv_at hl 1 rfl) ?_
  refine lv_aload_n hx hb dL_cell_1 rfl (lv_at hl 0 rfl) ?_
  refine va_slen hx hb hXs hbl2 hbA hS dL_cell_2 ?_
  refine zi (y := nI L) (rfl) ?_
  refine z_icmp_ge (tgt := 12) hx hb dL_cell_3 (by decide) (by omega) (by omega) (fun hc => ?_) (fun hc => ?_)
  · refine lv_ldc (v := nI 26810017) hx hb hown (hts (.constant RL 7 (26810017)) (by decide +kernel)) dL_cell_12 ?_
    refine lv_iload_n hx hb dL_cell_14 rfl (lv_at hl 1 rfl) ?_
    refine z_imul hx hb dL_cell_15 ?_
    refine lv_ldc (v := nI 50119) hx hb hown (hts (.constant RL 8 (50119)) (by decide +kernel)) dL_cell_16 ?_
    refine z_iadd hx hb dL_cell_18 ?_
    exact z_iret hx hb hr hP hK hD hS dL_cell_19 hlocks rfl
  · refine lv_aload_n hx hb dL_cell_6 rfl (lv_at hl 0 rfl) ?_
    refine lv_iload_n hx hb dL_cell_7 rfl (lv_at hl 1 rfl) ?_
    refine va_sld hx hb hXs hbl2 hbA hS (vp_in_nI hc hL) dL_cell_8 ?_
    refine lv_goto (tgt := 19) hx hb dL_cell_9 (by decide) ?_
    exact z_iret hx hb hr hP hK hD hS dL_cell_19 hlocks rfl

set_option maxHeartbeats 4000000 in
set_option maxRecDepth 100000 in
theorem c_adds (l : Launch) (g : zG) (ua ar cnt : Nat) (rows : Nat → Option Nat) (j : Nat) (h pa da rt lf T P R0 : Nat) (py : Nat → Nat) (I Pd Wn G : Int32) (xI xP xW xG : Int64) (u v : Nat → Int32) (c0 : Int32) (ii : Nat) (hst : l.stackTraces = false) (hj : j < 6) (hrow : rows j = some h) (hZ : zInv rt lf (T, P, py, R0, I, Pd, Wn, G)) (hC : zCR rt (T, P, py, R0, I, Pd, Wn, G) (xI, xP, xW, xG, u, v)) (hsum : nI R0 + Wn + I = nI (zWr rt py T (T - P)) + c0 + Pd + G) (hover : P = T → R0 = 0) (hint : I = nI ii) (hii : ii < 2 ^ 31) : zWi l yL_adds wsL_adds ({ frames := 8, cells := 13, slots := 78, locals := 180 } : Room) [.ref ua, .int (nI j), .int c0] g [(ua, .inr (1, [.ref ar, .int (nI cnt)])), (ar, .inl (g.2.2.1, 6, .inr (.inr (.inr (.inr rows))))), (h, .inr (0, [.int (nI rt), .int (nI lf), .ref pa, .ref da, .int (nI T), .int (nI P), .long (lN R0), .long xI, .long xP, .long xW, .long xG])), (pa, .inl (g.2.1, 120, .inl u)), (da, .inl (g.2.1, 121, .inl v))] (fun q w => q = nI 1 ∧ w = [(ua, .inr (1, [.ref ar, .int (nI cnt)])), (ar, .inl (g.2.2.1, 6, .inr (.inr (.inr (.inr rows))))), (h, .inr (0, [.int (nI rt), .int (nI lf), .ref pa, .ref da, .int (nI T), .int (nI P), .long (lN R0), .long xI, .long xP, .long xW, .long xG])), (pa, .inl (g.2.1, 120, .inl u)), (da, .inl (g.2.1, 121, .inl v))]) 13 78 := by
  intro sz A hAe
  refine Met.ofW (cc := cL_adds) (maxL := 6) (ret := some .boolean) (by decide) rfl ?_
  intro p e s m args below meth c s₁ B hml hv
  obtain ⟨rfl, ⟨hsz, hP, hK, hD0⟩, hX⟩ := hv
  have hx := B.exec
  have hb := B.bytes
  have hr := B.returns
  have hts := atoms_spec (ws := wsL_adds) B.pre
  have hown : s.vm.findClass RL = some m.cls := findClass_of_methodNamed B.named
  have hlocks := B.notSynchronized
  obtain ⟨hD, hA, hS⟩ := z_in hsz hAe hD0
  have hl := lv_entry ([.ref ua, .int (nI j), .int c0]) (n := 6) (Nat.le_of_ble_eq_true rfl)
  rw [lg_entry_eq]
  generalize (lg_sl ([.ref ua, .int (nI j), .int c0]) ++ List.replicate (6 - (lg_sl ([.ref ua, .int (nI j), .int c0])).length) Slot.unset).toArray = ls at hl ⊢
  have hl : lv_has ls 6 [(0, .ref ua), (1, .int (nI j)), (2, .int c0)] := hl
  obtain ⟨hT, hPT, hrt, hlf, hp, hRb⟩ := id hZ
  have hR2 := zInv_R hZ
  have hDb := zInv_W hZ rt P (Nat.le_refl P)
  refine lv_aload_n hx hb dL_adds_0 rfl (lv_at hl 0 rfl) ?_
  refine lv_iload_n hx hb dL_adds_1 rfl (lv_at hl 1 rfl) ?_
  refine z_axi (wa := []) (wc := [(ua, .inr (1, [.ref ar, .int (nI cnt)])), (ar, .inl (g.2.2.1, 6, .inr (.inr (.inr (.inr rows))))), (h, .inr (0, [.int (nI rt), .int (nI lf), .ref pa, .ref da, .int (nI T), .int (nI P), .long (lN R0), .long xI, .long xP, .long xW, .long xG])), (pa, .inl (g.2.1, 120, .inl u)), (da, .inl (g.2.1, 121, .inl v))]) (wb := []) (vx_runV (As := [.int (nI j)]) (rest := []) ⟨hx, hb, hml, hown, hts⟩ (p_right l hst g ua ar cnt rows j h pa da rt lf T P R0 py I Pd Wn G xI xP xW xG u v hj hrow hZ hC s.heap.size _ rfl) (cwV 1 hts gL_adds_X1_right rfl rfl rfl (by decide +kernel) ⟨Nat.le_of_ble_eq_true rfl, Nat.le_of_ble_eq_true rfl⟩) (zpreXV (wa := []) (wc := [(ua, .inr (1, [.ref ar, .int (nI cnt)])), (ar, .inl (g.2.2.1, 6, .inr (.inr (.inr (.inr rows))))), (h, .inr (0, [.int (nI rt), .int (nI lf), .ref pa, .ref da, .int (nI T), .int (nI P), .long (lN R0), .long xI, .long xP, .long xW, .long xG])), (pa, .inl (g.2.1, 120, .inl u)), (da, .inl (g.2.1, 121, .inl v))]) (wb := []) (q0 := 0) (ci := 1) (T := TX1) (N := 2) hK hP hD hS hA hX rfl rfl) rfl rfl hl.1 rfl (lv_room (Nat.le_of_ble_eq_true rfl)) dL_adds_2 ⟨Nat.le_of_ble_eq_true rfl, Nat.le_of_ble_eq_true rfl⟩) hP hD hS hA (fun E ce q9 H locs hE hP hD hS hc1 hc2 hc3 => ?_) (fun r_1 w1 H locs hq hP hD hS => ?_)
  · exact hE.elim
  · obtain ⟨rfl, rfl⟩ := hq
    have hP : va_P g.1 vwCl [(ua, .inr (1, [.ref ar, .int (nI cnt)])), (ar, .inl (g.2.2.1, 6, .inr (.inr (.inr (.inr rows))))), (h, .inr (0, [.int (nI rt), .int (nI lf), .ref pa, .ref da, .int (nI T), .int (nI P), .long (lN R0), .long xI, .long xP, .long xW, .long xG])), (pa, .inl (g.2.1, 120, .inl u)), (da, .inl (g.2.1, 121, .inl v))] H := hP
    have hD : va_D A [(ua, .inr (1, [.ref ar, .int (nI cnt)])), (ar, .inl (g.2.2.1, 6, .inr (.inr (.inr (.inr rows))))), (h, .inr (0, [.int (nI rt), .int (nI lf), .ref pa, .ref da, .int (nI T), .int (nI P), .long (lN R0), .long xI, .long xP, .long xW, .long xG])), (pa, .inl (g.2.1, 120, .inl u)), (da, .inl (g.2.1, 121, .inl v))] := hD
    refine lv_aload_n hx hb dL_adds_5 rfl (lv_at hl 0 rfl) ?_
    refine lv_iload_n hx hb dL_adds_6 rfl (lv_at hl 1 rfl) ?_
    refine z_axi (wa := []) (wc := [(ua, .inr (1, [.ref ar, .int (nI cnt)])), (ar, .inl (g.2.2.1, 6, .inr (.inr (.inr (.inr rows))))), (h, .inr (0, [.int (nI rt), .int (nI lf), .ref pa, .ref da, .int (nI T), .int (nI P), .long (lN R0), .long xI, .long xP, .long xW, .long xG])), (pa, .inl (g.2.1, 120, .inl u)), (da, .inl (g.2.1, 121, .inl v))]) (wb := []) (vx_runV (As := [.int (nI j)]) (rest := [.int (nI R0)]) ⟨hx, hb, hml, hown, hts⟩ (p_written l hst g ua ar cnt rows j h pa da rt lf T P R0 py I Pd Wn G xI xP xW xG u v hj hrow hZ hC H.size _ rfl) (cwV 1 hts gL_adds_X1_written rfl rfl rfl (by decide +kernel) ⟨Nat.le_of_ble_eq_true rfl, Nat.le_of_ble_eq_true rfl⟩) (zpreXV (wa := []) (wc := [(ua, .inr (1, [.ref ar, .int (nI cnt)])), (ar, .inl (g.2.2.1, 6, .inr (.inr (.inr (.inr rows))))), (h, .inr (0, [.int (nI rt), .int (nI lf), .ref pa, .ref da, .int (nI T), .int (nI P), .long (lN R0), .long xI, .long xP, .long xW, .long xG])), (pa, .inl (g.2.1, 120, .inl u)), (da, .inl (g.2.1, 121, .inl v))]) (wb := []) (q0 := 0) (ci := 1) (T := TX1) (N := 2) hK hP hD hS hA hX rfl rfl) rfl rfl hl.1 rfl (lv_room (Nat.le_of_ble_eq_true rfl)) dL_adds_7 ⟨Nat.le_of_ble_eq_true rfl, Nat.le_of_ble_eq_true rfl⟩) hP hD hS hA (fun E ce q9 H locs hE hP hD hS hc1 hc2 hc3 => ?_) (fun r_2 w1 H locs hq hP hD hS => ?_)
    · exact hE.elim
    · obtain ⟨e_r, rfl⟩ := hq
      have hP : va_P g.1 vwCl [(ua, .inr (1, [.ref ar, .int (nI cnt)])), (ar, .inl (g.2.2.1, 6, .inr (.inr (.inr (.inr rows))))), (h, .inr (0, [.int (nI rt), .int (nI lf), .ref pa, .ref da, .int (nI T), .int (nI P), .long (lN R0), .long xI, .long xP, .long xW, .long xG])), (pa, .inl (g.2.1, 120, .inl u)), (da, .inl (g.2.1, 121, .inl v))] H := hP
      have hD : va_D A [(ua, .inr (1, [.ref ar, .int (nI cnt)])), (ar, .inl (g.2.2.1, 6, .inr (.inr (.inr (.inr rows))))), (h, .inr (0, [.int (nI rt), .int (nI lf), .ref pa, .ref da, .int (nI T), .int (nI P), .long (lN R0), .long xI, .long xP, .long xW, .long xG])), (pa, .inl (g.2.1, 120, .inl u)), (da, .inl (g.2.1, 121, .inl v))] := hD
      refine zi (y := Wn) (e_r) ?_
      refine lv_iadd hx hb dL_adds_10 ?_
      refine lv_aload_n hx hb dL_adds_11 rfl (lv_at hl 0 rfl) ?_
      refine lv_iload_n hx hb dL_adds_12 rfl (lv_at hl 1 rfl) ?_
      refine z_axi (wa := []) (wc := [(ua, .inr (1, [.ref ar, .int (nI cnt)])), (ar, .inl (g.2.2.1, 6, .inr (.inr (.inr (.inr rows))))), (h, .inr (0, [.int (nI rt), .int (nI lf), .ref pa, .ref da, .int (nI T), .int (nI P), .long (lN R0), .long xI, .long xP, .long xW, .long xG])), (pa, .inl (g.2.1, 120, .inl u)), (da, .inl (g.2.1, 121, .inl v))]) (wb := []) (vx_runV (As := [.int (nI j)]) (rest := [.int ((nI R0) + Wn)]) ⟨hx, hb, hml, hown, hts⟩ (p_interest l hst g ua ar cnt rows j h pa da rt lf T P R0 py I Pd Wn G xI xP xW xG u v hj hrow hZ hC H.size _ rfl) (cwV 1 hts gL_adds_X1_interest rfl rfl rfl (by decide +kernel) ⟨Nat.le_of_ble_eq_true rfl, Nat.le_of_ble_eq_true rfl⟩) (zpreXV (wa := []) (wc := [(ua, .inr (1, [.ref ar, .int (nI cnt)])), (ar, .inl (g.2.2.1, 6, .inr (.inr (.inr (.inr rows))))), (h, .inr (0, [.int (nI rt), .int (nI lf), .ref pa, .ref da, .int (nI T), .int (nI P), .long (lN R0), .long xI, .long xP, .long xW, .long xG])), (pa, .inl (g.2.1, 120, .inl u)), (da, .inl (g.2.1, 121, .inl v))]) (wb := []) (q0 := 0) (ci := 1) (T := TX1) (N := 2) hK hP hD hS hA hX rfl rfl) rfl rfl hl.1 rfl (lv_room (Nat.le_of_ble_eq_true rfl)) dL_adds_13 ⟨Nat.le_of_ble_eq_true rfl, Nat.le_of_ble_eq_true rfl⟩) hP hD hS hA (fun E ce q9 H locs hE hP hD hS hc1 hc2 hc3 => ?_) (fun r_3 w1 H locs hq hP hD hS => ?_)
      · exact hE.elim
      · obtain ⟨e_r, rfl⟩ := hq
        have hP : va_P g.1 vwCl [(ua, .inr (1, [.ref ar, .int (nI cnt)])), (ar, .inl (g.2.2.1, 6, .inr (.inr (.inr (.inr rows))))), (h, .inr (0, [.int (nI rt), .int (nI lf), .ref pa, .ref da, .int (nI T), .int (nI P), .long (lN R0), .long xI, .long xP, .long xW, .long xG])), (pa, .inl (g.2.1, 120, .inl u)), (da, .inl (g.2.1, 121, .inl v))] H := hP
        have hD : va_D A [(ua, .inr (1, [.ref ar, .int (nI cnt)])), (ar, .inl (g.2.2.1, 6, .inr (.inr (.inr (.inr rows))))), (h, .inr (0, [.int (nI rt), .int (nI lf), .ref pa, .ref da, .int (nI T), .int (nI P), .long (lN R0), .long xI, .long xP, .long xW, .long xG])), (pa, .inl (g.2.1, 120, .inl u)), (da, .inl (g.2.1, 121, .inl v))] := hD
        refine zi (y := I) (e_r) ?_
        refine lv_iadd hx hb dL_adds_16 ?_
        refine lv_istore_n (lv' := [(3, .int (((nI R0) + Wn) + I)), (0, .ref ua), (1, .int (nI j)), (2, .int c0)]) hx hb dL_adds_17 rfl hl (by decide) rfl (fun ls hl => ?_)
        refine lv_aload_n hx hb dL_adds_18 rfl (lv_at hl 1 rfl) ?_
        refine lv_iload_n hx hb dL_adds_19 rfl (lv_at hl 2 rfl) ?_
        refine z_axi (wa := []) (wc := [(ua, .inr (1, [.ref ar, .int (nI cnt)])), (ar, .inl (g.2.2.1, 6, .inr (.inr (.inr (.inr rows))))), (h, .inr (0, [.int (nI rt), .int (nI lf), .ref pa, .ref da, .int (nI T), .int (nI P), .long (lN R0), .long xI, .long xP, .long xW, .long xG])), (pa, .inl (g.2.1, 120, .inl u)), (da, .inl (g.2.1, 121, .inl v))]) (wb := []) (vx_runV (As := [.int (nI j)]) (rest := []) ⟨hx, hb, hml, hown, hts⟩ (p_debt l hst g ua ar cnt rows j h pa da rt lf T P R0 py I Pd Wn G xI xP xW xG u v hj hrow hZ hC H.size _ rfl) (cwV 1 hts gL_adds_X1_debt rfl rfl rfl (by decide +kernel) ⟨Nat.le_of_ble_eq_true rfl, Nat.le_of_ble_eq_true rfl⟩) (zpreXV (wa := []) (wc := [(ua, .inr (1, [.ref ar, .int (nI cnt)])), (ar, .inl (g.2.2.1, 6, .inr (.inr (.inr (.inr rows))))), (h, .inr (0, [.int (nI rt), .int (nI lf), .ref pa, .ref da, .int (nI T), .int (nI P), .long (lN R0), .long xI, .long xP, .long xW, .long xG])), (pa, .inl (g.2.1, 120, .inl u)), (da, .inl (g.2.1, 121, .inl v))]) (wb := []) (q0 := 0) (ci := 1) (T := TX1) (N := 2) hK hP hD hS hA hX rfl rfl) rfl rfl hl.1 rfl (lv_room (Nat.le_of_ble_eq_true rfl)) dL_adds_20 ⟨Nat.le_of_ble_eq_true rfl, Nat.le_of_ble_eq_true rfl⟩) hP hD hS hA (fun E ce q9 H locs hE hP hD hS hc1 hc2 hc3 => ?_) (fun r_4 w1 H locs hq hP hD hS => ?_)
        · exact hE.elim
        · obtain ⟨rfl, rfl⟩ := hq
          have hP : va_P g.1 vwCl [(ua, .inr (1, [.ref ar, .int (nI cnt)])), (ar, .inl (g.2.2.1, 6, .inr (.inr (.inr (.inr rows))))), (h, .inr (0, [.int (nI rt), .int (nI lf), .ref pa, .ref da, .int (nI T), .int (nI P), .long (lN R0), .long xI, .long xP, .long xW, .long xG])), (pa, .inl (g.2.1, 120, .inl u)), (da, .inl (g.2.1, 121, .inl v))] H := hP
          have hD : va_D A [(ua, .inr (1, [.ref ar, .int (nI cnt)])), (ar, .inl (g.2.2.1, 6, .inr (.inr (.inr (.inr rows))))), (h, .inr (0, [.int (nI rt), .int (nI lf), .ref pa, .ref da, .int (nI T), .int (nI P), .long (lN R0), .long xI, .long xP, .long xW, .long xG])), (pa, .inl (g.2.1, 120, .inl u)), (da, .inl (g.2.1, 121, .inl v))] := hD
          refine lv_iload_n hx hb dL_adds_23 rfl (lv_at hl 3 rfl) ?_
          refine lv_iadd hx hb dL_adds_24 ?_
          refine lv_aload_n hx hb dL_adds_25 rfl (lv_at hl 1 rfl) ?_
          refine lv_iload_n hx hb dL_adds_26 rfl (lv_at hl 2 rfl) ?_
          refine z_axi (wa := []) (wc := [(ua, .inr (1, [.ref ar, .int (nI cnt)])), (ar, .inl (g.2.2.1, 6, .inr (.inr (.inr (.inr rows))))), (h, .inr (0, [.int (nI rt), .int (nI lf), .ref pa, .ref da, .int (nI T), .int (nI P), .long (lN R0), .long xI, .long xP, .long xW, .long xG])), (pa, .inl (g.2.1, 120, .inl u)), (da, .inl (g.2.1, 121, .inl v))]) (wb := []) (vx_runV (As := [.int (nI j)]) (rest := [.int ((nI (zWr rt py T (T - P))) + c0)]) ⟨hx, hb, hml, hown, hts⟩ (p_paid l hst g ua ar cnt rows j h pa da rt lf T P R0 py I Pd Wn G xI xP xW xG u v hj hrow hZ hC H.size _ rfl) (cwV 1 hts gL_adds_X1_paid rfl rfl rfl (by decide +kernel) ⟨Nat.le_of_ble_eq_true rfl, Nat.le_of_ble_eq_true rfl⟩) (zpreXV (wa := []) (wc := [(ua, .inr (1, [.ref ar, .int (nI cnt)])), (ar, .inl (g.2.2.1, 6, .inr (.inr (.inr (.inr rows))))), (h, .inr (0, [.int (nI rt), .int (nI lf), .ref pa, .ref da, .int (nI T), .int (nI P), .long (lN R0), .long xI, .long xP, .long xW, .long xG])), (pa, .inl (g.2.1, 120, .inl u)), (da, .inl (g.2.1, 121, .inl v))]) (wb := []) (q0 := 0) (ci := 1) (T := TX1) (N := 2) hK hP hD hS hA hX rfl rfl) rfl rfl hl.1 rfl (lv_room (Nat.le_of_ble_eq_true rfl)) dL_adds_27 ⟨Nat.le_of_ble_eq_true rfl, Nat.le_of_ble_eq_true rfl⟩) hP hD hS hA (fun E ce q9 H locs hE hP hD hS hc1 hc2 hc3 => ?_) (fun r_5 w1 H locs hq hP hD hS => ?_)
          · exact hE.elim
          · obtain ⟨e_r, rfl⟩ := hq
            have hP : va_P g.1 vwCl [(ua, .inr (1, [.ref ar, .int (nI cnt)])), (ar, .inl (g.2.2.1, 6, .inr (.inr (.inr (.inr rows))))), (h, .inr (0, [.int (nI rt), .int (nI lf), .ref pa, .ref da, .int (nI T), .int (nI P), .long (lN R0), .long xI, .long xP, .long xW, .long xG])), (pa, .inl (g.2.1, 120, .inl u)), (da, .inl (g.2.1, 121, .inl v))] H := hP
            have hD : va_D A [(ua, .inr (1, [.ref ar, .int (nI cnt)])), (ar, .inl (g.2.2.1, 6, .inr (.inr (.inr (.inr rows))))), (h, .inr (0, [.int (nI rt), .int (nI lf), .ref pa, .ref da, .int (nI T), .int (nI P), .long (lN R0), .long xI, .long xP, .long xW, .long xG])), (pa, .inl (g.2.1, 120, .inl u)), (da, .inl (g.2.1, 121, .inl v))] := hD
            refine zi (y := Pd) (e_r) ?_
            refine lv_iadd hx hb dL_adds_30 ?_
            refine lv_aload_n hx hb dL_adds_31 rfl (lv_at hl 1 rfl) ?_
            refine lv_iload_n hx hb dL_adds_32 rfl (lv_at hl 2 rfl) ?_
            refine z_axi (wa := []) (wc := [(ua, .inr (1, [.ref ar, .int (nI cnt)])), (ar, .inl (g.2.2.1, 6, .inr (.inr (.inr (.inr rows))))), (h, .inr (0, [.int (nI rt), .int (nI lf), .ref pa, .ref da, .int (nI T), .int (nI P), .long (lN R0), .long xI, .long xP, .long xW, .long xG])), (pa, .inl (g.2.1, 120, .inl u)), (da, .inl (g.2.1, 121, .inl v))]) (wb := []) (vx_runV (As := [.int (nI j)]) (rest := [.int (((nI (zWr rt py T (T - P))) + c0) + Pd)]) ⟨hx, hb, hml, hown, hts⟩ (p_gains l hst g ua ar cnt rows j h pa da rt lf T P R0 py I Pd Wn G xI xP xW xG u v hj hrow hZ hC H.size _ rfl) (cwV 1 hts gL_adds_X1_gains rfl rfl rfl (by decide +kernel) ⟨Nat.le_of_ble_eq_true rfl, Nat.le_of_ble_eq_true rfl⟩) (zpreXV (wa := []) (wc := [(ua, .inr (1, [.ref ar, .int (nI cnt)])), (ar, .inl (g.2.2.1, 6, .inr (.inr (.inr (.inr rows))))), (h, .inr (0, [.int (nI rt), .int (nI lf), .ref pa, .ref da, .int (nI T), .int (nI P), .long (lN R0), .long xI, .long xP, .long xW, .long xG])), (pa, .inl (g.2.1, 120, .inl u)), (da, .inl (g.2.1, 121, .inl v))]) (wb := []) (q0 := 0) (ci := 1) (T := TX1) (N := 2) hK hP hD hS hA hX rfl rfl) rfl rfl hl.1 rfl (lv_room (Nat.le_of_ble_eq_true rfl)) dL_adds_33 ⟨Nat.le_of_ble_eq_true rfl, Nat.le_of_ble_eq_true rfl⟩) hP hD hS hA (fun E ce q9 H locs hE hP hD hS hc1 hc2 hc3 => ?_) (fun r_6 w1 H locs hq hP hD hS => ?_)
            · exact hE.elim
            · obtain ⟨e_r, rfl⟩ := hq
              have hP : va_P g.1 vwCl [(ua, .inr (1, [.ref ar, .int (nI cnt)])), (ar, .inl (g.2.2.1, 6, .inr (.inr (.inr (.inr rows))))), (h, .inr (0, [.int (nI rt), .int (nI lf), .ref pa, .ref da, .int (nI T), .int (nI P), .long (lN R0), .long xI, .long xP, .long xW, .long xG])), (pa, .inl (g.2.1, 120, .inl u)), (da, .inl (g.2.1, 121, .inl v))] H := hP
              have hD : va_D A [(ua, .inr (1, [.ref ar, .int (nI cnt)])), (ar, .inl (g.2.2.1, 6, .inr (.inr (.inr (.inr rows))))), (h, .inr (0, [.int (nI rt), .int (nI lf), .ref pa, .ref da, .int (nI T), .int (nI P), .long (lN R0), .long xI, .long xP, .long xW, .long xG])), (pa, .inl (g.2.1, 120, .inl u)), (da, .inl (g.2.1, 121, .inl v))] := hD
              refine zi (y := G) (e_r) ?_
              refine lv_iadd hx hb dL_adds_36 ?_
              refine lv_istore (lv' := [(4, .int ((((nI (zWr rt py T (T - P))) + c0) + Pd) + G)), (3, .int (((nI R0) + Wn) + I)), (0, .ref ua), (1, .int (nI j)), (2, .int c0)]) hx hb dL_adds_37 hl (by decide) rfl (fun ls hl => ?_)
              refine lv_aload_n hx hb dL_adds_39 rfl (lv_at hl 2 rfl) ?_
              refine lv_iload_n hx hb dL_adds_40 rfl (lv_at hl 3 rfl) ?_
              refine z_axi (wa := []) (wc := [(ua, .inr (1, [.ref ar, .int (nI cnt)])), (ar, .inl (g.2.2.1, 6, .inr (.inr (.inr (.inr rows))))), (h, .inr (0, [.int (nI rt), .int (nI lf), .ref pa, .ref da, .int (nI T), .int (nI P), .long (lN R0), .long xI, .long xP, .long xW, .long xG])), (pa, .inl (g.2.1, 120, .inl u)), (da, .inl (g.2.1, 121, .inl v))]) (wb := []) (vx_runV (As := [.int (nI j)]) (rest := []) ⟨hx, hb, hml, hown, hts⟩ (p_toCome l hst g ua ar cnt rows j h pa da rt lf T P R0 py I Pd Wn G xI xP xW xG u v hj hrow hZ hC H.size _ rfl) (cwV 1 hts gL_adds_X1_toCome rfl rfl rfl (by decide +kernel) ⟨Nat.le_of_ble_eq_true rfl, Nat.le_of_ble_eq_true rfl⟩) (zpreXV (wa := []) (wc := [(ua, .inr (1, [.ref ar, .int (nI cnt)])), (ar, .inl (g.2.2.1, 6, .inr (.inr (.inr (.inr rows))))), (h, .inr (0, [.int (nI rt), .int (nI lf), .ref pa, .ref da, .int (nI T), .int (nI P), .long (lN R0), .long xI, .long xP, .long xW, .long xG])), (pa, .inl (g.2.1, 120, .inl u)), (da, .inl (g.2.1, 121, .inl v))]) (wb := []) (q0 := 0) (ci := 1) (T := TX1) (N := 2) hK hP hD hS hA hX rfl rfl) rfl rfl hl.1 rfl (lv_room (Nat.le_of_ble_eq_true rfl)) dL_adds_41 ⟨Nat.le_of_ble_eq_true rfl, Nat.le_of_ble_eq_true rfl⟩) hP hD hS hA (fun E ce q9 H locs hE hP hD hS hc1 hc2 hc3 => ?_) (fun r_7 w1 H locs hq hP hD hS => ?_)
              · exact hE.elim
              · obtain ⟨rfl, rfl⟩ := hq
                have hP : va_P g.1 vwCl [(ua, .inr (1, [.ref ar, .int (nI cnt)])), (ar, .inl (g.2.2.1, 6, .inr (.inr (.inr (.inr rows))))), (h, .inr (0, [.int (nI rt), .int (nI lf), .ref pa, .ref da, .int (nI T), .int (nI P), .long (lN R0), .long xI, .long xP, .long xW, .long xG])), (pa, .inl (g.2.1, 120, .inl u)), (da, .inl (g.2.1, 121, .inl v))] H := hP
                have hD : va_D A [(ua, .inr (1, [.ref ar, .int (nI cnt)])), (ar, .inl (g.2.2.1, 6, .inr (.inr (.inr (.inr rows))))), (h, .inr (0, [.int (nI rt), .int (nI lf), .ref pa, .ref da, .int (nI T), .int (nI P), .long (lN R0), .long xI, .long xP, .long xW, .long xG])), (pa, .inl (g.2.1, 120, .inl u)), (da, .inl (g.2.1, 121, .inl v))] := hD
                refine z_if_ne (tgt := 51) hx hb dL_adds_44 (by decide) (by omega) (fun hc => ?_) (fun hc => ?_)
                · skip
                  refine lv_iconst (v := nI 0) hx hb dL_adds_51 (by decide) ?_
                  refine lv_istore (lv' := [(5, .int (nI 0)), (4, .int ((((nI (zWr rt py T (T - P))) + c0) + Pd) + G)), (3, .int (((nI R0) + Wn) + I)), (0, .ref ua), (1, .int (nI j)), (2, .int c0)]) hx hb dL_adds_52 hl (by decide) rfl (fun ls hl => ?_)
                  refine lv_iload_n hx hb dL_adds_54 rfl (lv_at hl 2 rfl) ?_
                  refine lv_iload hx hb dL_adds_55 (lv_at hl 1 rfl) ?_
                  refine lv_icmp_ne (tgt := 114) hx hb dL_adds_57 (by decide) (fun he => ?_) (fun he => ?_)
                  · exact absurd hsum he
                  · skip
                    refine lv_aload_n hx hb dL_adds_60 rfl (lv_at hl 3 rfl) ?_
                    refine lv_iload_n hx hb dL_adds_61 rfl (lv_at hl 4 rfl) ?_
                    refine z_axi (wa := []) (wc := [(ua, .inr (1, [.ref ar, .int (nI cnt)])), (ar, .inl (g.2.2.1, 6, .inr (.inr (.inr (.inr rows))))), (h, .inr (0, [.int (nI rt), .int (nI lf), .ref pa, .ref da, .int (nI T), .int (nI P), .long (lN R0), .long xI, .long xP, .long xW, .long xG])), (pa, .inl (g.2.1, 120, .inl u)), (da, .inl (g.2.1, 121, .inl v))]) (wb := []) (vx_runV (As := [.int (nI j)]) (rest := []) ⟨hx, hb, hml, hown, hts⟩ (p_debt l hst g ua ar cnt rows j h pa da rt lf T P R0 py I Pd Wn G xI xP xW xG u v hj hrow hZ hC H.size _ rfl) (cwV 1 hts gL_adds_X1_debt rfl rfl rfl (by decide +kernel) ⟨Nat.le_of_ble_eq_true rfl, Nat.le_of_ble_eq_true rfl⟩) (zpreXV (wa := []) (wc := [(ua, .inr (1, [.ref ar, .int (nI cnt)])), (ar, .inl (g.2.2.1, 6, .inr (.inr (.inr (.inr rows))))), (h, .inr (0, [.int (nI rt), .int (nI lf), .ref pa, .ref da, .int (nI T), .int (nI P), .long (lN R0), .long xI, .long xP, .long xW, .long xG])), (pa, .inl (g.2.1, 120, .inl u)), (da, .inl (g.2.1, 121, .inl v))]) (wb := []) (q0 := 0) (ci := 1) (T := TX1) (N := 2) hK hP hD hS hA hX rfl rfl) rfl rfl hl.1 rfl (lv_room (Nat.le_of_ble_eq_true rfl)) dL_adds_62 ⟨Nat.le_of_ble_eq_true rfl, Nat.le_of_ble_eq_true rfl⟩) hP hD hS hA (fun E ce q9 H locs hE hP hD hS hc1 hc2 hc3 => ?_) (fun r_8 w1 H locs hq hP hD hS => ?_)
                    · exact hE.elim
                    · obtain ⟨rfl, rfl⟩ := hq
                      have hP : va_P g.1 vwCl [(ua, .inr (1, [.ref ar, .int (nI cnt)])), (ar, .inl (g.2.2.1, 6, .inr (.inr (.inr (.inr rows))))), (h, .inr (0, [.int (nI rt), .int (nI lf), .ref pa, .ref da, .int (nI T), .int (nI P), .long (lN R0), .long xI, .long xP, .long xW, .long xG])), (pa, .inl (g.2.1, 120, .inl u)), (da, .inl (g.2.1, 121, .inl v))] H := hP
                      have hD : va_D A [(ua, .inr (1, [.ref ar, .int (nI cnt)])), (ar, .inl (g.2.2.1, 6, .inr (.inr (.inr (.inr rows))))), (h, .inr (0, [.int (nI rt), .int (nI lf), .ref pa, .ref da, .int (nI T), .int (nI P), .long (lN R0), .long xI, .long xP, .long xW, .long xG])), (pa, .inl (g.2.1, 120, .inl u)), (da, .inl (g.2.1, 121, .inl v))] := hD
                      refine lv_aload_n hx hb dL_adds_65 rfl (lv_at hl 3 rfl) ?_
                      refine lv_iload_n hx hb dL_adds_66 rfl (lv_at hl 4 rfl) ?_
                      refine z_axi (wa := []) (wc := [(ua, .inr (1, [.ref ar, .int (nI cnt)])), (ar, .inl (g.2.2.1, 6, .inr (.inr (.inr (.inr rows))))), (h, .inr (0, [.int (nI rt), .int (nI lf), .ref pa, .ref da, .int (nI T), .int (nI P), .long (lN R0), .long xI, .long xP, .long xW, .long xG])), (pa, .inl (g.2.1, 120, .inl u)), (da, .inl (g.2.1, 121, .inl v))]) (wb := []) (vx_runV (As := [.int (nI j)]) (rest := [.int (nI (zWr rt py T (T - P)))]) ⟨hx, hb, hml, hown, hts⟩ (p_debtByWorth l hst g ua ar cnt rows j h pa da rt lf T P R0 py I Pd Wn G xI xP xW xG u v hj hrow hZ hC H.size _ rfl) (cwV 1 hts gL_adds_X1_debtByWorth rfl rfl rfl (by decide +kernel) ⟨Nat.le_of_ble_eq_true rfl, Nat.le_of_ble_eq_true rfl⟩) (zpreXV (wa := []) (wc := [(ua, .inr (1, [.ref ar, .int (nI cnt)])), (ar, .inl (g.2.2.1, 6, .inr (.inr (.inr (.inr rows))))), (h, .inr (0, [.int (nI rt), .int (nI lf), .ref pa, .ref da, .int (nI T), .int (nI P), .long (lN R0), .long xI, .long xP, .long xW, .long xG])), (pa, .inl (g.2.1, 120, .inl u)), (da, .inl (g.2.1, 121, .inl v))]) (wb := []) (q0 := 0) (ci := 1) (T := TX1) (N := 2) hK hP hD hS hA hX rfl rfl) rfl rfl hl.1 rfl (lv_room (Nat.le_of_ble_eq_true rfl)) dL_adds_67 ⟨Nat.le_of_ble_eq_true rfl, Nat.le_of_ble_eq_true rfl⟩) hP hD hS hA (fun E ce q9 H locs hE hP hD hS hc1 hc2 hc3 => ?_) (fun r_9 w1 H locs hq hP hD hS => ?_)
                      · exact hE.elim
                      · obtain ⟨rfl, rfl⟩ := hq
                        have hP : va_P g.1 vwCl [(ua, .inr (1, [.ref ar, .int (nI cnt)])), (ar, .inl (g.2.2.1, 6, .inr (.inr (.inr (.inr rows))))), (h, .inr (0, [.int (nI rt), .int (nI lf), .ref pa, .ref da, .int (nI T), .int (nI P), .long (lN R0), .long xI, .long xP, .long xW, .long xG])), (pa, .inl (g.2.1, 120, .inl u)), (da, .inl (g.2.1, 121, .inl v))] H := hP
                        have hD : va_D A [(ua, .inr (1, [.ref ar, .int (nI cnt)])), (ar, .inl (g.2.2.1, 6, .inr (.inr (.inr (.inr rows))))), (h, .inr (0, [.int (nI rt), .int (nI lf), .ref pa, .ref da, .int (nI T), .int (nI P), .long (lN R0), .long xI, .long xP, .long xW, .long xG])), (pa, .inl (g.2.1, 120, .inl u)), (da, .inl (g.2.1, 121, .inl v))] := hD
                        refine z_icmp_ne (tgt := 114) hx hb dL_adds_70 (by decide) (by omega) (by omega) (fun hd => ?_) (fun hd => ?_)
                        · exact absurd rfl hd
                        · skip
                          refine lv_aload_n hx hb dL_adds_73 rfl (lv_at hl 3 rfl) ?_
                          refine lv_iload_n hx hb dL_adds_74 rfl (lv_at hl 4 rfl) ?_
                          refine z_axi (wa := []) (wc := [(ua, .inr (1, [.ref ar, .int (nI cnt)])), (ar, .inl (g.2.2.1, 6, .inr (.inr (.inr (.inr rows))))), (h, .inr (0, [.int (nI rt), .int (nI lf), .ref pa, .ref da, .int (nI T), .int (nI P), .long (lN R0), .long xI, .long xP, .long xW, .long xG])), (pa, .inl (g.2.1, 120, .inl u)), (da, .inl (g.2.1, 121, .inl v))]) (wb := []) (vx_runV (As := [.int (nI j)]) (rest := []) ⟨hx, hb, hml, hown, hts⟩ (p_right l hst g ua ar cnt rows j h pa da rt lf T P R0 py I Pd Wn G xI xP xW xG u v hj hrow hZ hC H.size _ rfl) (cwV 1 hts gL_adds_X1_right rfl rfl rfl (by decide +kernel) ⟨Nat.le_of_ble_eq_true rfl, Nat.le_of_ble_eq_true rfl⟩) (zpreXV (wa := []) (wc := [(ua, .inr (1, [.ref ar, .int (nI cnt)])), (ar, .inl (g.2.2.1, 6, .inr (.inr (.inr (.inr rows))))), (h, .inr (0, [.int (nI rt), .int (nI lf), .ref pa, .ref da, .int (nI T), .int (nI P), .long (lN R0), .long xI, .long xP, .long xW, .long xG])), (pa, .inl (g.2.1, 120, .inl u)), (da, .inl (g.2.1, 121, .inl v))]) (wb := []) (q0 := 0) (ci := 1) (T := TX1) (N := 2) hK hP hD hS hA hX rfl rfl) rfl rfl hl.1 rfl (lv_room (Nat.le_of_ble_eq_true rfl)) dL_adds_75 ⟨Nat.le_of_ble_eq_true rfl, Nat.le_of_ble_eq_true rfl⟩) hP hD hS hA (fun E ce q9 H locs hE hP hD hS hc1 hc2 hc3 => ?_) (fun r_10 w1 H locs hq hP hD hS => ?_)
                          · exact hE.elim
                          · obtain ⟨rfl, rfl⟩ := hq
                            have hP : va_P g.1 vwCl [(ua, .inr (1, [.ref ar, .int (nI cnt)])), (ar, .inl (g.2.2.1, 6, .inr (.inr (.inr (.inr rows))))), (h, .inr (0, [.int (nI rt), .int (nI lf), .ref pa, .ref da, .int (nI T), .int (nI P), .long (lN R0), .long xI, .long xP, .long xW, .long xG])), (pa, .inl (g.2.1, 120, .inl u)), (da, .inl (g.2.1, 121, .inl v))] H := hP
                            have hD : va_D A [(ua, .inr (1, [.ref ar, .int (nI cnt)])), (ar, .inl (g.2.2.1, 6, .inr (.inr (.inr (.inr rows))))), (h, .inr (0, [.int (nI rt), .int (nI lf), .ref pa, .ref da, .int (nI T), .int (nI P), .long (lN R0), .long xI, .long xP, .long xW, .long xG])), (pa, .inl (g.2.1, 120, .inl u)), (da, .inl (g.2.1, 121, .inl v))] := hD
                            refine z_if_lt (tgt := 114) hx hb dL_adds_78 (by decide) (by omega) (fun hr0 => ?_) (fun hr0 => ?_)
                            · exact hr0.elim
                            · skip
                              refine lv_aload_n hx hb dL_adds_81 rfl (lv_at hl 3 rfl) ?_
                              refine lv_iload_n hx hb dL_adds_82 rfl (lv_at hl 4 rfl) ?_
                              refine z_axi (wa := []) (wc := [(ua, .inr (1, [.ref ar, .int (nI cnt)])), (ar, .inl (g.2.2.1, 6, .inr (.inr (.inr (.inr rows))))), (h, .inr (0, [.int (nI rt), .int (nI lf), .ref pa, .ref da, .int (nI T), .int (nI P), .long (lN R0), .long xI, .long xP, .long xW, .long xG])), (pa, .inl (g.2.1, 120, .inl u)), (da, .inl (g.2.1, 121, .inl v))]) (wb := []) (vx_runV (As := [.int (nI j)]) (rest := []) ⟨hx, hb, hml, hown, hts⟩ (p_interest l hst g ua ar cnt rows j h pa da rt lf T P R0 py I Pd Wn G xI xP xW xG u v hj hrow hZ hC H.size _ rfl) (cwV 1 hts gL_adds_X1_interest rfl rfl rfl (by decide +kernel) ⟨Nat.le_of_ble_eq_true rfl, Nat.le_of_ble_eq_true rfl⟩) (zpreXV (wa := []) (wc := [(ua, .inr (1, [.ref ar, .int (nI cnt)])), (ar, .inl (g.2.2.1, 6, .inr (.inr (.inr (.inr rows))))), (h, .inr (0, [.int (nI rt), .int (nI lf), .ref pa, .ref da, .int (nI T), .int (nI P), .long (lN R0), .long xI, .long xP, .long xW, .long xG])), (pa, .inl (g.2.1, 120, .inl u)), (da, .inl (g.2.1, 121, .inl v))]) (wb := []) (q0 := 0) (ci := 1) (T := TX1) (N := 2) hK hP hD hS hA hX rfl rfl) rfl rfl hl.1 rfl (lv_room (Nat.le_of_ble_eq_true rfl)) dL_adds_83 ⟨Nat.le_of_ble_eq_true rfl, Nat.le_of_ble_eq_true rfl⟩) hP hD hS hA (fun E ce q9 H locs hE hP hD hS hc1 hc2 hc3 => ?_) (fun r_11 w1 H locs hq hP hD hS => ?_)
                              · exact hE.elim
                              · obtain ⟨e_r, rfl⟩ := hq
                                have hP : va_P g.1 vwCl [(ua, .inr (1, [.ref ar, .int (nI cnt)])), (ar, .inl (g.2.2.1, 6, .inr (.inr (.inr (.inr rows))))), (h, .inr (0, [.int (nI rt), .int (nI lf), .ref pa, .ref da, .int (nI T), .int (nI P), .long (lN R0), .long xI, .long xP, .long xW, .long xG])), (pa, .inl (g.2.1, 120, .inl u)), (da, .inl (g.2.1, 121, .inl v))] H := hP
                                have hD : va_D A [(ua, .inr (1, [.ref ar, .int (nI cnt)])), (ar, .inl (g.2.2.1, 6, .inr (.inr (.inr (.inr rows))))), (h, .inr (0, [.int (nI rt), .int (nI lf), .ref pa, .ref da, .int (nI T), .int (nI P), .long (lN R0), .long xI, .long xP, .long xW, .long xG])), (pa, .inl (g.2.1, 120, .inl u)), (da, .inl (g.2.1, 121, .inl v))] := hD
                                refine zi (y := I) (e_r) ?_
                                refine zi (y := nI ii) (hint) ?_
                                refine z_if_lt (tgt := 114) hx hb dL_adds_86 (by decide) (by omega) (fun hi0 => ?_) (fun hi0 => ?_)
                                · exact hi0.elim
                                · skip
                                  refine lv_iload hx hb dL_adds_89 (lv_at hl 0 rfl) ?_
                                  refine z_if_eq (tgt := 110) hx hb dL_adds_91 (by decide) (by decide) (fun _ => ?_) (fun h => absurd rfl h)
                                  refine lv_iconst (v := nI 1) hx hb dL_adds_110 (by decide) ?_
                                  refine lv_goto (tgt := 115) hx hb dL_adds_111 (by decide) ?_
                                  refine W.widen (k := 13) (n := 78) (by omega) (by omega) ?_
                                  exact z_zret hx hb hr (by decide) hP hK hD hS dL_adds_115 hlocks (⟨rfl, rfl⟩)
                · skip
                  refine lv_iconst (v := nI 1) hx hb dL_adds_47 (by decide) ?_
                  refine lv_goto (tgt := 52) hx hb dL_adds_48 (by decide) ?_
                  refine lv_istore (lv' := [(5, .int (nI 1)), (4, .int ((((nI (zWr rt py T (T - P))) + c0) + Pd) + G)), (3, .int (((nI R0) + Wn) + I)), (0, .ref ua), (1, .int (nI j)), (2, .int c0)]) hx hb dL_adds_52 hl (by decide) rfl (fun ls hl => ?_)
                  refine lv_iload_n hx hb dL_adds_54 rfl (lv_at hl 2 rfl) ?_
                  refine lv_iload hx hb dL_adds_55 (lv_at hl 1 rfl) ?_
                  refine lv_icmp_ne (tgt := 114) hx hb dL_adds_57 (by decide) (fun he => ?_) (fun he => ?_)
                  · exact absurd hsum he
                  · skip
                    refine lv_aload_n hx hb dL_adds_60 rfl (lv_at hl 3 rfl) ?_
                    refine lv_iload_n hx hb dL_adds_61 rfl (lv_at hl 4 rfl) ?_
                    refine z_axi (wa := []) (wc := [(ua, .inr (1, [.ref ar, .int (nI cnt)])), (ar, .inl (g.2.2.1, 6, .inr (.inr (.inr (.inr rows))))), (h, .inr (0, [.int (nI rt), .int (nI lf), .ref pa, .ref da, .int (nI T), .int (nI P), .long (lN R0), .long xI, .long xP, .long xW, .long xG])), (pa, .inl (g.2.1, 120, .inl u)), (da, .inl (g.2.1, 121, .inl v))]) (wb := []) (vx_runV (As := [.int (nI j)]) (rest := []) ⟨hx, hb, hml, hown, hts⟩ (p_debt l hst g ua ar cnt rows j h pa da rt lf T P R0 py I Pd Wn G xI xP xW xG u v hj hrow hZ hC H.size _ rfl) (cwV 1 hts gL_adds_X1_debt rfl rfl rfl (by decide +kernel) ⟨Nat.le_of_ble_eq_true rfl, Nat.le_of_ble_eq_true rfl⟩) (zpreXV (wa := []) (wc := [(ua, .inr (1, [.ref ar, .int (nI cnt)])), (ar, .inl (g.2.2.1, 6, .inr (.inr (.inr (.inr rows))))), (h, .inr (0, [.int (nI rt), .int (nI lf), .ref pa, .ref da, .int (nI T), .int (nI P), .long (lN R0), .long xI, .long xP, .long xW, .long xG])), (pa, .inl (g.2.1, 120, .inl u)), (da, .inl (g.2.1, 121, .inl v))]) (wb := []) (q0 := 0) (ci := 1) (T := TX1) (N := 2) hK hP hD hS hA hX rfl rfl) rfl rfl hl.1 rfl (lv_room (Nat.le_of_ble_eq_true rfl)) dL_adds_62 ⟨Nat.le_of_ble_eq_true rfl, Nat.le_of_ble_eq_true rfl⟩) hP hD hS hA (fun E ce q9 H locs hE hP hD hS hc1 hc2 hc3 => ?_) (fun r_8 w1 H locs hq hP hD hS => ?_)
                    · exact hE.elim
                    · obtain ⟨rfl, rfl⟩ := hq
                      have hP : va_P g.1 vwCl [(ua, .inr (1, [.ref ar, .int (nI cnt)])), (ar, .inl (g.2.2.1, 6, .inr (.inr (.inr (.inr rows))))), (h, .inr (0, [.int (nI rt), .int (nI lf), .ref pa, .ref da, .int (nI T), .int (nI P), .long (lN R0), .long xI, .long xP, .long xW, .long xG])), (pa, .inl (g.2.1, 120, .inl u)), (da, .inl (g.2.1, 121, .inl v))] H := hP
                      have hD : va_D A [(ua, .inr (1, [.ref ar, .int (nI cnt)])), (ar, .inl (g.2.2.1, 6, .inr (.inr (.inr (.inr rows))))), (h, .inr (0, [.int (nI rt), .int (nI lf), .ref pa, .ref da, .int (nI T), .int (nI P), .long (lN R0), .long xI, .long xP, .long xW, .long xG])), (pa, .inl (g.2.1, 120, .inl u)), (da, .inl (g.2.1, 121, .inl v))] := hD
                      refine lv_aload_n hx hb dL_adds_65 rfl (lv_at hl 3 rfl) ?_
                      refine lv_iload_n hx hb dL_adds_66 rfl (lv_at hl 4 rfl) ?_
                      refine z_axi (wa := []) (wc := [(ua, .inr (1, [.ref ar, .int (nI cnt)])), (ar, .inl (g.2.2.1, 6, .inr (.inr (.inr (.inr rows))))), (h, .inr (0, [.int (nI rt), .int (nI lf), .ref pa, .ref da, .int (nI T), .int (nI P), .long (lN R0), .long xI, .long xP, .long xW, .long xG])), (pa, .inl (g.2.1, 120, .inl u)), (da, .inl (g.2.1, 121, .inl v))]) (wb := []) (vx_runV (As := [.int (nI j)]) (rest := [.int (nI (zWr rt py T (T - P)))]) ⟨hx, hb, hml, hown, hts⟩ (p_debtByWorth l hst g ua ar cnt rows j h pa da rt lf T P R0 py I Pd Wn G xI xP xW xG u v hj hrow hZ hC H.size _ rfl) (cwV 1 hts gL_adds_X1_debtByWorth rfl rfl rfl (by decide +kernel) ⟨Nat.le_of_ble_eq_true rfl, Nat.le_of_ble_eq_true rfl⟩) (zpreXV (wa := []) (wc := [(ua, .inr (1, [.ref ar, .int (nI cnt)])), (ar, .inl (g.2.2.1, 6, .inr (.inr (.inr (.inr rows))))), (h, .inr (0, [.int (nI rt), .int (nI lf), .ref pa, .ref da, .int (nI T), .int (nI P), .long (lN R0), .long xI, .long xP, .long xW, .long xG])), (pa, .inl (g.2.1, 120, .inl u)), (da, .inl (g.2.1, 121, .inl v))]) (wb := []) (q0 := 0) (ci := 1) (T := TX1) (N := 2) hK hP hD hS hA hX rfl rfl) rfl rfl hl.1 rfl (lv_room (Nat.le_of_ble_eq_true rfl)) dL_adds_67 ⟨Nat.le_of_ble_eq_true rfl, Nat.le_of_ble_eq_true rfl⟩) hP hD hS hA (fun E ce q9 H locs hE hP hD hS hc1 hc2 hc3 => ?_) (fun r_9 w1 H locs hq hP hD hS => ?_)
                      · exact hE.elim
                      · obtain ⟨rfl, rfl⟩ := hq
                        have hP : va_P g.1 vwCl [(ua, .inr (1, [.ref ar, .int (nI cnt)])), (ar, .inl (g.2.2.1, 6, .inr (.inr (.inr (.inr rows))))), (h, .inr (0, [.int (nI rt), .int (nI lf), .ref pa, .ref da, .int (nI T), .int (nI P), .long (lN R0), .long xI, .long xP, .long xW, .long xG])), (pa, .inl (g.2.1, 120, .inl u)), (da, .inl (g.2.1, 121, .inl v))] H := hP
                        have hD : va_D A [(ua, .inr (1, [.ref ar, .int (nI cnt)])), (ar, .inl (g.2.2.1, 6, .inr (.inr (.inr (.inr rows))))), (h, .inr (0, [.int (nI rt), .int (nI lf), .ref pa, .ref da, .int (nI T), .int (nI P), .long (lN R0), .long xI, .long xP, .long xW, .long xG])), (pa, .inl (g.2.1, 120, .inl u)), (da, .inl (g.2.1, 121, .inl v))] := hD
                        refine z_icmp_ne (tgt := 114) hx hb dL_adds_70 (by decide) (by omega) (by omega) (fun hd => ?_) (fun hd => ?_)
                        · exact absurd rfl hd
                        · skip
                          refine lv_aload_n hx hb dL_adds_73 rfl (lv_at hl 3 rfl) ?_
                          refine lv_iload_n hx hb dL_adds_74 rfl (lv_at hl 4 rfl) ?_
                          refine z_axi (wa := []) (wc := [(ua, .inr (1, [.ref ar, .int (nI cnt)])), (ar, .inl (g.2.2.1, 6, .inr (.inr (.inr (.inr rows))))), (h, .inr (0, [.int (nI rt), .int (nI lf), .ref pa, .ref da, .int (nI T), .int (nI P), .long (lN R0), .long xI, .long xP, .long xW, .long xG])), (pa, .inl (g.2.1, 120, .inl u)), (da, .inl (g.2.1, 121, .inl v))]) (wb := []) (vx_runV (As := [.int (nI j)]) (rest := []) ⟨hx, hb, hml, hown, hts⟩ (p_right l hst g ua ar cnt rows j h pa da rt lf T P R0 py I Pd Wn G xI xP xW xG u v hj hrow hZ hC H.size _ rfl) (cwV 1 hts gL_adds_X1_right rfl rfl rfl (by decide +kernel) ⟨Nat.le_of_ble_eq_true rfl, Nat.le_of_ble_eq_true rfl⟩) (zpreXV (wa := []) (wc := [(ua, .inr (1, [.ref ar, .int (nI cnt)])), (ar, .inl (g.2.2.1, 6, .inr (.inr (.inr (.inr rows))))), (h, .inr (0, [.int (nI rt), .int (nI lf), .ref pa, .ref da, .int (nI T), .int (nI P), .long (lN R0), .long xI, .long xP, .long xW, .long xG])), (pa, .inl (g.2.1, 120, .inl u)), (da, .inl (g.2.1, 121, .inl v))]) (wb := []) (q0 := 0) (ci := 1) (T := TX1) (N := 2) hK hP hD hS hA hX rfl rfl) rfl rfl hl.1 rfl (lv_room (Nat.le_of_ble_eq_true rfl)) dL_adds_75 ⟨Nat.le_of_ble_eq_true rfl, Nat.le_of_ble_eq_true rfl⟩) hP hD hS hA (fun E ce q9 H locs hE hP hD hS hc1 hc2 hc3 => ?_) (fun r_10 w1 H locs hq hP hD hS => ?_)
                          · exact hE.elim
                          · obtain ⟨rfl, rfl⟩ := hq
                            have hP : va_P g.1 vwCl [(ua, .inr (1, [.ref ar, .int (nI cnt)])), (ar, .inl (g.2.2.1, 6, .inr (.inr (.inr (.inr rows))))), (h, .inr (0, [.int (nI rt), .int (nI lf), .ref pa, .ref da, .int (nI T), .int (nI P), .long (lN R0), .long xI, .long xP, .long xW, .long xG])), (pa, .inl (g.2.1, 120, .inl u)), (da, .inl (g.2.1, 121, .inl v))] H := hP
                            have hD : va_D A [(ua, .inr (1, [.ref ar, .int (nI cnt)])), (ar, .inl (g.2.2.1, 6, .inr (.inr (.inr (.inr rows))))), (h, .inr (0, [.int (nI rt), .int (nI lf), .ref pa, .ref da, .int (nI T), .int (nI P), .long (lN R0), .long xI, .long xP, .long xW, .long xG])), (pa, .inl (g.2.1, 120, .inl u)), (da, .inl (g.2.1, 121, .inl v))] := hD
                            refine z_if_lt (tgt := 114) hx hb dL_adds_78 (by decide) (by omega) (fun hr0 => ?_) (fun hr0 => ?_)
                            · exact hr0.elim
                            · skip
                              refine lv_aload_n hx hb dL_adds_81 rfl (lv_at hl 3 rfl) ?_
                              refine lv_iload_n hx hb dL_adds_82 rfl (lv_at hl 4 rfl) ?_
                              refine z_axi (wa := []) (wc := [(ua, .inr (1, [.ref ar, .int (nI cnt)])), (ar, .inl (g.2.2.1, 6, .inr (.inr (.inr (.inr rows))))), (h, .inr (0, [.int (nI rt), .int (nI lf), .ref pa, .ref da, .int (nI T), .int (nI P), .long (lN R0), .long xI, .long xP, .long xW, .long xG])), (pa, .inl (g.2.1, 120, .inl u)), (da, .inl (g.2.1, 121, .inl v))]) (wb := []) (vx_runV (As := [.int (nI j)]) (rest := []) ⟨hx, hb, hml, hown, hts⟩ (p_interest l hst g ua ar cnt rows j h pa da rt lf T P R0 py I Pd Wn G xI xP xW xG u v hj hrow hZ hC H.size _ rfl) (cwV 1 hts gL_adds_X1_interest rfl rfl rfl (by decide +kernel) ⟨Nat.le_of_ble_eq_true rfl, Nat.le_of_ble_eq_true rfl⟩) (zpreXV (wa := []) (wc := [(ua, .inr (1, [.ref ar, .int (nI cnt)])), (ar, .inl (g.2.2.1, 6, .inr (.inr (.inr (.inr rows))))), (h, .inr (0, [.int (nI rt), .int (nI lf), .ref pa, .ref da, .int (nI T), .int (nI P), .long (lN R0), .long xI, .long xP, .long xW, .long xG])), (pa, .inl (g.2.1, 120, .inl u)), (da, .inl (g.2.1, 121, .inl v))]) (wb := []) (q0 := 0) (ci := 1) (T := TX1) (N := 2) hK hP hD hS hA hX rfl rfl) rfl rfl hl.1 rfl (lv_room (Nat.le_of_ble_eq_true rfl)) dL_adds_83 ⟨Nat.le_of_ble_eq_true rfl, Nat.le_of_ble_eq_true rfl⟩) hP hD hS hA (fun E ce q9 H locs hE hP hD hS hc1 hc2 hc3 => ?_) (fun r_11 w1 H locs hq hP hD hS => ?_)
                              · exact hE.elim
                              · obtain ⟨e_r, rfl⟩ := hq
                                have hP : va_P g.1 vwCl [(ua, .inr (1, [.ref ar, .int (nI cnt)])), (ar, .inl (g.2.2.1, 6, .inr (.inr (.inr (.inr rows))))), (h, .inr (0, [.int (nI rt), .int (nI lf), .ref pa, .ref da, .int (nI T), .int (nI P), .long (lN R0), .long xI, .long xP, .long xW, .long xG])), (pa, .inl (g.2.1, 120, .inl u)), (da, .inl (g.2.1, 121, .inl v))] H := hP
                                have hD : va_D A [(ua, .inr (1, [.ref ar, .int (nI cnt)])), (ar, .inl (g.2.2.1, 6, .inr (.inr (.inr (.inr rows))))), (h, .inr (0, [.int (nI rt), .int (nI lf), .ref pa, .ref da, .int (nI T), .int (nI P), .long (lN R0), .long xI, .long xP, .long xW, .long xG])), (pa, .inl (g.2.1, 120, .inl u)), (da, .inl (g.2.1, 121, .inl v))] := hD
                                refine zi (y := I) (e_r) ?_
                                refine zi (y := nI ii) (hint) ?_
                                refine z_if_lt (tgt := 114) hx hb dL_adds_86 (by decide) (by omega) (fun hi0 => ?_) (fun hi0 => ?_)
                                · exact hi0.elim
                                · skip
                                  refine lv_iload hx hb dL_adds_89 (lv_at hl 0 rfl) ?_
                                  refine z_if_eq (tgt := 110) hx hb dL_adds_91 (by decide) (by decide) (fun h => absurd h (by decide)) (fun _ => ?_)
                                  refine lv_aload_n hx hb dL_adds_94 rfl (lv_at hl 3 rfl) ?_
                                  refine lv_iload_n hx hb dL_adds_95 rfl (lv_at hl 4 rfl) ?_
                                  refine z_axi (wa := []) (wc := [(ua, .inr (1, [.ref ar, .int (nI cnt)])), (ar, .inl (g.2.2.1, 6, .inr (.inr (.inr (.inr rows))))), (h, .inr (0, [.int (nI rt), .int (nI lf), .ref pa, .ref da, .int (nI T), .int (nI P), .long (lN R0), .long xI, .long xP, .long xW, .long xG])), (pa, .inl (g.2.1, 120, .inl u)), (da, .inl (g.2.1, 121, .inl v))]) (wb := []) (vx_runV (As := [.int (nI j)]) (rest := []) ⟨hx, hb, hml, hown, hts⟩ (p_debt l hst g ua ar cnt rows j h pa da rt lf T P R0 py I Pd Wn G xI xP xW xG u v hj hrow hZ hC H.size _ rfl) (cwV 1 hts gL_adds_X1_debt rfl rfl rfl (by decide +kernel) ⟨Nat.le_of_ble_eq_true rfl, Nat.le_of_ble_eq_true rfl⟩) (zpreXV (wa := []) (wc := [(ua, .inr (1, [.ref ar, .int (nI cnt)])), (ar, .inl (g.2.2.1, 6, .inr (.inr (.inr (.inr rows))))), (h, .inr (0, [.int (nI rt), .int (nI lf), .ref pa, .ref da, .int (nI T), .int (nI P), .long (lN R0), .long xI, .long xP, .long xW, .long xG])), (pa, .inl (g.2.1, 120, .inl u)), (da, .inl (g.2.1, 121, .inl v))]) (wb := []) (q0 := 0) (ci := 1) (T := TX1) (N := 2) hK hP hD hS hA hX rfl rfl) rfl rfl hl.1 rfl (lv_room (Nat.le_of_ble_eq_true rfl)) dL_adds_96 ⟨Nat.le_of_ble_eq_true rfl, Nat.le_of_ble_eq_true rfl⟩) hP hD hS hA (fun E ce q9 H locs hE hP hD hS hc1 hc2 hc3 => ?_) (fun r_12 w1 H locs hq hP hD hS => ?_)
                                  · exact hE.elim
                                  · obtain ⟨rfl, rfl⟩ := hq
                                    have hP : va_P g.1 vwCl [(ua, .inr (1, [.ref ar, .int (nI cnt)])), (ar, .inl (g.2.2.1, 6, .inr (.inr (.inr (.inr rows))))), (h, .inr (0, [.int (nI rt), .int (nI lf), .ref pa, .ref da, .int (nI T), .int (nI P), .long (lN R0), .long xI, .long xP, .long xW, .long xG])), (pa, .inl (g.2.1, 120, .inl u)), (da, .inl (g.2.1, 121, .inl v))] H := hP
                                    have hD : va_D A [(ua, .inr (1, [.ref ar, .int (nI cnt)])), (ar, .inl (g.2.2.1, 6, .inr (.inr (.inr (.inr rows))))), (h, .inr (0, [.int (nI rt), .int (nI lf), .ref pa, .ref da, .int (nI T), .int (nI P), .long (lN R0), .long xI, .long xP, .long xW, .long xG])), (pa, .inl (g.2.1, 120, .inl u)), (da, .inl (g.2.1, 121, .inl v))] := hD
                                    refine zi (y := nI 0) (by rw [show T - P = 0 by omega]; rfl) ?_
                                    refine z_if_ne (tgt := 114) hx hb dL_adds_99 (by decide) (by decide) (fun h => absurd rfl h) (fun _ => ?_)
                                    refine lv_aload_n hx hb dL_adds_102 rfl (lv_at hl 3 rfl) ?_
                                    refine lv_iload_n hx hb dL_adds_103 rfl (lv_at hl 4 rfl) ?_
                                    refine z_axi (wa := []) (wc := [(ua, .inr (1, [.ref ar, .int (nI cnt)])), (ar, .inl (g.2.2.1, 6, .inr (.inr (.inr (.inr rows))))), (h, .inr (0, [.int (nI rt), .int (nI lf), .ref pa, .ref da, .int (nI T), .int (nI P), .long (lN R0), .long xI, .long xP, .long xW, .long xG])), (pa, .inl (g.2.1, 120, .inl u)), (da, .inl (g.2.1, 121, .inl v))]) (wb := []) (vx_runV (As := [.int (nI j)]) (rest := []) ⟨hx, hb, hml, hown, hts⟩ (p_right l hst g ua ar cnt rows j h pa da rt lf T P R0 py I Pd Wn G xI xP xW xG u v hj hrow hZ hC H.size _ rfl) (cwV 1 hts gL_adds_X1_right rfl rfl rfl (by decide +kernel) ⟨Nat.le_of_ble_eq_true rfl, Nat.le_of_ble_eq_true rfl⟩) (zpreXV (wa := []) (wc := [(ua, .inr (1, [.ref ar, .int (nI cnt)])), (ar, .inl (g.2.2.1, 6, .inr (.inr (.inr (.inr rows))))), (h, .inr (0, [.int (nI rt), .int (nI lf), .ref pa, .ref da, .int (nI T), .int (nI P), .long (lN R0), .long xI, .long xP, .long xW, .long xG])), (pa, .inl (g.2.1, 120, .inl u)), (da, .inl (g.2.1, 121, .inl v))]) (wb := []) (q0 := 0) (ci := 1) (T := TX1) (N := 2) hK hP hD hS hA hX rfl rfl) rfl rfl hl.1 rfl (lv_room (Nat.le_of_ble_eq_true rfl)) dL_adds_104 ⟨Nat.le_of_ble_eq_true rfl, Nat.le_of_ble_eq_true rfl⟩) hP hD hS hA (fun E ce q9 H locs hE hP hD hS hc1 hc2 hc3 => ?_) (fun r_13 w1 H locs hq hP hD hS => ?_)
                                    · exact hE.elim
                                    · obtain ⟨rfl, rfl⟩ := hq
                                      have hP : va_P g.1 vwCl [(ua, .inr (1, [.ref ar, .int (nI cnt)])), (ar, .inl (g.2.2.1, 6, .inr (.inr (.inr (.inr rows))))), (h, .inr (0, [.int (nI rt), .int (nI lf), .ref pa, .ref da, .int (nI T), .int (nI P), .long (lN R0), .long xI, .long xP, .long xW, .long xG])), (pa, .inl (g.2.1, 120, .inl u)), (da, .inl (g.2.1, 121, .inl v))] H := hP
                                      have hD : va_D A [(ua, .inr (1, [.ref ar, .int (nI cnt)])), (ar, .inl (g.2.2.1, 6, .inr (.inr (.inr (.inr rows))))), (h, .inr (0, [.int (nI rt), .int (nI lf), .ref pa, .ref da, .int (nI T), .int (nI P), .long (lN R0), .long xI, .long xP, .long xW, .long xG])), (pa, .inl (g.2.1, 120, .inl u)), (da, .inl (g.2.1, 121, .inl v))] := hD
                                      refine zi (y := nI 0) (by rw [hover (by omega)]) ?_
                                      refine z_if_ne (tgt := 114) hx hb dL_adds_107 (by decide) (by decide) (fun h => absurd rfl h) (fun _ => ?_)
                                      refine lv_iconst (v := nI 1) hx hb dL_adds_110 (by decide) ?_
                                      refine lv_goto (tgt := 115) hx hb dL_adds_111 (by decide) ?_
                                      exact z_zret hx hb hr (by decide) hP hK hD hS dL_adds_115 hlocks (⟨rfl, rfl⟩)
end
section
/-! p20: each call, over all leases -/
abbrev zUs (g : zG) (ua ar cnt : Nat) (rows : Nat → Option Nat) : va_W := [(ua, .inr (1, [.ref ar, .int (nI cnt)])), (ar, .inl (g.2.2.1, 6, .inr (.inr (.inr (.inr rows)))))]
/-- the law's cells between two acts -/
abbrev zPw (g : zG) (ua ar co mo cnt : Nat) (rows : Nat → Option Nat) (cs ms : Nat → Int32) (aa : Nat → Nat × Nat × Nat) (rr ff : Nat → Nat) (zz : Nat → zS) (qq : Nat → zRaw) : va_W := [(ua, .inr (1, [.ref ar, .int (nI cnt)])), (ar, .inl (g.2.2.1, 6, .inr (.inr (.inr (.inr rows))))), (co, .inl (g.2.1, 6, .inl cs)), (mo, .inl (g.2.1, 6, .inl ms))] ++ zLs g cnt aa rr ff zz qq
/-- what holds between two acts -/
def zTw (cnt : Nat) (rows : Nat → Option Nat) (cs ms : Nat → Int32) (aa : Nat → Nat × Nat × Nat) (rr ff : Nat → Nat) (zz : Nat → zS) (qq : Nat → zRaw) (rv : Nat) : Prop := cnt ≤ 6 ∧ rv ≤ 8 ∧ (∀ k, k < cnt → rows k = some (aa k).1) ∧ (∀ k, cnt ≤ k → k < 6 → rows k = none) ∧ (∀ k, k < cnt → zInv (rr k) (ff k) (zz k)) ∧ (∀ k, k < cnt → zCR (rr k) (zz k) (qq k)) ∧ (∀ k, k < cnt → zLk (rr k) (cs k) rv (zz k)) ∧ ∀ k, k < cnt → ms k = nI (zz k).1
theorem z_perm5 (U V Y X B : va_W) : (((U ++ V) ++ Y) ++ X ++ B).Perm ((U ++ X) ++ (V ++ Y ++ B)) := by
  simp only [List.append_assoc]
  refine List.Perm.append_left U ?_
  exact (List.Perm.append_left V (List.perm_append_comm_assoc Y X B)).trans (List.perm_append_comm_assoc V X _)
theorem z_lift {l : Launch} {y : MethodName} {wsy : List Cond} {rm : Room} {av : List Value} {g : zG} {ua ar co mo cnt : Nat} {rows : Nat → Option Nat} {cs ms : Nat → Int32} {aa : Nat → Nat × Nat × Nat} {rr ff : Nat → Nat} {zz : Nat → zS} {qq : Nat → zRaw} {k c1 s1 : Nat} {GD : Int32 → zS → Prop} (hk : k < cnt)
    (hp : zWi l y wsy rm av g (zUs g ua ar cnt rows ++ zLW g (aa k) (rr k) (ff k) (zz k) (qq k)) (fun r w => ∃ (z' : zS) (q' : zRaw), GD r z' ∧ w = zUs g ua ar cnt rows ++ zLW g (aa k) (rr k) (ff k) z' q' ∧ zCR (rr k) z' q') c1 s1) :
    zWi l y wsy rm av g (zPw g ua ar co mo cnt rows cs ms aa rr ff zz qq) (fun r w => ∃ (z' : zS) (q' : zRaw), GD r z' ∧ w = zPw g ua ar co mo cnt rows cs ms aa rr ff (va_up zz k z') (va_up qq k q') ∧ zCR (rr k) z' q') c1 s1 := by
  have e : ∀ zz1 qq1, zPw g ua ar co mo cnt rows cs ms aa rr ff zz1 qq1 = (zUs g ua ar cnt rows ++ [(co, .inl (g.2.1, 6, .inl cs)), (mo, .inl (g.2.1, 6, .inl ms))]) ++ zLs g cnt aa rr ff zz1 qq1 := fun _ _ => rfl
  refine zWi.frame (wx := [(co, .inl (g.2.1, 6, .inl cs)), (mo, .inl (g.2.1, 6, .inl ms))] ++ zLs g k aa rr ff zz qq ++ zLt g (k + 1) (cnt - (k + 1)) aa rr ff zz qq) ?_ hp ?_
  · rw [e, zLs_at hk]
    exact z_perm5 _ _ _ _ _
  · rintro r w1 ⟨z', q', hg, ew, hcr⟩
    refine ⟨zPw g ua ar co mo cnt rows cs ms aa rr ff (va_up zz k z') (va_up qq k q'), ?_, z', q', hg, rfl, hcr⟩
    rw [ew, e, ← zLs_put hk]
    exact z_perm5 _ _ _ _ _
theorem z_lift0 {l : Launch} {y : MethodName} {wsy : List Cond} {rm : Room} {av : List Value} {g : zG} {ua ar co mo cnt : Nat} {rows : Nat → Option Nat} {cs ms : Nat → Int32} {aa : Nat → Nat × Nat × Nat} {rr ff : Nat → Nat} {zz : Nat → zS} {qq : Nat → zRaw} {k c1 s1 : Nat} {v : Int32} (hk : k < cnt)
    (hp : zWi l y wsy rm av g (zUs g ua ar cnt rows ++ zLW g (aa k) (rr k) (ff k) (zz k) (qq k)) (fun r w => r = v ∧ w = zUs g ua ar cnt rows ++ zLW g (aa k) (rr k) (ff k) (zz k) (qq k)) c1 s1) :
    zWi l y wsy rm av g (zPw g ua ar co mo cnt rows cs ms aa rr ff zz qq) (fun r w => r = v ∧ w = zPw g ua ar co mo cnt rows cs ms aa rr ff zz qq) c1 s1 := by
  have e : zPw g ua ar co mo cnt rows cs ms aa rr ff zz qq = (zUs g ua ar cnt rows ++ [(co, .inl (g.2.1, 6, .inl cs)), (mo, .inl (g.2.1, 6, .inl ms))]) ++ zLs g cnt aa rr ff zz qq := rfl
  refine zWi.frame (wx := [(co, .inl (g.2.1, 6, .inl cs)), (mo, .inl (g.2.1, 6, .inl ms))] ++ zLs g k aa rr ff zz qq ++ zLt g (k + 1) (cnt - (k + 1)) aa rr ff zz qq) ?_ hp ?_
  · rw [e, zLs_at hk]
    exact z_perm5 _ _ _ _ _
  · rintro r w1 ⟨er, ew⟩
    refine ⟨zPw g ua ar co mo cnt rows cs ms aa rr ff zz qq, ?_, er, rfl⟩
    rw [ew, e, zLs_at hk]
    exact z_perm5 _ _ _ _ _
theorem zTw.up {cnt : Nat} {rows : Nat → Option Nat} {cs ms : Nat → Int32} {aa : Nat → Nat × Nat × Nat} {rr ff : Nat → Nat} {zz : Nat → zS} {qq : Nat → zRaw} {rv : Nat} (h : zTw cnt rows cs ms aa rr ff zz qq rv) {j rv' : Nat} {z' : zS} {q' : zRaw} {ms' : Nat → Int32} (hZ : zInv (rr j) (ff j) z') (hC : zCR (rr j) z' q') (hL : zLk (rr j) (cs j) rv' z') (hrv : rv ≤ rv') (h8 : rv' ≤ 8) (hm : ms' j = nI z'.1) (hms : ∀ i, i ≠ j → ms' i = ms i) : zTw cnt rows cs ms' aa rr ff (va_up zz j z') (va_up qq j q') rv' := by
  obtain ⟨i1, i2, i3, i4, i5, i6, i7, i8⟩ := h
  refine ⟨i1, h8, i3, i4, fun k hk => ?_, fun k hk => ?_, fun k hk => ?_, fun k hk => ?_⟩ <;> by_cases e : k = j
  · subst e; rw [va_up_self]; exact hZ
  · rw [va_up_ne _ _ e]; exact i5 k hk
  · subst e; rw [va_up_self, va_up_self]; exact hC
  · rw [va_up_ne _ _ e, va_up_ne _ _ e]; exact i6 k hk
  · subst e; rw [va_up_self]; exact hL
  · rw [va_up_ne _ _ e]; exact zLk_up hrv (i7 k hk)
  · subst e; rw [va_up_self]; exact hm
  · rw [va_up_ne _ _ e, hms k e]; exact i8 k hk
theorem z_gsub (x y : Int32) : x + y - x = y := by grind
theorem z_pas {r f k : Nat} {z : zS} (h : zInv r f z) : z.2.1 + min k (z.1 - z.2.1) ≤ z.1 := by
  obtain ⟨T, P, p, R, I, Pd, W, G⟩ := z
  have : P ≤ T := h.2.1
  dsimp only
  omega
theorem t_toCome (l : Launch) (hst : l.stackTraces = false) (g : zG) (ua ar cnt : Nat) (rows : Nat → Option Nat) (j : Nat) (a : Nat × Nat × Nat) (rt lf : Nat) (z : zS) (q : zRaw) (hj : j < 6) (hrow : rows j = some a.1) (hZ : zInv rt lf z) (hC : zCR rt z q) : zWi l yX1_toCome wsX1_toCome ({ frames := 7, cells := 1, slots := 6, locals := 125 } : Room) [.ref ua, .int (nI j)] g (zUs g ua ar cnt rows ++ zLW g a rt lf z q) (fun r w => r = nI (z.1 - z.2.1) ∧ w = zUs g ua ar cnt rows ++ zLW g a rt lf z q) 1 6 := by
  obtain ⟨h, pa, da⟩ := a
  obtain ⟨T, P, py, R0, I, Pd, Wn, G⟩ := z
  obtain ⟨xI, xP, xW, xG, u, v0⟩ := q
  exact zXi.to (p_toCome l hst g ua ar cnt rows j h pa da rt lf T P R0 py I Pd Wn G xI xP xW xG u v0 hj hrow hZ hC) (fun E h => h)
theorem K_toCome (l : Launch) (hst : l.stackTraces = false) (g : zG) (ua ar co mo cnt : Nat) (rows : Nat → Option Nat) (cs ms : Nat → Int32) (aa : Nat → Nat × Nat × Nat) (rr ff : Nat → Nat) (zz : Nat → zS) (qq : Nat → zRaw) {rv : Nat} (j : Nat) (hj : j < cnt) (hT : zTw cnt rows cs ms aa rr ff zz qq rv) : zWi l yX1_toCome wsX1_toCome ({ frames := 7, cells := 1, slots := 6, locals := 125 } : Room) [.ref ua, .int (nI j)] g (zPw g ua ar co mo cnt rows cs ms aa rr ff zz qq) (fun r w => r = nI ((zz j).1 - (zz j).2.1) ∧ w = zPw g ua ar co mo cnt rows cs ms aa rr ff zz qq) 1 6 := by
  obtain ⟨i1, i2, i3, i4, i5, i6, i7, i8⟩ := hT
  exact z_lift0 hj (t_toCome l hst g ua ar cnt rows j _ _ _ _ _ (Nat.lt_of_lt_of_le hj i1) (i3 j hj) (i5 j hj) (i6 j hj))
theorem t_debt (l : Launch) (hst : l.stackTraces = false) (g : zG) (ua ar cnt : Nat) (rows : Nat → Option Nat) (j : Nat) (a : Nat × Nat × Nat) (rt lf : Nat) (z : zS) (q : zRaw) (hj : j < 6) (hrow : rows j = some a.1) (hZ : zInv rt lf z) (hC : zCR rt z q) : zWi l yX1_debt wsX1_debt ({ frames := 7, cells := 1, slots := 6, locals := 125 } : Room) [.ref ua, .int (nI j)] g (zUs g ua ar cnt rows ++ zLW g a rt lf z q) (fun r w => r = nI (zD rt z) ∧ w = zUs g ua ar cnt rows ++ zLW g a rt lf z q) 1 6 := by
  obtain ⟨h, pa, da⟩ := a
  obtain ⟨T, P, py, R0, I, Pd, Wn, G⟩ := z
  obtain ⟨xI, xP, xW, xG, u, v0⟩ := q
  exact zXi.to (p_debt l hst g ua ar cnt rows j h pa da rt lf T P R0 py I Pd Wn G xI xP xW xG u v0 hj hrow hZ hC) (fun E h => h)
theorem K_debt (l : Launch) (hst : l.stackTraces = false) (g : zG) (ua ar co mo cnt : Nat) (rows : Nat → Option Nat) (cs ms : Nat → Int32) (aa : Nat → Nat × Nat × Nat) (rr ff : Nat → Nat) (zz : Nat → zS) (qq : Nat → zRaw) {rv : Nat} (j : Nat) (hj : j < cnt) (hT : zTw cnt rows cs ms aa rr ff zz qq rv) : zWi l yX1_debt wsX1_debt ({ frames := 7, cells := 1, slots := 6, locals := 125 } : Room) [.ref ua, .int (nI j)] g (zPw g ua ar co mo cnt rows cs ms aa rr ff zz qq) (fun r w => r = nI (zD (rr j) (zz j)) ∧ w = zPw g ua ar co mo cnt rows cs ms aa rr ff zz qq) 1 6 := by
  obtain ⟨i1, i2, i3, i4, i5, i6, i7, i8⟩ := hT
  exact z_lift0 hj (t_debt l hst g ua ar cnt rows j _ _ _ _ _ (Nat.lt_of_lt_of_le hj i1) (i3 j hj) (i5 j hj) (i6 j hj))
theorem t_gains (l : Launch) (hst : l.stackTraces = false) (g : zG) (ua ar cnt : Nat) (rows : Nat → Option Nat) (j : Nat) (a : Nat × Nat × Nat) (rt lf : Nat) (z : zS) (q : zRaw) (hj : j < 6) (hrow : rows j = some a.1) (hZ : zInv rt lf z) (hC : zCR rt z q) : zWi l yX1_gains wsX1_gains ({ frames := 7, cells := 1, slots := 6, locals := 125 } : Room) [.ref ua, .int (nI j)] g (zUs g ua ar cnt rows ++ zLW g a rt lf z q) (fun r w => r = zGA z ∧ w = zUs g ua ar cnt rows ++ zLW g a rt lf z q) 1 6 := by
  obtain ⟨h, pa, da⟩ := a
  obtain ⟨T, P, py, R0, I, Pd, Wn, G⟩ := z
  obtain ⟨xI, xP, xW, xG, u, v0⟩ := q
  exact zXi.to (p_gains l hst g ua ar cnt rows j h pa da rt lf T P R0 py I Pd Wn G xI xP xW xG u v0 hj hrow hZ hC) (fun E h => h)
theorem K_gains (l : Launch) (hst : l.stackTraces = false) (g : zG) (ua ar co mo cnt : Nat) (rows : Nat → Option Nat) (cs ms : Nat → Int32) (aa : Nat → Nat × Nat × Nat) (rr ff : Nat → Nat) (zz : Nat → zS) (qq : Nat → zRaw) {rv : Nat} (j : Nat) (hj : j < cnt) (hT : zTw cnt rows cs ms aa rr ff zz qq rv) : zWi l yX1_gains wsX1_gains ({ frames := 7, cells := 1, slots := 6, locals := 125 } : Room) [.ref ua, .int (nI j)] g (zPw g ua ar co mo cnt rows cs ms aa rr ff zz qq) (fun r w => r = zGA (zz j) ∧ w = zPw g ua ar co mo cnt rows cs ms aa rr ff zz qq) 1 6 := by
  obtain ⟨i1, i2, i3, i4, i5, i6, i7, i8⟩ := hT
  exact z_lift0 hj (t_gains l hst g ua ar cnt rows j _ _ _ _ _ (Nat.lt_of_lt_of_le hj i1) (i3 j hj) (i5 j hj) (i6 j hj))
theorem t_adds (l : Launch) (hst : l.stackTraces = false) (g : zG) (ua ar cnt : Nat) (rows : Nat → Option Nat) (j : Nat) (a : Nat × Nat × Nat) (rt lf : Nat) (z : zS) (q : zRaw) (c0 : Int32) (rv : Nat) (hj : j < 6) (hrow : rows j = some a.1) (hZ : zInv rt lf z) (hC : zCR rt z q) (hL : zLk rt c0 rv z) : zWi l yL_adds wsL_adds ({ frames := 8, cells := 13, slots := 78, locals := 180 } : Room) [.ref ua, .int (nI j), .int c0] g (zUs g ua ar cnt rows ++ zLW g a rt lf z q) (fun r w => r = nI 1 ∧ w = zUs g ua ar cnt rows ++ zLW g a rt lf z q) 13 78 := by
  obtain ⟨h, pa, da⟩ := a
  obtain ⟨T, P, py, R0, I, Pd, Wn, G⟩ := z
  obtain ⟨xI, xP, xW, xG, u, v0⟩ := q
  obtain ⟨h1, h2, ⟨ii, h3, h4⟩, h5⟩ := hL
  have hP2 : P ≤ 120 := Nat.le_trans hZ.2.1 hZ.1
  exact c_adds l g ua ar cnt rows j h pa da rt lf T P R0 py I Pd Wn G xI xP xW xG u v0 c0 ii hst hj hrow hZ hC h1 h2 h3 (by omega)
theorem K_adds (l : Launch) (hst : l.stackTraces = false) (g : zG) (ua ar co mo cnt : Nat) (rows : Nat → Option Nat) (cs ms : Nat → Int32) (aa : Nat → Nat × Nat × Nat) (rr ff : Nat → Nat) (zz : Nat → zS) (qq : Nat → zRaw) {rv : Nat} (j : Nat) (hj : j < cnt) (hT : zTw cnt rows cs ms aa rr ff zz qq rv) : zWi l yL_adds wsL_adds ({ frames := 8, cells := 13, slots := 78, locals := 180 } : Room) [.ref ua, .int (nI j), .int (cs j)] g (zPw g ua ar co mo cnt rows cs ms aa rr ff zz qq) (fun r w => r = nI 1 ∧ w = zPw g ua ar co mo cnt rows cs ms aa rr ff zz qq) 13 78 := by
  obtain ⟨i1, i2, i3, i4, i5, i6, i7, i8⟩ := hT
  exact z_lift0 hj (t_adds l hst g ua ar cnt rows j _ _ _ _ _ (cs j) rv (Nat.lt_of_lt_of_le hj i1) (i3 j hj) (i5 j hj) (i6 j hj) (i7 j hj))
theorem t_review (l : Launch) (hst : l.stackTraces = false) (g : zG) (ua ar cnt : Nat) (rows : Nat → Option Nat) (j : Nat) (a : Nat × Nat × Nat) (rt lf : Nat) (z : zS) (q : zRaw) (c0 : Int32) (rv : Nat) (t0 : Nat) (hj : j < 6) (hrow : rows j = some a.1) (hZ : zInv rt lf z) (hC : zCR rt z q) (hL : zLk rt c0 rv z) (h8 : rv ≤ 8) (ht : t0 < 100) (hlt : z.2.1 < z.1) (hr : rv < 8) : zWi l yX1_review wsX1_review ({ frames := 7, cells := 4, slots := 24, locals := 125 } : Room) [.ref ua, .int (nI j), .int (nI t0 - nI 50)] g (zUs g ua ar cnt rows ++ zLW g a rt lf z q) (fun r w => ∃ (z' : zS) (q' : zRaw), (r = nI (zD rt z') ∧ z'.1 = z.1 ∧ zInv rt lf z' ∧ zLk rt c0 (rv + 1) z') ∧ w = zUs g ua ar cnt rows ++ zLW g a rt lf z' q' ∧ zCR rt z' q') 4 24 := by
  obtain ⟨h, pa, da⟩ := a
  obtain ⟨T, P, py, R0, I, Pd, Wn, G⟩ := z
  obtain ⟨xI, xP, xW, xG, u, v0⟩ := q
  have e1 : (nI t0 - nI 50).toInt = (t0 : Int) - 50 := pk_sub_toInt (by omega) (by omega)
  have eA : zA (nI t0 - nI 50) = t0 + 50 := by unfold zA; rw [e1]; omega
  have hrng : (-50) ≤ nI t0 - nI 50 ∧ nI t0 - nI 50 ≤ nI 100 := by
    have e2 : (-50 : Int32).toInt = -50 := by decide
    have e3 : (nI 100).toInt = 100 := nI_toInt (n := 100) (by omega)
    rw [Int32.le_iff_toInt_le, Int32.le_iff_toInt_le, e1, e2, e3]
    omega
  have hlt : P < T := hlt
  have hb : ∀ i, P ≤ i → i < T → zSc (zA (nI t0 - nI 50)) py i ≤ zPb (rv + 1) := fun i a b => by
    have z1 := hL.2.2.2 i a b
    have z2 : py i * (t0 + 50) ≤ py i * 149 := Nat.mul_le_mul_left _ (by omega)
    have z3 : zPb (rv + 1) = zPb rv * 149 / 100 := rfl
    rw [eA, z3]
    unfold zSc
    omega
  have hok : P < T ∧ ∀ i, P ≤ i → i < T → zSc (zA (nI t0 - nI 50)) py i ≤ 1000000 := ⟨hlt, fun i a b => Nat.le_trans (hb i a b) (zPb_top hr)⟩
  refine zWi.imp (zXi.to (p_review l hst g ua ar cnt rows j h pa da rt lf T P R0 py I Pd Wn G xI xP xW xG u v0 (nI t0 - nI 50) hj hrow hZ hC) (fun E hE => hE.elim (fun x => x.2 hrng) (fun x => x.2.2 hok))) ?_
  rintro r w ⟨-, -, e4, q', ew, hcr⟩
  exact ⟨_, q', ⟨by rw [e4, zD_fol], zFol_T, zInv_fol hZ hZ.1 hZ.2.1 (fun i a b => hok.2 i a b), zLk_fol hL hlt hb⟩, ew, hcr⟩
theorem K_review (l : Launch) (hst : l.stackTraces = false) (g : zG) (ua ar co mo cnt : Nat) (rows : Nat → Option Nat) (cs ms : Nat → Int32) (aa : Nat → Nat × Nat × Nat) (rr ff : Nat → Nat) (zz : Nat → zS) (qq : Nat → zRaw) {rv : Nat} {ms0 : Nat → Int32} (j : Nat) (t0 : Nat) (hj : j < cnt) (hT : zTw cnt rows cs ms0 aa rr ff zz qq rv) (ht : t0 < 100) (hlt : (zz j).2.1 < (zz j).1) (hr : rv < 8) : zWi l yX1_review wsX1_review ({ frames := 7, cells := 4, slots := 24, locals := 125 } : Room) [.ref ua, .int (nI j), .int (nI t0 - nI 50)] g (zPw g ua ar co mo cnt rows cs ms aa rr ff zz qq) (fun r w => ∃ (z' : zS) (q' : zRaw), (r = nI (zD (rr j) z') ∧ z'.1 = (zz j).1 ∧ zInv (rr j) (ff j) z' ∧ zLk (rr j) (cs j) (rv + 1) z') ∧ w = zPw g ua ar co mo cnt rows cs ms aa rr ff (va_up zz j z') (va_up qq j q') ∧ zCR (rr j) z' q') 4 24 := by
  obtain ⟨i1, i2, i3, i4, i5, i6, i7, i8⟩ := hT
  exact z_lift hj (t_review l hst g ua ar cnt rows j _ _ _ _ _ (cs j) rv t0 (Nat.lt_of_lt_of_le hj i1) (i3 j hj) (i5 j hj) (i6 j hj) (i7 j hj) i2 ht hlt hr)
theorem t_lengthen (l : Launch) (hst : l.stackTraces = false) (g : zG) (ua ar cnt : Nat) (rows : Nat → Option Nat) (j : Nat) (a : Nat × Nat × Nat) (rt lf : Nat) (z : zS) (q : zRaw) (c0 : Int32) (rv : Nat) (k0 : Nat) (x0 : Nat) (hj : j < 6) (hrow : rows j = some a.1) (hZ : zInv rt lf z) (hC : zCR rt z q) (hL : zLk rt c0 rv z) (h8 : rv ≤ 8) (hk1 : 1 ≤ k0) (hk2 : k0 ≤ 36) (hx : x0 ≤ 10000) (hlt : z.2.1 < z.1) (hT120 : z.1 + k0 ≤ 120) : zWi l yX1_lengthen wsX1_lengthen ({ frames := 7, cells := 5, slots := 30, locals := 125 } : Room) [.ref ua, .int (nI j), .int (nI k0), .int (nI x0)] g (zUs g ua ar cnt rows ++ zLW g a rt lf z q) (fun r w => ∃ (z' : zS) (q' : zRaw), (z'.1 = z.1 + k0 ∧ z'.2.1 = z.2.1 ∧ zInv rt lf z' ∧ zLk rt c0 rv z') ∧ w = zUs g ua ar cnt rows ++ zLW g a rt lf z' q' ∧ zCR rt z' q') 5 30 := by
  obtain ⟨h, pa, da⟩ := a
  obtain ⟨T, P, py, R0, I, Pd, Wn, G⟩ := z
  obtain ⟨xI, xP, xW, xG, u, v0⟩ := q
  have hlt : P < T := hlt
  have hT120 : T + k0 ≤ 120 := hT120
  have n1 : zN (nI k0) = k0 := zN_nI (by omega)
  have n2 : zN (nI x0) = x0 := zN_nI (by omega)
  have hrng : (nI 1 ≤ nI k0 ∧ nI k0 ≤ nI 36) ∧ nI 0 ≤ nI x0 ∧ nI x0 ≤ nI 10000 := ⟨⟨(nI_leI (by omega) (by omega)).mpr hk1, (nI_leI (by omega) (by omega)).mpr hk2⟩, (nI_leI (by omega) (by omega)).mpr (Nat.zero_le _), (nI_leI (by omega) (by omega)).mpr hx⟩
  have hok : P < T ∧ T + zN (nI k0) ≤ 120 := ⟨hlt, by rw [n1]; exact hT120⟩
  have hb : ∀ i, P ≤ i → i < T + k0 → zPut T k0 x0 py i ≤ zPb rv := fun i a b => by
    unfold zPut
    split
    · exact Nat.le_trans (by omega) (zPb_ge rv)
    · exact hL.2.2.2 i a (by omega)
  refine zWi.imp (zXi.to (p_lengthen l hst g ua ar cnt rows j h pa da rt lf T P R0 py I Pd Wn G xI xP xW xG u v0 (nI k0) (nI x0) hj hrow hZ hC) (fun E hE => hE.elim (fun x => x.2 hrng) (fun x => x.2.2 hok))) ?_
  rintro r w ⟨-, -, e4, q', ew, hcr⟩
  rw [n1, n2] at ew hcr
  exact ⟨_, q', ⟨zFol_T, zFol_P, zInv_fol hZ hT120 (by omega) (fun i a b => Nat.le_trans (hb i a b) (zPb_top h8)), zLk_fol hL (by omega) hb⟩, ew, hcr⟩
theorem K_lengthen (l : Launch) (hst : l.stackTraces = false) (g : zG) (ua ar co mo cnt : Nat) (rows : Nat → Option Nat) (cs ms : Nat → Int32) (aa : Nat → Nat × Nat × Nat) (rr ff : Nat → Nat) (zz : Nat → zS) (qq : Nat → zRaw) {rv : Nat} {ms0 : Nat → Int32} (j : Nat) (k0 : Nat) (x0 : Nat) (hj : j < cnt) (hT : zTw cnt rows cs ms0 aa rr ff zz qq rv) (hk1 : 1 ≤ k0) (hk2 : k0 ≤ 36) (hx : x0 ≤ 10000) (hlt : (zz j).2.1 < (zz j).1) (hT120 : (zz j).1 + k0 ≤ 120) : zWi l yX1_lengthen wsX1_lengthen ({ frames := 7, cells := 5, slots := 30, locals := 125 } : Room) [.ref ua, .int (nI j), .int (nI k0), .int (nI x0)] g (zPw g ua ar co mo cnt rows cs ms aa rr ff zz qq) (fun r w => ∃ (z' : zS) (q' : zRaw), (z'.1 = (zz j).1 + k0 ∧ z'.2.1 = (zz j).2.1 ∧ zInv (rr j) (ff j) z' ∧ zLk (rr j) (cs j) rv z') ∧ w = zPw g ua ar co mo cnt rows cs ms aa rr ff (va_up zz j z') (va_up qq j q') ∧ zCR (rr j) z' q') 5 30 := by
  obtain ⟨i1, i2, i3, i4, i5, i6, i7, i8⟩ := hT
  exact z_lift hj (t_lengthen l hst g ua ar cnt rows j _ _ _ _ _ (cs j) rv k0 x0 (Nat.lt_of_lt_of_le hj i1) (i3 j hj) (i5 j hj) (i6 j hj) (i7 j hj) i2 hk1 hk2 hx hlt hT120)
theorem t_shorten (l : Launch) (hst : l.stackTraces = false) (g : zG) (ua ar cnt : Nat) (rows : Nat → Option Nat) (j : Nat) (a : Nat × Nat × Nat) (rt lf : Nat) (z : zS) (q : zRaw) (c0 : Int32) (rv : Nat) (k0 : Nat) (hj : j < 6) (hrow : rows j = some a.1) (hZ : zInv rt lf z) (hC : zCR rt z q) (hL : zLk rt c0 rv z) (h8 : rv ≤ 8) (hk1 : 1 ≤ k0) (hk2 : k0 ≤ 60) (hlt : k0 < z.1 - z.2.1) : zWi l yX1_shorten wsX1_shorten ({ frames := 7, cells := 3, slots := 18, locals := 125 } : Room) [.ref ua, .int (nI j), .int (nI k0)] g (zUs g ua ar cnt rows ++ zLW g a rt lf z q) (fun r w => ∃ (z' : zS) (q' : zRaw), (r = zGA z' - zGA z ∧ z'.1 = z.1 - k0 ∧ zInv rt lf z' ∧ zLk rt c0 rv z') ∧ w = zUs g ua ar cnt rows ++ zLW g a rt lf z' q' ∧ zCR rt z' q') 3 18 := by
  obtain ⟨h, pa, da⟩ := a
  obtain ⟨T, P, py, R0, I, Pd, Wn, G⟩ := z
  obtain ⟨xI, xP, xW, xG, u, v0⟩ := q
  have hlt : k0 < T - P := hlt
  have n1 : zN (nI k0) = k0 := zN_nI (by omega)
  have hrng : nI 1 ≤ nI k0 ∧ nI k0 ≤ nI 60 := ⟨(nI_leI (by omega) (by omega)).mpr hk1, (nI_leI (by omega) (by omega)).mpr hk2⟩
  have hok : zN (nI k0) < T - P := by rw [n1]; exact hlt
  refine zWi.imp (zXi.to (p_shorten l hst g ua ar cnt rows j h pa da rt lf T P R0 py I Pd Wn G xI xP xW xG u v0 (nI k0) hj hrow hZ hC) (fun E hE => hE.elim (fun x => x.2 hrng) (fun x => x.2.2 hok))) ?_
  rintro r w ⟨-, -, e4, q', ew, hcr⟩
  rw [n1] at e4 ew hcr
  exact ⟨_, q', ⟨e4.trans (z_gsub _ _).symm, rfl, zInv_off hZ hlt, zLk_giv hL (by omega) (fun i a b => hL.2.2.2 i a (by omega))⟩, ew, hcr⟩
theorem K_shorten (l : Launch) (hst : l.stackTraces = false) (g : zG) (ua ar co mo cnt : Nat) (rows : Nat → Option Nat) (cs ms : Nat → Int32) (aa : Nat → Nat × Nat × Nat) (rr ff : Nat → Nat) (zz : Nat → zS) (qq : Nat → zRaw) {rv : Nat} {ms0 : Nat → Int32} (j : Nat) (k0 : Nat) (hj : j < cnt) (hT : zTw cnt rows cs ms0 aa rr ff zz qq rv) (hk1 : 1 ≤ k0) (hk2 : k0 ≤ 60) (hlt : k0 < (zz j).1 - (zz j).2.1) : zWi l yX1_shorten wsX1_shorten ({ frames := 7, cells := 3, slots := 18, locals := 125 } : Room) [.ref ua, .int (nI j), .int (nI k0)] g (zPw g ua ar co mo cnt rows cs ms aa rr ff zz qq) (fun r w => ∃ (z' : zS) (q' : zRaw), (r = zGA z' - zGA (zz j) ∧ z'.1 = (zz j).1 - k0 ∧ zInv (rr j) (ff j) z' ∧ zLk (rr j) (cs j) rv z') ∧ w = zPw g ua ar co mo cnt rows cs ms aa rr ff (va_up zz j z') (va_up qq j q') ∧ zCR (rr j) z' q') 3 18 := by
  obtain ⟨i1, i2, i3, i4, i5, i6, i7, i8⟩ := hT
  exact z_lift hj (t_shorten l hst g ua ar cnt rows j _ _ _ _ _ (cs j) rv k0 (Nat.lt_of_lt_of_le hj i1) (i3 j hj) (i5 j hj) (i6 j hj) (i7 j hj) i2 hk1 hk2 hlt)
theorem t_cut (l : Launch) (hst : l.stackTraces = false) (g : zG) (ua ar cnt : Nat) (rows : Nat → Option Nat) (j : Nat) (a : Nat × Nat × Nat) (rt lf : Nat) (z : zS) (q : zRaw) (c0 : Int32) (rv : Nat) (k0 : Nat) (hj : j < 6) (hrow : rows j = some a.1) (hZ : zInv rt lf z) (hC : zCR rt z q) (hL : zLk rt c0 rv z) (h8 : rv ≤ 8) (hk1 : 1 ≤ k0) (hk2 : k0 ≤ 99) (hlt : z.2.1 < z.1) : zWi l yX1_cut wsX1_cut ({ frames := 7, cells := 3, slots := 18, locals := 125 } : Room) [.ref ua, .int (nI j), .int (nI k0)] g (zUs g ua ar cnt rows ++ zLW g a rt lf z q) (fun r w => ∃ (z' : zS) (q' : zRaw), (r = zGA z' - zGA z ∧ z'.1 = z.1 ∧ zInv rt lf z' ∧ zLk rt c0 rv z') ∧ w = zUs g ua ar cnt rows ++ zLW g a rt lf z' q' ∧ zCR rt z' q') 3 18 := by
  obtain ⟨h, pa, da⟩ := a
  obtain ⟨T, P, py, R0, I, Pd, Wn, G⟩ := z
  obtain ⟨xI, xP, xW, xG, u, v0⟩ := q
  have hlt : P < T := hlt
  have n1 : zN (nI k0) = k0 := zN_nI (by omega)
  have hrng : nI 1 ≤ nI k0 ∧ nI k0 ≤ nI 99 := ⟨(nI_leI (by omega) (by omega)).mpr hk1, (nI_leI (by omega) (by omega)).mpr hk2⟩
  refine zWi.imp (zXi.to (p_cut l hst g ua ar cnt rows j h pa da rt lf T P R0 py I Pd Wn G xI xP xW xG u v0 (nI k0) hj hrow hZ hC) (fun E hE => hE.elim (fun x => x.2 hrng) (fun x => x.2.2 hlt))) ?_
  rintro r w ⟨-, -, e4, q', ew, hcr⟩
  rw [n1] at e4 ew hcr
  refine ⟨zGiv rt T (zSc (100 - k0) py) (R0 * (100 - k0) / 100) (T, P, py, R0, I, Pd, Wn, G), q', ⟨e4.trans (z_gsub _ _).symm, rfl, zInv_cut hZ (by omega), zLk_giv hL hlt (fun i a b => ?_)⟩, ew, hcr⟩
  have z1 := hL.2.2.2 i a b
  have z2 : py i * (100 - k0) ≤ py i * 100 := Nat.mul_le_mul_left _ (by omega)
  unfold zSc
  omega
theorem K_cut (l : Launch) (hst : l.stackTraces = false) (g : zG) (ua ar co mo cnt : Nat) (rows : Nat → Option Nat) (cs ms : Nat → Int32) (aa : Nat → Nat × Nat × Nat) (rr ff : Nat → Nat) (zz : Nat → zS) (qq : Nat → zRaw) {rv : Nat} {ms0 : Nat → Int32} (j : Nat) (k0 : Nat) (hj : j < cnt) (hT : zTw cnt rows cs ms0 aa rr ff zz qq rv) (hk1 : 1 ≤ k0) (hk2 : k0 ≤ 99) (hlt : (zz j).2.1 < (zz j).1) : zWi l yX1_cut wsX1_cut ({ frames := 7, cells := 3, slots := 18, locals := 125 } : Room) [.ref ua, .int (nI j), .int (nI k0)] g (zPw g ua ar co mo cnt rows cs ms aa rr ff zz qq) (fun r w => ∃ (z' : zS) (q' : zRaw), (r = zGA z' - zGA (zz j) ∧ z'.1 = (zz j).1 ∧ zInv (rr j) (ff j) z' ∧ zLk (rr j) (cs j) rv z') ∧ w = zPw g ua ar co mo cnt rows cs ms aa rr ff (va_up zz j z') (va_up qq j q') ∧ zCR (rr j) z' q') 3 18 := by
  obtain ⟨i1, i2, i3, i4, i5, i6, i7, i8⟩ := hT
  exact z_lift hj (t_cut l hst g ua ar cnt rows j _ _ _ _ _ (cs j) rv k0 (Nat.lt_of_lt_of_le hj i1) (i3 j hj) (i5 j hj) (i6 j hj) (i7 j hj) i2 hk1 hk2 hlt)
theorem K_pass (l : Launch) (hst : l.stackTraces = false) (g : zG) (ua ar co mo cnt : Nat) (rows : Nat → Option Nat) (cs ms : Nat → Int32) (aa : Nat → Nat × Nat × Nat) (rr ff : Nat → Nat) (zz : Nat → zS) (qq : Nat → zRaw) {rv : Nat} (k0 : Nat) (hk1 : 1 ≤ k0) (hk2 : k0 ≤ 24) (hT : zTw cnt rows cs ms aa rr ff zz qq rv) : zWi l yX1_pass wsX1_pass ({ frames := 7, cells := 1, slots := 6, locals := 125 } : Room) [.ref ua, .int (nI k0)] g (zPw g ua ar co mo cnt rows cs ms aa rr ff zz qq) (fun _ w => ∃ qq', w = zPw g ua ar co mo cnt rows cs ms aa rr ff (fun k => zPs (rr k) (ff k) k0 (zz k)) qq' ∧ zTw cnt rows cs ms aa rr ff (fun k => zPs (rr k) (ff k) k0 (zz k)) qq' rv) 1 6 := by
  obtain ⟨i1, i2, i3, i4, i5, i6, i7, i8⟩ := hT
  have n1 : zN (nI k0) = k0 := zN_nI (by omega)
  have hrng : nI 1 ≤ nI k0 ∧ nI k0 ≤ nI 24 := ⟨(nI_leI (by omega) (by omega)).mpr hk1, (nI_leI (by omega) (by omega)).mpr hk2⟩
  have e : ∀ zz1 qq1, zPw g ua ar co mo cnt rows cs ms aa rr ff zz1 qq1 = (zUs g ua ar cnt rows ++ [(co, .inl (g.2.1, 6, .inl cs)), (mo, .inl (g.2.1, 6, .inl ms))]) ++ zLs g cnt aa rr ff zz1 qq1 := fun _ _ => rfl
  have perm : ∀ U V Y : va_W, ((U ++ V) ++ Y).Perm ((U ++ Y) ++ V) := fun U V Y => by
    simp only [List.append_assoc]
    exact List.Perm.append_left U List.perm_append_comm
  refine zWi.frame (wx := [(co, .inl (g.2.1, 6, .inl cs)), (mo, .inl (g.2.1, 6, .inl ms))]) ?_ (zXi.to (c_pass l hst g ua ar cnt rows aa rr ff zz qq (nI k0) i1 i3 i4 i5 i6) (fun E hE => hE.2 hrng)) ?_
  · rw [e]
    exact perm _ _ _
  · rintro r w1 ⟨-, -, qq', ew, hcr⟩
    rw [n1] at ew hcr
    refine ⟨zPw g ua ar co mo cnt rows cs ms aa rr ff (fun k => zPs (rr k) (ff k) k0 (zz k)) qq', ?_, qq', rfl, i1, i2, i3, i4, fun k hk => ?_, hcr, fun k hk => ?_, fun k hk => ?_⟩
    · rw [ew, e]
      exact perm _ _ _
    · exact zInv_it (i5 k hk) _ (z_pas (i5 k hk))
    · exact zLk_it (i5 k hk) (i7 k hk) _ (z_pas (i5 k hk))
    · rw [i8 k hk]
      exact congrArg nI (zIt_T _ _ _ _).symm
theorem K_add (l : Launch) (hst : l.stackTraces = false) (g : zG) (ua ar co mo cnt : Nat) (rows : Nat → Option Nat) (cs ms : Nat → Int32) (aa : Nat → Nat × Nat × Nat) (rr ff : Nat → Nat) (zz : Nat → zS) (qq : Nat → zRaw) {rv : Nat} (a1 a2 a3 a4 a5 a6 a7 : Nat) (h1 : 1 ≤ a1 ∧ a1 ≤ 60) (h2 : 1 ≤ a2 ∧ a2 ≤ 10000) (h3 : a3 ≤ 12) (h4 : a4 ≤ 299) (h5 : a5 ≤ 20000) (h6 : 1 ≤ a6 ∧ a6 ≤ 120) (h7 : a7 ≤ 10000) (hc : cnt < 6) (hT : zTw cnt rows cs ms aa rr ff zz qq rv) (cs' ms' : Nat → Int32) (hcs : cs' cnt = nI a7) (hcs2 : ∀ i, i < cnt → cs' i = cs i) (hms : ms' cnt = nI a1) (hms2 : ∀ i, i < cnt → ms' i = ms i) : zWi l yX1_add wsX1_add ({ frames := 7, cells := 11, slots := 301, locals := 125 } : Room) [.ref ua, .int (nI a1), .int (nI a2), .int (nI a3), .int (nI a4), .int (nI a5), .int (nI a6), .int (nI a7)] g (zPw g ua ar co mo cnt rows cs' ms' aa rr ff zz qq) (fun r w => r = nI cnt ∧ ∃ rows' aa' rr' ff' zz' qq', w = zPw g ua ar co mo (cnt + 1) rows' cs' ms' aa' rr' ff' zz' qq' ∧ zTw (cnt + 1) rows' cs' ms' aa' rr' ff' zz' qq' rv) 11 301 := by
  obtain ⟨i1, i2, i3, i4, i5, i6, i7, i8⟩ := hT
  have n1 : zN (nI a1) = a1 := zN_nI (by omega)
  have n2 : zN (nI a2) = a2 := zN_nI (by omega)
  have n3 : zN (nI a3) = a3 := zN_nI (by omega)
  have n4 : zN (nI a4) = a4 := zN_nI (by omega)
  have n5 : zN (nI a5) = a5 := zN_nI (by omega)
  have n6 : zN (nI a6) = a6 := zN_nI (by omega)
  have n7 : zN (nI a7) = a7 := zN_nI (by omega)
  have rg : ∀ {a x b : Nat}, b < 2 ^ 31 → a ≤ x → x ≤ b → nI a ≤ nI x ∧ nI x ≤ nI b := fun hb h h' => ⟨(nI_leI (by omega) (by omega)).mpr h, (nI_leI (by omega) (by omega)).mpr h'⟩
  have hrng := And.intro (rg (by decide) h1.1 h1.2) (And.intro (rg (by decide) h2.1 h2.2) (And.intro (rg (b := 12) (by decide) (Nat.zero_le a3) h3) (And.intro (rg (b := 1000) (by decide) (Nat.zero_le a4) (by omega)) (And.intro (rg (b := 20000) (by decide) (Nat.zero_le a5) h5) (And.intro (rg (by decide) h6.1 h6.2) (rg (b := 10000) (by decide) (Nat.zero_le a7) h7))))))
  have perm : ∀ U V Y X : va_W, ((U ++ V) ++ (Y ++ X)).Perm ((U ++ X) ++ (V ++ Y)) := fun U V Y X => by
    simp only [List.append_assoc]
    refine List.Perm.append_left U ?_
    have z := List.perm_append_comm (l₁ := V ++ Y) (l₂ := X)
    rw [List.append_assoc] at z
    exact z
  refine zWi.frame (wx := [(co, .inl (g.2.1, 6, .inl cs')), (mo, .inl (g.2.1, 6, .inl ms'))] ++ zLs g cnt aa rr ff zz qq) ?_ (zXi.to (c_add l hst g ua ar cnt rows (nI a1) (nI a2) (nI a3) (nI a4) (nI a5) (nI a6) (nI a7) i1) (fun E hE => hE.elim (fun x => x.2 hrng) (fun x => x.2.2 hc))) ?_
  · exact List.Perm.refl _
  · rintro r w1 ⟨-, -, er, h, pa, da, q', ew, hcr⟩
    rw [n1, n2, n3, n4, n5, n6, n7] at ew
    rw [n1, n2, n3, n4, n5, n7] at hcr
    have u1 : ∀ {α : Type} (f : Nat → α) (x : α) (k : Nat), k < cnt → va_up f cnt x k = f k := fun f x k hk => va_up_ne _ _ (by omega)
    refine ⟨zPw g ua ar co mo (cnt + 1) (va_up rows cnt (some h)) cs' ms' (va_up aa cnt (h, pa, da)) (va_up rr cnt a5) (va_up ff cnt a6) (va_up zz cnt (zNew a1 a2 a3 a4 a5 a7)) (va_up qq cnt q'), ?_, er, _, _, _, _, _, _, rfl, by omega, i2, fun k hk => ?_, fun k hk hk6 => ?_, fun k hk => ?_, fun k hk => ?_, fun k hk => ?_, fun k hk => ?_⟩
    · have e1 : zLs g cnt (va_up aa cnt (h, pa, da)) (va_up rr cnt a5) (va_up ff cnt a6) (va_up zz cnt (zNew a1 a2 a3 a4 a5 a7)) (va_up qq cnt q') = zLs g cnt aa rr ff zz qq := z_flat fun k hk => by
        have hk := List.mem_range.mp hk
        rw [u1 _ _ k hk, u1 _ _ k hk, u1 _ _ k hk, u1 _ _ k hk, u1 _ _ k hk]
      rw [ew]
      show (_ ++ zLs g (cnt + 1) _ _ _ _ _).Perm _
      rw [zLs_s, e1, va_up_self, va_up_self, va_up_self, va_up_self, va_up_self]
      exact perm [(ua, .inr (1, [.ref ar, .int (nI (cnt + 1))])), (ar, .inl (g.2.2.1, 6, .inr (.inr (.inr (.inr (va_up rows cnt (some h)))))))] [(co, .inl (g.2.1, 6, .inl cs')), (mo, .inl (g.2.1, 6, .inl ms'))] _ _
    · by_cases hkc : k = cnt
      · subst hkc; rw [va_up_self, va_up_self]
      · rw [va_up_ne _ _ hkc, va_up_ne _ _ hkc]; exact i3 k (by omega)
    · rw [va_up_ne _ _ (by omega)]; exact i4 k (by omega) hk6
    · by_cases hkc : k = cnt
      · subst hkc; rw [va_up_self, va_up_self, va_up_self]; exact zInv_new h1.2 h2.2 (by omega) h5 h6.2 h7
      · rw [va_up_ne _ _ hkc, va_up_ne _ _ hkc, va_up_ne _ _ hkc]; exact i5 k (by omega)
    · by_cases hkc : k = cnt
      · subst hkc; rw [va_up_self, va_up_self, va_up_self]; exact hcr
      · rw [va_up_ne _ _ hkc, va_up_ne _ _ hkc, va_up_ne _ _ hkc]; exact i6 k (by omega)
    · by_cases hkc : k = cnt
      · subst hkc; rw [va_up_self, va_up_self, hcs]; exact zLk_up (Nat.zero_le rv) (zLk_new h1.1 h1.2 h2.2 h4)
      · rw [va_up_ne _ _ hkc, va_up_ne _ _ hkc, hcs2 k (by omega)]; exact i7 k (by omega)
    · by_cases hkc : k = cnt
      · subst hkc; rw [va_up_self, hms]; rfl
      · rw [va_up_ne _ _ hkc, hms2 k (by omega)]; exact i8 k (by omega)
end
section
/-! p20: the law's acts -/
abbrev zNx (p : Program) (l : Launch) (e : Env) (s : State) (m : MethodId) (below : List Frame) (meth : Method) (c : Code) (Q : State → Prop) (g : zG) (b ua ar co mo k cN sN pc : Nat) : Prop := ∀ (cnt rv : Nat) (rows : Nat → Option Nat) (cs ms : Nat → Int32) (aa : Nat → Nat × Nat × Nat) (rr ff : Nat → Nat) (zz : Nat → zS) (qq : Nat → zRaw) (H : Heap) (locs : List Loc) (ls : Array Slot), zTw cnt rows cs ms aa rr ff zz qq rv → va_P g.1 vwCl (zPw g ua ar co mo cnt rows cs ms aa rr ff zz qq) H → va_D (fun q : Nat => s.heap.size ≤ q) (zPw g ua ar co mo cnt rows cs ms aa rr ff zz qq) → va_S (fun q : Nat => s.heap.size ≤ q) s.heap H locs → lv_has ls 14 [(0, .ref b), (1, .ref ua), (2, .ref co), (3, .ref mo), (4, .int (nI cnt)), (5, .int (nI rv)), (6, .int (nI k))] → W p l e room_1 s m #[Value.ref b] below meth c H locs cN sN Q (F0 m pc ls [])
theorem zInv_T {r f : Nat} {z : zS} (h : zInv r f z) : z.1 ≤ 120 ∧ z.2.1 ≤ z.1 ∧ zD r z ≤ 120000000 := by
  obtain ⟨T, P, p, R, I, Pd, W, G⟩ := z
  exact ⟨h.1, h.2.1, zInv_W h r P (Nat.le_refl P)⟩
theorem z_pasL (rt lf k : Nat) (z : zS) : nI ((zPs rt lf k z).1 - (zPs rt lf k z).2.1) = nI (z.1 - (z.2.1 + min k (z.1 - z.2.1))) := by
  unfold zPs
  rw [zIt_T, zIt_P]
theorem z_upid {α : Type} (f : Nat → α) (j : Nat) : va_up f j (f j) = f := by
  funext i
  by_cases h : i = j
  · subst h; rw [va_up_self]
  · rw [va_up_ne _ _ h]
section ZPC
variable {s : State} {H : Heap} {locs : List Loc} {g : zG} {A : Nat → Prop}
theorem zpreC {b L : Nat} {xs : Nat → Int32} {k : Int32} (hK : zK g s) (hXs : va_X b L xs s s.heap) (hbl : b < s.heap.size) (hbA : ¬ A b) (hS : va_S A s.heap H locs) : PreS s H (va_Pc [.ref b, .int k] (fun U => zIn g [] H.size U ∧ va_X b L xs U U.heap ∧ b < H.size)) [.ref b, .int k] := by
  refine ⟨fun a U f mk q => ?_, fun U hU hW => ⟨rfl, ⟨by rw [hU], fun k q h => by simp at h, hK.moved hW.alike, ⟨fun i j p q h => by simp at h, fun k q h => by simp at h⟩⟩, ?_, Nat.lt_of_lt_of_le hbl hS.1⟩⟩
  · obtain ⟨q0, ⟨q1, qP, qK, qD⟩, qX, qb⟩ := q
    exact ⟨q0, ⟨q1, qP, zK.moved (u := U) (U := U.calling f mk a) (Vm.Alike.refl U.vm) qK, qD⟩, va_X.moved (u := U) (U := U.calling f mk a) (Vm.Alike.refl U.vm) qX, qb⟩
  · rw [hU]
    exact (hXs.kept (hS.2.1 b hbl hbA)).moved hW.alike
end ZPC
section ZLW
variable {p : Program} {l : Launch} {e : Env} {s : State} {m : MethodId} {below : List Frame} {meth : Method} {c : Code} {b L : Nat} {xs : Nat → Int32} {g : zG} {ua ar co mo cnt k rv c0 s0 cN sN : Nat} {rows : Nat → Option Nat} {cs ms : Nat → Int32} {aa : Nat → Nat × Nat × Nat} {rr ff : Nat → Nat} {zz : Nat → zS} {qq : Nat → zRaw} {Q : State → Prop} {H : Heap} {locs : List Loc} {ls : Array Slot} {x7 x8 : Int32}
set_option maxHeartbeats 4000000 in
set_option maxRecDepth 100000 in
theorem L_add  (hst : l.stackTraces = false) (hL : L ≤ 260) (C0 : lw_At p s m meth c b L xs) (hK : zK g s) (hX : zX (fun q : Nat => s.heap.size ≤ q) s s.heap) (hcN : c0 + 90 ≤ cN) (hsN : s0 + 600 ≤ sN) (hcR : cN ≤ room_1.cells) (hsR : sN ≤ room_1.slots) (hI : zTw cnt rows cs ms aa rr ff zz qq rv) (hc : cnt < 6) (hP : va_P g.1 vwCl (([(ua, .inr (1, [.ref ar, .int (nI cnt)])), (ar, .inl (g.2.2.1, 6, .inr (.inr (.inr (.inr rows))))), (co, .inl (g.2.1, 6, .inl cs)), (mo, .inl (g.2.1, 6, .inl ms))] ++ (zLs g cnt aa rr ff zz qq))) H) (hD : va_D (fun q : Nat => s.heap.size ≤ q) (([(ua, .inr (1, [.ref ar, .int (nI cnt)])), (ar, .inl (g.2.2.1, 6, .inr (.inr (.inr (.inr rows))))), (co, .inl (g.2.1, 6, .inl cs)), (mo, .inl (g.2.1, 6, .inl ms))] ++ (zLs g cnt aa rr ff zz qq)))) (hS : va_S (fun q : Nat => s.heap.size ≤ q) s.heap H locs) (hl : lv_has ls 14 [(0, .ref b), (1, .ref ua), (2, .ref co), (3, .ref mo), (4, .int (nI cnt)), (5, .int (nI rv)), (6, .int (nI k)), (7, .int x7), (8, .int x8)]) (nx : zNx p l e s m below meth c Q g b ua ar co mo k cN sN 541) : W p l e room_1 s m #[Value.ref b] below meth c H locs c0 s0 Q (F0 m 119 ls []) := by
  obtain ⟨hx, hb, hr, hml, hown, hts0, hXs, hbl, hlocks, hgv⟩ := id C0
  have hown : s.vm.findClass RL = some m.cls := hown
  have hts : ∀ w ∈ wsL_law, w.before #[Value.ref b] s = true := fun w h => hts0 w (wsL_law_in w h)
  have hA : ∀ q : Nat, s.heap.size ≤ q → (fun q : Nat => s.heap.size ≤ q) q := fun _ h => h
  have hbA : ¬ (fun q : Nat => s.heap.size ≤ q) b := Nat.not_le.mpr hbl
  obtain ⟨i1, i2, i3, i4, i5, i6, i7, i8⟩ := id hI
  refine lv_aload_n hx hb dL_law_119 rfl (lv_at hl 2 rfl) ?_
  refine lv_iload hx hb dL_law_120 (lv_at hl 4 rfl) ?_
  refine lv_iload hx hb dL_law_122 (lv_at hl 8 rfl) ?_
  refine lv_sipush (v := nI 5000) hx hb dL_law_124 (by decide) ?_
  refine z_ai (wa := []) (wc := []) (wb := ([(ua, .inr (1, [.ref ar, .int (nI cnt)])), (ar, .inl (g.2.2.1, 6, .inr (.inr (.inr (.inr rows))))), (co, .inl (g.2.1, 6, .inl cs)), (mo, .inl (g.2.1, 6, .inl ms))] ++ (zLs g cnt aa rr ff zz qq))) (va_runS (As := [.int x8, .int (nI 5000)]) (rest := [.int (nI cnt), .ref co]) ⟨hx, hb, hml, hown, hts⟩ (c_low l g x8 5000 (by decide) (by decide) H.size _ rfl) (va_cwS 2 hts gL_law_L_low rfl rfl rfl (by decide +kernel) ⟨Nat.le_of_ble_eq_true rfl, Nat.le_of_ble_eq_true rfl⟩) (zpreS (wa := []) (wc := []) (wb := ([(ua, .inr (1, [.ref ar, .int (nI cnt)])), (ar, .inl (g.2.2.1, 6, .inr (.inr (.inr (.inr rows))))), (co, .inl (g.2.1, 6, .inl cs)), (mo, .inl (g.2.1, 6, .inl ms))] ++ (zLs g cnt aa rr ff zz qq))) hK hP hD) rfl rfl hl.1 rfl (lv_room (Nat.le_of_ble_eq_true rfl)) dL_law_127 ⟨by omega, by omega⟩) hP hD hS hA (fun r9 w1 H locs hq hP hD hS => ?_)
  obtain ⟨⟨t1, ht1, rfl⟩, rfl⟩ := hq
  have hP : va_P g.1 vwCl (([(ua, .inr (1, [.ref ar, .int (nI cnt)])), (ar, .inl (g.2.2.1, 6, .inr (.inr (.inr (.inr rows))))), (co, .inl (g.2.1, 6, .inl cs)), (mo, .inl (g.2.1, 6, .inl ms))] ++ (zLs g cnt aa rr ff zz qq))) H := hP
  have hD : va_D (fun q : Nat => s.heap.size ≤ q) (([(ua, .inr (1, [.ref ar, .int (nI cnt)])), (ar, .inl (g.2.2.1, 6, .inr (.inr (.inr (.inr rows))))), (co, .inl (g.2.1, 6, .inl cs)), (mo, .inl (g.2.1, 6, .inl ms))] ++ (zLs g cnt aa rr ff zz qq))) := hD
  refine z_iast hx hb hK hP hD hS 2 0 rfl rfl (by omega) (by decide) dL_law_130 (fun H locs hP hD hS => ?_)
  have hP : va_P g.1 vwCl (([(ua, .inr (1, [.ref ar, .int (nI cnt)])), (ar, .inl (g.2.2.1, 6, .inr (.inr (.inr (.inr rows))))), (co, .inl (g.2.1, 6, .inl (upd cs cnt (nI t1)))), (mo, .inl (g.2.1, 6, .inl ms))] ++ (zLs g cnt aa rr ff zz qq))) H := hP
  have hD : va_D (fun q : Nat => s.heap.size ≤ q) (([(ua, .inr (1, [.ref ar, .int (nI cnt)])), (ar, .inl (g.2.2.1, 6, .inr (.inr (.inr (.inr rows))))), (co, .inl (g.2.1, 6, .inl (upd cs cnt (nI t1)))), (mo, .inl (g.2.1, 6, .inl ms))] ++ (zLs g cnt aa rr ff zz qq))) := hD
  refine lv_aload_n hx hb dL_law_131 rfl (lv_at hl 3 rfl) ?_
  refine lv_iload hx hb dL_law_132 (lv_at hl 4 rfl) ?_
  refine lv_iconst (v := nI 1) hx hb dL_law_134 (by decide) ?_
  refine lv_iload hx hb dL_law_135 (lv_at hl 7 rfl) ?_
  refine lv_bipush (v := nI 8) hx hb dL_law_137 (by decide) ?_
  refine lv_ishr hx hb dL_law_139 ?_
  refine lv_topi (fun y1 _ => ?_)
  refine lv_bipush (v := nI 60) hx hb dL_law_140 (by decide) ?_
  refine z_ai (wa := []) (wc := []) (wb := ([(ua, .inr (1, [.ref ar, .int (nI cnt)])), (ar, .inl (g.2.2.1, 6, .inr (.inr (.inr (.inr rows))))), (co, .inl (g.2.1, 6, .inl (upd cs cnt (nI t1)))), (mo, .inl (g.2.1, 6, .inl ms))] ++ (zLs g cnt aa rr ff zz qq))) (va_runS (As := [.int y1, .int (nI 60)]) (rest := [.int (nI 1), .int (nI cnt), .ref mo]) ⟨hx, hb, hml, hown, hts⟩ (c_low l g y1 60 (by decide) (by decide) H.size _ rfl) (va_cwS 2 hts gL_law_L_low rfl rfl rfl (by decide +kernel) ⟨Nat.le_of_ble_eq_true rfl, Nat.le_of_ble_eq_true rfl⟩) (zpreS (wa := []) (wc := []) (wb := ([(ua, .inr (1, [.ref ar, .int (nI cnt)])), (ar, .inl (g.2.2.1, 6, .inr (.inr (.inr (.inr rows))))), (co, .inl (g.2.1, 6, .inl (upd cs cnt (nI t1)))), (mo, .inl (g.2.1, 6, .inl ms))] ++ (zLs g cnt aa rr ff zz qq))) hK hP hD) rfl rfl hl.1 rfl (lv_room (Nat.le_of_ble_eq_true rfl)) dL_law_142 ⟨by omega, by omega⟩) hP hD hS hA (fun r9 w1 H locs hq hP hD hS => ?_)
  obtain ⟨⟨t2, ht2, rfl⟩, rfl⟩ := hq
  have hP : va_P g.1 vwCl (([(ua, .inr (1, [.ref ar, .int (nI cnt)])), (ar, .inl (g.2.2.1, 6, .inr (.inr (.inr (.inr rows))))), (co, .inl (g.2.1, 6, .inl (upd cs cnt (nI t1)))), (mo, .inl (g.2.1, 6, .inl ms))] ++ (zLs g cnt aa rr ff zz qq))) H := hP
  have hD : va_D (fun q : Nat => s.heap.size ≤ q) (([(ua, .inr (1, [.ref ar, .int (nI cnt)])), (ar, .inl (g.2.2.1, 6, .inr (.inr (.inr (.inr rows))))), (co, .inl (g.2.1, 6, .inl (upd cs cnt (nI t1)))), (mo, .inl (g.2.1, 6, .inl ms))] ++ (zLs g cnt aa rr ff zz qq))) := hD
  refine z_iadd hx hb dL_law_145 ?_
  refine z_iast hx hb hK hP hD hS 3 0 rfl rfl (by omega) (by decide) dL_law_146 (fun H locs hP hD hS => ?_)
  have hP : va_P g.1 vwCl (([(ua, .inr (1, [.ref ar, .int (nI cnt)])), (ar, .inl (g.2.2.1, 6, .inr (.inr (.inr (.inr rows))))), (co, .inl (g.2.1, 6, .inl (upd cs cnt (nI t1)))), (mo, .inl (g.2.1, 6, .inl (upd ms cnt (nI (1 + t2)))))] ++ (zLs g cnt aa rr ff zz qq))) H := hP
  have hD : va_D (fun q : Nat => s.heap.size ≤ q) (([(ua, .inr (1, [.ref ar, .int (nI cnt)])), (ar, .inl (g.2.2.1, 6, .inr (.inr (.inr (.inr rows))))), (co, .inl (g.2.1, 6, .inl (upd cs cnt (nI t1)))), (mo, .inl (g.2.1, 6, .inl (upd ms cnt (nI (1 + t2)))))] ++ (zLs g cnt aa rr ff zz qq))) := hD
  refine lv_aload_n hx hb dL_law_147 rfl (lv_at hl 1 rfl) ?_
  refine lv_aload_n hx hb dL_law_148 rfl (lv_at hl 3 rfl) ?_
  refine lv_iload hx hb dL_law_149 (lv_at hl 4 rfl) ?_
  refine z_iald hx hb hK hP 3 0 rfl rfl (by omega) (by decide) dL_law_151 ?_
  refine zi (y := nI (1 + t2)) (z_upd_s _ _ _) ?_
  refine lv_iconst (v := nI 1) hx hb dL_law_152 (by decide) ?_
  refine lv_iload hx hb dL_law_153 (lv_at hl 8 rfl) ?_
  refine lv_bipush (v := nI 8) hx hb dL_law_155 (by decide) ?_
  refine lv_ishr hx hb dL_law_157 ?_
  refine lv_topi (fun y2 _ => ?_)
  refine lv_sipush (v := nI 10000) hx hb dL_law_158 (by decide) ?_
  refine z_ai (wa := []) (wc := []) (wb := ([(ua, .inr (1, [.ref ar, .int (nI cnt)])), (ar, .inl (g.2.2.1, 6, .inr (.inr (.inr (.inr rows))))), (co, .inl (g.2.1, 6, .inl (upd cs cnt (nI t1)))), (mo, .inl (g.2.1, 6, .inl (upd ms cnt (nI (1 + t2)))))] ++ (zLs g cnt aa rr ff zz qq))) (va_runS (As := [.int y2, .int (nI 10000)]) (rest := [.int (nI 1), .int (nI (1 + t2)), .ref ua]) ⟨hx, hb, hml, hown, hts⟩ (c_low l g y2 10000 (by decide) (by decide) H.size _ rfl) (va_cwS 2 hts gL_law_L_low rfl rfl rfl (by decide +kernel) ⟨Nat.le_of_ble_eq_true rfl, Nat.le_of_ble_eq_true rfl⟩) (zpreS (wa := []) (wc := []) (wb := ([(ua, .inr (1, [.ref ar, .int (nI cnt)])), (ar, .inl (g.2.2.1, 6, .inr (.inr (.inr (.inr rows))))), (co, .inl (g.2.1, 6, .inl (upd cs cnt (nI t1)))), (mo, .inl (g.2.1, 6, .inl (upd ms cnt (nI (1 + t2)))))] ++ (zLs g cnt aa rr ff zz qq))) hK hP hD) rfl rfl hl.1 rfl (lv_room (Nat.le_of_ble_eq_true rfl)) dL_law_161 ⟨by omega, by omega⟩) hP hD hS hA (fun r9 w1 H locs hq hP hD hS => ?_)
  obtain ⟨⟨t3, ht3, rfl⟩, rfl⟩ := hq
  have hP : va_P g.1 vwCl (([(ua, .inr (1, [.ref ar, .int (nI cnt)])), (ar, .inl (g.2.2.1, 6, .inr (.inr (.inr (.inr rows))))), (co, .inl (g.2.1, 6, .inl (upd cs cnt (nI t1)))), (mo, .inl (g.2.1, 6, .inl (upd ms cnt (nI (1 + t2)))))] ++ (zLs g cnt aa rr ff zz qq))) H := hP
  have hD : va_D (fun q : Nat => s.heap.size ≤ q) (([(ua, .inr (1, [.ref ar, .int (nI cnt)])), (ar, .inl (g.2.2.1, 6, .inr (.inr (.inr (.inr rows))))), (co, .inl (g.2.1, 6, .inl (upd cs cnt (nI t1)))), (mo, .inl (g.2.1, 6, .inl (upd ms cnt (nI (1 + t2)))))] ++ (zLs g cnt aa rr ff zz qq))) := hD
  refine z_iadd hx hb dL_law_164 ?_
  refine lv_iload hx hb dL_law_165 (lv_at hl 7 rfl) ?_
  refine lv_bipush (v := nI 14) hx hb dL_law_167 (by decide) ?_
  refine lv_ishr hx hb dL_law_169 ?_
  refine lv_topi (fun y3 _ => ?_)
  refine lv_bipush (v := nI 13) hx hb dL_law_170 (by decide) ?_
  refine z_ai (wa := []) (wc := []) (wb := ([(ua, .inr (1, [.ref ar, .int (nI cnt)])), (ar, .inl (g.2.2.1, 6, .inr (.inr (.inr (.inr rows))))), (co, .inl (g.2.1, 6, .inl (upd cs cnt (nI t1)))), (mo, .inl (g.2.1, 6, .inl (upd ms cnt (nI (1 + t2)))))] ++ (zLs g cnt aa rr ff zz qq))) (va_runS (As := [.int y3, .int (nI 13)]) (rest := [.int (nI (1 + t3)), .int (nI (1 + t2)), .ref ua]) ⟨hx, hb, hml, hown, hts⟩ (c_low l g y3 13 (by decide) (by decide) H.size _ rfl) (va_cwS 2 hts gL_law_L_low rfl rfl rfl (by decide +kernel) ⟨Nat.le_of_ble_eq_true rfl, Nat.le_of_ble_eq_true rfl⟩) (zpreS (wa := []) (wc := []) (wb := ([(ua, .inr (1, [.ref ar, .int (nI cnt)])), (ar, .inl (g.2.2.1, 6, .inr (.inr (.inr (.inr rows))))), (co, .inl (g.2.1, 6, .inl (upd cs cnt (nI t1)))), (mo, .inl (g.2.1, 6, .inl (upd ms cnt (nI (1 + t2)))))] ++ (zLs g cnt aa rr ff zz qq))) hK hP hD) rfl rfl hl.1 rfl (lv_room (Nat.le_of_ble_eq_true rfl)) dL_law_172 ⟨by omega, by omega⟩) hP hD hS hA (fun r9 w1 H locs hq hP hD hS => ?_)
  obtain ⟨⟨t4, ht4, rfl⟩, rfl⟩ := hq
  have hP : va_P g.1 vwCl (([(ua, .inr (1, [.ref ar, .int (nI cnt)])), (ar, .inl (g.2.2.1, 6, .inr (.inr (.inr (.inr rows))))), (co, .inl (g.2.1, 6, .inl (upd cs cnt (nI t1)))), (mo, .inl (g.2.1, 6, .inl (upd ms cnt (nI (1 + t2)))))] ++ (zLs g cnt aa rr ff zz qq))) H := hP
  have hD : va_D (fun q : Nat => s.heap.size ≤ q) (([(ua, .inr (1, [.ref ar, .int (nI cnt)])), (ar, .inl (g.2.2.1, 6, .inr (.inr (.inr (.inr rows))))), (co, .inl (g.2.1, 6, .inl (upd cs cnt (nI t1)))), (mo, .inl (g.2.1, 6, .inl (upd ms cnt (nI (1 + t2)))))] ++ (zLs g cnt aa rr ff zz qq))) := hD
  refine lv_iload hx hb dL_law_175 (lv_at hl 8 rfl) ?_
  refine lv_iconst (v := nI 4) hx hb dL_law_177 (by decide) ?_
  refine lv_ishr hx hb dL_law_178 ?_
  refine lv_topi (fun y4 _ => ?_)
  refine lv_sipush (v := nI 300) hx hb dL_law_179 (by decide) ?_
  refine z_ai (wa := []) (wc := []) (wb := ([(ua, .inr (1, [.ref ar, .int (nI cnt)])), (ar, .inl (g.2.2.1, 6, .inr (.inr (.inr (.inr rows))))), (co, .inl (g.2.1, 6, .inl (upd cs cnt (nI t1)))), (mo, .inl (g.2.1, 6, .inl (upd ms cnt (nI (1 + t2)))))] ++ (zLs g cnt aa rr ff zz qq))) (va_runS (As := [.int y4, .int (nI 300)]) (rest := [.int (nI t4), .int (nI (1 + t3)), .int (nI (1 + t2)), .ref ua]) ⟨hx, hb, hml, hown, hts⟩ (c_low l g y4 300 (by decide) (by decide) H.size _ rfl) (va_cwS 2 hts gL_law_L_low rfl rfl rfl (by decide +kernel) ⟨Nat.le_of_ble_eq_true rfl, Nat.le_of_ble_eq_true rfl⟩) (zpreS (wa := []) (wc := []) (wb := ([(ua, .inr (1, [.ref ar, .int (nI cnt)])), (ar, .inl (g.2.2.1, 6, .inr (.inr (.inr (.inr rows))))), (co, .inl (g.2.1, 6, .inl (upd cs cnt (nI t1)))), (mo, .inl (g.2.1, 6, .inl (upd ms cnt (nI (1 + t2)))))] ++ (zLs g cnt aa rr ff zz qq))) hK hP hD) rfl rfl hl.1 rfl (lv_room (Nat.le_of_ble_eq_true rfl)) dL_law_182 ⟨by omega, by omega⟩) hP hD hS hA (fun r9 w1 H locs hq hP hD hS => ?_)
  obtain ⟨⟨t5, ht5, rfl⟩, rfl⟩ := hq
  have hP : va_P g.1 vwCl (([(ua, .inr (1, [.ref ar, .int (nI cnt)])), (ar, .inl (g.2.2.1, 6, .inr (.inr (.inr (.inr rows))))), (co, .inl (g.2.1, 6, .inl (upd cs cnt (nI t1)))), (mo, .inl (g.2.1, 6, .inl (upd ms cnt (nI (1 + t2)))))] ++ (zLs g cnt aa rr ff zz qq))) H := hP
  have hD : va_D (fun q : Nat => s.heap.size ≤ q) (([(ua, .inr (1, [.ref ar, .int (nI cnt)])), (ar, .inl (g.2.2.1, 6, .inr (.inr (.inr (.inr rows))))), (co, .inl (g.2.1, 6, .inl (upd cs cnt (nI t1)))), (mo, .inl (g.2.1, 6, .inl (upd ms cnt (nI (1 + t2)))))] ++ (zLs g cnt aa rr ff zz qq))) := hD
  refine lv_iload hx hb dL_law_185 (lv_at hl 7 rfl) ?_
  refine lv_bipush (v := nI 6) hx hb dL_law_187 (by decide) ?_
  refine lv_ishr hx hb dL_law_189 ?_
  refine lv_topi (fun y5 _ => ?_)
  refine lv_sipush (v := nI 20001) hx hb dL_law_190 (by decide) ?_
  refine z_ai (wa := []) (wc := []) (wb := ([(ua, .inr (1, [.ref ar, .int (nI cnt)])), (ar, .inl (g.2.2.1, 6, .inr (.inr (.inr (.inr rows))))), (co, .inl (g.2.1, 6, .inl (upd cs cnt (nI t1)))), (mo, .inl (g.2.1, 6, .inl (upd ms cnt (nI (1 + t2)))))] ++ (zLs g cnt aa rr ff zz qq))) (va_runS (As := [.int y5, .int (nI 20001)]) (rest := [.int (nI t5), .int (nI t4), .int (nI (1 + t3)), .int (nI (1 + t2)), .ref ua]) ⟨hx, hb, hml, hown, hts⟩ (c_low l g y5 20001 (by decide) (by decide) H.size _ rfl) (va_cwS 2 hts gL_law_L_low rfl rfl rfl (by decide +kernel) ⟨Nat.le_of_ble_eq_true rfl, Nat.le_of_ble_eq_true rfl⟩) (zpreS (wa := []) (wc := []) (wb := ([(ua, .inr (1, [.ref ar, .int (nI cnt)])), (ar, .inl (g.2.2.1, 6, .inr (.inr (.inr (.inr rows))))), (co, .inl (g.2.1, 6, .inl (upd cs cnt (nI t1)))), (mo, .inl (g.2.1, 6, .inl (upd ms cnt (nI (1 + t2)))))] ++ (zLs g cnt aa rr ff zz qq))) hK hP hD) rfl rfl hl.1 rfl (lv_room (Nat.le_of_ble_eq_true rfl)) dL_law_193 ⟨by omega, by omega⟩) hP hD hS hA (fun r9 w1 H locs hq hP hD hS => ?_)
  obtain ⟨⟨t6, ht6, rfl⟩, rfl⟩ := hq
  have hP : va_P g.1 vwCl (([(ua, .inr (1, [.ref ar, .int (nI cnt)])), (ar, .inl (g.2.2.1, 6, .inr (.inr (.inr (.inr rows))))), (co, .inl (g.2.1, 6, .inl (upd cs cnt (nI t1)))), (mo, .inl (g.2.1, 6, .inl (upd ms cnt (nI (1 + t2)))))] ++ (zLs g cnt aa rr ff zz qq))) H := hP
  have hD : va_D (fun q : Nat => s.heap.size ≤ q) (([(ua, .inr (1, [.ref ar, .int (nI cnt)])), (ar, .inl (g.2.2.1, 6, .inr (.inr (.inr (.inr rows))))), (co, .inl (g.2.1, 6, .inl (upd cs cnt (nI t1)))), (mo, .inl (g.2.1, 6, .inl (upd ms cnt (nI (1 + t2)))))] ++ (zLs g cnt aa rr ff zz qq))) := hD
  refine lv_iconst (v := nI 1) hx hb dL_law_196 (by decide) ?_
  refine lv_iload hx hb dL_law_197 (lv_at hl 8 rfl) ?_
  refine lv_bipush (v := nI 12) hx hb dL_law_199 (by decide) ?_
  refine lv_ishr hx hb dL_law_201 ?_
  refine lv_topi (fun y6 _ => ?_)
  refine lv_bipush (v := nI 120) hx hb dL_law_202 (by decide) ?_
  refine z_ai (wa := []) (wc := []) (wb := ([(ua, .inr (1, [.ref ar, .int (nI cnt)])), (ar, .inl (g.2.2.1, 6, .inr (.inr (.inr (.inr rows))))), (co, .inl (g.2.1, 6, .inl (upd cs cnt (nI t1)))), (mo, .inl (g.2.1, 6, .inl (upd ms cnt (nI (1 + t2)))))] ++ (zLs g cnt aa rr ff zz qq))) (va_runS (As := [.int y6, .int (nI 120)]) (rest := [.int (nI 1), .int (nI t6), .int (nI t5), .int (nI t4), .int (nI (1 + t3)), .int (nI (1 + t2)), .ref ua]) ⟨hx, hb, hml, hown, hts⟩ (c_low l g y6 120 (by decide) (by decide) H.size _ rfl) (va_cwS 2 hts gL_law_L_low rfl rfl rfl (by decide +kernel) ⟨Nat.le_of_ble_eq_true rfl, Nat.le_of_ble_eq_true rfl⟩) (zpreS (wa := []) (wc := []) (wb := ([(ua, .inr (1, [.ref ar, .int (nI cnt)])), (ar, .inl (g.2.2.1, 6, .inr (.inr (.inr (.inr rows))))), (co, .inl (g.2.1, 6, .inl (upd cs cnt (nI t1)))), (mo, .inl (g.2.1, 6, .inl (upd ms cnt (nI (1 + t2)))))] ++ (zLs g cnt aa rr ff zz qq))) hK hP hD) rfl rfl hl.1 rfl (lv_room (Nat.le_of_ble_eq_true rfl)) dL_law_204 ⟨by omega, by omega⟩) hP hD hS hA (fun r9 w1 H locs hq hP hD hS => ?_)
  obtain ⟨⟨t7, ht7, rfl⟩, rfl⟩ := hq
  have hP : va_P g.1 vwCl (([(ua, .inr (1, [.ref ar, .int (nI cnt)])), (ar, .inl (g.2.2.1, 6, .inr (.inr (.inr (.inr rows))))), (co, .inl (g.2.1, 6, .inl (upd cs cnt (nI t1)))), (mo, .inl (g.2.1, 6, .inl (upd ms cnt (nI (1 + t2)))))] ++ (zLs g cnt aa rr ff zz qq))) H := hP
  have hD : va_D (fun q : Nat => s.heap.size ≤ q) (([(ua, .inr (1, [.ref ar, .int (nI cnt)])), (ar, .inl (g.2.2.1, 6, .inr (.inr (.inr (.inr rows))))), (co, .inl (g.2.1, 6, .inl (upd cs cnt (nI t1)))), (mo, .inl (g.2.1, 6, .inl (upd ms cnt (nI (1 + t2)))))] ++ (zLs g cnt aa rr ff zz qq))) := hD
  refine z_iadd hx hb dL_law_207 ?_
  refine lv_aload_n hx hb dL_law_208 rfl (lv_at hl 2 rfl) ?_
  refine lv_iload hx hb dL_law_209 (lv_at hl 4 rfl) ?_
  refine z_iald hx hb hK hP 2 0 rfl rfl (by omega) (by decide) dL_law_211 ?_
  refine zi (y := nI t1) (z_upd_s _ _ _) ?_
  refine z_ai0 (wc := ([(ua, .inr (1, [.ref ar, .int (nI cnt)])), (ar, .inl (g.2.2.1, 6, .inr (.inr (.inr (.inr rows))))), (co, .inl (g.2.1, 6, .inl (upd cs cnt (nI t1)))), (mo, .inl (g.2.1, 6, .inl (upd ms cnt (nI (1 + t2)))))] ++ (zLs g cnt aa rr ff zz qq))) (va_runV (As := [.int (nI (1 + t2)), .int (nI (1 + t3)), .int (nI t4), .int (nI t5), .int (nI t6), .int (nI (1 + t7)), .int (nI t1)]) (rest := []) ⟨hx, hb, hml, hown, hts⟩ (K_add l hst g ua ar co mo cnt rows cs ms aa rr ff zz qq (1 + t2) (1 + t3) t4 t5 t6 (1 + t7) t1 (by omega) (by omega) (by omega) (by omega) (by omega) (by omega) (by omega) hc hI (upd cs cnt (nI t1)) (upd ms cnt (nI (1 + t2))) (z_upd_s _ _ _) (fun i hi => z_upd_n _ _ (by omega)) (z_upd_s _ _ _) (fun i hi => z_upd_n _ _ (by omega)) H.size _ rfl) (cwV 7 hts gL_law_X1_add rfl rfl rfl (by decide +kernel) ⟨Nat.le_of_ble_eq_true rfl, Nat.le_of_ble_eq_true rfl⟩) (zpreXV0 (wc := ([(ua, .inr (1, [.ref ar, .int (nI cnt)])), (ar, .inl (g.2.2.1, 6, .inr (.inr (.inr (.inr rows))))), (co, .inl (g.2.1, 6, .inl (upd cs cnt (nI t1)))), (mo, .inl (g.2.1, 6, .inl (upd ms cnt (nI (1 + t2)))))] ++ (zLs g cnt aa rr ff zz qq))) (q0 := 0) (ci := 1) (T := TX1) (N := 2) hK hP hD hS hA hX rfl rfl) rfl rfl hl.1 rfl (lv_room (Nat.le_of_ble_eq_true rfl)) dL_law_212 ⟨by omega, by omega⟩) hP hD hS hA (fun r9 w1 H locs hq hP hD hS => ?_)
  obtain ⟨rfl, rows2, aa2, rr2, ff2, zz2, qq2, rfl, hI2⟩ := hq
  have hP : va_P g.1 vwCl (([(ua, .inr (1, [.ref ar, .int (nI (cnt + 1))])), (ar, .inl (g.2.2.1, 6, .inr (.inr (.inr (.inr rows2))))), (co, .inl (g.2.1, 6, .inl (upd cs cnt (nI t1)))), (mo, .inl (g.2.1, 6, .inl (upd ms cnt (nI (1 + t2)))))] ++ (zLs g (cnt + 1) aa2 rr2 ff2 zz2 qq2))) H := hP
  have hD : va_D (fun q : Nat => s.heap.size ≤ q) (([(ua, .inr (1, [.ref ar, .int (nI (cnt + 1))])), (ar, .inl (g.2.2.1, 6, .inr (.inr (.inr (.inr rows2))))), (co, .inl (g.2.1, 6, .inl (upd cs cnt (nI t1)))), (mo, .inl (g.2.1, 6, .inl (upd ms cnt (nI (1 + t2)))))] ++ (zLs g (cnt + 1) aa2 rr2 ff2 zz2 qq2))) := hD
  refine lv_iload hx hb dL_law_215 (lv_at hl 4 rfl) ?_
  refine z_icmp_eq (tgt := 222) hx hb dL_law_217 (by decide) (by omega) (by omega) (fun he => ?_) (fun he => ?_)
  · refine z_iinc (lv' := [(4, .int (nI (cnt + 1))), (0, .ref b), (1, .ref ua), (2, .ref co), (3, .ref mo), (5, .int (nI rv)), (6, .int (nI k)), (7, .int x7), (8, .int x8)]) hx hb dL_law_222 hl (k := 4) rfl (by decide) rfl (fun ls hl => ?_)
    refine lv_goto (tgt := 541) hx hb dL_law_225 (by decide) ?_
    refine W.widen (k := cN) (n := sN) (by omega) (by omega) ?_
    exact nx (cnt + 1) rv rows2 (upd cs cnt (nI t1)) (upd ms cnt (nI (1 + t2))) aa2 rr2 ff2 zz2 qq2 H _ ls hI2 hP hD hS (lv_sub hl [1, 2, 3, 4, 0, 5, 6] rfl)
  · exact absurd rfl he

set_option maxHeartbeats 4000000 in
set_option maxRecDepth 100000 in
theorem L_pass {j : Nat} (hst : l.stackTraces = false) (hL : L ≤ 260) (C0 : lw_At p s m meth c b L xs) (hK : zK g s) (hX : zX (fun q : Nat => s.heap.size ≤ q) s s.heap) (hcN : c0 + 90 ≤ cN) (hsN : s0 + 600 ≤ sN) (hcR : cN ≤ room_1.cells) (hsR : sN ≤ room_1.slots) (hI : zTw cnt rows cs ms aa rr ff zz qq rv) (hj : j < cnt) (hP : va_P g.1 vwCl (([(ua, .inr (1, [.ref ar, .int (nI cnt)])), (ar, .inl (g.2.2.1, 6, .inr (.inr (.inr (.inr rows))))), (co, .inl (g.2.1, 6, .inl cs)), (mo, .inl (g.2.1, 6, .inl ms))] ++ (zLs g cnt aa rr ff zz qq))) H) (hD : va_D (fun q : Nat => s.heap.size ≤ q) (([(ua, .inr (1, [.ref ar, .int (nI cnt)])), (ar, .inl (g.2.2.1, 6, .inr (.inr (.inr (.inr rows))))), (co, .inl (g.2.1, 6, .inl cs)), (mo, .inl (g.2.1, 6, .inl ms))] ++ (zLs g cnt aa rr ff zz qq)))) (hS : va_S (fun q : Nat => s.heap.size ≤ q) s.heap H locs) (hl : lv_has ls 14 [(0, .ref b), (1, .ref ua), (2, .ref co), (3, .ref mo), (4, .int (nI cnt)), (5, .int (nI rv)), (6, .int (nI k)), (8, .int x8), (10, .int (nI j)), (11, .int (nI ((zz j).1 - (zz j).2.1)))]) (nx : zNx p l e s m below meth c Q g b ua ar co mo k cN sN 541) : W p l e room_1 s m #[Value.ref b] below meth c H locs c0 s0 Q (F0 m 234 ls []) := by
  obtain ⟨hx, hb, hr, hml, hown, hts0, hXs, hbl, hlocks, hgv⟩ := id C0
  have hown : s.vm.findClass RL = some m.cls := hown
  have hts : ∀ w ∈ wsL_law, w.before #[Value.ref b] s = true := fun w h => hts0 w (wsL_law_in w h)
  have hA : ∀ q : Nat, s.heap.size ≤ q → (fun q : Nat => s.heap.size ≤ q) q := fun _ h => h
  have hbA : ¬ (fun q : Nat => s.heap.size ≤ q) b := Nat.not_le.mpr hbl
  obtain ⟨i1, i2, i3, i4, i5, i6, i7, i8⟩ := id hI
  obtain ⟨t1, t2, t3⟩ := zInv_T (i5 j hj)
  refine lv_iconst (v := nI 1) hx hb dL_law_234 (by decide) ?_
  refine lv_iload hx hb dL_law_235 (lv_at hl 7 rfl) ?_
  refine lv_bipush (v := nI 12) hx hb dL_law_237 (by decide) ?_
  refine z_ai (wa := []) (wc := []) (wb := ([(ua, .inr (1, [.ref ar, .int (nI cnt)])), (ar, .inl (g.2.2.1, 6, .inr (.inr (.inr (.inr rows))))), (co, .inl (g.2.1, 6, .inl cs)), (mo, .inl (g.2.1, 6, .inl ms))] ++ (zLs g cnt aa rr ff zz qq))) (va_runS (As := [.int x8, .int (nI 12)]) (rest := [.int (nI 1)]) ⟨hx, hb, hml, hown, hts⟩ (c_low l g x8 12 (by decide) (by decide) H.size _ rfl) (va_cwS 2 hts gL_law_L_low rfl rfl rfl (by decide +kernel) ⟨Nat.le_of_ble_eq_true rfl, Nat.le_of_ble_eq_true rfl⟩) (zpreS (wa := []) (wc := []) (wb := ([(ua, .inr (1, [.ref ar, .int (nI cnt)])), (ar, .inl (g.2.2.1, 6, .inr (.inr (.inr (.inr rows))))), (co, .inl (g.2.1, 6, .inl cs)), (mo, .inl (g.2.1, 6, .inl ms))] ++ (zLs g cnt aa rr ff zz qq))) hK hP hD) rfl rfl hl.1 rfl (lv_room (Nat.le_of_ble_eq_true rfl)) dL_law_239 ⟨by omega, by omega⟩) hP hD hS hA (fun r9 w1 H locs hq hP hD hS => ?_)
  obtain ⟨⟨t, ht, rfl⟩, rfl⟩ := hq
  have hP : va_P g.1 vwCl (([(ua, .inr (1, [.ref ar, .int (nI cnt)])), (ar, .inl (g.2.2.1, 6, .inr (.inr (.inr (.inr rows))))), (co, .inl (g.2.1, 6, .inl cs)), (mo, .inl (g.2.1, 6, .inl ms))] ++ (zLs g cnt aa rr ff zz qq))) H := hP
  have hD : va_D (fun q : Nat => s.heap.size ≤ q) (([(ua, .inr (1, [.ref ar, .int (nI cnt)])), (ar, .inl (g.2.2.1, 6, .inr (.inr (.inr (.inr rows))))), (co, .inl (g.2.1, 6, .inl cs)), (mo, .inl (g.2.1, 6, .inl ms))] ++ (zLs g cnt aa rr ff zz qq))) := hD
  refine z_iadd hx hb dL_law_242 ?_
  refine lv_istore (lv' := [(12, .int (nI (1 + t))), (0, .ref b), (1, .ref ua), (2, .ref co), (3, .ref mo), (4, .int (nI cnt)), (5, .int (nI rv)), (6, .int (nI k)), (8, .int x8), (10, .int (nI j)), (11, .int (nI ((zz j).1 - (zz j).2.1)))]) hx hb dL_law_243 hl (by decide) rfl (fun ls hl => ?_)
  refine lv_aload_n hx hb dL_law_245 rfl (lv_at hl 2 rfl) ?_
  refine lv_iload hx hb dL_law_246 (lv_at hl 0 rfl) ?_
  refine z_ai0 (wc := ([(ua, .inr (1, [.ref ar, .int (nI cnt)])), (ar, .inl (g.2.2.1, 6, .inr (.inr (.inr (.inr rows))))), (co, .inl (g.2.1, 6, .inl cs)), (mo, .inl (g.2.1, 6, .inl ms))] ++ (zLs g cnt aa rr ff zz qq))) (va_runV (As := [.int (nI (1 + t))]) (rest := []) ⟨hx, hb, hml, hown, hts⟩ (K_pass l hst g ua ar co mo cnt rows cs ms aa rr ff zz qq (1 + t) (by omega) (by omega) hI H.size _ rfl) (cwV 1 hts gL_law_X1_pass rfl rfl rfl (by decide +kernel) ⟨Nat.le_of_ble_eq_true rfl, Nat.le_of_ble_eq_true rfl⟩) (zpreXV0 (wc := ([(ua, .inr (1, [.ref ar, .int (nI cnt)])), (ar, .inl (g.2.2.1, 6, .inr (.inr (.inr (.inr rows))))), (co, .inl (g.2.1, 6, .inl cs)), (mo, .inl (g.2.1, 6, .inl ms))] ++ (zLs g cnt aa rr ff zz qq))) (q0 := 0) (ci := 1) (T := TX1) (N := 2) hK hP hD hS hA hX rfl rfl) rfl rfl hl.1 rfl (lv_room (Nat.le_of_ble_eq_true rfl)) dL_law_248 ⟨by omega, by omega⟩) hP hD hS hA (fun r9 w1 H locs hq hP hD hS => ?_)
  obtain ⟨qq2, rfl, hI2⟩ := hq
  have hP : va_P g.1 vwCl (([(ua, .inr (1, [.ref ar, .int (nI cnt)])), (ar, .inl (g.2.2.1, 6, .inr (.inr (.inr (.inr rows))))), (co, .inl (g.2.1, 6, .inl cs)), (mo, .inl (g.2.1, 6, .inl ms))] ++ (zLs g cnt aa rr ff (fun k => zPs (rr k) (ff k) (1 + t) (zz k)) qq2))) H := hP
  have hD : va_D (fun q : Nat => s.heap.size ≤ q) (([(ua, .inr (1, [.ref ar, .int (nI cnt)])), (ar, .inl (g.2.2.1, 6, .inr (.inr (.inr (.inr rows))))), (co, .inl (g.2.1, 6, .inl cs)), (mo, .inl (g.2.1, 6, .inl ms))] ++ (zLs g cnt aa rr ff (fun k => zPs (rr k) (ff k) (1 + t) (zz k)) qq2))) := hD
  refine lv_pop hx hb dL_law_251 rfl ?_
  refine lv_aload_n hx hb dL_law_252 rfl (lv_at hl 2 rfl) ?_
  refine lv_iload hx hb dL_law_253 (lv_at hl 9 rfl) ?_
  refine z_ai0 (wc := ([(ua, .inr (1, [.ref ar, .int (nI cnt)])), (ar, .inl (g.2.2.1, 6, .inr (.inr (.inr (.inr rows))))), (co, .inl (g.2.1, 6, .inl cs)), (mo, .inl (g.2.1, 6, .inl ms))] ++ (zLs g cnt aa rr ff (fun k => zPs (rr k) (ff k) (1 + t) (zz k)) qq2))) (va_runV (As := [.int (nI j)]) (rest := []) ⟨hx, hb, hml, hown, hts⟩ (K_toCome l hst g ua ar co mo cnt rows cs ms aa rr ff (fun k => zPs (rr k) (ff k) (1 + t) (zz k)) qq2 j hj hI2 H.size _ rfl) (cwV 1 hts gL_law_X1_toCome rfl rfl rfl (by decide +kernel) ⟨Nat.le_of_ble_eq_true rfl, Nat.le_of_ble_eq_true rfl⟩) (zpreXV0 (wc := ([(ua, .inr (1, [.ref ar, .int (nI cnt)])), (ar, .inl (g.2.2.1, 6, .inr (.inr (.inr (.inr rows))))), (co, .inl (g.2.1, 6, .inl cs)), (mo, .inl (g.2.1, 6, .inl ms))] ++ (zLs g cnt aa rr ff (fun k => zPs (rr k) (ff k) (1 + t) (zz k)) qq2))) (q0 := 0) (ci := 1) (T := TX1) (N := 2) hK hP hD hS hA hX rfl rfl) rfl rfl hl.1 rfl (lv_room (Nat.le_of_ble_eq_true rfl)) dL_law_255 ⟨by omega, by omega⟩) hP hD hS hA (fun r9 w1 H locs hq hP hD hS => ?_)
  obtain ⟨rfl, rfl⟩ := hq
  have hP : va_P g.1 vwCl (([(ua, .inr (1, [.ref ar, .int (nI cnt)])), (ar, .inl (g.2.2.1, 6, .inr (.inr (.inr (.inr rows))))), (co, .inl (g.2.1, 6, .inl cs)), (mo, .inl (g.2.1, 6, .inl ms))] ++ (zLs g cnt aa rr ff (fun k => zPs (rr k) (ff k) (1 + t) (zz k)) qq2))) H := hP
  have hD : va_D (fun q : Nat => s.heap.size ≤ q) (([(ua, .inr (1, [.ref ar, .int (nI cnt)])), (ar, .inl (g.2.2.1, 6, .inr (.inr (.inr (.inr rows))))), (co, .inl (g.2.1, 6, .inl cs)), (mo, .inl (g.2.1, 6, .inl ms))] ++ (zLs g cnt aa rr ff (fun k => zPs (rr k) (ff k) (1 + t) (zz k)) qq2))) := hD
  refine zi (y := nI ((zz j).1 - ((zz j).2.1 + min (1 + t) ((zz j).1 - (zz j).2.1)))) (z_pasL _ _ _ _) ?_
  refine lv_iload hx hb dL_law_258 (lv_at hl 10 rfl) ?_
  refine lv_iload hx hb dL_law_260 (lv_at hl 0 rfl) ?_
  refine z_icmp_le (tgt := 273) hx hb dL_law_262 (by decide) (by omega) (by omega) (fun hd => ?_) (fun hd => ?_)
  · refine lv_iconst (v := nI 0) hx hb dL_law_273 (by decide) ?_
    refine z_icmp_eq (tgt := 279) hx hb dL_law_274 (by decide) (by omega) (by omega) (fun he => ?_) (fun he => ?_)
    · refine lv_goto (tgt := 541) hx hb dL_law_279 (by decide) ?_
      refine W.widen (k := cN) (n := sN) (by omega) (by omega) ?_
      exact nx cnt rv rows cs ms aa rr ff (fun k => zPs (rr k) (ff k) (1 + t) (zz k)) qq2 H _ ls hI2 hP hD hS (lv_sub hl [1, 2, 3, 4, 5, 6, 7] rfl)
    · exact absurd (by omega) he
  · refine lv_iload hx hb dL_law_265 (lv_at hl 10 rfl) ?_
    refine lv_iload hx hb dL_law_267 (lv_at hl 0 rfl) ?_
    refine z_isub hx hb dL_law_269 (by omega) ?_
    refine lv_goto (tgt := 274) hx hb dL_law_270 (by decide) ?_
    refine z_icmp_eq (tgt := 279) hx hb dL_law_274 (by decide) (by omega) (by omega) (fun he => ?_) (fun he => ?_)
    · refine lv_goto (tgt := 541) hx hb dL_law_279 (by decide) ?_
      refine W.widen (k := cN) (n := sN) (by omega) (by omega) ?_
      exact nx cnt rv rows cs ms aa rr ff (fun k => zPs (rr k) (ff k) (1 + t) (zz k)) qq2 H _ ls hI2 hP hD hS (lv_sub hl [1, 2, 3, 4, 5, 6, 7] rfl)
    · exact absurd (by omega) he

set_option maxHeartbeats 4000000 in
set_option maxRecDepth 100000 in
theorem L_review {j : Nat} (hst : l.stackTraces = false) (hL : L ≤ 260) (C0 : lw_At p s m meth c b L xs) (hK : zK g s) (hX : zX (fun q : Nat => s.heap.size ≤ q) s s.heap) (hcN : c0 + 90 ≤ cN) (hsN : s0 + 600 ≤ sN) (hcR : cN ≤ room_1.cells) (hsR : sN ≤ room_1.slots) (hI : zTw cnt rows cs ms aa rr ff zz qq rv) (hj : j < cnt) (hlt : (zz j).2.1 < (zz j).1) (hr8 : rv < 8) (hP : va_P g.1 vwCl (([(ua, .inr (1, [.ref ar, .int (nI cnt)])), (ar, .inl (g.2.2.1, 6, .inr (.inr (.inr (.inr rows))))), (co, .inl (g.2.1, 6, .inl cs)), (mo, .inl (g.2.1, 6, .inl ms))] ++ (zLs g cnt aa rr ff zz qq))) H) (hD : va_D (fun q : Nat => s.heap.size ≤ q) (([(ua, .inr (1, [.ref ar, .int (nI cnt)])), (ar, .inl (g.2.2.1, 6, .inr (.inr (.inr (.inr rows))))), (co, .inl (g.2.1, 6, .inl cs)), (mo, .inl (g.2.1, 6, .inl ms))] ++ (zLs g cnt aa rr ff zz qq)))) (hS : va_S (fun q : Nat => s.heap.size ≤ q) s.heap H locs) (hl : lv_has ls 14 [(0, .ref b), (1, .ref ua), (2, .ref co), (3, .ref mo), (4, .int (nI cnt)), (5, .int (nI rv)), (6, .int (nI k)), (8, .int x8), (10, .int (nI j)), (11, .int (nI ((zz j).1 - (zz j).2.1)))]) (nx : zNx p l e s m below meth c Q g b ua ar co mo k cN sN 541) : W p l e room_1 s m #[Value.ref b] below meth c H locs c0 s0 Q (F0 m 300 ls []) := by
  obtain ⟨hx, hb, hr, hml, hown, hts0, hXs, hbl, hlocks, hgv⟩ := id C0
  have hown : s.vm.findClass RL = some m.cls := hown
  have hts : ∀ w ∈ wsL_law, w.before #[Value.ref b] s = true := fun w h => hts0 w (wsL_law_in w h)
  have hA : ∀ q : Nat, s.heap.size ≤ q → (fun q : Nat => s.heap.size ≤ q) q := fun _ h => h
  have hbA : ¬ (fun q : Nat => s.heap.size ≤ q) b := Nat.not_le.mpr hbl
  obtain ⟨i1, i2, i3, i4, i5, i6, i7, i8⟩ := id hI
  refine z_iinc (lv' := [(5, .int (nI (rv + 1))), (0, .ref b), (1, .ref ua), (2, .ref co), (3, .ref mo), (4, .int (nI cnt)), (6, .int (nI k)), (8, .int x8), (10, .int (nI j)), (11, .int (nI ((zz j).1 - (zz j).2.1)))]) hx hb dL_law_300 hl (k := 5) rfl (by decide) rfl (fun ls hl => ?_)
  refine lv_aload_n hx hb dL_law_303 rfl (lv_at hl 2 rfl) ?_
  refine lv_iload hx hb dL_law_304 (lv_at hl 8 rfl) ?_
  refine lv_iload hx hb dL_law_306 (lv_at hl 7 rfl) ?_
  refine lv_bipush (v := nI 100) hx hb dL_law_308 (by decide) ?_
  refine z_ai (wa := []) (wc := []) (wb := ([(ua, .inr (1, [.ref ar, .int (nI cnt)])), (ar, .inl (g.2.2.1, 6, .inr (.inr (.inr (.inr rows))))), (co, .inl (g.2.1, 6, .inl cs)), (mo, .inl (g.2.1, 6, .inl ms))] ++ (zLs g cnt aa rr ff zz qq))) (va_runS (As := [.int x8, .int (nI 100)]) (rest := [.int (nI j), .ref ua]) ⟨hx, hb, hml, hown, hts⟩ (c_low l g x8 100 (by decide) (by decide) H.size _ rfl) (va_cwS 2 hts gL_law_L_low rfl rfl rfl (by decide +kernel) ⟨Nat.le_of_ble_eq_true rfl, Nat.le_of_ble_eq_true rfl⟩) (zpreS (wa := []) (wc := []) (wb := ([(ua, .inr (1, [.ref ar, .int (nI cnt)])), (ar, .inl (g.2.2.1, 6, .inr (.inr (.inr (.inr rows))))), (co, .inl (g.2.1, 6, .inl cs)), (mo, .inl (g.2.1, 6, .inl ms))] ++ (zLs g cnt aa rr ff zz qq))) hK hP hD) rfl rfl hl.1 rfl (lv_room (Nat.le_of_ble_eq_true rfl)) dL_law_310 ⟨by omega, by omega⟩) hP hD hS hA (fun r9 w1 H locs hq hP hD hS => ?_)
  obtain ⟨⟨t, ht, rfl⟩, rfl⟩ := hq
  have hP : va_P g.1 vwCl (([(ua, .inr (1, [.ref ar, .int (nI cnt)])), (ar, .inl (g.2.2.1, 6, .inr (.inr (.inr (.inr rows))))), (co, .inl (g.2.1, 6, .inl cs)), (mo, .inl (g.2.1, 6, .inl ms))] ++ (zLs g cnt aa rr ff zz qq))) H := hP
  have hD : va_D (fun q : Nat => s.heap.size ≤ q) (([(ua, .inr (1, [.ref ar, .int (nI cnt)])), (ar, .inl (g.2.2.1, 6, .inr (.inr (.inr (.inr rows))))), (co, .inl (g.2.1, 6, .inl cs)), (mo, .inl (g.2.1, 6, .inl ms))] ++ (zLs g cnt aa rr ff zz qq))) := hD
  refine lv_bipush (v := nI 50) hx hb dL_law_313 (by decide) ?_
  refine lv_isub hx hb dL_law_315 ?_
  refine z_ai0 (wc := ([(ua, .inr (1, [.ref ar, .int (nI cnt)])), (ar, .inl (g.2.2.1, 6, .inr (.inr (.inr (.inr rows))))), (co, .inl (g.2.1, 6, .inl cs)), (mo, .inl (g.2.1, 6, .inl ms))] ++ (zLs g cnt aa rr ff zz qq))) (va_runV (As := [.int (nI j), .int ((nI t) - (nI 50))]) (rest := []) ⟨hx, hb, hml, hown, hts⟩ (K_review l hst g ua ar co mo cnt rows cs ms aa rr ff zz qq j t hj hI ht hlt hr8 H.size _ rfl) (cwV 2 hts gL_law_X1_review rfl rfl rfl (by decide +kernel) ⟨Nat.le_of_ble_eq_true rfl, Nat.le_of_ble_eq_true rfl⟩) (zpreXV0 (wc := ([(ua, .inr (1, [.ref ar, .int (nI cnt)])), (ar, .inl (g.2.2.1, 6, .inr (.inr (.inr (.inr rows))))), (co, .inl (g.2.1, 6, .inl cs)), (mo, .inl (g.2.1, 6, .inl ms))] ++ (zLs g cnt aa rr ff zz qq))) (q0 := 0) (ci := 1) (T := TX1) (N := 2) hK hP hD hS hA hX rfl rfl) rfl rfl hl.1 rfl (lv_room (Nat.le_of_ble_eq_true rfl)) dL_law_316 ⟨by omega, by omega⟩) hP hD hS hA (fun r9 w1 H locs hq hP hD hS => ?_)
  obtain ⟨z2, q2, ⟨rfl, hz1, hz2, hz3⟩, rfl, hz4⟩ := hq
  have hP : va_P g.1 vwCl (([(ua, .inr (1, [.ref ar, .int (nI cnt)])), (ar, .inl (g.2.2.1, 6, .inr (.inr (.inr (.inr rows))))), (co, .inl (g.2.1, 6, .inl cs)), (mo, .inl (g.2.1, 6, .inl ms))] ++ (zLs g cnt aa rr ff (va_up zz j z2) (va_up qq j q2)))) H := hP
  have hD : va_D (fun q : Nat => s.heap.size ≤ q) (([(ua, .inr (1, [.ref ar, .int (nI cnt)])), (ar, .inl (g.2.2.1, 6, .inr (.inr (.inr (.inr rows))))), (co, .inl (g.2.1, 6, .inl cs)), (mo, .inl (g.2.1, 6, .inl ms))] ++ (zLs g cnt aa rr ff (va_up zz j z2) (va_up qq j q2)))) := hD
  have hI2 := hI.up hz2 hz4 hz3 (Nat.le_succ rv) hr8 ((i8 j hj).trans (by rw [hz1])) (fun i _ => rfl)
  obtain ⟨-, -, t3⟩ := zInv_T hz2
  refine lv_aload_n hx hb dL_law_319 rfl (lv_at hl 2 rfl) ?_
  refine lv_iload hx hb dL_law_320 (lv_at hl 8 rfl) ?_
  refine z_ai0 (wc := ([(ua, .inr (1, [.ref ar, .int (nI cnt)])), (ar, .inl (g.2.2.1, 6, .inr (.inr (.inr (.inr rows))))), (co, .inl (g.2.1, 6, .inl cs)), (mo, .inl (g.2.1, 6, .inl ms))] ++ (zLs g cnt aa rr ff (va_up zz j z2) (va_up qq j q2)))) (va_runV (As := [.int (nI j)]) (rest := [.int (nI (zD (rr j) z2))]) ⟨hx, hb, hml, hown, hts⟩ (K_debt l hst g ua ar co mo cnt rows cs ms aa rr ff (va_up zz j z2) (va_up qq j q2) j hj hI2 H.size _ rfl) (cwV 1 hts gL_law_X1_debt rfl rfl rfl (by decide +kernel) ⟨Nat.le_of_ble_eq_true rfl, Nat.le_of_ble_eq_true rfl⟩) (zpreXV0 (wc := ([(ua, .inr (1, [.ref ar, .int (nI cnt)])), (ar, .inl (g.2.2.1, 6, .inr (.inr (.inr (.inr rows))))), (co, .inl (g.2.1, 6, .inl cs)), (mo, .inl (g.2.1, 6, .inl ms))] ++ (zLs g cnt aa rr ff (va_up zz j z2) (va_up qq j q2)))) (q0 := 0) (ci := 1) (T := TX1) (N := 2) hK hP hD hS hA hX rfl rfl) rfl rfl hl.1 rfl (lv_room (Nat.le_of_ble_eq_true rfl)) dL_law_322 ⟨by omega, by omega⟩) hP hD hS hA (fun r9 w1 H locs hq hP hD hS => ?_)
  obtain ⟨rfl, rfl⟩ := hq
  have hP : va_P g.1 vwCl (([(ua, .inr (1, [.ref ar, .int (nI cnt)])), (ar, .inl (g.2.2.1, 6, .inr (.inr (.inr (.inr rows))))), (co, .inl (g.2.1, 6, .inl cs)), (mo, .inl (g.2.1, 6, .inl ms))] ++ (zLs g cnt aa rr ff (va_up zz j z2) (va_up qq j q2)))) H := hP
  have hD : va_D (fun q : Nat => s.heap.size ≤ q) (([(ua, .inr (1, [.ref ar, .int (nI cnt)])), (ar, .inl (g.2.2.1, 6, .inr (.inr (.inr (.inr rows))))), (co, .inl (g.2.1, 6, .inl cs)), (mo, .inl (g.2.1, 6, .inl ms))] ++ (zLs g cnt aa rr ff (va_up zz j z2) (va_up qq j q2)))) := hD
  refine zi (y := nI (zD (rr j) z2)) (by rw [va_up_self]) ?_
  refine z_icmp_eq (tgt := 541) hx hb dL_law_325 (by decide) (by omega) (by omega) (fun he => ?_) (fun he => ?_)
  · refine W.widen (k := cN) (n := sN) (by omega) (by omega) ?_
    exact nx cnt (rv + 1) rows cs ms aa rr ff (va_up zz j z2) (va_up qq j q2) H _ ls hI2 hP hD hS (lv_sub hl [1, 2, 3, 4, 5, 0, 6] rfl)
  · exact absurd rfl he

set_option maxHeartbeats 4000000 in
set_option maxRecDepth 100000 in
theorem L_len {j : Nat} (hst : l.stackTraces = false) (hL : L ≤ 260) (C0 : lw_At p s m meth c b L xs) (hK : zK g s) (hX : zX (fun q : Nat => s.heap.size ≤ q) s s.heap) (hcN : c0 + 90 ≤ cN) (hsN : s0 + 600 ≤ sN) (hcR : cN ≤ room_1.cells) (hsR : sN ≤ room_1.slots) (hI : zTw cnt rows cs ms aa rr ff zz qq rv) (hj : j < cnt) (hlt : (zz j).2.1 < (zz j).1) (hm : (zz j).1 < 110) (hP : va_P g.1 vwCl (([(ua, .inr (1, [.ref ar, .int (nI cnt)])), (ar, .inl (g.2.2.1, 6, .inr (.inr (.inr (.inr rows))))), (co, .inl (g.2.1, 6, .inl cs)), (mo, .inl (g.2.1, 6, .inl ms))] ++ (zLs g cnt aa rr ff zz qq))) H) (hD : va_D (fun q : Nat => s.heap.size ≤ q) (([(ua, .inr (1, [.ref ar, .int (nI cnt)])), (ar, .inl (g.2.2.1, 6, .inr (.inr (.inr (.inr rows))))), (co, .inl (g.2.1, 6, .inl cs)), (mo, .inl (g.2.1, 6, .inl ms))] ++ (zLs g cnt aa rr ff zz qq)))) (hS : va_S (fun q : Nat => s.heap.size ≤ q) s.heap H locs) (hl : lv_has ls 14 [(0, .ref b), (1, .ref ua), (2, .ref co), (3, .ref mo), (4, .int (nI cnt)), (5, .int (nI rv)), (6, .int (nI k)), (8, .int x8), (10, .int (nI j)), (11, .int (nI ((zz j).1 - (zz j).2.1)))]) (nx : zNx p l e s m below meth c Q g b ua ar co mo k cN sN 541) : W p l e room_1 s m #[Value.ref b] below meth c H locs c0 s0 Q (F0 m 350 ls []) := by
  obtain ⟨hx, hb, hr, hml, hown, hts0, hXs, hbl, hlocks, hgv⟩ := id C0
  have hown : s.vm.findClass RL = some m.cls := hown
  have hts : ∀ w ∈ wsL_law, w.before #[Value.ref b] s = true := fun w h => hts0 w (wsL_law_in w h)
  have hA : ∀ q : Nat, s.heap.size ≤ q → (fun q : Nat => s.heap.size ≤ q) q := fun _ h => h
  have hbA : ¬ (fun q : Nat => s.heap.size ≤ q) b := Nat.not_le.mpr hbl
  obtain ⟨i1, i2, i3, i4, i5, i6, i7, i8⟩ := id hI
  obtain ⟨t1, t2, t3⟩ := zInv_T (i5 j hj)
  refine lv_iconst (v := nI 1) hx hb dL_law_350 (by decide) ?_
  refine lv_iload hx hb dL_law_351 (lv_at hl 7 rfl) ?_
  refine lv_bipush (v := nI 10) hx hb dL_law_353 (by decide) ?_
  refine z_ai (wa := []) (wc := []) (wb := ([(ua, .inr (1, [.ref ar, .int (nI cnt)])), (ar, .inl (g.2.2.1, 6, .inr (.inr (.inr (.inr rows))))), (co, .inl (g.2.1, 6, .inl cs)), (mo, .inl (g.2.1, 6, .inl ms))] ++ (zLs g cnt aa rr ff zz qq))) (va_runS (As := [.int x8, .int (nI 10)]) (rest := [.int (nI 1)]) ⟨hx, hb, hml, hown, hts⟩ (c_low l g x8 10 (by decide) (by decide) H.size _ rfl) (va_cwS 2 hts gL_law_L_low rfl rfl rfl (by decide +kernel) ⟨Nat.le_of_ble_eq_true rfl, Nat.le_of_ble_eq_true rfl⟩) (zpreS (wa := []) (wc := []) (wb := ([(ua, .inr (1, [.ref ar, .int (nI cnt)])), (ar, .inl (g.2.2.1, 6, .inr (.inr (.inr (.inr rows))))), (co, .inl (g.2.1, 6, .inl cs)), (mo, .inl (g.2.1, 6, .inl ms))] ++ (zLs g cnt aa rr ff zz qq))) hK hP hD) rfl rfl hl.1 rfl (lv_room (Nat.le_of_ble_eq_true rfl)) dL_law_355 ⟨by omega, by omega⟩) hP hD hS hA (fun r9 w1 H locs hq hP hD hS => ?_)
  obtain ⟨⟨t, ht, rfl⟩, rfl⟩ := hq
  have hP : va_P g.1 vwCl (([(ua, .inr (1, [.ref ar, .int (nI cnt)])), (ar, .inl (g.2.2.1, 6, .inr (.inr (.inr (.inr rows))))), (co, .inl (g.2.1, 6, .inl cs)), (mo, .inl (g.2.1, 6, .inl ms))] ++ (zLs g cnt aa rr ff zz qq))) H := hP
  have hD : va_D (fun q : Nat => s.heap.size ≤ q) (([(ua, .inr (1, [.ref ar, .int (nI cnt)])), (ar, .inl (g.2.2.1, 6, .inr (.inr (.inr (.inr rows))))), (co, .inl (g.2.1, 6, .inl cs)), (mo, .inl (g.2.1, 6, .inl ms))] ++ (zLs g cnt aa rr ff zz qq))) := hD
  refine z_iadd hx hb dL_law_358 ?_
  refine lv_istore (lv' := [(12, .int (nI (1 + t))), (0, .ref b), (1, .ref ua), (2, .ref co), (3, .ref mo), (4, .int (nI cnt)), (5, .int (nI rv)), (6, .int (nI k)), (8, .int x8), (10, .int (nI j)), (11, .int (nI ((zz j).1 - (zz j).2.1)))]) hx hb dL_law_359 hl (by decide) rfl (fun ls hl => ?_)
  refine lv_aload_n hx hb dL_law_361 rfl (lv_at hl 4 rfl) ?_
  refine lv_iload hx hb dL_law_362 (lv_at hl 9 rfl) ?_
  refine lv_dup2_11 hx hb dL_law_364 rfl rfl ?_
  refine z_iald hx hb hK hP 3 0 rfl rfl (by omega) (by decide) dL_law_365 ?_
  refine zi (y := nI ((zz j).1)) (i8 j hj) ?_
  refine lv_iload hx hb dL_law_366 (lv_at hl 0 rfl) ?_
  refine z_iadd hx hb dL_law_368 ?_
  refine z_iast hx hb hK hP hD hS 3 0 rfl rfl (by omega) (by decide) dL_law_369 (fun H locs hP hD hS => ?_)
  have hP : va_P g.1 vwCl (([(ua, .inr (1, [.ref ar, .int (nI cnt)])), (ar, .inl (g.2.2.1, 6, .inr (.inr (.inr (.inr rows))))), (co, .inl (g.2.1, 6, .inl cs)), (mo, .inl (g.2.1, 6, .inl (upd ms j (nI ((zz j).1 + (1 + t))))))] ++ (zLs g cnt aa rr ff zz qq))) H := hP
  have hD : va_D (fun q : Nat => s.heap.size ≤ q) (([(ua, .inr (1, [.ref ar, .int (nI cnt)])), (ar, .inl (g.2.2.1, 6, .inr (.inr (.inr (.inr rows))))), (co, .inl (g.2.1, 6, .inl cs)), (mo, .inl (g.2.1, 6, .inl (upd ms j (nI ((zz j).1 + (1 + t))))))] ++ (zLs g cnt aa rr ff zz qq))) := hD
  refine lv_aload_n hx hb dL_law_370 rfl (lv_at hl 2 rfl) ?_
  refine lv_iload hx hb dL_law_371 (lv_at hl 9 rfl) ?_
  refine lv_iload hx hb dL_law_373 (lv_at hl 0 rfl) ?_
  refine lv_iload hx hb dL_law_375 (lv_at hl 8 rfl) ?_
  refine lv_iconst (v := nI 5) hx hb dL_law_377 (by decide) ?_
  refine lv_ishr hx hb dL_law_378 ?_
  refine lv_topi (fun y1 _ => ?_)
  refine lv_sipush (v := nI 10001) hx hb dL_law_379 (by decide) ?_
  refine z_ai (wa := []) (wc := []) (wb := ([(ua, .inr (1, [.ref ar, .int (nI cnt)])), (ar, .inl (g.2.2.1, 6, .inr (.inr (.inr (.inr rows))))), (co, .inl (g.2.1, 6, .inl cs)), (mo, .inl (g.2.1, 6, .inl (upd ms j (nI ((zz j).1 + (1 + t))))))] ++ (zLs g cnt aa rr ff zz qq))) (va_runS (As := [.int y1, .int (nI 10001)]) (rest := [.int (nI (1 + t)), .int (nI j), .ref ua]) ⟨hx, hb, hml, hown, hts⟩ (c_low l g y1 10001 (by decide) (by decide) H.size _ rfl) (va_cwS 2 hts gL_law_L_low rfl rfl rfl (by decide +kernel) ⟨Nat.le_of_ble_eq_true rfl, Nat.le_of_ble_eq_true rfl⟩) (zpreS (wa := []) (wc := []) (wb := ([(ua, .inr (1, [.ref ar, .int (nI cnt)])), (ar, .inl (g.2.2.1, 6, .inr (.inr (.inr (.inr rows))))), (co, .inl (g.2.1, 6, .inl cs)), (mo, .inl (g.2.1, 6, .inl (upd ms j (nI ((zz j).1 + (1 + t))))))] ++ (zLs g cnt aa rr ff zz qq))) hK hP hD) rfl rfl hl.1 rfl (lv_room (Nat.le_of_ble_eq_true rfl)) dL_law_382 ⟨by omega, by omega⟩) hP hD hS hA (fun r9 w1 H locs hq hP hD hS => ?_)
  obtain ⟨⟨v, hv, rfl⟩, rfl⟩ := hq
  have hP : va_P g.1 vwCl (([(ua, .inr (1, [.ref ar, .int (nI cnt)])), (ar, .inl (g.2.2.1, 6, .inr (.inr (.inr (.inr rows))))), (co, .inl (g.2.1, 6, .inl cs)), (mo, .inl (g.2.1, 6, .inl (upd ms j (nI ((zz j).1 + (1 + t))))))] ++ (zLs g cnt aa rr ff zz qq))) H := hP
  have hD : va_D (fun q : Nat => s.heap.size ≤ q) (([(ua, .inr (1, [.ref ar, .int (nI cnt)])), (ar, .inl (g.2.2.1, 6, .inr (.inr (.inr (.inr rows))))), (co, .inl (g.2.1, 6, .inl cs)), (mo, .inl (g.2.1, 6, .inl (upd ms j (nI ((zz j).1 + (1 + t))))))] ++ (zLs g cnt aa rr ff zz qq))) := hD
  refine z_ai0 (wc := ([(ua, .inr (1, [.ref ar, .int (nI cnt)])), (ar, .inl (g.2.2.1, 6, .inr (.inr (.inr (.inr rows))))), (co, .inl (g.2.1, 6, .inl cs)), (mo, .inl (g.2.1, 6, .inl (upd ms j (nI ((zz j).1 + (1 + t))))))] ++ (zLs g cnt aa rr ff zz qq))) (va_runV (As := [.int (nI j), .int (nI (1 + t)), .int (nI v)]) (rest := []) ⟨hx, hb, hml, hown, hts⟩ (K_lengthen l hst g ua ar co mo cnt rows cs (upd ms j (nI ((zz j).1 + (1 + t)))) aa rr ff zz qq (rv := rv) j (1 + t) v hj hI (by omega) (by omega) (by omega) hlt (by omega) H.size _ rfl) (cwV 3 hts gL_law_X1_lengthen rfl rfl rfl (by decide +kernel) ⟨Nat.le_of_ble_eq_true rfl, Nat.le_of_ble_eq_true rfl⟩) (zpreXV0 (wc := ([(ua, .inr (1, [.ref ar, .int (nI cnt)])), (ar, .inl (g.2.2.1, 6, .inr (.inr (.inr (.inr rows))))), (co, .inl (g.2.1, 6, .inl cs)), (mo, .inl (g.2.1, 6, .inl (upd ms j (nI ((zz j).1 + (1 + t))))))] ++ (zLs g cnt aa rr ff zz qq))) (q0 := 0) (ci := 1) (T := TX1) (N := 2) hK hP hD hS hA hX rfl rfl) rfl rfl hl.1 rfl (lv_room (Nat.le_of_ble_eq_true rfl)) dL_law_385 ⟨by omega, by omega⟩) hP hD hS hA (fun r9 w1 H locs hq hP hD hS => ?_)
  obtain ⟨z2, q2, ⟨hz1, hz0, hz2, hz3⟩, rfl, hz4⟩ := hq
  have hP : va_P g.1 vwCl (([(ua, .inr (1, [.ref ar, .int (nI cnt)])), (ar, .inl (g.2.2.1, 6, .inr (.inr (.inr (.inr rows))))), (co, .inl (g.2.1, 6, .inl cs)), (mo, .inl (g.2.1, 6, .inl (upd ms j (nI ((zz j).1 + (1 + t))))))] ++ (zLs g cnt aa rr ff (va_up zz j z2) (va_up qq j q2)))) H := hP
  have hD : va_D (fun q : Nat => s.heap.size ≤ q) (([(ua, .inr (1, [.ref ar, .int (nI cnt)])), (ar, .inl (g.2.2.1, 6, .inr (.inr (.inr (.inr rows))))), (co, .inl (g.2.1, 6, .inl cs)), (mo, .inl (g.2.1, 6, .inl (upd ms j (nI ((zz j).1 + (1 + t))))))] ++ (zLs g cnt aa rr ff (va_up zz j z2) (va_up qq j q2)))) := hD
  have hI2 := hI.up (ms' := upd ms j (nI ((zz j).1 + (1 + t)))) hz2 hz4 hz3 (Nat.le_refl rv) i2 ((z_upd_s _ _ _).trans (by rw [hz1])) (fun i h => z_upd_n _ _ h)
  refine lv_pop hx hb dL_law_388 rfl ?_
  refine lv_aload_n hx hb dL_law_389 rfl (lv_at hl 2 rfl) ?_
  refine lv_iload hx hb dL_law_390 (lv_at hl 9 rfl) ?_
  refine z_ai0 (wc := ([(ua, .inr (1, [.ref ar, .int (nI cnt)])), (ar, .inl (g.2.2.1, 6, .inr (.inr (.inr (.inr rows))))), (co, .inl (g.2.1, 6, .inl cs)), (mo, .inl (g.2.1, 6, .inl (upd ms j (nI ((zz j).1 + (1 + t))))))] ++ (zLs g cnt aa rr ff (va_up zz j z2) (va_up qq j q2)))) (va_runV (As := [.int (nI j)]) (rest := []) ⟨hx, hb, hml, hown, hts⟩ (K_toCome l hst g ua ar co mo cnt rows cs (upd ms j (nI ((zz j).1 + (1 + t)))) aa rr ff (va_up zz j z2) (va_up qq j q2) j hj hI2 H.size _ rfl) (cwV 1 hts gL_law_X1_toCome rfl rfl rfl (by decide +kernel) ⟨Nat.le_of_ble_eq_true rfl, Nat.le_of_ble_eq_true rfl⟩) (zpreXV0 (wc := ([(ua, .inr (1, [.ref ar, .int (nI cnt)])), (ar, .inl (g.2.2.1, 6, .inr (.inr (.inr (.inr rows))))), (co, .inl (g.2.1, 6, .inl cs)), (mo, .inl (g.2.1, 6, .inl (upd ms j (nI ((zz j).1 + (1 + t))))))] ++ (zLs g cnt aa rr ff (va_up zz j z2) (va_up qq j q2)))) (q0 := 0) (ci := 1) (T := TX1) (N := 2) hK hP hD hS hA hX rfl rfl) rfl rfl hl.1 rfl (lv_room (Nat.le_of_ble_eq_true rfl)) dL_law_392 ⟨by omega, by omega⟩) hP hD hS hA (fun r9 w1 H locs hq hP hD hS => ?_)
  obtain ⟨rfl, rfl⟩ := hq
  have hP : va_P g.1 vwCl (([(ua, .inr (1, [.ref ar, .int (nI cnt)])), (ar, .inl (g.2.2.1, 6, .inr (.inr (.inr (.inr rows))))), (co, .inl (g.2.1, 6, .inl cs)), (mo, .inl (g.2.1, 6, .inl (upd ms j (nI ((zz j).1 + (1 + t))))))] ++ (zLs g cnt aa rr ff (va_up zz j z2) (va_up qq j q2)))) H := hP
  have hD : va_D (fun q : Nat => s.heap.size ≤ q) (([(ua, .inr (1, [.ref ar, .int (nI cnt)])), (ar, .inl (g.2.2.1, 6, .inr (.inr (.inr (.inr rows))))), (co, .inl (g.2.1, 6, .inl cs)), (mo, .inl (g.2.1, 6, .inl (upd ms j (nI ((zz j).1 + (1 + t))))))] ++ (zLs g cnt aa rr ff (va_up zz j z2) (va_up qq j q2)))) := hD
  refine zi (y := nI ((zz j).1 + (1 + t) - (zz j).2.1)) (by rw [va_up_self, hz1, hz0]) ?_
  refine lv_iload hx hb dL_law_395 (lv_at hl 10 rfl) ?_
  refine lv_iload hx hb dL_law_397 (lv_at hl 0 rfl) ?_
  refine z_iadd hx hb dL_law_399 ?_
  refine z_icmp_eq (tgt := 405) hx hb dL_law_400 (by decide) (by omega) (by omega) (fun he => ?_) (fun he => ?_)
  · refine lv_goto (tgt := 541) hx hb dL_law_405 (by decide) ?_
    refine W.widen (k := cN) (n := sN) (by omega) (by omega) ?_
    exact nx cnt rv rows cs (upd ms j (nI ((zz j).1 + (1 + t)))) aa rr ff (va_up zz j z2) (va_up qq j q2) H _ ls hI2 hP hD hS (lv_sub hl [1, 2, 3, 4, 5, 6, 7] rfl)
  · exact absurd (by omega) he

set_option maxHeartbeats 4000000 in
set_option maxRecDepth 100000 in
theorem L_short {j : Nat} (hst : l.stackTraces = false) (hL : L ≤ 260) (C0 : lw_At p s m meth c b L xs) (hK : zK g s) (hX : zX (fun q : Nat => s.heap.size ≤ q) s s.heap) (hcN : c0 + 90 ≤ cN) (hsN : s0 + 600 ≤ sN) (hcR : cN ≤ room_1.cells) (hsR : sN ≤ room_1.slots) (hI : zTw cnt rows cs ms aa rr ff zz qq rv) (hj : j < cnt) (hlt : 1 < (zz j).1 - (zz j).2.1) (hP : va_P g.1 vwCl (([(ua, .inr (1, [.ref ar, .int (nI cnt)])), (ar, .inl (g.2.2.1, 6, .inr (.inr (.inr (.inr rows))))), (co, .inl (g.2.1, 6, .inl cs)), (mo, .inl (g.2.1, 6, .inl ms))] ++ (zLs g cnt aa rr ff zz qq))) H) (hD : va_D (fun q : Nat => s.heap.size ≤ q) (([(ua, .inr (1, [.ref ar, .int (nI cnt)])), (ar, .inl (g.2.2.1, 6, .inr (.inr (.inr (.inr rows))))), (co, .inl (g.2.1, 6, .inl cs)), (mo, .inl (g.2.1, 6, .inl ms))] ++ (zLs g cnt aa rr ff zz qq)))) (hS : va_S (fun q : Nat => s.heap.size ≤ q) s.heap H locs) (hl : lv_has ls 14 [(0, .ref b), (1, .ref ua), (2, .ref co), (3, .ref mo), (4, .int (nI cnt)), (5, .int (nI rv)), (6, .int (nI k)), (8, .int x8), (10, .int (nI j)), (11, .int (nI ((zz j).1 - (zz j).2.1)))]) (nx : zNx p l e s m below meth c Q g b ua ar co mo k cN sN 541) : W p l e room_1 s m #[Value.ref b] below meth c H locs c0 s0 Q (F0 m 420 ls []) := by
  obtain ⟨hx, hb, hr, hml, hown, hts0, hXs, hbl, hlocks, hgv⟩ := id C0
  have hown : s.vm.findClass RL = some m.cls := hown
  have hts : ∀ w ∈ wsL_law, w.before #[Value.ref b] s = true := fun w h => hts0 w (wsL_law_in w h)
  have hA : ∀ q : Nat, s.heap.size ≤ q → (fun q : Nat => s.heap.size ≤ q) q := fun _ h => h
  have hbA : ¬ (fun q : Nat => s.heap.size ≤ q) b := Nat.not_le.mpr hbl
  obtain ⟨i1, i2, i3, i4, i5, i6, i7, i8⟩ := id hI
  obtain ⟨t1, t2, t3⟩ := zInv_T (i5 j hj)
  refine lv_aload_n hx hb dL_law_420 rfl (lv_at hl 1 rfl) ?_
  refine lv_iload hx hb dL_law_421 (lv_at hl 8 rfl) ?_
  refine z_ai0 (wc := ([(ua, .inr (1, [.ref ar, .int (nI cnt)])), (ar, .inl (g.2.2.1, 6, .inr (.inr (.inr (.inr rows))))), (co, .inl (g.2.1, 6, .inl cs)), (mo, .inl (g.2.1, 6, .inl ms))] ++ (zLs g cnt aa rr ff zz qq))) (va_runV (As := [.int (nI j)]) (rest := []) ⟨hx, hb, hml, hown, hts⟩ (K_gains l hst g ua ar co mo cnt rows cs ms aa rr ff zz qq j hj hI H.size _ rfl) (cwV 1 hts gL_law_X1_gains rfl rfl rfl (by decide +kernel) ⟨Nat.le_of_ble_eq_true rfl, Nat.le_of_ble_eq_true rfl⟩) (zpreXV0 (wc := ([(ua, .inr (1, [.ref ar, .int (nI cnt)])), (ar, .inl (g.2.2.1, 6, .inr (.inr (.inr (.inr rows))))), (co, .inl (g.2.1, 6, .inl cs)), (mo, .inl (g.2.1, 6, .inl ms))] ++ (zLs g cnt aa rr ff zz qq))) (q0 := 0) (ci := 1) (T := TX1) (N := 2) hK hP hD hS hA hX rfl rfl) rfl rfl hl.1 rfl (lv_room (Nat.le_of_ble_eq_true rfl)) dL_law_423 ⟨by omega, by omega⟩) hP hD hS hA (fun r9 w1 H locs hq hP hD hS => ?_)
  obtain ⟨rfl, rfl⟩ := hq
  have hP : va_P g.1 vwCl (([(ua, .inr (1, [.ref ar, .int (nI cnt)])), (ar, .inl (g.2.2.1, 6, .inr (.inr (.inr (.inr rows))))), (co, .inl (g.2.1, 6, .inl cs)), (mo, .inl (g.2.1, 6, .inl ms))] ++ (zLs g cnt aa rr ff zz qq))) H := hP
  have hD : va_D (fun q : Nat => s.heap.size ≤ q) (([(ua, .inr (1, [.ref ar, .int (nI cnt)])), (ar, .inl (g.2.2.1, 6, .inr (.inr (.inr (.inr rows))))), (co, .inl (g.2.1, 6, .inl cs)), (mo, .inl (g.2.1, 6, .inl ms))] ++ (zLs g cnt aa rr ff zz qq))) := hD
  refine lv_istore (lv' := [(12, .int (zGA (zz j))), (0, .ref b), (1, .ref ua), (2, .ref co), (3, .ref mo), (4, .int (nI cnt)), (5, .int (nI rv)), (6, .int (nI k)), (8, .int x8), (10, .int (nI j)), (11, .int (nI ((zz j).1 - (zz j).2.1)))]) hx hb dL_law_426 hl (by decide) rfl (fun ls hl => ?_)
  refine lv_iconst (v := nI 1) hx hb dL_law_428 (by decide) ?_
  refine lv_iload hx hb dL_law_429 (lv_at hl 8 rfl) ?_
  refine lv_iload hx hb dL_law_431 (lv_at hl 10 rfl) ?_
  refine lv_iconst (v := nI 1) hx hb dL_law_433 (by decide) ?_
  refine z_isub hx hb dL_law_434 (by omega) ?_
  refine z_ai (wa := []) (wc := []) (wb := ([(ua, .inr (1, [.ref ar, .int (nI cnt)])), (ar, .inl (g.2.2.1, 6, .inr (.inr (.inr (.inr rows))))), (co, .inl (g.2.1, 6, .inl cs)), (mo, .inl (g.2.1, 6, .inl ms))] ++ (zLs g cnt aa rr ff zz qq))) (va_runS (As := [.int x8, .int (nI (((zz j).1 - (zz j).2.1) - 1))]) (rest := [.int (nI 1)]) ⟨hx, hb, hml, hown, hts⟩ (c_low l g x8 (((zz j).1 - (zz j).2.1) - 1) (by omega) (by omega) H.size _ rfl) (va_cwS 2 hts gL_law_L_low rfl rfl rfl (by decide +kernel) ⟨Nat.le_of_ble_eq_true rfl, Nat.le_of_ble_eq_true rfl⟩) (zpreS (wa := []) (wc := []) (wb := ([(ua, .inr (1, [.ref ar, .int (nI cnt)])), (ar, .inl (g.2.2.1, 6, .inr (.inr (.inr (.inr rows))))), (co, .inl (g.2.1, 6, .inl cs)), (mo, .inl (g.2.1, 6, .inl ms))] ++ (zLs g cnt aa rr ff zz qq))) hK hP hD) rfl rfl hl.1 rfl (lv_room (Nat.le_of_ble_eq_true rfl)) dL_law_435 ⟨by omega, by omega⟩) hP hD hS hA (fun r9 w1 H locs hq hP hD hS => ?_)
  obtain ⟨⟨t, ht, rfl⟩, rfl⟩ := hq
  have hP : va_P g.1 vwCl (([(ua, .inr (1, [.ref ar, .int (nI cnt)])), (ar, .inl (g.2.2.1, 6, .inr (.inr (.inr (.inr rows))))), (co, .inl (g.2.1, 6, .inl cs)), (mo, .inl (g.2.1, 6, .inl ms))] ++ (zLs g cnt aa rr ff zz qq))) H := hP
  have hD : va_D (fun q : Nat => s.heap.size ≤ q) (([(ua, .inr (1, [.ref ar, .int (nI cnt)])), (ar, .inl (g.2.2.1, 6, .inr (.inr (.inr (.inr rows))))), (co, .inl (g.2.1, 6, .inl cs)), (mo, .inl (g.2.1, 6, .inl ms))] ++ (zLs g cnt aa rr ff zz qq))) := hD
  refine z_iadd hx hb dL_law_438 ?_
  refine lv_istore (lv' := [(13, .int (nI (1 + t))), (12, .int (zGA (zz j))), (0, .ref b), (1, .ref ua), (2, .ref co), (3, .ref mo), (4, .int (nI cnt)), (5, .int (nI rv)), (6, .int (nI k)), (8, .int x8), (10, .int (nI j)), (11, .int (nI ((zz j).1 - (zz j).2.1)))]) hx hb dL_law_439 hl (by decide) rfl (fun ls hl => ?_)
  refine lv_aload_n hx hb dL_law_441 rfl (lv_at hl 5 rfl) ?_
  refine lv_iload hx hb dL_law_442 (lv_at hl 10 rfl) ?_
  refine lv_dup2_11 hx hb dL_law_444 rfl rfl ?_
  refine z_iald hx hb hK hP 3 0 rfl rfl (by omega) (by decide) dL_law_445 ?_
  refine zi (y := nI ((zz j).1)) (i8 j hj) ?_
  refine lv_iload hx hb dL_law_446 (lv_at hl 0 rfl) ?_
  refine lv_bipush (v := nI 60) hx hb dL_law_448 (by decide) ?_
  refine z_icmp_le (tgt := 457) hx hb dL_law_450 (by decide) (by omega) (by omega) (fun hd => ?_) (fun hd => ?_)
  · refine lv_iload hx hb dL_law_457 (lv_at hl 0 rfl) ?_
    refine z_isub hx hb dL_law_459 (by omega) ?_
    refine z_iast hx hb hK hP hD hS 3 0 rfl rfl (by omega) (by decide) dL_law_460 (fun H locs hP hD hS => ?_)
    have hP : va_P g.1 vwCl (([(ua, .inr (1, [.ref ar, .int (nI cnt)])), (ar, .inl (g.2.2.1, 6, .inr (.inr (.inr (.inr rows))))), (co, .inl (g.2.1, 6, .inl cs)), (mo, .inl (g.2.1, 6, .inl (upd ms j (nI (((zz j).1) - (1 + t))))))] ++ (zLs g cnt aa rr ff zz qq))) H := hP
    have hD : va_D (fun q : Nat => s.heap.size ≤ q) (([(ua, .inr (1, [.ref ar, .int (nI cnt)])), (ar, .inl (g.2.2.1, 6, .inr (.inr (.inr (.inr rows))))), (co, .inl (g.2.1, 6, .inl cs)), (mo, .inl (g.2.1, 6, .inl (upd ms j (nI (((zz j).1) - (1 + t))))))] ++ (zLs g cnt aa rr ff zz qq))) := hD
    refine lv_iload hx hb dL_law_461 (lv_at hl 0 rfl) ?_
    refine lv_bipush (v := nI 60) hx hb dL_law_463 (by decide) ?_
    refine z_icmp_gt (tgt := 490) hx hb dL_law_465 (by decide) (by omega) (by omega) (fun h60 => ?_) (fun h60 => ?_)
    · exact absurd hd (by omega)
    · refine lv_aload_n hx hb dL_law_468 rfl (lv_at hl 3 rfl) ?_
      refine lv_iload hx hb dL_law_469 (lv_at hl 10 rfl) ?_
      refine lv_iload hx hb dL_law_471 (lv_at hl 0 rfl) ?_
      refine z_ai0 (wc := ([(ua, .inr (1, [.ref ar, .int (nI cnt)])), (ar, .inl (g.2.2.1, 6, .inr (.inr (.inr (.inr rows))))), (co, .inl (g.2.1, 6, .inl cs)), (mo, .inl (g.2.1, 6, .inl (upd ms j (nI (((zz j).1) - (1 + t))))))] ++ (zLs g cnt aa rr ff zz qq))) (va_runV (As := [.int (nI j), .int (nI (1 + t))]) (rest := []) ⟨hx, hb, hml, hown, hts⟩ (K_shorten l hst g ua ar co mo cnt rows cs (upd ms j (nI ((zz j).1 - (1 + t)))) aa rr ff zz qq (rv := rv) j (1 + t) hj hI (by omega) (by omega) (by omega) H.size _ rfl) (cwV 2 hts gL_law_X1_shorten rfl rfl rfl (by decide +kernel) ⟨Nat.le_of_ble_eq_true rfl, Nat.le_of_ble_eq_true rfl⟩) (zpreXV0 (wc := ([(ua, .inr (1, [.ref ar, .int (nI cnt)])), (ar, .inl (g.2.2.1, 6, .inr (.inr (.inr (.inr rows))))), (co, .inl (g.2.1, 6, .inl cs)), (mo, .inl (g.2.1, 6, .inl (upd ms j (nI (((zz j).1) - (1 + t))))))] ++ (zLs g cnt aa rr ff zz qq))) (q0 := 0) (ci := 1) (T := TX1) (N := 2) hK hP hD hS hA hX rfl rfl) rfl rfl hl.1 rfl (lv_room (Nat.le_of_ble_eq_true rfl)) dL_law_473 ⟨by omega, by omega⟩) hP hD hS hA (fun r9 w1 H locs hq hP hD hS => ?_)
      obtain ⟨z2, q2, ⟨rfl, hz1, hz2, hz3⟩, rfl, hz4⟩ := hq
      have hP : va_P g.1 vwCl (([(ua, .inr (1, [.ref ar, .int (nI cnt)])), (ar, .inl (g.2.2.1, 6, .inr (.inr (.inr (.inr rows))))), (co, .inl (g.2.1, 6, .inl cs)), (mo, .inl (g.2.1, 6, .inl (upd ms j (nI ((zz j).1 - (1 + t))))))] ++ (zLs g cnt aa rr ff (va_up zz j z2) (va_up qq j q2)))) H := hP
      have hD : va_D (fun q : Nat => s.heap.size ≤ q) (([(ua, .inr (1, [.ref ar, .int (nI cnt)])), (ar, .inl (g.2.2.1, 6, .inr (.inr (.inr (.inr rows))))), (co, .inl (g.2.1, 6, .inl cs)), (mo, .inl (g.2.1, 6, .inl (upd ms j (nI ((zz j).1 - (1 + t))))))] ++ (zLs g cnt aa rr ff (va_up zz j z2) (va_up qq j q2)))) := hD
      have hI2 := hI.up (ms' := upd ms j (nI ((zz j).1 - (1 + t)))) hz2 hz4 hz3 (Nat.le_refl rv) i2 ((z_upd_s _ _ _).trans (by rw [hz1])) (fun i h => z_upd_n _ _ h)
      refine lv_aload_n hx hb dL_law_476 rfl (lv_at hl 3 rfl) ?_
      refine lv_iload hx hb dL_law_477 (lv_at hl 10 rfl) ?_
      refine z_ai0 (wc := ([(ua, .inr (1, [.ref ar, .int (nI cnt)])), (ar, .inl (g.2.2.1, 6, .inr (.inr (.inr (.inr rows))))), (co, .inl (g.2.1, 6, .inl cs)), (mo, .inl (g.2.1, 6, .inl (upd ms j (nI ((zz j).1 - (1 + t))))))] ++ (zLs g cnt aa rr ff (va_up zz j z2) (va_up qq j q2)))) (va_runV (As := [.int (nI j)]) (rest := [.int (zGA z2 - zGA (zz j))]) ⟨hx, hb, hml, hown, hts⟩ (K_gains l hst g ua ar co mo cnt rows cs (upd ms j (nI ((zz j).1 - (1 + t)))) aa rr ff (va_up zz j z2) (va_up qq j q2) j hj hI2 H.size _ rfl) (cwV 1 hts gL_law_X1_gains rfl rfl rfl (by decide +kernel) ⟨Nat.le_of_ble_eq_true rfl, Nat.le_of_ble_eq_true rfl⟩) (zpreXV0 (wc := ([(ua, .inr (1, [.ref ar, .int (nI cnt)])), (ar, .inl (g.2.2.1, 6, .inr (.inr (.inr (.inr rows))))), (co, .inl (g.2.1, 6, .inl cs)), (mo, .inl (g.2.1, 6, .inl (upd ms j (nI ((zz j).1 - (1 + t))))))] ++ (zLs g cnt aa rr ff (va_up zz j z2) (va_up qq j q2)))) (q0 := 0) (ci := 1) (T := TX1) (N := 2) hK hP hD hS hA hX rfl rfl) rfl rfl hl.1 rfl (lv_room (Nat.le_of_ble_eq_true rfl)) dL_law_479 ⟨by omega, by omega⟩) hP hD hS hA (fun r9 w1 H locs hq hP hD hS => ?_)
      obtain ⟨rfl, rfl⟩ := hq
      have hP : va_P g.1 vwCl (([(ua, .inr (1, [.ref ar, .int (nI cnt)])), (ar, .inl (g.2.2.1, 6, .inr (.inr (.inr (.inr rows))))), (co, .inl (g.2.1, 6, .inl cs)), (mo, .inl (g.2.1, 6, .inl (upd ms j (nI ((zz j).1 - (1 + t))))))] ++ (zLs g cnt aa rr ff (va_up zz j z2) (va_up qq j q2)))) H := hP
      have hD : va_D (fun q : Nat => s.heap.size ≤ q) (([(ua, .inr (1, [.ref ar, .int (nI cnt)])), (ar, .inl (g.2.2.1, 6, .inr (.inr (.inr (.inr rows))))), (co, .inl (g.2.1, 6, .inl cs)), (mo, .inl (g.2.1, 6, .inl (upd ms j (nI ((zz j).1 - (1 + t))))))] ++ (zLs g cnt aa rr ff (va_up zz j z2) (va_up qq j q2)))) := hD
      refine zi (y := zGA z2) (by rw [va_up_self]) ?_
      refine lv_iload hx hb dL_law_482 (lv_at hl 1 rfl) ?_
      refine lv_isub hx hb dL_law_484 ?_
      refine lv_icmp_eq (tgt := 490) hx hb dL_law_485 (by decide) (fun he => ?_) (fun he => ?_)
      · refine lv_goto (tgt := 541) hx hb dL_law_490 (by decide) ?_
        refine W.widen (k := cN) (n := sN) (by omega) (by omega) ?_
        exact nx cnt rv rows cs (upd ms j (nI ((zz j).1 - (1 + t)))) aa rr ff (va_up zz j z2) (va_up qq j q2) H _ ls hI2 hP hD hS (lv_sub hl [2, 3, 4, 5, 6, 7, 8] rfl)
      · exact absurd rfl he
  · refine lv_iconst (v := nI 0) hx hb dL_law_453 (by decide) ?_
    refine lv_goto (tgt := 459) hx hb dL_law_454 (by decide) ?_
    refine z_isub hx hb dL_law_459 (by omega) ?_
    refine z_iast hx hb hK hP hD hS 3 0 rfl rfl (by omega) (by decide) dL_law_460 (fun H locs hP hD hS => ?_)
    have hP : va_P g.1 vwCl (([(ua, .inr (1, [.ref ar, .int (nI cnt)])), (ar, .inl (g.2.2.1, 6, .inr (.inr (.inr (.inr rows))))), (co, .inl (g.2.1, 6, .inl cs)), (mo, .inl (g.2.1, 6, .inl (upd ms j (nI (((zz j).1) - 0)))))] ++ (zLs g cnt aa rr ff zz qq))) H := hP
    have hD : va_D (fun q : Nat => s.heap.size ≤ q) (([(ua, .inr (1, [.ref ar, .int (nI cnt)])), (ar, .inl (g.2.2.1, 6, .inr (.inr (.inr (.inr rows))))), (co, .inl (g.2.1, 6, .inl cs)), (mo, .inl (g.2.1, 6, .inl (upd ms j (nI (((zz j).1) - 0)))))] ++ (zLs g cnt aa rr ff zz qq))) := hD
    refine lv_iload hx hb dL_law_461 (lv_at hl 0 rfl) ?_
    refine lv_bipush (v := nI 60) hx hb dL_law_463 (by decide) ?_
    refine z_icmp_gt (tgt := 490) hx hb dL_law_465 (by decide) (by omega) (by omega) (fun h60 => ?_) (fun h60 => ?_)
    · refine lv_goto (tgt := 541) hx hb dL_law_490 (by decide) ?_
      have hI2 := hI.up (ms' := upd ms j (nI ((zz j).1 - 0))) (z' := zz j) (q' := qq j) (i5 j hj) (i6 j hj) (i7 j hj) (Nat.le_refl rv) i2 (z_upd_s _ _ _) (fun i h => z_upd_n _ _ h)
      rw [z_upid, z_upid] at hI2
      refine W.widen (k := cN) (n := sN) (by omega) (by omega) ?_
      exact nx cnt rv rows cs (upd ms j (nI ((zz j).1 - 0))) aa rr ff zz qq H _ ls hI2 hP hD hS (lv_sub hl [2, 3, 4, 5, 6, 7, 8] rfl)
    · exact absurd h60 (by omega)

set_option maxHeartbeats 4000000 in
set_option maxRecDepth 100000 in
theorem L_cut {j : Nat} (hst : l.stackTraces = false) (hL : L ≤ 260) (C0 : lw_At p s m meth c b L xs) (hK : zK g s) (hX : zX (fun q : Nat => s.heap.size ≤ q) s s.heap) (hcN : c0 + 90 ≤ cN) (hsN : s0 + 600 ≤ sN) (hcR : cN ≤ room_1.cells) (hsR : sN ≤ room_1.slots) (hI : zTw cnt rows cs ms aa rr ff zz qq rv) (hj : j < cnt) (hlt : (zz j).2.1 < (zz j).1) (hP : va_P g.1 vwCl (([(ua, .inr (1, [.ref ar, .int (nI cnt)])), (ar, .inl (g.2.2.1, 6, .inr (.inr (.inr (.inr rows))))), (co, .inl (g.2.1, 6, .inl cs)), (mo, .inl (g.2.1, 6, .inl ms))] ++ (zLs g cnt aa rr ff zz qq))) H) (hD : va_D (fun q : Nat => s.heap.size ≤ q) (([(ua, .inr (1, [.ref ar, .int (nI cnt)])), (ar, .inl (g.2.2.1, 6, .inr (.inr (.inr (.inr rows))))), (co, .inl (g.2.1, 6, .inl cs)), (mo, .inl (g.2.1, 6, .inl ms))] ++ (zLs g cnt aa rr ff zz qq)))) (hS : va_S (fun q : Nat => s.heap.size ≤ q) s.heap H locs) (hl : lv_has ls 14 [(0, .ref b), (1, .ref ua), (2, .ref co), (3, .ref mo), (4, .int (nI cnt)), (5, .int (nI rv)), (6, .int (nI k)), (8, .int x8), (10, .int (nI j)), (11, .int (nI ((zz j).1 - (zz j).2.1)))]) (nx : zNx p l e s m below meth c Q g b ua ar co mo k cN sN 541) : W p l e room_1 s m #[Value.ref b] below meth c H locs c0 s0 Q (F0 m 504 ls []) := by
  obtain ⟨hx, hb, hr, hml, hown, hts0, hXs, hbl, hlocks, hgv⟩ := id C0
  have hown : s.vm.findClass RL = some m.cls := hown
  have hts : ∀ w ∈ wsL_law, w.before #[Value.ref b] s = true := fun w h => hts0 w (wsL_law_in w h)
  have hA : ∀ q : Nat, s.heap.size ≤ q → (fun q : Nat => s.heap.size ≤ q) q := fun _ h => h
  have hbA : ¬ (fun q : Nat => s.heap.size ≤ q) b := Nat.not_le.mpr hbl
  obtain ⟨i1, i2, i3, i4, i5, i6, i7, i8⟩ := id hI
  refine lv_aload_n hx hb dL_law_504 rfl (lv_at hl 1 rfl) ?_
  refine lv_iload hx hb dL_law_505 (lv_at hl 8 rfl) ?_
  refine z_ai0 (wc := ([(ua, .inr (1, [.ref ar, .int (nI cnt)])), (ar, .inl (g.2.2.1, 6, .inr (.inr (.inr (.inr rows))))), (co, .inl (g.2.1, 6, .inl cs)), (mo, .inl (g.2.1, 6, .inl ms))] ++ (zLs g cnt aa rr ff zz qq))) (va_runV (As := [.int (nI j)]) (rest := []) ⟨hx, hb, hml, hown, hts⟩ (K_gains l hst g ua ar co mo cnt rows cs ms aa rr ff zz qq j hj hI H.size _ rfl) (cwV 1 hts gL_law_X1_gains rfl rfl rfl (by decide +kernel) ⟨Nat.le_of_ble_eq_true rfl, Nat.le_of_ble_eq_true rfl⟩) (zpreXV0 (wc := ([(ua, .inr (1, [.ref ar, .int (nI cnt)])), (ar, .inl (g.2.2.1, 6, .inr (.inr (.inr (.inr rows))))), (co, .inl (g.2.1, 6, .inl cs)), (mo, .inl (g.2.1, 6, .inl ms))] ++ (zLs g cnt aa rr ff zz qq))) (q0 := 0) (ci := 1) (T := TX1) (N := 2) hK hP hD hS hA hX rfl rfl) rfl rfl hl.1 rfl (lv_room (Nat.le_of_ble_eq_true rfl)) dL_law_507 ⟨by omega, by omega⟩) hP hD hS hA (fun r9 w1 H locs hq hP hD hS => ?_)
  obtain ⟨rfl, rfl⟩ := hq
  have hP : va_P g.1 vwCl (([(ua, .inr (1, [.ref ar, .int (nI cnt)])), (ar, .inl (g.2.2.1, 6, .inr (.inr (.inr (.inr rows))))), (co, .inl (g.2.1, 6, .inl cs)), (mo, .inl (g.2.1, 6, .inl ms))] ++ (zLs g cnt aa rr ff zz qq))) H := hP
  have hD : va_D (fun q : Nat => s.heap.size ≤ q) (([(ua, .inr (1, [.ref ar, .int (nI cnt)])), (ar, .inl (g.2.2.1, 6, .inr (.inr (.inr (.inr rows))))), (co, .inl (g.2.1, 6, .inl cs)), (mo, .inl (g.2.1, 6, .inl ms))] ++ (zLs g cnt aa rr ff zz qq))) := hD
  refine lv_istore (lv' := [(12, .int (zGA (zz j))), (0, .ref b), (1, .ref ua), (2, .ref co), (3, .ref mo), (4, .int (nI cnt)), (5, .int (nI rv)), (6, .int (nI k)), (8, .int x8), (10, .int (nI j)), (11, .int (nI ((zz j).1 - (zz j).2.1)))]) hx hb dL_law_510 hl (by decide) rfl (fun ls hl => ?_)
  refine lv_aload_n hx hb dL_law_512 rfl (lv_at hl 2 rfl) ?_
  refine lv_iload hx hb dL_law_513 (lv_at hl 9 rfl) ?_
  refine lv_iconst (v := nI 1) hx hb dL_law_515 (by decide) ?_
  refine lv_iload hx hb dL_law_516 (lv_at hl 8 rfl) ?_
  refine lv_bipush (v := nI 40) hx hb dL_law_518 (by decide) ?_
  refine z_ai (wa := []) (wc := []) (wb := ([(ua, .inr (1, [.ref ar, .int (nI cnt)])), (ar, .inl (g.2.2.1, 6, .inr (.inr (.inr (.inr rows))))), (co, .inl (g.2.1, 6, .inl cs)), (mo, .inl (g.2.1, 6, .inl ms))] ++ (zLs g cnt aa rr ff zz qq))) (va_runS (As := [.int x8, .int (nI 40)]) (rest := [.int (nI 1), .int (nI j), .ref ua]) ⟨hx, hb, hml, hown, hts⟩ (c_low l g x8 40 (by decide) (by decide) H.size _ rfl) (va_cwS 2 hts gL_law_L_low rfl rfl rfl (by decide +kernel) ⟨Nat.le_of_ble_eq_true rfl, Nat.le_of_ble_eq_true rfl⟩) (zpreS (wa := []) (wc := []) (wb := ([(ua, .inr (1, [.ref ar, .int (nI cnt)])), (ar, .inl (g.2.2.1, 6, .inr (.inr (.inr (.inr rows))))), (co, .inl (g.2.1, 6, .inl cs)), (mo, .inl (g.2.1, 6, .inl ms))] ++ (zLs g cnt aa rr ff zz qq))) hK hP hD) rfl rfl hl.1 rfl (lv_room (Nat.le_of_ble_eq_true rfl)) dL_law_520 ⟨by omega, by omega⟩) hP hD hS hA (fun r9 w1 H locs hq hP hD hS => ?_)
  obtain ⟨⟨t, ht, rfl⟩, rfl⟩ := hq
  have hP : va_P g.1 vwCl (([(ua, .inr (1, [.ref ar, .int (nI cnt)])), (ar, .inl (g.2.2.1, 6, .inr (.inr (.inr (.inr rows))))), (co, .inl (g.2.1, 6, .inl cs)), (mo, .inl (g.2.1, 6, .inl ms))] ++ (zLs g cnt aa rr ff zz qq))) H := hP
  have hD : va_D (fun q : Nat => s.heap.size ≤ q) (([(ua, .inr (1, [.ref ar, .int (nI cnt)])), (ar, .inl (g.2.2.1, 6, .inr (.inr (.inr (.inr rows))))), (co, .inl (g.2.1, 6, .inl cs)), (mo, .inl (g.2.1, 6, .inl ms))] ++ (zLs g cnt aa rr ff zz qq))) := hD
  refine z_iadd hx hb dL_law_523 ?_
  refine z_ai0 (wc := ([(ua, .inr (1, [.ref ar, .int (nI cnt)])), (ar, .inl (g.2.2.1, 6, .inr (.inr (.inr (.inr rows))))), (co, .inl (g.2.1, 6, .inl cs)), (mo, .inl (g.2.1, 6, .inl ms))] ++ (zLs g cnt aa rr ff zz qq))) (va_runV (As := [.int (nI j), .int (nI (1 + t))]) (rest := []) ⟨hx, hb, hml, hown, hts⟩ (K_cut l hst g ua ar co mo cnt rows cs ms aa rr ff zz qq j (1 + t) hj hI (by omega) (by omega) hlt H.size _ rfl) (cwV 2 hts gL_law_X1_cut rfl rfl rfl (by decide +kernel) ⟨Nat.le_of_ble_eq_true rfl, Nat.le_of_ble_eq_true rfl⟩) (zpreXV0 (wc := ([(ua, .inr (1, [.ref ar, .int (nI cnt)])), (ar, .inl (g.2.2.1, 6, .inr (.inr (.inr (.inr rows))))), (co, .inl (g.2.1, 6, .inl cs)), (mo, .inl (g.2.1, 6, .inl ms))] ++ (zLs g cnt aa rr ff zz qq))) (q0 := 0) (ci := 1) (T := TX1) (N := 2) hK hP hD hS hA hX rfl rfl) rfl rfl hl.1 rfl (lv_room (Nat.le_of_ble_eq_true rfl)) dL_law_524 ⟨by omega, by omega⟩) hP hD hS hA (fun r9 w1 H locs hq hP hD hS => ?_)
  obtain ⟨z2, q2, ⟨rfl, hz1, hz2, hz3⟩, rfl, hz4⟩ := hq
  have hP : va_P g.1 vwCl (([(ua, .inr (1, [.ref ar, .int (nI cnt)])), (ar, .inl (g.2.2.1, 6, .inr (.inr (.inr (.inr rows))))), (co, .inl (g.2.1, 6, .inl cs)), (mo, .inl (g.2.1, 6, .inl ms))] ++ (zLs g cnt aa rr ff (va_up zz j z2) (va_up qq j q2)))) H := hP
  have hD : va_D (fun q : Nat => s.heap.size ≤ q) (([(ua, .inr (1, [.ref ar, .int (nI cnt)])), (ar, .inl (g.2.2.1, 6, .inr (.inr (.inr (.inr rows))))), (co, .inl (g.2.1, 6, .inl cs)), (mo, .inl (g.2.1, 6, .inl ms))] ++ (zLs g cnt aa rr ff (va_up zz j z2) (va_up qq j q2)))) := hD
  have hI2 := hI.up hz2 hz4 hz3 (Nat.le_refl rv) i2 ((i8 j hj).trans (by rw [hz1])) (fun i _ => rfl)
  refine lv_aload_n hx hb dL_law_527 rfl (lv_at hl 2 rfl) ?_
  refine lv_iload hx hb dL_law_528 (lv_at hl 9 rfl) ?_
  refine z_ai0 (wc := ([(ua, .inr (1, [.ref ar, .int (nI cnt)])), (ar, .inl (g.2.2.1, 6, .inr (.inr (.inr (.inr rows))))), (co, .inl (g.2.1, 6, .inl cs)), (mo, .inl (g.2.1, 6, .inl ms))] ++ (zLs g cnt aa rr ff (va_up zz j z2) (va_up qq j q2)))) (va_runV (As := [.int (nI j)]) (rest := [.int (zGA z2 - zGA (zz j))]) ⟨hx, hb, hml, hown, hts⟩ (K_gains l hst g ua ar co mo cnt rows cs ms aa rr ff (va_up zz j z2) (va_up qq j q2) j hj hI2 H.size _ rfl) (cwV 1 hts gL_law_X1_gains rfl rfl rfl (by decide +kernel) ⟨Nat.le_of_ble_eq_true rfl, Nat.le_of_ble_eq_true rfl⟩) (zpreXV0 (wc := ([(ua, .inr (1, [.ref ar, .int (nI cnt)])), (ar, .inl (g.2.2.1, 6, .inr (.inr (.inr (.inr rows))))), (co, .inl (g.2.1, 6, .inl cs)), (mo, .inl (g.2.1, 6, .inl ms))] ++ (zLs g cnt aa rr ff (va_up zz j z2) (va_up qq j q2)))) (q0 := 0) (ci := 1) (T := TX1) (N := 2) hK hP hD hS hA hX rfl rfl) rfl rfl hl.1 rfl (lv_room (Nat.le_of_ble_eq_true rfl)) dL_law_530 ⟨by omega, by omega⟩) hP hD hS hA (fun r9 w1 H locs hq hP hD hS => ?_)
  obtain ⟨rfl, rfl⟩ := hq
  have hP : va_P g.1 vwCl (([(ua, .inr (1, [.ref ar, .int (nI cnt)])), (ar, .inl (g.2.2.1, 6, .inr (.inr (.inr (.inr rows))))), (co, .inl (g.2.1, 6, .inl cs)), (mo, .inl (g.2.1, 6, .inl ms))] ++ (zLs g cnt aa rr ff (va_up zz j z2) (va_up qq j q2)))) H := hP
  have hD : va_D (fun q : Nat => s.heap.size ≤ q) (([(ua, .inr (1, [.ref ar, .int (nI cnt)])), (ar, .inl (g.2.2.1, 6, .inr (.inr (.inr (.inr rows))))), (co, .inl (g.2.1, 6, .inl cs)), (mo, .inl (g.2.1, 6, .inl ms))] ++ (zLs g cnt aa rr ff (va_up zz j z2) (va_up qq j q2)))) := hD
  refine zi (y := zGA z2) (by rw [va_up_self]) ?_
  refine lv_iload hx hb dL_law_533 (lv_at hl 0 rfl) ?_
  refine lv_isub hx hb dL_law_535 ?_
  refine lv_icmp_eq (tgt := 541) hx hb dL_law_536 (by decide) (fun he => ?_) (fun he => ?_)
  · refine W.widen (k := cN) (n := sN) (by omega) (by omega) ?_
    exact nx cnt rv rows cs ms aa rr ff (va_up zz j z2) (va_up qq j q2) H _ ls hI2 hP hD hS (lv_sub hl [1, 2, 3, 4, 5, 6, 7] rfl)
  · exact absurd rfl he

end ZLW
end
section
/-! p20: the check of all leases, and the ways to the acts -/
section ZLW
variable {p : Program} {l : Launch} {e : Env} {s : State} {m : MethodId} {below : List Frame} {meth : Method} {c : Code} {b L : Nat} {xs : Nat → Int32} {g : zG} {ua ar co mo cnt k rv c0 s0 cN sN : Nat} {rows : Nat → Option Nat} {cs ms : Nat → Int32} {aa : Nat → Nat × Nat × Nat} {rr ff : Nat → Nat} {zz : Nat → zS} {qq : Nat → zRaw} {Q : State → Prop} {H : Heap} {locs : List Loc} {ls : Array Slot} {x7 x8 : Int32}
set_option maxHeartbeats 4000000 in
set_option maxRecDepth 100000 in
theorem L_check  (hst : l.stackTraces = false) (hL : L ≤ 260) (C0 : lw_At p s m meth c b L xs) (hK : zK g s) (hX : zX (fun q : Nat => s.heap.size ≤ q) s s.heap) (hcN : c0 + 90 ≤ cN) (hsN : s0 + 600 ≤ sN) (hcR : cN ≤ room_1.cells) (hsR : sN ≤ room_1.slots) (hI : zTw cnt rows cs ms aa rr ff zz qq rv)  (hP : va_P g.1 vwCl (([(ua, .inr (1, [.ref ar, .int (nI cnt)])), (ar, .inl (g.2.2.1, 6, .inr (.inr (.inr (.inr rows))))), (co, .inl (g.2.1, 6, .inl cs)), (mo, .inl (g.2.1, 6, .inl ms))] ++ (zLs g cnt aa rr ff zz qq))) H) (hD : va_D (fun q : Nat => s.heap.size ≤ q) (([(ua, .inr (1, [.ref ar, .int (nI cnt)])), (ar, .inl (g.2.2.1, 6, .inr (.inr (.inr (.inr rows))))), (co, .inl (g.2.1, 6, .inl cs)), (mo, .inl (g.2.1, 6, .inl ms))] ++ (zLs g cnt aa rr ff zz qq)))) (hS : va_S (fun q : Nat => s.heap.size ≤ q) s.heap H locs) (hl : lv_has ls 14 [(0, .ref b), (1, .ref ua), (2, .ref co), (3, .ref mo), (4, .int (nI cnt)), (5, .int (nI rv)), (6, .int (nI k))]) (nx : zNx p l e s m below meth c Q g b ua ar co mo (k + 1) cN sN 27) : W p l e room_1 s m #[Value.ref b] below meth c H locs c0 s0 Q (F0 m 541 ls []) := by
  obtain ⟨hx, hb, hr, hml, hown, hts0, hXs, hbl, hlocks, hgv⟩ := id C0
  have hown : s.vm.findClass RL = some m.cls := hown
  have hts : ∀ w ∈ wsL_law, w.before #[Value.ref b] s = true := fun w h => hts0 w (wsL_law_in w h)
  have hA : ∀ q : Nat, s.heap.size ≤ q → (fun q : Nat => s.heap.size ≤ q) q := fun _ h => h
  have hbA : ¬ (fun q : Nat => s.heap.size ≤ q) b := Nat.not_le.mpr hbl
  obtain ⟨i1, i2, i3, i4, i5, i6, i7, i8⟩ := id hI
  refine lv_iconst (v := nI 0) hx hb dL_law_541 (by decide) ?_
  refine lv_istore (lv' := [(12, .int (nI 0)), (0, .ref b), (1, .ref ua), (2, .ref co), (3, .ref mo), (4, .int (nI cnt)), (5, .int (nI rv)), (6, .int (nI k))]) hx hb dL_law_542 hl (by decide) rfl (fun ls hl => ?_)
  have loop : ∀ (n i : Nat) (H : Heap) (locs : List Loc) (ls : Array Slot), cnt < i + n → i ≤ cnt → va_P g.1 vwCl (([(ua, .inr (1, [.ref ar, .int (nI cnt)])), (ar, .inl (g.2.2.1, 6, .inr (.inr (.inr (.inr rows))))), (co, .inl (g.2.1, 6, .inl cs)), (mo, .inl (g.2.1, 6, .inl ms))] ++ (zLs g cnt aa rr ff zz qq))) H → va_D (fun q : Nat => s.heap.size ≤ q) (([(ua, .inr (1, [.ref ar, .int (nI cnt)])), (ar, .inl (g.2.2.1, 6, .inr (.inr (.inr (.inr rows))))), (co, .inl (g.2.1, 6, .inl cs)), (mo, .inl (g.2.1, 6, .inl ms))] ++ (zLs g cnt aa rr ff zz qq))) → va_S (fun q : Nat => s.heap.size ≤ q) s.heap H locs → lv_has ls 14 [(12, .int (nI i)), (0, .ref b), (1, .ref ua), (2, .ref co), (3, .ref mo), (4, .int (nI cnt)), (5, .int (nI rv)), (6, .int (nI k))] → W p l e room_1 s m #[Value.ref b] below meth c H locs (c0 + 13 * i) (s0 + 78 * i) Q (F0 m 544 ls []) := by
    intro n
    induction n with
    | zero =>
      intro i H locs ls hn hi hP hD hS hl
      exfalso; omega
    | succ n ih =>
      intro i H locs ls hn hi hP hD hS hl
      refine lv_iload hx hb dL_law_544 (lv_at hl 0 rfl) ?_
      refine lv_iload hx hb dL_law_546 (lv_at hl 5 rfl) ?_
      refine z_icmp_ge (tgt := 572) hx hb dL_law_548 (by decide) (by omega) (by omega) (fun hc => ?_) (fun hc => ?_)
      · refine z_iinc (lv' := [(6, .int (nI (k + 1))), (12, .int (nI i)), (0, .ref b), (1, .ref ua), (2, .ref co), (3, .ref mo), (4, .int (nI cnt)), (5, .int (nI rv))]) hx hb dL_law_572 hl (k := 7) rfl (by decide) rfl (fun ls hl => ?_)
        refine lv_goto (tgt := 27) hx hb dL_law_575 (by decide) ?_
        refine W.widen (k := cN) (n := sN) (by omega) (by omega) ?_
        exact nx cnt rv rows cs ms aa rr ff zz qq H _ ls hI hP hD hS (lv_sub hl [2, 3, 4, 5, 6, 7, 0] rfl)
      · refine lv_aload_n hx hb dL_law_551 rfl (lv_at hl 2 rfl) ?_
        refine lv_iload hx hb dL_law_552 (lv_at hl 0 rfl) ?_
        refine lv_aload_n hx hb dL_law_554 rfl (lv_at hl 3 rfl) ?_
        refine lv_iload hx hb dL_law_555 (lv_at hl 0 rfl) ?_
        refine z_iald hx hb hK hP 2 0 rfl rfl (by omega) (by decide) dL_law_557 ?_
        refine z_ai0 (wc := ([(ua, .inr (1, [.ref ar, .int (nI cnt)])), (ar, .inl (g.2.2.1, 6, .inr (.inr (.inr (.inr rows))))), (co, .inl (g.2.1, 6, .inl cs)), (mo, .inl (g.2.1, 6, .inl ms))] ++ (zLs g cnt aa rr ff zz qq))) (va_runS (As := [.ref ua, .int (nI i), .int (cs i)]) (rest := []) ⟨hx, hb, hml, hown, hts⟩ (K_adds l hst g ua ar co mo cnt rows cs ms aa rr ff zz qq i hc hI H.size _ rfl) (va_cwS 3 hts gL_law_L_adds rfl rfl rfl (by decide +kernel) ⟨Nat.le_of_ble_eq_true rfl, Nat.le_of_ble_eq_true rfl⟩) (zpreXS0 (wc := ([(ua, .inr (1, [.ref ar, .int (nI cnt)])), (ar, .inl (g.2.2.1, 6, .inr (.inr (.inr (.inr rows))))), (co, .inl (g.2.1, 6, .inl cs)), (mo, .inl (g.2.1, 6, .inl ms))] ++ (zLs g cnt aa rr ff zz qq))) hK hP hD hS hA hX) rfl rfl hl.1 rfl (lv_room (Nat.le_of_ble_eq_true rfl)) dL_law_558 ⟨by omega, by omega⟩) hP hD hS hA (fun r9 w1 H locs hq hP hD hS => ?_)
        obtain ⟨rfl, rfl⟩ := hq
        have hP : va_P g.1 vwCl (([(ua, .inr (1, [.ref ar, .int (nI cnt)])), (ar, .inl (g.2.2.1, 6, .inr (.inr (.inr (.inr rows))))), (co, .inl (g.2.1, 6, .inl cs)), (mo, .inl (g.2.1, 6, .inl ms))] ++ (zLs g cnt aa rr ff zz qq))) H := hP
        have hD : va_D (fun q : Nat => s.heap.size ≤ q) (([(ua, .inr (1, [.ref ar, .int (nI cnt)])), (ar, .inl (g.2.2.1, 6, .inr (.inr (.inr (.inr rows))))), (co, .inl (g.2.1, 6, .inl cs)), (mo, .inl (g.2.1, 6, .inl ms))] ++ (zLs g cnt aa rr ff zz qq))) := hD
        refine z_if_ne (tgt := 566) hx hb dL_law_561 (by decide) (by decide) (fun _ => ?_) (fun h => absurd h (by decide))
        refine z_iinc (lv' := [(12, .int (nI (i + 1))), (0, .ref b), (1, .ref ua), (2, .ref co), (3, .ref mo), (4, .int (nI cnt)), (5, .int (nI rv)), (6, .int (nI k))]) hx hb dL_law_566 hl (k := 0) rfl (by decide) rfl (fun ls hl => ?_)
        refine lv_goto (tgt := 544) hx hb dL_law_569 (by decide) ?_
        refine W.widen (k := c0 + 13 * (i + 1)) (n := s0 + 78 * (i + 1)) (by omega) (by omega) ?_
        exact ih (i + 1) H _ ls (by omega) (by omega) hP hD hS (lv_sub hl [0, 1, 2, 3, 4, 5, 6, 7] rfl)
  exact loop (cnt + 1) 0 H _ ls (by omega) (by omega) hP hD hS (lv_sub hl [0, 1, 2, 3, 4, 5, 6, 7] rfl)

set_option maxHeartbeats 4000000 in
set_option maxRecDepth 100000 in
theorem L_d4 {j w : Nat} (hst : l.stackTraces = false) (hL : L ≤ 260) (C0 : lw_At p s m meth c b L xs) (hK : zK g s) (hX : zX (fun q : Nat => s.heap.size ≤ q) s s.heap) (hcN : c0 + 90 ≤ cN) (hsN : s0 + 600 ≤ sN) (hcR : cN ≤ room_1.cells) (hsR : sN ≤ room_1.slots) (hI : zTw cnt rows cs ms aa rr ff zz qq rv) (hj : j < cnt) (hw : w < 8) (hP : va_P g.1 vwCl (([(ua, .inr (1, [.ref ar, .int (nI cnt)])), (ar, .inl (g.2.2.1, 6, .inr (.inr (.inr (.inr rows))))), (co, .inl (g.2.1, 6, .inl cs)), (mo, .inl (g.2.1, 6, .inl ms))] ++ (zLs g cnt aa rr ff zz qq))) H) (hD : va_D (fun q : Nat => s.heap.size ≤ q) (([(ua, .inr (1, [.ref ar, .int (nI cnt)])), (ar, .inl (g.2.2.1, 6, .inr (.inr (.inr (.inr rows))))), (co, .inl (g.2.1, 6, .inl cs)), (mo, .inl (g.2.1, 6, .inl ms))] ++ (zLs g cnt aa rr ff zz qq)))) (hS : va_S (fun q : Nat => s.heap.size ≤ q) s.heap H locs) (hl : lv_has ls 14 [(0, .ref b), (1, .ref ua), (2, .ref co), (3, .ref mo), (4, .int (nI cnt)), (5, .int (nI rv)), (6, .int (nI k)), (8, .int x8), (9, .int (nI w)), (10, .int (nI j)), (11, .int (nI ((zz j).1 - (zz j).2.1)))]) (nx : zNx p l e s m below meth c Q g b ua ar co mo k cN sN 541) : W p l e room_1 s m #[Value.ref b] below meth c H locs c0 s0 Q (F0 m 493 ls []) := by
  obtain ⟨hx, hb, hr, hml, hown, hts0, hXs, hbl, hlocks, hgv⟩ := id C0
  have hown : s.vm.findClass RL = some m.cls := hown
  have hts : ∀ w ∈ wsL_law, w.before #[Value.ref b] s = true := fun w h => hts0 w (wsL_law_in w h)
  have hA : ∀ q : Nat, s.heap.size ≤ q → (fun q : Nat => s.heap.size ≤ q) q := fun _ h => h
  have hbA : ¬ (fun q : Nat => s.heap.size ≤ q) b := Nat.not_le.mpr hbl
  obtain ⟨i1, i2, i3, i4, i5, i6, i7, i8⟩ := id hI
  obtain ⟨t1, t2, t3⟩ := zInv_T (i5 j hj)
  refine lv_iload hx hb dL_law_493 (lv_at hl 8 rfl) ?_
  refine lv_iconst (v := nI 5) hx hb dL_law_495 (by decide) ?_
  refine z_icmp_le (tgt := 541) hx hb dL_law_496 (by decide) (by omega) (by omega) (fun h1 => ?_) (fun h1 => ?_)
  · refine W.widen (k := cN) (n := sN) (by omega) (by omega) ?_
    exact nx cnt rv rows cs ms aa rr ff zz qq H _ ls hI hP hD hS (lv_sub hl [0, 1, 2, 3, 4, 5, 6] rfl)
  · refine lv_iload hx hb dL_law_499 (lv_at hl 10 rfl) ?_
    refine z_if_le (tgt := 541) hx hb dL_law_501 (by decide) (by omega) (fun h2 => ?_) (fun h2 => ?_)
    · refine W.widen (k := cN) (n := sN) (by omega) (by omega) ?_
      exact nx cnt rv rows cs ms aa rr ff zz qq H _ ls hI hP hD hS (lv_sub hl [0, 1, 2, 3, 4, 5, 6] rfl)
    · exact L_cut hst hL C0 hK hX (by omega) (by omega) hcR hsR hI hj (by omega) hP hD hS (lv_sub hl [0, 1, 2, 3, 4, 5, 6, 7, 9, 10] rfl) nx

set_option maxHeartbeats 4000000 in
set_option maxRecDepth 100000 in
theorem L_d3 {j w : Nat} (hst : l.stackTraces = false) (hL : L ≤ 260) (C0 : lw_At p s m meth c b L xs) (hK : zK g s) (hX : zX (fun q : Nat => s.heap.size ≤ q) s s.heap) (hcN : c0 + 90 ≤ cN) (hsN : s0 + 600 ≤ sN) (hcR : cN ≤ room_1.cells) (hsR : sN ≤ room_1.slots) (hI : zTw cnt rows cs ms aa rr ff zz qq rv) (hj : j < cnt) (hw : w < 8) (hP : va_P g.1 vwCl (([(ua, .inr (1, [.ref ar, .int (nI cnt)])), (ar, .inl (g.2.2.1, 6, .inr (.inr (.inr (.inr rows))))), (co, .inl (g.2.1, 6, .inl cs)), (mo, .inl (g.2.1, 6, .inl ms))] ++ (zLs g cnt aa rr ff zz qq))) H) (hD : va_D (fun q : Nat => s.heap.size ≤ q) (([(ua, .inr (1, [.ref ar, .int (nI cnt)])), (ar, .inl (g.2.2.1, 6, .inr (.inr (.inr (.inr rows))))), (co, .inl (g.2.1, 6, .inl cs)), (mo, .inl (g.2.1, 6, .inl ms))] ++ (zLs g cnt aa rr ff zz qq)))) (hS : va_S (fun q : Nat => s.heap.size ≤ q) s.heap H locs) (hl : lv_has ls 14 [(0, .ref b), (1, .ref ua), (2, .ref co), (3, .ref mo), (4, .int (nI cnt)), (5, .int (nI rv)), (6, .int (nI k)), (8, .int x8), (9, .int (nI w)), (10, .int (nI j)), (11, .int (nI ((zz j).1 - (zz j).2.1)))]) (nx : zNx p l e s m below meth c Q g b ua ar co mo k cN sN 541) : W p l e room_1 s m #[Value.ref b] below meth c H locs c0 s0 Q (F0 m 408 ls []) := by
  obtain ⟨hx, hb, hr, hml, hown, hts0, hXs, hbl, hlocks, hgv⟩ := id C0
  have hown : s.vm.findClass RL = some m.cls := hown
  have hts : ∀ w ∈ wsL_law, w.before #[Value.ref b] s = true := fun w h => hts0 w (wsL_law_in w h)
  have hA : ∀ q : Nat, s.heap.size ≤ q → (fun q : Nat => s.heap.size ≤ q) q := fun _ h => h
  have hbA : ¬ (fun q : Nat => s.heap.size ≤ q) b := Nat.not_le.mpr hbl
  obtain ⟨i1, i2, i3, i4, i5, i6, i7, i8⟩ := id hI
  obtain ⟨t1, t2, t3⟩ := zInv_T (i5 j hj)
  refine lv_iload hx hb dL_law_408 (lv_at hl 8 rfl) ?_
  refine lv_iconst (v := nI 5) hx hb dL_law_410 (by decide) ?_
  refine z_icmp_ne (tgt := 493) hx hb dL_law_411 (by decide) (by omega) (by omega) (fun h1 => ?_) (fun h1 => ?_)
  · exact L_d4 hst hL C0 hK hX (by omega) (by omega) hcR hsR hI hj hw hP hD hS (lv_sub hl [0, 1, 2, 3, 4, 5, 6, 7, 8, 9, 10] rfl) nx
  · refine lv_iload hx hb dL_law_414 (lv_at hl 10 rfl) ?_
    refine lv_iconst (v := nI 1) hx hb dL_law_416 (by decide) ?_
    refine z_icmp_le (tgt := 493) hx hb dL_law_417 (by decide) (by omega) (by omega) (fun h2 => ?_) (fun h2 => ?_)
    · exact L_d4 hst hL C0 hK hX (by omega) (by omega) hcR hsR hI hj hw hP hD hS (lv_sub hl [0, 1, 2, 3, 4, 5, 6, 7, 8, 9, 10] rfl) nx
    · exact L_short hst hL C0 hK hX (by omega) (by omega) hcR hsR hI hj (by omega) hP hD hS (lv_sub hl [0, 1, 2, 3, 4, 5, 6, 7, 9, 10] rfl) nx

set_option maxHeartbeats 4000000 in
set_option maxRecDepth 100000 in
theorem L_d2 {j w : Nat} (hst : l.stackTraces = false) (hL : L ≤ 260) (C0 : lw_At p s m meth c b L xs) (hK : zK g s) (hX : zX (fun q : Nat => s.heap.size ≤ q) s s.heap) (hcN : c0 + 90 ≤ cN) (hsN : s0 + 600 ≤ sN) (hcR : cN ≤ room_1.cells) (hsR : sN ≤ room_1.slots) (hI : zTw cnt rows cs ms aa rr ff zz qq rv) (hj : j < cnt) (hw : w < 8) (hP : va_P g.1 vwCl (([(ua, .inr (1, [.ref ar, .int (nI cnt)])), (ar, .inl (g.2.2.1, 6, .inr (.inr (.inr (.inr rows))))), (co, .inl (g.2.1, 6, .inl cs)), (mo, .inl (g.2.1, 6, .inl ms))] ++ (zLs g cnt aa rr ff zz qq))) H) (hD : va_D (fun q : Nat => s.heap.size ≤ q) (([(ua, .inr (1, [.ref ar, .int (nI cnt)])), (ar, .inl (g.2.2.1, 6, .inr (.inr (.inr (.inr rows))))), (co, .inl (g.2.1, 6, .inl cs)), (mo, .inl (g.2.1, 6, .inl ms))] ++ (zLs g cnt aa rr ff zz qq)))) (hS : va_S (fun q : Nat => s.heap.size ≤ q) s.heap H locs) (hl : lv_has ls 14 [(0, .ref b), (1, .ref ua), (2, .ref co), (3, .ref mo), (4, .int (nI cnt)), (5, .int (nI rv)), (6, .int (nI k)), (8, .int x8), (9, .int (nI w)), (10, .int (nI j)), (11, .int (nI ((zz j).1 - (zz j).2.1)))]) (nx : zNx p l e s m below meth c Q g b ua ar co mo k cN sN 541) : W p l e room_1 s m #[Value.ref b] below meth c H locs c0 s0 Q (F0 m 330 ls []) := by
  obtain ⟨hx, hb, hr, hml, hown, hts0, hXs, hbl, hlocks, hgv⟩ := id C0
  have hown : s.vm.findClass RL = some m.cls := hown
  have hts : ∀ w ∈ wsL_law, w.before #[Value.ref b] s = true := fun w h => hts0 w (wsL_law_in w h)
  have hA : ∀ q : Nat, s.heap.size ≤ q → (fun q : Nat => s.heap.size ≤ q) q := fun _ h => h
  have hbA : ¬ (fun q : Nat => s.heap.size ≤ q) b := Nat.not_le.mpr hbl
  obtain ⟨i1, i2, i3, i4, i5, i6, i7, i8⟩ := id hI
  obtain ⟨t1, t2, t3⟩ := zInv_T (i5 j hj)
  refine lv_iload hx hb dL_law_330 (lv_at hl 8 rfl) ?_
  refine lv_iconst (v := nI 4) hx hb dL_law_332 (by decide) ?_
  refine z_icmp_ne (tgt := 408) hx hb dL_law_333 (by decide) (by omega) (by omega) (fun h1 => ?_) (fun h1 => ?_)
  · exact L_d3 hst hL C0 hK hX (by omega) (by omega) hcR hsR hI hj hw hP hD hS (lv_sub hl [0, 1, 2, 3, 4, 5, 6, 7, 8, 9, 10] rfl) nx
  · refine lv_iload hx hb dL_law_336 (lv_at hl 10 rfl) ?_
    refine z_if_le (tgt := 408) hx hb dL_law_338 (by decide) (by omega) (fun h2 => ?_) (fun h2 => ?_)
    · exact L_d3 hst hL C0 hK hX (by omega) (by omega) hcR hsR hI hj hw hP hD hS (lv_sub hl [0, 1, 2, 3, 4, 5, 6, 7, 8, 9, 10] rfl) nx
    · refine lv_aload_n hx hb dL_law_341 rfl (lv_at hl 3 rfl) ?_
      refine lv_iload hx hb dL_law_342 (lv_at hl 9 rfl) ?_
      refine z_iald hx hb hK hP 3 0 rfl rfl (by omega) (by decide) dL_law_344 ?_
      refine zi (y := nI ((zz j).1)) (i8 j hj) ?_
      refine lv_bipush (v := nI 110) hx hb dL_law_345 (by decide) ?_
      refine z_icmp_ge (tgt := 408) hx hb dL_law_347 (by decide) (by omega) (by omega) (fun h3 => ?_) (fun h3 => ?_)
      · exact L_d3 hst hL C0 hK hX (by omega) (by omega) hcR hsR hI hj hw hP hD hS (lv_sub hl [0, 1, 2, 3, 4, 5, 6, 7, 8, 9, 10] rfl) nx
      · exact L_len hst hL C0 hK hX (by omega) (by omega) hcR hsR hI hj (by omega) h3 hP hD hS (lv_sub hl [0, 1, 2, 3, 4, 5, 6, 7, 9, 10] rfl) nx

set_option maxHeartbeats 4000000 in
set_option maxRecDepth 100000 in
theorem L_d1 {j w : Nat} (hst : l.stackTraces = false) (hL : L ≤ 260) (C0 : lw_At p s m meth c b L xs) (hK : zK g s) (hX : zX (fun q : Nat => s.heap.size ≤ q) s s.heap) (hcN : c0 + 90 ≤ cN) (hsN : s0 + 600 ≤ sN) (hcR : cN ≤ room_1.cells) (hsR : sN ≤ room_1.slots) (hI : zTw cnt rows cs ms aa rr ff zz qq rv) (hj : j < cnt) (hw : w < 8) (hP : va_P g.1 vwCl (([(ua, .inr (1, [.ref ar, .int (nI cnt)])), (ar, .inl (g.2.2.1, 6, .inr (.inr (.inr (.inr rows))))), (co, .inl (g.2.1, 6, .inl cs)), (mo, .inl (g.2.1, 6, .inl ms))] ++ (zLs g cnt aa rr ff zz qq))) H) (hD : va_D (fun q : Nat => s.heap.size ≤ q) (([(ua, .inr (1, [.ref ar, .int (nI cnt)])), (ar, .inl (g.2.2.1, 6, .inr (.inr (.inr (.inr rows))))), (co, .inl (g.2.1, 6, .inl cs)), (mo, .inl (g.2.1, 6, .inl ms))] ++ (zLs g cnt aa rr ff zz qq)))) (hS : va_S (fun q : Nat => s.heap.size ≤ q) s.heap H locs) (hl : lv_has ls 14 [(0, .ref b), (1, .ref ua), (2, .ref co), (3, .ref mo), (4, .int (nI cnt)), (5, .int (nI rv)), (6, .int (nI k)), (8, .int x8), (9, .int (nI w)), (10, .int (nI j)), (11, .int (nI ((zz j).1 - (zz j).2.1)))]) (nx : zNx p l e s m below meth c Q g b ua ar co mo k cN sN 541) : W p l e room_1 s m #[Value.ref b] below meth c H locs c0 s0 Q (F0 m 228 ls []) := by
  obtain ⟨hx, hb, hr, hml, hown, hts0, hXs, hbl, hlocks, hgv⟩ := id C0
  have hown : s.vm.findClass RL = some m.cls := hown
  have hts : ∀ w ∈ wsL_law, w.before #[Value.ref b] s = true := fun w h => hts0 w (wsL_law_in w h)
  have hA : ∀ q : Nat, s.heap.size ≤ q → (fun q : Nat => s.heap.size ≤ q) q := fun _ h => h
  have hbA : ¬ (fun q : Nat => s.heap.size ≤ q) b := Nat.not_le.mpr hbl
  obtain ⟨i1, i2, i3, i4, i5, i6, i7, i8⟩ := id hI
  obtain ⟨t1, t2, t3⟩ := zInv_T (i5 j hj)
  refine lv_iload hx hb dL_law_228 (lv_at hl 8 rfl) ?_
  refine lv_iconst (v := nI 3) hx hb dL_law_230 (by decide) ?_
  refine z_icmp_ge (tgt := 282) hx hb dL_law_231 (by decide) (by omega) (by omega) (fun h1 => ?_) (fun h1 => ?_)
  · refine lv_iload hx hb dL_law_282 (lv_at hl 8 rfl) ?_
    refine lv_iconst (v := nI 3) hx hb dL_law_284 (by decide) ?_
    refine z_icmp_ne (tgt := 330) hx hb dL_law_285 (by decide) (by omega) (by omega) (fun h2 => ?_) (fun h2 => ?_)
    · exact L_d2 hst hL C0 hK hX (by omega) (by omega) hcR hsR hI hj hw hP hD hS (lv_sub hl [0, 1, 2, 3, 4, 5, 6, 7, 8, 9, 10] rfl) nx
    · refine lv_iload hx hb dL_law_288 (lv_at hl 10 rfl) ?_
      refine z_if_le (tgt := 330) hx hb dL_law_290 (by decide) (by omega) (fun h3 => ?_) (fun h3 => ?_)
      · exact L_d2 hst hL C0 hK hX (by omega) (by omega) hcR hsR hI hj hw hP hD hS (lv_sub hl [0, 1, 2, 3, 4, 5, 6, 7, 8, 9, 10] rfl) nx
      · refine lv_iload hx hb dL_law_293 (lv_at hl 5 rfl) ?_
        refine lv_bipush (v := nI 8) hx hb dL_law_295 (by decide) ?_
        refine z_icmp_ge (tgt := 330) hx hb dL_law_297 (by decide) (by omega) (by omega) (fun h4 => ?_) (fun h4 => ?_)
        · exact L_d2 hst hL C0 hK hX (by omega) (by omega) hcR hsR hI hj hw hP hD hS (lv_sub hl [0, 1, 2, 3, 4, 5, 6, 7, 8, 9, 10] rfl) nx
        · exact L_review hst hL C0 hK hX (by omega) (by omega) hcR hsR hI hj (by omega) h4 hP hD hS (lv_sub hl [0, 1, 2, 3, 4, 5, 6, 7, 9, 10] rfl) nx
  · exact L_pass hst hL C0 hK hX (by omega) (by omega) hcR hsR hI hj hP hD hS (lv_sub hl [0, 1, 2, 3, 4, 5, 6, 7, 9, 10] rfl) nx

set_option maxHeartbeats 4000000 in
set_option maxRecDepth 100000 in
theorem L_step  (hst : l.stackTraces = false) (hL : L ≤ 260) (C0 : lw_At p s m meth c b L xs) (hK : zK g s) (hX : zX (fun q : Nat => s.heap.size ≤ q) s s.heap) (hcN : c0 + 100 ≤ cN) (hsN : s0 + 700 ≤ sN) (hcR : cN ≤ room_1.cells) (hsR : sN ≤ room_1.slots) (hI : zTw cnt rows cs ms aa rr ff zz qq rv) (hk : k < 40) (hP : va_P g.1 vwCl (([(ua, .inr (1, [.ref ar, .int (nI cnt)])), (ar, .inl (g.2.2.1, 6, .inr (.inr (.inr (.inr rows))))), (co, .inl (g.2.1, 6, .inl cs)), (mo, .inl (g.2.1, 6, .inl ms))] ++ (zLs g cnt aa rr ff zz qq))) H) (hD : va_D (fun q : Nat => s.heap.size ≤ q) (([(ua, .inr (1, [.ref ar, .int (nI cnt)])), (ar, .inl (g.2.2.1, 6, .inr (.inr (.inr (.inr rows))))), (co, .inl (g.2.1, 6, .inl cs)), (mo, .inl (g.2.1, 6, .inl ms))] ++ (zLs g cnt aa rr ff zz qq)))) (hS : va_S (fun q : Nat => s.heap.size ≤ q) s.heap H locs) (hl : lv_has ls 14 [(0, .ref b), (1, .ref ua), (2, .ref co), (3, .ref mo), (4, .int (nI cnt)), (5, .int (nI rv)), (6, .int (nI k))]) (nx : zNx p l e s m below meth c Q g b ua ar co mo k cN sN 541) : W p l e room_1 s m #[Value.ref b] below meth c H locs c0 s0 Q (F0 m 34 ls []) := by
  obtain ⟨hx, hb, hr, hml, hown, hts0, hXs, hbl, hlocks, hgv⟩ := id C0
  have hown : s.vm.findClass RL = some m.cls := hown
  have hts : ∀ w ∈ wsL_law, w.before #[Value.ref b] s = true := fun w h => hts0 w (wsL_law_in w h)
  have hA : ∀ q : Nat, s.heap.size ≤ q → (fun q : Nat => s.heap.size ≤ q) q := fun _ h => h
  have hbA : ¬ (fun q : Nat => s.heap.size ≤ q) b := Nat.not_le.mpr hbl
  obtain ⟨i1, i2, i3, i4, i5, i6, i7, i8⟩ := id hI
  refine lv_aload_n hx hb dL_law_34 rfl (lv_at hl 0 rfl) ?_
  refine lv_iconst (v := nI 2) hx hb dL_law_35 (by decide) ?_
  refine lv_iload hx hb dL_law_36 (lv_at hl 6 rfl) ?_
  refine z_imul hx hb dL_law_38 ?_
  refine z_ai (wa := []) (wc := []) (wb := ([(ua, .inr (1, [.ref ar, .int (nI cnt)])), (ar, .inl (g.2.2.1, 6, .inr (.inr (.inr (.inr rows))))), (co, .inl (g.2.1, 6, .inl cs)), (mo, .inl (g.2.1, 6, .inl ms))] ++ (zLs g cnt aa rr ff zz qq))) (va_runS (As := [.ref b, .int (nI (2 * k))]) (rest := []) ⟨hx, hb, hml, hown, hts⟩ (c_cell l g b L xs (2 * k) (by omega) (by omega) H.size _ rfl) (va_cwS 2 hts gL_law_L_cell rfl rfl rfl (by decide +kernel) ⟨Nat.le_of_ble_eq_true rfl, Nat.le_of_ble_eq_true rfl⟩) (zpreC hK hXs hbl hbA hS) rfl rfl hl.1 rfl (lv_room (Nat.le_of_ble_eq_true rfl)) dL_law_39 ⟨by omega, by omega⟩) hP hD hS hA (fun x7 w1 H locs hq hP hD hS => ?_)
  obtain rfl := hq
  have hP : va_P g.1 vwCl (([(ua, .inr (1, [.ref ar, .int (nI cnt)])), (ar, .inl (g.2.2.1, 6, .inr (.inr (.inr (.inr rows))))), (co, .inl (g.2.1, 6, .inl cs)), (mo, .inl (g.2.1, 6, .inl ms))] ++ (zLs g cnt aa rr ff zz qq))) H := hP
  have hD : va_D (fun q : Nat => s.heap.size ≤ q) (([(ua, .inr (1, [.ref ar, .int (nI cnt)])), (ar, .inl (g.2.2.1, 6, .inr (.inr (.inr (.inr rows))))), (co, .inl (g.2.1, 6, .inl cs)), (mo, .inl (g.2.1, 6, .inl ms))] ++ (zLs g cnt aa rr ff zz qq))) := hD
  refine lv_istore (lv' := [(7, .int x7), (0, .ref b), (1, .ref ua), (2, .ref co), (3, .ref mo), (4, .int (nI cnt)), (5, .int (nI rv)), (6, .int (nI k))]) hx hb dL_law_42 hl (by decide) rfl (fun ls hl => ?_)
  refine lv_aload_n hx hb dL_law_44 rfl (lv_at hl 1 rfl) ?_
  refine lv_iconst (v := nI 2) hx hb dL_law_45 (by decide) ?_
  refine lv_iload hx hb dL_law_46 (lv_at hl 7 rfl) ?_
  refine z_imul hx hb dL_law_48 ?_
  refine lv_iconst (v := nI 1) hx hb dL_law_49 (by decide) ?_
  refine z_iadd hx hb dL_law_50 ?_
  refine z_ai (wa := []) (wc := []) (wb := ([(ua, .inr (1, [.ref ar, .int (nI cnt)])), (ar, .inl (g.2.2.1, 6, .inr (.inr (.inr (.inr rows))))), (co, .inl (g.2.1, 6, .inl cs)), (mo, .inl (g.2.1, 6, .inl ms))] ++ (zLs g cnt aa rr ff zz qq))) (va_runS (As := [.ref b, .int (nI (2 * k + 1))]) (rest := []) ⟨hx, hb, hml, hown, hts⟩ (c_cell l g b L xs (2 * k + 1) (by omega) (by omega) H.size _ rfl) (va_cwS 2 hts gL_law_L_cell rfl rfl rfl (by decide +kernel) ⟨Nat.le_of_ble_eq_true rfl, Nat.le_of_ble_eq_true rfl⟩) (zpreC hK hXs hbl hbA hS) rfl rfl hl.1 rfl (lv_room (Nat.le_of_ble_eq_true rfl)) dL_law_51 ⟨by omega, by omega⟩) hP hD hS hA (fun x8 w1 H locs hq hP hD hS => ?_)
  obtain rfl := hq
  have hP : va_P g.1 vwCl (([(ua, .inr (1, [.ref ar, .int (nI cnt)])), (ar, .inl (g.2.2.1, 6, .inr (.inr (.inr (.inr rows))))), (co, .inl (g.2.1, 6, .inl cs)), (mo, .inl (g.2.1, 6, .inl ms))] ++ (zLs g cnt aa rr ff zz qq))) H := hP
  have hD : va_D (fun q : Nat => s.heap.size ≤ q) (([(ua, .inr (1, [.ref ar, .int (nI cnt)])), (ar, .inl (g.2.2.1, 6, .inr (.inr (.inr (.inr rows))))), (co, .inl (g.2.1, 6, .inl cs)), (mo, .inl (g.2.1, 6, .inl ms))] ++ (zLs g cnt aa rr ff zz qq))) := hD
  refine lv_istore (lv' := [(8, .int x8), (7, .int x7), (0, .ref b), (1, .ref ua), (2, .ref co), (3, .ref mo), (4, .int (nI cnt)), (5, .int (nI rv)), (6, .int (nI k))]) hx hb dL_law_54 hl (by decide) rfl (fun ls hl => ?_)
  refine lv_iload hx hb dL_law_56 (lv_at hl 1 rfl) ?_
  refine lv_bipush (v := nI 8) hx hb dL_law_58 (by decide) ?_
  refine z_ai (wa := []) (wc := []) (wb := ([(ua, .inr (1, [.ref ar, .int (nI cnt)])), (ar, .inl (g.2.2.1, 6, .inr (.inr (.inr (.inr rows))))), (co, .inl (g.2.1, 6, .inl cs)), (mo, .inl (g.2.1, 6, .inl ms))] ++ (zLs g cnt aa rr ff zz qq))) (va_runS (As := [.int x7, .int (nI 8)]) (rest := []) ⟨hx, hb, hml, hown, hts⟩ (c_low l g x7 8 (by decide) (by decide) H.size _ rfl) (va_cwS 2 hts gL_law_L_low rfl rfl rfl (by decide +kernel) ⟨Nat.le_of_ble_eq_true rfl, Nat.le_of_ble_eq_true rfl⟩) (zpreS (wa := []) (wc := []) (wb := ([(ua, .inr (1, [.ref ar, .int (nI cnt)])), (ar, .inl (g.2.2.1, 6, .inr (.inr (.inr (.inr rows))))), (co, .inl (g.2.1, 6, .inl cs)), (mo, .inl (g.2.1, 6, .inl ms))] ++ (zLs g cnt aa rr ff zz qq))) hK hP hD) rfl rfl hl.1 rfl (lv_room (Nat.le_of_ble_eq_true rfl)) dL_law_60 ⟨by omega, by omega⟩) hP hD hS hA (fun r9 w1 H locs hq hP hD hS => ?_)
  obtain ⟨⟨w, hw, rfl⟩, rfl⟩ := hq
  have hP : va_P g.1 vwCl (([(ua, .inr (1, [.ref ar, .int (nI cnt)])), (ar, .inl (g.2.2.1, 6, .inr (.inr (.inr (.inr rows))))), (co, .inl (g.2.1, 6, .inl cs)), (mo, .inl (g.2.1, 6, .inl ms))] ++ (zLs g cnt aa rr ff zz qq))) H := hP
  have hD : va_D (fun q : Nat => s.heap.size ≤ q) (([(ua, .inr (1, [.ref ar, .int (nI cnt)])), (ar, .inl (g.2.2.1, 6, .inr (.inr (.inr (.inr rows))))), (co, .inl (g.2.1, 6, .inl cs)), (mo, .inl (g.2.1, 6, .inl ms))] ++ (zLs g cnt aa rr ff zz qq))) := hD
  refine lv_istore (lv' := [(9, .int (nI w)), (8, .int x8), (7, .int x7), (0, .ref b), (1, .ref ua), (2, .ref co), (3, .ref mo), (4, .int (nI cnt)), (5, .int (nI rv)), (6, .int (nI k))]) hx hb dL_law_63 hl (by decide) rfl (fun ls hl => ?_)
  refine lv_iload hx hb dL_law_65 (lv_at hl 7 rfl) ?_
  refine z_if_ne (tgt := 74) hx hb dL_law_67 (by decide) (by omega) (fun h0 => ?_) (fun h0 => ?_)
  · refine lv_iload hx hb dL_law_74 (lv_at hl 2 rfl) ?_
    refine lv_iconst (v := nI 4) hx hb dL_law_76 (by decide) ?_
    refine lv_ishr hx hb dL_law_77 ?_
    refine lv_topi (fun y1 _ => ?_)
    refine lv_iload hx hb dL_law_78 (lv_at hl 7 rfl) ?_
    refine z_ai (wa := []) (wc := []) (wb := ([(ua, .inr (1, [.ref ar, .int (nI cnt)])), (ar, .inl (g.2.2.1, 6, .inr (.inr (.inr (.inr rows))))), (co, .inl (g.2.1, 6, .inl cs)), (mo, .inl (g.2.1, 6, .inl ms))] ++ (zLs g cnt aa rr ff zz qq))) (va_runS (As := [.int y1, .int (nI cnt)]) (rest := []) ⟨hx, hb, hml, hown, hts⟩ (c_low l g y1 cnt (by omega) (by omega) H.size _ rfl) (va_cwS 2 hts gL_law_L_low rfl rfl rfl (by decide +kernel) ⟨Nat.le_of_ble_eq_true rfl, Nat.le_of_ble_eq_true rfl⟩) (zpreS (wa := []) (wc := []) (wb := ([(ua, .inr (1, [.ref ar, .int (nI cnt)])), (ar, .inl (g.2.2.1, 6, .inr (.inr (.inr (.inr rows))))), (co, .inl (g.2.1, 6, .inl cs)), (mo, .inl (g.2.1, 6, .inl ms))] ++ (zLs g cnt aa rr ff zz qq))) hK hP hD) rfl rfl hl.1 rfl (lv_room (Nat.le_of_ble_eq_true rfl)) dL_law_80 ⟨by omega, by omega⟩) hP hD hS hA (fun r9 w1 H locs hq hP hD hS => ?_)
    obtain ⟨⟨j, hj, rfl⟩, rfl⟩ := hq
    have hP : va_P g.1 vwCl (([(ua, .inr (1, [.ref ar, .int (nI cnt)])), (ar, .inl (g.2.2.1, 6, .inr (.inr (.inr (.inr rows))))), (co, .inl (g.2.1, 6, .inl cs)), (mo, .inl (g.2.1, 6, .inl ms))] ++ (zLs g cnt aa rr ff zz qq))) H := hP
    have hD : va_D (fun q : Nat => s.heap.size ≤ q) (([(ua, .inr (1, [.ref ar, .int (nI cnt)])), (ar, .inl (g.2.2.1, 6, .inr (.inr (.inr (.inr rows))))), (co, .inl (g.2.1, 6, .inl cs)), (mo, .inl (g.2.1, 6, .inl ms))] ++ (zLs g cnt aa rr ff zz qq))) := hD
    refine lv_istore (lv' := [(10, .int (nI j)), (9, .int (nI w)), (8, .int x8), (7, .int x7), (0, .ref b), (1, .ref ua), (2, .ref co), (3, .ref mo), (4, .int (nI cnt)), (5, .int (nI rv)), (6, .int (nI k))]) hx hb dL_law_83 hl (by decide) rfl (fun ls hl => ?_)
    refine lv_iload hx hb dL_law_85 (lv_at hl 8 rfl) ?_
    refine z_if_ne (tgt := 94) hx hb dL_law_87 (by decide) (by omega) (fun h1 => ?_) (fun h1 => ?_)
    · obtain ⟨t1, t2, t3⟩ := zInv_T (i5 j hj)
      refine lv_aload_n hx hb dL_law_94 rfl (lv_at hl 5 rfl) ?_
      refine lv_iload hx hb dL_law_95 (lv_at hl 0 rfl) ?_
      refine z_ai0 (wc := ([(ua, .inr (1, [.ref ar, .int (nI cnt)])), (ar, .inl (g.2.2.1, 6, .inr (.inr (.inr (.inr rows))))), (co, .inl (g.2.1, 6, .inl cs)), (mo, .inl (g.2.1, 6, .inl ms))] ++ (zLs g cnt aa rr ff zz qq))) (va_runV (As := [.int (nI j)]) (rest := []) ⟨hx, hb, hml, hown, hts⟩ (K_toCome l hst g ua ar co mo cnt rows cs ms aa rr ff zz qq j hj hI H.size _ rfl) (cwV 1 hts gL_law_X1_toCome rfl rfl rfl (by decide +kernel) ⟨Nat.le_of_ble_eq_true rfl, Nat.le_of_ble_eq_true rfl⟩) (zpreXV0 (wc := ([(ua, .inr (1, [.ref ar, .int (nI cnt)])), (ar, .inl (g.2.2.1, 6, .inr (.inr (.inr (.inr rows))))), (co, .inl (g.2.1, 6, .inl cs)), (mo, .inl (g.2.1, 6, .inl ms))] ++ (zLs g cnt aa rr ff zz qq))) (q0 := 0) (ci := 1) (T := TX1) (N := 2) hK hP hD hS hA hX rfl rfl) rfl rfl hl.1 rfl (lv_room (Nat.le_of_ble_eq_true rfl)) dL_law_97 ⟨by omega, by omega⟩) hP hD hS hA (fun r9 w1 H locs hq hP hD hS => ?_)
      obtain ⟨rfl, rfl⟩ := hq
      have hP : va_P g.1 vwCl (([(ua, .inr (1, [.ref ar, .int (nI cnt)])), (ar, .inl (g.2.2.1, 6, .inr (.inr (.inr (.inr rows))))), (co, .inl (g.2.1, 6, .inl cs)), (mo, .inl (g.2.1, 6, .inl ms))] ++ (zLs g cnt aa rr ff zz qq))) H := hP
      have hD : va_D (fun q : Nat => s.heap.size ≤ q) (([(ua, .inr (1, [.ref ar, .int (nI cnt)])), (ar, .inl (g.2.2.1, 6, .inr (.inr (.inr (.inr rows))))), (co, .inl (g.2.1, 6, .inl cs)), (mo, .inl (g.2.1, 6, .inl ms))] ++ (zLs g cnt aa rr ff zz qq))) := hD
      refine lv_istore (lv' := [(11, .int (nI ((zz j).1 - (zz j).2.1))), (10, .int (nI j)), (9, .int (nI w)), (8, .int x8), (7, .int x7), (0, .ref b), (1, .ref ua), (2, .ref co), (3, .ref mo), (4, .int (nI cnt)), (5, .int (nI rv)), (6, .int (nI k))]) hx hb dL_law_100 hl (by decide) rfl (fun ls hl => ?_)
      refine lv_iload hx hb dL_law_102 (lv_at hl 9 rfl) ?_
      refine z_if_eq (tgt := 119) hx hb dL_law_104 (by decide) (by omega) (fun h2 => ?_) (fun h2 => ?_)
      · exact absurd h2 h0
      · refine lv_iload hx hb dL_law_107 (lv_at hl 2 rfl) ?_
        refine z_if_ne (tgt := 228) hx hb dL_law_109 (by decide) (by omega) (fun h3 => ?_) (fun h3 => ?_)
        · exact L_d1 hst hL C0 hK hX (by omega) (by omega) hcR hsR hI hj hw hP hD hS (lv_sub hl [5, 6, 7, 8, 9, 10, 11, 3, 2, 1, 0] rfl) nx
        · refine lv_iload hx hb dL_law_112 (lv_at hl 9 rfl) ?_
          refine lv_bipush (v := nI 6) hx hb dL_law_114 (by decide) ?_
          refine z_icmp_ge (tgt := 228) hx hb dL_law_116 (by decide) (by omega) (by omega) (fun h6 => ?_) (fun h6 => ?_)
          · exact L_d1 hst hL C0 hK hX (by omega) (by omega) hcR hsR hI hj hw hP hD hS (lv_sub hl [5, 6, 7, 8, 9, 10, 11, 3, 2, 1, 0] rfl) nx
          · exact L_add hst hL C0 hK hX (by omega) (by omega) hcR hsR hI h6 hP hD hS (lv_sub hl [5, 6, 7, 8, 9, 10, 11, 4, 3] rfl) nx
    · exact absurd h1 h0
  · refine lv_iconst (v := nI 0) hx hb dL_law_70 (by decide) ?_
    refine lv_goto (tgt := 83) hx hb dL_law_71 (by decide) ?_
    refine lv_istore (lv' := [(10, .int (nI 0)), (9, .int (nI w)), (8, .int x8), (7, .int x7), (0, .ref b), (1, .ref ua), (2, .ref co), (3, .ref mo), (4, .int (nI cnt)), (5, .int (nI rv)), (6, .int (nI k))]) hx hb dL_law_83 hl (by decide) rfl (fun ls hl => ?_)
    refine lv_iload hx hb dL_law_85 (lv_at hl 8 rfl) ?_
    refine z_if_ne (tgt := 94) hx hb dL_law_87 (by decide) (by omega) (fun h1 => ?_) (fun h1 => ?_)
    · exact absurd h0 h1
    · refine lv_iconst (v := nI 0) hx hb dL_law_90 (by decide) ?_
      refine lv_goto (tgt := 100) hx hb dL_law_91 (by decide) ?_
      refine lv_istore (lv' := [(11, .int (nI 0)), (10, .int (nI 0)), (9, .int (nI w)), (8, .int x8), (7, .int x7), (0, .ref b), (1, .ref ua), (2, .ref co), (3, .ref mo), (4, .int (nI cnt)), (5, .int (nI rv)), (6, .int (nI k))]) hx hb dL_law_100 hl (by decide) rfl (fun ls hl => ?_)
      refine lv_iload hx hb dL_law_102 (lv_at hl 9 rfl) ?_
      refine z_if_eq (tgt := 119) hx hb dL_law_104 (by decide) (by omega) (fun h2 => ?_) (fun h2 => ?_)
      · exact L_add hst hL C0 hK hX (by omega) (by omega) hcR hsR hI (by omega) hP hD hS (lv_sub hl [5, 6, 7, 8, 9, 10, 11, 4, 3] rfl) nx
      · exact absurd h0 h2

end ZLW
end
section
/-! p20: the loop -/
set_option maxHeartbeats 4000000 in
set_option maxRecDepth 100000 in
theorem law_loop {p : Program} {l : Launch} {e : Env} {s : State} {m : MethodId} {below : List Frame} {meth : Method} {c : Code} {b L : Nat} {xs : Nat → Int32} {g : zG} {ua ar co mo : Nat} (hst : l.stackTraces = false) (hL : L ≤ 260) (C0 : lw_At p s m meth c b L xs) (hK : zK g s) (hX : zX (fun q : Nat => s.heap.size ≤ q) s s.heap) :
    ∀ (n k cnt rv : Nat) (rows : Nat → Option Nat) (cs ms : Nat → Int32) (aa : Nat → Nat × Nat × Nat) (rr ff : Nat → Nat) (zz : Nat → zS) (qq : Nat → zRaw) (H : Heap) (locs : List Loc) (ls : Array Slot), 40 < k + n → k ≤ 40 → zTw cnt rows cs ms aa rr ff zz qq rv → va_P g.1 vwCl (zPw g ua ar co mo cnt rows cs ms aa rr ff zz qq) H → va_D (fun q : Nat => s.heap.size ≤ q) (zPw g ua ar co mo cnt rows cs ms aa rr ff zz qq) → va_S (fun q : Nat => s.heap.size ≤ q) s.heap H locs → lv_has ls 14 [(0, .ref b), (1, .ref ua), (2, .ref co), (3, .ref mo), (4, .int (nI cnt)), (5, .int (nI rv)), (6, .int (nI k))] → W p l e room_1 s m #[Value.ref b] below meth c H locs (20 + 300 * k) (200 + 3000 * k) (lw_Z below #[Value.ref b] s) (F0 m 27 ls []) := by
  obtain ⟨hx, hb, hr, hml, hown, hts0, hXs, hbl, hlocks, hgv⟩ := id C0
  have rc : room_1.cells = 600064 := rfl
  have rs : room_1.slots = 7301640 := rfl
  intro n
  induction n with
  | zero =>
    intro k cnt rv rows cs ms aa rr ff zz qq H locs ls h1 h2
    exfalso; omega
  | succ n ih =>
    intro k cnt rv rows cs ms aa rr ff zz qq H locs ls h1 h2 hI hP hD hS hl
    refine lv_iload hx hb dL_law_27 (lv_at hl 6 rfl) ?_
    refine lv_bipush (v := nI 40) hx hb dL_law_29 (by decide) ?_
    refine z_icmp_ge (tgt := 578) hx hb dL_law_31 (by decide) (by omega) (by omega) (fun hc => ?_) (fun hc => ?_)
    · refine lv_iconst (v := 1) hx hb dL_law_578 (by decide) ?_
      refine va_forget (fun q hq => hS.2.2 q hq) ?_
      refine W.widen (k := 600064) (n := 7301640) (by omega) (by omega) ?_
      exact lw_ret hx hb hr hlocks dL_law_579
    · refine L_step (cN := 20 + 300 * k + 150) (sN := 200 + 3000 * k + 1500) hst hL C0 hK hX (by omega) (by omega) (by omega) (by omega) hI hc hP hD hS hl ?_
      intro cnt rv rows cs ms aa rr ff zz qq H locs ls hI hP hD hS hl
      refine L_check (cN := 20 + 300 * (k + 1)) (sN := 200 + 3000 * (k + 1)) hst hL C0 hK hX (by omega) (by omega) (by omega) (by omega) hI hP hD hS hl ?_
      intro cnt rv rows cs ms aa rr ff zz qq H locs ls hI hP hD hS hl
      exact ih (k + 1) cnt rv rows cs ms aa rr ff zz qq H locs ls (by omega) (by omega) hI hP hD hS hl
end
section
/-! p20: the law from its entry -/
theorem z_arr {s : State} {args : Array Value} {ty : FieldType} (hty : ∀ C, ty ≠ .object C) (h : (Cond.arrayClass ty).before args s = true) : ∃ cA : ClassId, ArrOfT s cA ty ∧ va_RA s cA ty := by
  obtain ⟨cA, k, comp, h1, h2, h3⟩ := Cond.arrayClass_spec (args := args) (first := s) (o := none) (s := s) (idx := []) h
  refine ⟨cA, fun n z => ⟨(fun q hq => by cases hq), k, h2, comp, h3⟩, ?_⟩
  cases ty <;> first | exact absurd rfl (hty _) | exact h1
theorem z_arrQ {s : State} {args : Array Value} {C : String} (h : (Cond.arrayOver (.object C)).before args s = true) : ∃ cA : ClassId, ArrOfT s cA (.object C) ∧ va_RA s cA (.object C) := by
  obtain ⟨comp, cA, k, h1, -, h2, h3, h4⟩ := Cond.arrayOver_spec (args := args) (first := s) (o := none) (s := s) (idx := []) h
  exact ⟨cA, fun n z => ⟨(fun q hq => by cases hq), k, h2, comp, h3⟩, k, comp, h2, h3, h1, h4⟩
theorem z_str {s : State} {args : Array Value} {k : Nat} {tx : String} (h1 : (Cond.stringRef "Usewise" k tx).before args s = true) (h2 : (Cond.exactly (.string "Usewise" k) "java/lang/String").before args s = true) : ∃ a : Nat, vk_R "Usewise" k tx a s := by
  obtain ⟨a, ca, cell, ka, ha, -⟩ := Cond.exactly_spec (args := args) (first := s) (o := none) (s := s) (idx := []) h2
  exact ⟨a, vk_R.of h1 ha⟩
theorem zNW_in : ∀ w ∈ zNW, w ∈ lw_tbl := by decide +kernel
theorem zSR_in : ∀ q ∈ zSR, Cond.stringRef "Usewise" q.1 q.2 ∈ lw_tbl := by decide +kernel
theorem zSR_in2 : ∀ q ∈ zSR, Cond.exactly (.string "Usewise" q.1) "java/lang/String" ∈ flatC (Jvm.Cond.and given_1 narrow_1) := by decide +kernel
theorem z_start {s : State} {args : Array Value} (hts : ∀ w ∈ lw_tbl, w.before args s = true) (hgv : (Jvm.Cond.and given_1 narrow_1).before args s = true) : ∃ g : zG, zK g s ∧ zX (fun q : Nat => s.heap.size ≤ q) s s.heap := by
  have hg := flat_of_before _ hgv
  obtain ⟨c0, j0, hk0⟩ := u_known (C := RX0) (T := TX0) (N := 11) (n := 11) hts inX0 (hts (.instantiable RX0 11) (by decide +kernel))
  obtain ⟨c1, j1, hk1⟩ := u_known (C := RX1) (T := TX1) (N := 2) (n := 2) hts inX1 (hts (.instantiable RX1 2) (by decide +kernel))
  have hao : (Cond.arrayOver (.object "Usewise$Lease")).before args s = true := hts _ (by decide +kernel)
  obtain ⟨cI, a1, a2⟩ := z_arr (ty := .int) (fun C h => by cases h) (hts (.arrayClass .int) (by decide +kernel))
  obtain ⟨cL, a5, a6⟩ := z_arrQ hao
  refine ⟨((fun k => if k = 0 then c0 else c1, fun k => if k = 0 then j0 else j1), cI, cL, cI), ⟨?_, ?_⟩, ?_, ?_, ?_, ?_, ?_, ?_⟩
  · intro k q hq
    match k, hq with
    | 0, hq => cases hq; exact hk0
    | 1, hq => cases hq; exact hk1
    | k + 2, hq => simp [vwCl] at hq
  · intro k q hq
    match k, hq with
    | 0, hq => cases hq; exact ⟨a1, a2⟩
    | 1, hq => cases hq; exact ⟨a5, a6⟩
    | 2, hq => cases hq; exact ⟨a1, a2⟩
    | k + 3, hq => simp [zT] at hq
  · exact vx_Zqof (args := args) (hts (.laysStatic Bundle.tN "UNASSIGNED_STACK" Bundle.steD) (by decide +kernel)) (hts (.initialized Bundle.tN) (by decide +kernel)) (hg (.isRef (.static Bundle.tN "UNASSIGNED_STACK" Bundle.steD)) (by decide +kernel)) (fun a h => Nat.not_le.mpr h)
  · exact vx_Zqof (args := args) (hts (.laysStatic Bundle.tN "SUPPRESSED_SENTINEL" Bundle.listD) (by decide +kernel)) (hts (.initialized Bundle.tN) (by decide +kernel)) (hg (.isRef (.static Bundle.tN "SUPPRESSED_SENTINEL" Bundle.listD)) (by decide +kernel)) (fun a h => Nat.not_le.mpr h)
  · exact fun w hw => va_Nw.of (zNW_t w hw) (hts w (zNW_in w hw))
  · exact fun q hq => z_str (hts _ (zSR_in q hq)) (hg _ (zSR_in2 q hq))
  · exact va_AO.of hao
  · exact fun q hq => absurd hq List.not_mem_nil

set_option maxHeartbeats 4000000 in
set_option maxRecDepth 100000 in
/-- YOUR PART: from the entry, for every script of at most 260 ints, the law comes to its end with true -/
theorem whole_start {p : Program} {e : Env} {s : State} {m : MethodId} {below : List Frame} {meth : Method} {c : Code} (l : Launch) (hflags : l.flags = flags0) {b L : Nat} {xs : Nat → Int32} (hL : L ≤ 260) (C0 : lw_At p s m meth c b L xs) : W p l e room_1 s m #[Value.ref b] below meth c s.heap [] 0 0 (lw_Z below #[Value.ref b] s) (entryFrame m ([Value.ref b] : List Value).toArray 14) := by
  have hst : l.stackTraces = false := by unfold Launch.stackTraces; rw [hflags]; decide
  obtain ⟨hx, hb, hr, hml, hown, hts0, hXs, hbl, hlocks, hgv⟩ := id C0
  have hown : s.vm.findClass RL = some m.cls := hown
  have hts : ∀ w ∈ wsL_law, w.before #[Value.ref b] s = true := fun w h => hts0 w (wsL_law_in w h)
  have hA : ∀ q : Nat, s.heap.size ≤ q → (fun q : Nat => s.heap.size ≤ q) q := fun _ h => h
  obtain ⟨g, hK, hX⟩ := z_start hts0 hgv
  have hS : va_S (fun q : Nat => s.heap.size ≤ q) s.heap s.heap [] := va_S.rf
  have hP : va_P g.1 vwCl [] s.heap := fun k q h => by simp at h
  have hD : va_D (fun q : Nat => s.heap.size ≤ q) [] := ⟨fun i j p q h => by simp at h, fun k q h => by simp at h⟩
  have hl := lv_entry ([.ref b]) (n := 14) (Nat.le_of_ble_eq_true rfl)
  rw [lg_entry_eq]
  generalize (lg_sl ([.ref b]) ++ List.replicate (14 - (lg_sl ([.ref b])).length) Slot.unset).toArray = ls at hl ⊢
  have hl : lv_has ls 14 [(0, .ref b)] := hl
  refine va_new (ci := 1) (fs := [.null, .int (nI 0)]) (C := RX1) (T := TX1) (N := 2) hx hb hts inlX1 tyX1 tyX1_ok hown (hts (.classLink RL 11 RX1) (by decide +kernel)) (hts (.instantiable RX1 2) (by decide +kernel)) (hts (.initialized RX1) (by decide +kernel)) hK hP hD hS hA rfl (fun j hj => by rcases (show j = 0 ∨ j = 1 by omega) with rfl | rfl <;> rfl) (Nat.le_of_ble_eq_true rfl) (Nat.le_of_ble_eq_true rfl) dL_law_0 (fun ua H hP hD hS => ?_)
  have hP : va_P g.1 vwCl ([] ++ [(ua, .inr (1, [.null, .int (nI 0)]))] ++ []) H := hP
  have hD : va_D (fun q : Nat => s.heap.size ≤ q) ([] ++ [(ua, .inr (1, [.null, .int (nI 0)]))] ++ []) := hD
  refine lv_dup hx hb dL_law_3 rfl ?_
  refine z_av (wa := []) (wc := [(ua, .inr (1, [.null, .int (nI 0)]))]) (wb := []) (va_runI (As := []) (rest := [.ref ua]) ⟨hx, hb, hml, hown, hts⟩ (c_UseInit l g ua H.size _ rfl) (cwI 0 hts gL_law_X1_init rfl rfl rfl (hts (.initialized RX1) (by decide +kernel)) (hts (.methodLink RL 37 yX1_init) (by decide +kernel)) (hts (.instanceMethod yX1_init) (by decide +kernel)) rfl (by decide +kernel) ⟨Nat.le_of_ble_eq_true rfl, Nat.le_of_ble_eq_true rfl⟩) (zpreXS (wa := []) (wc := [(ua, .inr (1, [.null, .int (nI 0)]))]) (wb := []) hK hP hD hS hA hX) rfl rfl hl.1 rfl (lv_room (Nat.le_of_ble_eq_true rfl)) dL_law_4 ⟨Nat.le_of_ble_eq_true rfl, Nat.le_of_ble_eq_true rfl⟩) hP hD hS hA (fun w1 H locs hq hP hD hS => ?_)
  obtain ⟨ar, rfl⟩ := hq
  have hP : va_P g.1 vwCl ([(ua, .inr (1, [.ref ar, .int (nI 0)])), (ar, .inl (g.2.2.1, 6, .inr (.inr (.inr (.inr (fun _ => none))))))]) H := hP
  have hD : va_D (fun q : Nat => s.heap.size ≤ q) ([(ua, .inr (1, [.ref ar, .int (nI 0)])), (ar, .inl (g.2.2.1, 6, .inr (.inr (.inr (.inr (fun _ => none))))))]) := hD
  refine lv_astore_n (lv' := [(1, .ref ua), (0, .ref b)]) hx hb dL_law_7 rfl hl (by decide) rfl (fun ls hl => ?_)
  refine lv_bipush (v := nI 6) hx hb dL_law_8 (by decide) ?_
  refine z_newI hx hb (hts (.arrayClass .int) (by decide +kernel)) hK hP hD hS hA (by omega) (Nat.le_of_ble_eq_true rfl) (Nat.le_of_ble_eq_true rfl) dL_law_10 (fun co H hP hD hS => ?_)
  refine lv_astore_n (lv' := [(2, .ref co), (1, .ref ua), (0, .ref b)]) hx hb dL_law_12 rfl hl (by decide) rfl (fun ls hl => ?_)
  refine lv_bipush (v := nI 6) hx hb dL_law_13 (by decide) ?_
  refine z_newI hx hb (hts (.arrayClass .int) (by decide +kernel)) hK hP hD hS hA (by omega) (Nat.le_of_ble_eq_true rfl) (Nat.le_of_ble_eq_true rfl) dL_law_15 (fun mo H hP hD hS => ?_)
  refine lv_astore_n (lv' := [(3, .ref mo), (2, .ref co), (1, .ref ua), (0, .ref b)]) hx hb dL_law_17 rfl hl (by decide) rfl (fun ls hl => ?_)
  refine lv_iconst (v := nI 0) hx hb dL_law_18 (by decide) ?_
  refine lv_istore (lv' := [(4, .int (nI 0)), (3, .ref mo), (2, .ref co), (1, .ref ua), (0, .ref b)]) hx hb dL_law_19 hl (by decide) rfl (fun ls hl => ?_)
  refine lv_iconst (v := nI 0) hx hb dL_law_21 (by decide) ?_
  refine lv_istore (lv' := [(5, .int (nI 0)), (4, .int (nI 0)), (3, .ref mo), (2, .ref co), (1, .ref ua), (0, .ref b)]) hx hb dL_law_22 hl (by decide) rfl (fun ls hl => ?_)
  refine lv_iconst (v := nI 0) hx hb dL_law_24 (by decide) ?_
  refine lv_istore (lv' := [(6, .int (nI 0)), (5, .int (nI 0)), (4, .int (nI 0)), (3, .ref mo), (2, .ref co), (1, .ref ua), (0, .ref b)]) hx hb dL_law_25 hl (by decide) rfl (fun ls hl => ?_)
  have hI : zTw 0 (fun _ => none) (fun _ => 0) (fun _ => 0) (fun _ => (0, 0, 0)) (fun _ => 0) (fun _ => 0) (fun _ => (0, 0, fun _ => 0, 0, 0, 0, 0, 0)) (fun _ => (0, 0, 0, 0, fun _ => 0, fun _ => 0)) 0 := ⟨by decide, by decide, fun k hk => absurd hk (Nat.not_lt_zero k), fun _ _ _ => rfl, fun k hk => absurd hk (Nat.not_lt_zero k), fun k hk => absurd hk (Nat.not_lt_zero k), fun k hk => absurd hk (Nat.not_lt_zero k), fun k hk => absurd hk (Nat.not_lt_zero k)⟩
  have hP : va_P g.1 vwCl (zPw g ua ar co mo 0 (fun _ => none) (fun _ => 0) (fun _ => 0) (fun _ => (0, 0, 0)) (fun _ => 0) (fun _ => 0) (fun _ => (0, 0, fun _ => 0, 0, 0, 0, 0, 0)) (fun _ => (0, 0, 0, 0, fun _ => 0, fun _ => 0))) H := hP
  have hD : va_D (fun q : Nat => s.heap.size ≤ q) (zPw g ua ar co mo 0 (fun _ => none) (fun _ => 0) (fun _ => 0) (fun _ => (0, 0, 0)) (fun _ => 0) (fun _ => 0) (fun _ => (0, 0, fun _ => 0, 0, 0, 0, 0, 0)) (fun _ => (0, 0, 0, 0, fun _ => 0, fun _ => 0))) := hD
  have rc : room_1.cells = 600064 := rfl
  have rs : room_1.slots = 7301640 := rfl
  refine W.widen (k := 20 + 300 * 0) (n := 200 + 3000 * 0) (by omega) (by omega) ?_
  exact law_loop (g := g) (ua := ua) (ar := ar) (co := co) (mo := mo) hst hL C0 hK hX 41 0 0 0 (fun _ => none) (fun _ => 0) (fun _ => 0) (fun _ => (0, 0, 0)) (fun _ => 0) (fun _ => 0) (fun _ => (0, 0, fun _ => 0, 0, 0, 0, 0, 0)) (fun _ => (0, 0, 0, 0, fun _ => 0, fun _ => 0)) H _ ls (by omega) (by omega) hI hP hD hS (lv_sub hl [6, 5, 4, 3, 2, 1, 0] rfl)
end
section
set_option maxHeartbeats 4000000 in
theorem lw_walk (l : Launch) (hflags : l.flags = flags0) (b : Addr) (xs : List Int32) : MetFree l x (headSpec (Jvm.Cond.code x code maxLocals ret :: tables_1) room_1) (lw_P b xs) (fun _ _ _ _ _ => True) lw_Q := by
  refine MetFree.of_bodyS (code := code) (maxLocals := maxLocals) (ret := ret) (by decide) ?_ ?_
  · intro args s m h hn
    obtain ⟨meth, c, h1, h2, h3, h4, h5, h6, -, -⟩ := Cond.code_spec hn (atoms_spec (ws := Jvm.Cond.code x code maxLocals ret :: tables_1) h _ List.mem_cons_self)
    exact ⟨meth, c, h1, h2, h3, h4, h5, h6⟩
  · intro p e s m args below meth c s₁ B hml0 hP _
    obtain ⟨rfl, hx, hbd, hgv⟩ := hP
    obtain ⟨scr, harrAt, hlist, hof, hsmall⟩ := hx
    obtain ⟨hcb, hkn, -, -⟩ := State.arrayAt?_spec harrAt
    have hown : s.vm.findClass R_law = some m.cls := findClass_of_methodNamed B.named
    have hts0 : ∀ c ∈ (Jvm.Cond.code x code maxLocals ret :: tables_1), c.before #[Value.ref b] s = true := atoms_spec (ws := Jvm.Cond.code x code maxLocals ret :: tables_1) B.pre
    have hts : ∀ w ∈ lw_tbl, w.before #[Value.ref b] s = true := k2_hts_sels lw_privs (fun w hw => hts0 w (List.mem_cons_of_mem _ hw)) lw_privs_ok
    have hml : c.maxLocals = 14 := B.maxLocals_eq (hts0 _ List.mem_cons_self)
    have X₀ : Stand p l e room_1 s m #[Value.ref b] below meth c s₁ [] 0 0 := Stand.of_body B
    have hh0 : s₁.heap = s.heap := by rw [B.state]; rfl
    have hsz : scr.slots.size = xs.length := by rw [← Array.length_toList, hlist, List.length_map]
    have hval : ∀ j : Nat, j < xs.length → scr.slots[j]? = some (.int (xs.getD j 0)) := fun j hj => by
      rw [← Array.getElem?_toList, hlist]
      simp [hj]
    have hbl : b < s.heap.size := (Array.getElem?_eq_some_iff.mp hcb).1
    have hX : va_X b xs.length (fun j => xs.getD j 0) s s.heap := ⟨scr, hcb, hof, hkn, hsz, hval⟩
    have K : W p l e room_1 s m #[Value.ref b] below meth c s₁.heap [] 0 0 (lw_Z below #[Value.ref b] s) (entryFrame m ([Value.ref b] : List Value).toArray 14) := by
      rw [hh0]
      exact whole_start l hflags hbd ⟨B.exec, B.bytes, B.returns, hml, hown, hts, hX, hbl, B.notSynchronized, hgv⟩
    obtain ⟨t, a1, o, b1, b2, b3⟩ := K s₁ rfl X₀
    exact ⟨t, o, a1, b1, b2, b3⟩
theorem lw_pre_spec {args : Array Value} {s : State} (h : (Jvm.Cond.and given_1 narrow_1).before args s = true) (hr : rest_1_c.before args s = true) : ∃ (b : Addr) (xs : List Int32), lw_P b xs args s := by
  have hs := flat_of_before _ h
  have hq := flat_of_before _ hr
  have hc : (Cond.count 1).before args s = true := hs _ (by decide +kernel)
  have harr : (Cond.arrayOf (.arg 0) .int).before args s = true := hs _ (by decide +kernel)
  have hle : (Cond.le (.length (.arg 0)) (.int 260)).before args s = true := hs _ (by decide +kernel)
  have hlen : (Cond.isInt (.length (.arg 0))).before args s = true := hq _ (by decide +kernel)
  have hall : (Cond.all (.arg 0) (.isInt (.elem (.arg 0) (.index 0)))).before args s = true := hq _ (by decide +kernel)
  obtain ⟨b, xs, hb, hx⟩ := State.ints_of_pre rfl harr hlen hall
  have hsm : xs.length < 2 ^ 31 := hx.choose_spec.2.2.2
  have hev : (Term.length (.arg 0)).eval args s none [] s = some (.int xs.length.toInt32) := hx.length_eval hb
  have hv := Cond.le_ints hev (show (Term.int 260).eval args s none [] s = some (.int 260) from rfl)
  have hd : xs.length.toInt32 ≤ 260 := by
    simpa [Cond.before, Cond.holds, hv] using hle
  have hN : xs.length ≤ 260 := (Int32.ofNat_le_ofNat hsm (by decide)).mp (show Int32.ofNat xs.length ≤ Int32.ofNat 260 from hd)
  exact ⟨b, xs, Cond.one_arg hc (show args[0]? = some (.ref b) from hb), hx, hN, h⟩
theorem lw_comes (l : Launch) (hflags : l.flags = flags0) : Comes l x (Jvm.Cond.code x code maxLocals ret :: tables_1) room_1 (fun tb e args s => Calls_1 tb e args s ∧ rest_1 tb e args s ∧ Pre_1 tb e args s)
    (fun _ _ args s o t => lw_Q args s o t) := by
  intro p e ha hc hk s m args below hf hfit hheap happ hpre
  obtain ⟨b, xs, hP⟩ := lw_pre_spec hpre.2.2 hpre.2.1
  obtain ⟨k, o, h1, h2, h3, hQ⟩ := lw_walk l hflags b xs p e ha hc hk s m args below hf ((Spec.applies_iff_loose hf).mp happ).1 hP trivial
  exact ⟨k, o, h1, h2, h3, hQ⟩
theorem lw_frame {s t : State} {o : Outcome} {args : Array Value} (h : Framed s o t [] 600064 7301640) :
    Framed s o t (fieldLocs frame_1_writes args s ++ arrayLocs frame_1_arrays args s ++ staticLocs frame_1_statics s) 600064 7301640 := h
theorem lw_limb (L : Cond) (hL : ∀ (args : Array Value) (s t : State), L.after args s (.returned (some (.int 1))) t = true) :
    ArmFor flags0 classFile x code maxLocals ret World_1 tables_1 room_1 Calls_1 rest_1 Pre_1
      (fun tb e a s o t => postC L tb e a s o t ∧ Framed s o t (fieldLocs frame_1_writes a s ++ arrayLocs frame_1_arrays a s ++ staticLocs frame_1_statics s) 600064 7301640) := by
  intro l hflags _ _ p e ha hc hk s m args below hf hfit hheap happ hpre
  obtain ⟨k, o, h1, h2, h3, rfl, hF⟩ := lw_comes l hflags p e ha hc hk s m args below hf hfit hheap happ hpre
  exact ⟨k, _, h1, h2, h3, hL args s _, lw_frame hF⟩
theorem i_vc : Claimed_1_1 ∧ Claimed_1_2 := ⟨lw_limb limb_1_1 (fun args s t => by simp [limb_1_1, Cond.after, Cond.holds, Cond.value]), lw_limb limb_1_2 (fun args s t => Cond.after_iff.mpr (by
  first | (rw [show limb_1_2 = Cond.eq .result (.int 1) from rfl, Cond.eq_ints (x := 1) (y := 1) rfl rfl]; simp; done) | (simp [limb_1_2, Cond.value, Term.eval]; done)))⟩
end
